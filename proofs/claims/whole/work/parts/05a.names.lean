theorem dX0_init_0 : decode cX0_init 0 = .ok (.aload_n 0, 1) := by decide +kernel
theorem dX0_init_1 : decode cX0_init 1 = .ok (.invokespecial 5, 3) := by decide +kernel
theorem dX0_init_4 : decode cX0_init 4 = .ok (.aload_n 0, 1) := by decide +kernel
theorem dX0_init_5 : decode cX0_init 5 = .ok (.iconst 0, 1) := by decide +kernel
theorem dX0_init_6 : decode cX0_init 6 = .ok (.iload_n 1, 1) := by decide +kernel
theorem dX0_init_7 : decode cX0_init 7 = .ok (.invokestatic 11, 3) := by decide +kernel
theorem dX0_init_10 : decode cX0_init 10 = .ok (.putfield 17, 3) := by decide +kernel
theorem dX0_init_13 : decode cX0_init 13 = .ok (.aload_n 0, 1) := by decide +kernel
theorem dX0_init_14 : decode cX0_init 14 = .ok (.aload_n 0, 1) := by decide +kernel
theorem dX0_init_15 : decode cX0_init 15 = .ok (.getfield 17, 3) := by decide +kernel
theorem dX0_init_18 : decode cX0_init 18 = .ok (.bipush 15, 2) := by decide +kernel
theorem dX0_init_20 : decode cX0_init 20 = .ok (.imul, 1) := by decide +kernel
theorem dX0_init_21 : decode cX0_init 21 = .ok (.newarray .int, 2) := by decide +kernel
theorem dX0_init_23 : decode cX0_init 23 = .ok (.putfield 21, 3) := by decide +kernel
theorem dX0_init_26 : decode cX0_init 26 = .ok (.return_, 1) := by decide +kernel
theorem dX0_put_0 : decode cX0_put 0 = .ok (.iload_n 1, 1) := by decide +kernel
theorem dX0_put_1 : decode cX0_put 1 = .ok (.ifCond .lt 11, 3) := by decide +kernel
theorem dX0_put_4 : decode cX0_put 4 = .ok (.iload_n 1, 1) := by decide +kernel
theorem dX0_put_5 : decode cX0_put 5 = .ok (.aload_n 0, 1) := by decide +kernel
theorem dX0_put_6 : decode cX0_put 6 = .ok (.getfield 17, 3) := by decide +kernel
theorem dX0_put_9 : decode cX0_put 9 = .ok (.if_icmp .lt 4, 3) := by decide +kernel
theorem dX0_put_12 : decode cX0_put 12 = .ok (.return_, 1) := by decide +kernel
theorem dX0_put_13 : decode cX0_put 13 = .ok (.iload_n 1, 1) := by decide +kernel
theorem dX0_put_14 : decode cX0_put 14 = .ok (.bipush 15, 2) := by decide +kernel
theorem dX0_put_16 : decode cX0_put 16 = .ok (.imul, 1) := by decide +kernel
theorem dX0_put_17 : decode cX0_put 17 = .ok (.istore_n 3, 1) := by decide +kernel
theorem dX0_put_18 : decode cX0_put 18 = .ok (.aload_n 0, 1) := by decide +kernel
theorem dX0_put_19 : decode cX0_put 19 = .ok (.getfield 21, 3) := by decide +kernel
theorem dX0_put_22 : decode cX0_put 22 = .ok (.iload_n 3, 1) := by decide +kernel
theorem dX0_put_23 : decode cX0_put 23 = .ok (.aload_n 2, 1) := by decide +kernel
theorem dX0_put_24 : decode cX0_put 24 = .ok (.getfield 25, 3) := by decide +kernel
theorem dX0_put_27 : decode cX0_put 27 = .ok (.iastore, 1) := by decide +kernel
theorem dX0_put_28 : decode cX0_put 28 = .ok (.aload_n 0, 1) := by decide +kernel
theorem dX0_put_29 : decode cX0_put 29 = .ok (.getfield 21, 3) := by decide +kernel
theorem dX0_put_32 : decode cX0_put 32 = .ok (.iload_n 3, 1) := by decide +kernel
theorem dX0_put_33 : decode cX0_put 33 = .ok (.iconst 1, 1) := by decide +kernel
theorem dX0_put_34 : decode cX0_put 34 = .ok (.iadd, 1) := by decide +kernel
theorem dX0_put_35 : decode cX0_put 35 = .ok (.aload_n 2, 1) := by decide +kernel
theorem dX0_put_36 : decode cX0_put 36 = .ok (.getfield 30, 3) := by decide +kernel
theorem dX0_put_39 : decode cX0_put 39 = .ok (.iastore, 1) := by decide +kernel
theorem dX0_put_40 : decode cX0_put 40 = .ok (.aload_n 0, 1) := by decide +kernel
theorem dX0_put_41 : decode cX0_put 41 = .ok (.getfield 21, 3) := by decide +kernel
theorem dX0_put_44 : decode cX0_put 44 = .ok (.iload_n 3, 1) := by decide +kernel
theorem dX0_put_45 : decode cX0_put 45 = .ok (.iconst 2, 1) := by decide +kernel
theorem dX0_put_46 : decode cX0_put 46 = .ok (.iadd, 1) := by decide +kernel
theorem dX0_put_47 : decode cX0_put 47 = .ok (.aload_n 2, 1) := by decide +kernel
theorem dX0_put_48 : decode cX0_put 48 = .ok (.getfield 33, 3) := by decide +kernel
theorem dX0_put_51 : decode cX0_put 51 = .ok (.iastore, 1) := by decide +kernel
theorem dX0_put_52 : decode cX0_put 52 = .ok (.aload_n 2, 1) := by decide +kernel
theorem dX0_put_53 : decode cX0_put 53 = .ok (.getfield 36, 3) := by decide +kernel
theorem dX0_put_56 : decode cX0_put 56 = .ok (.iconst 0, 1) := by decide +kernel
theorem dX0_put_57 : decode cX0_put 57 = .ok (.aload_n 0, 1) := by decide +kernel
theorem dX0_put_58 : decode cX0_put 58 = .ok (.getfield 21, 3) := by decide +kernel
theorem dX0_put_61 : decode cX0_put 61 = .ok (.iload_n 3, 1) := by decide +kernel
theorem dX0_put_62 : decode cX0_put 62 = .ok (.iconst 3, 1) := by decide +kernel
theorem dX0_put_63 : decode cX0_put 63 = .ok (.iadd, 1) := by decide +kernel
theorem dX0_put_64 : decode cX0_put 64 = .ok (.bipush 6, 2) := by decide +kernel
theorem dX0_put_66 : decode cX0_put 66 = .ok (.invokestatic 39, 3) := by decide +kernel
theorem dX0_put_69 : decode cX0_put 69 = .ok (.aload_n 2, 1) := by decide +kernel
theorem dX0_put_70 : decode cX0_put 70 = .ok (.getfield 45, 3) := by decide +kernel
theorem dX0_put_73 : decode cX0_put 73 = .ok (.iconst 0, 1) := by decide +kernel
theorem dX0_put_74 : decode cX0_put 74 = .ok (.aload_n 0, 1) := by decide +kernel
theorem dX0_put_75 : decode cX0_put 75 = .ok (.getfield 21, 3) := by decide +kernel
theorem dX0_put_78 : decode cX0_put 78 = .ok (.iload_n 3, 1) := by decide +kernel
theorem dX0_put_79 : decode cX0_put 79 = .ok (.bipush 9, 2) := by decide +kernel
theorem dX0_put_81 : decode cX0_put 81 = .ok (.iadd, 1) := by decide +kernel
theorem dX0_put_82 : decode cX0_put 82 = .ok (.bipush 6, 2) := by decide +kernel
theorem dX0_put_84 : decode cX0_put 84 = .ok (.invokestatic 39, 3) := by decide +kernel
theorem dX0_put_87 : decode cX0_put 87 = .ok (.return_, 1) := by decide +kernel
theorem dX0_take_0 : decode cX0_take 0 = .ok (.iload_n 1, 1) := by decide +kernel
theorem dX0_take_1 : decode cX0_take 1 = .ok (.ifCond .lt 11, 3) := by decide +kernel
theorem dX0_take_4 : decode cX0_take 4 = .ok (.iload_n 1, 1) := by decide +kernel
theorem dX0_take_5 : decode cX0_take 5 = .ok (.aload_n 0, 1) := by decide +kernel
theorem dX0_take_6 : decode cX0_take 6 = .ok (.getfield 17, 3) := by decide +kernel
theorem dX0_take_9 : decode cX0_take 9 = .ok (.if_icmp .lt 4, 3) := by decide +kernel
theorem dX0_take_12 : decode cX0_take 12 = .ok (.return_, 1) := by decide +kernel
theorem dX0_take_13 : decode cX0_take 13 = .ok (.iload_n 1, 1) := by decide +kernel
theorem dX0_take_14 : decode cX0_take 14 = .ok (.bipush 15, 2) := by decide +kernel
theorem dX0_take_16 : decode cX0_take 16 = .ok (.imul, 1) := by decide +kernel
theorem dX0_take_17 : decode cX0_take 17 = .ok (.istore_n 3, 1) := by decide +kernel
theorem dX0_take_18 : decode cX0_take 18 = .ok (.aload_n 2, 1) := by decide +kernel
theorem dX0_take_19 : decode cX0_take 19 = .ok (.aload_n 0, 1) := by decide +kernel
theorem dX0_take_20 : decode cX0_take 20 = .ok (.getfield 21, 3) := by decide +kernel
theorem dX0_take_23 : decode cX0_take 23 = .ok (.iload_n 3, 1) := by decide +kernel
theorem dX0_take_24 : decode cX0_take 24 = .ok (.iaload, 1) := by decide +kernel
theorem dX0_take_25 : decode cX0_take 25 = .ok (.putfield 25, 3) := by decide +kernel
theorem dX0_take_28 : decode cX0_take 28 = .ok (.aload_n 2, 1) := by decide +kernel
theorem dX0_take_29 : decode cX0_take 29 = .ok (.aload_n 0, 1) := by decide +kernel
theorem dX0_take_30 : decode cX0_take 30 = .ok (.getfield 21, 3) := by decide +kernel
theorem dX0_take_33 : decode cX0_take 33 = .ok (.iload_n 3, 1) := by decide +kernel
theorem dX0_take_34 : decode cX0_take 34 = .ok (.iconst 1, 1) := by decide +kernel
theorem dX0_take_35 : decode cX0_take 35 = .ok (.iadd, 1) := by decide +kernel
theorem dX0_take_36 : decode cX0_take 36 = .ok (.iaload, 1) := by decide +kernel
theorem dX0_take_37 : decode cX0_take 37 = .ok (.putfield 30, 3) := by decide +kernel
theorem dX0_take_40 : decode cX0_take 40 = .ok (.aload_n 2, 1) := by decide +kernel
theorem dX0_take_41 : decode cX0_take 41 = .ok (.aload_n 0, 1) := by decide +kernel
theorem dX0_take_42 : decode cX0_take 42 = .ok (.getfield 21, 3) := by decide +kernel
theorem dX0_take_45 : decode cX0_take 45 = .ok (.iload_n 3, 1) := by decide +kernel
theorem dX0_take_46 : decode cX0_take 46 = .ok (.iconst 2, 1) := by decide +kernel
theorem dX0_take_47 : decode cX0_take 47 = .ok (.iadd, 1) := by decide +kernel
theorem dX0_take_48 : decode cX0_take 48 = .ok (.iaload, 1) := by decide +kernel
theorem dX0_take_49 : decode cX0_take 49 = .ok (.putfield 33, 3) := by decide +kernel
theorem dX0_take_52 : decode cX0_take 52 = .ok (.aload_n 0, 1) := by decide +kernel
theorem dX0_take_53 : decode cX0_take 53 = .ok (.getfield 21, 3) := by decide +kernel
theorem dX0_take_56 : decode cX0_take 56 = .ok (.iload_n 3, 1) := by decide +kernel
theorem dX0_take_57 : decode cX0_take 57 = .ok (.iconst 3, 1) := by decide +kernel
theorem dX0_take_58 : decode cX0_take 58 = .ok (.iadd, 1) := by decide +kernel
theorem dX0_take_59 : decode cX0_take 59 = .ok (.aload_n 2, 1) := by decide +kernel
theorem dX0_take_60 : decode cX0_take 60 = .ok (.getfield 36, 3) := by decide +kernel
theorem dX0_take_63 : decode cX0_take 63 = .ok (.iconst 0, 1) := by decide +kernel
theorem dX0_take_64 : decode cX0_take 64 = .ok (.bipush 6, 2) := by decide +kernel
theorem dX0_take_66 : decode cX0_take 66 = .ok (.invokestatic 39, 3) := by decide +kernel
theorem dX0_take_69 : decode cX0_take 69 = .ok (.aload_n 0, 1) := by decide +kernel
theorem dX0_take_70 : decode cX0_take 70 = .ok (.getfield 21, 3) := by decide +kernel
theorem dX0_take_73 : decode cX0_take 73 = .ok (.iload_n 3, 1) := by decide +kernel
theorem dX0_take_74 : decode cX0_take 74 = .ok (.bipush 9, 2) := by decide +kernel
theorem dX0_take_76 : decode cX0_take 76 = .ok (.iadd, 1) := by decide +kernel
theorem dX0_take_77 : decode cX0_take 77 = .ok (.aload_n 2, 1) := by decide +kernel
theorem dX0_take_78 : decode cX0_take 78 = .ok (.getfield 45, 3) := by decide +kernel
theorem dX0_take_81 : decode cX0_take 81 = .ok (.iconst 0, 1) := by decide +kernel
theorem dX0_take_82 : decode cX0_take 82 = .ok (.bipush 6, 2) := by decide +kernel
theorem dX0_take_84 : decode cX0_take 84 = .ok (.invokestatic 39, 3) := by decide +kernel
theorem dX0_take_87 : decode cX0_take 87 = .ok (.return_, 1) := by decide +kernel
theorem dX1_init_0 : decode cX1_init 0 = .ok (.aload_n 0, 1) := by decide +kernel
theorem dX1_init_1 : decode cX1_init 1 = .ok (.invokespecial 3, 3) := by decide +kernel
theorem dX1_init_4 : decode cX1_init 4 = .ok (.aload_n 0, 1) := by decide +kernel
theorem dX1_init_5 : decode cX1_init 5 = .ok (.bipush 6, 2) := by decide +kernel
theorem dX1_init_7 : decode cX1_init 7 = .ok (.newarray .int, 2) := by decide +kernel
theorem dX1_init_9 : decode cX1_init 9 = .ok (.putfield 9, 3) := by decide +kernel
theorem dX1_init_12 : decode cX1_init 12 = .ok (.aload_n 0, 1) := by decide +kernel
theorem dX1_init_13 : decode cX1_init 13 = .ok (.bipush 6, 2) := by decide +kernel
theorem dX1_init_15 : decode cX1_init 15 = .ok (.newarray .int, 2) := by decide +kernel
theorem dX1_init_17 : decode cX1_init 17 = .ok (.putfield 15, 3) := by decide +kernel
theorem dX1_init_20 : decode cX1_init 20 = .ok (.return_, 1) := by decide +kernel
theorem dX1_add_0 : decode cX1_add 0 = .ok (.aload_n 0, 1) := by decide +kernel
theorem dX1_add_1 : decode cX1_add 1 = .ok (.getfield 18, 3) := by decide +kernel
theorem dX1_add_4 : decode cX1_add 4 = .ok (.bipush 6, 2) := by decide +kernel
theorem dX1_add_6 : decode cX1_add 6 = .ok (.if_icmp .ge 33, 3) := by decide +kernel
theorem dX1_add_9 : decode cX1_add 9 = .ok (.aload_n 0, 1) := by decide +kernel
theorem dX1_add_10 : decode cX1_add 10 = .ok (.getfield 9, 3) := by decide +kernel
theorem dX1_add_13 : decode cX1_add 13 = .ok (.aload_n 0, 1) := by decide +kernel
theorem dX1_add_14 : decode cX1_add 14 = .ok (.getfield 18, 3) := by decide +kernel
theorem dX1_add_17 : decode cX1_add 17 = .ok (.iload_n 1, 1) := by decide +kernel
theorem dX1_add_18 : decode cX1_add 18 = .ok (.iastore, 1) := by decide +kernel
theorem dX1_add_19 : decode cX1_add 19 = .ok (.aload_n 0, 1) := by decide +kernel
theorem dX1_add_20 : decode cX1_add 20 = .ok (.getfield 15, 3) := by decide +kernel
theorem dX1_add_23 : decode cX1_add 23 = .ok (.aload_n 0, 1) := by decide +kernel
theorem dX1_add_24 : decode cX1_add 24 = .ok (.getfield 18, 3) := by decide +kernel
theorem dX1_add_27 : decode cX1_add 27 = .ok (.iload_n 2, 1) := by decide +kernel
theorem dX1_add_28 : decode cX1_add 28 = .ok (.iastore, 1) := by decide +kernel
theorem dX1_add_29 : decode cX1_add 29 = .ok (.aload_n 0, 1) := by decide +kernel
theorem dX1_add_30 : decode cX1_add 30 = .ok (.dup, 1) := by decide +kernel
theorem dX1_add_31 : decode cX1_add 31 = .ok (.getfield 18, 3) := by decide +kernel
theorem dX1_add_34 : decode cX1_add 34 = .ok (.iconst 1, 1) := by decide +kernel
theorem dX1_add_35 : decode cX1_add 35 = .ok (.iadd, 1) := by decide +kernel
theorem dX1_add_36 : decode cX1_add 36 = .ok (.putfield 18, 3) := by decide +kernel
theorem dX1_add_39 : decode cX1_add 39 = .ok (.return_, 1) := by decide +kernel
set_option maxRecDepth 20000 in
theorem ggX1_whoFits_X1_fits : GoodIn wsX1_whoFits wsX1_fits := goodIn_r _ [7, 8, 9, 10, 11, 12, 13, 14, 15, 16, 17, 18, 19, 20, 21, 22, 23, 24, 25, 26, 27, 28, 29, 30, 43, 44, 45, 31, 32, 33, 34, 35, 36, 37, 38, 39, 40, 41, 42] (by decide +kernel) (by decide +kernel)
set_option maxRecDepth 20000 in
theorem gX1_whoFits_X1_fits : GoodIn wsX1_whoFits (wsV RX1 33 RX1 yX1_fits wsX1_fits) := goodIn_app (goodIn_of _ (by decide +kernel)) ggX1_whoFits_X1_fits
theorem dX1_whoFits_0 : decode cX1_whoFits 0 = .ok (.iconst 0, 1) := by decide +kernel
theorem dX1_whoFits_1 : decode cX1_whoFits 1 = .ok (.istore_n 2, 1) := by decide +kernel
theorem dX1_whoFits_2 : decode cX1_whoFits 2 = .ok (.iconst 0, 1) := by decide +kernel
theorem dX1_whoFits_3 : decode cX1_whoFits 3 = .ok (.istore_n 3, 1) := by decide +kernel
theorem dX1_whoFits_4 : decode cX1_whoFits 4 = .ok (.iload_n 3, 1) := by decide +kernel
theorem dX1_whoFits_5 : decode cX1_whoFits 5 = .ok (.aload_n 1, 1) := by decide +kernel
theorem dX1_whoFits_6 : decode cX1_whoFits 6 = .ok (.getfield 22, 3) := by decide +kernel
theorem dX1_whoFits_9 : decode cX1_whoFits 9 = .ok (.getfield 28, 3) := by decide +kernel
theorem dX1_whoFits_12 : decode cX1_whoFits 12 = .ok (.if_icmp .ge 24, 3) := by decide +kernel
theorem dX1_whoFits_15 : decode cX1_whoFits 15 = .ok (.aload_n 0, 1) := by decide +kernel
theorem dX1_whoFits_16 : decode cX1_whoFits 16 = .ok (.aload_n 1, 1) := by decide +kernel
theorem dX1_whoFits_17 : decode cX1_whoFits 17 = .ok (.iload_n 3, 1) := by decide +kernel
theorem dX1_whoFits_18 : decode cX1_whoFits 18 = .ok (.invokevirtual 33, 3) := by decide +kernel
theorem dX1_whoFits_21 : decode cX1_whoFits 21 = .ok (.ifCond .eq 9, 3) := by decide +kernel
theorem dX1_whoFits_24 : decode cX1_whoFits 24 = .ok (.iload_n 2, 1) := by decide +kernel
theorem dX1_whoFits_25 : decode cX1_whoFits 25 = .ok (.iconst 1, 1) := by decide +kernel
theorem dX1_whoFits_26 : decode cX1_whoFits 26 = .ok (.iload_n 3, 1) := by decide +kernel
theorem dX1_whoFits_27 : decode cX1_whoFits 27 = .ok (.ishl, 1) := by decide +kernel
theorem dX1_whoFits_28 : decode cX1_whoFits 28 = .ok (.ior, 1) := by decide +kernel
theorem dX1_whoFits_29 : decode cX1_whoFits 29 = .ok (.istore_n 2, 1) := by decide +kernel
theorem dX1_whoFits_30 : decode cX1_whoFits 30 = .ok (.iinc 3 1, 3) := by decide +kernel
theorem dX1_whoFits_33 : decode cX1_whoFits 33 = .ok (.goto (-29), 3) := by decide +kernel
theorem dX1_whoFits_36 : decode cX1_whoFits 36 = .ok (.iload_n 2, 1) := by decide +kernel
theorem dX1_whoFits_37 : decode cX1_whoFits 37 = .ok (.ireturn, 1) := by decide +kernel
set_option maxRecDepth 20000 in
theorem ggX1_fits_X3_soundIn : GoodIn wsX1_fits wsX3_soundIn := goodIn_r _ [8, 9, 10, 11, 12, 13, 14, 15, 16, 7, 17, 18, 19, 20, 21, 22, 23, 27, 28, 29, 30, 31, 32, 33, 34, 35, 36, 37, 38] (by decide +kernel) (by decide +kernel)
set_option maxRecDepth 20000 in
theorem gX1_fits_X3_soundIn : GoodIn wsX1_fits (wsV RX1 37 RX3 yX3_soundIn wsX3_soundIn) := goodIn_app (goodIn_of _ (by decide +kernel)) ggX1_fits_X3_soundIn
theorem dX1_fits_0 : decode cX1_fits 0 = .ok (.iconst 0, 1) := by decide +kernel
theorem dX1_fits_1 : decode cX1_fits 1 = .ok (.istore_n 3, 1) := by decide +kernel
theorem dX1_fits_2 : decode cX1_fits 2 = .ok (.iload_n 3, 1) := by decide +kernel
theorem dX1_fits_3 : decode cX1_fits 3 = .ok (.aload_n 0, 1) := by decide +kernel
theorem dX1_fits_4 : decode cX1_fits 4 = .ok (.getfield 18, 3) := by decide +kernel
theorem dX1_fits_7 : decode cX1_fits 7 = .ok (.if_icmp .ge 37, 3) := by decide +kernel
theorem dX1_fits_10 : decode cX1_fits 10 = .ok (.iload_n 3, 1) := by decide +kernel
theorem dX1_fits_11 : decode cX1_fits 11 = .ok (.bipush 6, 2) := by decide +kernel
theorem dX1_fits_13 : decode cX1_fits 13 = .ok (.if_icmp .ge 31, 3) := by decide +kernel
theorem dX1_fits_16 : decode cX1_fits 16 = .ok (.aload_n 1, 1) := by decide +kernel
theorem dX1_fits_17 : decode cX1_fits 17 = .ok (.iload_n 2, 1) := by decide +kernel
theorem dX1_fits_18 : decode cX1_fits 18 = .ok (.aload_n 0, 1) := by decide +kernel
theorem dX1_fits_19 : decode cX1_fits 19 = .ok (.getfield 9, 3) := by decide +kernel
theorem dX1_fits_22 : decode cX1_fits 22 = .ok (.iload_n 3, 1) := by decide +kernel
theorem dX1_fits_23 : decode cX1_fits 23 = .ok (.iaload, 1) := by decide +kernel
theorem dX1_fits_24 : decode cX1_fits 24 = .ok (.invokevirtual 37, 3) := by decide +kernel
theorem dX1_fits_27 : decode cX1_fits 27 = .ok (.aload_n 0, 1) := by decide +kernel
theorem dX1_fits_28 : decode cX1_fits 28 = .ok (.getfield 15, 3) := by decide +kernel
theorem dX1_fits_31 : decode cX1_fits 31 = .ok (.iload_n 3, 1) := by decide +kernel
theorem dX1_fits_32 : decode cX1_fits 32 = .ok (.iaload, 1) := by decide +kernel
theorem dX1_fits_33 : decode cX1_fits 33 = .ok (.if_icmp .eq 5, 3) := by decide +kernel
theorem dX1_fits_36 : decode cX1_fits 36 = .ok (.iconst 0, 1) := by decide +kernel
theorem dX1_fits_37 : decode cX1_fits 37 = .ok (.ireturn, 1) := by decide +kernel
theorem dX1_fits_38 : decode cX1_fits 38 = .ok (.iinc 3 1, 3) := by decide +kernel
theorem dX1_fits_41 : decode cX1_fits 41 = .ok (.goto (-39), 3) := by decide +kernel
theorem dX1_fits_44 : decode cX1_fits 44 = .ok (.iconst 1, 1) := by decide +kernel
theorem dX1_fits_45 : decode cX1_fits 45 = .ok (.ireturn, 1) := by decide +kernel
theorem dX2_init_0 : decode cX2_init 0 = .ok (.aload_n 0, 1) := by decide +kernel
theorem dX2_init_1 : decode cX2_init 1 = .ok (.invokespecial 3, 3) := by decide +kernel
theorem dX2_init_4 : decode cX2_init 4 = .ok (.aload_n 0, 1) := by decide +kernel
theorem dX2_init_5 : decode cX2_init 5 = .ok (.bipush 6, 2) := by decide +kernel
theorem dX2_init_7 : decode cX2_init 7 = .ok (.newarray .int, 2) := by decide +kernel
theorem dX2_init_9 : decode cX2_init 9 = .ok (.putfield 9, 3) := by decide +kernel
theorem dX2_init_12 : decode cX2_init 12 = .ok (.aload_n 0, 1) := by decide +kernel
theorem dX2_init_13 : decode cX2_init 13 = .ok (.bipush 30, 2) := by decide +kernel
theorem dX2_init_15 : decode cX2_init 15 = .ok (.newarray .int, 2) := by decide +kernel
theorem dX2_init_17 : decode cX2_init 17 = .ok (.putfield 15, 3) := by decide +kernel
theorem dX2_init_20 : decode cX2_init 20 = .ok (.return_, 1) := by decide +kernel
set_option maxRecDepth 20000 in
theorem ggX2_mostHours_X2_lookAt : GoodIn wsX2_mostHours wsX2_lookAt := goodIn_r _ [6, 7, 8, 9, 10, 11, 12, 13, 14, 15, 16, 17, 18, 19, 20, 21, 22, 23, 24, 25, 47, 48, 49, 50, 51, 52, 53, 54, 55, 56, 57, 58, 59, 60] (by decide +kernel) (by decide +kernel)
set_option maxRecDepth 20000 in
theorem gX2_mostHours_X2_lookAt : GoodIn wsX2_mostHours (wsV RX2 18 RX2 yX2_lookAt wsX2_lookAt) := goodIn_app (goodIn_of _ (by decide +kernel)) ggX2_mostHours_X2_lookAt
set_option maxRecDepth 20000 in
theorem ggX2_mostHours_X2_mostFrom : GoodIn wsX2_mostHours wsX2_mostFrom := goodIn_r _ [29, 7, 8, 30, 23, 24, 25, 31, 32, 33, 5, 34, 35, 36, 37, 38, 12, 9, 39, 40, 41, 17, 42, 19, 43, 44, 45, 46, 26, 27, 28, 47, 48, 49, 50, 51, 52, 53, 54, 55, 56, 57, 58, 59, 60] (by decide +kernel) (by decide +kernel)
set_option maxRecDepth 20000 in
theorem gX2_mostHours_X2_mostFrom : GoodIn wsX2_mostHours (wsV RX2 28 RX2 yX2_mostFrom wsX2_mostFrom) := goodIn_app (goodIn_of _ (by decide +kernel)) ggX2_mostHours_X2_mostFrom
theorem dX2_mostHours_0 : decode cX2_mostHours 0 = .ok (.aload_n 0, 1) := by decide +kernel
theorem dX2_mostHours_1 : decode cX2_mostHours 1 = .ok (.aload_n 1, 1) := by decide +kernel
theorem dX2_mostHours_2 : decode cX2_mostHours 2 = .ok (.invokevirtual 18, 3) := by decide +kernel
theorem dX2_mostHours_5 : decode cX2_mostHours 5 = .ok (.aload_n 0, 1) := by decide +kernel
theorem dX2_mostHours_6 : decode cX2_mostHours 6 = .ok (.aload_n 1, 1) := by decide +kernel
theorem dX2_mostHours_7 : decode cX2_mostHours 7 = .ok (.iconst 0, 1) := by decide +kernel
theorem dX2_mostHours_8 : decode cX2_mostHours 8 = .ok (.aload_n 1, 1) := by decide +kernel
theorem dX2_mostHours_9 : decode cX2_mostHours 9 = .ok (.getfield 22, 3) := by decide +kernel
theorem dX2_mostHours_12 : decode cX2_mostHours 12 = .ok (.invokevirtual 28, 3) := by decide +kernel
theorem dX2_mostHours_15 : decode cX2_mostHours 15 = .ok (.ireturn, 1) := by decide +kernel
set_option maxRecDepth 20000 in
theorem ggX2_first_X2_mostHours : GoodIn wsX2_first wsX2_mostHours := goodIn_r _ [8, 3, 9, 10, 11, 7, 12, 1, 2, 13, 14, 15, 16, 17, 18, 19, 20, 21, 22, 23, 24, 25, 26, 27, 28, 29, 30, 31, 32, 33, 34, 35, 36, 37, 38, 39, 40, 41, 42, 43, 44, 45, 46, 47, 48, 49, 50, 51, 52, 53, 54, 55, 56, 57, 58, 59, 60, 61, 62, 63, 64] (by decide +kernel) (by decide +kernel)
set_option maxRecDepth 20000 in
theorem gX2_first_X2_mostHours : GoodIn wsX2_first (wsV RX2 32 RX2 yX2_mostHours wsX2_mostHours) := goodIn_app (goodIn_of _ (by decide +kernel)) ggX2_first_X2_mostHours
set_option maxRecDepth 20000 in
theorem ggX2_first_X2_mostByFilling : GoodIn wsX2_first wsX2_mostByFilling := goodIn_r _ [38, 39, 40, 41, 7, 42, 1, 2, 16, 13, 43, 44, 45, 21, 46, 23, 47, 48, 49, 28, 50, 30, 31, 32, 33, 34, 27, 29, 35, 36, 37, 51, 52, 53, 54, 55, 56, 57, 58, 59, 60, 61, 62, 63, 64] (by decide +kernel) (by decide +kernel)
set_option maxRecDepth 20000 in
theorem gX2_first_X2_mostByFilling : GoodIn wsX2_first (wsV RX2 45 RX2 yX2_mostByFilling wsX2_mostByFilling) := goodIn_app (goodIn_of _ (by decide +kernel)) ggX2_first_X2_mostByFilling
theorem dX2_first_0 : decode cX2_first 0 = .ok (.aload_n 0, 1) := by decide +kernel
theorem dX2_first_1 : decode cX2_first 1 = .ok (.aload_n 1, 1) := by decide +kernel
theorem dX2_first_2 : decode cX2_first 2 = .ok (.invokevirtual 32, 3) := by decide +kernel
theorem dX2_first_5 : decode cX2_first 5 = .ok (.istore_n 2, 1) := by decide +kernel
theorem dX2_first_6 : decode cX2_first 6 = .ok (.iload_n 2, 1) := by decide +kernel
theorem dX2_first_7 : decode cX2_first 7 = .ok (.ifCond .ne 6, 3) := by decide +kernel
theorem dX2_first_10 : decode cX2_first 10 = .ok (.bipush (-9), 2) := by decide +kernel
theorem dX2_first_12 : decode cX2_first 12 = .ok (.ireturn, 1) := by decide +kernel
theorem dX2_first_13 : decode cX2_first 13 = .ok (.iconst 0, 1) := by decide +kernel
theorem dX2_first_14 : decode cX2_first 14 = .ok (.istore_n 3, 1) := by decide +kernel
theorem dX2_first_15 : decode cX2_first 15 = .ok (.iload_n 3, 1) := by decide +kernel
theorem dX2_first_16 : decode cX2_first 16 = .ok (.aload_n 1, 1) := by decide +kernel
theorem dX2_first_17 : decode cX2_first 17 = .ok (.getfield 36, 3) := by decide +kernel
theorem dX2_first_20 : decode cX2_first 20 = .ok (.getfield 40, 3) := by decide +kernel
theorem dX2_first_23 : decode cX2_first 23 = .ok (.if_icmp .ge 26, 3) := by decide +kernel
theorem dX2_first_26 : decode cX2_first 26 = .ok (.aload_n 0, 1) := by decide +kernel
theorem dX2_first_27 : decode cX2_first 27 = .ok (.aload_n 1, 1) := by decide +kernel
theorem dX2_first_28 : decode cX2_first 28 = .ok (.iload_n 3, 1) := by decide +kernel
theorem dX2_first_29 : decode cX2_first 29 = .ok (.iconst 0, 1) := by decide +kernel
theorem dX2_first_30 : decode cX2_first 30 = .ok (.aload_n 1, 1) := by decide +kernel
theorem dX2_first_31 : decode cX2_first 31 = .ok (.getfield 22, 3) := by decide +kernel
theorem dX2_first_34 : decode cX2_first 34 = .ok (.invokevirtual 45, 3) := by decide +kernel
theorem dX2_first_37 : decode cX2_first 37 = .ok (.iload_n 2, 1) := by decide +kernel
theorem dX2_first_38 : decode cX2_first 38 = .ok (.if_icmp .ne 5, 3) := by decide +kernel
theorem dX2_first_41 : decode cX2_first 41 = .ok (.iload_n 3, 1) := by decide +kernel
theorem dX2_first_42 : decode cX2_first 42 = .ok (.ireturn, 1) := by decide +kernel
theorem dX2_first_43 : decode cX2_first 43 = .ok (.iinc 3 1, 3) := by decide +kernel
theorem dX2_first_46 : decode cX2_first 46 = .ok (.goto (-31), 3) := by decide +kernel
theorem dX2_first_49 : decode cX2_first 49 = .ok (.bipush 6, 2) := by decide +kernel
theorem dX2_first_51 : decode cX2_first 51 = .ok (.ireturn, 1) := by decide +kernel
set_option maxRecDepth 20000 in
theorem ggX2_lookAt_X3_loss : GoodIn wsX2_lookAt wsX3_loss := goodIn_r _ [12, 13, 14, 15, 16, 17, 18, 19, 20, 21, 22, 23, 24, 25, 26, 27, 28, 29, 30, 31] (by decide +kernel) (by decide +kernel)
set_option maxRecDepth 20000 in
theorem gX2_lookAt_X3_loss : GoodIn wsX2_lookAt (wsV RX2 55 RX3 yX3_loss wsX3_loss) := goodIn_app (goodIn_of _ (by decide +kernel)) ggX2_lookAt_X3_loss
theorem dX2_lookAt_0 : decode cX2_lookAt 0 = .ok (.iconst 0, 1) := by decide +kernel
theorem dX2_lookAt_1 : decode cX2_lookAt 1 = .ok (.istore_n 2, 1) := by decide +kernel
theorem dX2_lookAt_2 : decode cX2_lookAt 2 = .ok (.iload_n 2, 1) := by decide +kernel
theorem dX2_lookAt_3 : decode cX2_lookAt 3 = .ok (.aload_n 1, 1) := by decide +kernel
theorem dX2_lookAt_4 : decode cX2_lookAt 4 = .ok (.getfield 36, 3) := by decide +kernel
theorem dX2_lookAt_7 : decode cX2_lookAt 7 = .ok (.getfield 40, 3) := by decide +kernel
theorem dX2_lookAt_10 : decode cX2_lookAt 10 = .ok (.if_icmp .ge 40, 3) := by decide +kernel
theorem dX2_lookAt_13 : decode cX2_lookAt 13 = .ok (.aload_n 0, 1) := by decide +kernel
theorem dX2_lookAt_14 : decode cX2_lookAt 14 = .ok (.getfield 9, 3) := by decide +kernel
theorem dX2_lookAt_17 : decode cX2_lookAt 17 = .ok (.iload_n 2, 1) := by decide +kernel
theorem dX2_lookAt_18 : decode cX2_lookAt 18 = .ok (.aload_n 1, 1) := by decide +kernel
theorem dX2_lookAt_19 : decode cX2_lookAt 19 = .ok (.iload_n 2, 1) := by decide +kernel
theorem dX2_lookAt_20 : decode cX2_lookAt 20 = .ok (.aload_n 1, 1) := by decide +kernel
theorem dX2_lookAt_21 : decode cX2_lookAt 21 = .ok (.getfield 49, 3) := by decide +kernel
theorem dX2_lookAt_24 : decode cX2_lookAt 24 = .ok (.aload_n 1, 1) := by decide +kernel
theorem dX2_lookAt_25 : decode cX2_lookAt 25 = .ok (.getfield 52, 3) := by decide +kernel
theorem dX2_lookAt_28 : decode cX2_lookAt 28 = .ok (.invokevirtual 55, 3) := by decide +kernel
theorem dX2_lookAt_31 : decode cX2_lookAt 31 = .ok (.iastore, 1) := by decide +kernel
theorem dX2_lookAt_32 : decode cX2_lookAt 32 = .ok (.aload_n 0, 1) := by decide +kernel
theorem dX2_lookAt_33 : decode cX2_lookAt 33 = .ok (.getfield 15, 3) := by decide +kernel
theorem dX2_lookAt_36 : decode cX2_lookAt 36 = .ok (.iload_n 2, 1) := by decide +kernel
theorem dX2_lookAt_37 : decode cX2_lookAt 37 = .ok (.aload_n 1, 1) := by decide +kernel
theorem dX2_lookAt_38 : decode cX2_lookAt 38 = .ok (.getfield 58, 3) := by decide +kernel
theorem dX2_lookAt_41 : decode cX2_lookAt 41 = .ok (.iload_n 2, 1) := by decide +kernel
theorem dX2_lookAt_42 : decode cX2_lookAt 42 = .ok (.iaload, 1) := by decide +kernel
theorem dX2_lookAt_43 : decode cX2_lookAt 43 = .ok (.iastore, 1) := by decide +kernel
theorem dX2_lookAt_44 : decode cX2_lookAt 44 = .ok (.iinc 2 1, 3) := by decide +kernel
theorem dX2_lookAt_47 : decode cX2_lookAt 47 = .ok (.goto (-45), 3) := by decide +kernel
theorem dX2_lookAt_50 : decode cX2_lookAt 50 = .ok (.return_, 1) := by decide +kernel
set_option maxRecDepth 20000 in
theorem ggX2_mostFrom_X2_mostByFilling : GoodIn wsX2_mostFrom wsX2_mostByFilling := goodIn_r _ [11, 12, 13, 14, 10, 15, 1, 2, 16, 17, 18, 19, 20, 21, 22, 23, 24, 25, 26, 5, 27, 28, 29, 30, 0, 3, 4, 6, 7, 8, 9, 31, 32, 33, 34, 35, 36, 37, 38, 39, 40, 41, 42, 43, 44] (by decide +kernel) (by decide +kernel)
set_option maxRecDepth 20000 in
theorem gX2_mostFrom_X2_mostByFilling : GoodIn wsX2_mostFrom (wsV RX2 45 RX2 yX2_mostByFilling wsX2_mostByFilling) := goodIn_app (goodIn_of _ (by decide +kernel)) ggX2_mostFrom_X2_mostByFilling
theorem dX2_mostFrom_0 : decode cX2_mostFrom 0 = .ok (.iload_n 2, 1) := by decide +kernel
theorem dX2_mostFrom_1 : decode cX2_mostFrom 1 = .ok (.iconst 4, 1) := by decide +kernel
theorem dX2_mostFrom_2 : decode cX2_mostFrom 2 = .ok (.if_icmp .lt 5, 3) := by decide +kernel
theorem dX2_mostFrom_5 : decode cX2_mostFrom 5 = .ok (.iconst 4, 1) := by decide +kernel
theorem dX2_mostFrom_6 : decode cX2_mostFrom 6 = .ok (.ireturn, 1) := by decide +kernel
theorem dX2_mostFrom_7 : decode cX2_mostFrom 7 = .ok (.aload_n 0, 1) := by decide +kernel
theorem dX2_mostFrom_8 : decode cX2_mostFrom 8 = .ok (.aload_n 1, 1) := by decide +kernel
theorem dX2_mostFrom_9 : decode cX2_mostFrom 9 = .ok (.bipush 6, 2) := by decide +kernel
theorem dX2_mostFrom_11 : decode cX2_mostFrom 11 = .ok (.iload_n 2, 1) := by decide +kernel
theorem dX2_mostFrom_12 : decode cX2_mostFrom 12 = .ok (.iload_n 3, 1) := by decide +kernel
theorem dX2_mostFrom_13 : decode cX2_mostFrom 13 = .ok (.invokevirtual 45, 3) := by decide +kernel
theorem dX2_mostFrom_16 : decode cX2_mostFrom 16 = .ok (.istore 4, 2) := by decide +kernel
theorem dX2_mostFrom_18 : decode cX2_mostFrom 18 = .ok (.iconst 0, 1) := by decide +kernel
theorem dX2_mostFrom_19 : decode cX2_mostFrom 19 = .ok (.istore 5, 2) := by decide +kernel
theorem dX2_mostFrom_21 : decode cX2_mostFrom 21 = .ok (.iload 5, 2) := by decide +kernel
theorem dX2_mostFrom_23 : decode cX2_mostFrom 23 = .ok (.aload_n 1, 1) := by decide +kernel
theorem dX2_mostFrom_24 : decode cX2_mostFrom 24 = .ok (.getfield 36, 3) := by decide +kernel
theorem dX2_mostFrom_27 : decode cX2_mostFrom 27 = .ok (.getfield 40, 3) := by decide +kernel
theorem dX2_mostFrom_30 : decode cX2_mostFrom 30 = .ok (.if_icmp .ge 31, 3) := by decide +kernel
theorem dX2_mostFrom_33 : decode cX2_mostFrom 33 = .ok (.iload 4, 2) := by decide +kernel
theorem dX2_mostFrom_35 : decode cX2_mostFrom 35 = .ok (.iconst 4, 1) := by decide +kernel
theorem dX2_mostFrom_36 : decode cX2_mostFrom 36 = .ok (.if_icmp .ge 25, 3) := by decide +kernel
theorem dX2_mostFrom_39 : decode cX2_mostFrom 39 = .ok (.iload 4, 2) := by decide +kernel
theorem dX2_mostFrom_41 : decode cX2_mostFrom 41 = .ok (.aload_n 0, 1) := by decide +kernel
theorem dX2_mostFrom_42 : decode cX2_mostFrom 42 = .ok (.aload_n 1, 1) := by decide +kernel
theorem dX2_mostFrom_43 : decode cX2_mostFrom 43 = .ok (.iload 5, 2) := by decide +kernel
theorem dX2_mostFrom_45 : decode cX2_mostFrom 45 = .ok (.iload_n 2, 1) := by decide +kernel
theorem dX2_mostFrom_46 : decode cX2_mostFrom 46 = .ok (.iload_n 3, 1) := by decide +kernel
theorem dX2_mostFrom_47 : decode cX2_mostFrom 47 = .ok (.invokevirtual 45, 3) := by decide +kernel
theorem dX2_mostFrom_50 : decode cX2_mostFrom 50 = .ok (.invokestatic 59, 3) := by decide +kernel
theorem dX2_mostFrom_53 : decode cX2_mostFrom 53 = .ok (.istore 4, 2) := by decide +kernel
theorem dX2_mostFrom_55 : decode cX2_mostFrom 55 = .ok (.iinc 5 1, 3) := by decide +kernel
theorem dX2_mostFrom_58 : decode cX2_mostFrom 58 = .ok (.goto (-37), 3) := by decide +kernel
theorem dX2_mostFrom_61 : decode cX2_mostFrom 61 = .ok (.iload 4, 2) := by decide +kernel
theorem dX2_mostFrom_63 : decode cX2_mostFrom 63 = .ok (.ireturn, 1) := by decide +kernel
set_option maxRecDepth 20000 in
theorem ggX2_mostByFilling_X2_staysWarmByFilling : GoodIn wsX2_mostByFilling wsX2_staysWarmByFilling := goodIn_r _ [5, 6, 7, 8, 9, 10, 11, 12, 13, 14, 15, 16, 17, 18, 19, 20, 31, 32, 33, 34, 35, 36, 37, 38, 39, 40, 41, 42, 43, 44] (by decide +kernel) (by decide +kernel)
set_option maxRecDepth 20000 in
theorem gX2_mostByFilling_X2_staysWarmByFilling : GoodIn wsX2_mostByFilling (wsV RX2 65 RX2 yX2_staysWarmByFilling wsX2_staysWarmByFilling) := goodIn_app (goodIn_of _ (by decide +kernel)) ggX2_mostByFilling_X2_staysWarmByFilling
set_option maxRecDepth 20000 in
theorem ggX2_mostByFilling_X2_mostFrom : GoodIn wsX2_mostByFilling wsX2_mostFrom := goodIn_r _ [24, 6, 7, 25, 26, 19, 27, 28, 29, 30, 4, 0, 1, 2, 3, 5, 8, 9, 10, 11, 12, 13, 14, 15, 16, 17, 18, 20, 21, 22, 23, 31, 32, 33, 34, 35, 36, 37, 38, 39, 40, 41, 42, 43, 44] (by decide +kernel) (by decide +kernel)
set_option maxRecDepth 20000 in
theorem gX2_mostByFilling_X2_mostFrom : GoodIn wsX2_mostByFilling (wsV RX2 28 RX2 yX2_mostFrom wsX2_mostFrom) := goodIn_app (goodIn_of _ (by decide +kernel)) ggX2_mostByFilling_X2_mostFrom
theorem dX2_mostByFilling_0 : decode cX2_mostByFilling 0 = .ok (.iload_n 2, 1) := by decide +kernel
theorem dX2_mostByFilling_1 : decode cX2_mostByFilling 1 = .ok (.bipush 6, 2) := by decide +kernel
theorem dX2_mostByFilling_3 : decode cX2_mostByFilling 3 = .ok (.if_icmp .ne 7, 3) := by decide +kernel
theorem dX2_mostByFilling_6 : decode cX2_mostByFilling 6 = .ok (.iconst 0, 1) := by decide +kernel
theorem dX2_mostByFilling_7 : decode cX2_mostByFilling 7 = .ok (.goto 4, 3) := by decide +kernel
theorem dX2_mostByFilling_10 : decode cX2_mostByFilling 10 = .ok (.iconst 1, 1) := by decide +kernel
theorem dX2_mostByFilling_11 : decode cX2_mostByFilling 11 = .ok (.istore 5, 2) := by decide +kernel
theorem dX2_mostByFilling_13 : decode cX2_mostByFilling 13 = .ok (.iload 4, 2) := by decide +kernel
theorem dX2_mostByFilling_15 : decode cX2_mostByFilling 15 = .ok (.iload 5, 2) := by decide +kernel
theorem dX2_mostByFilling_17 : decode cX2_mostByFilling 17 = .ok (.if_icmp .lt 13, 3) := by decide +kernel
theorem dX2_mostByFilling_20 : decode cX2_mostByFilling 20 = .ok (.aload_n 0, 1) := by decide +kernel
theorem dX2_mostByFilling_21 : decode cX2_mostByFilling 21 = .ok (.aload_n 1, 1) := by decide +kernel
theorem dX2_mostByFilling_22 : decode cX2_mostByFilling 22 = .ok (.iload_n 2, 1) := by decide +kernel
theorem dX2_mostByFilling_23 : decode cX2_mostByFilling 23 = .ok (.iload_n 3, 1) := by decide +kernel
theorem dX2_mostByFilling_24 : decode cX2_mostByFilling 24 = .ok (.invokevirtual 65, 3) := by decide +kernel
theorem dX2_mostByFilling_27 : decode cX2_mostByFilling 27 = .ok (.ifCond .ne 5, 3) := by decide +kernel
theorem dX2_mostByFilling_30 : decode cX2_mostByFilling 30 = .ok (.iload_n 3, 1) := by decide +kernel
theorem dX2_mostByFilling_31 : decode cX2_mostByFilling 31 = .ok (.ireturn, 1) := by decide +kernel
theorem dX2_mostByFilling_32 : decode cX2_mostByFilling 32 = .ok (.aload_n 0, 1) := by decide +kernel
theorem dX2_mostByFilling_33 : decode cX2_mostByFilling 33 = .ok (.aload_n 1, 1) := by decide +kernel
theorem dX2_mostByFilling_34 : decode cX2_mostByFilling 34 = .ok (.iload_n 3, 1) := by decide +kernel
theorem dX2_mostByFilling_35 : decode cX2_mostByFilling 35 = .ok (.iconst 1, 1) := by decide +kernel
theorem dX2_mostByFilling_36 : decode cX2_mostByFilling 36 = .ok (.iadd, 1) := by decide +kernel
theorem dX2_mostByFilling_37 : decode cX2_mostByFilling 37 = .ok (.iload 4, 2) := by decide +kernel
theorem dX2_mostByFilling_39 : decode cX2_mostByFilling 39 = .ok (.iload 5, 2) := by decide +kernel
theorem dX2_mostByFilling_41 : decode cX2_mostByFilling 41 = .ok (.isub, 1) := by decide +kernel
theorem dX2_mostByFilling_42 : decode cX2_mostByFilling 42 = .ok (.invokevirtual 28, 3) := by decide +kernel
theorem dX2_mostByFilling_45 : decode cX2_mostByFilling 45 = .ok (.ireturn, 1) := by decide +kernel
set_option maxRecDepth 20000 in
theorem ggX2_staysWarmByFilling_X3_warmBy : GoodIn wsX2_staysWarmByFilling wsX3_warmBy := goodIn_r _ [9, 10, 11, 12, 13, 14, 15, 16, 17, 18, 19, 20, 21, 22, 23, 24, 25, 26, 27] (by decide +kernel) (by decide +kernel)
set_option maxRecDepth 20000 in
theorem gX2_staysWarmByFilling_X3_warmBy : GoodIn wsX2_staysWarmByFilling (wsV RX2 69 RX3 yX3_warmBy wsX3_warmBy) := goodIn_app (goodIn_of _ (by decide +kernel)) ggX2_staysWarmByFilling_X3_warmBy
theorem dX2_staysWarmByFilling_0 : decode cX2_staysWarmByFilling 0 = .ok (.iload_n 3, 1) := by decide +kernel
theorem dX2_staysWarmByFilling_1 : decode cX2_staysWarmByFilling 1 = .ok (.ifCond .lt 8, 3) := by decide +kernel
theorem dX2_staysWarmByFilling_4 : decode cX2_staysWarmByFilling 4 = .ok (.iload_n 3, 1) := by decide +kernel
theorem dX2_staysWarmByFilling_5 : decode cX2_staysWarmByFilling 5 = .ok (.iconst 4, 1) := by decide +kernel
theorem dX2_staysWarmByFilling_6 : decode cX2_staysWarmByFilling 6 = .ok (.if_icmp .lt 5, 3) := by decide +kernel
theorem dX2_staysWarmByFilling_9 : decode cX2_staysWarmByFilling 9 = .ok (.iconst 0, 1) := by decide +kernel
theorem dX2_staysWarmByFilling_10 : decode cX2_staysWarmByFilling 10 = .ok (.ireturn, 1) := by decide +kernel
theorem dX2_staysWarmByFilling_11 : decode cX2_staysWarmByFilling 11 = .ok (.iload_n 3, 1) := by decide +kernel
theorem dX2_staysWarmByFilling_12 : decode cX2_staysWarmByFilling 12 = .ok (.bipush 6, 2) := by decide +kernel
theorem dX2_staysWarmByFilling_14 : decode cX2_staysWarmByFilling 14 = .ok (.imul, 1) := by decide +kernel
theorem dX2_staysWarmByFilling_15 : decode cX2_staysWarmByFilling 15 = .ok (.istore 4, 2) := by decide +kernel
theorem dX2_staysWarmByFilling_17 : decode cX2_staysWarmByFilling 17 = .ok (.iconst 0, 1) := by decide +kernel
theorem dX2_staysWarmByFilling_18 : decode cX2_staysWarmByFilling 18 = .ok (.istore 5, 2) := by decide +kernel
theorem dX2_staysWarmByFilling_20 : decode cX2_staysWarmByFilling 20 = .ok (.iload 5, 2) := by decide +kernel
theorem dX2_staysWarmByFilling_22 : decode cX2_staysWarmByFilling 22 = .ok (.aload_n 1, 1) := by decide +kernel
theorem dX2_staysWarmByFilling_23 : decode cX2_staysWarmByFilling 23 = .ok (.getfield 36, 3) := by decide +kernel
theorem dX2_staysWarmByFilling_26 : decode cX2_staysWarmByFilling 26 = .ok (.getfield 40, 3) := by decide +kernel
theorem dX2_staysWarmByFilling_29 : decode cX2_staysWarmByFilling 29 = .ok (.if_icmp .ge 66, 3) := by decide +kernel
theorem dX2_staysWarmByFilling_32 : decode cX2_staysWarmByFilling 32 = .ok (.aload_n 1, 1) := by decide +kernel
theorem dX2_staysWarmByFilling_33 : decode cX2_staysWarmByFilling 33 = .ok (.aload_n 0, 1) := by decide +kernel
theorem dX2_staysWarmByFilling_34 : decode cX2_staysWarmByFilling 34 = .ok (.getfield 15, 3) := by decide +kernel
theorem dX2_staysWarmByFilling_37 : decode cX2_staysWarmByFilling 37 = .ok (.iload 4, 2) := by decide +kernel
theorem dX2_staysWarmByFilling_39 : decode cX2_staysWarmByFilling 39 = .ok (.iload 5, 2) := by decide +kernel
theorem dX2_staysWarmByFilling_41 : decode cX2_staysWarmByFilling 41 = .ok (.iadd, 1) := by decide +kernel
theorem dX2_staysWarmByFilling_42 : decode cX2_staysWarmByFilling 42 = .ok (.iaload, 1) := by decide +kernel
theorem dX2_staysWarmByFilling_43 : decode cX2_staysWarmByFilling 43 = .ok (.iload 5, 2) := by decide +kernel
theorem dX2_staysWarmByFilling_45 : decode cX2_staysWarmByFilling 45 = .ok (.iload_n 2, 1) := by decide +kernel
theorem dX2_staysWarmByFilling_46 : decode cX2_staysWarmByFilling 46 = .ok (.if_icmp .ne 7, 3) := by decide +kernel
theorem dX2_staysWarmByFilling_49 : decode cX2_staysWarmByFilling 49 = .ok (.iconst 1, 1) := by decide +kernel
theorem dX2_staysWarmByFilling_50 : decode cX2_staysWarmByFilling 50 = .ok (.goto 4, 3) := by decide +kernel
theorem dX2_staysWarmByFilling_53 : decode cX2_staysWarmByFilling 53 = .ok (.iconst 0, 1) := by decide +kernel
theorem dX2_staysWarmByFilling_54 : decode cX2_staysWarmByFilling 54 = .ok (.invokevirtual 69, 3) := by decide +kernel
theorem dX2_staysWarmByFilling_57 : decode cX2_staysWarmByFilling 57 = .ok (.aload_n 0, 1) := by decide +kernel
theorem dX2_staysWarmByFilling_58 : decode cX2_staysWarmByFilling 58 = .ok (.getfield 9, 3) := by decide +kernel
theorem dX2_staysWarmByFilling_61 : decode cX2_staysWarmByFilling 61 = .ok (.iload 5, 2) := by decide +kernel
theorem dX2_staysWarmByFilling_63 : decode cX2_staysWarmByFilling 63 = .ok (.iaload, 1) := by decide +kernel
theorem dX2_staysWarmByFilling_64 : decode cX2_staysWarmByFilling 64 = .ok (.isub, 1) := by decide +kernel
theorem dX2_staysWarmByFilling_65 : decode cX2_staysWarmByFilling 65 = .ok (.istore 6, 2) := by decide +kernel
theorem dX2_staysWarmByFilling_67 : decode cX2_staysWarmByFilling 67 = .ok (.iload 6, 2) := by decide +kernel
theorem dX2_staysWarmByFilling_69 : decode cX2_staysWarmByFilling 69 = .ok (.ifCond .gt 5, 3) := by decide +kernel
theorem dX2_staysWarmByFilling_72 : decode cX2_staysWarmByFilling 72 = .ok (.iconst 0, 1) := by decide +kernel
theorem dX2_staysWarmByFilling_73 : decode cX2_staysWarmByFilling 73 = .ok (.ireturn, 1) := by decide +kernel
theorem dX2_staysWarmByFilling_74 : decode cX2_staysWarmByFilling 74 = .ok (.aload_n 0, 1) := by decide +kernel
theorem dX2_staysWarmByFilling_75 : decode cX2_staysWarmByFilling 75 = .ok (.getfield 15, 3) := by decide +kernel
theorem dX2_staysWarmByFilling_78 : decode cX2_staysWarmByFilling 78 = .ok (.iload 4, 2) := by decide +kernel
theorem dX2_staysWarmByFilling_80 : decode cX2_staysWarmByFilling 80 = .ok (.bipush 6, 2) := by decide +kernel
theorem dX2_staysWarmByFilling_82 : decode cX2_staysWarmByFilling 82 = .ok (.iadd, 1) := by decide +kernel
theorem dX2_staysWarmByFilling_83 : decode cX2_staysWarmByFilling 83 = .ok (.iload 5, 2) := by decide +kernel
theorem dX2_staysWarmByFilling_85 : decode cX2_staysWarmByFilling 85 = .ok (.iadd, 1) := by decide +kernel
theorem dX2_staysWarmByFilling_86 : decode cX2_staysWarmByFilling 86 = .ok (.iload 6, 2) := by decide +kernel
theorem dX2_staysWarmByFilling_88 : decode cX2_staysWarmByFilling 88 = .ok (.iastore, 1) := by decide +kernel
theorem dX2_staysWarmByFilling_89 : decode cX2_staysWarmByFilling 89 = .ok (.iinc 5 1, 3) := by decide +kernel
theorem dX2_staysWarmByFilling_92 : decode cX2_staysWarmByFilling 92 = .ok (.goto (-72), 3) := by decide +kernel
theorem dX2_staysWarmByFilling_95 : decode cX2_staysWarmByFilling 95 = .ok (.iconst 1, 1) := by decide +kernel
theorem dX2_staysWarmByFilling_96 : decode cX2_staysWarmByFilling 96 = .ok (.ireturn, 1) := by decide +kernel
set_option maxRecDepth 20000 in
theorem ggX3_init_X6_init : GoodIn wsX3_init wsX6_init := goodIn_r _ [13, 14, 2, 3, 8, 15, 16, 17, 18, 19, 20, 6, 21, 22, 23, 24, 35, 36, 37, 38, 39, 40] (by decide +kernel) (by decide +kernel)
set_option maxRecDepth 20000 in
theorem gX3_init_X6_init : GoodIn wsX3_init (wsX6_init) := ggX3_init_X6_init
set_option maxRecDepth 20000 in
theorem ggX3_init_X3_begin : GoodIn wsX3_init wsX3_begin := goodIn_r _ [29, 30, 31, 7, 32, 33, 9, 34, 10, 41, 42, 43, 44, 45, 46, 35, 36, 37, 38, 39, 40] (by decide +kernel) (by decide +kernel)
set_option maxRecDepth 20000 in
theorem gX3_init_X3_begin : GoodIn wsX3_init (wsV RX3 25 RX3 yX3_begin wsX3_begin) := goodIn_app (goodIn_of _ (by decide +kernel)) ggX3_init_X3_begin
theorem dX3_init_0 : decode cX3_init 0 = .ok (.aload_n 0, 1) := by decide +kernel
theorem dX3_init_1 : decode cX3_init 1 = .ok (.invokespecial 3, 3) := by decide +kernel
theorem dX3_init_4 : decode cX3_init 4 = .ok (.aload_n 0, 1) := by decide +kernel
theorem dX3_init_5 : decode cX3_init 5 = .ok (.new 9, 3) := by decide +kernel
theorem dX3_init_8 : decode cX3_init 8 = .ok (.dup, 1) := by decide +kernel
theorem dX3_init_9 : decode cX3_init 9 = .ok (.invokespecial 11, 3) := by decide +kernel
theorem dX3_init_12 : decode cX3_init 12 = .ok (.putfield 12, 3) := by decide +kernel
theorem dX3_init_15 : decode cX3_init 15 = .ok (.aload_n 0, 1) := by decide +kernel
theorem dX3_init_16 : decode cX3_init 16 = .ok (.bipush 6, 2) := by decide +kernel
theorem dX3_init_18 : decode cX3_init 18 = .ok (.newarray .int, 2) := by decide +kernel
theorem dX3_init_20 : decode cX3_init 20 = .ok (.putfield 18, 3) := by decide +kernel
theorem dX3_init_23 : decode cX3_init 23 = .ok (.aload_n 0, 1) := by decide +kernel
theorem dX3_init_24 : decode cX3_init 24 = .ok (.bipush 6, 2) := by decide +kernel
theorem dX3_init_26 : decode cX3_init 26 = .ok (.newarray .int, 2) := by decide +kernel
theorem dX3_init_28 : decode cX3_init 28 = .ok (.putfield 22, 3) := by decide +kernel
theorem dX3_init_31 : decode cX3_init 31 = .ok (.aload_n 0, 1) := by decide +kernel
theorem dX3_init_32 : decode cX3_init 32 = .ok (.invokevirtual 25, 3) := by decide +kernel
theorem dX3_init_35 : decode cX3_init 35 = .ok (.return_, 1) := by decide +kernel
theorem dX3_begin_0 : decode cX3_begin 0 = .ok (.aload_n 0, 1) := by decide +kernel
theorem dX3_begin_1 : decode cX3_begin 1 = .ok (.iconst 0, 1) := by decide +kernel
theorem dX3_begin_2 : decode cX3_begin 2 = .ok (.putfield 28, 3) := by decide +kernel
theorem dX3_begin_5 : decode cX3_begin 5 = .ok (.aload_n 0, 1) := by decide +kernel
theorem dX3_begin_6 : decode cX3_begin 6 = .ok (.iconst 0, 1) := by decide +kernel
theorem dX3_begin_7 : decode cX3_begin 7 = .ok (.putfield 32, 3) := by decide +kernel
theorem dX3_begin_10 : decode cX3_begin 10 = .ok (.aload_n 0, 1) := by decide +kernel
theorem dX3_begin_11 : decode cX3_begin 11 = .ok (.aload_n 0, 1) := by decide +kernel
theorem dX3_begin_12 : decode cX3_begin 12 = .ok (.getfield 12, 3) := by decide +kernel
theorem dX3_begin_15 : decode cX3_begin 15 = .ok (.getfield 35, 3) := by decide +kernel
theorem dX3_begin_18 : decode cX3_begin 18 = .ok (.putfield 38, 3) := by decide +kernel
theorem dX3_begin_21 : decode cX3_begin 21 = .ok (.iconst 0, 1) := by decide +kernel
theorem dX3_begin_22 : decode cX3_begin 22 = .ok (.istore_n 1, 1) := by decide +kernel
theorem dX3_begin_23 : decode cX3_begin 23 = .ok (.iload_n 1, 1) := by decide +kernel
theorem dX3_begin_24 : decode cX3_begin 24 = .ok (.bipush 6, 2) := by decide +kernel
theorem dX3_begin_26 : decode cX3_begin 26 = .ok (.if_icmp .ge 31, 3) := by decide +kernel
theorem dX3_begin_29 : decode cX3_begin 29 = .ok (.aload_n 0, 1) := by decide +kernel
theorem dX3_begin_30 : decode cX3_begin 30 = .ok (.getfield 18, 3) := by decide +kernel
theorem dX3_begin_33 : decode cX3_begin 33 = .ok (.iload_n 1, 1) := by decide +kernel
theorem dX3_begin_34 : decode cX3_begin 34 = .ok (.aload_n 0, 1) := by decide +kernel
theorem dX3_begin_35 : decode cX3_begin 35 = .ok (.getfield 12, 3) := by decide +kernel
theorem dX3_begin_38 : decode cX3_begin 38 = .ok (.getfield 39, 3) := by decide +kernel
theorem dX3_begin_41 : decode cX3_begin 41 = .ok (.iload_n 1, 1) := by decide +kernel
theorem dX3_begin_42 : decode cX3_begin 42 = .ok (.iaload, 1) := by decide +kernel
theorem dX3_begin_43 : decode cX3_begin 43 = .ok (.iastore, 1) := by decide +kernel
theorem dX3_begin_44 : decode cX3_begin 44 = .ok (.aload_n 0, 1) := by decide +kernel
theorem dX3_begin_45 : decode cX3_begin 45 = .ok (.getfield 22, 3) := by decide +kernel
theorem dX3_begin_48 : decode cX3_begin 48 = .ok (.iload_n 1, 1) := by decide +kernel
theorem dX3_begin_49 : decode cX3_begin 49 = .ok (.iload_n 1, 1) := by decide +kernel
theorem dX3_begin_50 : decode cX3_begin 50 = .ok (.iastore, 1) := by decide +kernel
theorem dX3_begin_51 : decode cX3_begin 51 = .ok (.iinc 1 1, 3) := by decide +kernel
theorem dX3_begin_54 : decode cX3_begin 54 = .ok (.goto (-31), 3) := by decide +kernel
theorem dX3_begin_57 : decode cX3_begin 57 = .ok (.return_, 1) := by decide +kernel
theorem dX3_has_0 : decode cX3_has 0 = .ok (.iload_n 1, 1) := by decide +kernel
theorem dX3_has_1 : decode cX3_has 1 = .ok (.ifCond .lt 18, 3) := by decide +kernel
theorem dX3_has_4 : decode cX3_has 4 = .ok (.iload_n 1, 1) := by decide +kernel
theorem dX3_has_5 : decode cX3_has 5 = .ok (.aload_n 0, 1) := by decide +kernel
theorem dX3_has_6 : decode cX3_has 6 = .ok (.getfield 12, 3) := by decide +kernel
theorem dX3_has_9 : decode cX3_has 9 = .ok (.getfield 40, 3) := by decide +kernel
theorem dX3_has_12 : decode cX3_has 12 = .ok (.if_icmp .ge 7, 3) := by decide +kernel
theorem dX3_has_15 : decode cX3_has 15 = .ok (.iconst 1, 1) := by decide +kernel
theorem dX3_has_16 : decode cX3_has 16 = .ok (.goto 4, 3) := by decide +kernel
theorem dX3_has_19 : decode cX3_has 19 = .ok (.iconst 0, 1) := by decide +kernel
theorem dX3_has_20 : decode cX3_has 20 = .ok (.ireturn, 1) := by decide +kernel
theorem dX3_numberWarm_0 : decode cX3_numberWarm 0 = .ok (.iconst 0, 1) := by decide +kernel
theorem dX3_numberWarm_1 : decode cX3_numberWarm 1 = .ok (.istore_n 1, 1) := by decide +kernel
theorem dX3_numberWarm_2 : decode cX3_numberWarm 2 = .ok (.iconst 0, 1) := by decide +kernel
theorem dX3_numberWarm_3 : decode cX3_numberWarm 3 = .ok (.istore_n 2, 1) := by decide +kernel
theorem dX3_numberWarm_4 : decode cX3_numberWarm 4 = .ok (.iload_n 2, 1) := by decide +kernel
theorem dX3_numberWarm_5 : decode cX3_numberWarm 5 = .ok (.aload_n 0, 1) := by decide +kernel
theorem dX3_numberWarm_6 : decode cX3_numberWarm 6 = .ok (.getfield 12, 3) := by decide +kernel
theorem dX3_numberWarm_9 : decode cX3_numberWarm 9 = .ok (.getfield 40, 3) := by decide +kernel
theorem dX3_numberWarm_12 : decode cX3_numberWarm 12 = .ok (.if_icmp .ge 21, 3) := by decide +kernel
theorem dX3_numberWarm_15 : decode cX3_numberWarm 15 = .ok (.aload_n 0, 1) := by decide +kernel
theorem dX3_numberWarm_16 : decode cX3_numberWarm 16 = .ok (.getfield 18, 3) := by decide +kernel
theorem dX3_numberWarm_19 : decode cX3_numberWarm 19 = .ok (.iload_n 2, 1) := by decide +kernel
theorem dX3_numberWarm_20 : decode cX3_numberWarm 20 = .ok (.iaload, 1) := by decide +kernel
theorem dX3_numberWarm_21 : decode cX3_numberWarm 21 = .ok (.ifCond .le 6, 3) := by decide +kernel
theorem dX3_numberWarm_24 : decode cX3_numberWarm 24 = .ok (.iinc 1 1, 3) := by decide +kernel
theorem dX3_numberWarm_27 : decode cX3_numberWarm 27 = .ok (.iinc 2 1, 3) := by decide +kernel
theorem dX3_numberWarm_30 : decode cX3_numberWarm 30 = .ok (.goto (-26), 3) := by decide +kernel
theorem dX3_numberWarm_33 : decode cX3_numberWarm 33 = .ok (.iload_n 1, 1) := by decide +kernel
theorem dX3_numberWarm_34 : decode cX3_numberWarm 34 = .ok (.ireturn, 1) := by decide +kernel
set_option maxRecDepth 20000 in
theorem ggX3_letHourPass_X3_loss : GoodIn wsX3_letHourPass wsX3_loss := goodIn_r _ [15, 2, 16, 3, 7, 8, 9, 10, 17, 18, 19, 20, 21, 22, 23, 24, 25, 26, 27, 28] (by decide +kernel) (by decide +kernel)
set_option maxRecDepth 20000 in
theorem gX3_letHourPass_X3_loss : GoodIn wsX3_letHourPass (wsV RX3 43 RX3 yX3_loss wsX3_loss) := goodIn_app (goodIn_of _ (by decide +kernel)) ggX3_letHourPass_X3_loss
theorem dX3_letHourPass_0 : decode cX3_letHourPass 0 = .ok (.aload_n 0, 1) := by decide +kernel
theorem dX3_letHourPass_1 : decode cX3_letHourPass 1 = .ok (.dup, 1) := by decide +kernel
theorem dX3_letHourPass_2 : decode cX3_letHourPass 2 = .ok (.getfield 28, 3) := by decide +kernel
theorem dX3_letHourPass_5 : decode cX3_letHourPass 5 = .ok (.iconst 1, 1) := by decide +kernel
theorem dX3_letHourPass_6 : decode cX3_letHourPass 6 = .ok (.iadd, 1) := by decide +kernel
theorem dX3_letHourPass_7 : decode cX3_letHourPass 7 = .ok (.putfield 28, 3) := by decide +kernel
theorem dX3_letHourPass_10 : decode cX3_letHourPass 10 = .ok (.iconst 0, 1) := by decide +kernel
theorem dX3_letHourPass_11 : decode cX3_letHourPass 11 = .ok (.istore_n 1, 1) := by decide +kernel
theorem dX3_letHourPass_12 : decode cX3_letHourPass 12 = .ok (.iload_n 1, 1) := by decide +kernel
theorem dX3_letHourPass_13 : decode cX3_letHourPass 13 = .ok (.aload_n 0, 1) := by decide +kernel
theorem dX3_letHourPass_14 : decode cX3_letHourPass 14 = .ok (.getfield 12, 3) := by decide +kernel
theorem dX3_letHourPass_17 : decode cX3_letHourPass 17 = .ok (.getfield 40, 3) := by decide +kernel
theorem dX3_letHourPass_20 : decode cX3_letHourPass 20 = .ok (.if_icmp .ge 39, 3) := by decide +kernel
theorem dX3_letHourPass_23 : decode cX3_letHourPass 23 = .ok (.aload_n 0, 1) := by decide +kernel
theorem dX3_letHourPass_24 : decode cX3_letHourPass 24 = .ok (.getfield 18, 3) := by decide +kernel
theorem dX3_letHourPass_27 : decode cX3_letHourPass 27 = .ok (.iload_n 1, 1) := by decide +kernel
theorem dX3_letHourPass_28 : decode cX3_letHourPass 28 = .ok (.iconst 0, 1) := by decide +kernel
theorem dX3_letHourPass_29 : decode cX3_letHourPass 29 = .ok (.aload_n 0, 1) := by decide +kernel
theorem dX3_letHourPass_30 : decode cX3_letHourPass 30 = .ok (.getfield 18, 3) := by decide +kernel
theorem dX3_letHourPass_33 : decode cX3_letHourPass 33 = .ok (.iload_n 1, 1) := by decide +kernel
theorem dX3_letHourPass_34 : decode cX3_letHourPass 34 = .ok (.iaload, 1) := by decide +kernel
theorem dX3_letHourPass_35 : decode cX3_letHourPass 35 = .ok (.aload_n 0, 1) := by decide +kernel
theorem dX3_letHourPass_36 : decode cX3_letHourPass 36 = .ok (.iload_n 1, 1) := by decide +kernel
theorem dX3_letHourPass_37 : decode cX3_letHourPass 37 = .ok (.aload_n 0, 1) := by decide +kernel
theorem dX3_letHourPass_38 : decode cX3_letHourPass 38 = .ok (.getfield 22, 3) := by decide +kernel
theorem dX3_letHourPass_41 : decode cX3_letHourPass 41 = .ok (.aload_n 0, 1) := by decide +kernel
theorem dX3_letHourPass_42 : decode cX3_letHourPass 42 = .ok (.getfield 32, 3) := by decide +kernel
theorem dX3_letHourPass_45 : decode cX3_letHourPass 45 = .ok (.invokevirtual 43, 3) := by decide +kernel
theorem dX3_letHourPass_48 : decode cX3_letHourPass 48 = .ok (.isub, 1) := by decide +kernel
theorem dX3_letHourPass_49 : decode cX3_letHourPass 49 = .ok (.invokestatic 47, 3) := by decide +kernel
theorem dX3_letHourPass_52 : decode cX3_letHourPass 52 = .ok (.iastore, 1) := by decide +kernel
theorem dX3_letHourPass_53 : decode cX3_letHourPass 53 = .ok (.iinc 1 1, 3) := by decide +kernel
theorem dX3_letHourPass_56 : decode cX3_letHourPass 56 = .ok (.goto (-44), 3) := by decide +kernel
theorem dX3_letHourPass_59 : decode cX3_letHourPass 59 = .ok (.return_, 1) := by decide +kernel
theorem dX3_warmBy_0 : decode cX3_warmBy 0 = .ok (.bipush 99, 2) := by decide +kernel
theorem dX3_warmBy_2 : decode cX3_warmBy 2 = .ok (.iload_n 1, 1) := by decide +kernel
theorem dX3_warmBy_3 : decode cX3_warmBy 3 = .ok (.iload_n 2, 1) := by decide +kernel
theorem dX3_warmBy_4 : decode cX3_warmBy 4 = .ok (.aload_n 0, 1) := by decide +kernel
theorem dX3_warmBy_5 : decode cX3_warmBy 5 = .ok (.getfield 12, 3) := by decide +kernel
theorem dX3_warmBy_8 : decode cX3_warmBy 8 = .ok (.getfield 53, 3) := by decide +kernel
theorem dX3_warmBy_11 : decode cX3_warmBy 11 = .ok (.imul, 1) := by decide +kernel
theorem dX3_warmBy_12 : decode cX3_warmBy 12 = .ok (.iadd, 1) := by decide +kernel
theorem dX3_warmBy_13 : decode cX3_warmBy 13 = .ok (.invokestatic 56, 3) := by decide +kernel
theorem dX3_warmBy_16 : decode cX3_warmBy 16 = .ok (.ireturn, 1) := by decide +kernel
theorem dX3_loss_0 : decode cX3_loss 0 = .ok (.aload_n 0, 1) := by decide +kernel
theorem dX3_loss_1 : decode cX3_loss 1 = .ok (.getfield 12, 3) := by decide +kernel
theorem dX3_loss_4 : decode cX3_loss 4 = .ok (.getfield 59, 3) := by decide +kernel
theorem dX3_loss_7 : decode cX3_loss 7 = .ok (.iload_n 1, 1) := by decide +kernel
theorem dX3_loss_8 : decode cX3_loss 8 = .ok (.iaload, 1) := by decide +kernel
theorem dX3_loss_9 : decode cX3_loss 9 = .ok (.iload_n 3, 1) := by decide +kernel
theorem dX3_loss_10 : decode cX3_loss 10 = .ok (.iadd, 1) := by decide +kernel
theorem dX3_loss_11 : decode cX3_loss 11 = .ok (.istore 4, 2) := by decide +kernel
theorem dX3_loss_13 : decode cX3_loss 13 = .ok (.iconst 0, 1) := by decide +kernel
theorem dX3_loss_14 : decode cX3_loss 14 = .ok (.istore 5, 2) := by decide +kernel
theorem dX3_loss_16 : decode cX3_loss 16 = .ok (.iload 5, 2) := by decide +kernel
theorem dX3_loss_18 : decode cX3_loss 18 = .ok (.aload_n 0, 1) := by decide +kernel
theorem dX3_loss_19 : decode cX3_loss 19 = .ok (.getfield 12, 3) := by decide +kernel
theorem dX3_loss_22 : decode cX3_loss 22 = .ok (.getfield 40, 3) := by decide +kernel
theorem dX3_loss_25 : decode cX3_loss 25 = .ok (.if_icmp .ge 28, 3) := by decide +kernel
theorem dX3_loss_28 : decode cX3_loss 28 = .ok (.iload 5, 2) := by decide +kernel
theorem dX3_loss_30 : decode cX3_loss 30 = .ok (.iload_n 1, 1) := by decide +kernel
theorem dX3_loss_31 : decode cX3_loss 31 = .ok (.if_icmp .eq 16, 3) := by decide +kernel
theorem dX3_loss_34 : decode cX3_loss 34 = .ok (.aload_n 2, 1) := by decide +kernel
theorem dX3_loss_35 : decode cX3_loss 35 = .ok (.iload 5, 2) := by decide +kernel
theorem dX3_loss_37 : decode cX3_loss 37 = .ok (.iaload, 1) := by decide +kernel
theorem dX3_loss_38 : decode cX3_loss 38 = .ok (.aload_n 2, 1) := by decide +kernel
theorem dX3_loss_39 : decode cX3_loss 39 = .ok (.iload_n 1, 1) := by decide +kernel
theorem dX3_loss_40 : decode cX3_loss 40 = .ok (.iaload, 1) := by decide +kernel
theorem dX3_loss_41 : decode cX3_loss 41 = .ok (.if_icmp .ne 6, 3) := by decide +kernel
theorem dX3_loss_44 : decode cX3_loss 44 = .ok (.iinc 4 (-2), 3) := by decide +kernel
theorem dX3_loss_47 : decode cX3_loss 47 = .ok (.iinc 5 1, 3) := by decide +kernel
theorem dX3_loss_50 : decode cX3_loss 50 = .ok (.goto (-34), 3) := by decide +kernel
theorem dX3_loss_53 : decode cX3_loss 53 = .ok (.iconst 1, 1) := by decide +kernel
theorem dX3_loss_54 : decode cX3_loss 54 = .ok (.iload 4, 2) := by decide +kernel
theorem dX3_loss_56 : decode cX3_loss 56 = .ok (.invokestatic 47, 3) := by decide +kernel
theorem dX3_loss_59 : decode cX3_loss 59 = .ok (.ireturn, 1) := by decide +kernel
set_option maxRecDepth 20000 in
theorem ggX3_lasts_X3_loss : GoodIn wsX3_lasts wsX3_loss := goodIn_r _ [7, 8, 9, 10, 11, 12, 13, 14, 15, 16, 17, 18, 19, 20, 21, 22, 23, 24, 25, 26] (by decide +kernel) (by decide +kernel)
set_option maxRecDepth 20000 in
theorem gX3_lasts_X3_loss : GoodIn wsX3_lasts (wsV RX3 43 RX3 yX3_loss wsX3_loss) := goodIn_app (goodIn_of _ (by decide +kernel)) ggX3_lasts_X3_loss
theorem dX3_lasts_0 : decode cX3_lasts 0 = .ok (.aload_n 0, 1) := by decide +kernel
theorem dX3_lasts_1 : decode cX3_lasts 1 = .ok (.iload_n 1, 1) := by decide +kernel
theorem dX3_lasts_2 : decode cX3_lasts 2 = .ok (.aload_n 2, 1) := by decide +kernel
theorem dX3_lasts_3 : decode cX3_lasts 3 = .ok (.aload_n 0, 1) := by decide +kernel
theorem dX3_lasts_4 : decode cX3_lasts 4 = .ok (.getfield 32, 3) := by decide +kernel
theorem dX3_lasts_7 : decode cX3_lasts 7 = .ok (.invokevirtual 43, 3) := by decide +kernel
theorem dX3_lasts_10 : decode cX3_lasts 10 = .ok (.istore_n 3, 1) := by decide +kernel
theorem dX3_lasts_11 : decode cX3_lasts 11 = .ok (.iload_n 3, 1) := by decide +kernel
theorem dX3_lasts_12 : decode cX3_lasts 12 = .ok (.ifCond .le 18, 3) := by decide +kernel
theorem dX3_lasts_15 : decode cX3_lasts 15 = .ok (.aload_n 0, 1) := by decide +kernel
theorem dX3_lasts_16 : decode cX3_lasts 16 = .ok (.getfield 18, 3) := by decide +kernel
theorem dX3_lasts_19 : decode cX3_lasts 19 = .ok (.iload_n 1, 1) := by decide +kernel
theorem dX3_lasts_20 : decode cX3_lasts 20 = .ok (.iaload, 1) := by decide +kernel
theorem dX3_lasts_21 : decode cX3_lasts 21 = .ok (.iload_n 3, 1) := by decide +kernel
theorem dX3_lasts_22 : decode cX3_lasts 22 = .ok (.iadd, 1) := by decide +kernel
theorem dX3_lasts_23 : decode cX3_lasts 23 = .ok (.iconst 1, 1) := by decide +kernel
theorem dX3_lasts_24 : decode cX3_lasts 24 = .ok (.isub, 1) := by decide +kernel
theorem dX3_lasts_25 : decode cX3_lasts 25 = .ok (.iload_n 3, 1) := by decide +kernel
theorem dX3_lasts_26 : decode cX3_lasts 26 = .ok (.idiv, 1) := by decide +kernel
theorem dX3_lasts_27 : decode cX3_lasts 27 = .ok (.goto 5, 3) := by decide +kernel
theorem dX3_lasts_30 : decode cX3_lasts 30 = .ok (.bipush 99, 2) := by decide +kernel
theorem dX3_lasts_32 : decode cX3_lasts 32 = .ok (.ireturn, 1) := by decide +kernel
set_option maxRecDepth 20000 in
theorem ggX3_allLast_X3_lasts : GoodIn wsX3_allLast wsX3_lasts := goodIn_r _ [11, 12, 13, 14, 15, 16, 10, 17, 1, 18, 2, 19, 20, 5, 21, 22, 23, 24, 25, 26, 27, 28, 29, 30, 31, 32, 33] (by decide +kernel) (by decide +kernel)
set_option maxRecDepth 20000 in
theorem gX3_allLast_X3_lasts : GoodIn wsX3_allLast (wsV RX3 62 RX3 yX3_lasts wsX3_lasts) := goodIn_app (goodIn_of _ (by decide +kernel)) ggX3_allLast_X3_lasts
theorem dX3_allLast_0 : decode cX3_allLast 0 = .ok (.bipush 99, 2) := by decide +kernel
theorem dX3_allLast_2 : decode cX3_allLast 2 = .ok (.istore_n 2, 1) := by decide +kernel
theorem dX3_allLast_3 : decode cX3_allLast 3 = .ok (.iconst 0, 1) := by decide +kernel
theorem dX3_allLast_4 : decode cX3_allLast 4 = .ok (.istore_n 3, 1) := by decide +kernel
theorem dX3_allLast_5 : decode cX3_allLast 5 = .ok (.iload_n 3, 1) := by decide +kernel
theorem dX3_allLast_6 : decode cX3_allLast 6 = .ok (.aload_n 0, 1) := by decide +kernel
theorem dX3_allLast_7 : decode cX3_allLast 7 = .ok (.getfield 12, 3) := by decide +kernel
theorem dX3_allLast_10 : decode cX3_allLast 10 = .ok (.getfield 40, 3) := by decide +kernel
theorem dX3_allLast_13 : decode cX3_allLast 13 = .ok (.if_icmp .ge 20, 3) := by decide +kernel
theorem dX3_allLast_16 : decode cX3_allLast 16 = .ok (.iload_n 2, 1) := by decide +kernel
theorem dX3_allLast_17 : decode cX3_allLast 17 = .ok (.aload_n 0, 1) := by decide +kernel
theorem dX3_allLast_18 : decode cX3_allLast 18 = .ok (.iload_n 3, 1) := by decide +kernel
theorem dX3_allLast_19 : decode cX3_allLast 19 = .ok (.aload_n 1, 1) := by decide +kernel
theorem dX3_allLast_20 : decode cX3_allLast 20 = .ok (.invokevirtual 62, 3) := by decide +kernel
theorem dX3_allLast_23 : decode cX3_allLast 23 = .ok (.invokestatic 56, 3) := by decide +kernel
theorem dX3_allLast_26 : decode cX3_allLast 26 = .ok (.istore_n 2, 1) := by decide +kernel
theorem dX3_allLast_27 : decode cX3_allLast 27 = .ok (.iinc 3 1, 3) := by decide +kernel
theorem dX3_allLast_30 : decode cX3_allLast 30 = .ok (.goto (-25), 3) := by decide +kernel
theorem dX3_allLast_33 : decode cX3_allLast 33 = .ok (.iload_n 2, 1) := by decide +kernel
theorem dX3_allLast_34 : decode cX3_allLast 34 = .ok (.ireturn, 1) := by decide +kernel
set_option maxRecDepth 20000 in
theorem ggX3_soundIn_X3_loss : GoodIn wsX3_soundIn wsX3_loss := goodIn_r _ [10, 4, 11, 12, 13, 14, 15, 16, 17, 18, 19, 20, 21, 22, 23, 24, 25, 26, 27, 28] (by decide +kernel) (by decide +kernel)
set_option maxRecDepth 20000 in
theorem gX3_soundIn_X3_loss : GoodIn wsX3_soundIn (wsV RX3 43 RX3 yX3_loss wsX3_loss) := goodIn_app (goodIn_of _ (by decide +kernel)) ggX3_soundIn_X3_loss
theorem dX3_soundIn_0 : decode cX3_soundIn 0 = .ok (.aload_n 0, 1) := by decide +kernel
theorem dX3_soundIn_1 : decode cX3_soundIn 1 = .ok (.getfield 18, 3) := by decide +kernel
theorem dX3_soundIn_4 : decode cX3_soundIn 4 = .ok (.iload_n 1, 1) := by decide +kernel
theorem dX3_soundIn_5 : decode cX3_soundIn 5 = .ok (.iaload, 1) := by decide +kernel
theorem dX3_soundIn_6 : decode cX3_soundIn 6 = .ok (.iload_n 2, 1) := by decide +kernel
theorem dX3_soundIn_7 : decode cX3_soundIn 7 = .ok (.aload_n 0, 1) := by decide +kernel
theorem dX3_soundIn_8 : decode cX3_soundIn 8 = .ok (.iload_n 1, 1) := by decide +kernel
theorem dX3_soundIn_9 : decode cX3_soundIn 9 = .ok (.aload_n 0, 1) := by decide +kernel
theorem dX3_soundIn_10 : decode cX3_soundIn 10 = .ok (.getfield 22, 3) := by decide +kernel
theorem dX3_soundIn_13 : decode cX3_soundIn 13 = .ok (.aload_n 0, 1) := by decide +kernel
theorem dX3_soundIn_14 : decode cX3_soundIn 14 = .ok (.getfield 32, 3) := by decide +kernel
theorem dX3_soundIn_17 : decode cX3_soundIn 17 = .ok (.invokevirtual 43, 3) := by decide +kernel
theorem dX3_soundIn_20 : decode cX3_soundIn 20 = .ok (.imul, 1) := by decide +kernel
theorem dX3_soundIn_21 : decode cX3_soundIn 21 = .ok (.isub, 1) := by decide +kernel
theorem dX3_soundIn_22 : decode cX3_soundIn 22 = .ok (.istore_n 3, 1) := by decide +kernel
theorem dX3_soundIn_23 : decode cX3_soundIn 23 = .ok (.iload_n 3, 1) := by decide +kernel
theorem dX3_soundIn_24 : decode cX3_soundIn 24 = .ok (.ifCond .gt 5, 3) := by decide +kernel
theorem dX3_soundIn_27 : decode cX3_soundIn 27 = .ok (.iconst 0, 1) := by decide +kernel
theorem dX3_soundIn_28 : decode cX3_soundIn 28 = .ok (.ireturn, 1) := by decide +kernel
theorem dX3_soundIn_29 : decode cX3_soundIn 29 = .ok (.iload_n 3, 1) := by decide +kernel
theorem dX3_soundIn_30 : decode cX3_soundIn 30 = .ok (.aload_n 0, 1) := by decide +kernel
theorem dX3_soundIn_31 : decode cX3_soundIn 31 = .ok (.getfield 12, 3) := by decide +kernel
theorem dX3_soundIn_34 : decode cX3_soundIn 34 = .ok (.getfield 66, 3) := by decide +kernel
theorem dX3_soundIn_37 : decode cX3_soundIn 37 = .ok (.iload_n 1, 1) := by decide +kernel
theorem dX3_soundIn_38 : decode cX3_soundIn 38 = .ok (.iaload, 1) := by decide +kernel
theorem dX3_soundIn_39 : decode cX3_soundIn 39 = .ok (.if_icmp .lt 7, 3) := by decide +kernel
theorem dX3_soundIn_42 : decode cX3_soundIn 42 = .ok (.iconst 2, 1) := by decide +kernel
theorem dX3_soundIn_43 : decode cX3_soundIn 43 = .ok (.goto 4, 3) := by decide +kernel
theorem dX3_soundIn_46 : decode cX3_soundIn 46 = .ok (.iconst 1, 1) := by decide +kernel
theorem dX3_soundIn_47 : decode cX3_soundIn 47 = .ok (.ireturn, 1) := by decide +kernel
set_option maxRecDepth 20000 in
theorem ggX3_mostOfOneSound_X3_soundIn : GoodIn wsX3_mostOfOneSound wsX3_soundIn := goodIn_r _ [11, 12, 13, 14, 1, 15, 16, 17, 18, 10, 19, 20, 2, 3, 4, 5, 6, 21, 22, 23, 24, 25, 26, 27, 28, 29, 30, 31, 32] (by decide +kernel) (by decide +kernel)
set_option maxRecDepth 20000 in
theorem gX3_mostOfOneSound_X3_soundIn : GoodIn wsX3_mostOfOneSound (wsV RX3 69 RX3 yX3_soundIn wsX3_soundIn) := goodIn_app (goodIn_of _ (by decide +kernel)) ggX3_mostOfOneSound_X3_soundIn
theorem dX3_mostOfOneSound_0 : decode cX3_mostOfOneSound 0 = .ok (.iconst 0, 1) := by decide +kernel
theorem dX3_mostOfOneSound_1 : decode cX3_mostOfOneSound 1 = .ok (.istore_n 3, 1) := by decide +kernel
theorem dX3_mostOfOneSound_2 : decode cX3_mostOfOneSound 2 = .ok (.iconst 0, 1) := by decide +kernel
theorem dX3_mostOfOneSound_3 : decode cX3_mostOfOneSound 3 = .ok (.istore 4, 2) := by decide +kernel
theorem dX3_mostOfOneSound_5 : decode cX3_mostOfOneSound 5 = .ok (.iload 4, 2) := by decide +kernel
theorem dX3_mostOfOneSound_7 : decode cX3_mostOfOneSound 7 = .ok (.iconst 2, 1) := by decide +kernel
theorem dX3_mostOfOneSound_8 : decode cX3_mostOfOneSound 8 = .ok (.if_icmp .gt 65, 3) := by decide +kernel
theorem dX3_mostOfOneSound_11 : decode cX3_mostOfOneSound 11 = .ok (.iconst 0, 1) := by decide +kernel
theorem dX3_mostOfOneSound_12 : decode cX3_mostOfOneSound 12 = .ok (.istore 5, 2) := by decide +kernel
theorem dX3_mostOfOneSound_14 : decode cX3_mostOfOneSound 14 = .ok (.iconst 0, 1) := by decide +kernel
theorem dX3_mostOfOneSound_15 : decode cX3_mostOfOneSound 15 = .ok (.istore 6, 2) := by decide +kernel
theorem dX3_mostOfOneSound_17 : decode cX3_mostOfOneSound 17 = .ok (.iload 6, 2) := by decide +kernel
theorem dX3_mostOfOneSound_19 : decode cX3_mostOfOneSound 19 = .ok (.aload_n 0, 1) := by decide +kernel
theorem dX3_mostOfOneSound_20 : decode cX3_mostOfOneSound 20 = .ok (.getfield 12, 3) := by decide +kernel
theorem dX3_mostOfOneSound_23 : decode cX3_mostOfOneSound 23 = .ok (.getfield 40, 3) := by decide +kernel
theorem dX3_mostOfOneSound_26 : decode cX3_mostOfOneSound 26 = .ok (.if_icmp .ge 34, 3) := by decide +kernel
theorem dX3_mostOfOneSound_29 : decode cX3_mostOfOneSound 29 = .ok (.iload_n 1, 1) := by decide +kernel
theorem dX3_mostOfOneSound_30 : decode cX3_mostOfOneSound 30 = .ok (.iload 6, 2) := by decide +kernel
theorem dX3_mostOfOneSound_32 : decode cX3_mostOfOneSound 32 = .ok (.ishr, 1) := by decide +kernel
theorem dX3_mostOfOneSound_33 : decode cX3_mostOfOneSound 33 = .ok (.iconst 1, 1) := by decide +kernel
theorem dX3_mostOfOneSound_34 : decode cX3_mostOfOneSound 34 = .ok (.iand, 1) := by decide +kernel
theorem dX3_mostOfOneSound_35 : decode cX3_mostOfOneSound 35 = .ok (.iconst 1, 1) := by decide +kernel
theorem dX3_mostOfOneSound_36 : decode cX3_mostOfOneSound 36 = .ok (.if_icmp .ne 18, 3) := by decide +kernel
theorem dX3_mostOfOneSound_39 : decode cX3_mostOfOneSound 39 = .ok (.aload_n 0, 1) := by decide +kernel
theorem dX3_mostOfOneSound_40 : decode cX3_mostOfOneSound 40 = .ok (.iload 6, 2) := by decide +kernel
theorem dX3_mostOfOneSound_42 : decode cX3_mostOfOneSound 42 = .ok (.iload_n 2, 1) := by decide +kernel
theorem dX3_mostOfOneSound_43 : decode cX3_mostOfOneSound 43 = .ok (.invokevirtual 69, 3) := by decide +kernel
theorem dX3_mostOfOneSound_46 : decode cX3_mostOfOneSound 46 = .ok (.iload 4, 2) := by decide +kernel
theorem dX3_mostOfOneSound_48 : decode cX3_mostOfOneSound 48 = .ok (.if_icmp .ne 6, 3) := by decide +kernel
