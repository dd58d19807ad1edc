theorem dX7_listen_40 : decode cX7_listen 40 = .ok (.bipush 9, 2) := by decide +kernel
theorem dX7_listen_42 : decode cX7_listen 42 = .ok (.if_icmp .gt 33, 3) := by decide +kernel
theorem dX7_listen_45 : decode cX7_listen 45 = .ok (.aload_n 0, 1) := by decide +kernel
theorem dX7_listen_46 : decode cX7_listen 46 = .ok (.getfield 26, 3) := by decide +kernel
theorem dX7_listen_49 : decode cX7_listen 49 = .ok (.iload_n 1, 1) := by decide +kernel
theorem dX7_listen_50 : decode cX7_listen 50 = .ok (.iload 4, 2) := by decide +kernel
theorem dX7_listen_52 : decode cX7_listen 52 = .ok (.invokevirtual 187, 3) := by decide +kernel
theorem dX7_listen_55 : decode cX7_listen 55 = .ok (.istore 5, 2) := by decide +kernel
theorem dX7_listen_57 : decode cX7_listen 57 = .ok (.iload 5, 2) := by decide +kernel
theorem dX7_listen_59 : decode cX7_listen 59 = .ok (.iload_n 3, 1) := by decide +kernel
theorem dX7_listen_60 : decode cX7_listen 60 = .ok (.if_icmp .ge 9, 3) := by decide +kernel
theorem dX7_listen_63 : decode cX7_listen 63 = .ok (.iload 5, 2) := by decide +kernel
theorem dX7_listen_65 : decode cX7_listen 65 = .ok (.istore_n 3, 1) := by decide +kernel
theorem dX7_listen_66 : decode cX7_listen 66 = .ok (.iload 4, 2) := by decide +kernel
theorem dX7_listen_68 : decode cX7_listen 68 = .ok (.istore_n 2, 1) := by decide +kernel
theorem dX7_listen_69 : decode cX7_listen 69 = .ok (.iinc 4 1, 3) := by decide +kernel
theorem dX7_listen_72 : decode cX7_listen 72 = .ok (.goto (-34), 3) := by decide +kernel
theorem dX7_listen_75 : decode cX7_listen 75 = .ok (.iload_n 2, 1) := by decide +kernel
theorem dX7_listen_76 : decode cX7_listen 76 = .ok (.ireturn, 1) := by decide +kernel
set_option maxRecDepth 20000 in
theorem ggX7_rate_X3_has : GoodIn wsX7_rate wsX3_has := goodIn_r _ [7, 8, 9, 55, 56, 57, 58, 59, 60, 61, 62, 63, 64, 65, 66] (by decide +kernel) (by decide +kernel)
set_option maxRecDepth 20000 in
theorem gX7_rate_X3_has : GoodIn wsX7_rate (wsV RX7 92 RX3 yX3_has wsX3_has) := goodIn_app (goodIn_of _ (by decide +kernel)) ggX7_rate_X3_has
set_option maxRecDepth 20000 in
theorem ggX7_rate_X7_asBottle : GoodIn wsX7_rate wsX7_asBottle := goodIn_r _ [14, 15, 1, 16, 46, 47, 48, 49, 50, 51, 52, 53, 54, 55, 56, 57, 58, 59, 60] (by decide +kernel) (by decide +kernel)
set_option maxRecDepth 20000 in
theorem gX7_rate_X7_asBottle : GoodIn wsX7_rate (wsV RX7 191 RX7 yX7_asBottle wsX7_asBottle) := goodIn_app (goodIn_of _ (by decide +kernel)) ggX7_rate_X7_asBottle
set_option maxRecDepth 20000 in
theorem ggX7_rate_X7_asBosun : GoodIn wsX7_rate wsX7_asBosun := goodIn_r _ [20, 15, 21, 1, 22, 23, 10, 11, 12, 13, 14, 16, 46, 47, 48, 49, 50, 51, 52, 53, 54, 55, 56, 57, 58, 59, 60, 61, 62, 63, 64, 65, 66] (by decide +kernel) (by decide +kernel)
set_option maxRecDepth 20000 in
theorem gX7_rate_X7_asBosun : GoodIn wsX7_rate (wsV RX7 194 RX7 yX7_asBosun wsX7_asBosun) := goodIn_app (goodIn_of _ (by decide +kernel)) ggX7_rate_X7_asBosun
set_option maxRecDepth 20000 in
theorem ggX7_rate_X7_asCook : GoodIn wsX7_rate wsX7_asCook := goodIn_r _ [27, 15, 28, 1, 22, 29, 10, 11, 12, 13, 14, 16, 46, 47, 48, 49, 50, 51, 52, 53, 54, 55, 56, 57, 58, 59, 60, 61, 62, 63, 64, 65, 66] (by decide +kernel) (by decide +kernel)
set_option maxRecDepth 20000 in
theorem gX7_rate_X7_asCook : GoodIn wsX7_rate (wsV RX7 197 RX7 yX7_asCook wsX7_asCook) := goodIn_app (goodIn_of _ (by decide +kernel)) ggX7_rate_X7_asCook
set_option maxRecDepth 20000 in
theorem ggX7_rate_X7_asMate : GoodIn wsX7_rate wsX7_asMate := goodIn_r _ [33, 15, 34, 17, 18, 19, 13, 20, 21, 1, 22, 23, 10, 11, 12, 14, 16, 46, 47, 48, 49, 50, 51, 52, 53, 54, 55, 56, 57, 58, 59, 60, 61, 62, 63, 64, 65, 66] (by decide +kernel) (by decide +kernel)
set_option maxRecDepth 20000 in
theorem gX7_rate_X7_asMate : GoodIn wsX7_rate (wsV RX7 200 RX7 yX7_asMate wsX7_asMate) := goodIn_app (goodIn_of _ (by decide +kernel)) ggX7_rate_X7_asMate
set_option maxRecDepth 20000 in
theorem ggX7_rate_X7_asStoker : GoodIn wsX7_rate wsX7_asStoker := goodIn_r _ [38, 15, 39, 24, 25, 26, 13, 27, 28, 1, 22, 29, 10, 11, 12, 14, 16, 46, 47, 48, 49, 50, 51, 52, 53, 54, 55, 56, 57, 58, 59, 60, 61, 62, 63, 64, 65, 66] (by decide +kernel) (by decide +kernel)
set_option maxRecDepth 20000 in
theorem gX7_rate_X7_asStoker : GoodIn wsX7_rate (wsV RX7 203 RX7 yX7_asStoker wsX7_asStoker) := goodIn_app (goodIn_of _ (by decide +kernel)) ggX7_rate_X7_asStoker
set_option maxRecDepth 20000 in
theorem ggX7_rate_X7_asMatron : GoodIn wsX7_rate wsX7_asMatron := goodIn_r _ [43, 15, 44, 1, 45, 10, 11, 12, 13, 14, 16, 46, 47, 48, 49, 50, 51, 52, 53, 54, 55, 56, 57, 58, 59, 60] (by decide +kernel) (by decide +kernel)
set_option maxRecDepth 20000 in
theorem gX7_rate_X7_asMatron : GoodIn wsX7_rate (wsV RX7 206 RX7 yX7_asMatron wsX7_asMatron) := goodIn_app (goodIn_of _ (by decide +kernel)) ggX7_rate_X7_asMatron
theorem dX7_rate_0 : decode cX7_rate 0 = .ok (.aload_n 0, 1) := by decide +kernel
theorem dX7_rate_1 : decode cX7_rate 1 = .ok (.getfield 26, 3) := by decide +kernel
theorem dX7_rate_4 : decode cX7_rate 4 = .ok (.iload_n 2, 1) := by decide +kernel
theorem dX7_rate_5 : decode cX7_rate 5 = .ok (.invokevirtual 92, 3) := by decide +kernel
theorem dX7_rate_8 : decode cX7_rate 8 = .ok (.ifCond .ne 6, 3) := by decide +kernel
theorem dX7_rate_11 : decode cX7_rate 11 = .ok (.ldc 190, 2) := by decide +kernel
theorem dX7_rate_13 : decode cX7_rate 13 = .ok (.ireturn, 1) := by decide +kernel
theorem dX7_rate_14 : decode cX7_rate 14 = .ok (.iload_n 1, 1) := by decide +kernel
theorem dX7_rate_15 : decode cX7_rate 15 = .ok (.tableswitch 73 0 5 #[37, 43, 49, 55, 61, 67], 37) := by decide +kernel
theorem dX7_rate_52 : decode cX7_rate 52 = .ok (.aload_n 0, 1) := by decide +kernel
theorem dX7_rate_53 : decode cX7_rate 53 = .ok (.iload_n 2, 1) := by decide +kernel
theorem dX7_rate_54 : decode cX7_rate 54 = .ok (.invokevirtual 191, 3) := by decide +kernel
theorem dX7_rate_57 : decode cX7_rate 57 = .ok (.ireturn, 1) := by decide +kernel
theorem dX7_rate_58 : decode cX7_rate 58 = .ok (.aload_n 0, 1) := by decide +kernel
theorem dX7_rate_59 : decode cX7_rate 59 = .ok (.iload_n 2, 1) := by decide +kernel
theorem dX7_rate_60 : decode cX7_rate 60 = .ok (.invokevirtual 194, 3) := by decide +kernel
theorem dX7_rate_63 : decode cX7_rate 63 = .ok (.ireturn, 1) := by decide +kernel
theorem dX7_rate_64 : decode cX7_rate 64 = .ok (.aload_n 0, 1) := by decide +kernel
theorem dX7_rate_65 : decode cX7_rate 65 = .ok (.iload_n 2, 1) := by decide +kernel
theorem dX7_rate_66 : decode cX7_rate 66 = .ok (.invokevirtual 197, 3) := by decide +kernel
theorem dX7_rate_69 : decode cX7_rate 69 = .ok (.ireturn, 1) := by decide +kernel
theorem dX7_rate_70 : decode cX7_rate 70 = .ok (.aload_n 0, 1) := by decide +kernel
theorem dX7_rate_71 : decode cX7_rate 71 = .ok (.iload_n 2, 1) := by decide +kernel
theorem dX7_rate_72 : decode cX7_rate 72 = .ok (.invokevirtual 200, 3) := by decide +kernel
theorem dX7_rate_75 : decode cX7_rate 75 = .ok (.ireturn, 1) := by decide +kernel
theorem dX7_rate_76 : decode cX7_rate 76 = .ok (.aload_n 0, 1) := by decide +kernel
theorem dX7_rate_77 : decode cX7_rate 77 = .ok (.iload_n 2, 1) := by decide +kernel
theorem dX7_rate_78 : decode cX7_rate 78 = .ok (.invokevirtual 203, 3) := by decide +kernel
theorem dX7_rate_81 : decode cX7_rate 81 = .ok (.ireturn, 1) := by decide +kernel
theorem dX7_rate_82 : decode cX7_rate 82 = .ok (.aload_n 0, 1) := by decide +kernel
theorem dX7_rate_83 : decode cX7_rate 83 = .ok (.iload_n 2, 1) := by decide +kernel
theorem dX7_rate_84 : decode cX7_rate 84 = .ok (.invokevirtual 206, 3) := by decide +kernel
theorem dX7_rate_87 : decode cX7_rate 87 = .ok (.ireturn, 1) := by decide +kernel
theorem dX7_rate_88 : decode cX7_rate 88 = .ok (.ldc 190, 2) := by decide +kernel
theorem dX7_rate_90 : decode cX7_rate 90 = .ok (.ireturn, 1) := by decide +kernel
theorem dX7_asBottle_0 : decode cX7_asBottle 0 = .ok (.aload_n 0, 1) := by decide +kernel
theorem dX7_asBottle_1 : decode cX7_asBottle 1 = .ok (.dup, 1) := by decide +kernel
theorem dX7_asBottle_2 : decode cX7_asBottle 2 = .ok (.getfield 209, 3) := by decide +kernel
theorem dX7_asBottle_5 : decode cX7_asBottle 5 = .ok (.lconst 1, 1) := by decide +kernel
theorem dX7_asBottle_6 : decode cX7_asBottle 6 = .ok (.ladd, 1) := by decide +kernel
theorem dX7_asBottle_7 : decode cX7_asBottle 7 = .ok (.putfield 209, 3) := by decide +kernel
theorem dX7_asBottle_10 : decode cX7_asBottle 10 = .ok (.aload_n 0, 1) := by decide +kernel
theorem dX7_asBottle_11 : decode cX7_asBottle 11 = .ok (.getfield 26, 3) := by decide +kernel
theorem dX7_asBottle_14 : decode cX7_asBottle 14 = .ok (.getfield 96, 3) := by decide +kernel
theorem dX7_asBottle_17 : decode cX7_asBottle 17 = .ok (.iload_n 1, 1) := by decide +kernel
theorem dX7_asBottle_18 : decode cX7_asBottle 18 = .ok (.iaload, 1) := by decide +kernel
theorem dX7_asBottle_19 : decode cX7_asBottle 19 = .ok (.ireturn, 1) := by decide +kernel
set_option maxRecDepth 20000 in
theorem ggX7_asBosun_X7_asBottle : GoodIn wsX7_asBosun wsX7_asBottle := goodIn_r _ [10, 1, 3, 11, 12, 13, 14, 15, 16, 17, 18, 19, 20, 21, 22, 23, 24, 25, 26] (by decide +kernel) (by decide +kernel)
set_option maxRecDepth 20000 in
theorem gX7_asBosun_X7_asBottle : GoodIn wsX7_asBosun (wsV RX7 191 RX7 yX7_asBottle wsX7_asBottle) := goodIn_app (goodIn_of _ (by decide +kernel)) ggX7_asBosun_X7_asBottle
theorem dX7_asBosun_0 : decode cX7_asBosun 0 = .ok (.aload_n 0, 1) := by decide +kernel
theorem dX7_asBosun_1 : decode cX7_asBosun 1 = .ok (.dup, 1) := by decide +kernel
theorem dX7_asBosun_2 : decode cX7_asBosun 2 = .ok (.getfield 209, 3) := by decide +kernel
theorem dX7_asBosun_5 : decode cX7_asBosun 5 = .ok (.ldc2_w 213, 3) := by decide +kernel
theorem dX7_asBosun_8 : decode cX7_asBosun 8 = .ok (.ladd, 1) := by decide +kernel
theorem dX7_asBosun_9 : decode cX7_asBosun 9 = .ok (.putfield 209, 3) := by decide +kernel
theorem dX7_asBosun_12 : decode cX7_asBosun 12 = .ok (.aload_n 0, 1) := by decide +kernel
theorem dX7_asBosun_13 : decode cX7_asBosun 13 = .ok (.iload_n 1, 1) := by decide +kernel
theorem dX7_asBosun_14 : decode cX7_asBosun 14 = .ok (.invokevirtual 191, 3) := by decide +kernel
theorem dX7_asBosun_17 : decode cX7_asBosun 17 = .ok (.aload_n 0, 1) := by decide +kernel
theorem dX7_asBosun_18 : decode cX7_asBosun 18 = .ok (.getfield 26, 3) := by decide +kernel
theorem dX7_asBosun_21 : decode cX7_asBosun 21 = .ok (.getfield 76, 3) := by decide +kernel
theorem dX7_asBosun_24 : decode cX7_asBosun 24 = .ok (.getfield 103, 3) := by decide +kernel
theorem dX7_asBosun_27 : decode cX7_asBosun 27 = .ok (.iload_n 1, 1) := by decide +kernel
theorem dX7_asBosun_28 : decode cX7_asBosun 28 = .ok (.iaload, 1) := by decide +kernel
theorem dX7_asBosun_29 : decode cX7_asBosun 29 = .ok (.iadd, 1) := by decide +kernel
theorem dX7_asBosun_30 : decode cX7_asBosun 30 = .ok (.ireturn, 1) := by decide +kernel
set_option maxRecDepth 20000 in
theorem ggX7_asCook_X7_asBottle : GoodIn wsX7_asCook wsX7_asBottle := goodIn_r _ [10, 1, 3, 11, 12, 13, 14, 15, 16, 17, 18, 19, 20, 21, 22, 23, 24, 25, 26] (by decide +kernel) (by decide +kernel)
set_option maxRecDepth 20000 in
theorem gX7_asCook_X7_asBottle : GoodIn wsX7_asCook (wsV RX7 191 RX7 yX7_asBottle wsX7_asBottle) := goodIn_app (goodIn_of _ (by decide +kernel)) ggX7_asCook_X7_asBottle
theorem dX7_asCook_0 : decode cX7_asCook 0 = .ok (.aload_n 0, 1) := by decide +kernel
theorem dX7_asCook_1 : decode cX7_asCook 1 = .ok (.dup, 1) := by decide +kernel
theorem dX7_asCook_2 : decode cX7_asCook 2 = .ok (.getfield 209, 3) := by decide +kernel
theorem dX7_asCook_5 : decode cX7_asCook 5 = .ok (.ldc2_w 215, 3) := by decide +kernel
theorem dX7_asCook_8 : decode cX7_asCook 8 = .ok (.ladd, 1) := by decide +kernel
theorem dX7_asCook_9 : decode cX7_asCook 9 = .ok (.putfield 209, 3) := by decide +kernel
theorem dX7_asCook_12 : decode cX7_asCook 12 = .ok (.aload_n 0, 1) := by decide +kernel
theorem dX7_asCook_13 : decode cX7_asCook 13 = .ok (.iload_n 1, 1) := by decide +kernel
theorem dX7_asCook_14 : decode cX7_asCook 14 = .ok (.invokevirtual 191, 3) := by decide +kernel
theorem dX7_asCook_17 : decode cX7_asCook 17 = .ok (.aload_n 0, 1) := by decide +kernel
theorem dX7_asCook_18 : decode cX7_asCook 18 = .ok (.getfield 26, 3) := by decide +kernel
theorem dX7_asCook_21 : decode cX7_asCook 21 = .ok (.getfield 76, 3) := by decide +kernel
theorem dX7_asCook_24 : decode cX7_asCook 24 = .ok (.getfield 100, 3) := by decide +kernel
theorem dX7_asCook_27 : decode cX7_asCook 27 = .ok (.iload_n 1, 1) := by decide +kernel
theorem dX7_asCook_28 : decode cX7_asCook 28 = .ok (.iaload, 1) := by decide +kernel
theorem dX7_asCook_29 : decode cX7_asCook 29 = .ok (.isub, 1) := by decide +kernel
theorem dX7_asCook_30 : decode cX7_asCook 30 = .ok (.ireturn, 1) := by decide +kernel
set_option maxRecDepth 20000 in
theorem ggX7_asMate_X7_asBosun : GoodIn wsX7_asMate wsX7_asBosun := goodIn_r _ [7, 1, 8, 9, 10, 11, 12, 13, 14, 6, 15, 16, 17, 18, 19, 20, 21, 22, 23, 24, 25, 26, 27, 28, 29, 30, 31, 32, 33, 34, 35, 36, 37] (by decide +kernel) (by decide +kernel)
set_option maxRecDepth 20000 in
theorem gX7_asMate_X7_asBosun : GoodIn wsX7_asMate (wsV RX7 194 RX7 yX7_asBosun wsX7_asBosun) := goodIn_app (goodIn_of _ (by decide +kernel)) ggX7_asMate_X7_asBosun
theorem dX7_asMate_0 : decode cX7_asMate 0 = .ok (.aload_n 0, 1) := by decide +kernel
theorem dX7_asMate_1 : decode cX7_asMate 1 = .ok (.dup, 1) := by decide +kernel
theorem dX7_asMate_2 : decode cX7_asMate 2 = .ok (.getfield 209, 3) := by decide +kernel
theorem dX7_asMate_5 : decode cX7_asMate 5 = .ok (.ldc2_w 217, 3) := by decide +kernel
theorem dX7_asMate_8 : decode cX7_asMate 8 = .ok (.ladd, 1) := by decide +kernel
theorem dX7_asMate_9 : decode cX7_asMate 9 = .ok (.putfield 209, 3) := by decide +kernel
theorem dX7_asMate_12 : decode cX7_asMate 12 = .ok (.iconst 2, 1) := by decide +kernel
theorem dX7_asMate_13 : decode cX7_asMate 13 = .ok (.aload_n 0, 1) := by decide +kernel
theorem dX7_asMate_14 : decode cX7_asMate 14 = .ok (.iload_n 1, 1) := by decide +kernel
theorem dX7_asMate_15 : decode cX7_asMate 15 = .ok (.invokevirtual 194, 3) := by decide +kernel
theorem dX7_asMate_18 : decode cX7_asMate 18 = .ok (.imul, 1) := by decide +kernel
theorem dX7_asMate_19 : decode cX7_asMate 19 = .ok (.ireturn, 1) := by decide +kernel
set_option maxRecDepth 20000 in
theorem ggX7_asStoker_X7_asCook : GoodIn wsX7_asStoker wsX7_asCook := goodIn_r _ [7, 1, 8, 9, 10, 11, 12, 13, 14, 6, 15, 16, 17, 18, 19, 20, 21, 22, 23, 24, 25, 26, 27, 28, 29, 30, 31, 32, 33, 34, 35, 36, 37] (by decide +kernel) (by decide +kernel)
set_option maxRecDepth 20000 in
theorem gX7_asStoker_X7_asCook : GoodIn wsX7_asStoker (wsV RX7 197 RX7 yX7_asCook wsX7_asCook) := goodIn_app (goodIn_of _ (by decide +kernel)) ggX7_asStoker_X7_asCook
theorem dX7_asStoker_0 : decode cX7_asStoker 0 = .ok (.aload_n 0, 1) := by decide +kernel
theorem dX7_asStoker_1 : decode cX7_asStoker 1 = .ok (.dup, 1) := by decide +kernel
theorem dX7_asStoker_2 : decode cX7_asStoker 2 = .ok (.getfield 209, 3) := by decide +kernel
theorem dX7_asStoker_5 : decode cX7_asStoker 5 = .ok (.ldc2_w 219, 3) := by decide +kernel
theorem dX7_asStoker_8 : decode cX7_asStoker 8 = .ok (.ladd, 1) := by decide +kernel
theorem dX7_asStoker_9 : decode cX7_asStoker 9 = .ok (.putfield 209, 3) := by decide +kernel
theorem dX7_asStoker_12 : decode cX7_asStoker 12 = .ok (.aload_n 0, 1) := by decide +kernel
theorem dX7_asStoker_13 : decode cX7_asStoker 13 = .ok (.iload_n 1, 1) := by decide +kernel
theorem dX7_asStoker_14 : decode cX7_asStoker 14 = .ok (.invokevirtual 197, 3) := by decide +kernel
theorem dX7_asStoker_17 : decode cX7_asStoker 17 = .ok (.iload_n 1, 1) := by decide +kernel
theorem dX7_asStoker_18 : decode cX7_asStoker 18 = .ok (.iadd, 1) := by decide +kernel
theorem dX7_asStoker_19 : decode cX7_asStoker 19 = .ok (.ireturn, 1) := by decide +kernel
set_option maxRecDepth 20000 in
theorem ggX7_asMatron_X7_asBottle : GoodIn wsX7_asMatron wsX7_asBottle := goodIn_r _ [9, 1, 3, 10, 11, 12, 13, 14, 15, 16, 17, 18, 19, 20, 21, 22, 23, 24, 25] (by decide +kernel) (by decide +kernel)
set_option maxRecDepth 20000 in
theorem gX7_asMatron_X7_asBottle : GoodIn wsX7_asMatron (wsV RX7 191 RX7 yX7_asBottle wsX7_asBottle) := goodIn_app (goodIn_of _ (by decide +kernel)) ggX7_asMatron_X7_asBottle
theorem dX7_asMatron_0 : decode cX7_asMatron 0 = .ok (.aload_n 0, 1) := by decide +kernel
theorem dX7_asMatron_1 : decode cX7_asMatron 1 = .ok (.dup, 1) := by decide +kernel
theorem dX7_asMatron_2 : decode cX7_asMatron 2 = .ok (.getfield 209, 3) := by decide +kernel
theorem dX7_asMatron_5 : decode cX7_asMatron 5 = .ok (.ldc2_w 221, 3) := by decide +kernel
theorem dX7_asMatron_8 : decode cX7_asMatron 8 = .ok (.ladd, 1) := by decide +kernel
theorem dX7_asMatron_9 : decode cX7_asMatron 9 = .ok (.putfield 209, 3) := by decide +kernel
theorem dX7_asMatron_12 : decode cX7_asMatron 12 = .ok (.aload_n 0, 1) := by decide +kernel
theorem dX7_asMatron_13 : decode cX7_asMatron 13 = .ok (.iload_n 1, 1) := by decide +kernel
theorem dX7_asMatron_14 : decode cX7_asMatron 14 = .ok (.invokevirtual 191, 3) := by decide +kernel
theorem dX7_asMatron_17 : decode cX7_asMatron 17 = .ok (.aload_n 0, 1) := by decide +kernel
theorem dX7_asMatron_18 : decode cX7_asMatron 18 = .ok (.getfield 26, 3) := by decide +kernel
theorem dX7_asMatron_21 : decode cX7_asMatron 21 = .ok (.getfield 123, 3) := by decide +kernel
theorem dX7_asMatron_24 : decode cX7_asMatron 24 = .ok (.iadd, 1) := by decide +kernel
theorem dX7_asMatron_25 : decode cX7_asMatron 25 = .ok (.ireturn, 1) := by decide +kernel
set_option maxRecDepth 20000 in
theorem ggX7_keep_X0_put : GoodIn wsX7_keep wsX0_put := goodIn_r _ [9, 10, 11, 12, 13, 14, 15, 16, 17, 18, 19, 20, 36, 37, 30, 31, 32, 33, 34, 35] (by decide +kernel) (by decide +kernel)
set_option maxRecDepth 20000 in
theorem gX7_keep_X0_put : GoodIn wsX7_keep (wsV RX7 223 RX0 yX0_put wsX0_put) := goodIn_app (goodIn_of _ (by decide +kernel)) ggX7_keep_X0_put
theorem dX7_keep_0 : decode cX7_keep 0 = .ok (.iload_n 1, 1) := by decide +kernel
theorem dX7_keep_1 : decode cX7_keep 1 = .ok (.ifCond .lt 12, 3) := by decide +kernel
theorem dX7_keep_4 : decode cX7_keep 4 = .ok (.iload_n 1, 1) := by decide +kernel
theorem dX7_keep_5 : decode cX7_keep 5 = .ok (.aload_n 0, 1) := by decide +kernel
theorem dX7_keep_6 : decode cX7_keep 6 = .ok (.getfield 46, 3) := by decide +kernel
theorem dX7_keep_9 : decode cX7_keep 9 = .ok (.arraylength, 1) := by decide +kernel
theorem dX7_keep_10 : decode cX7_keep 10 = .ok (.if_icmp .lt 5, 3) := by decide +kernel
theorem dX7_keep_13 : decode cX7_keep 13 = .ok (.iconst (-1), 1) := by decide +kernel
theorem dX7_keep_14 : decode cX7_keep 14 = .ok (.ireturn, 1) := by decide +kernel
theorem dX7_keep_15 : decode cX7_keep 15 = .ok (.aload_n 0, 1) := by decide +kernel
theorem dX7_keep_16 : decode cX7_keep 16 = .ok (.getfield 42, 3) := by decide +kernel
theorem dX7_keep_19 : decode cX7_keep 19 = .ok (.iload_n 1, 1) := by decide +kernel
theorem dX7_keep_20 : decode cX7_keep 20 = .ok (.aload_n 0, 1) := by decide +kernel
theorem dX7_keep_21 : decode cX7_keep 21 = .ok (.getfield 26, 3) := by decide +kernel
theorem dX7_keep_24 : decode cX7_keep 24 = .ok (.invokevirtual 223, 3) := by decide +kernel
theorem dX7_keep_27 : decode cX7_keep 27 = .ok (.aload_n 0, 1) := by decide +kernel
theorem dX7_keep_28 : decode cX7_keep 28 = .ok (.getfield 46, 3) := by decide +kernel
theorem dX7_keep_31 : decode cX7_keep 31 = .ok (.iload_n 1, 1) := by decide +kernel
theorem dX7_keep_32 : decode cX7_keep 32 = .ok (.iconst 1, 1) := by decide +kernel
theorem dX7_keep_33 : decode cX7_keep 33 = .ok (.bastore, 1) := by decide +kernel
theorem dX7_keep_34 : decode cX7_keep 34 = .ok (.aload_n 0, 1) := by decide +kernel
theorem dX7_keep_35 : decode cX7_keep 35 = .ok (.getfield 26, 3) := by decide +kernel
theorem dX7_keep_38 : decode cX7_keep 38 = .ok (.getfield 117, 3) := by decide +kernel
theorem dX7_keep_41 : decode cX7_keep 41 = .ok (.ireturn, 1) := by decide +kernel
set_option maxRecDepth 20000 in
theorem ggX7_back_X0_take : GoodIn wsX7_back wsX0_take := goodIn_r _ [11, 12, 13, 14, 15, 16, 17, 18, 19, 20, 21, 22, 41, 42, 35, 36, 37, 38, 39, 40] (by decide +kernel) (by decide +kernel)
set_option maxRecDepth 20000 in
theorem gX7_back_X0_take : GoodIn wsX7_back (wsV RX7 227 RX0 yX0_take wsX0_take) := goodIn_app (goodIn_of _ (by decide +kernel)) ggX7_back_X0_take
theorem dX7_back_0 : decode cX7_back 0 = .ok (.iload_n 1, 1) := by decide +kernel
theorem dX7_back_1 : decode cX7_back 1 = .ok (.ifCond .lt 12, 3) := by decide +kernel
theorem dX7_back_4 : decode cX7_back 4 = .ok (.iload_n 1, 1) := by decide +kernel
theorem dX7_back_5 : decode cX7_back 5 = .ok (.aload_n 0, 1) := by decide +kernel
theorem dX7_back_6 : decode cX7_back 6 = .ok (.getfield 46, 3) := by decide +kernel
theorem dX7_back_9 : decode cX7_back 9 = .ok (.arraylength, 1) := by decide +kernel
theorem dX7_back_10 : decode cX7_back 10 = .ok (.if_icmp .lt 5, 3) := by decide +kernel
theorem dX7_back_13 : decode cX7_back 13 = .ok (.iconst (-1), 1) := by decide +kernel
theorem dX7_back_14 : decode cX7_back 14 = .ok (.ireturn, 1) := by decide +kernel
theorem dX7_back_15 : decode cX7_back 15 = .ok (.aload_n 0, 1) := by decide +kernel
theorem dX7_back_16 : decode cX7_back 16 = .ok (.getfield 46, 3) := by decide +kernel
theorem dX7_back_19 : decode cX7_back 19 = .ok (.iload_n 1, 1) := by decide +kernel
theorem dX7_back_20 : decode cX7_back 20 = .ok (.baload, 1) := by decide +kernel
theorem dX7_back_21 : decode cX7_back 21 = .ok (.ifCond .ne 6, 3) := by decide +kernel
theorem dX7_back_24 : decode cX7_back 24 = .ok (.bipush (-2), 2) := by decide +kernel
theorem dX7_back_26 : decode cX7_back 26 = .ok (.ireturn, 1) := by decide +kernel
theorem dX7_back_27 : decode cX7_back 27 = .ok (.aload_n 0, 1) := by decide +kernel
theorem dX7_back_28 : decode cX7_back 28 = .ok (.getfield 42, 3) := by decide +kernel
theorem dX7_back_31 : decode cX7_back 31 = .ok (.iload_n 1, 1) := by decide +kernel
theorem dX7_back_32 : decode cX7_back 32 = .ok (.aload_n 0, 1) := by decide +kernel
theorem dX7_back_33 : decode cX7_back 33 = .ok (.getfield 26, 3) := by decide +kernel
theorem dX7_back_36 : decode cX7_back 36 = .ok (.invokevirtual 227, 3) := by decide +kernel
theorem dX7_back_39 : decode cX7_back 39 = .ok (.aload_n 0, 1) := by decide +kernel
theorem dX7_back_40 : decode cX7_back 40 = .ok (.getfield 33, 3) := by decide +kernel
theorem dX7_back_43 : decode cX7_back 43 = .ok (.iconst 0, 1) := by decide +kernel
theorem dX7_back_44 : decode cX7_back 44 = .ok (.putfield 86, 3) := by decide +kernel
theorem dX7_back_47 : decode cX7_back 47 = .ok (.aload_n 0, 1) := by decide +kernel
theorem dX7_back_48 : decode cX7_back 48 = .ok (.getfield 26, 3) := by decide +kernel
theorem dX7_back_51 : decode cX7_back 51 = .ok (.getfield 117, 3) := by decide +kernel
theorem dX7_back_54 : decode cX7_back 54 = .ok (.ireturn, 1) := by decide +kernel
theorem dX7_count_0 : decode cX7_count 0 = .ok (.iload_n 1, 1) := by decide +kernel
theorem dX7_count_1 : decode cX7_count 1 = .ok (.tableswitch 84 0 4 #[35, 46, 57, 68, 76], 35) := by decide +kernel
theorem dX7_count_36 : decode cX7_count 36 = .ok (.aload_n 0, 1) := by decide +kernel
theorem dX7_count_37 : decode cX7_count 37 = .ok (.getfield 26, 3) := by decide +kernel
theorem dX7_count_40 : decode cX7_count 40 = .ok (.getfield 76, 3) := by decide +kernel
theorem dX7_count_43 : decode cX7_count 43 = .ok (.getfield 126, 3) := by decide +kernel
theorem dX7_count_46 : decode cX7_count 46 = .ok (.ireturn, 1) := by decide +kernel
theorem dX7_count_47 : decode cX7_count 47 = .ok (.aload_n 0, 1) := by decide +kernel
theorem dX7_count_48 : decode cX7_count 48 = .ok (.getfield 26, 3) := by decide +kernel
theorem dX7_count_51 : decode cX7_count 51 = .ok (.getfield 76, 3) := by decide +kernel
theorem dX7_count_54 : decode cX7_count 54 = .ok (.getfield 147, 3) := by decide +kernel
theorem dX7_count_57 : decode cX7_count 57 = .ok (.ireturn, 1) := by decide +kernel
theorem dX7_count_58 : decode cX7_count 58 = .ok (.aload_n 0, 1) := by decide +kernel
theorem dX7_count_59 : decode cX7_count 59 = .ok (.getfield 26, 3) := by decide +kernel
theorem dX7_count_62 : decode cX7_count 62 = .ok (.getfield 76, 3) := by decide +kernel
theorem dX7_count_65 : decode cX7_count 65 = .ok (.getfield 230, 3) := by decide +kernel
theorem dX7_count_68 : decode cX7_count 68 = .ok (.ireturn, 1) := by decide +kernel
theorem dX7_count_69 : decode cX7_count 69 = .ok (.aload_n 0, 1) := by decide +kernel
theorem dX7_count_70 : decode cX7_count 70 = .ok (.getfield 53, 3) := by decide +kernel
theorem dX7_count_73 : decode cX7_count 73 = .ok (.getfield 89, 3) := by decide +kernel
theorem dX7_count_76 : decode cX7_count 76 = .ok (.ireturn, 1) := by decide +kernel
theorem dX7_count_77 : decode cX7_count 77 = .ok (.aload_n 0, 1) := by decide +kernel
theorem dX7_count_78 : decode cX7_count 78 = .ok (.getfield 10, 3) := by decide +kernel
theorem dX7_count_81 : decode cX7_count 81 = .ok (.getfield 64, 3) := by decide +kernel
theorem dX7_count_84 : decode cX7_count 84 = .ok (.ireturn, 1) := by decide +kernel
theorem dX7_count_85 : decode cX7_count 85 = .ok (.iconst (-1), 1) := by decide +kernel
theorem dX7_count_86 : decode cX7_count 86 = .ok (.ireturn, 1) := by decide +kernel
theorem dX7_trace_0 : decode cX7_trace 0 = .ok (.aload_n 0, 1) := by decide +kernel
theorem dX7_trace_1 : decode cX7_trace 1 = .ok (.getfield 209, 3) := by decide +kernel
theorem dX7_trace_4 : decode cX7_trace 4 = .ok (.lreturn, 1) := by decide +kernel
set_option maxRecDepth 20000 in
theorem ggX8_init_X8_reads : GoodIn wsX8_init wsX8_reads := goodIn_r _ [21, 7, 22, 23, 24, 25, 26, 20, 27, 28, 29, 5, 30, 31, 32, 33, 34, 35, 36, 37, 38, 39, 40, 41, 42, 43, 44, 45, 46, 47, 48, 49, 50, 51, 52, 59, 60, 61, 62, 63, 64, 65, 66, 67, 68, 69, 70, 71, 72, 73, 74, 75, 76, 77] (by decide +kernel) (by decide +kernel)
set_option maxRecDepth 20000 in
theorem gX8_init_X8_reads : GoodIn wsX8_init (wsV RX8 44 RX8 yX8_reads wsX8_reads) := goodIn_app (goodIn_of _ (by decide +kernel)) ggX8_init_X8_reads
set_option maxRecDepth 20000 in
theorem ggX8_init_X8_begins : GoodIn wsX8_init wsX8_begins := goodIn_r _ [56, 6, 7, 8, 57, 58, 12, 59, 60, 61, 62, 63, 64, 65, 66, 67, 68, 69, 70, 71, 72, 73, 74, 75, 76, 77] (by decide +kernel) (by decide +kernel)
set_option maxRecDepth 20000 in
theorem gX8_init_X8_begins : GoodIn wsX8_init (wsV RX8 48 RX8 yX8_begins wsX8_begins) := goodIn_app (goodIn_of _ (by decide +kernel)) ggX8_init_X8_begins
theorem dX8_init_0 : decode cX8_init 0 = .ok (.aload_n 0, 1) := by decide +kernel
theorem dX8_init_1 : decode cX8_init 1 = .ok (.invokespecial 1, 3) := by decide +kernel
theorem dX8_init_4 : decode cX8_init 4 = .ok (.aload_n 0, 1) := by decide +kernel
theorem dX8_init_5 : decode cX8_init 5 = .ok (.bipush 120, 2) := by decide +kernel
theorem dX8_init_7 : decode cX8_init 7 = .ok (.newarray .int, 2) := by decide +kernel
theorem dX8_init_9 : decode cX8_init 9 = .ok (.putfield 7, 3) := by decide +kernel
theorem dX8_init_12 : decode cX8_init 12 = .ok (.aload_n 0, 1) := by decide +kernel
theorem dX8_init_13 : decode cX8_init 13 = .ok (.bipush 23, 2) := by decide +kernel
theorem dX8_init_15 : decode cX8_init 15 = .ok (.newarray .int, 2) := by decide +kernel
theorem dX8_init_17 : decode cX8_init 17 = .ok (.putfield 13, 3) := by decide +kernel
theorem dX8_init_20 : decode cX8_init 20 = .ok (.aload_n 0, 1) := by decide +kernel
theorem dX8_init_21 : decode cX8_init 21 = .ok (.bipush 23, 2) := by decide +kernel
theorem dX8_init_23 : decode cX8_init 23 = .ok (.newarray .int, 2) := by decide +kernel
theorem dX8_init_25 : decode cX8_init 25 = .ok (.putfield 16, 3) := by decide +kernel
theorem dX8_init_28 : decode cX8_init 28 = .ok (.aload_n 0, 1) := by decide +kernel
theorem dX8_init_29 : decode cX8_init 29 = .ok (.bipush 15, 2) := by decide +kernel
theorem dX8_init_31 : decode cX8_init 31 = .ok (.newarray .int, 2) := by decide +kernel
theorem dX8_init_33 : decode cX8_init 33 = .ok (.putfield 19, 3) := by decide +kernel
theorem dX8_init_36 : decode cX8_init 36 = .ok (.aload_n 0, 1) := by decide +kernel
theorem dX8_init_37 : decode cX8_init 37 = .ok (.sipush 150, 3) := by decide +kernel
theorem dX8_init_40 : decode cX8_init 40 = .ok (.newarray .int, 2) := by decide +kernel
theorem dX8_init_42 : decode cX8_init 42 = .ok (.putfield 22, 3) := by decide +kernel
theorem dX8_init_45 : decode cX8_init 45 = .ok (.aload_n 0, 1) := by decide +kernel
theorem dX8_init_46 : decode cX8_init 46 = .ok (.bipush 30, 2) := by decide +kernel
theorem dX8_init_48 : decode cX8_init 48 = .ok (.newarray .int, 2) := by decide +kernel
theorem dX8_init_50 : decode cX8_init 50 = .ok (.putfield 25, 3) := by decide +kernel
theorem dX8_init_53 : decode cX8_init 53 = .ok (.aload_n 0, 1) := by decide +kernel
theorem dX8_init_54 : decode cX8_init 54 = .ok (.iconst 2, 1) := by decide +kernel
theorem dX8_init_55 : decode cX8_init 55 = .ok (.newarray .boolean, 2) := by decide +kernel
theorem dX8_init_57 : decode cX8_init 57 = .ok (.putfield 28, 3) := by decide +kernel
theorem dX8_init_60 : decode cX8_init 60 = .ok (.aload_n 0, 1) := by decide +kernel
theorem dX8_init_61 : decode cX8_init 61 = .ok (.bipush 12, 2) := by decide +kernel
theorem dX8_init_63 : decode cX8_init 63 = .ok (.newarray .int, 2) := by decide +kernel
theorem dX8_init_65 : decode cX8_init 65 = .ok (.putfield 32, 3) := by decide +kernel
theorem dX8_init_68 : decode cX8_init 68 = .ok (.aload_n 0, 1) := by decide +kernel
theorem dX8_init_69 : decode cX8_init 69 = .ok (.bipush 15, 2) := by decide +kernel
theorem dX8_init_71 : decode cX8_init 71 = .ok (.newarray .int, 2) := by decide +kernel
theorem dX8_init_73 : decode cX8_init 73 = .ok (.putfield 35, 3) := by decide +kernel
theorem dX8_init_76 : decode cX8_init 76 = .ok (.aload_n 0, 1) := by decide +kernel
theorem dX8_init_77 : decode cX8_init 77 = .ok (.bipush 6, 2) := by decide +kernel
theorem dX8_init_79 : decode cX8_init 79 = .ok (.newarray .int, 2) := by decide +kernel
theorem dX8_init_81 : decode cX8_init 81 = .ok (.putfield 38, 3) := by decide +kernel
theorem dX8_init_84 : decode cX8_init 84 = .ok (.aload_n 0, 1) := by decide +kernel
theorem dX8_init_85 : decode cX8_init 85 = .ok (.bipush 6, 2) := by decide +kernel
theorem dX8_init_87 : decode cX8_init 87 = .ok (.newarray .int, 2) := by decide +kernel
theorem dX8_init_89 : decode cX8_init 89 = .ok (.putfield 41, 3) := by decide +kernel
theorem dX8_init_92 : decode cX8_init 92 = .ok (.aload_n 0, 1) := by decide +kernel
theorem dX8_init_93 : decode cX8_init 93 = .ok (.invokevirtual 44, 3) := by decide +kernel
theorem dX8_init_96 : decode cX8_init 96 = .ok (.pop, 1) := by decide +kernel
theorem dX8_init_97 : decode cX8_init 97 = .ok (.aload_n 0, 1) := by decide +kernel
theorem dX8_init_98 : decode cX8_init 98 = .ok (.invokevirtual 48, 3) := by decide +kernel
theorem dX8_init_101 : decode cX8_init 101 = .ok (.return_, 1) := by decide +kernel
theorem dX8_in_0 : decode cX8_in 0 = .ok (.iload_n 0, 1) := by decide +kernel
theorem dX8_in_1 : decode cX8_in 1 = .ok (.iload_n 1, 1) := by decide +kernel
theorem dX8_in_2 : decode cX8_in 2 = .ok (.if_icmp .lt 12, 3) := by decide +kernel
theorem dX8_in_5 : decode cX8_in 5 = .ok (.iload_n 0, 1) := by decide +kernel
theorem dX8_in_6 : decode cX8_in 6 = .ok (.iload_n 2, 1) := by decide +kernel
theorem dX8_in_7 : decode cX8_in 7 = .ok (.if_icmp .gt 7, 3) := by decide +kernel
theorem dX8_in_10 : decode cX8_in 10 = .ok (.iconst 1, 1) := by decide +kernel
theorem dX8_in_11 : decode cX8_in 11 = .ok (.goto 4, 3) := by decide +kernel
theorem dX8_in_14 : decode cX8_in 14 = .ok (.iconst 0, 1) := by decide +kernel
theorem dX8_in_15 : decode cX8_in 15 = .ok (.ireturn, 1) := by decide +kernel
set_option maxRecDepth 20000 in
theorem ggX8_isBottle_X8_in : GoodIn wsX8_isBottle wsX8_in := goodIn_r _ [5] (by decide +kernel) (by decide +kernel)
set_option maxRecDepth 20000 in
theorem gX8_isBottle_X8_in : GoodIn wsX8_isBottle (va_wsS RX8 51 yX8_in wsX8_in) := goodIn_app (goodIn_of _ (by decide +kernel)) ggX8_isBottle_X8_in
theorem dX8_isBottle_0 : decode cX8_isBottle 0 = .ok (.iload_n 1, 1) := by decide +kernel
theorem dX8_isBottle_1 : decode cX8_isBottle 1 = .ok (.iconst 0, 1) := by decide +kernel
theorem dX8_isBottle_2 : decode cX8_isBottle 2 = .ok (.aload_n 0, 1) := by decide +kernel
theorem dX8_isBottle_3 : decode cX8_isBottle 3 = .ok (.getfield 13, 3) := by decide +kernel
theorem dX8_isBottle_6 : decode cX8_isBottle 6 = .ok (.iconst 0, 1) := by decide +kernel
theorem dX8_isBottle_7 : decode cX8_isBottle 7 = .ok (.iaload, 1) := by decide +kernel
theorem dX8_isBottle_8 : decode cX8_isBottle 8 = .ok (.iconst 1, 1) := by decide +kernel
theorem dX8_isBottle_9 : decode cX8_isBottle 9 = .ok (.isub, 1) := by decide +kernel
theorem dX8_isBottle_10 : decode cX8_isBottle 10 = .ok (.invokestatic 51, 3) := by decide +kernel
theorem dX8_isBottle_13 : decode cX8_isBottle 13 = .ok (.ireturn, 1) := by decide +kernel
set_option maxRecDepth 20000 in
theorem ggX8_type_X8_in : GoodIn wsX8_type wsX8_in := goodIn_r _ [6] (by decide +kernel) (by decide +kernel)
set_option maxRecDepth 20000 in
theorem gX8_type_X8_in : GoodIn wsX8_type (va_wsS RX8 51 yX8_in wsX8_in) := goodIn_app (goodIn_of _ (by decide +kernel)) ggX8_type_X8_in
theorem dX8_type_0 : decode cX8_type 0 = .ok (.iload_n 1, 1) := by decide +kernel
theorem dX8_type_1 : decode cX8_type 1 = .ok (.iconst 0, 1) := by decide +kernel
theorem dX8_type_2 : decode cX8_type 2 = .ok (.sipush 255, 3) := by decide +kernel
theorem dX8_type_5 : decode cX8_type 5 = .ok (.invokestatic 51, 3) := by decide +kernel
theorem dX8_type_8 : decode cX8_type 8 = .ok (.ifCond .ne 5, 3) := by decide +kernel
theorem dX8_type_11 : decode cX8_type 11 = .ok (.iconst (-1), 1) := by decide +kernel
theorem dX8_type_12 : decode cX8_type 12 = .ok (.ireturn, 1) := by decide +kernel
theorem dX8_type_13 : decode cX8_type 13 = .ok (.aload_n 0, 1) := by decide +kernel
theorem dX8_type_14 : decode cX8_type 14 = .ok (.getfield 55, 3) := by decide +kernel
theorem dX8_type_17 : decode cX8_type 17 = .ok (.bipush 120, 2) := by decide +kernel
theorem dX8_type_19 : decode cX8_type 19 = .ok (.if_icmp .ne 6, 3) := by decide +kernel
theorem dX8_type_22 : decode cX8_type 22 = .ok (.bipush (-3), 2) := by decide +kernel
theorem dX8_type_24 : decode cX8_type 24 = .ok (.ireturn, 1) := by decide +kernel
theorem dX8_type_25 : decode cX8_type 25 = .ok (.aload_n 0, 1) := by decide +kernel
theorem dX8_type_26 : decode cX8_type 26 = .ok (.getfield 7, 3) := by decide +kernel
theorem dX8_type_29 : decode cX8_type 29 = .ok (.aload_n 0, 1) := by decide +kernel
theorem dX8_type_30 : decode cX8_type 30 = .ok (.getfield 55, 3) := by decide +kernel
theorem dX8_type_33 : decode cX8_type 33 = .ok (.iload_n 1, 1) := by decide +kernel
theorem dX8_type_34 : decode cX8_type 34 = .ok (.iastore, 1) := by decide +kernel
theorem dX8_type_35 : decode cX8_type 35 = .ok (.aload_n 0, 1) := by decide +kernel
theorem dX8_type_36 : decode cX8_type 36 = .ok (.dup, 1) := by decide +kernel
theorem dX8_type_37 : decode cX8_type 37 = .ok (.getfield 55, 3) := by decide +kernel
theorem dX8_type_40 : decode cX8_type 40 = .ok (.iconst 1, 1) := by decide +kernel
theorem dX8_type_41 : decode cX8_type 41 = .ok (.iadd, 1) := by decide +kernel
theorem dX8_type_42 : decode cX8_type 42 = .ok (.putfield 55, 3) := by decide +kernel
theorem dX8_type_45 : decode cX8_type 45 = .ok (.aload_n 0, 1) := by decide +kernel
theorem dX8_type_46 : decode cX8_type 46 = .ok (.getfield 55, 3) := by decide +kernel
theorem dX8_type_49 : decode cX8_type 49 = .ok (.ireturn, 1) := by decide +kernel
theorem dX8_clear_0 : decode cX8_clear 0 = .ok (.aload_n 0, 1) := by decide +kernel
theorem dX8_clear_1 : decode cX8_clear 1 = .ok (.getfield 55, 3) := by decide +kernel
theorem dX8_clear_4 : decode cX8_clear 4 = .ok (.istore_n 1, 1) := by decide +kernel
theorem dX8_clear_5 : decode cX8_clear 5 = .ok (.aload_n 0, 1) := by decide +kernel
theorem dX8_clear_6 : decode cX8_clear 6 = .ok (.iconst 0, 1) := by decide +kernel
theorem dX8_clear_7 : decode cX8_clear 7 = .ok (.putfield 55, 3) := by decide +kernel
theorem dX8_clear_10 : decode cX8_clear 10 = .ok (.iload_n 1, 1) := by decide +kernel
theorem dX8_clear_11 : decode cX8_clear 11 = .ok (.ireturn, 1) := by decide +kernel
theorem dX8_letterAt_0 : decode cX8_letterAt 0 = .ok (.iload_n 1, 1) := by decide +kernel
theorem dX8_letterAt_1 : decode cX8_letterAt 1 = .ok (.aload_n 0, 1) := by decide +kernel
theorem dX8_letterAt_2 : decode cX8_letterAt 2 = .ok (.getfield 55, 3) := by decide +kernel
theorem dX8_letterAt_5 : decode cX8_letterAt 5 = .ok (.if_icmp .ge 12, 3) := by decide +kernel
theorem dX8_letterAt_8 : decode cX8_letterAt 8 = .ok (.aload_n 0, 1) := by decide +kernel
theorem dX8_letterAt_9 : decode cX8_letterAt 9 = .ok (.getfield 7, 3) := by decide +kernel
theorem dX8_letterAt_12 : decode cX8_letterAt 12 = .ok (.iload_n 1, 1) := by decide +kernel
theorem dX8_letterAt_13 : decode cX8_letterAt 13 = .ok (.iaload, 1) := by decide +kernel
theorem dX8_letterAt_14 : decode cX8_letterAt 14 = .ok (.goto 4, 3) := by decide +kernel
theorem dX8_letterAt_17 : decode cX8_letterAt 17 = .ok (.iconst (-1), 1) := by decide +kernel
theorem dX8_letterAt_18 : decode cX8_letterAt 18 = .ok (.ireturn, 1) := by decide +kernel
set_option maxRecDepth 20000 in
theorem ggX8_isDigit_X8_in : GoodIn wsX8_isDigit wsX8_in := goodIn_r _ [4] (by decide +kernel) (by decide +kernel)
set_option maxRecDepth 20000 in
theorem gX8_isDigit_X8_in : GoodIn wsX8_isDigit (va_wsS RX8 51 yX8_in wsX8_in) := goodIn_app (goodIn_of _ (by decide +kernel)) ggX8_isDigit_X8_in
theorem dX8_isDigit_0 : decode cX8_isDigit 0 = .ok (.iload_n 0, 1) := by decide +kernel
theorem dX8_isDigit_1 : decode cX8_isDigit 1 = .ok (.bipush 48, 2) := by decide +kernel
theorem dX8_isDigit_3 : decode cX8_isDigit 3 = .ok (.bipush 57, 2) := by decide +kernel
theorem dX8_isDigit_5 : decode cX8_isDigit 5 = .ok (.invokestatic 51, 3) := by decide +kernel
theorem dX8_isDigit_8 : decode cX8_isDigit 8 = .ok (.ireturn, 1) := by decide +kernel
set_option maxRecDepth 20000 in
theorem ggX8_token_X8_letterAt : GoodIn wsX8_token wsX8_letterAt := goodIn_r _ [10, 11, 5, 18, 19, 20, 21, 22, 23, 24, 25, 26, 27, 28, 29, 30, 31, 32, 33, 34, 35, 36] (by decide +kernel) (by decide +kernel)
set_option maxRecDepth 20000 in
theorem gX8_token_X8_letterAt : GoodIn wsX8_token (wsV RX8 62 RX8 yX8_letterAt wsX8_letterAt) := goodIn_app (goodIn_of _ (by decide +kernel)) ggX8_token_X8_letterAt
set_option maxRecDepth 20000 in
theorem ggX8_token_X8_isDigit : GoodIn wsX8_token wsX8_isDigit := goodIn_r _ [14, 15, 16, 9, 17] (by decide +kernel) (by decide +kernel)
set_option maxRecDepth 20000 in
theorem gX8_token_X8_isDigit : GoodIn wsX8_token (va_wsS RX8 69 yX8_isDigit wsX8_isDigit) := goodIn_app (goodIn_of _ (by decide +kernel)) ggX8_token_X8_isDigit
theorem dX8_token_0 : decode cX8_token 0 = .ok (.aload_n 0, 1) := by decide +kernel
theorem dX8_token_1 : decode cX8_token 1 = .ok (.aload_n 0, 1) := by decide +kernel
theorem dX8_token_2 : decode cX8_token 2 = .ok (.getfield 59, 3) := by decide +kernel
theorem dX8_token_5 : decode cX8_token 5 = .ok (.invokevirtual 62, 3) := by decide +kernel
theorem dX8_token_8 : decode cX8_token 8 = .ok (.bipush 32, 2) := by decide +kernel
theorem dX8_token_10 : decode cX8_token 10 = .ok (.if_icmp .ne 16, 3) := by decide +kernel
theorem dX8_token_13 : decode cX8_token 13 = .ok (.aload_n 0, 1) := by decide +kernel
theorem dX8_token_14 : decode cX8_token 14 = .ok (.dup, 1) := by decide +kernel
theorem dX8_token_15 : decode cX8_token 15 = .ok (.getfield 59, 3) := by decide +kernel
theorem dX8_token_18 : decode cX8_token 18 = .ok (.iconst 1, 1) := by decide +kernel
theorem dX8_token_19 : decode cX8_token 19 = .ok (.iadd, 1) := by decide +kernel
theorem dX8_token_20 : decode cX8_token 20 = .ok (.putfield 59, 3) := by decide +kernel
theorem dX8_token_23 : decode cX8_token 23 = .ok (.goto (-23), 3) := by decide +kernel
theorem dX8_token_26 : decode cX8_token 26 = .ok (.aload_n 0, 1) := by decide +kernel
theorem dX8_token_27 : decode cX8_token 27 = .ok (.aload_n 0, 1) := by decide +kernel
theorem dX8_token_28 : decode cX8_token 28 = .ok (.getfield 59, 3) := by decide +kernel
theorem dX8_token_31 : decode cX8_token 31 = .ok (.putfield 66, 3) := by decide +kernel
theorem dX8_token_34 : decode cX8_token 34 = .ok (.aload_n 0, 1) := by decide +kernel
theorem dX8_token_35 : decode cX8_token 35 = .ok (.aload_n 0, 1) := by decide +kernel
theorem dX8_token_36 : decode cX8_token 36 = .ok (.getfield 59, 3) := by decide +kernel
theorem dX8_token_39 : decode cX8_token 39 = .ok (.invokevirtual 62, 3) := by decide +kernel
theorem dX8_token_42 : decode cX8_token 42 = .ok (.istore_n 1, 1) := by decide +kernel
theorem dX8_token_43 : decode cX8_token 43 = .ok (.aload_n 0, 1) := by decide +kernel
theorem dX8_token_44 : decode cX8_token 44 = .ok (.iload_n 1, 1) := by decide +kernel
theorem dX8_token_45 : decode cX8_token 45 = .ok (.ifCond .ge 7, 3) := by decide +kernel
theorem dX8_token_48 : decode cX8_token 48 = .ok (.iconst 0, 1) := by decide +kernel
theorem dX8_token_49 : decode cX8_token 49 = .ok (.goto 47, 3) := by decide +kernel
theorem dX8_token_52 : decode cX8_token 52 = .ok (.iload_n 1, 1) := by decide +kernel
theorem dX8_token_53 : decode cX8_token 53 = .ok (.bipush 98, 2) := by decide +kernel
theorem dX8_token_55 : decode cX8_token 55 = .ok (.if_icmp .eq 15, 3) := by decide +kernel
theorem dX8_token_58 : decode cX8_token 58 = .ok (.iload_n 1, 1) := by decide +kernel
theorem dX8_token_59 : decode cX8_token 59 = .ok (.bipush 107, 2) := by decide +kernel
theorem dX8_token_61 : decode cX8_token 61 = .ok (.if_icmp .eq 9, 3) := by decide +kernel
theorem dX8_token_64 : decode cX8_token 64 = .ok (.iload_n 1, 1) := by decide +kernel
theorem dX8_token_65 : decode cX8_token 65 = .ok (.bipush 112, 2) := by decide +kernel
theorem dX8_token_67 : decode cX8_token 67 = .ok (.if_icmp .ne 7, 3) := by decide +kernel
theorem dX8_token_70 : decode cX8_token 70 = .ok (.iconst 1, 1) := by decide +kernel
theorem dX8_token_71 : decode cX8_token 71 = .ok (.goto 25, 3) := by decide +kernel
theorem dX8_token_74 : decode cX8_token 74 = .ok (.iload_n 1, 1) := by decide +kernel
theorem dX8_token_75 : decode cX8_token 75 = .ok (.invokestatic 69, 3) := by decide +kernel
theorem dX8_token_78 : decode cX8_token 78 = .ok (.ifCond .eq 7, 3) := by decide +kernel
theorem dX8_token_81 : decode cX8_token 81 = .ok (.iconst 2, 1) := by decide +kernel
theorem dX8_token_82 : decode cX8_token 82 = .ok (.goto 14, 3) := by decide +kernel
theorem dX8_token_85 : decode cX8_token 85 = .ok (.iload_n 1, 1) := by decide +kernel
theorem dX8_token_86 : decode cX8_token 86 = .ok (.bipush 59, 2) := by decide +kernel
theorem dX8_token_88 : decode cX8_token 88 = .ok (.if_icmp .ne 7, 3) := by decide +kernel
theorem dX8_token_91 : decode cX8_token 91 = .ok (.iconst 3, 1) := by decide +kernel
theorem dX8_token_92 : decode cX8_token 92 = .ok (.goto 4, 3) := by decide +kernel
theorem dX8_token_95 : decode cX8_token 95 = .ok (.iconst 4, 1) := by decide +kernel
theorem dX8_token_96 : decode cX8_token 96 = .ok (.putfield 73, 3) := by decide +kernel
theorem dX8_token_99 : decode cX8_token 99 = .ok (.aload_n 0, 1) := by decide +kernel
theorem dX8_token_100 : decode cX8_token 100 = .ok (.iload_n 1, 1) := by decide +kernel
theorem dX8_token_101 : decode cX8_token 101 = .ok (.putfield 76, 3) := by decide +kernel
theorem dX8_token_104 : decode cX8_token 104 = .ok (.aload_n 0, 1) := by decide +kernel
theorem dX8_token_105 : decode cX8_token 105 = .ok (.dup, 1) := by decide +kernel
theorem dX8_token_106 : decode cX8_token 106 = .ok (.getfield 59, 3) := by decide +kernel
theorem dX8_token_109 : decode cX8_token 109 = .ok (.aload_n 0, 1) := by decide +kernel
theorem dX8_token_110 : decode cX8_token 110 = .ok (.getfield 73, 3) := by decide +kernel
theorem dX8_token_113 : decode cX8_token 113 = .ok (.ifCond .ne 7, 3) := by decide +kernel
theorem dX8_token_116 : decode cX8_token 116 = .ok (.iconst 0, 1) := by decide +kernel
theorem dX8_token_117 : decode cX8_token 117 = .ok (.goto 4, 3) := by decide +kernel
theorem dX8_token_120 : decode cX8_token 120 = .ok (.iconst 1, 1) := by decide +kernel
theorem dX8_token_121 : decode cX8_token 121 = .ok (.iadd, 1) := by decide +kernel
theorem dX8_token_122 : decode cX8_token 122 = .ok (.putfield 59, 3) := by decide +kernel
theorem dX8_token_125 : decode cX8_token 125 = .ok (.aload_n 0, 1) := by decide +kernel
theorem dX8_token_126 : decode cX8_token 126 = .ok (.getfield 73, 3) := by decide +kernel
theorem dX8_token_129 : decode cX8_token 129 = .ok (.iconst 2, 1) := by decide +kernel
theorem dX8_token_130 : decode cX8_token 130 = .ok (.if_icmp .ne 83, 3) := by decide +kernel
theorem dX8_token_133 : decode cX8_token 133 = .ok (.aload_n 0, 1) := by decide +kernel
theorem dX8_token_134 : decode cX8_token 134 = .ok (.iload_n 1, 1) := by decide +kernel
theorem dX8_token_135 : decode cX8_token 135 = .ok (.bipush 48, 2) := by decide +kernel
theorem dX8_token_137 : decode cX8_token 137 = .ok (.isub, 1) := by decide +kernel
theorem dX8_token_138 : decode cX8_token 138 = .ok (.putfield 76, 3) := by decide +kernel
theorem dX8_token_141 : decode cX8_token 141 = .ok (.aload_n 0, 1) := by decide +kernel
theorem dX8_token_142 : decode cX8_token 142 = .ok (.aload_n 0, 1) := by decide +kernel
theorem dX8_token_143 : decode cX8_token 143 = .ok (.getfield 59, 3) := by decide +kernel
theorem dX8_token_146 : decode cX8_token 146 = .ok (.invokevirtual 62, 3) := by decide +kernel
theorem dX8_token_149 : decode cX8_token 149 = .ok (.invokestatic 69, 3) := by decide +kernel
theorem dX8_token_152 : decode cX8_token 152 = .ok (.ifCond .eq 61, 3) := by decide +kernel
theorem dX8_token_155 : decode cX8_token 155 = .ok (.aload_n 0, 1) := by decide +kernel
theorem dX8_token_156 : decode cX8_token 156 = .ok (.iload_n 1, 1) := by decide +kernel
theorem dX8_token_157 : decode cX8_token 157 = .ok (.bipush 48, 2) := by decide +kernel
theorem dX8_token_159 : decode cX8_token 159 = .ok (.if_icmp .eq 12, 3) := by decide +kernel
theorem dX8_token_162 : decode cX8_token 162 = .ok (.aload_n 0, 1) := by decide +kernel
theorem dX8_token_163 : decode cX8_token 163 = .ok (.getfield 76, 3) := by decide +kernel
theorem dX8_token_166 : decode cX8_token 166 = .ok (.bipush 99, 2) := by decide +kernel
theorem dX8_token_168 : decode cX8_token 168 = .ok (.if_icmp .le 9, 3) := by decide +kernel
theorem dX8_token_171 : decode cX8_token 171 = .ok (.sipush 1000, 3) := by decide +kernel
theorem dX8_token_174 : decode cX8_token 174 = .ok (.goto 23, 3) := by decide +kernel
theorem dX8_token_177 : decode cX8_token 177 = .ok (.bipush 10, 2) := by decide +kernel
theorem dX8_token_179 : decode cX8_token 179 = .ok (.aload_n 0, 1) := by decide +kernel
theorem dX8_token_180 : decode cX8_token 180 = .ok (.getfield 76, 3) := by decide +kernel
theorem dX8_token_183 : decode cX8_token 183 = .ok (.imul, 1) := by decide +kernel
theorem dX8_token_184 : decode cX8_token 184 = .ok (.aload_n 0, 1) := by decide +kernel
theorem dX8_token_185 : decode cX8_token 185 = .ok (.getfield 7, 3) := by decide +kernel
theorem dX8_token_188 : decode cX8_token 188 = .ok (.aload_n 0, 1) := by decide +kernel
theorem dX8_token_189 : decode cX8_token 189 = .ok (.getfield 59, 3) := by decide +kernel
theorem dX8_token_192 : decode cX8_token 192 = .ok (.iaload, 1) := by decide +kernel
theorem dX8_token_193 : decode cX8_token 193 = .ok (.iadd, 1) := by decide +kernel
theorem dX8_token_194 : decode cX8_token 194 = .ok (.bipush 48, 2) := by decide +kernel
theorem dX8_token_196 : decode cX8_token 196 = .ok (.isub, 1) := by decide +kernel
theorem dX8_token_197 : decode cX8_token 197 = .ok (.putfield 76, 3) := by decide +kernel
theorem dX8_token_200 : decode cX8_token 200 = .ok (.aload_n 0, 1) := by decide +kernel
theorem dX8_token_201 : decode cX8_token 201 = .ok (.dup, 1) := by decide +kernel
theorem dX8_token_202 : decode cX8_token 202 = .ok (.getfield 59, 3) := by decide +kernel
theorem dX8_token_205 : decode cX8_token 205 = .ok (.iconst 1, 1) := by decide +kernel
theorem dX8_token_206 : decode cX8_token 206 = .ok (.iadd, 1) := by decide +kernel
theorem dX8_token_207 : decode cX8_token 207 = .ok (.putfield 59, 3) := by decide +kernel
theorem dX8_token_210 : decode cX8_token 210 = .ok (.goto (-69), 3) := by decide +kernel
theorem dX8_token_213 : decode cX8_token 213 = .ok (.return_, 1) := by decide +kernel
set_option maxRecDepth 20000 in
theorem ggX8_number_X8_token : GoodIn wsX8_number wsX8_token := goodIn_r _ [8, 9, 10, 3, 2, 11, 12, 13, 14, 7, 15, 16, 17, 18, 19, 20, 21, 22, 23, 24, 25, 26, 27, 28, 29, 30, 31, 32, 33, 34, 35, 36, 37, 38, 39, 40, 41] (by decide +kernel) (by decide +kernel)
set_option maxRecDepth 20000 in
theorem gX8_number_X8_token : GoodIn wsX8_number (wsV RX8 79 RX8 yX8_token wsX8_token) := goodIn_app (goodIn_of _ (by decide +kernel)) ggX8_number_X8_token
set_option maxRecDepth 20000 in
theorem ggX8_number_X8_in : GoodIn wsX8_number wsX8_in := goodIn_r _ [22] (by decide +kernel) (by decide +kernel)
set_option maxRecDepth 20000 in
theorem gX8_number_X8_in : GoodIn wsX8_number (va_wsS RX8 51 yX8_in wsX8_in) := goodIn_app (goodIn_of _ (by decide +kernel)) ggX8_number_X8_in
theorem dX8_number_0 : decode cX8_number 0 = .ok (.aload_n 0, 1) := by decide +kernel
theorem dX8_number_1 : decode cX8_number 1 = .ok (.invokevirtual 79, 3) := by decide +kernel
theorem dX8_number_4 : decode cX8_number 4 = .ok (.aload_n 0, 1) := by decide +kernel
theorem dX8_number_5 : decode cX8_number 5 = .ok (.getfield 16, 3) := by decide +kernel
theorem dX8_number_8 : decode cX8_number 8 = .ok (.iload_n 1, 1) := by decide +kernel
theorem dX8_number_9 : decode cX8_number 9 = .ok (.aload_n 0, 1) := by decide +kernel
theorem dX8_number_10 : decode cX8_number 10 = .ok (.getfield 76, 3) := by decide +kernel
theorem dX8_number_13 : decode cX8_number 13 = .ok (.iastore, 1) := by decide +kernel
theorem dX8_number_14 : decode cX8_number 14 = .ok (.aload_n 0, 1) := by decide +kernel
theorem dX8_number_15 : decode cX8_number 15 = .ok (.getfield 73, 3) := by decide +kernel
theorem dX8_number_18 : decode cX8_number 18 = .ok (.iconst 2, 1) := by decide +kernel
theorem dX8_number_19 : decode cX8_number 19 = .ok (.if_icmp .ne 19, 3) := by decide +kernel
theorem dX8_number_22 : decode cX8_number 22 = .ok (.aload_n 0, 1) := by decide +kernel
theorem dX8_number_23 : decode cX8_number 23 = .ok (.getfield 76, 3) := by decide +kernel
theorem dX8_number_26 : decode cX8_number 26 = .ok (.iload_n 2, 1) := by decide +kernel
theorem dX8_number_27 : decode cX8_number 27 = .ok (.iload_n 3, 1) := by decide +kernel
theorem dX8_number_28 : decode cX8_number 28 = .ok (.invokestatic 51, 3) := by decide +kernel
theorem dX8_number_31 : decode cX8_number 31 = .ok (.ifCond .eq 7, 3) := by decide +kernel
theorem dX8_number_34 : decode cX8_number 34 = .ok (.iconst 1, 1) := by decide +kernel
theorem dX8_number_35 : decode cX8_number 35 = .ok (.goto 4, 3) := by decide +kernel
theorem dX8_number_38 : decode cX8_number 38 = .ok (.iconst 0, 1) := by decide +kernel
theorem dX8_number_39 : decode cX8_number 39 = .ok (.ireturn, 1) := by decide +kernel
set_option maxRecDepth 20000 in
theorem ggX8_once_X8_number : GoodIn wsX8_once wsX8_number := goodIn_r _ [6, 1, 7, 8, 9, 10, 11, 5, 12, 13, 14, 15, 16, 17, 18, 19, 20, 21, 22, 23, 24, 25, 26, 27, 28, 29, 30, 31, 32, 33, 34, 35, 36, 37, 38, 39, 40, 41, 42, 43, 44, 45] (by decide +kernel) (by decide +kernel)
set_option maxRecDepth 20000 in
theorem gX8_once_X8_number : GoodIn wsX8_once (wsV RX8 82 RX8 yX8_number wsX8_number) := goodIn_app (goodIn_of _ (by decide +kernel)) ggX8_once_X8_number
theorem dX8_once_0 : decode cX8_once 0 = .ok (.aload_n 0, 1) := by decide +kernel
theorem dX8_once_1 : decode cX8_once 1 = .ok (.getfield 16, 3) := by decide +kernel
theorem dX8_once_4 : decode cX8_once 4 = .ok (.iconst 4, 1) := by decide +kernel
theorem dX8_once_5 : decode cX8_once 5 = .ok (.iaload, 1) := by decide +kernel
theorem dX8_once_6 : decode cX8_once 6 = .ok (.iload_n 1, 1) := by decide +kernel
theorem dX8_once_7 : decode cX8_once 7 = .ok (.iand, 1) := by decide +kernel
theorem dX8_once_8 : decode cX8_once 8 = .ok (.ifCond .eq 5, 3) := by decide +kernel
theorem dX8_once_11 : decode cX8_once 11 = .ok (.iconst 0, 1) := by decide +kernel
theorem dX8_once_12 : decode cX8_once 12 = .ok (.ireturn, 1) := by decide +kernel
theorem dX8_once_13 : decode cX8_once 13 = .ok (.aload_n 0, 1) := by decide +kernel
theorem dX8_once_14 : decode cX8_once 14 = .ok (.getfield 16, 3) := by decide +kernel
theorem dX8_once_17 : decode cX8_once 17 = .ok (.iconst 4, 1) := by decide +kernel
theorem dX8_once_18 : decode cX8_once 18 = .ok (.dup2, 1) := by decide +kernel
theorem dX8_once_19 : decode cX8_once 19 = .ok (.iaload, 1) := by decide +kernel
theorem dX8_once_20 : decode cX8_once 20 = .ok (.iload_n 1, 1) := by decide +kernel
theorem dX8_once_21 : decode cX8_once 21 = .ok (.ior, 1) := by decide +kernel
theorem dX8_once_22 : decode cX8_once 22 = .ok (.iastore, 1) := by decide +kernel
theorem dX8_once_23 : decode cX8_once 23 = .ok (.aload_n 0, 1) := by decide +kernel
theorem dX8_once_24 : decode cX8_once 24 = .ok (.iload_n 2, 1) := by decide +kernel
theorem dX8_once_25 : decode cX8_once 25 = .ok (.iload_n 3, 1) := by decide +kernel
theorem dX8_once_26 : decode cX8_once 26 = .ok (.iload 4, 2) := by decide +kernel
theorem dX8_once_28 : decode cX8_once 28 = .ok (.invokevirtual 82, 3) := by decide +kernel
theorem dX8_once_31 : decode cX8_once 31 = .ok (.ireturn, 1) := by decide +kernel
set_option maxRecDepth 20000 in
theorem ggX8_readsItem_X8_number : GoodIn wsX8_readsItem wsX8_number := goodIn_r _ [8, 3, 2, 1, 9, 10, 11, 7, 12, 13, 14, 15, 16, 17, 18, 19, 20, 21, 22, 23, 24, 25, 26, 31, 32, 33, 34, 35, 36, 37, 38, 39, 40, 41, 42, 43, 44, 45, 46, 47, 48, 49] (by decide +kernel) (by decide +kernel)
set_option maxRecDepth 20000 in
theorem gX8_readsItem_X8_number : GoodIn wsX8_readsItem (wsV RX8 82 RX8 yX8_number wsX8_number) := goodIn_app (goodIn_of _ (by decide +kernel)) ggX8_readsItem_X8_number
set_option maxRecDepth 20000 in
theorem ggX8_readsItem_X8_once : GoodIn wsX8_readsItem wsX8_once := goodIn_r _ [30, 3, 4, 5, 6, 7, 8, 2, 1, 9, 10, 11, 12, 13, 14, 15, 16, 17, 18, 19, 20, 21, 22, 23, 24, 25, 26, 31, 32, 33, 34, 35, 36, 37, 38, 39, 40, 41, 42, 43, 44, 45, 46, 47, 48, 49] (by decide +kernel) (by decide +kernel)
set_option maxRecDepth 20000 in
theorem gX8_readsItem_X8_once : GoodIn wsX8_readsItem (wsV RX8 85 RX8 yX8_once wsX8_once) := goodIn_app (goodIn_of _ (by decide +kernel)) ggX8_readsItem_X8_once
theorem dX8_readsItem_0 : decode cX8_readsItem 0 = .ok (.aload_n 0, 1) := by decide +kernel
theorem dX8_readsItem_1 : decode cX8_readsItem 1 = .ok (.getfield 73, 3) := by decide +kernel
theorem dX8_readsItem_4 : decode cX8_readsItem 4 = .ok (.iconst 1, 1) := by decide +kernel
theorem dX8_readsItem_5 : decode cX8_readsItem 5 = .ok (.if_icmp .ne 10, 3) := by decide +kernel
theorem dX8_readsItem_8 : decode cX8_readsItem 8 = .ok (.aload_n 0, 1) := by decide +kernel
theorem dX8_readsItem_9 : decode cX8_readsItem 9 = .ok (.getfield 76, 3) := by decide +kernel
theorem dX8_readsItem_12 : decode cX8_readsItem 12 = .ok (.goto 4, 3) := by decide +kernel
theorem dX8_readsItem_15 : decode cX8_readsItem 15 = .ok (.iconst 0, 1) := by decide +kernel
theorem dX8_readsItem_16 : decode cX8_readsItem 16 = .ok (.istore_n 1, 1) := by decide +kernel
theorem dX8_readsItem_17 : decode cX8_readsItem 17 = .ok (.aload_n 0, 1) := by decide +kernel
theorem dX8_readsItem_18 : decode cX8_readsItem 18 = .ok (.getfield 16, 3) := by decide +kernel
theorem dX8_readsItem_21 : decode cX8_readsItem 21 = .ok (.iconst 0, 1) := by decide +kernel
theorem dX8_readsItem_22 : decode cX8_readsItem 22 = .ok (.iaload, 1) := by decide +kernel
theorem dX8_readsItem_23 : decode cX8_readsItem 23 = .ok (.istore_n 2, 1) := by decide +kernel
theorem dX8_readsItem_24 : decode cX8_readsItem 24 = .ok (.iload_n 1, 1) := by decide +kernel
theorem dX8_readsItem_25 : decode cX8_readsItem 25 = .ok (.lookupswitch 116 #[(98, 35), (107, 96), (112, 106)], 35) := by decide +kernel
theorem dX8_readsItem_60 : decode cX8_readsItem 60 = .ok (.iload_n 2, 1) := by decide +kernel
theorem dX8_readsItem_61 : decode cX8_readsItem 61 = .ok (.bipush 6, 2) := by decide +kernel
theorem dX8_readsItem_63 : decode cX8_readsItem 63 = .ok (.if_icmp .eq 44, 3) := by decide +kernel
theorem dX8_readsItem_66 : decode cX8_readsItem 66 = .ok (.aload_n 0, 1) := by decide +kernel
theorem dX8_readsItem_67 : decode cX8_readsItem 67 = .ok (.iconst 5, 1) := by decide +kernel
theorem dX8_readsItem_68 : decode cX8_readsItem 68 = .ok (.iload_n 2, 1) := by decide +kernel
theorem dX8_readsItem_69 : decode cX8_readsItem 69 = .ok (.iadd, 1) := by decide +kernel
theorem dX8_readsItem_70 : decode cX8_readsItem 70 = .ok (.iconst 0, 1) := by decide +kernel
theorem dX8_readsItem_71 : decode cX8_readsItem 71 = .ok (.bipush 99, 2) := by decide +kernel
theorem dX8_readsItem_73 : decode cX8_readsItem 73 = .ok (.invokevirtual 82, 3) := by decide +kernel
theorem dX8_readsItem_76 : decode cX8_readsItem 76 = .ok (.ifCond .eq 31, 3) := by decide +kernel
theorem dX8_readsItem_79 : decode cX8_readsItem 79 = .ok (.aload_n 0, 1) := by decide +kernel
theorem dX8_readsItem_80 : decode cX8_readsItem 80 = .ok (.bipush 11, 2) := by decide +kernel
theorem dX8_readsItem_82 : decode cX8_readsItem 82 = .ok (.iload_n 2, 1) := by decide +kernel
theorem dX8_readsItem_83 : decode cX8_readsItem 83 = .ok (.iadd, 1) := by decide +kernel
theorem dX8_readsItem_84 : decode cX8_readsItem 84 = .ok (.iconst 1, 1) := by decide +kernel
theorem dX8_readsItem_85 : decode cX8_readsItem 85 = .ok (.bipush 9, 2) := by decide +kernel
theorem dX8_readsItem_87 : decode cX8_readsItem 87 = .ok (.invokevirtual 82, 3) := by decide +kernel
theorem dX8_readsItem_90 : decode cX8_readsItem 90 = .ok (.ifCond .eq 17, 3) := by decide +kernel
theorem dX8_readsItem_93 : decode cX8_readsItem 93 = .ok (.aload_n 0, 1) := by decide +kernel
theorem dX8_readsItem_94 : decode cX8_readsItem 94 = .ok (.bipush 17, 2) := by decide +kernel
theorem dX8_readsItem_96 : decode cX8_readsItem 96 = .ok (.iload_n 2, 1) := by decide +kernel
theorem dX8_readsItem_97 : decode cX8_readsItem 97 = .ok (.iadd, 1) := by decide +kernel
theorem dX8_readsItem_98 : decode cX8_readsItem 98 = .ok (.iconst 0, 1) := by decide +kernel
theorem dX8_readsItem_99 : decode cX8_readsItem 99 = .ok (.bipush 99, 2) := by decide +kernel
theorem dX8_readsItem_101 : decode cX8_readsItem 101 = .ok (.invokevirtual 82, 3) := by decide +kernel
theorem dX8_readsItem_104 : decode cX8_readsItem 104 = .ok (.ifCond .ne 5, 3) := by decide +kernel
theorem dX8_readsItem_107 : decode cX8_readsItem 107 = .ok (.iconst 0, 1) := by decide +kernel
theorem dX8_readsItem_108 : decode cX8_readsItem 108 = .ok (.ireturn, 1) := by decide +kernel
theorem dX8_readsItem_109 : decode cX8_readsItem 109 = .ok (.aload_n 0, 1) := by decide +kernel
theorem dX8_readsItem_110 : decode cX8_readsItem 110 = .ok (.getfield 16, 3) := by decide +kernel
theorem dX8_readsItem_113 : decode cX8_readsItem 113 = .ok (.iconst 0, 1) := by decide +kernel
theorem dX8_readsItem_114 : decode cX8_readsItem 114 = .ok (.dup2, 1) := by decide +kernel
theorem dX8_readsItem_115 : decode cX8_readsItem 115 = .ok (.iaload, 1) := by decide +kernel
theorem dX8_readsItem_116 : decode cX8_readsItem 116 = .ok (.iconst 1, 1) := by decide +kernel
theorem dX8_readsItem_117 : decode cX8_readsItem 117 = .ok (.iadd, 1) := by decide +kernel
theorem dX8_readsItem_118 : decode cX8_readsItem 118 = .ok (.iastore, 1) := by decide +kernel
theorem dX8_readsItem_119 : decode cX8_readsItem 119 = .ok (.iconst 1, 1) := by decide +kernel
theorem dX8_readsItem_120 : decode cX8_readsItem 120 = .ok (.ireturn, 1) := by decide +kernel
theorem dX8_readsItem_121 : decode cX8_readsItem 121 = .ok (.aload_n 0, 1) := by decide +kernel
theorem dX8_readsItem_122 : decode cX8_readsItem 122 = .ok (.iconst 1, 1) := by decide +kernel
theorem dX8_readsItem_123 : decode cX8_readsItem 123 = .ok (.iconst 1, 1) := by decide +kernel
theorem dX8_readsItem_124 : decode cX8_readsItem 124 = .ok (.iconst 0, 1) := by decide +kernel
theorem dX8_readsItem_125 : decode cX8_readsItem 125 = .ok (.bipush 60, 2) := by decide +kernel
theorem dX8_readsItem_127 : decode cX8_readsItem 127 = .ok (.invokevirtual 85, 3) := by decide +kernel
theorem dX8_readsItem_130 : decode cX8_readsItem 130 = .ok (.ireturn, 1) := by decide +kernel
theorem dX8_readsItem_131 : decode cX8_readsItem 131 = .ok (.aload_n 0, 1) := by decide +kernel
theorem dX8_readsItem_132 : decode cX8_readsItem 132 = .ok (.iconst 2, 1) := by decide +kernel
theorem dX8_readsItem_133 : decode cX8_readsItem 133 = .ok (.iconst 2, 1) := by decide +kernel
theorem dX8_readsItem_134 : decode cX8_readsItem 134 = .ok (.iconst 1, 1) := by decide +kernel
theorem dX8_readsItem_135 : decode cX8_readsItem 135 = .ok (.bipush 30, 2) := by decide +kernel
theorem dX8_readsItem_137 : decode cX8_readsItem 137 = .ok (.invokevirtual 85, 3) := by decide +kernel
theorem dX8_readsItem_140 : decode cX8_readsItem 140 = .ok (.ireturn, 1) := by decide +kernel
theorem dX8_readsItem_141 : decode cX8_readsItem 141 = .ok (.iconst 0, 1) := by decide +kernel
theorem dX8_readsItem_142 : decode cX8_readsItem 142 = .ok (.ireturn, 1) := by decide +kernel
set_option maxRecDepth 20000 in
theorem ggX8_reads_X8_token : GoodIn wsX8_reads wsX8_token := goodIn_r _ [8, 2, 9, 3, 10, 11, 12, 13, 14, 7, 15, 16, 17, 18, 19, 20, 21, 22, 35, 36, 37, 38, 39, 40, 41, 42, 43, 44, 45, 46, 47, 48, 49, 50, 51, 52, 53] (by decide +kernel) (by decide +kernel)
set_option maxRecDepth 20000 in
theorem gX8_reads_X8_token : GoodIn wsX8_reads (wsV RX8 79 RX8 yX8_token wsX8_token) := goodIn_app (goodIn_of _ (by decide +kernel)) ggX8_reads_X8_token
set_option maxRecDepth 20000 in
theorem ggX8_reads_X8_readsItem : GoodIn wsX8_reads wsX8_readsItem := goodIn_r _ [26, 3, 10, 1, 27, 28, 29, 7, 30, 4, 5, 6, 8, 2, 9, 11, 12, 13, 14, 15, 16, 17, 18, 19, 20, 21, 22, 31, 32, 33, 34, 35, 36, 37, 38, 39, 40, 41, 42, 43, 44, 45, 46, 47, 48, 49, 50, 51, 52, 53] (by decide +kernel) (by decide +kernel)
set_option maxRecDepth 20000 in
theorem gX8_reads_X8_readsItem : GoodIn wsX8_reads (wsV RX8 89 RX8 yX8_readsItem wsX8_readsItem) := goodIn_app (goodIn_of _ (by decide +kernel)) ggX8_reads_X8_readsItem
theorem dX8_reads_0 : decode cX8_reads 0 = .ok (.iconst 0, 1) := by decide +kernel
theorem dX8_reads_1 : decode cX8_reads 1 = .ok (.istore_n 1, 1) := by decide +kernel
theorem dX8_reads_2 : decode cX8_reads 2 = .ok (.iload_n 1, 1) := by decide +kernel
theorem dX8_reads_3 : decode cX8_reads 3 = .ok (.bipush 23, 2) := by decide +kernel
theorem dX8_reads_5 : decode cX8_reads 5 = .ok (.if_icmp .ge 16, 3) := by decide +kernel
theorem dX8_reads_8 : decode cX8_reads 8 = .ok (.aload_n 0, 1) := by decide +kernel
theorem dX8_reads_9 : decode cX8_reads 9 = .ok (.getfield 16, 3) := by decide +kernel
theorem dX8_reads_12 : decode cX8_reads 12 = .ok (.iload_n 1, 1) := by decide +kernel
theorem dX8_reads_13 : decode cX8_reads 13 = .ok (.iconst 0, 1) := by decide +kernel
theorem dX8_reads_14 : decode cX8_reads 14 = .ok (.iastore, 1) := by decide +kernel
theorem dX8_reads_15 : decode cX8_reads 15 = .ok (.iinc 1 1, 3) := by decide +kernel
theorem dX8_reads_18 : decode cX8_reads 18 = .ok (.goto (-16), 3) := by decide +kernel
theorem dX8_reads_21 : decode cX8_reads 21 = .ok (.aload_n 0, 1) := by decide +kernel
theorem dX8_reads_22 : decode cX8_reads 22 = .ok (.getfield 16, 3) := by decide +kernel
theorem dX8_reads_25 : decode cX8_reads 25 = .ok (.iconst 1, 1) := by decide +kernel
theorem dX8_reads_26 : decode cX8_reads 26 = .ok (.bipush 10, 2) := by decide +kernel
theorem dX8_reads_28 : decode cX8_reads 28 = .ok (.iastore, 1) := by decide +kernel
theorem dX8_reads_29 : decode cX8_reads 29 = .ok (.aload_n 0, 1) := by decide +kernel
theorem dX8_reads_30 : decode cX8_reads 30 = .ok (.getfield 16, 3) := by decide +kernel
theorem dX8_reads_33 : decode cX8_reads 33 = .ok (.iconst 2, 1) := by decide +kernel
theorem dX8_reads_34 : decode cX8_reads 34 = .ok (.bipush 10, 2) := by decide +kernel
theorem dX8_reads_36 : decode cX8_reads 36 = .ok (.iastore, 1) := by decide +kernel
theorem dX8_reads_37 : decode cX8_reads 37 = .ok (.aload_n 0, 1) := by decide +kernel
theorem dX8_reads_38 : decode cX8_reads 38 = .ok (.iconst 0, 1) := by decide +kernel
theorem dX8_reads_39 : decode cX8_reads 39 = .ok (.putfield 59, 3) := by decide +kernel
theorem dX8_reads_42 : decode cX8_reads 42 = .ok (.aload_n 0, 1) := by decide +kernel
theorem dX8_reads_43 : decode cX8_reads 43 = .ok (.invokevirtual 79, 3) := by decide +kernel
theorem dX8_reads_46 : decode cX8_reads 46 = .ok (.aload_n 0, 1) := by decide +kernel
theorem dX8_reads_47 : decode cX8_reads 47 = .ok (.getfield 73, 3) := by decide +kernel
theorem dX8_reads_50 : decode cX8_reads 50 = .ok (.ifCond .eq 43, 3) := by decide +kernel
theorem dX8_reads_53 : decode cX8_reads 53 = .ok (.aload_n 0, 1) := by decide +kernel
theorem dX8_reads_54 : decode cX8_reads 54 = .ok (.invokevirtual 89, 3) := by decide +kernel
theorem dX8_reads_57 : decode cX8_reads 57 = .ok (.ifCond .ne 5, 3) := by decide +kernel
theorem dX8_reads_60 : decode cX8_reads 60 = .ok (.iconst 0, 1) := by decide +kernel
theorem dX8_reads_61 : decode cX8_reads 61 = .ok (.ireturn, 1) := by decide +kernel
theorem dX8_reads_62 : decode cX8_reads 62 = .ok (.aload_n 0, 1) := by decide +kernel
theorem dX8_reads_63 : decode cX8_reads 63 = .ok (.invokevirtual 79, 3) := by decide +kernel
theorem dX8_reads_66 : decode cX8_reads 66 = .ok (.aload_n 0, 1) := by decide +kernel
theorem dX8_reads_67 : decode cX8_reads 67 = .ok (.getfield 73, 3) := by decide +kernel
theorem dX8_reads_70 : decode cX8_reads 70 = .ok (.iconst 3, 1) := by decide +kernel
theorem dX8_reads_71 : decode cX8_reads 71 = .ok (.if_icmp .eq 5, 3) := by decide +kernel
theorem dX8_reads_74 : decode cX8_reads 74 = .ok (.iconst 0, 1) := by decide +kernel
theorem dX8_reads_75 : decode cX8_reads 75 = .ok (.ireturn, 1) := by decide +kernel
theorem dX8_reads_76 : decode cX8_reads 76 = .ok (.aload_n 0, 1) := by decide +kernel
theorem dX8_reads_77 : decode cX8_reads 77 = .ok (.getfield 16, 3) := by decide +kernel
theorem dX8_reads_80 : decode cX8_reads 80 = .ok (.iconst 3, 1) := by decide +kernel
theorem dX8_reads_81 : decode cX8_reads 81 = .ok (.dup2, 1) := by decide +kernel
theorem dX8_reads_82 : decode cX8_reads 82 = .ok (.iaload, 1) := by decide +kernel
theorem dX8_reads_83 : decode cX8_reads 83 = .ok (.iconst 1, 1) := by decide +kernel
theorem dX8_reads_84 : decode cX8_reads 84 = .ok (.iadd, 1) := by decide +kernel
theorem dX8_reads_85 : decode cX8_reads 85 = .ok (.iastore, 1) := by decide +kernel
theorem dX8_reads_86 : decode cX8_reads 86 = .ok (.aload_n 0, 1) := by decide +kernel
theorem dX8_reads_87 : decode cX8_reads 87 = .ok (.invokevirtual 79, 3) := by decide +kernel
theorem dX8_reads_90 : decode cX8_reads 90 = .ok (.goto (-44), 3) := by decide +kernel
theorem dX8_reads_93 : decode cX8_reads 93 = .ok (.iconst 1, 1) := by decide +kernel
theorem dX8_reads_94 : decode cX8_reads 94 = .ok (.ireturn, 1) := by decide +kernel
theorem dX8_begins_0 : decode cX8_begins 0 = .ok (.iconst 0, 1) := by decide +kernel
theorem dX8_begins_1 : decode cX8_begins 1 = .ok (.istore_n 1, 1) := by decide +kernel
theorem dX8_begins_2 : decode cX8_begins 2 = .ok (.iload_n 1, 1) := by decide +kernel
theorem dX8_begins_3 : decode cX8_begins 3 = .ok (.bipush 23, 2) := by decide +kernel
theorem dX8_begins_5 : decode cX8_begins 5 = .ok (.if_icmp .ge 21, 3) := by decide +kernel
theorem dX8_begins_8 : decode cX8_begins 8 = .ok (.aload_n 0, 1) := by decide +kernel
theorem dX8_begins_9 : decode cX8_begins 9 = .ok (.getfield 13, 3) := by decide +kernel
theorem dX8_begins_12 : decode cX8_begins 12 = .ok (.iload_n 1, 1) := by decide +kernel
theorem dX8_begins_13 : decode cX8_begins 13 = .ok (.aload_n 0, 1) := by decide +kernel
theorem dX8_begins_14 : decode cX8_begins 14 = .ok (.getfield 16, 3) := by decide +kernel
theorem dX8_begins_17 : decode cX8_begins 17 = .ok (.iload_n 1, 1) := by decide +kernel
theorem dX8_begins_18 : decode cX8_begins 18 = .ok (.iaload, 1) := by decide +kernel
theorem dX8_begins_19 : decode cX8_begins 19 = .ok (.iastore, 1) := by decide +kernel
theorem dX8_begins_20 : decode cX8_begins 20 = .ok (.iinc 1 1, 3) := by decide +kernel
theorem dX8_begins_23 : decode cX8_begins 23 = .ok (.goto (-21), 3) := by decide +kernel
theorem dX8_begins_26 : decode cX8_begins 26 = .ok (.aload_n 0, 1) := by decide +kernel
