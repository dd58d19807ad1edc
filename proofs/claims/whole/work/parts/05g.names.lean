theorem dX8_whoNow_54 : decode cX8_whoNow 54 = .ok (.iconst 1, 1) := by decide +kernel
theorem dX8_whoNow_55 : decode cX8_whoNow 55 = .ok (.iadd, 1) := by decide +kernel
theorem dX8_whoNow_56 : decode cX8_whoNow 56 = .ok (.iaload, 1) := by decide +kernel
theorem dX8_whoNow_57 : decode cX8_whoNow 57 = .ok (.if_icmp .ne 7, 3) := by decide +kernel
theorem dX8_whoNow_60 : decode cX8_whoNow 60 = .ok (.iconst 1, 1) := by decide +kernel
theorem dX8_whoNow_61 : decode cX8_whoNow 61 = .ok (.goto 4, 3) := by decide +kernel
theorem dX8_whoNow_64 : decode cX8_whoNow 64 = .ok (.iconst 0, 1) := by decide +kernel
theorem dX8_whoNow_65 : decode cX8_whoNow 65 = .ok (.istore_n 3, 1) := by decide +kernel
theorem dX8_whoNow_66 : decode cX8_whoNow 66 = .ok (.iinc 4 1, 3) := by decide +kernel
theorem dX8_whoNow_69 : decode cX8_whoNow 69 = .ok (.goto (-50), 3) := by decide +kernel
theorem dX8_whoNow_72 : decode cX8_whoNow 72 = .ok (.iload_n 1, 1) := by decide +kernel
theorem dX8_whoNow_73 : decode cX8_whoNow 73 = .ok (.iload_n 3, 1) := by decide +kernel
theorem dX8_whoNow_74 : decode cX8_whoNow 74 = .ok (.ifCond .eq 9, 3) := by decide +kernel
theorem dX8_whoNow_77 : decode cX8_whoNow 77 = .ok (.iconst 1, 1) := by decide +kernel
theorem dX8_whoNow_78 : decode cX8_whoNow 78 = .ok (.iload_n 2, 1) := by decide +kernel
theorem dX8_whoNow_79 : decode cX8_whoNow 79 = .ok (.ishl, 1) := by decide +kernel
theorem dX8_whoNow_80 : decode cX8_whoNow 80 = .ok (.goto 4, 3) := by decide +kernel
theorem dX8_whoNow_83 : decode cX8_whoNow 83 = .ok (.iconst 0, 1) := by decide +kernel
theorem dX8_whoNow_84 : decode cX8_whoNow 84 = .ok (.ior, 1) := by decide +kernel
theorem dX8_whoNow_85 : decode cX8_whoNow 85 = .ok (.istore_n 1, 1) := by decide +kernel
theorem dX8_whoNow_86 : decode cX8_whoNow 86 = .ok (.iinc 2 1, 3) := by decide +kernel
theorem dX8_whoNow_89 : decode cX8_whoNow 89 = .ok (.goto (-85), 3) := by decide +kernel
theorem dX8_whoNow_92 : decode cX8_whoNow 92 = .ok (.iload_n 1, 1) := by decide +kernel
theorem dX8_whoNow_93 : decode cX8_whoNow 93 = .ok (.ireturn, 1) := by decide +kernel
set_option maxRecDepth 20000 in
theorem ggX8_who_X8_whoNow : GoodIn wsX8_who wsX8_whoNow := goodIn_r _ [5, 6, 7, 8, 9, 10, 11, 4, 12, 13, 14, 15, 16, 17, 18, 19, 20, 21, 22, 23, 24, 25, 26, 27, 28, 29, 30, 31, 32, 33, 34, 35, 36, 37, 38, 39, 40, 41, 42, 43] (by decide +kernel) (by decide +kernel)
set_option maxRecDepth 20000 in
theorem gX8_who_X8_whoNow : GoodIn wsX8_who (wsV RX8 148 RX8 yX8_whoNow wsX8_whoNow) := goodIn_app (goodIn_of _ (by decide +kernel)) ggX8_who_X8_whoNow
theorem dX8_who_0 : decode cX8_who 0 = .ok (.aload_n 0, 1) := by decide +kernel
theorem dX8_who_1 : decode cX8_who 1 = .ok (.invokevirtual 148, 3) := by decide +kernel
theorem dX8_who_4 : decode cX8_who 4 = .ok (.ireturn, 1) := by decide +kernel
set_option maxRecDepth 20000 in
theorem ggX8_listen_X8_whoNow : GoodIn wsX8_listen wsX8_whoNow := goodIn_r _ [6, 1, 7, 8, 9, 10, 11, 5, 12, 13, 14, 15, 16, 17, 18, 19, 20, 21, 22, 23, 24, 25, 26, 27, 28, 29, 30, 31, 32, 33, 34, 35, 36, 37, 38, 39, 40, 41, 42, 43] (by decide +kernel) (by decide +kernel)
set_option maxRecDepth 20000 in
theorem gX8_listen_X8_whoNow : GoodIn wsX8_listen (wsV RX8 148 RX8 yX8_whoNow wsX8_whoNow) := goodIn_app (goodIn_of _ (by decide +kernel)) ggX8_listen_X8_whoNow
set_option maxRecDepth 20000 in
theorem ggX8_listen_X8_soundIn : GoodIn wsX8_listen wsX8_soundIn := goodIn_r _ [12, 13, 14, 15, 16, 5, 17, 1, 18, 19, 20, 21, 22, 23, 24, 25, 26, 27, 28, 29, 30, 31, 32, 33, 34, 35, 36, 37, 38, 39, 40, 41, 42, 43] (by decide +kernel) (by decide +kernel)
set_option maxRecDepth 20000 in
theorem gX8_listen_X8_soundIn : GoodIn wsX8_listen (wsV RX8 145 RX8 yX8_soundIn wsX8_soundIn) := goodIn_app (goodIn_of _ (by decide +kernel)) ggX8_listen_X8_soundIn
theorem dX8_listen_0 : decode cX8_listen 0 = .ok (.aload_n 0, 1) := by decide +kernel
theorem dX8_listen_1 : decode cX8_listen 1 = .ok (.invokevirtual 148, 3) := by decide +kernel
theorem dX8_listen_4 : decode cX8_listen 4 = .ok (.istore_n 1, 1) := by decide +kernel
theorem dX8_listen_5 : decode cX8_listen 5 = .ok (.bipush (-9), 2) := by decide +kernel
theorem dX8_listen_7 : decode cX8_listen 7 = .ok (.istore_n 2, 1) := by decide +kernel
theorem dX8_listen_8 : decode cX8_listen 8 = .ok (.bipush 99, 2) := by decide +kernel
theorem dX8_listen_10 : decode cX8_listen 10 = .ok (.istore_n 3, 1) := by decide +kernel
theorem dX8_listen_11 : decode cX8_listen 11 = .ok (.iconst 0, 1) := by decide +kernel
theorem dX8_listen_12 : decode cX8_listen 12 = .ok (.istore 4, 2) := by decide +kernel
theorem dX8_listen_14 : decode cX8_listen 14 = .ok (.iload 4, 2) := by decide +kernel
theorem dX8_listen_16 : decode cX8_listen 16 = .ok (.bipush 10, 2) := by decide +kernel
theorem dX8_listen_18 : decode cX8_listen 18 = .ok (.if_icmp .ge 133, 3) := by decide +kernel
theorem dX8_listen_21 : decode cX8_listen 21 = .ok (.iload_n 1, 1) := by decide +kernel
theorem dX8_listen_22 : decode cX8_listen 22 = .ok (.iload_n 1, 1) := by decide +kernel
theorem dX8_listen_23 : decode cX8_listen 23 = .ok (.iconst 1, 1) := by decide +kernel
theorem dX8_listen_24 : decode cX8_listen 24 = .ok (.isub, 1) := by decide +kernel
theorem dX8_listen_25 : decode cX8_listen 25 = .ok (.iand, 1) := by decide +kernel
theorem dX8_listen_26 : decode cX8_listen 26 = .ok (.ifCond .eq 125, 3) := by decide +kernel
theorem dX8_listen_29 : decode cX8_listen 29 = .ok (.iconst 0, 1) := by decide +kernel
theorem dX8_listen_30 : decode cX8_listen 30 = .ok (.istore 5, 2) := by decide +kernel
theorem dX8_listen_32 : decode cX8_listen 32 = .ok (.iconst 0, 1) := by decide +kernel
theorem dX8_listen_33 : decode cX8_listen 33 = .ok (.istore 6, 2) := by decide +kernel
theorem dX8_listen_35 : decode cX8_listen 35 = .ok (.iload 6, 2) := by decide +kernel
theorem dX8_listen_37 : decode cX8_listen 37 = .ok (.iconst 3, 1) := by decide +kernel
theorem dX8_listen_38 : decode cX8_listen 38 = .ok (.if_icmp .ge 81, 3) := by decide +kernel
theorem dX8_listen_41 : decode cX8_listen 41 = .ok (.iconst 0, 1) := by decide +kernel
theorem dX8_listen_42 : decode cX8_listen 42 = .ok (.istore 7, 2) := by decide +kernel
theorem dX8_listen_44 : decode cX8_listen 44 = .ok (.iconst 0, 1) := by decide +kernel
theorem dX8_listen_45 : decode cX8_listen 45 = .ok (.istore 8, 2) := by decide +kernel
theorem dX8_listen_47 : decode cX8_listen 47 = .ok (.iload 8, 2) := by decide +kernel
theorem dX8_listen_49 : decode cX8_listen 49 = .ok (.aload_n 0, 1) := by decide +kernel
theorem dX8_listen_50 : decode cX8_listen 50 = .ok (.getfield 13, 3) := by decide +kernel
theorem dX8_listen_53 : decode cX8_listen 53 = .ok (.iconst 0, 1) := by decide +kernel
theorem dX8_listen_54 : decode cX8_listen 54 = .ok (.iaload, 1) := by decide +kernel
theorem dX8_listen_55 : decode cX8_listen 55 = .ok (.if_icmp .ge 42, 3) := by decide +kernel
theorem dX8_listen_58 : decode cX8_listen 58 = .ok (.iload 7, 2) := by decide +kernel
theorem dX8_listen_60 : decode cX8_listen 60 = .ok (.iload_n 1, 1) := by decide +kernel
theorem dX8_listen_61 : decode cX8_listen 61 = .ok (.iload 8, 2) := by decide +kernel
theorem dX8_listen_63 : decode cX8_listen 63 = .ok (.ishr, 1) := by decide +kernel
theorem dX8_listen_64 : decode cX8_listen 64 = .ok (.iconst 1, 1) := by decide +kernel
theorem dX8_listen_65 : decode cX8_listen 65 = .ok (.iand, 1) := by decide +kernel
theorem dX8_listen_66 : decode cX8_listen 66 = .ok (.iconst 1, 1) := by decide +kernel
theorem dX8_listen_67 : decode cX8_listen 67 = .ok (.if_icmp .ne 20, 3) := by decide +kernel
theorem dX8_listen_70 : decode cX8_listen 70 = .ok (.aload_n 0, 1) := by decide +kernel
theorem dX8_listen_71 : decode cX8_listen 71 = .ok (.iload 8, 2) := by decide +kernel
theorem dX8_listen_73 : decode cX8_listen 73 = .ok (.iload 4, 2) := by decide +kernel
theorem dX8_listen_75 : decode cX8_listen 75 = .ok (.invokevirtual 145, 3) := by decide +kernel
theorem dX8_listen_78 : decode cX8_listen 78 = .ok (.iload 6, 2) := by decide +kernel
theorem dX8_listen_80 : decode cX8_listen 80 = .ok (.if_icmp .ne 7, 3) := by decide +kernel
theorem dX8_listen_83 : decode cX8_listen 83 = .ok (.iconst 1, 1) := by decide +kernel
theorem dX8_listen_84 : decode cX8_listen 84 = .ok (.goto 4, 3) := by decide +kernel
theorem dX8_listen_87 : decode cX8_listen 87 = .ok (.iconst 0, 1) := by decide +kernel
theorem dX8_listen_88 : decode cX8_listen 88 = .ok (.iadd, 1) := by decide +kernel
theorem dX8_listen_89 : decode cX8_listen 89 = .ok (.istore 7, 2) := by decide +kernel
theorem dX8_listen_91 : decode cX8_listen 91 = .ok (.iinc 8 1, 3) := by decide +kernel
theorem dX8_listen_94 : decode cX8_listen 94 = .ok (.goto (-47), 3) := by decide +kernel
theorem dX8_listen_97 : decode cX8_listen 97 = .ok (.iload 7, 2) := by decide +kernel
theorem dX8_listen_99 : decode cX8_listen 99 = .ok (.iload 5, 2) := by decide +kernel
theorem dX8_listen_101 : decode cX8_listen 101 = .ok (.if_icmp .le 8, 3) := by decide +kernel
theorem dX8_listen_104 : decode cX8_listen 104 = .ok (.iload 7, 2) := by decide +kernel
theorem dX8_listen_106 : decode cX8_listen 106 = .ok (.goto 5, 3) := by decide +kernel
theorem dX8_listen_109 : decode cX8_listen 109 = .ok (.iload 5, 2) := by decide +kernel
theorem dX8_listen_111 : decode cX8_listen 111 = .ok (.istore 5, 2) := by decide +kernel
theorem dX8_listen_113 : decode cX8_listen 113 = .ok (.iinc 6 1, 3) := by decide +kernel
theorem dX8_listen_116 : decode cX8_listen 116 = .ok (.goto (-81), 3) := by decide +kernel
theorem dX8_listen_119 : decode cX8_listen 119 = .ok (.iload 5, 2) := by decide +kernel
theorem dX8_listen_121 : decode cX8_listen 121 = .ok (.iload_n 3, 1) := by decide +kernel
theorem dX8_listen_122 : decode cX8_listen 122 = .ok (.if_icmp .ge 8, 3) := by decide +kernel
theorem dX8_listen_125 : decode cX8_listen 125 = .ok (.iload 4, 2) := by decide +kernel
theorem dX8_listen_127 : decode cX8_listen 127 = .ok (.goto 4, 3) := by decide +kernel
theorem dX8_listen_130 : decode cX8_listen 130 = .ok (.iload_n 2, 1) := by decide +kernel
theorem dX8_listen_131 : decode cX8_listen 131 = .ok (.istore_n 2, 1) := by decide +kernel
theorem dX8_listen_132 : decode cX8_listen 132 = .ok (.iload 5, 2) := by decide +kernel
theorem dX8_listen_134 : decode cX8_listen 134 = .ok (.iload_n 3, 1) := by decide +kernel
theorem dX8_listen_135 : decode cX8_listen 135 = .ok (.if_icmp .ge 8, 3) := by decide +kernel
theorem dX8_listen_138 : decode cX8_listen 138 = .ok (.iload 5, 2) := by decide +kernel
theorem dX8_listen_140 : decode cX8_listen 140 = .ok (.goto 4, 3) := by decide +kernel
theorem dX8_listen_143 : decode cX8_listen 143 = .ok (.iload_n 3, 1) := by decide +kernel
theorem dX8_listen_144 : decode cX8_listen 144 = .ok (.istore_n 3, 1) := by decide +kernel
theorem dX8_listen_145 : decode cX8_listen 145 = .ok (.iinc 4 1, 3) := by decide +kernel
theorem dX8_listen_148 : decode cX8_listen 148 = .ok (.goto (-134), 3) := by decide +kernel
theorem dX8_listen_151 : decode cX8_listen 151 = .ok (.iload_n 2, 1) := by decide +kernel
theorem dX8_listen_152 : decode cX8_listen 152 = .ok (.ireturn, 1) := by decide +kernel
set_option maxRecDepth 20000 in
theorem ggX8_rate_X8_in : GoodIn wsX8_rate wsX8_in := goodIn_r _ [13] (by decide +kernel) (by decide +kernel)
set_option maxRecDepth 20000 in
theorem gX8_rate_X8_in : GoodIn wsX8_rate (va_wsS RX8 51 yX8_in wsX8_in) := goodIn_app (goodIn_of _ (by decide +kernel)) ggX8_rate_X8_in
set_option maxRecDepth 20000 in
theorem ggX8_rate_X8_isBottle : GoodIn wsX8_rate wsX8_isBottle := goodIn_r _ [17, 9, 10, 11, 12, 13, 18, 19, 20, 21, 22, 23, 24, 25, 26, 27, 28, 29, 30, 31, 32, 33, 34, 35, 36] (by decide +kernel) (by decide +kernel)
set_option maxRecDepth 20000 in
theorem gX8_rate_X8_isBottle : GoodIn wsX8_rate (wsV RX8 105 RX8 yX8_isBottle wsX8_isBottle) := goodIn_app (goodIn_of _ (by decide +kernel)) ggX8_rate_X8_isBottle
theorem dX8_rate_0 : decode cX8_rate 0 = .ok (.iload_n 1, 1) := by decide +kernel
theorem dX8_rate_1 : decode cX8_rate 1 = .ok (.iconst 0, 1) := by decide +kernel
theorem dX8_rate_2 : decode cX8_rate 2 = .ok (.iconst 5, 1) := by decide +kernel
theorem dX8_rate_3 : decode cX8_rate 3 = .ok (.invokestatic 51, 3) := by decide +kernel
theorem dX8_rate_6 : decode cX8_rate 6 = .ok (.ifCond .eq 11, 3) := by decide +kernel
theorem dX8_rate_9 : decode cX8_rate 9 = .ok (.aload_n 0, 1) := by decide +kernel
theorem dX8_rate_10 : decode cX8_rate 10 = .ok (.iload_n 2, 1) := by decide +kernel
theorem dX8_rate_11 : decode cX8_rate 11 = .ok (.invokevirtual 105, 3) := by decide +kernel
theorem dX8_rate_14 : decode cX8_rate 14 = .ok (.ifCond .ne 6, 3) := by decide +kernel
theorem dX8_rate_17 : decode cX8_rate 17 = .ok (.ldc 151, 2) := by decide +kernel
theorem dX8_rate_19 : decode cX8_rate 19 = .ok (.ireturn, 1) := by decide +kernel
theorem dX8_rate_20 : decode cX8_rate 20 = .ok (.aload_n 0, 1) := by decide +kernel
theorem dX8_rate_21 : decode cX8_rate 21 = .ok (.dup, 1) := by decide +kernel
theorem dX8_rate_22 : decode cX8_rate 22 = .ok (.getfield 152, 3) := by decide +kernel
theorem dX8_rate_25 : decode cX8_rate 25 = .ok (.iload_n 1, 1) := by decide +kernel
theorem dX8_rate_26 : decode cX8_rate 26 = .ok (.ifCond .ne 7, 3) := by decide +kernel
theorem dX8_rate_29 : decode cX8_rate 29 = .ok (.lconst 1, 1) := by decide +kernel
theorem dX8_rate_30 : decode cX8_rate 30 = .ok (.goto 50, 3) := by decide +kernel
theorem dX8_rate_33 : decode cX8_rate 33 = .ok (.iload_n 1, 1) := by decide +kernel
theorem dX8_rate_34 : decode cX8_rate 34 = .ok (.iconst 1, 1) := by decide +kernel
theorem dX8_rate_35 : decode cX8_rate 35 = .ok (.if_icmp .ne 9, 3) := by decide +kernel
theorem dX8_rate_38 : decode cX8_rate 38 = .ok (.ldc2_w 156, 3) := by decide +kernel
theorem dX8_rate_41 : decode cX8_rate 41 = .ok (.goto 39, 3) := by decide +kernel
theorem dX8_rate_44 : decode cX8_rate 44 = .ok (.iload_n 1, 1) := by decide +kernel
theorem dX8_rate_45 : decode cX8_rate 45 = .ok (.iconst 2, 1) := by decide +kernel
theorem dX8_rate_46 : decode cX8_rate 46 = .ok (.if_icmp .ne 9, 3) := by decide +kernel
theorem dX8_rate_49 : decode cX8_rate 49 = .ok (.ldc2_w 158, 3) := by decide +kernel
theorem dX8_rate_52 : decode cX8_rate 52 = .ok (.goto 28, 3) := by decide +kernel
theorem dX8_rate_55 : decode cX8_rate 55 = .ok (.iload_n 1, 1) := by decide +kernel
theorem dX8_rate_56 : decode cX8_rate 56 = .ok (.iconst 3, 1) := by decide +kernel
theorem dX8_rate_57 : decode cX8_rate 57 = .ok (.if_icmp .ne 9, 3) := by decide +kernel
theorem dX8_rate_60 : decode cX8_rate 60 = .ok (.ldc2_w 160, 3) := by decide +kernel
theorem dX8_rate_63 : decode cX8_rate 63 = .ok (.goto 17, 3) := by decide +kernel
theorem dX8_rate_66 : decode cX8_rate 66 = .ok (.iload_n 1, 1) := by decide +kernel
theorem dX8_rate_67 : decode cX8_rate 67 = .ok (.iconst 4, 1) := by decide +kernel
theorem dX8_rate_68 : decode cX8_rate 68 = .ok (.if_icmp .ne 9, 3) := by decide +kernel
theorem dX8_rate_71 : decode cX8_rate 71 = .ok (.ldc2_w 162, 3) := by decide +kernel
theorem dX8_rate_74 : decode cX8_rate 74 = .ok (.goto 6, 3) := by decide +kernel
theorem dX8_rate_77 : decode cX8_rate 77 = .ok (.ldc2_w 164, 3) := by decide +kernel
theorem dX8_rate_80 : decode cX8_rate 80 = .ok (.ladd, 1) := by decide +kernel
theorem dX8_rate_81 : decode cX8_rate 81 = .ok (.putfield 152, 3) := by decide +kernel
theorem dX8_rate_84 : decode cX8_rate 84 = .ok (.aload_n 0, 1) := by decide +kernel
theorem dX8_rate_85 : decode cX8_rate 85 = .ok (.getfield 19, 3) := by decide +kernel
theorem dX8_rate_88 : decode cX8_rate 88 = .ok (.iconst 3, 1) := by decide +kernel
theorem dX8_rate_89 : decode cX8_rate 89 = .ok (.iload_n 2, 1) := by decide +kernel
theorem dX8_rate_90 : decode cX8_rate 90 = .ok (.iadd, 1) := by decide +kernel
theorem dX8_rate_91 : decode cX8_rate 91 = .ok (.iaload, 1) := by decide +kernel
theorem dX8_rate_92 : decode cX8_rate 92 = .ok (.istore_n 3, 1) := by decide +kernel
theorem dX8_rate_93 : decode cX8_rate 93 = .ok (.iload_n 3, 1) := by decide +kernel
theorem dX8_rate_94 : decode cX8_rate 94 = .ok (.aload_n 0, 1) := by decide +kernel
theorem dX8_rate_95 : decode cX8_rate 95 = .ok (.getfield 13, 3) := by decide +kernel
theorem dX8_rate_98 : decode cX8_rate 98 = .ok (.bipush 17, 2) := by decide +kernel
theorem dX8_rate_100 : decode cX8_rate 100 = .ok (.iload_n 2, 1) := by decide +kernel
theorem dX8_rate_101 : decode cX8_rate 101 = .ok (.iadd, 1) := by decide +kernel
theorem dX8_rate_102 : decode cX8_rate 102 = .ok (.iaload, 1) := by decide +kernel
theorem dX8_rate_103 : decode cX8_rate 103 = .ok (.iadd, 1) := by decide +kernel
theorem dX8_rate_104 : decode cX8_rate 104 = .ok (.istore 4, 2) := by decide +kernel
theorem dX8_rate_106 : decode cX8_rate 106 = .ok (.iload_n 3, 1) := by decide +kernel
theorem dX8_rate_107 : decode cX8_rate 107 = .ok (.aload_n 0, 1) := by decide +kernel
theorem dX8_rate_108 : decode cX8_rate 108 = .ok (.getfield 13, 3) := by decide +kernel
theorem dX8_rate_111 : decode cX8_rate 111 = .ok (.bipush 11, 2) := by decide +kernel
theorem dX8_rate_113 : decode cX8_rate 113 = .ok (.iload_n 2, 1) := by decide +kernel
theorem dX8_rate_114 : decode cX8_rate 114 = .ok (.iadd, 1) := by decide +kernel
theorem dX8_rate_115 : decode cX8_rate 115 = .ok (.iaload, 1) := by decide +kernel
theorem dX8_rate_116 : decode cX8_rate 116 = .ok (.isub, 1) := by decide +kernel
theorem dX8_rate_117 : decode cX8_rate 117 = .ok (.istore 5, 2) := by decide +kernel
theorem dX8_rate_119 : decode cX8_rate 119 = .ok (.iload_n 1, 1) := by decide +kernel
theorem dX8_rate_120 : decode cX8_rate 120 = .ok (.ifCond .ne 7, 3) := by decide +kernel
theorem dX8_rate_123 : decode cX8_rate 123 = .ok (.iload_n 3, 1) := by decide +kernel
theorem dX8_rate_124 : decode cX8_rate 124 = .ok (.goto 55, 3) := by decide +kernel
theorem dX8_rate_127 : decode cX8_rate 127 = .ok (.iload_n 1, 1) := by decide +kernel
theorem dX8_rate_128 : decode cX8_rate 128 = .ok (.iconst 1, 1) := by decide +kernel
theorem dX8_rate_129 : decode cX8_rate 129 = .ok (.if_icmp .ne 8, 3) := by decide +kernel
theorem dX8_rate_132 : decode cX8_rate 132 = .ok (.iload 4, 2) := by decide +kernel
theorem dX8_rate_134 : decode cX8_rate 134 = .ok (.goto 45, 3) := by decide +kernel
theorem dX8_rate_137 : decode cX8_rate 137 = .ok (.iload_n 1, 1) := by decide +kernel
theorem dX8_rate_138 : decode cX8_rate 138 = .ok (.iconst 2, 1) := by decide +kernel
theorem dX8_rate_139 : decode cX8_rate 139 = .ok (.if_icmp .ne 8, 3) := by decide +kernel
theorem dX8_rate_142 : decode cX8_rate 142 = .ok (.iload 5, 2) := by decide +kernel
theorem dX8_rate_144 : decode cX8_rate 144 = .ok (.goto 35, 3) := by decide +kernel
theorem dX8_rate_147 : decode cX8_rate 147 = .ok (.iload_n 1, 1) := by decide +kernel
theorem dX8_rate_148 : decode cX8_rate 148 = .ok (.iconst 3, 1) := by decide +kernel
theorem dX8_rate_149 : decode cX8_rate 149 = .ok (.if_icmp .ne 10, 3) := by decide +kernel
theorem dX8_rate_152 : decode cX8_rate 152 = .ok (.iconst 2, 1) := by decide +kernel
theorem dX8_rate_153 : decode cX8_rate 153 = .ok (.iload 4, 2) := by decide +kernel
theorem dX8_rate_155 : decode cX8_rate 155 = .ok (.imul, 1) := by decide +kernel
theorem dX8_rate_156 : decode cX8_rate 156 = .ok (.goto 23, 3) := by decide +kernel
theorem dX8_rate_159 : decode cX8_rate 159 = .ok (.iload_n 1, 1) := by decide +kernel
theorem dX8_rate_160 : decode cX8_rate 160 = .ok (.iconst 4, 1) := by decide +kernel
theorem dX8_rate_161 : decode cX8_rate 161 = .ok (.if_icmp .ne 10, 3) := by decide +kernel
theorem dX8_rate_164 : decode cX8_rate 164 = .ok (.iload 5, 2) := by decide +kernel
theorem dX8_rate_166 : decode cX8_rate 166 = .ok (.iload_n 2, 1) := by decide +kernel
theorem dX8_rate_167 : decode cX8_rate 167 = .ok (.iadd, 1) := by decide +kernel
theorem dX8_rate_168 : decode cX8_rate 168 = .ok (.goto 11, 3) := by decide +kernel
theorem dX8_rate_171 : decode cX8_rate 171 = .ok (.iload_n 3, 1) := by decide +kernel
theorem dX8_rate_172 : decode cX8_rate 172 = .ok (.aload_n 0, 1) := by decide +kernel
theorem dX8_rate_173 : decode cX8_rate 173 = .ok (.getfield 19, 3) := by decide +kernel
theorem dX8_rate_176 : decode cX8_rate 176 = .ok (.iconst 2, 1) := by decide +kernel
theorem dX8_rate_177 : decode cX8_rate 177 = .ok (.iaload, 1) := by decide +kernel
theorem dX8_rate_178 : decode cX8_rate 178 = .ok (.iadd, 1) := by decide +kernel
theorem dX8_rate_179 : decode cX8_rate 179 = .ok (.ireturn, 1) := by decide +kernel
set_option maxRecDepth 20000 in
theorem ggX8_keep_X8_in : GoodIn wsX8_keep wsX8_in := goodIn_r _ [7] (by decide +kernel) (by decide +kernel)
set_option maxRecDepth 20000 in
theorem gX8_keep_X8_in : GoodIn wsX8_keep (va_wsS RX8 51 yX8_in wsX8_in) := goodIn_app (goodIn_of _ (by decide +kernel)) ggX8_keep_X8_in
theorem dX8_keep_0 : decode cX8_keep 0 = .ok (.iload_n 1, 1) := by decide +kernel
theorem dX8_keep_1 : decode cX8_keep 1 = .ok (.iconst 0, 1) := by decide +kernel
theorem dX8_keep_2 : decode cX8_keep 2 = .ok (.iconst 1, 1) := by decide +kernel
theorem dX8_keep_3 : decode cX8_keep 3 = .ok (.invokestatic 51, 3) := by decide +kernel
theorem dX8_keep_6 : decode cX8_keep 6 = .ok (.ifCond .ne 5, 3) := by decide +kernel
theorem dX8_keep_9 : decode cX8_keep 9 = .ok (.iconst (-1), 1) := by decide +kernel
theorem dX8_keep_10 : decode cX8_keep 10 = .ok (.ireturn, 1) := by decide +kernel
theorem dX8_keep_11 : decode cX8_keep 11 = .ok (.iconst 0, 1) := by decide +kernel
theorem dX8_keep_12 : decode cX8_keep 12 = .ok (.istore_n 2, 1) := by decide +kernel
theorem dX8_keep_13 : decode cX8_keep 13 = .ok (.iload_n 2, 1) := by decide +kernel
theorem dX8_keep_14 : decode cX8_keep 14 = .ok (.bipush 15, 2) := by decide +kernel
theorem dX8_keep_16 : decode cX8_keep 16 = .ok (.if_icmp .ge 26, 3) := by decide +kernel
theorem dX8_keep_19 : decode cX8_keep 19 = .ok (.aload_n 0, 1) := by decide +kernel
theorem dX8_keep_20 : decode cX8_keep 20 = .ok (.getfield 25, 3) := by decide +kernel
theorem dX8_keep_23 : decode cX8_keep 23 = .ok (.bipush 15, 2) := by decide +kernel
theorem dX8_keep_25 : decode cX8_keep 25 = .ok (.iload_n 1, 1) := by decide +kernel
theorem dX8_keep_26 : decode cX8_keep 26 = .ok (.imul, 1) := by decide +kernel
theorem dX8_keep_27 : decode cX8_keep 27 = .ok (.iload_n 2, 1) := by decide +kernel
theorem dX8_keep_28 : decode cX8_keep 28 = .ok (.iadd, 1) := by decide +kernel
theorem dX8_keep_29 : decode cX8_keep 29 = .ok (.aload_n 0, 1) := by decide +kernel
theorem dX8_keep_30 : decode cX8_keep 30 = .ok (.getfield 19, 3) := by decide +kernel
theorem dX8_keep_33 : decode cX8_keep 33 = .ok (.iload_n 2, 1) := by decide +kernel
theorem dX8_keep_34 : decode cX8_keep 34 = .ok (.iaload, 1) := by decide +kernel
theorem dX8_keep_35 : decode cX8_keep 35 = .ok (.iastore, 1) := by decide +kernel
theorem dX8_keep_36 : decode cX8_keep 36 = .ok (.iinc 2 1, 3) := by decide +kernel
theorem dX8_keep_39 : decode cX8_keep 39 = .ok (.goto (-26), 3) := by decide +kernel
theorem dX8_keep_42 : decode cX8_keep 42 = .ok (.aload_n 0, 1) := by decide +kernel
theorem dX8_keep_43 : decode cX8_keep 43 = .ok (.getfield 28, 3) := by decide +kernel
theorem dX8_keep_46 : decode cX8_keep 46 = .ok (.iload_n 1, 1) := by decide +kernel
theorem dX8_keep_47 : decode cX8_keep 47 = .ok (.iconst 1, 1) := by decide +kernel
theorem dX8_keep_48 : decode cX8_keep 48 = .ok (.bastore, 1) := by decide +kernel
theorem dX8_keep_49 : decode cX8_keep 49 = .ok (.aload_n 0, 1) := by decide +kernel
theorem dX8_keep_50 : decode cX8_keep 50 = .ok (.getfield 19, 3) := by decide +kernel
theorem dX8_keep_53 : decode cX8_keep 53 = .ok (.iconst 0, 1) := by decide +kernel
theorem dX8_keep_54 : decode cX8_keep 54 = .ok (.iaload, 1) := by decide +kernel
theorem dX8_keep_55 : decode cX8_keep 55 = .ok (.ireturn, 1) := by decide +kernel
set_option maxRecDepth 20000 in
theorem ggX8_back_X8_in : GoodIn wsX8_back wsX8_in := goodIn_r _ [8] (by decide +kernel) (by decide +kernel)
set_option maxRecDepth 20000 in
theorem gX8_back_X8_in : GoodIn wsX8_back (va_wsS RX8 51 yX8_in wsX8_in) := goodIn_app (goodIn_of _ (by decide +kernel)) ggX8_back_X8_in
theorem dX8_back_0 : decode cX8_back 0 = .ok (.iload_n 1, 1) := by decide +kernel
theorem dX8_back_1 : decode cX8_back 1 = .ok (.iconst 0, 1) := by decide +kernel
theorem dX8_back_2 : decode cX8_back 2 = .ok (.iconst 1, 1) := by decide +kernel
theorem dX8_back_3 : decode cX8_back 3 = .ok (.invokestatic 51, 3) := by decide +kernel
theorem dX8_back_6 : decode cX8_back 6 = .ok (.ifCond .ne 5, 3) := by decide +kernel
theorem dX8_back_9 : decode cX8_back 9 = .ok (.iconst (-1), 1) := by decide +kernel
theorem dX8_back_10 : decode cX8_back 10 = .ok (.ireturn, 1) := by decide +kernel
theorem dX8_back_11 : decode cX8_back 11 = .ok (.aload_n 0, 1) := by decide +kernel
theorem dX8_back_12 : decode cX8_back 12 = .ok (.getfield 28, 3) := by decide +kernel
theorem dX8_back_15 : decode cX8_back 15 = .ok (.iload_n 1, 1) := by decide +kernel
theorem dX8_back_16 : decode cX8_back 16 = .ok (.baload, 1) := by decide +kernel
theorem dX8_back_17 : decode cX8_back 17 = .ok (.ifCond .ne 6, 3) := by decide +kernel
theorem dX8_back_20 : decode cX8_back 20 = .ok (.bipush (-2), 2) := by decide +kernel
theorem dX8_back_22 : decode cX8_back 22 = .ok (.ireturn, 1) := by decide +kernel
theorem dX8_back_23 : decode cX8_back 23 = .ok (.iconst 0, 1) := by decide +kernel
theorem dX8_back_24 : decode cX8_back 24 = .ok (.istore_n 2, 1) := by decide +kernel
theorem dX8_back_25 : decode cX8_back 25 = .ok (.iload_n 2, 1) := by decide +kernel
theorem dX8_back_26 : decode cX8_back 26 = .ok (.bipush 15, 2) := by decide +kernel
theorem dX8_back_28 : decode cX8_back 28 = .ok (.if_icmp .ge 26, 3) := by decide +kernel
theorem dX8_back_31 : decode cX8_back 31 = .ok (.aload_n 0, 1) := by decide +kernel
theorem dX8_back_32 : decode cX8_back 32 = .ok (.getfield 19, 3) := by decide +kernel
theorem dX8_back_35 : decode cX8_back 35 = .ok (.iload_n 2, 1) := by decide +kernel
theorem dX8_back_36 : decode cX8_back 36 = .ok (.aload_n 0, 1) := by decide +kernel
theorem dX8_back_37 : decode cX8_back 37 = .ok (.getfield 25, 3) := by decide +kernel
theorem dX8_back_40 : decode cX8_back 40 = .ok (.bipush 15, 2) := by decide +kernel
theorem dX8_back_42 : decode cX8_back 42 = .ok (.iload_n 1, 1) := by decide +kernel
theorem dX8_back_43 : decode cX8_back 43 = .ok (.imul, 1) := by decide +kernel
theorem dX8_back_44 : decode cX8_back 44 = .ok (.iload_n 2, 1) := by decide +kernel
theorem dX8_back_45 : decode cX8_back 45 = .ok (.iadd, 1) := by decide +kernel
theorem dX8_back_46 : decode cX8_back 46 = .ok (.iaload, 1) := by decide +kernel
theorem dX8_back_47 : decode cX8_back 47 = .ok (.iastore, 1) := by decide +kernel
theorem dX8_back_48 : decode cX8_back 48 = .ok (.iinc 2 1, 3) := by decide +kernel
theorem dX8_back_51 : decode cX8_back 51 = .ok (.goto (-26), 3) := by decide +kernel
theorem dX8_back_54 : decode cX8_back 54 = .ok (.aload_n 0, 1) := by decide +kernel
theorem dX8_back_55 : decode cX8_back 55 = .ok (.iconst 0, 1) := by decide +kernel
theorem dX8_back_56 : decode cX8_back 56 = .ok (.putfield 92, 3) := by decide +kernel
theorem dX8_back_59 : decode cX8_back 59 = .ok (.aload_n 0, 1) := by decide +kernel
theorem dX8_back_60 : decode cX8_back 60 = .ok (.getfield 19, 3) := by decide +kernel
theorem dX8_back_63 : decode cX8_back 63 = .ok (.iconst 0, 1) := by decide +kernel
theorem dX8_back_64 : decode cX8_back 64 = .ok (.iaload, 1) := by decide +kernel
theorem dX8_back_65 : decode cX8_back 65 = .ok (.ireturn, 1) := by decide +kernel
theorem dX8_count_0 : decode cX8_count 0 = .ok (.iload_n 1, 1) := by decide +kernel
theorem dX8_count_1 : decode cX8_count 1 = .ok (.tableswitch 66 0 4 #[35, 42, 49, 56, 61], 35) := by decide +kernel
theorem dX8_count_36 : decode cX8_count 36 = .ok (.aload_n 0, 1) := by decide +kernel
theorem dX8_count_37 : decode cX8_count 37 = .ok (.getfield 13, 3) := by decide +kernel
theorem dX8_count_40 : decode cX8_count 40 = .ok (.iconst 0, 1) := by decide +kernel
theorem dX8_count_41 : decode cX8_count 41 = .ok (.iaload, 1) := by decide +kernel
theorem dX8_count_42 : decode cX8_count 42 = .ok (.ireturn, 1) := by decide +kernel
theorem dX8_count_43 : decode cX8_count 43 = .ok (.aload_n 0, 1) := by decide +kernel
theorem dX8_count_44 : decode cX8_count 44 = .ok (.getfield 13, 3) := by decide +kernel
theorem dX8_count_47 : decode cX8_count 47 = .ok (.iconst 1, 1) := by decide +kernel
theorem dX8_count_48 : decode cX8_count 48 = .ok (.iaload, 1) := by decide +kernel
theorem dX8_count_49 : decode cX8_count 49 = .ok (.ireturn, 1) := by decide +kernel
theorem dX8_count_50 : decode cX8_count 50 = .ok (.aload_n 0, 1) := by decide +kernel
theorem dX8_count_51 : decode cX8_count 51 = .ok (.getfield 13, 3) := by decide +kernel
theorem dX8_count_54 : decode cX8_count 54 = .ok (.iconst 2, 1) := by decide +kernel
theorem dX8_count_55 : decode cX8_count 55 = .ok (.iaload, 1) := by decide +kernel
theorem dX8_count_56 : decode cX8_count 56 = .ok (.ireturn, 1) := by decide +kernel
theorem dX8_count_57 : decode cX8_count 57 = .ok (.aload_n 0, 1) := by decide +kernel
theorem dX8_count_58 : decode cX8_count 58 = .ok (.getfield 95, 3) := by decide +kernel
theorem dX8_count_61 : decode cX8_count 61 = .ok (.ireturn, 1) := by decide +kernel
theorem dX8_count_62 : decode cX8_count 62 = .ok (.aload_n 0, 1) := by decide +kernel
theorem dX8_count_63 : decode cX8_count 63 = .ok (.getfield 55, 3) := by decide +kernel
theorem dX8_count_66 : decode cX8_count 66 = .ok (.ireturn, 1) := by decide +kernel
theorem dX8_count_67 : decode cX8_count 67 = .ok (.iconst (-1), 1) := by decide +kernel
theorem dX8_count_68 : decode cX8_count 68 = .ok (.ireturn, 1) := by decide +kernel
theorem dX8_trace_0 : decode cX8_trace 0 = .ok (.aload_n 0, 1) := by decide +kernel
theorem dX8_trace_1 : decode cX8_trace 1 = .ok (.getfield 152, 3) := by decide +kernel
theorem dX8_trace_4 : decode cX8_trace 4 = .ok (.lreturn, 1) := by decide +kernel
theorem dJ6_bitCount_0f7a4_0 : decode cJ6_bitCount_0f7a4 0 = .ok (.iload_n 0, 1) := by decide +kernel
theorem dJ6_bitCount_0f7a4_1 : decode cJ6_bitCount_0f7a4 1 = .ok (.iload_n 0, 1) := by decide +kernel
theorem dJ6_bitCount_0f7a4_2 : decode cJ6_bitCount_0f7a4 2 = .ok (.iconst 1, 1) := by decide +kernel
theorem dJ6_bitCount_0f7a4_3 : decode cJ6_bitCount_0f7a4 3 = .ok (.iushr, 1) := by decide +kernel
theorem dJ6_bitCount_0f7a4_4 : decode cJ6_bitCount_0f7a4 4 = .ok (.ldc_w 265, 3) := by decide +kernel
theorem dJ6_bitCount_0f7a4_7 : decode cJ6_bitCount_0f7a4 7 = .ok (.iand, 1) := by decide +kernel
theorem dJ6_bitCount_0f7a4_8 : decode cJ6_bitCount_0f7a4 8 = .ok (.isub, 1) := by decide +kernel
theorem dJ6_bitCount_0f7a4_9 : decode cJ6_bitCount_0f7a4 9 = .ok (.istore_n 0, 1) := by decide +kernel
theorem dJ6_bitCount_0f7a4_10 : decode cJ6_bitCount_0f7a4 10 = .ok (.iload_n 0, 1) := by decide +kernel
theorem dJ6_bitCount_0f7a4_11 : decode cJ6_bitCount_0f7a4 11 = .ok (.ldc_w 266, 3) := by decide +kernel
theorem dJ6_bitCount_0f7a4_14 : decode cJ6_bitCount_0f7a4 14 = .ok (.iand, 1) := by decide +kernel
theorem dJ6_bitCount_0f7a4_15 : decode cJ6_bitCount_0f7a4 15 = .ok (.iload_n 0, 1) := by decide +kernel
theorem dJ6_bitCount_0f7a4_16 : decode cJ6_bitCount_0f7a4 16 = .ok (.iconst 2, 1) := by decide +kernel
theorem dJ6_bitCount_0f7a4_17 : decode cJ6_bitCount_0f7a4 17 = .ok (.iushr, 1) := by decide +kernel
theorem dJ6_bitCount_0f7a4_18 : decode cJ6_bitCount_0f7a4 18 = .ok (.ldc_w 266, 3) := by decide +kernel
theorem dJ6_bitCount_0f7a4_21 : decode cJ6_bitCount_0f7a4 21 = .ok (.iand, 1) := by decide +kernel
theorem dJ6_bitCount_0f7a4_22 : decode cJ6_bitCount_0f7a4 22 = .ok (.iadd, 1) := by decide +kernel
theorem dJ6_bitCount_0f7a4_23 : decode cJ6_bitCount_0f7a4 23 = .ok (.istore_n 0, 1) := by decide +kernel
theorem dJ6_bitCount_0f7a4_24 : decode cJ6_bitCount_0f7a4 24 = .ok (.iload_n 0, 1) := by decide +kernel
theorem dJ6_bitCount_0f7a4_25 : decode cJ6_bitCount_0f7a4 25 = .ok (.iload_n 0, 1) := by decide +kernel
theorem dJ6_bitCount_0f7a4_26 : decode cJ6_bitCount_0f7a4 26 = .ok (.iconst 4, 1) := by decide +kernel
theorem dJ6_bitCount_0f7a4_27 : decode cJ6_bitCount_0f7a4 27 = .ok (.iushr, 1) := by decide +kernel
theorem dJ6_bitCount_0f7a4_28 : decode cJ6_bitCount_0f7a4 28 = .ok (.iadd, 1) := by decide +kernel
theorem dJ6_bitCount_0f7a4_29 : decode cJ6_bitCount_0f7a4 29 = .ok (.ldc_w 267, 3) := by decide +kernel
theorem dJ6_bitCount_0f7a4_32 : decode cJ6_bitCount_0f7a4 32 = .ok (.iand, 1) := by decide +kernel
theorem dJ6_bitCount_0f7a4_33 : decode cJ6_bitCount_0f7a4 33 = .ok (.istore_n 0, 1) := by decide +kernel
theorem dJ6_bitCount_0f7a4_34 : decode cJ6_bitCount_0f7a4 34 = .ok (.iload_n 0, 1) := by decide +kernel
theorem dJ6_bitCount_0f7a4_35 : decode cJ6_bitCount_0f7a4 35 = .ok (.iload_n 0, 1) := by decide +kernel
theorem dJ6_bitCount_0f7a4_36 : decode cJ6_bitCount_0f7a4 36 = .ok (.bipush 8, 2) := by decide +kernel
theorem dJ6_bitCount_0f7a4_38 : decode cJ6_bitCount_0f7a4 38 = .ok (.iushr, 1) := by decide +kernel
theorem dJ6_bitCount_0f7a4_39 : decode cJ6_bitCount_0f7a4 39 = .ok (.iadd, 1) := by decide +kernel
theorem dJ6_bitCount_0f7a4_40 : decode cJ6_bitCount_0f7a4 40 = .ok (.istore_n 0, 1) := by decide +kernel
theorem dJ6_bitCount_0f7a4_41 : decode cJ6_bitCount_0f7a4 41 = .ok (.iload_n 0, 1) := by decide +kernel
theorem dJ6_bitCount_0f7a4_42 : decode cJ6_bitCount_0f7a4 42 = .ok (.iload_n 0, 1) := by decide +kernel
theorem dJ6_bitCount_0f7a4_43 : decode cJ6_bitCount_0f7a4 43 = .ok (.bipush 16, 2) := by decide +kernel
theorem dJ6_bitCount_0f7a4_45 : decode cJ6_bitCount_0f7a4 45 = .ok (.iushr, 1) := by decide +kernel
theorem dJ6_bitCount_0f7a4_46 : decode cJ6_bitCount_0f7a4 46 = .ok (.iadd, 1) := by decide +kernel
theorem dJ6_bitCount_0f7a4_47 : decode cJ6_bitCount_0f7a4 47 = .ok (.istore_n 0, 1) := by decide +kernel
theorem dJ6_bitCount_0f7a4_48 : decode cJ6_bitCount_0f7a4 48 = .ok (.iload_n 0, 1) := by decide +kernel
theorem dJ6_bitCount_0f7a4_49 : decode cJ6_bitCount_0f7a4 49 = .ok (.bipush 63, 2) := by decide +kernel
theorem dJ6_bitCount_0f7a4_51 : decode cJ6_bitCount_0f7a4 51 = .ok (.iand, 1) := by decide +kernel
theorem dJ6_bitCount_0f7a4_52 : decode cJ6_bitCount_0f7a4 52 = .ok (.ireturn, 1) := by decide +kernel
theorem dJ9_max_7cf53_0 : decode cJ9_max_7cf53 0 = .ok (.iload_n 0, 1) := by decide +kernel
theorem dJ9_max_7cf53_1 : decode cJ9_max_7cf53 1 = .ok (.iload_n 1, 1) := by decide +kernel
theorem dJ9_max_7cf53_2 : decode cJ9_max_7cf53 2 = .ok (.if_icmp .lt 7, 3) := by decide +kernel
theorem dJ9_max_7cf53_5 : decode cJ9_max_7cf53 5 = .ok (.iload_n 0, 1) := by decide +kernel
theorem dJ9_max_7cf53_6 : decode cJ9_max_7cf53 6 = .ok (.goto 4, 3) := by decide +kernel
theorem dJ9_max_7cf53_9 : decode cJ9_max_7cf53 9 = .ok (.iload_n 1, 1) := by decide +kernel
theorem dJ9_max_7cf53_10 : decode cJ9_max_7cf53 10 = .ok (.ireturn, 1) := by decide +kernel
theorem dJ9_min_7cf53_0 : decode cJ9_min_7cf53 0 = .ok (.iload_n 0, 1) := by decide +kernel
theorem dJ9_min_7cf53_1 : decode cJ9_min_7cf53 1 = .ok (.iload_n 1, 1) := by decide +kernel
theorem dJ9_min_7cf53_2 : decode cJ9_min_7cf53 2 = .ok (.if_icmp .gt 7, 3) := by decide +kernel
theorem dJ9_min_7cf53_5 : decode cJ9_min_7cf53 5 = .ok (.iload_n 0, 1) := by decide +kernel
theorem dJ9_min_7cf53_6 : decode cJ9_min_7cf53 6 = .ok (.goto 4, 3) := by decide +kernel
theorem dJ9_min_7cf53_9 : decode cJ9_min_7cf53 9 = .ok (.iload_n 1, 1) := by decide +kernel
theorem dJ9_min_7cf53_10 : decode cJ9_min_7cf53 10 = .ok (.ireturn, 1) := by decide +kernel
