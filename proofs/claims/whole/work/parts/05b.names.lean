theorem dX3_mostOfOneSound_51 : decode cX3_mostOfOneSound 51 = .ok (.iinc 5 1, 3) := by decide +kernel
theorem dX3_mostOfOneSound_54 : decode cX3_mostOfOneSound 54 = .ok (.iinc 6 1, 3) := by decide +kernel
theorem dX3_mostOfOneSound_57 : decode cX3_mostOfOneSound 57 = .ok (.goto (-40), 3) := by decide +kernel
theorem dX3_mostOfOneSound_60 : decode cX3_mostOfOneSound 60 = .ok (.iload_n 3, 1) := by decide +kernel
theorem dX3_mostOfOneSound_61 : decode cX3_mostOfOneSound 61 = .ok (.iload 5, 2) := by decide +kernel
theorem dX3_mostOfOneSound_63 : decode cX3_mostOfOneSound 63 = .ok (.invokestatic 47, 3) := by decide +kernel
theorem dX3_mostOfOneSound_66 : decode cX3_mostOfOneSound 66 = .ok (.istore_n 3, 1) := by decide +kernel
theorem dX3_mostOfOneSound_67 : decode cX3_mostOfOneSound 67 = .ok (.iinc 4 1, 3) := by decide +kernel
theorem dX3_mostOfOneSound_70 : decode cX3_mostOfOneSound 70 = .ok (.goto (-65), 3) := by decide +kernel
theorem dX3_mostOfOneSound_73 : decode cX3_mostOfOneSound 73 = .ok (.iload_n 3, 1) := by decide +kernel
theorem dX3_mostOfOneSound_74 : decode cX3_mostOfOneSound 74 = .ok (.ireturn, 1) := by decide +kernel
set_option maxRecDepth 20000 in
theorem ggX3_pintsOf_X3_loss : GoodIn wsX3_pintsOf wsX3_loss := goodIn_r _ [8, 9, 10, 11, 12, 13, 14, 15, 24, 25, 26, 27, 28, 29, 30, 31, 32, 33, 34, 35] (by decide +kernel) (by decide +kernel)
set_option maxRecDepth 20000 in
theorem gX3_pintsOf_X3_loss : GoodIn wsX3_pintsOf (wsV RX3 43 RX3 yX3_loss wsX3_loss) := goodIn_app (goodIn_of _ (by decide +kernel)) ggX3_pintsOf_X3_loss
set_option maxRecDepth 20000 in
theorem ggX3_pintsOf_X3_warmBy : GoodIn wsX3_pintsOf wsX3_warmBy := goodIn_r _ [19, 9, 20, 21, 22, 14, 23, 24, 25, 26, 27, 28, 29, 30, 31, 32, 33, 34, 35] (by decide +kernel) (by decide +kernel)
set_option maxRecDepth 20000 in
theorem gX3_pintsOf_X3_warmBy : GoodIn wsX3_pintsOf (wsV RX3 72 RX3 yX3_warmBy wsX3_warmBy) := goodIn_app (goodIn_of _ (by decide +kernel)) ggX3_pintsOf_X3_warmBy
theorem dX3_pintsOf_0 : decode cX3_pintsOf 0 = .ok (.iload_n 2, 1) := by decide +kernel
theorem dX3_pintsOf_1 : decode cX3_pintsOf 1 = .ok (.aload_n 0, 1) := by decide +kernel
theorem dX3_pintsOf_2 : decode cX3_pintsOf 2 = .ok (.iload_n 1, 1) := by decide +kernel
theorem dX3_pintsOf_3 : decode cX3_pintsOf 3 = .ok (.aload_n 0, 1) := by decide +kernel
theorem dX3_pintsOf_4 : decode cX3_pintsOf 4 = .ok (.getfield 22, 3) := by decide +kernel
theorem dX3_pintsOf_7 : decode cX3_pintsOf 7 = .ok (.aload_n 0, 1) := by decide +kernel
theorem dX3_pintsOf_8 : decode cX3_pintsOf 8 = .ok (.getfield 32, 3) := by decide +kernel
theorem dX3_pintsOf_11 : decode cX3_pintsOf 11 = .ok (.invokevirtual 43, 3) := by decide +kernel
theorem dX3_pintsOf_14 : decode cX3_pintsOf 14 = .ok (.imul, 1) := by decide +kernel
theorem dX3_pintsOf_15 : decode cX3_pintsOf 15 = .ok (.istore_n 3, 1) := by decide +kernel
theorem dX3_pintsOf_16 : decode cX3_pintsOf 16 = .ok (.iconst 0, 1) := by decide +kernel
theorem dX3_pintsOf_17 : decode cX3_pintsOf 17 = .ok (.istore 4, 2) := by decide +kernel
theorem dX3_pintsOf_19 : decode cX3_pintsOf 19 = .ok (.iload 4, 2) := by decide +kernel
theorem dX3_pintsOf_21 : decode cX3_pintsOf 21 = .ok (.bipush 9, 2) := by decide +kernel
theorem dX3_pintsOf_23 : decode cX3_pintsOf 23 = .ok (.if_icmp .gt 28, 3) := by decide +kernel
theorem dX3_pintsOf_26 : decode cX3_pintsOf 26 = .ok (.aload_n 0, 1) := by decide +kernel
theorem dX3_pintsOf_27 : decode cX3_pintsOf 27 = .ok (.aload_n 0, 1) := by decide +kernel
theorem dX3_pintsOf_28 : decode cX3_pintsOf 28 = .ok (.getfield 18, 3) := by decide +kernel
theorem dX3_pintsOf_31 : decode cX3_pintsOf 31 = .ok (.iload_n 1, 1) := by decide +kernel
theorem dX3_pintsOf_32 : decode cX3_pintsOf 32 = .ok (.iaload, 1) := by decide +kernel
theorem dX3_pintsOf_33 : decode cX3_pintsOf 33 = .ok (.iload 4, 2) := by decide +kernel
theorem dX3_pintsOf_35 : decode cX3_pintsOf 35 = .ok (.invokevirtual 72, 3) := by decide +kernel
theorem dX3_pintsOf_38 : decode cX3_pintsOf 38 = .ok (.iload_n 3, 1) := by decide +kernel
theorem dX3_pintsOf_39 : decode cX3_pintsOf 39 = .ok (.if_icmp .le 6, 3) := by decide +kernel
theorem dX3_pintsOf_42 : decode cX3_pintsOf 42 = .ok (.iload 4, 2) := by decide +kernel
theorem dX3_pintsOf_44 : decode cX3_pintsOf 44 = .ok (.ireturn, 1) := by decide +kernel
theorem dX3_pintsOf_45 : decode cX3_pintsOf 45 = .ok (.iinc 4 1, 3) := by decide +kernel
theorem dX3_pintsOf_48 : decode cX3_pintsOf 48 = .ok (.goto (-29), 3) := by decide +kernel
theorem dX3_pintsOf_51 : decode cX3_pintsOf 51 = .ok (.bipush (-9), 2) := by decide +kernel
theorem dX3_pintsOf_53 : decode cX3_pintsOf 53 = .ok (.ireturn, 1) := by decide +kernel
set_option maxRecDepth 20000 in
theorem ggX3_pintsOfAll_X3_pintsOf : GoodIn wsX3_pintsOfAll wsX3_pintsOf := goodIn_r _ [7, 8, 9, 10, 11, 12, 13, 6, 14, 1, 15, 2, 16, 17, 18, 19, 20, 21, 22, 23, 24, 25, 26, 27, 28, 29, 30, 31, 32, 33, 34, 35, 36, 37, 38, 39] (by decide +kernel) (by decide +kernel)
set_option maxRecDepth 20000 in
theorem gX3_pintsOfAll_X3_pintsOf : GoodIn wsX3_pintsOfAll (wsV RX3 75 RX3 yX3_pintsOf wsX3_pintsOf) := goodIn_app (goodIn_of _ (by decide +kernel)) ggX3_pintsOfAll_X3_pintsOf
theorem dX3_pintsOfAll_0 : decode cX3_pintsOfAll 0 = .ok (.iconst 0, 1) := by decide +kernel
theorem dX3_pintsOfAll_1 : decode cX3_pintsOfAll 1 = .ok (.istore_n 2, 1) := by decide +kernel
theorem dX3_pintsOfAll_2 : decode cX3_pintsOfAll 2 = .ok (.iconst 0, 1) := by decide +kernel
theorem dX3_pintsOfAll_3 : decode cX3_pintsOfAll 3 = .ok (.istore_n 3, 1) := by decide +kernel
theorem dX3_pintsOfAll_4 : decode cX3_pintsOfAll 4 = .ok (.iload_n 3, 1) := by decide +kernel
theorem dX3_pintsOfAll_5 : decode cX3_pintsOfAll 5 = .ok (.aload_n 0, 1) := by decide +kernel
theorem dX3_pintsOfAll_6 : decode cX3_pintsOfAll 6 = .ok (.getfield 12, 3) := by decide +kernel
theorem dX3_pintsOfAll_9 : decode cX3_pintsOfAll 9 = .ok (.getfield 40, 3) := by decide +kernel
theorem dX3_pintsOfAll_12 : decode cX3_pintsOfAll 12 = .ok (.if_icmp .ge 32, 3) := by decide +kernel
theorem dX3_pintsOfAll_15 : decode cX3_pintsOfAll 15 = .ok (.aload_n 0, 1) := by decide +kernel
theorem dX3_pintsOfAll_16 : decode cX3_pintsOfAll 16 = .ok (.iload_n 3, 1) := by decide +kernel
theorem dX3_pintsOfAll_17 : decode cX3_pintsOfAll 17 = .ok (.iload_n 1, 1) := by decide +kernel
theorem dX3_pintsOfAll_18 : decode cX3_pintsOfAll 18 = .ok (.invokevirtual 75, 3) := by decide +kernel
theorem dX3_pintsOfAll_21 : decode cX3_pintsOfAll 21 = .ok (.istore 4, 2) := by decide +kernel
theorem dX3_pintsOfAll_23 : decode cX3_pintsOfAll 23 = .ok (.iload 4, 2) := by decide +kernel
theorem dX3_pintsOfAll_25 : decode cX3_pintsOfAll 25 = .ok (.bipush (-9), 2) := by decide +kernel
theorem dX3_pintsOfAll_27 : decode cX3_pintsOfAll 27 = .ok (.if_icmp .ne 6, 3) := by decide +kernel
theorem dX3_pintsOfAll_30 : decode cX3_pintsOfAll 30 = .ok (.bipush (-9), 2) := by decide +kernel
theorem dX3_pintsOfAll_32 : decode cX3_pintsOfAll 32 = .ok (.ireturn, 1) := by decide +kernel
theorem dX3_pintsOfAll_33 : decode cX3_pintsOfAll 33 = .ok (.iload_n 2, 1) := by decide +kernel
theorem dX3_pintsOfAll_34 : decode cX3_pintsOfAll 34 = .ok (.iload 4, 2) := by decide +kernel
theorem dX3_pintsOfAll_36 : decode cX3_pintsOfAll 36 = .ok (.iadd, 1) := by decide +kernel
theorem dX3_pintsOfAll_37 : decode cX3_pintsOfAll 37 = .ok (.istore_n 2, 1) := by decide +kernel
theorem dX3_pintsOfAll_38 : decode cX3_pintsOfAll 38 = .ok (.iinc 3 1, 3) := by decide +kernel
theorem dX3_pintsOfAll_41 : decode cX3_pintsOfAll 41 = .ok (.goto (-37), 3) := by decide +kernel
theorem dX3_pintsOfAll_44 : decode cX3_pintsOfAll 44 = .ok (.iload_n 2, 1) := by decide +kernel
theorem dX3_pintsOfAll_45 : decode cX3_pintsOfAll 45 = .ok (.ireturn, 1) := by decide +kernel
set_option maxRecDepth 20000 in
theorem ggX3_waysStillWarm_X3_loss : GoodIn wsX3_waysStillWarm wsX3_loss := goodIn_r _ [8, 9, 10, 11, 12, 13, 14, 15, 19, 20, 21, 22, 23, 24, 25, 26, 27, 28, 29, 30] (by decide +kernel) (by decide +kernel)
set_option maxRecDepth 20000 in
theorem gX3_waysStillWarm_X3_loss : GoodIn wsX3_waysStillWarm (wsV RX3 43 RX3 yX3_loss wsX3_loss) := goodIn_app (goodIn_of _ (by decide +kernel)) ggX3_waysStillWarm_X3_loss
set_option maxRecDepth 20000 in
theorem ggX3_waysStillWarm_X3_waysFrom : GoodIn wsX3_waysStillWarm wsX3_waysFrom := goodIn_r _ [18, 16, 17, 7] (by decide +kernel) (by decide +kernel)
set_option maxRecDepth 20000 in
theorem gX3_waysStillWarm_X3_waysFrom : GoodIn wsX3_waysStillWarm (va_wsS RX3 78 yX3_waysFrom wsX3_waysFrom) := goodIn_app (goodIn_of _ (by decide +kernel)) ggX3_waysStillWarm_X3_waysFrom
theorem dX3_waysStillWarm_0 : decode cX3_waysStillWarm 0 = .ok (.aload_n 0, 1) := by decide +kernel
theorem dX3_waysStillWarm_1 : decode cX3_waysStillWarm 1 = .ok (.iload_n 1, 1) := by decide +kernel
theorem dX3_waysStillWarm_2 : decode cX3_waysStillWarm 2 = .ok (.aload_n 0, 1) := by decide +kernel
theorem dX3_waysStillWarm_3 : decode cX3_waysStillWarm 3 = .ok (.getfield 22, 3) := by decide +kernel
theorem dX3_waysStillWarm_6 : decode cX3_waysStillWarm 6 = .ok (.aload_n 0, 1) := by decide +kernel
theorem dX3_waysStillWarm_7 : decode cX3_waysStillWarm 7 = .ok (.getfield 32, 3) := by decide +kernel
theorem dX3_waysStillWarm_10 : decode cX3_waysStillWarm 10 = .ok (.invokevirtual 43, 3) := by decide +kernel
theorem dX3_waysStillWarm_13 : decode cX3_waysStillWarm 13 = .ok (.istore 4, 2) := by decide +kernel
theorem dX3_waysStillWarm_15 : decode cX3_waysStillWarm 15 = .ok (.aload_n 0, 1) := by decide +kernel
theorem dX3_waysStillWarm_16 : decode cX3_waysStillWarm 16 = .ok (.iload_n 1, 1) := by decide +kernel
theorem dX3_waysStillWarm_17 : decode cX3_waysStillWarm 17 = .ok (.aload_n 0, 1) := by decide +kernel
theorem dX3_waysStillWarm_18 : decode cX3_waysStillWarm 18 = .ok (.getfield 22, 3) := by decide +kernel
theorem dX3_waysStillWarm_21 : decode cX3_waysStillWarm 21 = .ok (.aload_n 0, 1) := by decide +kernel
theorem dX3_waysStillWarm_22 : decode cX3_waysStillWarm 22 = .ok (.getfield 32, 3) := by decide +kernel
theorem dX3_waysStillWarm_25 : decode cX3_waysStillWarm 25 = .ok (.iconst 5, 1) := by decide +kernel
theorem dX3_waysStillWarm_26 : decode cX3_waysStillWarm 26 = .ok (.iadd, 1) := by decide +kernel
theorem dX3_waysStillWarm_27 : decode cX3_waysStillWarm 27 = .ok (.invokevirtual 43, 3) := by decide +kernel
theorem dX3_waysStillWarm_30 : decode cX3_waysStillWarm 30 = .ok (.istore 5, 2) := by decide +kernel
theorem dX3_waysStillWarm_32 : decode cX3_waysStillWarm 32 = .ok (.aload_n 0, 1) := by decide +kernel
theorem dX3_waysStillWarm_33 : decode cX3_waysStillWarm 33 = .ok (.getfield 18, 3) := by decide +kernel
theorem dX3_waysStillWarm_36 : decode cX3_waysStillWarm 36 = .ok (.iload_n 1, 1) := by decide +kernel
theorem dX3_waysStillWarm_37 : decode cX3_waysStillWarm 37 = .ok (.iaload, 1) := by decide +kernel
theorem dX3_waysStillWarm_38 : decode cX3_waysStillWarm 38 = .ok (.iload_n 3, 1) := by decide +kernel
theorem dX3_waysStillWarm_39 : decode cX3_waysStillWarm 39 = .ok (.iload_n 2, 1) := by decide +kernel
theorem dX3_waysStillWarm_40 : decode cX3_waysStillWarm 40 = .ok (.iload 4, 2) := by decide +kernel
theorem dX3_waysStillWarm_42 : decode cX3_waysStillWarm 42 = .ok (.iload 5, 2) := by decide +kernel
theorem dX3_waysStillWarm_44 : decode cX3_waysStillWarm 44 = .ok (.invokestatic 78, 3) := by decide +kernel
theorem dX3_waysStillWarm_47 : decode cX3_waysStillWarm 47 = .ok (.ireturn, 1) := by decide +kernel
set_option maxRecDepth 20000 in
theorem ggX3_waysFrom_X3_waysFrom : GoodIn wsX3_waysFrom wsX3_waysFrom := goodIn_r _ [0, 1, 2, 3] (by decide +kernel) (by decide +kernel)
set_option maxRecDepth 20000 in
theorem gX3_waysFrom_X3_waysFrom : GoodIn wsX3_waysFrom (va_wsS RX3 78 yX3_waysFrom wsX3_waysFrom) := goodIn_app (goodIn_of _ (by decide +kernel)) ggX3_waysFrom_X3_waysFrom
theorem dX3_waysFrom_0 : decode cX3_waysFrom 0 = .ok (.iload_n 0, 1) := by decide +kernel
theorem dX3_waysFrom_1 : decode cX3_waysFrom 1 = .ok (.ifCond .gt 5, 3) := by decide +kernel
theorem dX3_waysFrom_4 : decode cX3_waysFrom 4 = .ok (.iconst 0, 1) := by decide +kernel
theorem dX3_waysFrom_5 : decode cX3_waysFrom 5 = .ok (.ireturn, 1) := by decide +kernel
theorem dX3_waysFrom_6 : decode cX3_waysFrom 6 = .ok (.iload_n 1, 1) := by decide +kernel
theorem dX3_waysFrom_7 : decode cX3_waysFrom 7 = .ok (.ifCond .gt 5, 3) := by decide +kernel
theorem dX3_waysFrom_10 : decode cX3_waysFrom 10 = .ok (.iconst 1, 1) := by decide +kernel
theorem dX3_waysFrom_11 : decode cX3_waysFrom 11 = .ok (.ireturn, 1) := by decide +kernel
theorem dX3_waysFrom_12 : decode cX3_waysFrom 12 = .ok (.bipush 10, 2) := by decide +kernel
theorem dX3_waysFrom_14 : decode cX3_waysFrom 14 = .ok (.iload_n 2, 1) := by decide +kernel
theorem dX3_waysFrom_15 : decode cX3_waysFrom 15 = .ok (.isub, 1) := by decide +kernel
theorem dX3_waysFrom_16 : decode cX3_waysFrom 16 = .ok (.iload_n 0, 1) := by decide +kernel
theorem dX3_waysFrom_17 : decode cX3_waysFrom 17 = .ok (.iload_n 3, 1) := by decide +kernel
theorem dX3_waysFrom_18 : decode cX3_waysFrom 18 = .ok (.isub, 1) := by decide +kernel
theorem dX3_waysFrom_19 : decode cX3_waysFrom 19 = .ok (.iload_n 1, 1) := by decide +kernel
theorem dX3_waysFrom_20 : decode cX3_waysFrom 20 = .ok (.iconst 1, 1) := by decide +kernel
theorem dX3_waysFrom_21 : decode cX3_waysFrom 21 = .ok (.isub, 1) := by decide +kernel
theorem dX3_waysFrom_22 : decode cX3_waysFrom 22 = .ok (.iload_n 2, 1) := by decide +kernel
theorem dX3_waysFrom_23 : decode cX3_waysFrom 23 = .ok (.iload_n 3, 1) := by decide +kernel
theorem dX3_waysFrom_24 : decode cX3_waysFrom 24 = .ok (.iload 4, 2) := by decide +kernel
theorem dX3_waysFrom_26 : decode cX3_waysFrom 26 = .ok (.invokestatic 78, 3) := by decide +kernel
theorem dX3_waysFrom_29 : decode cX3_waysFrom 29 = .ok (.imul, 1) := by decide +kernel
theorem dX3_waysFrom_30 : decode cX3_waysFrom 30 = .ok (.iload_n 2, 1) := by decide +kernel
theorem dX3_waysFrom_31 : decode cX3_waysFrom 31 = .ok (.iload_n 0, 1) := by decide +kernel
theorem dX3_waysFrom_32 : decode cX3_waysFrom 32 = .ok (.iload 4, 2) := by decide +kernel
theorem dX3_waysFrom_34 : decode cX3_waysFrom 34 = .ok (.isub, 1) := by decide +kernel
theorem dX3_waysFrom_35 : decode cX3_waysFrom 35 = .ok (.iload_n 1, 1) := by decide +kernel
theorem dX3_waysFrom_36 : decode cX3_waysFrom 36 = .ok (.iconst 1, 1) := by decide +kernel
theorem dX3_waysFrom_37 : decode cX3_waysFrom 37 = .ok (.isub, 1) := by decide +kernel
theorem dX3_waysFrom_38 : decode cX3_waysFrom 38 = .ok (.iload_n 2, 1) := by decide +kernel
theorem dX3_waysFrom_39 : decode cX3_waysFrom 39 = .ok (.iload_n 3, 1) := by decide +kernel
theorem dX3_waysFrom_40 : decode cX3_waysFrom 40 = .ok (.iload 4, 2) := by decide +kernel
theorem dX3_waysFrom_42 : decode cX3_waysFrom 42 = .ok (.invokestatic 78, 3) := by decide +kernel
theorem dX3_waysFrom_45 : decode cX3_waysFrom 45 = .ok (.imul, 1) := by decide +kernel
theorem dX3_waysFrom_46 : decode cX3_waysFrom 46 = .ok (.iadd, 1) := by decide +kernel
theorem dX3_waysFrom_47 : decode cX3_waysFrom 47 = .ok (.ireturn, 1) := by decide +kernel
set_option maxRecDepth 20000 in
theorem ggX4_init_X0_init : GoodIn wsX4_init wsX0_init := goodIn_r _ [10, 11, 2, 3, 12, 13, 14, 15, 16, 17, 18, 19, 20] (by decide +kernel) (by decide +kernel)
set_option maxRecDepth 20000 in
theorem gX4_init_X0_init : GoodIn wsX4_init (wsX0_init) := ggX4_init_X0_init
theorem dX4_init_0 : decode cX4_init 0 = .ok (.aload_n 0, 1) := by decide +kernel
theorem dX4_init_1 : decode cX4_init 1 = .ok (.invokespecial 3, 3) := by decide +kernel
theorem dX4_init_4 : decode cX4_init 4 = .ok (.aload_n 0, 1) := by decide +kernel
theorem dX4_init_5 : decode cX4_init 5 = .ok (.new 9, 3) := by decide +kernel
theorem dX4_init_8 : decode cX4_init 8 = .ok (.dup, 1) := by decide +kernel
theorem dX4_init_9 : decode cX4_init 9 = .ok (.bipush 10, 2) := by decide +kernel
theorem dX4_init_11 : decode cX4_init 11 = .ok (.invokespecial 11, 3) := by decide +kernel
theorem dX4_init_14 : decode cX4_init 14 = .ok (.putfield 14, 3) := by decide +kernel
theorem dX4_init_17 : decode cX4_init 17 = .ok (.return_, 1) := by decide +kernel
set_option maxRecDepth 20000 in
theorem ggX4_remember_X0_put : GoodIn wsX4_remember wsX0_put := goodIn_r _ [12, 13, 14, 15, 16, 17, 18, 19, 20, 21, 22, 23, 27, 28, 29, 30, 31, 32, 33, 34] (by decide +kernel) (by decide +kernel)
set_option maxRecDepth 20000 in
theorem gX4_remember_X0_put : GoodIn wsX4_remember (wsV RX4 24 RX0 yX0_put wsX0_put) := goodIn_app (goodIn_of _ (by decide +kernel)) ggX4_remember_X0_put
theorem dX4_remember_0 : decode cX4_remember 0 = .ok (.aload_n 0, 1) := by decide +kernel
theorem dX4_remember_1 : decode cX4_remember 1 = .ok (.getfield 14, 3) := by decide +kernel
theorem dX4_remember_4 : decode cX4_remember 4 = .ok (.aload_n 0, 1) := by decide +kernel
theorem dX4_remember_5 : decode cX4_remember 5 = .ok (.getfield 20, 3) := by decide +kernel
theorem dX4_remember_8 : decode cX4_remember 8 = .ok (.aload_n 1, 1) := by decide +kernel
theorem dX4_remember_9 : decode cX4_remember 9 = .ok (.invokevirtual 24, 3) := by decide +kernel
theorem dX4_remember_12 : decode cX4_remember 12 = .ok (.aload_n 0, 1) := by decide +kernel
theorem dX4_remember_13 : decode cX4_remember 13 = .ok (.aload_n 0, 1) := by decide +kernel
theorem dX4_remember_14 : decode cX4_remember 14 = .ok (.getfield 20, 3) := by decide +kernel
theorem dX4_remember_17 : decode cX4_remember 17 = .ok (.iconst 1, 1) := by decide +kernel
theorem dX4_remember_18 : decode cX4_remember 18 = .ok (.iadd, 1) := by decide +kernel
theorem dX4_remember_19 : decode cX4_remember 19 = .ok (.bipush 10, 2) := by decide +kernel
theorem dX4_remember_21 : decode cX4_remember 21 = .ok (.if_icmp .ge 12, 3) := by decide +kernel
theorem dX4_remember_24 : decode cX4_remember 24 = .ok (.aload_n 0, 1) := by decide +kernel
theorem dX4_remember_25 : decode cX4_remember 25 = .ok (.getfield 20, 3) := by decide +kernel
theorem dX4_remember_28 : decode cX4_remember 28 = .ok (.iconst 1, 1) := by decide +kernel
theorem dX4_remember_29 : decode cX4_remember 29 = .ok (.iadd, 1) := by decide +kernel
theorem dX4_remember_30 : decode cX4_remember 30 = .ok (.goto 4, 3) := by decide +kernel
theorem dX4_remember_33 : decode cX4_remember 33 = .ok (.iconst 0, 1) := by decide +kernel
theorem dX4_remember_34 : decode cX4_remember 34 = .ok (.putfield 20, 3) := by decide +kernel
theorem dX4_remember_37 : decode cX4_remember 37 = .ok (.aload_n 0, 1) := by decide +kernel
theorem dX4_remember_38 : decode cX4_remember 38 = .ok (.bipush 10, 2) := by decide +kernel
theorem dX4_remember_40 : decode cX4_remember 40 = .ok (.aload_n 0, 1) := by decide +kernel
theorem dX4_remember_41 : decode cX4_remember 41 = .ok (.getfield 28, 3) := by decide +kernel
theorem dX4_remember_44 : decode cX4_remember 44 = .ok (.iconst 1, 1) := by decide +kernel
theorem dX4_remember_45 : decode cX4_remember 45 = .ok (.iadd, 1) := by decide +kernel
theorem dX4_remember_46 : decode cX4_remember 46 = .ok (.invokestatic 31, 3) := by decide +kernel
theorem dX4_remember_49 : decode cX4_remember 49 = .ok (.putfield 28, 3) := by decide +kernel
theorem dX4_remember_52 : decode cX4_remember 52 = .ok (.return_, 1) := by decide +kernel
set_option maxRecDepth 20000 in
theorem ggX4_takeLatest_X0_take : GoodIn wsX4_takeLatest wsX0_take := goodIn_r _ [8, 9, 10, 11, 12, 13, 14, 15, 16, 17, 18, 19, 23, 24, 25, 26, 27, 28, 29, 30] (by decide +kernel) (by decide +kernel)
set_option maxRecDepth 20000 in
theorem gX4_takeLatest_X0_take : GoodIn wsX4_takeLatest (wsV RX4 37 RX0 yX0_take wsX0_take) := goodIn_app (goodIn_of _ (by decide +kernel)) ggX4_takeLatest_X0_take
theorem dX4_takeLatest_0 : decode cX4_takeLatest 0 = .ok (.aload_n 0, 1) := by decide +kernel
theorem dX4_takeLatest_1 : decode cX4_takeLatest 1 = .ok (.aload_n 0, 1) := by decide +kernel
theorem dX4_takeLatest_2 : decode cX4_takeLatest 2 = .ok (.getfield 20, 3) := by decide +kernel
theorem dX4_takeLatest_5 : decode cX4_takeLatest 5 = .ok (.ifCond .le 12, 3) := by decide +kernel
theorem dX4_takeLatest_8 : decode cX4_takeLatest 8 = .ok (.aload_n 0, 1) := by decide +kernel
theorem dX4_takeLatest_9 : decode cX4_takeLatest 9 = .ok (.getfield 20, 3) := by decide +kernel
theorem dX4_takeLatest_12 : decode cX4_takeLatest 12 = .ok (.iconst 1, 1) := by decide +kernel
theorem dX4_takeLatest_13 : decode cX4_takeLatest 13 = .ok (.isub, 1) := by decide +kernel
theorem dX4_takeLatest_14 : decode cX4_takeLatest 14 = .ok (.goto 5, 3) := by decide +kernel
theorem dX4_takeLatest_17 : decode cX4_takeLatest 17 = .ok (.bipush 9, 2) := by decide +kernel
theorem dX4_takeLatest_19 : decode cX4_takeLatest 19 = .ok (.putfield 20, 3) := by decide +kernel
theorem dX4_takeLatest_22 : decode cX4_takeLatest 22 = .ok (.aload_n 0, 1) := by decide +kernel
theorem dX4_takeLatest_23 : decode cX4_takeLatest 23 = .ok (.getfield 14, 3) := by decide +kernel
theorem dX4_takeLatest_26 : decode cX4_takeLatest 26 = .ok (.aload_n 0, 1) := by decide +kernel
theorem dX4_takeLatest_27 : decode cX4_takeLatest 27 = .ok (.getfield 20, 3) := by decide +kernel
theorem dX4_takeLatest_30 : decode cX4_takeLatest 30 = .ok (.aload_n 1, 1) := by decide +kernel
theorem dX4_takeLatest_31 : decode cX4_takeLatest 31 = .ok (.invokevirtual 37, 3) := by decide +kernel
theorem dX4_takeLatest_34 : decode cX4_takeLatest 34 = .ok (.aload_n 0, 1) := by decide +kernel
theorem dX4_takeLatest_35 : decode cX4_takeLatest 35 = .ok (.dup, 1) := by decide +kernel
theorem dX4_takeLatest_36 : decode cX4_takeLatest 36 = .ok (.getfield 28, 3) := by decide +kernel
theorem dX4_takeLatest_39 : decode cX4_takeLatest 39 = .ok (.iconst 1, 1) := by decide +kernel
theorem dX4_takeLatest_40 : decode cX4_takeLatest 40 = .ok (.isub, 1) := by decide +kernel
theorem dX4_takeLatest_41 : decode cX4_takeLatest 41 = .ok (.putfield 28, 3) := by decide +kernel
theorem dX4_takeLatest_44 : decode cX4_takeLatest 44 = .ok (.return_, 1) := by decide +kernel
theorem dX5_init_0 : decode cX5_init 0 = .ok (.aload_n 0, 1) := by decide +kernel
theorem dX5_init_1 : decode cX5_init 1 = .ok (.invokespecial 3, 3) := by decide +kernel
theorem dX5_init_4 : decode cX5_init 4 = .ok (.aload_n 0, 1) := by decide +kernel
theorem dX5_init_5 : decode cX5_init 5 = .ok (.bipush 120, 2) := by decide +kernel
theorem dX5_init_7 : decode cX5_init 7 = .ok (.newarray .char, 2) := by decide +kernel
theorem dX5_init_9 : decode cX5_init 9 = .ok (.putfield 9, 3) := by decide +kernel
theorem dX5_init_12 : decode cX5_init 12 = .ok (.return_, 1) := by decide +kernel
theorem dX5_append_0 : decode cX5_append 0 = .ok (.aload_n 0, 1) := by decide +kernel
theorem dX5_append_1 : decode cX5_append 1 = .ok (.getfield 15, 3) := by decide +kernel
theorem dX5_append_4 : decode cX5_append 4 = .ok (.aload_n 0, 1) := by decide +kernel
theorem dX5_append_5 : decode cX5_append 5 = .ok (.getfield 9, 3) := by decide +kernel
theorem dX5_append_8 : decode cX5_append 8 = .ok (.arraylength, 1) := by decide +kernel
theorem dX5_append_9 : decode cX5_append 9 = .ok (.if_icmp .ge 23, 3) := by decide +kernel
theorem dX5_append_12 : decode cX5_append 12 = .ok (.aload_n 0, 1) := by decide +kernel
theorem dX5_append_13 : decode cX5_append 13 = .ok (.getfield 9, 3) := by decide +kernel
theorem dX5_append_16 : decode cX5_append 16 = .ok (.aload_n 0, 1) := by decide +kernel
theorem dX5_append_17 : decode cX5_append 17 = .ok (.getfield 15, 3) := by decide +kernel
theorem dX5_append_20 : decode cX5_append 20 = .ok (.iload_n 1, 1) := by decide +kernel
theorem dX5_append_21 : decode cX5_append 21 = .ok (.castore, 1) := by decide +kernel
theorem dX5_append_22 : decode cX5_append 22 = .ok (.aload_n 0, 1) := by decide +kernel
theorem dX5_append_23 : decode cX5_append 23 = .ok (.dup, 1) := by decide +kernel
theorem dX5_append_24 : decode cX5_append 24 = .ok (.getfield 15, 3) := by decide +kernel
theorem dX5_append_27 : decode cX5_append 27 = .ok (.iconst 1, 1) := by decide +kernel
theorem dX5_append_28 : decode cX5_append 28 = .ok (.iadd, 1) := by decide +kernel
theorem dX5_append_29 : decode cX5_append 29 = .ok (.putfield 15, 3) := by decide +kernel
theorem dX5_append_32 : decode cX5_append 32 = .ok (.return_, 1) := by decide +kernel
set_option maxRecDepth 20000 in
theorem ggX5_read_X6_beAsAtFirst : GoodIn wsX5_read wsX6_beAsAtFirst := goodIn_r _ [11, 12, 13, 14, 71, 72, 73, 74, 75, 76] (by decide +kernel) (by decide +kernel)
set_option maxRecDepth 20000 in
theorem gX5_read_X6_beAsAtFirst : GoodIn wsX5_read (wsV RX5 19 RX6 yX6_beAsAtFirst wsX6_beAsAtFirst) := goodIn_app (goodIn_of _ (by decide +kernel)) ggX5_read_X6_beAsAtFirst
set_option maxRecDepth 20000 in
theorem ggX5_read_X5_readToken : GoodIn wsX5_read wsX5_readToken := goodIn_r _ [19, 1, 4, 20, 6, 5, 21, 22, 18, 23, 24, 25, 26, 27, 28, 29, 30, 31, 32, 63, 64, 65, 66, 67, 68, 69, 70] (by decide +kernel) (by decide +kernel)
set_option maxRecDepth 20000 in
theorem gX5_read_X5_readToken : GoodIn wsX5_read (wsV RX5 34 RX5 yX5_readToken wsX5_readToken) := goodIn_app (goodIn_of _ (by decide +kernel)) ggX5_read_X5_readToken
set_option maxRecDepth 20000 in
theorem ggX5_read_X5_readItem : GoodIn wsX5_read wsX5_readItem := goodIn_r _ [36, 5, 37, 38, 39, 18, 40, 41, 42, 28, 43, 44, 45, 46, 47, 48, 15, 16, 17, 19, 1, 4, 20, 6, 21, 22, 23, 24, 25, 26, 27, 29, 30, 31, 32, 49, 50, 51, 52, 53, 54, 55, 56, 2, 57, 58, 59, 60, 61, 3, 62, 63, 64, 65, 66, 67, 68, 69, 70, 71, 72, 73, 74, 75, 76] (by decide +kernel) (by decide +kernel)
set_option maxRecDepth 20000 in
theorem gX5_read_X5_readItem : GoodIn wsX5_read (wsV RX5 40 RX5 yX5_readItem wsX5_readItem) := goodIn_app (goodIn_of _ (by decide +kernel)) ggX5_read_X5_readItem
theorem dX5_read_0 : decode cX5_read 0 = .ok (.aload_n 1, 1) := by decide +kernel
theorem dX5_read_1 : decode cX5_read 1 = .ok (.invokevirtual 19, 3) := by decide +kernel
theorem dX5_read_4 : decode cX5_read 4 = .ok (.aload_n 0, 1) := by decide +kernel
theorem dX5_read_5 : decode cX5_read 5 = .ok (.iconst 0, 1) := by decide +kernel
theorem dX5_read_6 : decode cX5_read 6 = .ok (.putfield 24, 3) := by decide +kernel
theorem dX5_read_9 : decode cX5_read 9 = .ok (.aload_n 0, 1) := by decide +kernel
theorem dX5_read_10 : decode cX5_read 10 = .ok (.iconst 0, 1) := by decide +kernel
theorem dX5_read_11 : decode cX5_read 11 = .ok (.putfield 27, 3) := by decide +kernel
theorem dX5_read_14 : decode cX5_read 14 = .ok (.aload_n 0, 1) := by decide +kernel
theorem dX5_read_15 : decode cX5_read 15 = .ok (.iconst 0, 1) := by decide +kernel
theorem dX5_read_16 : decode cX5_read 16 = .ok (.putfield 31, 3) := by decide +kernel
theorem dX5_read_19 : decode cX5_read 19 = .ok (.iconst 0, 1) := by decide +kernel
theorem dX5_read_20 : decode cX5_read 20 = .ok (.istore_n 2, 1) := by decide +kernel
theorem dX5_read_21 : decode cX5_read 21 = .ok (.iload_n 2, 1) := by decide +kernel
theorem dX5_read_22 : decode cX5_read 22 = .ok (.aload_n 0, 1) := by decide +kernel
theorem dX5_read_23 : decode cX5_read 23 = .ok (.getfield 15, 3) := by decide +kernel
theorem dX5_read_26 : decode cX5_read 26 = .ok (.if_icmp .gt 34, 3) := by decide +kernel
theorem dX5_read_29 : decode cX5_read 29 = .ok (.aload_n 0, 1) := by decide +kernel
theorem dX5_read_30 : decode cX5_read 30 = .ok (.invokevirtual 34, 3) := by decide +kernel
theorem dX5_read_33 : decode cX5_read 33 = .ok (.aload_n 0, 1) := by decide +kernel
theorem dX5_read_34 : decode cX5_read 34 = .ok (.getfield 37, 3) := by decide +kernel
theorem dX5_read_37 : decode cX5_read 37 = .ok (.iconst (-1), 1) := by decide +kernel
theorem dX5_read_38 : decode cX5_read 38 = .ok (.if_icmp .ne 5, 3) := by decide +kernel
theorem dX5_read_41 : decode cX5_read 41 = .ok (.iload_n 2, 1) := by decide +kernel
theorem dX5_read_42 : decode cX5_read 42 = .ok (.ireturn, 1) := by decide +kernel
theorem dX5_read_43 : decode cX5_read 43 = .ok (.aload_n 0, 1) := by decide +kernel
theorem dX5_read_44 : decode cX5_read 44 = .ok (.aload_n 1, 1) := by decide +kernel
theorem dX5_read_45 : decode cX5_read 45 = .ok (.invokevirtual 40, 3) := by decide +kernel
theorem dX5_read_48 : decode cX5_read 48 = .ok (.ifCond .ne 6, 3) := by decide +kernel
theorem dX5_read_51 : decode cX5_read 51 = .ok (.goto 9, 3) := by decide +kernel
theorem dX5_read_54 : decode cX5_read 54 = .ok (.iinc 2 1, 3) := by decide +kernel
theorem dX5_read_57 : decode cX5_read 57 = .ok (.goto (-36), 3) := by decide +kernel
theorem dX5_read_60 : decode cX5_read 60 = .ok (.bipush (-10), 2) := by decide +kernel
theorem dX5_read_62 : decode cX5_read 62 = .ok (.aload_n 0, 1) := by decide +kernel
theorem dX5_read_63 : decode cX5_read 63 = .ok (.getfield 44, 3) := by decide +kernel
theorem dX5_read_66 : decode cX5_read 66 = .ok (.isub, 1) := by decide +kernel
theorem dX5_read_67 : decode cX5_read 67 = .ok (.ireturn, 1) := by decide +kernel
set_option maxRecDepth 20000 in
theorem ggX5_readItem_X5_readBottle : GoodIn wsX5_readItem wsX5_readBottle := goodIn_r _ [6, 7, 8, 9, 10, 11, 12, 13, 14, 5, 15, 1, 16, 17, 18, 19, 20, 21, 22, 23, 24, 25, 26, 27, 28, 29, 30, 31, 32, 33, 34, 59, 60, 61, 62, 63, 64, 51, 52, 53, 54, 55, 56, 57, 58] (by decide +kernel) (by decide +kernel)
set_option maxRecDepth 20000 in
theorem gX5_readItem_X5_readBottle : GoodIn wsX5_readItem (wsV RX5 47 RX5 yX5_readBottle wsX5_readBottle) := goodIn_app (goodIn_of _ (by decide +kernel)) ggX5_readItem_X5_readBottle
set_option maxRecDepth 20000 in
theorem ggX5_readItem_X5_readSemicolon : GoodIn wsX5_readItem wsX5_readSemicolon := goodIn_r _ [38, 1, 16, 17, 18, 5, 19, 20, 21, 22, 23, 24, 25, 26, 27, 28, 29, 30, 9, 31, 32, 33, 34, 51, 52, 53, 54, 55, 56, 57, 58] (by decide +kernel) (by decide +kernel)
set_option maxRecDepth 20000 in
theorem gX5_readItem_X5_readSemicolon : GoodIn wsX5_readItem (wsV RX5 50 RX5 yX5_readSemicolon wsX5_readSemicolon) := goodIn_app (goodIn_of _ (by decide +kernel)) ggX5_readItem_X5_readSemicolon
set_option maxRecDepth 20000 in
theorem ggX5_readItem_X5_readKettle : GoodIn wsX5_readItem wsX5_readKettle := goodIn_r _ [42, 43, 9, 44, 12, 13, 14, 5, 15, 1, 16, 17, 18, 19, 20, 21, 22, 23, 24, 25, 26, 27, 28, 29, 30, 31, 32, 33, 34, 51, 52, 53, 54, 55, 56, 57, 58, 59, 60, 61, 62, 63, 64] (by decide +kernel) (by decide +kernel)
set_option maxRecDepth 20000 in
theorem gX5_readItem_X5_readKettle : GoodIn wsX5_readItem (wsV RX5 54 RX5 yX5_readKettle wsX5_readKettle) := goodIn_app (goodIn_of _ (by decide +kernel)) ggX5_readItem_X5_readKettle
set_option maxRecDepth 20000 in
theorem ggX5_readItem_X5_readPint : GoodIn wsX5_readItem wsX5_readPint := goodIn_r _ [48, 49, 9, 50, 12, 13, 14, 5, 15, 1, 16, 17, 18, 19, 20, 21, 22, 23, 24, 25, 26, 27, 28, 29, 30, 31, 32, 33, 34, 51, 52, 53, 54, 55, 56, 57, 58, 59, 60, 61, 62, 63, 64] (by decide +kernel) (by decide +kernel)
set_option maxRecDepth 20000 in
theorem gX5_readItem_X5_readPint : GoodIn wsX5_readItem (wsV RX5 57 RX5 yX5_readPint wsX5_readPint) := goodIn_app (goodIn_of _ (by decide +kernel)) ggX5_readItem_X5_readPint
theorem dX5_readItem_0 : decode cX5_readItem 0 = .ok (.aload_n 0, 1) := by decide +kernel
theorem dX5_readItem_1 : decode cX5_readItem 1 = .ok (.getfield 37, 3) := by decide +kernel
theorem dX5_readItem_4 : decode cX5_readItem 4 = .ok (.lookupswitch 99 #[(98, 36), (107, 57), (112, 78)], 36) := by decide +kernel
theorem dX5_readItem_40 : decode cX5_readItem 40 = .ok (.aload_n 0, 1) := by decide +kernel
theorem dX5_readItem_41 : decode cX5_readItem 41 = .ok (.aload_n 1, 1) := by decide +kernel
theorem dX5_readItem_42 : decode cX5_readItem 42 = .ok (.invokevirtual 47, 3) := by decide +kernel
theorem dX5_readItem_45 : decode cX5_readItem 45 = .ok (.ifCond .eq 14, 3) := by decide +kernel
theorem dX5_readItem_48 : decode cX5_readItem 48 = .ok (.aload_n 0, 1) := by decide +kernel
theorem dX5_readItem_49 : decode cX5_readItem 49 = .ok (.invokevirtual 50, 3) := by decide +kernel
theorem dX5_readItem_52 : decode cX5_readItem 52 = .ok (.ifCond .eq 7, 3) := by decide +kernel
theorem dX5_readItem_55 : decode cX5_readItem 55 = .ok (.iconst 1, 1) := by decide +kernel
theorem dX5_readItem_56 : decode cX5_readItem 56 = .ok (.goto 4, 3) := by decide +kernel
theorem dX5_readItem_59 : decode cX5_readItem 59 = .ok (.iconst 0, 1) := by decide +kernel
theorem dX5_readItem_60 : decode cX5_readItem 60 = .ok (.ireturn, 1) := by decide +kernel
theorem dX5_readItem_61 : decode cX5_readItem 61 = .ok (.aload_n 0, 1) := by decide +kernel
theorem dX5_readItem_62 : decode cX5_readItem 62 = .ok (.aload_n 1, 1) := by decide +kernel
theorem dX5_readItem_63 : decode cX5_readItem 63 = .ok (.invokevirtual 54, 3) := by decide +kernel
theorem dX5_readItem_66 : decode cX5_readItem 66 = .ok (.ifCond .eq 14, 3) := by decide +kernel
theorem dX5_readItem_69 : decode cX5_readItem 69 = .ok (.aload_n 0, 1) := by decide +kernel
theorem dX5_readItem_70 : decode cX5_readItem 70 = .ok (.invokevirtual 50, 3) := by decide +kernel
theorem dX5_readItem_73 : decode cX5_readItem 73 = .ok (.ifCond .eq 7, 3) := by decide +kernel
theorem dX5_readItem_76 : decode cX5_readItem 76 = .ok (.iconst 1, 1) := by decide +kernel
theorem dX5_readItem_77 : decode cX5_readItem 77 = .ok (.goto 4, 3) := by decide +kernel
theorem dX5_readItem_80 : decode cX5_readItem 80 = .ok (.iconst 0, 1) := by decide +kernel
theorem dX5_readItem_81 : decode cX5_readItem 81 = .ok (.ireturn, 1) := by decide +kernel
theorem dX5_readItem_82 : decode cX5_readItem 82 = .ok (.aload_n 0, 1) := by decide +kernel
theorem dX5_readItem_83 : decode cX5_readItem 83 = .ok (.aload_n 1, 1) := by decide +kernel
theorem dX5_readItem_84 : decode cX5_readItem 84 = .ok (.invokevirtual 57, 3) := by decide +kernel
theorem dX5_readItem_87 : decode cX5_readItem 87 = .ok (.ifCond .eq 14, 3) := by decide +kernel
theorem dX5_readItem_90 : decode cX5_readItem 90 = .ok (.aload_n 0, 1) := by decide +kernel
theorem dX5_readItem_91 : decode cX5_readItem 91 = .ok (.invokevirtual 50, 3) := by decide +kernel
theorem dX5_readItem_94 : decode cX5_readItem 94 = .ok (.ifCond .eq 7, 3) := by decide +kernel
theorem dX5_readItem_97 : decode cX5_readItem 97 = .ok (.iconst 1, 1) := by decide +kernel
theorem dX5_readItem_98 : decode cX5_readItem 98 = .ok (.goto 4, 3) := by decide +kernel
theorem dX5_readItem_101 : decode cX5_readItem 101 = .ok (.iconst 0, 1) := by decide +kernel
theorem dX5_readItem_102 : decode cX5_readItem 102 = .ok (.ireturn, 1) := by decide +kernel
theorem dX5_readItem_103 : decode cX5_readItem 103 = .ok (.iconst 0, 1) := by decide +kernel
theorem dX5_readItem_104 : decode cX5_readItem 104 = .ok (.ireturn, 1) := by decide +kernel
set_option maxRecDepth 20000 in
theorem ggX5_readBottle_X5_readNumber : GoodIn wsX5_readBottle wsX5_readNumber := goodIn_r _ [10, 11, 3, 12, 13, 14, 9, 15, 16, 17, 18, 19, 20, 21, 22, 23, 24, 25, 26, 27, 28, 29, 30, 37, 38, 39, 40, 41, 42, 43, 44] (by decide +kernel) (by decide +kernel)
set_option maxRecDepth 20000 in
theorem gX5_readBottle_X5_readNumber : GoodIn wsX5_readBottle (wsV RX5 63 RX5 yX5_readNumber wsX5_readNumber) := goodIn_app (goodIn_of _ (by decide +kernel)) ggX5_readBottle_X5_readNumber
theorem dX5_readBottle_0 : decode cX5_readBottle 0 = .ok (.aload_n 1, 1) := by decide +kernel
theorem dX5_readBottle_1 : decode cX5_readBottle 1 = .ok (.getfield 60, 3) := by decide +kernel
theorem dX5_readBottle_4 : decode cX5_readBottle 4 = .ok (.istore_n 2, 1) := by decide +kernel
theorem dX5_readBottle_5 : decode cX5_readBottle 5 = .ok (.iload_n 2, 1) := by decide +kernel
theorem dX5_readBottle_6 : decode cX5_readBottle 6 = .ok (.bipush 6, 2) := by decide +kernel
theorem dX5_readBottle_8 : decode cX5_readBottle 8 = .ok (.if_icmp .ge 13, 3) := by decide +kernel
theorem dX5_readBottle_11 : decode cX5_readBottle 11 = .ok (.aload_n 0, 1) := by decide +kernel
theorem dX5_readBottle_12 : decode cX5_readBottle 12 = .ok (.iconst 0, 1) := by decide +kernel
theorem dX5_readBottle_13 : decode cX5_readBottle 13 = .ok (.bipush 99, 2) := by decide +kernel
theorem dX5_readBottle_15 : decode cX5_readBottle 15 = .ok (.invokevirtual 63, 3) := by decide +kernel
theorem dX5_readBottle_18 : decode cX5_readBottle 18 = .ok (.ifCond .ne 5, 3) := by decide +kernel
theorem dX5_readBottle_21 : decode cX5_readBottle 21 = .ok (.iconst 0, 1) := by decide +kernel
theorem dX5_readBottle_22 : decode cX5_readBottle 22 = .ok (.ireturn, 1) := by decide +kernel
theorem dX5_readBottle_23 : decode cX5_readBottle 23 = .ok (.aload_n 1, 1) := by decide +kernel
theorem dX5_readBottle_24 : decode cX5_readBottle 24 = .ok (.getfield 67, 3) := by decide +kernel
theorem dX5_readBottle_27 : decode cX5_readBottle 27 = .ok (.iload_n 2, 1) := by decide +kernel
theorem dX5_readBottle_28 : decode cX5_readBottle 28 = .ok (.aload_n 0, 1) := by decide +kernel
theorem dX5_readBottle_29 : decode cX5_readBottle 29 = .ok (.getfield 71, 3) := by decide +kernel
theorem dX5_readBottle_32 : decode cX5_readBottle 32 = .ok (.iastore, 1) := by decide +kernel
theorem dX5_readBottle_33 : decode cX5_readBottle 33 = .ok (.aload_n 0, 1) := by decide +kernel
theorem dX5_readBottle_34 : decode cX5_readBottle 34 = .ok (.iconst 1, 1) := by decide +kernel
theorem dX5_readBottle_35 : decode cX5_readBottle 35 = .ok (.bipush 9, 2) := by decide +kernel
theorem dX5_readBottle_37 : decode cX5_readBottle 37 = .ok (.invokevirtual 63, 3) := by decide +kernel
theorem dX5_readBottle_40 : decode cX5_readBottle 40 = .ok (.ifCond .ne 5, 3) := by decide +kernel
theorem dX5_readBottle_43 : decode cX5_readBottle 43 = .ok (.iconst 0, 1) := by decide +kernel
theorem dX5_readBottle_44 : decode cX5_readBottle 44 = .ok (.ireturn, 1) := by decide +kernel
theorem dX5_readBottle_45 : decode cX5_readBottle 45 = .ok (.aload_n 1, 1) := by decide +kernel
theorem dX5_readBottle_46 : decode cX5_readBottle 46 = .ok (.getfield 74, 3) := by decide +kernel
theorem dX5_readBottle_49 : decode cX5_readBottle 49 = .ok (.iload_n 2, 1) := by decide +kernel
theorem dX5_readBottle_50 : decode cX5_readBottle 50 = .ok (.aload_n 0, 1) := by decide +kernel
theorem dX5_readBottle_51 : decode cX5_readBottle 51 = .ok (.getfield 71, 3) := by decide +kernel
theorem dX5_readBottle_54 : decode cX5_readBottle 54 = .ok (.iastore, 1) := by decide +kernel
theorem dX5_readBottle_55 : decode cX5_readBottle 55 = .ok (.aload_n 0, 1) := by decide +kernel
theorem dX5_readBottle_56 : decode cX5_readBottle 56 = .ok (.iconst 0, 1) := by decide +kernel
theorem dX5_readBottle_57 : decode cX5_readBottle 57 = .ok (.bipush 99, 2) := by decide +kernel
theorem dX5_readBottle_59 : decode cX5_readBottle 59 = .ok (.invokevirtual 63, 3) := by decide +kernel
theorem dX5_readBottle_62 : decode cX5_readBottle 62 = .ok (.ifCond .ne 5, 3) := by decide +kernel
theorem dX5_readBottle_65 : decode cX5_readBottle 65 = .ok (.iconst 0, 1) := by decide +kernel
theorem dX5_readBottle_66 : decode cX5_readBottle 66 = .ok (.ireturn, 1) := by decide +kernel
theorem dX5_readBottle_67 : decode cX5_readBottle 67 = .ok (.aload_n 1, 1) := by decide +kernel
theorem dX5_readBottle_68 : decode cX5_readBottle 68 = .ok (.getfield 77, 3) := by decide +kernel
theorem dX5_readBottle_71 : decode cX5_readBottle 71 = .ok (.iload_n 2, 1) := by decide +kernel
theorem dX5_readBottle_72 : decode cX5_readBottle 72 = .ok (.aload_n 0, 1) := by decide +kernel
theorem dX5_readBottle_73 : decode cX5_readBottle 73 = .ok (.getfield 71, 3) := by decide +kernel
theorem dX5_readBottle_76 : decode cX5_readBottle 76 = .ok (.iastore, 1) := by decide +kernel
theorem dX5_readBottle_77 : decode cX5_readBottle 77 = .ok (.aload_n 1, 1) := by decide +kernel
theorem dX5_readBottle_78 : decode cX5_readBottle 78 = .ok (.iload_n 2, 1) := by decide +kernel
theorem dX5_readBottle_79 : decode cX5_readBottle 79 = .ok (.iconst 1, 1) := by decide +kernel
theorem dX5_readBottle_80 : decode cX5_readBottle 80 = .ok (.iadd, 1) := by decide +kernel
theorem dX5_readBottle_81 : decode cX5_readBottle 81 = .ok (.putfield 60, 3) := by decide +kernel
theorem dX5_readBottle_84 : decode cX5_readBottle 84 = .ok (.iconst 1, 1) := by decide +kernel
theorem dX5_readBottle_85 : decode cX5_readBottle 85 = .ok (.ireturn, 1) := by decide +kernel
set_option maxRecDepth 20000 in
theorem ggX5_readKettle_X5_readNumber : GoodIn wsX5_readKettle wsX5_readNumber := goodIn_r _ [8, 9, 2, 10, 11, 12, 7, 13, 14, 15, 16, 17, 18, 19, 20, 21, 22, 23, 24, 25, 26, 27, 28, 29, 30, 31, 32, 33, 34, 35, 36] (by decide +kernel) (by decide +kernel)
set_option maxRecDepth 20000 in
theorem gX5_readKettle_X5_readNumber : GoodIn wsX5_readKettle (wsV RX5 63 RX5 yX5_readNumber wsX5_readNumber) := goodIn_app (goodIn_of _ (by decide +kernel)) ggX5_readKettle_X5_readNumber
theorem dX5_readKettle_0 : decode cX5_readKettle 0 = .ok (.aload_n 0, 1) := by decide +kernel
theorem dX5_readKettle_1 : decode cX5_readKettle 1 = .ok (.getfield 27, 3) := by decide +kernel
theorem dX5_readKettle_4 : decode cX5_readKettle 4 = .ok (.ifCond .ne 13, 3) := by decide +kernel
theorem dX5_readKettle_7 : decode cX5_readKettle 7 = .ok (.aload_n 0, 1) := by decide +kernel
theorem dX5_readKettle_8 : decode cX5_readKettle 8 = .ok (.iconst 0, 1) := by decide +kernel
theorem dX5_readKettle_9 : decode cX5_readKettle 9 = .ok (.bipush 60, 2) := by decide +kernel
theorem dX5_readKettle_11 : decode cX5_readKettle 11 = .ok (.invokevirtual 63, 3) := by decide +kernel
theorem dX5_readKettle_14 : decode cX5_readKettle 14 = .ok (.ifCond .ne 5, 3) := by decide +kernel
theorem dX5_readKettle_17 : decode cX5_readKettle 17 = .ok (.iconst 0, 1) := by decide +kernel
theorem dX5_readKettle_18 : decode cX5_readKettle 18 = .ok (.ireturn, 1) := by decide +kernel
theorem dX5_readKettle_19 : decode cX5_readKettle 19 = .ok (.aload_n 0, 1) := by decide +kernel
theorem dX5_readKettle_20 : decode cX5_readKettle 20 = .ok (.iconst 1, 1) := by decide +kernel
theorem dX5_readKettle_21 : decode cX5_readKettle 21 = .ok (.putfield 27, 3) := by decide +kernel
theorem dX5_readKettle_24 : decode cX5_readKettle 24 = .ok (.aload_n 1, 1) := by decide +kernel
theorem dX5_readKettle_25 : decode cX5_readKettle 25 = .ok (.aload_n 0, 1) := by decide +kernel
theorem dX5_readKettle_26 : decode cX5_readKettle 26 = .ok (.getfield 71, 3) := by decide +kernel
theorem dX5_readKettle_29 : decode cX5_readKettle 29 = .ok (.putfield 80, 3) := by decide +kernel
theorem dX5_readKettle_32 : decode cX5_readKettle 32 = .ok (.iconst 1, 1) := by decide +kernel
theorem dX5_readKettle_33 : decode cX5_readKettle 33 = .ok (.ireturn, 1) := by decide +kernel
set_option maxRecDepth 20000 in
theorem ggX5_readPint_X5_readNumber : GoodIn wsX5_readPint wsX5_readNumber := goodIn_r _ [8, 9, 2, 10, 11, 12, 7, 13, 14, 15, 16, 17, 18, 19, 20, 21, 22, 23, 24, 25, 26, 27, 28, 29, 30, 31, 32, 33, 34, 35, 36] (by decide +kernel) (by decide +kernel)
set_option maxRecDepth 20000 in
theorem gX5_readPint_X5_readNumber : GoodIn wsX5_readPint (wsV RX5 63 RX5 yX5_readNumber wsX5_readNumber) := goodIn_app (goodIn_of _ (by decide +kernel)) ggX5_readPint_X5_readNumber
theorem dX5_readPint_0 : decode cX5_readPint 0 = .ok (.aload_n 0, 1) := by decide +kernel
theorem dX5_readPint_1 : decode cX5_readPint 1 = .ok (.getfield 31, 3) := by decide +kernel
theorem dX5_readPint_4 : decode cX5_readPint 4 = .ok (.ifCond .ne 13, 3) := by decide +kernel
theorem dX5_readPint_7 : decode cX5_readPint 7 = .ok (.aload_n 0, 1) := by decide +kernel
theorem dX5_readPint_8 : decode cX5_readPint 8 = .ok (.iconst 1, 1) := by decide +kernel
theorem dX5_readPint_9 : decode cX5_readPint 9 = .ok (.bipush 30, 2) := by decide +kernel
theorem dX5_readPint_11 : decode cX5_readPint 11 = .ok (.invokevirtual 63, 3) := by decide +kernel
theorem dX5_readPint_14 : decode cX5_readPint 14 = .ok (.ifCond .ne 5, 3) := by decide +kernel
theorem dX5_readPint_17 : decode cX5_readPint 17 = .ok (.iconst 0, 1) := by decide +kernel
theorem dX5_readPint_18 : decode cX5_readPint 18 = .ok (.ireturn, 1) := by decide +kernel
theorem dX5_readPint_19 : decode cX5_readPint 19 = .ok (.aload_n 0, 1) := by decide +kernel
theorem dX5_readPint_20 : decode cX5_readPint 20 = .ok (.iconst 1, 1) := by decide +kernel
theorem dX5_readPint_21 : decode cX5_readPint 21 = .ok (.putfield 31, 3) := by decide +kernel
theorem dX5_readPint_24 : decode cX5_readPint 24 = .ok (.aload_n 1, 1) := by decide +kernel
theorem dX5_readPint_25 : decode cX5_readPint 25 = .ok (.aload_n 0, 1) := by decide +kernel
theorem dX5_readPint_26 : decode cX5_readPint 26 = .ok (.getfield 71, 3) := by decide +kernel
theorem dX5_readPint_29 : decode cX5_readPint 29 = .ok (.putfield 83, 3) := by decide +kernel
theorem dX5_readPint_32 : decode cX5_readPint 32 = .ok (.iconst 1, 1) := by decide +kernel
theorem dX5_readPint_33 : decode cX5_readPint 33 = .ok (.ireturn, 1) := by decide +kernel
set_option maxRecDepth 20000 in
theorem ggX5_readNumber_X5_readToken : GoodIn wsX5_readNumber wsX5_readToken := goodIn_r _ [7, 8, 9, 10, 11, 1, 12, 13, 6, 14, 15, 16, 17, 18, 2, 19, 20, 21, 22, 23, 24, 25, 26, 27, 28, 29, 30] (by decide +kernel) (by decide +kernel)
set_option maxRecDepth 20000 in
theorem gX5_readNumber_X5_readToken : GoodIn wsX5_readNumber (wsV RX5 34 RX5 yX5_readToken wsX5_readToken) := goodIn_app (goodIn_of _ (by decide +kernel)) ggX5_readNumber_X5_readToken
theorem dX5_readNumber_0 : decode cX5_readNumber 0 = .ok (.aload_n 0, 1) := by decide +kernel
theorem dX5_readNumber_1 : decode cX5_readNumber 1 = .ok (.invokevirtual 34, 3) := by decide +kernel
theorem dX5_readNumber_4 : decode cX5_readNumber 4 = .ok (.aload_n 0, 1) := by decide +kernel
theorem dX5_readNumber_5 : decode cX5_readNumber 5 = .ok (.getfield 37, 3) := by decide +kernel
theorem dX5_readNumber_8 : decode cX5_readNumber 8 = .ok (.bipush (-2), 2) := by decide +kernel
theorem dX5_readNumber_10 : decode cX5_readNumber 10 = .ok (.if_icmp .ne 23, 3) := by decide +kernel
theorem dX5_readNumber_13 : decode cX5_readNumber 13 = .ok (.aload_n 0, 1) := by decide +kernel
theorem dX5_readNumber_14 : decode cX5_readNumber 14 = .ok (.getfield 71, 3) := by decide +kernel
theorem dX5_readNumber_17 : decode cX5_readNumber 17 = .ok (.iload_n 1, 1) := by decide +kernel
theorem dX5_readNumber_18 : decode cX5_readNumber 18 = .ok (.if_icmp .lt 15, 3) := by decide +kernel
theorem dX5_readNumber_21 : decode cX5_readNumber 21 = .ok (.aload_n 0, 1) := by decide +kernel
theorem dX5_readNumber_22 : decode cX5_readNumber 22 = .ok (.getfield 71, 3) := by decide +kernel
theorem dX5_readNumber_25 : decode cX5_readNumber 25 = .ok (.iload_n 2, 1) := by decide +kernel
theorem dX5_readNumber_26 : decode cX5_readNumber 26 = .ok (.if_icmp .gt 7, 3) := by decide +kernel
theorem dX5_readNumber_29 : decode cX5_readNumber 29 = .ok (.iconst 1, 1) := by decide +kernel
theorem dX5_readNumber_30 : decode cX5_readNumber 30 = .ok (.goto 4, 3) := by decide +kernel
theorem dX5_readNumber_33 : decode cX5_readNumber 33 = .ok (.iconst 0, 1) := by decide +kernel
theorem dX5_readNumber_34 : decode cX5_readNumber 34 = .ok (.ireturn, 1) := by decide +kernel
set_option maxRecDepth 20000 in
theorem ggX5_readSemicolon_X5_readToken : GoodIn wsX5_readSemicolon wsX5_readToken := goodIn_r _ [6, 7, 8, 9, 10, 1, 11, 12, 5, 13, 14, 15, 16, 17, 18, 19, 20, 21, 22, 23, 24, 25, 26, 27, 28, 29, 30] (by decide +kernel) (by decide +kernel)
set_option maxRecDepth 20000 in
theorem gX5_readSemicolon_X5_readToken : GoodIn wsX5_readSemicolon (wsV RX5 34 RX5 yX5_readToken wsX5_readToken) := goodIn_app (goodIn_of _ (by decide +kernel)) ggX5_readSemicolon_X5_readToken
theorem dX5_readSemicolon_0 : decode cX5_readSemicolon 0 = .ok (.aload_n 0, 1) := by decide +kernel
theorem dX5_readSemicolon_1 : decode cX5_readSemicolon 1 = .ok (.invokevirtual 34, 3) := by decide +kernel
theorem dX5_readSemicolon_4 : decode cX5_readSemicolon 4 = .ok (.aload_n 0, 1) := by decide +kernel
theorem dX5_readSemicolon_5 : decode cX5_readSemicolon 5 = .ok (.getfield 37, 3) := by decide +kernel
theorem dX5_readSemicolon_8 : decode cX5_readSemicolon 8 = .ok (.bipush 59, 2) := by decide +kernel
theorem dX5_readSemicolon_10 : decode cX5_readSemicolon 10 = .ok (.if_icmp .ne 7, 3) := by decide +kernel
theorem dX5_readSemicolon_13 : decode cX5_readSemicolon 13 = .ok (.iconst 1, 1) := by decide +kernel
theorem dX5_readSemicolon_14 : decode cX5_readSemicolon 14 = .ok (.goto 4, 3) := by decide +kernel
theorem dX5_readSemicolon_17 : decode cX5_readSemicolon 17 = .ok (.iconst 0, 1) := by decide +kernel
theorem dX5_readSemicolon_18 : decode cX5_readSemicolon 18 = .ok (.ireturn, 1) := by decide +kernel
set_option maxRecDepth 20000 in
theorem ggX5_readToken_X5_isDigit : GoodIn wsX5_readToken wsX5_isDigit := goodIn_r _ [9] (by decide +kernel) (by decide +kernel)
set_option maxRecDepth 20000 in
theorem gX5_readToken_X5_isDigit : GoodIn wsX5_readToken (va_wsS RX5 86 yX5_isDigit wsX5_isDigit) := goodIn_app (goodIn_of _ (by decide +kernel)) ggX5_readToken_X5_isDigit
set_option maxRecDepth 20000 in
theorem ggX5_readToken_X5_readDigits : GoodIn wsX5_readToken wsX5_readDigits := goodIn_r _ [13, 14, 1, 2, 3, 15, 16, 17, 18, 4, 5, 6, 7, 8, 9, 19, 20, 21, 22, 23, 24, 25, 26] (by decide +kernel) (by decide +kernel)
set_option maxRecDepth 20000 in
theorem gX5_readToken_X5_readDigits : GoodIn wsX5_readToken (wsV RX5 90 RX5 yX5_readDigits wsX5_readDigits) := goodIn_app (goodIn_of _ (by decide +kernel)) ggX5_readToken_X5_readDigits
theorem dX5_readToken_0 : decode cX5_readToken 0 = .ok (.aload_n 0, 1) := by decide +kernel
theorem dX5_readToken_1 : decode cX5_readToken 1 = .ok (.getfield 24, 3) := by decide +kernel
theorem dX5_readToken_4 : decode cX5_readToken 4 = .ok (.aload_n 0, 1) := by decide +kernel
theorem dX5_readToken_5 : decode cX5_readToken 5 = .ok (.getfield 15, 3) := by decide +kernel
theorem dX5_readToken_8 : decode cX5_readToken 8 = .ok (.if_icmp .ge 30, 3) := by decide +kernel
theorem dX5_readToken_11 : decode cX5_readToken 11 = .ok (.aload_n 0, 1) := by decide +kernel
theorem dX5_readToken_12 : decode cX5_readToken 12 = .ok (.getfield 9, 3) := by decide +kernel
theorem dX5_readToken_15 : decode cX5_readToken 15 = .ok (.aload_n 0, 1) := by decide +kernel
theorem dX5_readToken_16 : decode cX5_readToken 16 = .ok (.getfield 24, 3) := by decide +kernel
theorem dX5_readToken_19 : decode cX5_readToken 19 = .ok (.caload, 1) := by decide +kernel
theorem dX5_readToken_20 : decode cX5_readToken 20 = .ok (.bipush 32, 2) := by decide +kernel
theorem dX5_readToken_22 : decode cX5_readToken 22 = .ok (.if_icmp .ne 16, 3) := by decide +kernel
theorem dX5_readToken_25 : decode cX5_readToken 25 = .ok (.aload_n 0, 1) := by decide +kernel
theorem dX5_readToken_26 : decode cX5_readToken 26 = .ok (.dup, 1) := by decide +kernel
theorem dX5_readToken_27 : decode cX5_readToken 27 = .ok (.getfield 24, 3) := by decide +kernel
theorem dX5_readToken_30 : decode cX5_readToken 30 = .ok (.iconst 1, 1) := by decide +kernel
theorem dX5_readToken_31 : decode cX5_readToken 31 = .ok (.iadd, 1) := by decide +kernel
theorem dX5_readToken_32 : decode cX5_readToken 32 = .ok (.putfield 24, 3) := by decide +kernel
theorem dX5_readToken_35 : decode cX5_readToken 35 = .ok (.goto (-35), 3) := by decide +kernel
theorem dX5_readToken_38 : decode cX5_readToken 38 = .ok (.aload_n 0, 1) := by decide +kernel
theorem dX5_readToken_39 : decode cX5_readToken 39 = .ok (.aload_n 0, 1) := by decide +kernel
theorem dX5_readToken_40 : decode cX5_readToken 40 = .ok (.getfield 24, 3) := by decide +kernel
theorem dX5_readToken_43 : decode cX5_readToken 43 = .ok (.putfield 44, 3) := by decide +kernel
theorem dX5_readToken_46 : decode cX5_readToken 46 = .ok (.aload_n 0, 1) := by decide +kernel
theorem dX5_readToken_47 : decode cX5_readToken 47 = .ok (.getfield 24, 3) := by decide +kernel
theorem dX5_readToken_50 : decode cX5_readToken 50 = .ok (.aload_n 0, 1) := by decide +kernel
theorem dX5_readToken_51 : decode cX5_readToken 51 = .ok (.getfield 15, 3) := by decide +kernel
theorem dX5_readToken_54 : decode cX5_readToken 54 = .ok (.if_icmp .lt 11, 3) := by decide +kernel
theorem dX5_readToken_57 : decode cX5_readToken 57 = .ok (.aload_n 0, 1) := by decide +kernel
theorem dX5_readToken_58 : decode cX5_readToken 58 = .ok (.iconst (-1), 1) := by decide +kernel
theorem dX5_readToken_59 : decode cX5_readToken 59 = .ok (.putfield 37, 3) := by decide +kernel
theorem dX5_readToken_62 : decode cX5_readToken 62 = .ok (.goto 48, 3) := by decide +kernel
theorem dX5_readToken_65 : decode cX5_readToken 65 = .ok (.aload_n 0, 1) := by decide +kernel
theorem dX5_readToken_66 : decode cX5_readToken 66 = .ok (.getfield 9, 3) := by decide +kernel
theorem dX5_readToken_69 : decode cX5_readToken 69 = .ok (.aload_n 0, 1) := by decide +kernel
theorem dX5_readToken_70 : decode cX5_readToken 70 = .ok (.getfield 24, 3) := by decide +kernel
theorem dX5_readToken_73 : decode cX5_readToken 73 = .ok (.caload, 1) := by decide +kernel
theorem dX5_readToken_74 : decode cX5_readToken 74 = .ok (.invokestatic 86, 3) := by decide +kernel
theorem dX5_readToken_77 : decode cX5_readToken 77 = .ok (.ifCond .eq 10, 3) := by decide +kernel
theorem dX5_readToken_80 : decode cX5_readToken 80 = .ok (.aload_n 0, 1) := by decide +kernel
theorem dX5_readToken_81 : decode cX5_readToken 81 = .ok (.invokevirtual 90, 3) := by decide +kernel
theorem dX5_readToken_84 : decode cX5_readToken 84 = .ok (.goto 26, 3) := by decide +kernel
theorem dX5_readToken_87 : decode cX5_readToken 87 = .ok (.aload_n 0, 1) := by decide +kernel
theorem dX5_readToken_88 : decode cX5_readToken 88 = .ok (.aload_n 0, 1) := by decide +kernel
theorem dX5_readToken_89 : decode cX5_readToken 89 = .ok (.getfield 9, 3) := by decide +kernel
theorem dX5_readToken_92 : decode cX5_readToken 92 = .ok (.aload_n 0, 1) := by decide +kernel
theorem dX5_readToken_93 : decode cX5_readToken 93 = .ok (.getfield 24, 3) := by decide +kernel
theorem dX5_readToken_96 : decode cX5_readToken 96 = .ok (.caload, 1) := by decide +kernel
theorem dX5_readToken_97 : decode cX5_readToken 97 = .ok (.putfield 37, 3) := by decide +kernel
theorem dX5_readToken_100 : decode cX5_readToken 100 = .ok (.aload_n 0, 1) := by decide +kernel
theorem dX5_readToken_101 : decode cX5_readToken 101 = .ok (.dup, 1) := by decide +kernel
theorem dX5_readToken_102 : decode cX5_readToken 102 = .ok (.getfield 24, 3) := by decide +kernel
theorem dX5_readToken_105 : decode cX5_readToken 105 = .ok (.iconst 1, 1) := by decide +kernel
theorem dX5_readToken_106 : decode cX5_readToken 106 = .ok (.iadd, 1) := by decide +kernel
theorem dX5_readToken_107 : decode cX5_readToken 107 = .ok (.putfield 24, 3) := by decide +kernel
theorem dX5_readToken_110 : decode cX5_readToken 110 = .ok (.return_, 1) := by decide +kernel
set_option maxRecDepth 20000 in
theorem ggX5_readDigits_X5_isDigit : GoodIn wsX5_readDigits wsX5_isDigit := goodIn_r _ [14] (by decide +kernel) (by decide +kernel)
set_option maxRecDepth 20000 in
theorem gX5_readDigits_X5_isDigit : GoodIn wsX5_readDigits (va_wsS RX5 86 yX5_isDigit wsX5_isDigit) := goodIn_app (goodIn_of _ (by decide +kernel)) ggX5_readDigits_X5_isDigit
theorem dX5_readDigits_0 : decode cX5_readDigits 0 = .ok (.aload_n 0, 1) := by decide +kernel
theorem dX5_readDigits_1 : decode cX5_readDigits 1 = .ok (.iconst 0, 1) := by decide +kernel
theorem dX5_readDigits_2 : decode cX5_readDigits 2 = .ok (.putfield 71, 3) := by decide +kernel
theorem dX5_readDigits_5 : decode cX5_readDigits 5 = .ok (.aload_n 0, 1) := by decide +kernel
theorem dX5_readDigits_6 : decode cX5_readDigits 6 = .ok (.getfield 24, 3) := by decide +kernel
theorem dX5_readDigits_9 : decode cX5_readDigits 9 = .ok (.aload_n 0, 1) := by decide +kernel
theorem dX5_readDigits_10 : decode cX5_readDigits 10 = .ok (.getfield 15, 3) := by decide +kernel
theorem dX5_readDigits_13 : decode cX5_readDigits 13 = .ok (.if_icmp .ge 60, 3) := by decide +kernel
theorem dX5_readDigits_16 : decode cX5_readDigits 16 = .ok (.aload_n 0, 1) := by decide +kernel
theorem dX5_readDigits_17 : decode cX5_readDigits 17 = .ok (.getfield 9, 3) := by decide +kernel
theorem dX5_readDigits_20 : decode cX5_readDigits 20 = .ok (.aload_n 0, 1) := by decide +kernel
theorem dX5_readDigits_21 : decode cX5_readDigits 21 = .ok (.getfield 24, 3) := by decide +kernel
theorem dX5_readDigits_24 : decode cX5_readDigits 24 = .ok (.caload, 1) := by decide +kernel
theorem dX5_readDigits_25 : decode cX5_readDigits 25 = .ok (.invokestatic 86, 3) := by decide +kernel
theorem dX5_readDigits_28 : decode cX5_readDigits 28 = .ok (.ifCond .eq 45, 3) := by decide +kernel
theorem dX5_readDigits_31 : decode cX5_readDigits 31 = .ok (.aload_n 0, 1) := by decide +kernel
theorem dX5_readDigits_32 : decode cX5_readDigits 32 = .ok (.bipush 100, 2) := by decide +kernel
theorem dX5_readDigits_34 : decode cX5_readDigits 34 = .ok (.aload_n 0, 1) := by decide +kernel
theorem dX5_readDigits_35 : decode cX5_readDigits 35 = .ok (.getfield 71, 3) := by decide +kernel
theorem dX5_readDigits_38 : decode cX5_readDigits 38 = .ok (.bipush 10, 2) := by decide +kernel
theorem dX5_readDigits_40 : decode cX5_readDigits 40 = .ok (.imul, 1) := by decide +kernel
theorem dX5_readDigits_41 : decode cX5_readDigits 41 = .ok (.aload_n 0, 1) := by decide +kernel
theorem dX5_readDigits_42 : decode cX5_readDigits 42 = .ok (.getfield 9, 3) := by decide +kernel
theorem dX5_readDigits_45 : decode cX5_readDigits 45 = .ok (.aload_n 0, 1) := by decide +kernel
theorem dX5_readDigits_46 : decode cX5_readDigits 46 = .ok (.getfield 24, 3) := by decide +kernel
theorem dX5_readDigits_49 : decode cX5_readDigits 49 = .ok (.caload, 1) := by decide +kernel
theorem dX5_readDigits_50 : decode cX5_readDigits 50 = .ok (.bipush 48, 2) := by decide +kernel
theorem dX5_readDigits_52 : decode cX5_readDigits 52 = .ok (.isub, 1) := by decide +kernel
theorem dX5_readDigits_53 : decode cX5_readDigits 53 = .ok (.iadd, 1) := by decide +kernel
theorem dX5_readDigits_54 : decode cX5_readDigits 54 = .ok (.invokestatic 93, 3) := by decide +kernel
theorem dX5_readDigits_57 : decode cX5_readDigits 57 = .ok (.putfield 71, 3) := by decide +kernel
theorem dX5_readDigits_60 : decode cX5_readDigits 60 = .ok (.aload_n 0, 1) := by decide +kernel
theorem dX5_readDigits_61 : decode cX5_readDigits 61 = .ok (.dup, 1) := by decide +kernel
theorem dX5_readDigits_62 : decode cX5_readDigits 62 = .ok (.getfield 24, 3) := by decide +kernel
theorem dX5_readDigits_65 : decode cX5_readDigits 65 = .ok (.iconst 1, 1) := by decide +kernel
theorem dX5_readDigits_66 : decode cX5_readDigits 66 = .ok (.iadd, 1) := by decide +kernel
theorem dX5_readDigits_67 : decode cX5_readDigits 67 = .ok (.putfield 24, 3) := by decide +kernel
theorem dX5_readDigits_70 : decode cX5_readDigits 70 = .ok (.goto (-65), 3) := by decide +kernel
theorem dX5_readDigits_73 : decode cX5_readDigits 73 = .ok (.aload_n 0, 1) := by decide +kernel
theorem dX5_readDigits_74 : decode cX5_readDigits 74 = .ok (.getfield 9, 3) := by decide +kernel
theorem dX5_readDigits_77 : decode cX5_readDigits 77 = .ok (.aload_n 0, 1) := by decide +kernel
theorem dX5_readDigits_78 : decode cX5_readDigits 78 = .ok (.getfield 44, 3) := by decide +kernel
theorem dX5_readDigits_81 : decode cX5_readDigits 81 = .ok (.caload, 1) := by decide +kernel
theorem dX5_readDigits_82 : decode cX5_readDigits 82 = .ok (.bipush 48, 2) := by decide +kernel
theorem dX5_readDigits_84 : decode cX5_readDigits 84 = .ok (.if_icmp .ne 20, 3) := by decide +kernel
theorem dX5_readDigits_87 : decode cX5_readDigits 87 = .ok (.aload_n 0, 1) := by decide +kernel
theorem dX5_readDigits_88 : decode cX5_readDigits 88 = .ok (.getfield 24, 3) := by decide +kernel
theorem dX5_readDigits_91 : decode cX5_readDigits 91 = .ok (.aload_n 0, 1) := by decide +kernel
theorem dX5_readDigits_92 : decode cX5_readDigits 92 = .ok (.getfield 44, 3) := by decide +kernel
theorem dX5_readDigits_95 : decode cX5_readDigits 95 = .ok (.iconst 1, 1) := by decide +kernel
theorem dX5_readDigits_96 : decode cX5_readDigits 96 = .ok (.iadd, 1) := by decide +kernel
theorem dX5_readDigits_97 : decode cX5_readDigits 97 = .ok (.if_icmp .le 7, 3) := by decide +kernel
theorem dX5_readDigits_100 : decode cX5_readDigits 100 = .ok (.iconst 1, 1) := by decide +kernel
theorem dX5_readDigits_101 : decode cX5_readDigits 101 = .ok (.goto 4, 3) := by decide +kernel
theorem dX5_readDigits_104 : decode cX5_readDigits 104 = .ok (.iconst 0, 1) := by decide +kernel
theorem dX5_readDigits_105 : decode cX5_readDigits 105 = .ok (.istore_n 1, 1) := by decide +kernel
theorem dX5_readDigits_106 : decode cX5_readDigits 106 = .ok (.aload_n 0, 1) := by decide +kernel
theorem dX5_readDigits_107 : decode cX5_readDigits 107 = .ok (.iload_n 1, 1) := by decide +kernel
theorem dX5_readDigits_108 : decode cX5_readDigits 108 = .ok (.ifCond .eq 8, 3) := by decide +kernel
theorem dX5_readDigits_111 : decode cX5_readDigits 111 = .ok (.bipush (-3), 2) := by decide +kernel
theorem dX5_readDigits_113 : decode cX5_readDigits 113 = .ok (.goto 5, 3) := by decide +kernel
theorem dX5_readDigits_116 : decode cX5_readDigits 116 = .ok (.bipush (-2), 2) := by decide +kernel
theorem dX5_readDigits_118 : decode cX5_readDigits 118 = .ok (.putfield 37, 3) := by decide +kernel
theorem dX5_readDigits_121 : decode cX5_readDigits 121 = .ok (.return_, 1) := by decide +kernel
theorem dX5_isDigit_0 : decode cX5_isDigit 0 = .ok (.iload_n 0, 1) := by decide +kernel
theorem dX5_isDigit_1 : decode cX5_isDigit 1 = .ok (.bipush 48, 2) := by decide +kernel
theorem dX5_isDigit_3 : decode cX5_isDigit 3 = .ok (.if_icmp .lt 13, 3) := by decide +kernel
theorem dX5_isDigit_6 : decode cX5_isDigit 6 = .ok (.iload_n 0, 1) := by decide +kernel
theorem dX5_isDigit_7 : decode cX5_isDigit 7 = .ok (.bipush 57, 2) := by decide +kernel
theorem dX5_isDigit_9 : decode cX5_isDigit 9 = .ok (.if_icmp .gt 7, 3) := by decide +kernel
theorem dX5_isDigit_12 : decode cX5_isDigit 12 = .ok (.iconst 1, 1) := by decide +kernel
theorem dX5_isDigit_13 : decode cX5_isDigit 13 = .ok (.goto 4, 3) := by decide +kernel
theorem dX5_isDigit_16 : decode cX5_isDigit 16 = .ok (.iconst 0, 1) := by decide +kernel
theorem dX5_isDigit_17 : decode cX5_isDigit 17 = .ok (.ireturn, 1) := by decide +kernel
set_option maxRecDepth 20000 in
theorem ggX6_init_X6_beAsAtFirst : GoodIn wsX6_init wsX6_beAsAtFirst := goodIn_r _ [12, 13, 14, 15, 16, 17, 18, 19, 20, 21] (by decide +kernel) (by decide +kernel)
set_option maxRecDepth 20000 in
theorem gX6_init_X6_beAsAtFirst : GoodIn wsX6_init (wsV RX6 21 RX6 yX6_beAsAtFirst wsX6_beAsAtFirst) := goodIn_app (goodIn_of _ (by decide +kernel)) ggX6_init_X6_beAsAtFirst
theorem dX6_init_0 : decode cX6_init 0 = .ok (.aload_n 0, 1) := by decide +kernel
theorem dX6_init_1 : decode cX6_init 1 = .ok (.invokespecial 3, 3) := by decide +kernel
theorem dX6_init_4 : decode cX6_init 4 = .ok (.aload_n 0, 1) := by decide +kernel
theorem dX6_init_5 : decode cX6_init 5 = .ok (.bipush 6, 2) := by decide +kernel
theorem dX6_init_7 : decode cX6_init 7 = .ok (.newarray .int, 2) := by decide +kernel
theorem dX6_init_9 : decode cX6_init 9 = .ok (.putfield 9, 3) := by decide +kernel
theorem dX6_init_12 : decode cX6_init 12 = .ok (.aload_n 0, 1) := by decide +kernel
theorem dX6_init_13 : decode cX6_init 13 = .ok (.bipush 6, 2) := by decide +kernel
theorem dX6_init_15 : decode cX6_init 15 = .ok (.newarray .int, 2) := by decide +kernel
theorem dX6_init_17 : decode cX6_init 17 = .ok (.putfield 15, 3) := by decide +kernel
theorem dX6_init_20 : decode cX6_init 20 = .ok (.aload_n 0, 1) := by decide +kernel
theorem dX6_init_21 : decode cX6_init 21 = .ok (.bipush 6, 2) := by decide +kernel
theorem dX6_init_23 : decode cX6_init 23 = .ok (.newarray .int, 2) := by decide +kernel
theorem dX6_init_25 : decode cX6_init 25 = .ok (.putfield 18, 3) := by decide +kernel
theorem dX6_init_28 : decode cX6_init 28 = .ok (.aload_n 0, 1) := by decide +kernel
theorem dX6_init_29 : decode cX6_init 29 = .ok (.invokevirtual 21, 3) := by decide +kernel
theorem dX6_init_32 : decode cX6_init 32 = .ok (.return_, 1) := by decide +kernel
theorem dX6_beAsAtFirst_0 : decode cX6_beAsAtFirst 0 = .ok (.aload_n 0, 1) := by decide +kernel
theorem dX6_beAsAtFirst_1 : decode cX6_beAsAtFirst 1 = .ok (.iconst 0, 1) := by decide +kernel
theorem dX6_beAsAtFirst_2 : decode cX6_beAsAtFirst 2 = .ok (.putfield 24, 3) := by decide +kernel
theorem dX6_beAsAtFirst_5 : decode cX6_beAsAtFirst 5 = .ok (.aload_n 0, 1) := by decide +kernel
theorem dX6_beAsAtFirst_6 : decode cX6_beAsAtFirst 6 = .ok (.bipush 10, 2) := by decide +kernel
theorem dX6_beAsAtFirst_8 : decode cX6_beAsAtFirst 8 = .ok (.putfield 28, 3) := by decide +kernel
theorem dX6_beAsAtFirst_11 : decode cX6_beAsAtFirst 11 = .ok (.aload_n 0, 1) := by decide +kernel
theorem dX6_beAsAtFirst_12 : decode cX6_beAsAtFirst 12 = .ok (.bipush 10, 2) := by decide +kernel
theorem dX6_beAsAtFirst_14 : decode cX6_beAsAtFirst 14 = .ok (.putfield 31, 3) := by decide +kernel
theorem dX6_beAsAtFirst_17 : decode cX6_beAsAtFirst 17 = .ok (.return_, 1) := by decide +kernel
theorem dX6_become_0 : decode cX6_become 0 = .ok (.aload_n 0, 1) := by decide +kernel
theorem dX6_become_1 : decode cX6_become 1 = .ok (.aload_n 1, 1) := by decide +kernel
theorem dX6_become_2 : decode cX6_become 2 = .ok (.getfield 24, 3) := by decide +kernel
theorem dX6_become_5 : decode cX6_become 5 = .ok (.putfield 24, 3) := by decide +kernel
theorem dX6_become_8 : decode cX6_become 8 = .ok (.aload_n 0, 1) := by decide +kernel
theorem dX6_become_9 : decode cX6_become 9 = .ok (.aload_n 1, 1) := by decide +kernel
theorem dX6_become_10 : decode cX6_become 10 = .ok (.getfield 28, 3) := by decide +kernel
theorem dX6_become_13 : decode cX6_become 13 = .ok (.putfield 28, 3) := by decide +kernel
theorem dX6_become_16 : decode cX6_become 16 = .ok (.aload_n 0, 1) := by decide +kernel
theorem dX6_become_17 : decode cX6_become 17 = .ok (.aload_n 1, 1) := by decide +kernel
theorem dX6_become_18 : decode cX6_become 18 = .ok (.getfield 31, 3) := by decide +kernel
theorem dX6_become_21 : decode cX6_become 21 = .ok (.putfield 31, 3) := by decide +kernel
theorem dX6_become_24 : decode cX6_become 24 = .ok (.aload_n 1, 1) := by decide +kernel
theorem dX6_become_25 : decode cX6_become 25 = .ok (.getfield 9, 3) := by decide +kernel
theorem dX6_become_28 : decode cX6_become 28 = .ok (.iconst 0, 1) := by decide +kernel
theorem dX6_become_29 : decode cX6_become 29 = .ok (.aload_n 0, 1) := by decide +kernel
theorem dX6_become_30 : decode cX6_become 30 = .ok (.getfield 9, 3) := by decide +kernel
theorem dX6_become_33 : decode cX6_become 33 = .ok (.iconst 0, 1) := by decide +kernel
theorem dX6_become_34 : decode cX6_become 34 = .ok (.bipush 6, 2) := by decide +kernel
theorem dX6_become_36 : decode cX6_become 36 = .ok (.invokestatic 34, 3) := by decide +kernel
theorem dX6_become_39 : decode cX6_become 39 = .ok (.aload_n 1, 1) := by decide +kernel
theorem dX6_become_40 : decode cX6_become 40 = .ok (.getfield 15, 3) := by decide +kernel
theorem dX6_become_43 : decode cX6_become 43 = .ok (.iconst 0, 1) := by decide +kernel
theorem dX6_become_44 : decode cX6_become 44 = .ok (.aload_n 0, 1) := by decide +kernel
theorem dX6_become_45 : decode cX6_become 45 = .ok (.getfield 15, 3) := by decide +kernel
theorem dX6_become_48 : decode cX6_become 48 = .ok (.iconst 0, 1) := by decide +kernel
theorem dX6_become_49 : decode cX6_become 49 = .ok (.bipush 6, 2) := by decide +kernel
theorem dX6_become_51 : decode cX6_become 51 = .ok (.invokestatic 34, 3) := by decide +kernel
theorem dX6_become_54 : decode cX6_become 54 = .ok (.aload_n 1, 1) := by decide +kernel
theorem dX6_become_55 : decode cX6_become 55 = .ok (.getfield 18, 3) := by decide +kernel
theorem dX6_become_58 : decode cX6_become 58 = .ok (.iconst 0, 1) := by decide +kernel
theorem dX6_become_59 : decode cX6_become 59 = .ok (.aload_n 0, 1) := by decide +kernel
theorem dX6_become_60 : decode cX6_become 60 = .ok (.getfield 18, 3) := by decide +kernel
theorem dX6_become_63 : decode cX6_become 63 = .ok (.iconst 0, 1) := by decide +kernel
theorem dX6_become_64 : decode cX6_become 64 = .ok (.bipush 6, 2) := by decide +kernel
theorem dX6_become_66 : decode cX6_become 66 = .ok (.invokestatic 34, 3) := by decide +kernel
theorem dX6_become_69 : decode cX6_become 69 = .ok (.return_, 1) := by decide +kernel
set_option maxRecDepth 20000 in
theorem ggX7_init_X5_init : GoodIn wsX7_init wsX5_init := goodIn_r _ [35, 36, 2, 3, 37, 38, 98, 99, 100, 101, 102, 103, 104, 105] (by decide +kernel) (by decide +kernel)
set_option maxRecDepth 20000 in
theorem gX7_init_X5_init_n9 : GoodIn wsX7_init (wsX5_init) := ggX7_init_X5_init
set_option maxRecDepth 20000 in
theorem ggX7_init_X6_init : GoodIn wsX7_init wsX6_init := goodIn_r _ [41, 42, 2, 3, 43, 44, 45, 46, 47, 48, 49, 10, 50, 51, 52, 53, 115, 116, 117, 118, 119, 120] (by decide +kernel) (by decide +kernel)
set_option maxRecDepth 20000 in
theorem gX7_init_X6_init : GoodIn wsX7_init (wsX6_init) := ggX7_init_X6_init
set_option maxRecDepth 20000 in
theorem ggX7_init_X3_init : GoodIn wsX7_init wsX3_init := goodIn_r _ [56, 57, 2, 3, 58, 9, 10, 59, 43, 60, 61, 62, 40, 41, 42, 44, 45, 46, 47, 48, 49, 50, 51, 52, 53, 63, 64, 65, 14, 66, 67, 68, 69, 70, 71, 115, 116, 117, 118, 119, 120, 121, 122, 123, 124, 125, 126] (by decide +kernel) (by decide +kernel)
set_option maxRecDepth 20000 in
theorem gX7_init_X3_init : GoodIn wsX7_init (wsX3_init) := ggX7_init_X3_init
set_option maxRecDepth 20000 in
theorem ggX7_init_X4_init : GoodIn wsX7_init wsX4_init := goodIn_r _ [73, 74, 2, 3, 75, 21, 22, 76, 77, 78, 79, 80, 81, 82, 83, 84, 85, 43, 86, 130, 131, 127, 128, 129] (by decide +kernel) (by decide +kernel)
set_option maxRecDepth 20000 in
theorem gX7_init_X4_init_n32 : GoodIn wsX7_init (wsX4_init) := ggX7_init_X4_init
set_option maxRecDepth 20000 in
theorem ggX7_init_X0_init : GoodIn wsX7_init wsX0_init := goodIn_r _ [79, 80, 2, 3, 81, 82, 83, 84, 85, 43, 86, 130, 131] (by decide +kernel) (by decide +kernel)
set_option maxRecDepth 20000 in
theorem gX7_init_X0_init : GoodIn wsX7_init (wsX0_init) := ggX7_init_X0_init
set_option maxRecDepth 20000 in
theorem ggX7_init_X1_init : GoodIn wsX7_init wsX1_init := goodIn_r _ [89, 90, 2, 3, 43, 91, 92, 132, 133, 134] (by decide +kernel) (by decide +kernel)
set_option maxRecDepth 20000 in
theorem gX7_init_X1_init_n52 : GoodIn wsX7_init (wsX1_init) := ggX7_init_X1_init
set_option maxRecDepth 20000 in
theorem ggX7_init_X2_init : GoodIn wsX7_init wsX2_init := goodIn_r _ [94, 95, 2, 3, 43, 96, 97, 135, 136] (by decide +kernel) (by decide +kernel)
set_option maxRecDepth 20000 in
theorem gX7_init_X2_init_n59 : GoodIn wsX7_init (wsX2_init) := ggX7_init_X2_init
theorem dX7_init_0 : decode cX7_init 0 = .ok (.aload_n 0, 1) := by decide +kernel
theorem dX7_init_1 : decode cX7_init 1 = .ok (.invokespecial 1, 3) := by decide +kernel
theorem dX7_init_4 : decode cX7_init 4 = .ok (.aload_n 0, 1) := by decide +kernel
theorem dX7_init_5 : decode cX7_init 5 = .ok (.new 7, 3) := by decide +kernel
theorem dX7_init_8 : decode cX7_init 8 = .ok (.dup, 1) := by decide +kernel
theorem dX7_init_9 : decode cX7_init 9 = .ok (.invokespecial 9, 3) := by decide +kernel
theorem dX7_init_12 : decode cX7_init 12 = .ok (.putfield 10, 3) := by decide +kernel
theorem dX7_init_15 : decode cX7_init 15 = .ok (.aload_n 0, 1) := by decide +kernel
theorem dX7_init_16 : decode cX7_init 16 = .ok (.new 16, 3) := by decide +kernel
theorem dX7_init_19 : decode cX7_init 19 = .ok (.dup, 1) := by decide +kernel
theorem dX7_init_20 : decode cX7_init 20 = .ok (.invokespecial 18, 3) := by decide +kernel
theorem dX7_init_23 : decode cX7_init 23 = .ok (.putfield 19, 3) := by decide +kernel
theorem dX7_init_26 : decode cX7_init 26 = .ok (.aload_n 0, 1) := by decide +kernel
theorem dX7_init_27 : decode cX7_init 27 = .ok (.new 23, 3) := by decide +kernel
theorem dX7_init_30 : decode cX7_init 30 = .ok (.dup, 1) := by decide +kernel
theorem dX7_init_31 : decode cX7_init 31 = .ok (.invokespecial 25, 3) := by decide +kernel
theorem dX7_init_34 : decode cX7_init 34 = .ok (.putfield 26, 3) := by decide +kernel
theorem dX7_init_37 : decode cX7_init 37 = .ok (.aload_n 0, 1) := by decide +kernel
theorem dX7_init_38 : decode cX7_init 38 = .ok (.new 30, 3) := by decide +kernel
theorem dX7_init_41 : decode cX7_init 41 = .ok (.dup, 1) := by decide +kernel
theorem dX7_init_42 : decode cX7_init 42 = .ok (.invokespecial 32, 3) := by decide +kernel
theorem dX7_init_45 : decode cX7_init 45 = .ok (.putfield 33, 3) := by decide +kernel
theorem dX7_init_48 : decode cX7_init 48 = .ok (.aload_n 0, 1) := by decide +kernel
theorem dX7_init_49 : decode cX7_init 49 = .ok (.new 37, 3) := by decide +kernel
theorem dX7_init_52 : decode cX7_init 52 = .ok (.dup, 1) := by decide +kernel
theorem dX7_init_53 : decode cX7_init 53 = .ok (.iconst 2, 1) := by decide +kernel
theorem dX7_init_54 : decode cX7_init 54 = .ok (.invokespecial 39, 3) := by decide +kernel
theorem dX7_init_57 : decode cX7_init 57 = .ok (.putfield 42, 3) := by decide +kernel
theorem dX7_init_60 : decode cX7_init 60 = .ok (.aload_n 0, 1) := by decide +kernel
