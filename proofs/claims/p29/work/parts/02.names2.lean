set_option maxRecDepth 20000 in
theorem ggX0_init_X1_init : GoodIn wsX0_init wsX1_init := goodIn_r _ [14, 15, 2, 3, 16, 17, 18, 19] (by decide +kernel) (by decide +kernel)
set_option maxRecDepth 20000 in
theorem gX0_init_X1_init_n11 : GoodIn wsX0_init (wsX1_init) := ggX0_init_X1_init
theorem dX0_init_0 : decode cX0_init 0 = .ok (.aload_n 0, 1) := by decide +kernel
theorem dX0_init_1 : decode cX0_init 1 = .ok (.invokespecial 3, 3) := by decide +kernel
theorem dX0_init_4 : decode cX0_init 4 = .ok (.aload_n 0, 1) := by decide +kernel
theorem dX0_init_5 : decode cX0_init 5 = .ok (.new 9, 3) := by decide +kernel
theorem dX0_init_8 : decode cX0_init 8 = .ok (.dup, 1) := by decide +kernel
theorem dX0_init_9 : decode cX0_init 9 = .ok (.invokespecial 11, 3) := by decide +kernel
theorem dX0_init_12 : decode cX0_init 12 = .ok (.putfield 12, 3) := by decide +kernel
theorem dX0_init_15 : decode cX0_init 15 = .ok (.aload_n 0, 1) := by decide +kernel
theorem dX0_init_16 : decode cX0_init 16 = .ok (.new 9, 3) := by decide +kernel
theorem dX0_init_19 : decode cX0_init 19 = .ok (.dup, 1) := by decide +kernel
theorem dX0_init_20 : decode cX0_init 20 = .ok (.invokespecial 11, 3) := by decide +kernel
theorem dX0_init_23 : decode cX0_init 23 = .ok (.putfield 18, 3) := by decide +kernel
theorem dX0_init_26 : decode cX0_init 26 = .ok (.aload_n 0, 1) := by decide +kernel
theorem dX0_init_27 : decode cX0_init 27 = .ok (.new 9, 3) := by decide +kernel
theorem dX0_init_30 : decode cX0_init 30 = .ok (.dup, 1) := by decide +kernel
theorem dX0_init_31 : decode cX0_init 31 = .ok (.invokespecial 11, 3) := by decide +kernel
theorem dX0_init_34 : decode cX0_init 34 = .ok (.putfield 21, 3) := by decide +kernel
theorem dX0_init_37 : decode cX0_init 37 = .ok (.aload_n 0, 1) := by decide +kernel
theorem dX0_init_38 : decode cX0_init 38 = .ok (.new 9, 3) := by decide +kernel
theorem dX0_init_41 : decode cX0_init 41 = .ok (.dup, 1) := by decide +kernel
theorem dX0_init_42 : decode cX0_init 42 = .ok (.invokespecial 11, 3) := by decide +kernel
theorem dX0_init_45 : decode cX0_init 45 = .ok (.putfield 24, 3) := by decide +kernel
theorem dX0_init_48 : decode cX0_init 48 = .ok (.aload_n 0, 1) := by decide +kernel
theorem dX0_init_49 : decode cX0_init 49 = .ok (.bipush 8, 2) := by decide +kernel
theorem dX0_init_51 : decode cX0_init 51 = .ok (.putfield 27, 3) := by decide +kernel
theorem dX0_init_54 : decode cX0_init 54 = .ok (.aload_n 0, 1) := by decide +kernel
theorem dX0_init_55 : decode cX0_init 55 = .ok (.iconst (-1), 1) := by decide +kernel
theorem dX0_init_56 : decode cX0_init 56 = .ok (.putfield 31, 3) := by decide +kernel
theorem dX0_init_59 : decode cX0_init 59 = .ok (.return_, 1) := by decide +kernel
set_option maxRecDepth 20000 in
theorem ggX0_startAnew_X0_forgetAll : GoodIn wsX0_startAnew wsX0_forgetAll := goodIn_r _ [10, 11, 12, 13, 14, 15, 16, 17, 18, 9, 19, 20, 21, 22, 23, 24, 25, 26, 27, 28, 29, 30, 31, 32, 33, 34, 35, 36, 37, 38, 39, 40, 41] (by decide +kernel) (by decide +kernel)
set_option maxRecDepth 20000 in
theorem gX0_startAnew_X0_forgetAll : GoodIn wsX0_startAnew (wsV RX0 34 RX0 yX0_forgetAll wsX0_forgetAll) := goodIn_app (goodIn_of _ (by decide +kernel)) ggX0_startAnew_X0_forgetAll
theorem dX0_startAnew_0 : decode cX0_startAnew 0 = .ok (.aload_n 0, 1) := by decide +kernel
theorem dX0_startAnew_1 : decode cX0_startAnew 1 = .ok (.invokevirtual 34, 3) := by decide +kernel
theorem dX0_startAnew_4 : decode cX0_startAnew 4 = .ok (.pop, 1) := by decide +kernel
theorem dX0_startAnew_5 : decode cX0_startAnew 5 = .ok (.aload_n 0, 1) := by decide +kernel
theorem dX0_startAnew_6 : decode cX0_startAnew 6 = .ok (.iload_n 1, 1) := by decide +kernel
theorem dX0_startAnew_7 : decode cX0_startAnew 7 = .ok (.putfield 27, 3) := by decide +kernel
theorem dX0_startAnew_10 : decode cX0_startAnew 10 = .ok (.aload_n 0, 1) := by decide +kernel
theorem dX0_startAnew_11 : decode cX0_startAnew 11 = .ok (.iload_n 2, 1) := by decide +kernel
theorem dX0_startAnew_12 : decode cX0_startAnew 12 = .ok (.putfield 38, 3) := by decide +kernel
theorem dX0_startAnew_15 : decode cX0_startAnew 15 = .ok (.aload_n 0, 1) := by decide +kernel
theorem dX0_startAnew_16 : decode cX0_startAnew 16 = .ok (.iconst 0, 1) := by decide +kernel
theorem dX0_startAnew_17 : decode cX0_startAnew 17 = .ok (.putfield 41, 3) := by decide +kernel
theorem dX0_startAnew_20 : decode cX0_startAnew 20 = .ok (.aload_n 0, 1) := by decide +kernel
theorem dX0_startAnew_21 : decode cX0_startAnew 21 = .ok (.iconst (-1), 1) := by decide +kernel
theorem dX0_startAnew_22 : decode cX0_startAnew 22 = .ok (.putfield 31, 3) := by decide +kernel
theorem dX0_startAnew_25 : decode cX0_startAnew 25 = .ok (.aload_n 0, 1) := by decide +kernel
theorem dX0_startAnew_26 : decode cX0_startAnew 26 = .ok (.iconst 0, 1) := by decide +kernel
theorem dX0_startAnew_27 : decode cX0_startAnew 27 = .ok (.putfield 44, 3) := by decide +kernel
theorem dX0_startAnew_30 : decode cX0_startAnew 30 = .ok (.return_, 1) := by decide +kernel
set_option maxRecDepth 20000 in
theorem ggX0_pages_X1_length : GoodIn wsX0_pages wsX1_length := goodIn_r _ [7, 8, 19, 20] (by decide +kernel) (by decide +kernel)
set_option maxRecDepth 20000 in
theorem gX0_pages_X1_length : GoodIn wsX0_pages (wsV RX0 47 RX1 yX1_length wsX1_length) := goodIn_app (goodIn_of _ (by decide +kernel)) ggX0_pages_X1_length
theorem dX0_pages_0 : decode cX0_pages 0 = .ok (.aload_n 0, 1) := by decide +kernel
theorem dX0_pages_1 : decode cX0_pages 1 = .ok (.getfield 12, 3) := by decide +kernel
theorem dX0_pages_4 : decode cX0_pages 4 = .ok (.invokevirtual 47, 3) := by decide +kernel
theorem dX0_pages_7 : decode cX0_pages 7 = .ok (.aload_n 0, 1) := by decide +kernel
theorem dX0_pages_8 : decode cX0_pages 8 = .ok (.getfield 18, 3) := by decide +kernel
theorem dX0_pages_11 : decode cX0_pages 11 = .ok (.invokevirtual 47, 3) := by decide +kernel
theorem dX0_pages_14 : decode cX0_pages 14 = .ok (.iadd, 1) := by decide +kernel
theorem dX0_pages_15 : decode cX0_pages 15 = .ok (.ireturn, 1) := by decide +kernel
set_option maxRecDepth 20000 in
theorem ggX0_listWith_X1_holds : GoodIn wsX0_listWith wsX1_holds := goodIn_r _ [9, 10, 11, 12, 8, 13, 14, 15, 26, 27] (by decide +kernel) (by decide +kernel)
set_option maxRecDepth 20000 in
theorem gX0_listWith_X1_holds : GoodIn wsX0_listWith (wsV RX0 50 RX1 yX1_holds wsX1_holds) := goodIn_app (goodIn_of _ (by decide +kernel)) ggX0_listWith_X1_holds
theorem dX0_listWith_0 : decode cX0_listWith 0 = .ok (.aload_n 0, 1) := by decide +kernel
theorem dX0_listWith_1 : decode cX0_listWith 1 = .ok (.getfield 12, 3) := by decide +kernel
theorem dX0_listWith_4 : decode cX0_listWith 4 = .ok (.iload_n 1, 1) := by decide +kernel
theorem dX0_listWith_5 : decode cX0_listWith 5 = .ok (.invokevirtual 50, 3) := by decide +kernel
theorem dX0_listWith_8 : decode cX0_listWith 8 = .ok (.ifCond .eq 5, 3) := by decide +kernel
theorem dX0_listWith_11 : decode cX0_listWith 11 = .ok (.iconst 1, 1) := by decide +kernel
theorem dX0_listWith_12 : decode cX0_listWith 12 = .ok (.ireturn, 1) := by decide +kernel
theorem dX0_listWith_13 : decode cX0_listWith 13 = .ok (.aload_n 0, 1) := by decide +kernel
theorem dX0_listWith_14 : decode cX0_listWith 14 = .ok (.getfield 18, 3) := by decide +kernel
theorem dX0_listWith_17 : decode cX0_listWith 17 = .ok (.iload_n 1, 1) := by decide +kernel
theorem dX0_listWith_18 : decode cX0_listWith 18 = .ok (.invokevirtual 50, 3) := by decide +kernel
theorem dX0_listWith_21 : decode cX0_listWith 21 = .ok (.ifCond .eq 5, 3) := by decide +kernel
theorem dX0_listWith_24 : decode cX0_listWith 24 = .ok (.iconst 2, 1) := by decide +kernel
theorem dX0_listWith_25 : decode cX0_listWith 25 = .ok (.ireturn, 1) := by decide +kernel
theorem dX0_listWith_26 : decode cX0_listWith 26 = .ok (.aload_n 0, 1) := by decide +kernel
theorem dX0_listWith_27 : decode cX0_listWith 27 = .ok (.getfield 21, 3) := by decide +kernel
theorem dX0_listWith_30 : decode cX0_listWith 30 = .ok (.iload_n 1, 1) := by decide +kernel
theorem dX0_listWith_31 : decode cX0_listWith 31 = .ok (.invokevirtual 50, 3) := by decide +kernel
theorem dX0_listWith_34 : decode cX0_listWith 34 = .ok (.ifCond .eq 5, 3) := by decide +kernel
theorem dX0_listWith_37 : decode cX0_listWith 37 = .ok (.iconst 3, 1) := by decide +kernel
theorem dX0_listWith_38 : decode cX0_listWith 38 = .ok (.ireturn, 1) := by decide +kernel
theorem dX0_listWith_39 : decode cX0_listWith 39 = .ok (.aload_n 0, 1) := by decide +kernel
theorem dX0_listWith_40 : decode cX0_listWith 40 = .ok (.getfield 24, 3) := by decide +kernel
theorem dX0_listWith_43 : decode cX0_listWith 43 = .ok (.iload_n 1, 1) := by decide +kernel
theorem dX0_listWith_44 : decode cX0_listWith 44 = .ok (.invokevirtual 50, 3) := by decide +kernel
theorem dX0_listWith_47 : decode cX0_listWith 47 = .ok (.ifCond .eq 7, 3) := by decide +kernel
theorem dX0_listWith_50 : decode cX0_listWith 50 = .ok (.iconst 4, 1) := by decide +kernel
theorem dX0_listWith_51 : decode cX0_listWith 51 = .ok (.goto 4, 3) := by decide +kernel
theorem dX0_listWith_54 : decode cX0_listWith 54 = .ok (.iconst 0, 1) := by decide +kernel
theorem dX0_listWith_55 : decode cX0_listWith 55 = .ok (.ireturn, 1) := by decide +kernel
set_option maxRecDepth 20000 in
theorem ggX0_forget_X0_listWith : GoodIn wsX0_forget wsX0_listWith := goodIn_r _ [5, 6, 7, 8, 9, 10, 11, 12, 13, 14, 15, 16, 17, 18, 19, 20, 33, 34, 35, 36, 37, 38, 39, 40, 41, 42, 43, 44] (by decide +kernel) (by decide +kernel)
set_option maxRecDepth 20000 in
theorem gX0_forget_X0_listWith : GoodIn wsX0_forget (wsV RX0 54 RX0 yX0_listWith wsX0_listWith) := goodIn_app (goodIn_of _ (by decide +kernel)) ggX0_forget_X0_listWith
set_option maxRecDepth 20000 in
theorem ggX0_forget_X0_takeFrom : GoodIn wsX0_forget wsX0_takeFrom := goodIn_r _ [24, 6, 7, 8, 9, 25, 26, 27, 13, 28, 15, 16, 17, 18, 19, 20, 29, 30, 31, 32, 33, 34, 35, 36, 37, 38, 39, 40, 41, 42, 43, 44] (by decide +kernel) (by decide +kernel)
set_option maxRecDepth 20000 in
theorem gX0_forget_X0_takeFrom : GoodIn wsX0_forget (wsV RX0 58 RX0 yX0_takeFrom wsX0_takeFrom) := goodIn_app (goodIn_of _ (by decide +kernel)) ggX0_forget_X0_takeFrom
theorem dX0_forget_0 : decode cX0_forget 0 = .ok (.aload_n 0, 1) := by decide +kernel
theorem dX0_forget_1 : decode cX0_forget 1 = .ok (.iload_n 1, 1) := by decide +kernel
theorem dX0_forget_2 : decode cX0_forget 2 = .ok (.invokevirtual 54, 3) := by decide +kernel
theorem dX0_forget_5 : decode cX0_forget 5 = .ok (.istore_n 2, 1) := by decide +kernel
theorem dX0_forget_6 : decode cX0_forget 6 = .ok (.aload_n 0, 1) := by decide +kernel
theorem dX0_forget_7 : decode cX0_forget 7 = .ok (.iload_n 2, 1) := by decide +kernel
theorem dX0_forget_8 : decode cX0_forget 8 = .ok (.iload_n 1, 1) := by decide +kernel
theorem dX0_forget_9 : decode cX0_forget 9 = .ok (.invokevirtual 58, 3) := by decide +kernel
theorem dX0_forget_12 : decode cX0_forget 12 = .ok (.iload_n 2, 1) := by decide +kernel
theorem dX0_forget_13 : decode cX0_forget 13 = .ok (.ireturn, 1) := by decide +kernel
set_option maxRecDepth 20000 in
theorem ggX0_forgetAll_X0_pages : GoodIn wsX0_forgetAll wsX0_pages := goodIn_r _ [10, 1, 2, 11, 12, 13, 14, 15, 16, 21, 22, 23, 24, 25, 26, 27, 28, 29, 30, 31, 32] (by decide +kernel) (by decide +kernel)
set_option maxRecDepth 20000 in
theorem gX0_forgetAll_X0_pages : GoodIn wsX0_forgetAll (wsV RX0 62 RX0 yX0_pages wsX0_pages) := goodIn_app (goodIn_of _ (by decide +kernel)) ggX0_forgetAll_X0_pages
set_option maxRecDepth 20000 in
theorem ggX0_forgetAll_X1_empty : GoodIn wsX0_forgetAll wsX1_empty := goodIn_r _ [20, 16, 31, 32] (by decide +kernel) (by decide +kernel)
set_option maxRecDepth 20000 in
theorem gX0_forgetAll_X1_empty : GoodIn wsX0_forgetAll (wsV RX0 65 RX1 yX1_empty wsX1_empty) := goodIn_app (goodIn_of _ (by decide +kernel)) ggX0_forgetAll_X1_empty
theorem dX0_forgetAll_0 : decode cX0_forgetAll 0 = .ok (.aload_n 0, 1) := by decide +kernel
theorem dX0_forgetAll_1 : decode cX0_forgetAll 1 = .ok (.invokevirtual 62, 3) := by decide +kernel
theorem dX0_forgetAll_4 : decode cX0_forgetAll 4 = .ok (.istore_n 1, 1) := by decide +kernel
theorem dX0_forgetAll_5 : decode cX0_forgetAll 5 = .ok (.aload_n 0, 1) := by decide +kernel
theorem dX0_forgetAll_6 : decode cX0_forgetAll 6 = .ok (.getfield 12, 3) := by decide +kernel
theorem dX0_forgetAll_9 : decode cX0_forgetAll 9 = .ok (.invokevirtual 65, 3) := by decide +kernel
theorem dX0_forgetAll_12 : decode cX0_forgetAll 12 = .ok (.aload_n 0, 1) := by decide +kernel
theorem dX0_forgetAll_13 : decode cX0_forgetAll 13 = .ok (.getfield 18, 3) := by decide +kernel
theorem dX0_forgetAll_16 : decode cX0_forgetAll 16 = .ok (.invokevirtual 65, 3) := by decide +kernel
theorem dX0_forgetAll_19 : decode cX0_forgetAll 19 = .ok (.aload_n 0, 1) := by decide +kernel
theorem dX0_forgetAll_20 : decode cX0_forgetAll 20 = .ok (.getfield 21, 3) := by decide +kernel
theorem dX0_forgetAll_23 : decode cX0_forgetAll 23 = .ok (.invokevirtual 65, 3) := by decide +kernel
theorem dX0_forgetAll_26 : decode cX0_forgetAll 26 = .ok (.aload_n 0, 1) := by decide +kernel
theorem dX0_forgetAll_27 : decode cX0_forgetAll 27 = .ok (.getfield 24, 3) := by decide +kernel
theorem dX0_forgetAll_30 : decode cX0_forgetAll 30 = .ok (.invokevirtual 65, 3) := by decide +kernel
theorem dX0_forgetAll_33 : decode cX0_forgetAll 33 = .ok (.aload_n 0, 1) := by decide +kernel
theorem dX0_forgetAll_34 : decode cX0_forgetAll 34 = .ok (.iconst 0, 1) := by decide +kernel
theorem dX0_forgetAll_35 : decode cX0_forgetAll 35 = .ok (.putfield 68, 3) := by decide +kernel
theorem dX0_forgetAll_38 : decode cX0_forgetAll 38 = .ok (.iload_n 1, 1) := by decide +kernel
theorem dX0_forgetAll_39 : decode cX0_forgetAll 39 = .ok (.ireturn, 1) := by decide +kernel
set_option maxRecDepth 20000 in
theorem ggX0_changeCapacity_X0_pages : GoodIn wsX0_changeCapacity wsX0_pages := goodIn_r _ [16, 17, 18, 19, 20, 21, 22, 23, 24, 59, 60, 61, 62, 63, 64, 65, 66, 67, 68, 69, 70] (by decide +kernel) (by decide +kernel)
set_option maxRecDepth 20000 in
theorem gX0_changeCapacity_X0_pages : GoodIn wsX0_changeCapacity (wsV RX0 62 RX0 yX0_pages wsX0_pages) := goodIn_app (goodIn_of _ (by decide +kernel)) ggX0_changeCapacity_X0_pages
set_option maxRecDepth 20000 in
theorem ggX0_changeCapacity_X0_evict : GoodIn wsX0_changeCapacity wsX0_evict := goodIn_r _ [28, 10, 17, 11, 18, 29, 30, 31, 32, 15, 33, 2, 19, 20, 21, 22, 23, 24, 34, 35, 36, 37, 38, 39, 40, 41, 42, 43, 44, 45, 46, 47, 48, 49, 50, 59, 60, 61, 62, 63, 64, 65, 66, 67, 68, 69, 70] (by decide +kernel) (by decide +kernel)
set_option maxRecDepth 20000 in
theorem gX0_changeCapacity_X0_evict : GoodIn wsX0_changeCapacity (wsV RX0 80 RX0 yX0_evict wsX0_evict) := goodIn_app (goodIn_of _ (by decide +kernel)) ggX0_changeCapacity_X0_evict
set_option maxRecDepth 20000 in
theorem ggX0_changeCapacity_X0_recentAndGhosts : GoodIn wsX0_changeCapacity wsX0_recentAndGhosts := goodIn_r _ [54, 17, 10, 19, 20, 21, 22, 23, 24, 59, 60, 61, 62, 63, 64, 65, 66, 67, 68, 69, 70] (by decide +kernel) (by decide +kernel)
set_option maxRecDepth 20000 in
theorem gX0_changeCapacity_X0_recentAndGhosts : GoodIn wsX0_changeCapacity (wsV RX0 84 RX0 yX0_recentAndGhosts wsX0_recentAndGhosts) := goodIn_app (goodIn_of _ (by decide +kernel)) ggX0_changeCapacity_X0_recentAndGhosts
set_option maxRecDepth 20000 in
theorem ggX0_changeCapacity_X1_takeOldest : GoodIn wsX0_changeCapacity wsX1_takeOldest := goodIn_r _ [37, 38, 39, 40, 22, 41, 24, 42, 43, 44, 45, 46, 69, 70] (by decide +kernel) (by decide +kernel)
set_option maxRecDepth 20000 in
theorem gX0_changeCapacity_X1_takeOldest : GoodIn wsX0_changeCapacity (wsV RX0 87 RX1 yX1_takeOldest wsX1_takeOldest) := goodIn_app (goodIn_of _ (by decide +kernel)) ggX0_changeCapacity_X1_takeOldest
set_option maxRecDepth 20000 in
theorem ggX0_changeCapacity_X0_keysInAll : GoodIn wsX0_changeCapacity wsX0_keysInAll := goodIn_r _ [58, 10, 11, 12, 13, 14, 15, 16, 17, 18, 19, 20, 21, 22, 23, 24, 59, 60, 61, 62, 63, 64, 65, 66, 67, 68, 69, 70] (by decide +kernel) (by decide +kernel)
set_option maxRecDepth 20000 in
theorem gX0_changeCapacity_X0_keysInAll : GoodIn wsX0_changeCapacity (wsV RX0 90 RX0 yX0_keysInAll wsX0_keysInAll) := goodIn_app (goodIn_of _ (by decide +kernel)) ggX0_changeCapacity_X0_keysInAll
theorem dX0_changeCapacity_0 : decode cX0_changeCapacity 0 = .ok (.aload_n 0, 1) := by decide +kernel
theorem dX0_changeCapacity_1 : decode cX0_changeCapacity 1 = .ok (.iload_n 1, 1) := by decide +kernel
theorem dX0_changeCapacity_2 : decode cX0_changeCapacity 2 = .ok (.putfield 27, 3) := by decide +kernel
theorem dX0_changeCapacity_5 : decode cX0_changeCapacity 5 = .ok (.aload_n 0, 1) := by decide +kernel
theorem dX0_changeCapacity_6 : decode cX0_changeCapacity 6 = .ok (.aload_n 0, 1) := by decide +kernel
theorem dX0_changeCapacity_7 : decode cX0_changeCapacity 7 = .ok (.getfield 68, 3) := by decide +kernel
theorem dX0_changeCapacity_10 : decode cX0_changeCapacity 10 = .ok (.aload_n 0, 1) := by decide +kernel
theorem dX0_changeCapacity_11 : decode cX0_changeCapacity 11 = .ok (.getfield 27, 3) := by decide +kernel
theorem dX0_changeCapacity_14 : decode cX0_changeCapacity 14 = .ok (.invokestatic 71, 3) := by decide +kernel
theorem dX0_changeCapacity_17 : decode cX0_changeCapacity 17 = .ok (.putfield 68, 3) := by decide +kernel
theorem dX0_changeCapacity_20 : decode cX0_changeCapacity 20 = .ok (.iconst 0, 1) := by decide +kernel
theorem dX0_changeCapacity_21 : decode cX0_changeCapacity 21 = .ok (.aload_n 0, 1) := by decide +kernel
theorem dX0_changeCapacity_22 : decode cX0_changeCapacity 22 = .ok (.invokevirtual 62, 3) := by decide +kernel
theorem dX0_changeCapacity_25 : decode cX0_changeCapacity 25 = .ok (.aload_n 0, 1) := by decide +kernel
theorem dX0_changeCapacity_26 : decode cX0_changeCapacity 26 = .ok (.getfield 27, 3) := by decide +kernel
theorem dX0_changeCapacity_29 : decode cX0_changeCapacity 29 = .ok (.isub, 1) := by decide +kernel
theorem dX0_changeCapacity_30 : decode cX0_changeCapacity 30 = .ok (.invokestatic 77, 3) := by decide +kernel
theorem dX0_changeCapacity_33 : decode cX0_changeCapacity 33 = .ok (.istore_n 2, 1) := by decide +kernel
theorem dX0_changeCapacity_34 : decode cX0_changeCapacity 34 = .ok (.iconst 0, 1) := by decide +kernel
theorem dX0_changeCapacity_35 : decode cX0_changeCapacity 35 = .ok (.istore_n 3, 1) := by decide +kernel
theorem dX0_changeCapacity_36 : decode cX0_changeCapacity 36 = .ok (.iload_n 3, 1) := by decide +kernel
theorem dX0_changeCapacity_37 : decode cX0_changeCapacity 37 = .ok (.iload_n 2, 1) := by decide +kernel
theorem dX0_changeCapacity_38 : decode cX0_changeCapacity 38 = .ok (.if_icmp .ge 14, 3) := by decide +kernel
theorem dX0_changeCapacity_41 : decode cX0_changeCapacity 41 = .ok (.aload_n 0, 1) := by decide +kernel
theorem dX0_changeCapacity_42 : decode cX0_changeCapacity 42 = .ok (.iconst 0, 1) := by decide +kernel
theorem dX0_changeCapacity_43 : decode cX0_changeCapacity 43 = .ok (.invokevirtual 80, 3) := by decide +kernel
theorem dX0_changeCapacity_46 : decode cX0_changeCapacity 46 = .ok (.iinc 3 1, 3) := by decide +kernel
theorem dX0_changeCapacity_49 : decode cX0_changeCapacity 49 = .ok (.goto (-13), 3) := by decide +kernel
theorem dX0_changeCapacity_52 : decode cX0_changeCapacity 52 = .ok (.aload_n 0, 1) := by decide +kernel
theorem dX0_changeCapacity_53 : decode cX0_changeCapacity 53 = .ok (.invokevirtual 84, 3) := by decide +kernel
theorem dX0_changeCapacity_56 : decode cX0_changeCapacity 56 = .ok (.aload_n 0, 1) := by decide +kernel
theorem dX0_changeCapacity_57 : decode cX0_changeCapacity 57 = .ok (.getfield 27, 3) := by decide +kernel
theorem dX0_changeCapacity_60 : decode cX0_changeCapacity 60 = .ok (.isub, 1) := by decide +kernel
theorem dX0_changeCapacity_61 : decode cX0_changeCapacity 61 = .ok (.istore_n 3, 1) := by decide +kernel
theorem dX0_changeCapacity_62 : decode cX0_changeCapacity 62 = .ok (.iconst 0, 1) := by decide +kernel
theorem dX0_changeCapacity_63 : decode cX0_changeCapacity 63 = .ok (.istore 4, 2) := by decide +kernel
theorem dX0_changeCapacity_65 : decode cX0_changeCapacity 65 = .ok (.iload 4, 2) := by decide +kernel
theorem dX0_changeCapacity_67 : decode cX0_changeCapacity 67 = .ok (.iload_n 3, 1) := by decide +kernel
theorem dX0_changeCapacity_68 : decode cX0_changeCapacity 68 = .ok (.if_icmp .ge 17, 3) := by decide +kernel
theorem dX0_changeCapacity_71 : decode cX0_changeCapacity 71 = .ok (.aload_n 0, 1) := by decide +kernel
theorem dX0_changeCapacity_72 : decode cX0_changeCapacity 72 = .ok (.getfield 21, 3) := by decide +kernel
theorem dX0_changeCapacity_75 : decode cX0_changeCapacity 75 = .ok (.invokevirtual 87, 3) := by decide +kernel
theorem dX0_changeCapacity_78 : decode cX0_changeCapacity 78 = .ok (.pop, 1) := by decide +kernel
theorem dX0_changeCapacity_79 : decode cX0_changeCapacity 79 = .ok (.iinc 4 1, 3) := by decide +kernel
theorem dX0_changeCapacity_82 : decode cX0_changeCapacity 82 = .ok (.goto (-17), 3) := by decide +kernel
theorem dX0_changeCapacity_85 : decode cX0_changeCapacity 85 = .ok (.aload_n 0, 1) := by decide +kernel
theorem dX0_changeCapacity_86 : decode cX0_changeCapacity 86 = .ok (.invokevirtual 90, 3) := by decide +kernel
theorem dX0_changeCapacity_89 : decode cX0_changeCapacity 89 = .ok (.iconst 2, 1) := by decide +kernel
theorem dX0_changeCapacity_90 : decode cX0_changeCapacity 90 = .ok (.aload_n 0, 1) := by decide +kernel
theorem dX0_changeCapacity_91 : decode cX0_changeCapacity 91 = .ok (.getfield 27, 3) := by decide +kernel
theorem dX0_changeCapacity_94 : decode cX0_changeCapacity 94 = .ok (.imul, 1) := by decide +kernel
theorem dX0_changeCapacity_95 : decode cX0_changeCapacity 95 = .ok (.isub, 1) := by decide +kernel
theorem dX0_changeCapacity_96 : decode cX0_changeCapacity 96 = .ok (.istore 4, 2) := by decide +kernel
theorem dX0_changeCapacity_98 : decode cX0_changeCapacity 98 = .ok (.iconst 0, 1) := by decide +kernel
theorem dX0_changeCapacity_99 : decode cX0_changeCapacity 99 = .ok (.istore 5, 2) := by decide +kernel
theorem dX0_changeCapacity_101 : decode cX0_changeCapacity 101 = .ok (.iload 5, 2) := by decide +kernel
theorem dX0_changeCapacity_103 : decode cX0_changeCapacity 103 = .ok (.iload 4, 2) := by decide +kernel
theorem dX0_changeCapacity_105 : decode cX0_changeCapacity 105 = .ok (.if_icmp .ge 17, 3) := by decide +kernel
theorem dX0_changeCapacity_108 : decode cX0_changeCapacity 108 = .ok (.aload_n 0, 1) := by decide +kernel
theorem dX0_changeCapacity_109 : decode cX0_changeCapacity 109 = .ok (.getfield 24, 3) := by decide +kernel
theorem dX0_changeCapacity_112 : decode cX0_changeCapacity 112 = .ok (.invokevirtual 87, 3) := by decide +kernel
theorem dX0_changeCapacity_115 : decode cX0_changeCapacity 115 = .ok (.pop, 1) := by decide +kernel
theorem dX0_changeCapacity_116 : decode cX0_changeCapacity 116 = .ok (.iinc 5 1, 3) := by decide +kernel
theorem dX0_changeCapacity_119 : decode cX0_changeCapacity 119 = .ok (.goto (-18), 3) := by decide +kernel
theorem dX0_changeCapacity_122 : decode cX0_changeCapacity 122 = .ok (.iload_n 2, 1) := by decide +kernel
theorem dX0_changeCapacity_123 : decode cX0_changeCapacity 123 = .ok (.ireturn, 1) := by decide +kernel
set_option maxRecDepth 20000 in
theorem ggX0_serve_X0_lengthenRun : GoodIn wsX0_serve wsX0_lengthenRun := goodIn_r _ [8, 9, 2, 112, 113, 114, 115, 116, 117, 118, 119, 120, 121] (by decide +kernel) (by decide +kernel)
set_option maxRecDepth 20000 in
theorem gX0_serve_X0_lengthenRun : GoodIn wsX0_serve (wsV RX0 93 RX0 yX0_lengthenRun wsX0_lengthenRun) := goodIn_app (goodIn_of _ (by decide +kernel)) ggX0_serve_X0_lengthenRun
set_option maxRecDepth 20000 in
theorem ggX0_serve_X0_listWith : GoodIn wsX0_serve wsX0_listWith := goodIn_r _ [13, 14, 3, 15, 16, 17, 18, 19, 20, 21, 22, 23, 24, 25, 26, 27, 112, 113, 114, 115, 116, 117, 118, 119, 120, 121, 122, 123] (by decide +kernel) (by decide +kernel)
set_option maxRecDepth 20000 in
theorem gX0_serve_X0_listWith : GoodIn wsX0_serve (wsV RX0 54 RX0 yX0_listWith wsX0_listWith) := goodIn_app (goodIn_of _ (by decide +kernel)) ggX0_serve_X0_listWith
set_option maxRecDepth 20000 in
theorem ggX0_serve_X2_isPage : GoodIn wsX0_serve wsX2_isPage := goodIn_r _ [30] (by decide +kernel) (by decide +kernel)
set_option maxRecDepth 20000 in
theorem gX0_serve_X2_isPage_n97 : GoodIn wsX0_serve (wsX2_isPage) := ggX0_serve_X2_isPage
set_option maxRecDepth 20000 in
theorem ggX0_serve_X0_admit : GoodIn wsX0_serve wsX0_admit := goodIn_r _ [34, 14, 35, 36, 15, 16, 37, 38, 39, 7, 40, 41, 42, 43, 44, 45, 46, 47, 20, 48, 26, 49, 50, 51, 52, 53, 54, 55, 56, 27, 57, 58, 59, 60, 61, 62, 63, 64, 65, 66, 67, 68, 3, 69, 70, 71, 72, 73, 74, 75, 76, 77, 78, 79, 80, 81, 82, 83, 84, 85, 86, 87, 88, 89, 112, 113, 114, 115, 116, 117, 118, 119, 120, 121, 122, 123] (by decide +kernel) (by decide +kernel)
set_option maxRecDepth 20000 in
theorem gX0_serve_X0_admit : GoodIn wsX0_serve (wsV RX0 100 RX0 yX0_admit wsX0_admit) := goodIn_app (goodIn_of _ (by decide +kernel)) ggX0_serve_X0_admit
set_option maxRecDepth 20000 in
theorem ggX0_serve_X0_adaptTarget : GoodIn wsX0_serve wsX0_adaptTarget := goodIn_r _ [93, 15, 16, 36, 85, 94, 95, 96, 97, 98, 99, 100, 45, 46, 47, 20, 48, 26, 101, 102, 7, 103, 112, 113, 114, 115, 116, 117, 118, 119, 120, 121, 122, 123] (by decide +kernel) (by decide +kernel)
set_option maxRecDepth 20000 in
theorem gX0_serve_X0_adaptTarget : GoodIn wsX0_serve (wsV RX0 103 RX0 yX0_adaptTarget wsX0_adaptTarget) := goodIn_app (goodIn_of _ (by decide +kernel)) ggX0_serve_X0_adaptTarget
set_option maxRecDepth 20000 in
theorem ggX0_serve_X0_makeRoom : GoodIn wsX0_serve wsX0_makeRoom := goodIn_r _ [72, 73, 74, 75, 7, 76, 36, 65, 66, 67, 68, 14, 3, 45, 46, 47, 20, 48, 26, 77, 78, 79, 80, 15, 16, 35, 81, 82, 83, 84, 85, 49, 50, 51, 52, 53, 54, 55, 56, 27, 57, 58, 59, 60, 86, 87, 88, 89, 112, 113, 114, 115, 116, 117, 118, 119, 120, 121, 122, 123] (by decide +kernel) (by decide +kernel)
set_option maxRecDepth 20000 in
theorem gX0_serve_X0_makeRoom : GoodIn wsX0_serve (wsV RX0 106 RX0 yX0_makeRoom wsX0_makeRoom) := goodIn_app (goodIn_of _ (by decide +kernel)) ggX0_serve_X0_makeRoom
set_option maxRecDepth 20000 in
theorem ggX0_serve_X0_takeFrom : GoodIn wsX0_serve wsX0_takeFrom := goodIn_r _ [107, 14, 3, 15, 16, 108, 109, 110, 20, 111, 22, 23, 24, 25, 26, 27, 57, 58, 59, 60, 112, 113, 114, 115, 116, 117, 118, 119, 120, 121, 122, 123] (by decide +kernel) (by decide +kernel)
set_option maxRecDepth 20000 in
theorem gX0_serve_X0_takeFrom : GoodIn wsX0_serve (wsV RX0 58 RX0 yX0_takeFrom wsX0_takeFrom) := goodIn_app (goodIn_of _ (by decide +kernel)) ggX0_serve_X0_takeFrom
set_option maxRecDepth 20000 in
theorem ggX0_serve_X1_join : GoodIn wsX0_serve wsX1_join := goodIn_r _ [89, 26, 27, 122, 123] (by decide +kernel) (by decide +kernel)
set_option maxRecDepth 20000 in
theorem gX0_serve_X1_join : GoodIn wsX0_serve (wsV RX0 109 RX1 yX1_join wsX1_join) := goodIn_app (goodIn_of _ (by decide +kernel)) ggX0_serve_X1_join
theorem dX0_serve_0 : decode cX0_serve 0 = .ok (.aload_n 0, 1) := by decide +kernel
theorem dX0_serve_1 : decode cX0_serve 1 = .ok (.iload_n 1, 1) := by decide +kernel
theorem dX0_serve_2 : decode cX0_serve 2 = .ok (.invokevirtual 93, 3) := by decide +kernel
theorem dX0_serve_5 : decode cX0_serve 5 = .ok (.aload_n 0, 1) := by decide +kernel
theorem dX0_serve_6 : decode cX0_serve 6 = .ok (.iload_n 1, 1) := by decide +kernel
theorem dX0_serve_7 : decode cX0_serve 7 = .ok (.invokevirtual 54, 3) := by decide +kernel
theorem dX0_serve_10 : decode cX0_serve 10 = .ok (.istore_n 2, 1) := by decide +kernel
theorem dX0_serve_11 : decode cX0_serve 11 = .ok (.aload_n 0, 1) := by decide +kernel
theorem dX0_serve_12 : decode cX0_serve 12 = .ok (.getfield 38, 3) := by decide +kernel
theorem dX0_serve_15 : decode cX0_serve 15 = .ok (.ifCond .eq 28, 3) := by decide +kernel
theorem dX0_serve_18 : decode cX0_serve 18 = .ok (.aload_n 0, 1) := by decide +kernel
theorem dX0_serve_19 : decode cX0_serve 19 = .ok (.getfield 41, 3) := by decide +kernel
theorem dX0_serve_22 : decode cX0_serve 22 = .ok (.aload_n 0, 1) := by decide +kernel
theorem dX0_serve_23 : decode cX0_serve 23 = .ok (.getfield 38, 3) := by decide +kernel
theorem dX0_serve_26 : decode cX0_serve 26 = .ok (.if_icmp .lt 17, 3) := by decide +kernel
theorem dX0_serve_29 : decode cX0_serve 29 = .ok (.iload_n 2, 1) := by decide +kernel
theorem dX0_serve_30 : decode cX0_serve 30 = .ok (.invokestatic 97, 3) := by decide +kernel
theorem dX0_serve_33 : decode cX0_serve 33 = .ok (.ifCond .eq 7, 3) := by decide +kernel
theorem dX0_serve_36 : decode cX0_serve 36 = .ok (.iload_n 2, 1) := by decide +kernel
theorem dX0_serve_37 : decode cX0_serve 37 = .ok (.goto 5, 3) := by decide +kernel
theorem dX0_serve_40 : decode cX0_serve 40 = .ok (.bipush 6, 2) := by decide +kernel
theorem dX0_serve_42 : decode cX0_serve 42 = .ok (.ireturn, 1) := by decide +kernel
theorem dX0_serve_43 : decode cX0_serve 43 = .ok (.iload_n 2, 1) := by decide +kernel
theorem dX0_serve_44 : decode cX0_serve 44 = .ok (.ifCond .ne 10, 3) := by decide +kernel
theorem dX0_serve_47 : decode cX0_serve 47 = .ok (.aload_n 0, 1) := by decide +kernel
theorem dX0_serve_48 : decode cX0_serve 48 = .ok (.iload_n 1, 1) := by decide +kernel
theorem dX0_serve_49 : decode cX0_serve 49 = .ok (.invokevirtual 100, 3) := by decide +kernel
theorem dX0_serve_52 : decode cX0_serve 52 = .ok (.iconst 5, 1) := by decide +kernel
theorem dX0_serve_53 : decode cX0_serve 53 = .ok (.ireturn, 1) := by decide +kernel
theorem dX0_serve_54 : decode cX0_serve 54 = .ok (.iload_n 2, 1) := by decide +kernel
theorem dX0_serve_55 : decode cX0_serve 55 = .ok (.invokestatic 97, 3) := by decide +kernel
theorem dX0_serve_58 : decode cX0_serve 58 = .ok (.ifCond .ne 22, 3) := by decide +kernel
theorem dX0_serve_61 : decode cX0_serve 61 = .ok (.aload_n 0, 1) := by decide +kernel
theorem dX0_serve_62 : decode cX0_serve 62 = .ok (.iload_n 2, 1) := by decide +kernel
theorem dX0_serve_63 : decode cX0_serve 63 = .ok (.invokevirtual 103, 3) := by decide +kernel
theorem dX0_serve_66 : decode cX0_serve 66 = .ok (.aload_n 0, 1) := by decide +kernel
theorem dX0_serve_67 : decode cX0_serve 67 = .ok (.iload_n 2, 1) := by decide +kernel
theorem dX0_serve_68 : decode cX0_serve 68 = .ok (.iconst 4, 1) := by decide +kernel
theorem dX0_serve_69 : decode cX0_serve 69 = .ok (.if_icmp .ne 7, 3) := by decide +kernel
theorem dX0_serve_72 : decode cX0_serve 72 = .ok (.iconst 1, 1) := by decide +kernel
theorem dX0_serve_73 : decode cX0_serve 73 = .ok (.goto 4, 3) := by decide +kernel
theorem dX0_serve_76 : decode cX0_serve 76 = .ok (.iconst 0, 1) := by decide +kernel
theorem dX0_serve_77 : decode cX0_serve 77 = .ok (.invokevirtual 106, 3) := by decide +kernel
theorem dX0_serve_80 : decode cX0_serve 80 = .ok (.aload_n 0, 1) := by decide +kernel
theorem dX0_serve_81 : decode cX0_serve 81 = .ok (.iload_n 2, 1) := by decide +kernel
theorem dX0_serve_82 : decode cX0_serve 82 = .ok (.iload_n 1, 1) := by decide +kernel
theorem dX0_serve_83 : decode cX0_serve 83 = .ok (.invokevirtual 58, 3) := by decide +kernel
theorem dX0_serve_86 : decode cX0_serve 86 = .ok (.aload_n 0, 1) := by decide +kernel
theorem dX0_serve_87 : decode cX0_serve 87 = .ok (.getfield 18, 3) := by decide +kernel
theorem dX0_serve_90 : decode cX0_serve 90 = .ok (.iload_n 1, 1) := by decide +kernel
theorem dX0_serve_91 : decode cX0_serve 91 = .ok (.invokevirtual 109, 3) := by decide +kernel
theorem dX0_serve_94 : decode cX0_serve 94 = .ok (.iload_n 2, 1) := by decide +kernel
theorem dX0_serve_95 : decode cX0_serve 95 = .ok (.ireturn, 1) := by decide +kernel
set_option maxRecDepth 20000 in
theorem ggX0_nextToLeave_X0_dropsRecentPage : GoodIn wsX0_nextToLeave wsX0_dropsRecentPage := goodIn_r _ [7, 8, 9, 10, 11, 12, 6, 13, 1, 14, 15, 16, 17, 18, 19, 42, 43, 44, 45, 46, 47, 48, 49, 50, 51, 52, 53] (by decide +kernel) (by decide +kernel)
set_option maxRecDepth 20000 in
theorem gX0_nextToLeave_X0_dropsRecentPage : GoodIn wsX0_nextToLeave (wsV RX0 112 RX0 yX0_dropsRecentPage wsX0_dropsRecentPage) := goodIn_app (goodIn_of _ (by decide +kernel)) ggX0_nextToLeave_X0_dropsRecentPage
set_option maxRecDepth 20000 in
theorem ggX0_nextToLeave_X1_oldest : GoodIn wsX0_nextToLeave wsX1_oldest := goodIn_r _ [23, 24, 25, 26, 17, 27, 19, 28, 52, 53] (by decide +kernel) (by decide +kernel)
set_option maxRecDepth 20000 in
theorem gX0_nextToLeave_X1_oldest : GoodIn wsX0_nextToLeave (wsV RX0 116 RX1 yX1_oldest wsX1_oldest) := goodIn_app (goodIn_of _ (by decide +kernel)) ggX0_nextToLeave_X1_oldest
set_option maxRecDepth 20000 in
theorem ggX0_nextToLeave_X0_isFull : GoodIn wsX0_nextToLeave wsX0_isFull := goodIn_r _ [32, 8, 33, 34, 35, 6, 36, 1, 2, 14, 15, 16, 17, 18, 19, 42, 43, 44, 45, 46, 47, 48, 49, 50, 51, 52, 53] (by decide +kernel) (by decide +kernel)
set_option maxRecDepth 20000 in
theorem gX0_nextToLeave_X0_isFull : GoodIn wsX0_nextToLeave (wsV RX0 119 RX0 yX0_isFull wsX0_isFull) := goodIn_app (goodIn_of _ (by decide +kernel)) ggX0_nextToLeave_X0_isFull
set_option maxRecDepth 20000 in
theorem ggX0_nextToLeave_X0_evictsRecentPage : GoodIn wsX0_nextToLeave wsX0_evictsRecentPage := goodIn_r _ [40, 1, 41, 14, 15, 16, 17, 18, 19, 42, 43, 44, 45, 46, 47, 48, 49, 50, 51, 52, 53] (by decide +kernel) (by decide +kernel)
set_option maxRecDepth 20000 in
theorem gX0_nextToLeave_X0_evictsRecentPage : GoodIn wsX0_nextToLeave (wsV RX0 122 RX0 yX0_evictsRecentPage wsX0_evictsRecentPage) := goodIn_app (goodIn_of _ (by decide +kernel)) ggX0_nextToLeave_X0_evictsRecentPage
theorem dX0_nextToLeave_0 : decode cX0_nextToLeave 0 = .ok (.aload_n 0, 1) := by decide +kernel
theorem dX0_nextToLeave_1 : decode cX0_nextToLeave 1 = .ok (.invokevirtual 112, 3) := by decide +kernel
theorem dX0_nextToLeave_4 : decode cX0_nextToLeave 4 = .ok (.ifCond .eq 11, 3) := by decide +kernel
theorem dX0_nextToLeave_7 : decode cX0_nextToLeave 7 = .ok (.aload_n 0, 1) := by decide +kernel
theorem dX0_nextToLeave_8 : decode cX0_nextToLeave 8 = .ok (.getfield 12, 3) := by decide +kernel
theorem dX0_nextToLeave_11 : decode cX0_nextToLeave 11 = .ok (.invokevirtual 116, 3) := by decide +kernel
theorem dX0_nextToLeave_14 : decode cX0_nextToLeave 14 = .ok (.ireturn, 1) := by decide +kernel
theorem dX0_nextToLeave_15 : decode cX0_nextToLeave 15 = .ok (.aload_n 0, 1) := by decide +kernel
theorem dX0_nextToLeave_16 : decode cX0_nextToLeave 16 = .ok (.invokevirtual 119, 3) := by decide +kernel
theorem dX0_nextToLeave_19 : decode cX0_nextToLeave 19 = .ok (.ifCond .ne 5, 3) := by decide +kernel
theorem dX0_nextToLeave_22 : decode cX0_nextToLeave 22 = .ok (.iconst (-1), 1) := by decide +kernel
theorem dX0_nextToLeave_23 : decode cX0_nextToLeave 23 = .ok (.ireturn, 1) := by decide +kernel
theorem dX0_nextToLeave_24 : decode cX0_nextToLeave 24 = .ok (.aload_n 0, 1) := by decide +kernel
theorem dX0_nextToLeave_25 : decode cX0_nextToLeave 25 = .ok (.iconst 0, 1) := by decide +kernel
theorem dX0_nextToLeave_26 : decode cX0_nextToLeave 26 = .ok (.invokevirtual 122, 3) := by decide +kernel
theorem dX0_nextToLeave_29 : decode cX0_nextToLeave 29 = .ok (.ifCond .eq 13, 3) := by decide +kernel
theorem dX0_nextToLeave_32 : decode cX0_nextToLeave 32 = .ok (.aload_n 0, 1) := by decide +kernel
theorem dX0_nextToLeave_33 : decode cX0_nextToLeave 33 = .ok (.getfield 12, 3) := by decide +kernel
theorem dX0_nextToLeave_36 : decode cX0_nextToLeave 36 = .ok (.invokevirtual 116, 3) := by decide +kernel
theorem dX0_nextToLeave_39 : decode cX0_nextToLeave 39 = .ok (.goto 10, 3) := by decide +kernel
theorem dX0_nextToLeave_42 : decode cX0_nextToLeave 42 = .ok (.aload_n 0, 1) := by decide +kernel
theorem dX0_nextToLeave_43 : decode cX0_nextToLeave 43 = .ok (.getfield 18, 3) := by decide +kernel
theorem dX0_nextToLeave_46 : decode cX0_nextToLeave 46 = .ok (.invokevirtual 116, 3) := by decide +kernel
theorem dX0_nextToLeave_49 : decode cX0_nextToLeave 49 = .ok (.ireturn, 1) := by decide +kernel
theorem dX0_lengthenRun_0 : decode cX0_lengthenRun 0 = .ok (.aload_n 0, 1) := by decide +kernel
theorem dX0_lengthenRun_1 : decode cX0_lengthenRun 1 = .ok (.getfield 31, 3) := by decide +kernel
theorem dX0_lengthenRun_4 : decode cX0_lengthenRun 4 = .ok (.iconst (-1), 1) := by decide +kernel
theorem dX0_lengthenRun_5 : decode cX0_lengthenRun 5 = .ok (.if_icmp .eq 17, 3) := by decide +kernel
theorem dX0_lengthenRun_8 : decode cX0_lengthenRun 8 = .ok (.iload_n 1, 1) := by decide +kernel
theorem dX0_lengthenRun_9 : decode cX0_lengthenRun 9 = .ok (.aload_n 0, 1) := by decide +kernel
theorem dX0_lengthenRun_10 : decode cX0_lengthenRun 10 = .ok (.getfield 31, 3) := by decide +kernel
theorem dX0_lengthenRun_13 : decode cX0_lengthenRun 13 = .ok (.iconst 1, 1) := by decide +kernel
theorem dX0_lengthenRun_14 : decode cX0_lengthenRun 14 = .ok (.iadd, 1) := by decide +kernel
theorem dX0_lengthenRun_15 : decode cX0_lengthenRun 15 = .ok (.if_icmp .ne 7, 3) := by decide +kernel
theorem dX0_lengthenRun_18 : decode cX0_lengthenRun 18 = .ok (.iconst 1, 1) := by decide +kernel
theorem dX0_lengthenRun_19 : decode cX0_lengthenRun 19 = .ok (.goto 4, 3) := by decide +kernel
theorem dX0_lengthenRun_22 : decode cX0_lengthenRun 22 = .ok (.iconst 0, 1) := by decide +kernel
theorem dX0_lengthenRun_23 : decode cX0_lengthenRun 23 = .ok (.istore_n 2, 1) := by decide +kernel
theorem dX0_lengthenRun_24 : decode cX0_lengthenRun 24 = .ok (.aload_n 0, 1) := by decide +kernel
theorem dX0_lengthenRun_25 : decode cX0_lengthenRun 25 = .ok (.iload_n 2, 1) := by decide +kernel
theorem dX0_lengthenRun_26 : decode cX0_lengthenRun 26 = .ok (.ifCond .eq 12, 3) := by decide +kernel
theorem dX0_lengthenRun_29 : decode cX0_lengthenRun 29 = .ok (.aload_n 0, 1) := by decide +kernel
theorem dX0_lengthenRun_30 : decode cX0_lengthenRun 30 = .ok (.getfield 41, 3) := by decide +kernel
theorem dX0_lengthenRun_33 : decode cX0_lengthenRun 33 = .ok (.iconst 1, 1) := by decide +kernel
theorem dX0_lengthenRun_34 : decode cX0_lengthenRun 34 = .ok (.iadd, 1) := by decide +kernel
theorem dX0_lengthenRun_35 : decode cX0_lengthenRun 35 = .ok (.goto 4, 3) := by decide +kernel
theorem dX0_lengthenRun_38 : decode cX0_lengthenRun 38 = .ok (.iconst 1, 1) := by decide +kernel
theorem dX0_lengthenRun_39 : decode cX0_lengthenRun 39 = .ok (.putfield 41, 3) := by decide +kernel
theorem dX0_lengthenRun_42 : decode cX0_lengthenRun 42 = .ok (.aload_n 0, 1) := by decide +kernel
theorem dX0_lengthenRun_43 : decode cX0_lengthenRun 43 = .ok (.iload_n 1, 1) := by decide +kernel
theorem dX0_lengthenRun_44 : decode cX0_lengthenRun 44 = .ok (.putfield 31, 3) := by decide +kernel
theorem dX0_lengthenRun_47 : decode cX0_lengthenRun 47 = .ok (.return_, 1) := by decide +kernel
set_option maxRecDepth 20000 in
theorem ggX0_admit_X0_dropsRecentPage : GoodIn wsX0_admit wsX0_dropsRecentPage := goodIn_r _ [10, 3, 4, 11, 12, 13, 9, 14, 1, 15, 16, 17, 18, 19, 20, 64, 65, 66, 67, 68, 69, 70, 71, 72, 73, 74, 75] (by decide +kernel) (by decide +kernel)
set_option maxRecDepth 20000 in
theorem gX0_admit_X0_dropsRecentPage : GoodIn wsX0_admit (wsV RX0 112 RX0 yX0_dropsRecentPage wsX0_dropsRecentPage) := goodIn_app (goodIn_of _ (by decide +kernel)) ggX0_admit_X0_dropsRecentPage
set_option maxRecDepth 20000 in
theorem ggX0_admit_X1_takeOldest : GoodIn wsX0_admit wsX1_takeOldest := goodIn_r _ [24, 25, 26, 27, 18, 28, 20, 29, 30, 31, 32, 33, 74, 75] (by decide +kernel) (by decide +kernel)
set_option maxRecDepth 20000 in
theorem gX0_admit_X1_takeOldest : GoodIn wsX0_admit (wsV RX0 87 RX1 yX1_takeOldest wsX1_takeOldest) := goodIn_app (goodIn_of _ (by decide +kernel)) ggX0_admit_X1_takeOldest
set_option maxRecDepth 20000 in
theorem ggX0_admit_X0_recentAndGhosts : GoodIn wsX0_admit wsX0_recentAndGhosts := goodIn_r _ [14, 1, 4, 15, 16, 17, 18, 19, 20, 64, 65, 66, 67, 68, 69, 70, 71, 72, 73, 74, 75] (by decide +kernel) (by decide +kernel)
set_option maxRecDepth 20000 in
theorem gX0_admit_X0_recentAndGhosts : GoodIn wsX0_admit (wsV RX0 84 RX0 yX0_recentAndGhosts wsX0_recentAndGhosts) := goodIn_app (goodIn_of _ (by decide +kernel)) ggX0_admit_X0_recentAndGhosts
set_option maxRecDepth 20000 in
theorem ggX0_admit_X0_keysInAll : GoodIn wsX0_admit wsX0_keysInAll := goodIn_r _ [37, 4, 5, 38, 39, 40, 9, 41, 1, 42, 15, 16, 17, 18, 19, 20, 64, 65, 66, 67, 68, 69, 70, 71, 72, 73, 74, 75] (by decide +kernel) (by decide +kernel)
set_option maxRecDepth 20000 in
theorem gX0_admit_X0_keysInAll : GoodIn wsX0_admit (wsV RX0 90 RX0 yX0_keysInAll wsX0_keysInAll) := goodIn_app (goodIn_of _ (by decide +kernel)) ggX0_admit_X0_keysInAll
set_option maxRecDepth 20000 in
theorem ggX0_admit_X0_makeRoom : GoodIn wsX0_admit wsX0_makeRoom := goodIn_r _ [46, 47, 48, 49, 9, 50, 3, 38, 39, 40, 41, 1, 42, 15, 16, 17, 18, 19, 20, 51, 52, 53, 54, 4, 5, 2, 55, 56, 57, 58, 59, 21, 22, 23, 24, 25, 26, 27, 28, 29, 30, 31, 32, 33, 60, 61, 62, 63, 64, 65, 66, 67, 68, 69, 70, 71, 72, 73, 74, 75] (by decide +kernel) (by decide +kernel)
set_option maxRecDepth 20000 in
theorem gX0_admit_X0_makeRoom : GoodIn wsX0_admit (wsV RX0 106 RX0 yX0_makeRoom wsX0_makeRoom) := goodIn_app (goodIn_of _ (by decide +kernel)) ggX0_admit_X0_makeRoom
set_option maxRecDepth 20000 in
theorem ggX0_admit_X1_join : GoodIn wsX0_admit wsX1_join := goodIn_r _ [63, 20, 29, 74, 75] (by decide +kernel) (by decide +kernel)
set_option maxRecDepth 20000 in
theorem gX0_admit_X1_join : GoodIn wsX0_admit (wsV RX0 109 RX1 yX1_join wsX1_join) := goodIn_app (goodIn_of _ (by decide +kernel)) ggX0_admit_X1_join
theorem dX0_admit_0 : decode cX0_admit 0 = .ok (.aload_n 0, 1) := by decide +kernel
theorem dX0_admit_1 : decode cX0_admit 1 = .ok (.invokevirtual 112, 3) := by decide +kernel
theorem dX0_admit_4 : decode cX0_admit 4 = .ok (.ifCond .eq 24, 3) := by decide +kernel
theorem dX0_admit_7 : decode cX0_admit 7 = .ok (.aload_n 0, 1) := by decide +kernel
theorem dX0_admit_8 : decode cX0_admit 8 = .ok (.getfield 12, 3) := by decide +kernel
theorem dX0_admit_11 : decode cX0_admit 11 = .ok (.invokevirtual 87, 3) := by decide +kernel
theorem dX0_admit_14 : decode cX0_admit 14 = .ok (.pop, 1) := by decide +kernel
theorem dX0_admit_15 : decode cX0_admit 15 = .ok (.aload_n 0, 1) := by decide +kernel
theorem dX0_admit_16 : decode cX0_admit 16 = .ok (.dup, 1) := by decide +kernel
theorem dX0_admit_17 : decode cX0_admit 17 = .ok (.getfield 44, 3) := by decide +kernel
theorem dX0_admit_20 : decode cX0_admit 20 = .ok (.iconst 1, 1) := by decide +kernel
theorem dX0_admit_21 : decode cX0_admit 21 = .ok (.iadd, 1) := by decide +kernel
theorem dX0_admit_22 : decode cX0_admit 22 = .ok (.putfield 44, 3) := by decide +kernel
theorem dX0_admit_25 : decode cX0_admit 25 = .ok (.goto 46, 3) := by decide +kernel
theorem dX0_admit_28 : decode cX0_admit 28 = .ok (.aload_n 0, 1) := by decide +kernel
theorem dX0_admit_29 : decode cX0_admit 29 = .ok (.invokevirtual 84, 3) := by decide +kernel
theorem dX0_admit_32 : decode cX0_admit 32 = .ok (.aload_n 0, 1) := by decide +kernel
theorem dX0_admit_33 : decode cX0_admit 33 = .ok (.getfield 27, 3) := by decide +kernel
theorem dX0_admit_36 : decode cX0_admit 36 = .ok (.if_icmp .ne 14, 3) := by decide +kernel
theorem dX0_admit_39 : decode cX0_admit 39 = .ok (.aload_n 0, 1) := by decide +kernel
theorem dX0_admit_40 : decode cX0_admit 40 = .ok (.getfield 21, 3) := by decide +kernel
theorem dX0_admit_43 : decode cX0_admit 43 = .ok (.invokevirtual 87, 3) := by decide +kernel
theorem dX0_admit_46 : decode cX0_admit 46 = .ok (.pop, 1) := by decide +kernel
theorem dX0_admit_47 : decode cX0_admit 47 = .ok (.goto 24, 3) := by decide +kernel
theorem dX0_admit_50 : decode cX0_admit 50 = .ok (.aload_n 0, 1) := by decide +kernel
theorem dX0_admit_51 : decode cX0_admit 51 = .ok (.invokevirtual 90, 3) := by decide +kernel
theorem dX0_admit_54 : decode cX0_admit 54 = .ok (.iconst 2, 1) := by decide +kernel
theorem dX0_admit_55 : decode cX0_admit 55 = .ok (.aload_n 0, 1) := by decide +kernel
theorem dX0_admit_56 : decode cX0_admit 56 = .ok (.getfield 27, 3) := by decide +kernel
theorem dX0_admit_59 : decode cX0_admit 59 = .ok (.imul, 1) := by decide +kernel
theorem dX0_admit_60 : decode cX0_admit 60 = .ok (.if_icmp .ne 11, 3) := by decide +kernel
theorem dX0_admit_63 : decode cX0_admit 63 = .ok (.aload_n 0, 1) := by decide +kernel
theorem dX0_admit_64 : decode cX0_admit 64 = .ok (.getfield 24, 3) := by decide +kernel
theorem dX0_admit_67 : decode cX0_admit 67 = .ok (.invokevirtual 87, 3) := by decide +kernel
theorem dX0_admit_70 : decode cX0_admit 70 = .ok (.pop, 1) := by decide +kernel
theorem dX0_admit_71 : decode cX0_admit 71 = .ok (.aload_n 0, 1) := by decide +kernel
theorem dX0_admit_72 : decode cX0_admit 72 = .ok (.iconst 0, 1) := by decide +kernel
theorem dX0_admit_73 : decode cX0_admit 73 = .ok (.invokevirtual 106, 3) := by decide +kernel
theorem dX0_admit_76 : decode cX0_admit 76 = .ok (.aload_n 0, 1) := by decide +kernel
theorem dX0_admit_77 : decode cX0_admit 77 = .ok (.getfield 12, 3) := by decide +kernel
theorem dX0_admit_80 : decode cX0_admit 80 = .ok (.iload_n 1, 1) := by decide +kernel
theorem dX0_admit_81 : decode cX0_admit 81 = .ok (.invokevirtual 109, 3) := by decide +kernel
theorem dX0_admit_84 : decode cX0_admit 84 = .ok (.return_, 1) := by decide +kernel
set_option maxRecDepth 20000 in
theorem ggX0_adaptTarget_X1_length : GoodIn wsX0_adaptTarget wsX1_length := goodIn_r _ [16, 17, 32, 33] (by decide +kernel) (by decide +kernel)
set_option maxRecDepth 20000 in
theorem gX0_adaptTarget_X1_length : GoodIn wsX0_adaptTarget (wsV RX0 47 RX1 yX1_length wsX1_length) := goodIn_app (goodIn_of _ (by decide +kernel)) ggX0_adaptTarget_X1_length
set_option maxRecDepth 20000 in
theorem ggX0_adaptTarget_X0_adaptationStep : GoodIn wsX0_adaptTarget wsX0_adaptationStep := goodIn_r _ [21, 9, 10, 7, 11] (by decide +kernel) (by decide +kernel)
set_option maxRecDepth 20000 in
theorem gX0_adaptTarget_X0_adaptationStep : GoodIn wsX0_adaptTarget (va_wsS RX0 126 yX0_adaptationStep wsX0_adaptationStep) := goodIn_app (goodIn_of _ (by decide +kernel)) ggX0_adaptTarget_X0_adaptationStep
theorem dX0_adaptTarget_0 : decode cX0_adaptTarget 0 = .ok (.aload_n 0, 1) := by decide +kernel
theorem dX0_adaptTarget_1 : decode cX0_adaptTarget 1 = .ok (.getfield 21, 3) := by decide +kernel
theorem dX0_adaptTarget_4 : decode cX0_adaptTarget 4 = .ok (.invokevirtual 47, 3) := by decide +kernel
theorem dX0_adaptTarget_7 : decode cX0_adaptTarget 7 = .ok (.istore_n 2, 1) := by decide +kernel
theorem dX0_adaptTarget_8 : decode cX0_adaptTarget 8 = .ok (.aload_n 0, 1) := by decide +kernel
theorem dX0_adaptTarget_9 : decode cX0_adaptTarget 9 = .ok (.getfield 24, 3) := by decide +kernel
theorem dX0_adaptTarget_12 : decode cX0_adaptTarget 12 = .ok (.invokevirtual 47, 3) := by decide +kernel
theorem dX0_adaptTarget_15 : decode cX0_adaptTarget 15 = .ok (.istore_n 3, 1) := by decide +kernel
theorem dX0_adaptTarget_16 : decode cX0_adaptTarget 16 = .ok (.iload_n 1, 1) := by decide +kernel
theorem dX0_adaptTarget_17 : decode cX0_adaptTarget 17 = .ok (.iconst 3, 1) := by decide +kernel
theorem dX0_adaptTarget_18 : decode cX0_adaptTarget 18 = .ok (.if_icmp .ne 27, 3) := by decide +kernel
theorem dX0_adaptTarget_21 : decode cX0_adaptTarget 21 = .ok (.aload_n 0, 1) := by decide +kernel
theorem dX0_adaptTarget_22 : decode cX0_adaptTarget 22 = .ok (.aload_n 0, 1) := by decide +kernel
theorem dX0_adaptTarget_23 : decode cX0_adaptTarget 23 = .ok (.getfield 27, 3) := by decide +kernel
theorem dX0_adaptTarget_26 : decode cX0_adaptTarget 26 = .ok (.aload_n 0, 1) := by decide +kernel
theorem dX0_adaptTarget_27 : decode cX0_adaptTarget 27 = .ok (.getfield 68, 3) := by decide +kernel
theorem dX0_adaptTarget_30 : decode cX0_adaptTarget 30 = .ok (.iload_n 3, 1) := by decide +kernel
theorem dX0_adaptTarget_31 : decode cX0_adaptTarget 31 = .ok (.iload_n 2, 1) := by decide +kernel
theorem dX0_adaptTarget_32 : decode cX0_adaptTarget 32 = .ok (.invokestatic 126, 3) := by decide +kernel
theorem dX0_adaptTarget_35 : decode cX0_adaptTarget 35 = .ok (.iadd, 1) := by decide +kernel
theorem dX0_adaptTarget_36 : decode cX0_adaptTarget 36 = .ok (.invokestatic 71, 3) := by decide +kernel
theorem dX0_adaptTarget_39 : decode cX0_adaptTarget 39 = .ok (.putfield 68, 3) := by decide +kernel
theorem dX0_adaptTarget_42 : decode cX0_adaptTarget 42 = .ok (.goto 21, 3) := by decide +kernel
theorem dX0_adaptTarget_45 : decode cX0_adaptTarget 45 = .ok (.aload_n 0, 1) := by decide +kernel
theorem dX0_adaptTarget_46 : decode cX0_adaptTarget 46 = .ok (.iconst 0, 1) := by decide +kernel
theorem dX0_adaptTarget_47 : decode cX0_adaptTarget 47 = .ok (.aload_n 0, 1) := by decide +kernel
theorem dX0_adaptTarget_48 : decode cX0_adaptTarget 48 = .ok (.getfield 68, 3) := by decide +kernel
theorem dX0_adaptTarget_51 : decode cX0_adaptTarget 51 = .ok (.iload_n 2, 1) := by decide +kernel
theorem dX0_adaptTarget_52 : decode cX0_adaptTarget 52 = .ok (.iload_n 3, 1) := by decide +kernel
theorem dX0_adaptTarget_53 : decode cX0_adaptTarget 53 = .ok (.invokestatic 126, 3) := by decide +kernel
theorem dX0_adaptTarget_56 : decode cX0_adaptTarget 56 = .ok (.isub, 1) := by decide +kernel
theorem dX0_adaptTarget_57 : decode cX0_adaptTarget 57 = .ok (.invokestatic 77, 3) := by decide +kernel
theorem dX0_adaptTarget_60 : decode cX0_adaptTarget 60 = .ok (.putfield 68, 3) := by decide +kernel
theorem dX0_adaptTarget_63 : decode cX0_adaptTarget 63 = .ok (.return_, 1) := by decide +kernel
theorem dX0_adaptationStep_0 : decode cX0_adaptationStep 0 = .ok (.iload_n 1, 1) := by decide +kernel
theorem dX0_adaptationStep_1 : decode cX0_adaptationStep 1 = .ok (.iconst 1, 1) := by decide +kernel
theorem dX0_adaptationStep_2 : decode cX0_adaptationStep 2 = .ok (.if_icmp .ge 7, 3) := by decide +kernel
theorem dX0_adaptationStep_5 : decode cX0_adaptationStep 5 = .ok (.iconst 1, 1) := by decide +kernel
theorem dX0_adaptationStep_6 : decode cX0_adaptationStep 6 = .ok (.goto 10, 3) := by decide +kernel
theorem dX0_adaptationStep_9 : decode cX0_adaptationStep 9 = .ok (.iconst 1, 1) := by decide +kernel
theorem dX0_adaptationStep_10 : decode cX0_adaptationStep 10 = .ok (.iload_n 0, 1) := by decide +kernel
theorem dX0_adaptationStep_11 : decode cX0_adaptationStep 11 = .ok (.iload_n 1, 1) := by decide +kernel
theorem dX0_adaptationStep_12 : decode cX0_adaptationStep 12 = .ok (.idiv, 1) := by decide +kernel
theorem dX0_adaptationStep_13 : decode cX0_adaptationStep 13 = .ok (.invokestatic 77, 3) := by decide +kernel
theorem dX0_adaptationStep_16 : decode cX0_adaptationStep 16 = .ok (.ireturn, 1) := by decide +kernel
set_option maxRecDepth 20000 in
theorem ggX0_makeRoom_X0_isFull : GoodIn wsX0_makeRoom wsX0_isFull := goodIn_r _ [5, 6, 7, 8, 9, 4, 10, 11, 12, 13, 14, 15, 16, 17, 18, 48, 49, 50, 51, 52, 53, 54, 55, 56, 57, 58, 59] (by decide +kernel) (by decide +kernel)
set_option maxRecDepth 20000 in
theorem gX0_makeRoom_X0_isFull : GoodIn wsX0_makeRoom (wsV RX0 119 RX0 yX0_isFull wsX0_isFull) := goodIn_app (goodIn_of _ (by decide +kernel)) ggX0_makeRoom_X0_isFull
set_option maxRecDepth 20000 in
theorem ggX0_makeRoom_X0_evict : GoodIn wsX0_makeRoom wsX0_evict := goodIn_r _ [22, 23, 11, 24, 12, 25, 26, 27, 28, 4, 29, 30, 13, 14, 15, 16, 17, 18, 31, 32, 33, 34, 35, 36, 37, 38, 39, 40, 41, 42, 43, 44, 45, 46, 47, 48, 49, 50, 51, 52, 53, 54, 55, 56, 57, 58, 59] (by decide +kernel) (by decide +kernel)
set_option maxRecDepth 20000 in
theorem gX0_makeRoom_X0_evict : GoodIn wsX0_makeRoom (wsV RX0 80 RX0 yX0_evict wsX0_evict) := goodIn_app (goodIn_of _ (by decide +kernel)) ggX0_makeRoom_X0_evict
theorem dX0_makeRoom_0 : decode cX0_makeRoom 0 = .ok (.aload_n 0, 1) := by decide +kernel
theorem dX0_makeRoom_1 : decode cX0_makeRoom 1 = .ok (.invokevirtual 119, 3) := by decide +kernel
theorem dX0_makeRoom_4 : decode cX0_makeRoom 4 = .ok (.ifCond .eq 8, 3) := by decide +kernel
theorem dX0_makeRoom_7 : decode cX0_makeRoom 7 = .ok (.aload_n 0, 1) := by decide +kernel
theorem dX0_makeRoom_8 : decode cX0_makeRoom 8 = .ok (.iload_n 1, 1) := by decide +kernel
theorem dX0_makeRoom_9 : decode cX0_makeRoom 9 = .ok (.invokevirtual 80, 3) := by decide +kernel
theorem dX0_makeRoom_12 : decode cX0_makeRoom 12 = .ok (.return_, 1) := by decide +kernel
set_option maxRecDepth 20000 in
theorem ggX0_evict_X0_evictsRecentPage : GoodIn wsX0_evict wsX0_evictsRecentPage := goodIn_r _ [10, 2, 11, 12, 13, 14, 15, 16, 17, 35, 36, 37, 38, 39, 40, 41, 42, 43, 44, 45, 46] (by decide +kernel) (by decide +kernel)
set_option maxRecDepth 20000 in
theorem gX0_evict_X0_evictsRecentPage : GoodIn wsX0_evict (wsV RX0 122 RX0 yX0_evictsRecentPage wsX0_evictsRecentPage) := goodIn_app (goodIn_of _ (by decide +kernel)) ggX0_evict_X0_evictsRecentPage
set_option maxRecDepth 20000 in
theorem ggX0_evict_X1_takeOldest : GoodIn wsX0_evict wsX1_takeOldest := goodIn_r _ [21, 22, 23, 24, 15, 25, 17, 26, 27, 28, 29, 30, 45, 46] (by decide +kernel) (by decide +kernel)
set_option maxRecDepth 20000 in
theorem gX0_evict_X1_takeOldest : GoodIn wsX0_evict (wsV RX0 87 RX1 yX1_takeOldest wsX1_takeOldest) := goodIn_app (goodIn_of _ (by decide +kernel)) ggX0_evict_X1_takeOldest
set_option maxRecDepth 20000 in
theorem ggX0_evict_X1_join : GoodIn wsX0_evict wsX1_join := goodIn_r _ [34, 17, 26, 45, 46] (by decide +kernel) (by decide +kernel)
set_option maxRecDepth 20000 in
theorem gX0_evict_X1_join : GoodIn wsX0_evict (wsV RX0 109 RX1 yX1_join wsX1_join) := goodIn_app (goodIn_of _ (by decide +kernel)) ggX0_evict_X1_join
theorem dX0_evict_0 : decode cX0_evict 0 = .ok (.aload_n 0, 1) := by decide +kernel
theorem dX0_evict_1 : decode cX0_evict 1 = .ok (.iload_n 1, 1) := by decide +kernel
theorem dX0_evict_2 : decode cX0_evict 2 = .ok (.invokevirtual 122, 3) := by decide +kernel
theorem dX0_evict_5 : decode cX0_evict 5 = .ok (.ifCond .eq 20, 3) := by decide +kernel
theorem dX0_evict_8 : decode cX0_evict 8 = .ok (.aload_n 0, 1) := by decide +kernel
theorem dX0_evict_9 : decode cX0_evict 9 = .ok (.getfield 21, 3) := by decide +kernel
theorem dX0_evict_12 : decode cX0_evict 12 = .ok (.aload_n 0, 1) := by decide +kernel
theorem dX0_evict_13 : decode cX0_evict 13 = .ok (.getfield 12, 3) := by decide +kernel
theorem dX0_evict_16 : decode cX0_evict 16 = .ok (.invokevirtual 87, 3) := by decide +kernel
theorem dX0_evict_19 : decode cX0_evict 19 = .ok (.invokevirtual 109, 3) := by decide +kernel
theorem dX0_evict_22 : decode cX0_evict 22 = .ok (.goto 17, 3) := by decide +kernel
theorem dX0_evict_25 : decode cX0_evict 25 = .ok (.aload_n 0, 1) := by decide +kernel
theorem dX0_evict_26 : decode cX0_evict 26 = .ok (.getfield 24, 3) := by decide +kernel
theorem dX0_evict_29 : decode cX0_evict 29 = .ok (.aload_n 0, 1) := by decide +kernel
theorem dX0_evict_30 : decode cX0_evict 30 = .ok (.getfield 18, 3) := by decide +kernel
theorem dX0_evict_33 : decode cX0_evict 33 = .ok (.invokevirtual 87, 3) := by decide +kernel
theorem dX0_evict_36 : decode cX0_evict 36 = .ok (.invokevirtual 109, 3) := by decide +kernel
theorem dX0_evict_39 : decode cX0_evict 39 = .ok (.aload_n 0, 1) := by decide +kernel
theorem dX0_evict_40 : decode cX0_evict 40 = .ok (.dup, 1) := by decide +kernel
theorem dX0_evict_41 : decode cX0_evict 41 = .ok (.getfield 44, 3) := by decide +kernel
theorem dX0_evict_44 : decode cX0_evict 44 = .ok (.iconst 1, 1) := by decide +kernel
theorem dX0_evict_45 : decode cX0_evict 45 = .ok (.iadd, 1) := by decide +kernel
theorem dX0_evict_46 : decode cX0_evict 46 = .ok (.putfield 44, 3) := by decide +kernel
theorem dX0_evict_49 : decode cX0_evict 49 = .ok (.return_, 1) := by decide +kernel
set_option maxRecDepth 20000 in
theorem ggX0_evictsRecentPage_X1_length : GoodIn wsX0_evictsRecentPage wsX1_length := goodIn_r _ [7, 8, 19, 20] (by decide +kernel) (by decide +kernel)
set_option maxRecDepth 20000 in
theorem gX0_evictsRecentPage_X1_length : GoodIn wsX0_evictsRecentPage (wsV RX0 47 RX1 yX1_length wsX1_length) := goodIn_app (goodIn_of _ (by decide +kernel)) ggX0_evictsRecentPage_X1_length
theorem dX0_evictsRecentPage_0 : decode cX0_evictsRecentPage 0 = .ok (.aload_n 0, 1) := by decide +kernel
theorem dX0_evictsRecentPage_1 : decode cX0_evictsRecentPage 1 = .ok (.getfield 12, 3) := by decide +kernel
theorem dX0_evictsRecentPage_4 : decode cX0_evictsRecentPage 4 = .ok (.invokevirtual 47, 3) := by decide +kernel
theorem dX0_evictsRecentPage_7 : decode cX0_evictsRecentPage 7 = .ok (.istore_n 2, 1) := by decide +kernel
theorem dX0_evictsRecentPage_8 : decode cX0_evictsRecentPage 8 = .ok (.iload_n 2, 1) := by decide +kernel
theorem dX0_evictsRecentPage_9 : decode cX0_evictsRecentPage 9 = .ok (.aload_n 0, 1) := by decide +kernel
theorem dX0_evictsRecentPage_10 : decode cX0_evictsRecentPage 10 = .ok (.getfield 68, 3) := by decide +kernel
theorem dX0_evictsRecentPage_13 : decode cX0_evictsRecentPage 13 = .ok (.if_icmp .gt 19, 3) := by decide +kernel
theorem dX0_evictsRecentPage_16 : decode cX0_evictsRecentPage 16 = .ok (.iload_n 1, 1) := by decide +kernel
theorem dX0_evictsRecentPage_17 : decode cX0_evictsRecentPage 17 = .ok (.ifCond .eq 19, 3) := by decide +kernel
theorem dX0_evictsRecentPage_20 : decode cX0_evictsRecentPage 20 = .ok (.iload_n 2, 1) := by decide +kernel
theorem dX0_evictsRecentPage_21 : decode cX0_evictsRecentPage 21 = .ok (.aload_n 0, 1) := by decide +kernel
theorem dX0_evictsRecentPage_22 : decode cX0_evictsRecentPage 22 = .ok (.getfield 68, 3) := by decide +kernel
theorem dX0_evictsRecentPage_25 : decode cX0_evictsRecentPage 25 = .ok (.if_icmp .ne 11, 3) := by decide +kernel
theorem dX0_evictsRecentPage_28 : decode cX0_evictsRecentPage 28 = .ok (.iload_n 2, 1) := by decide +kernel
theorem dX0_evictsRecentPage_29 : decode cX0_evictsRecentPage 29 = .ok (.ifCond .le 7, 3) := by decide +kernel
theorem dX0_evictsRecentPage_32 : decode cX0_evictsRecentPage 32 = .ok (.iconst 1, 1) := by decide +kernel
theorem dX0_evictsRecentPage_33 : decode cX0_evictsRecentPage 33 = .ok (.goto 4, 3) := by decide +kernel
theorem dX0_evictsRecentPage_36 : decode cX0_evictsRecentPage 36 = .ok (.iconst 0, 1) := by decide +kernel
theorem dX0_evictsRecentPage_37 : decode cX0_evictsRecentPage 37 = .ok (.ireturn, 1) := by decide +kernel
set_option maxRecDepth 20000 in
theorem ggX0_dropsRecentPage_X0_recentAndGhosts : GoodIn wsX0_dropsRecentPage wsX0_recentAndGhosts := goodIn_r _ [7, 8, 2, 9, 10, 11, 12, 13, 14, 15, 16, 17, 18, 19, 20, 21, 22, 23, 24, 25, 26] (by decide +kernel) (by decide +kernel)
set_option maxRecDepth 20000 in
theorem gX0_dropsRecentPage_X0_recentAndGhosts : GoodIn wsX0_dropsRecentPage (wsV RX0 84 RX0 yX0_recentAndGhosts wsX0_recentAndGhosts) := goodIn_app (goodIn_of _ (by decide +kernel)) ggX0_dropsRecentPage_X0_recentAndGhosts
set_option maxRecDepth 20000 in
theorem ggX0_dropsRecentPage_X1_length : GoodIn wsX0_dropsRecentPage wsX1_length := goodIn_r _ [13, 14, 25, 26] (by decide +kernel) (by decide +kernel)
set_option maxRecDepth 20000 in
theorem gX0_dropsRecentPage_X1_length : GoodIn wsX0_dropsRecentPage (wsV RX0 47 RX1 yX1_length wsX1_length) := goodIn_app (goodIn_of _ (by decide +kernel)) ggX0_dropsRecentPage_X1_length
theorem dX0_dropsRecentPage_0 : decode cX0_dropsRecentPage 0 = .ok (.aload_n 0, 1) := by decide +kernel
theorem dX0_dropsRecentPage_1 : decode cX0_dropsRecentPage 1 = .ok (.invokevirtual 84, 3) := by decide +kernel
theorem dX0_dropsRecentPage_4 : decode cX0_dropsRecentPage 4 = .ok (.aload_n 0, 1) := by decide +kernel
theorem dX0_dropsRecentPage_5 : decode cX0_dropsRecentPage 5 = .ok (.getfield 27, 3) := by decide +kernel
theorem dX0_dropsRecentPage_8 : decode cX0_dropsRecentPage 8 = .ok (.if_icmp .ne 17, 3) := by decide +kernel
theorem dX0_dropsRecentPage_11 : decode cX0_dropsRecentPage 11 = .ok (.aload_n 0, 1) := by decide +kernel
theorem dX0_dropsRecentPage_12 : decode cX0_dropsRecentPage 12 = .ok (.getfield 21, 3) := by decide +kernel
theorem dX0_dropsRecentPage_15 : decode cX0_dropsRecentPage 15 = .ok (.invokevirtual 47, 3) := by decide +kernel
theorem dX0_dropsRecentPage_18 : decode cX0_dropsRecentPage 18 = .ok (.ifCond .ne 7, 3) := by decide +kernel
theorem dX0_dropsRecentPage_21 : decode cX0_dropsRecentPage 21 = .ok (.iconst 1, 1) := by decide +kernel
theorem dX0_dropsRecentPage_22 : decode cX0_dropsRecentPage 22 = .ok (.goto 4, 3) := by decide +kernel
theorem dX0_dropsRecentPage_25 : decode cX0_dropsRecentPage 25 = .ok (.iconst 0, 1) := by decide +kernel
theorem dX0_dropsRecentPage_26 : decode cX0_dropsRecentPage 26 = .ok (.ireturn, 1) := by decide +kernel
set_option maxRecDepth 20000 in
theorem ggX0_isFull_X0_pages : GoodIn wsX0_isFull wsX0_pages := goodIn_r _ [6, 7, 8, 9, 10, 11, 12, 13, 14, 15, 16, 17, 18, 19, 20, 21, 22, 23, 24, 25, 26] (by decide +kernel) (by decide +kernel)
set_option maxRecDepth 20000 in
theorem gX0_isFull_X0_pages : GoodIn wsX0_isFull (wsV RX0 62 RX0 yX0_pages wsX0_pages) := goodIn_app (goodIn_of _ (by decide +kernel)) ggX0_isFull_X0_pages
theorem dX0_isFull_0 : decode cX0_isFull 0 = .ok (.aload_n 0, 1) := by decide +kernel
theorem dX0_isFull_1 : decode cX0_isFull 1 = .ok (.invokevirtual 62, 3) := by decide +kernel
theorem dX0_isFull_4 : decode cX0_isFull 4 = .ok (.aload_n 0, 1) := by decide +kernel
theorem dX0_isFull_5 : decode cX0_isFull 5 = .ok (.getfield 27, 3) := by decide +kernel
theorem dX0_isFull_8 : decode cX0_isFull 8 = .ok (.if_icmp .ne 7, 3) := by decide +kernel
theorem dX0_isFull_11 : decode cX0_isFull 11 = .ok (.iconst 1, 1) := by decide +kernel
theorem dX0_isFull_12 : decode cX0_isFull 12 = .ok (.goto 4, 3) := by decide +kernel
theorem dX0_isFull_15 : decode cX0_isFull 15 = .ok (.iconst 0, 1) := by decide +kernel
theorem dX0_isFull_16 : decode cX0_isFull 16 = .ok (.ireturn, 1) := by decide +kernel
set_option maxRecDepth 20000 in
theorem ggX0_recentAndGhosts_X1_length : GoodIn wsX0_recentAndGhosts wsX1_length := goodIn_r _ [7, 8, 19, 20] (by decide +kernel) (by decide +kernel)
set_option maxRecDepth 20000 in
theorem gX0_recentAndGhosts_X1_length : GoodIn wsX0_recentAndGhosts (wsV RX0 47 RX1 yX1_length wsX1_length) := goodIn_app (goodIn_of _ (by decide +kernel)) ggX0_recentAndGhosts_X1_length
theorem dX0_recentAndGhosts_0 : decode cX0_recentAndGhosts 0 = .ok (.aload_n 0, 1) := by decide +kernel
theorem dX0_recentAndGhosts_1 : decode cX0_recentAndGhosts 1 = .ok (.getfield 12, 3) := by decide +kernel
theorem dX0_recentAndGhosts_4 : decode cX0_recentAndGhosts 4 = .ok (.invokevirtual 47, 3) := by decide +kernel
theorem dX0_recentAndGhosts_7 : decode cX0_recentAndGhosts 7 = .ok (.aload_n 0, 1) := by decide +kernel
theorem dX0_recentAndGhosts_8 : decode cX0_recentAndGhosts 8 = .ok (.getfield 21, 3) := by decide +kernel
theorem dX0_recentAndGhosts_11 : decode cX0_recentAndGhosts 11 = .ok (.invokevirtual 47, 3) := by decide +kernel
theorem dX0_recentAndGhosts_14 : decode cX0_recentAndGhosts 14 = .ok (.iadd, 1) := by decide +kernel
theorem dX0_recentAndGhosts_15 : decode cX0_recentAndGhosts 15 = .ok (.ireturn, 1) := by decide +kernel
set_option maxRecDepth 20000 in
theorem ggX0_keysInAll_X0_pages : GoodIn wsX0_keysInAll wsX0_pages := goodIn_r _ [7, 8, 9, 10, 11, 12, 13, 14, 15, 16, 17, 18, 19, 20, 21, 22, 23, 24, 25, 26, 27] (by decide +kernel) (by decide +kernel)
set_option maxRecDepth 20000 in
theorem gX0_keysInAll_X0_pages : GoodIn wsX0_keysInAll (wsV RX0 62 RX0 yX0_pages wsX0_pages) := goodIn_app (goodIn_of _ (by decide +kernel)) ggX0_keysInAll_X0_pages
set_option maxRecDepth 20000 in
theorem ggX0_keysInAll_X1_length : GoodIn wsX0_keysInAll wsX1_length := goodIn_r _ [14, 15, 26, 27] (by decide +kernel) (by decide +kernel)
set_option maxRecDepth 20000 in
theorem gX0_keysInAll_X1_length : GoodIn wsX0_keysInAll (wsV RX0 47 RX1 yX1_length wsX1_length) := goodIn_app (goodIn_of _ (by decide +kernel)) ggX0_keysInAll_X1_length
theorem dX0_keysInAll_0 : decode cX0_keysInAll 0 = .ok (.aload_n 0, 1) := by decide +kernel
theorem dX0_keysInAll_1 : decode cX0_keysInAll 1 = .ok (.invokevirtual 62, 3) := by decide +kernel
theorem dX0_keysInAll_4 : decode cX0_keysInAll 4 = .ok (.aload_n 0, 1) := by decide +kernel
theorem dX0_keysInAll_5 : decode cX0_keysInAll 5 = .ok (.getfield 21, 3) := by decide +kernel
theorem dX0_keysInAll_8 : decode cX0_keysInAll 8 = .ok (.invokevirtual 47, 3) := by decide +kernel
theorem dX0_keysInAll_11 : decode cX0_keysInAll 11 = .ok (.iadd, 1) := by decide +kernel
theorem dX0_keysInAll_12 : decode cX0_keysInAll 12 = .ok (.aload_n 0, 1) := by decide +kernel
theorem dX0_keysInAll_13 : decode cX0_keysInAll 13 = .ok (.getfield 24, 3) := by decide +kernel
theorem dX0_keysInAll_16 : decode cX0_keysInAll 16 = .ok (.invokevirtual 47, 3) := by decide +kernel
theorem dX0_keysInAll_19 : decode cX0_keysInAll 19 = .ok (.iadd, 1) := by decide +kernel
theorem dX0_keysInAll_20 : decode cX0_keysInAll 20 = .ok (.ireturn, 1) := by decide +kernel
set_option maxRecDepth 20000 in
theorem ggX0_takeFrom_X1_takeOut : GoodIn wsX0_takeFrom wsX1_takeOut := goodIn_r _ [9, 10, 11, 12, 8, 13, 14, 15, 16, 17, 18, 19, 30, 31] (by decide +kernel) (by decide +kernel)
set_option maxRecDepth 20000 in
theorem gX0_takeFrom_X1_takeOut : GoodIn wsX0_takeFrom (wsV RX0 129 RX1 yX1_takeOut wsX1_takeOut) := goodIn_app (goodIn_of _ (by decide +kernel)) ggX0_takeFrom_X1_takeOut
theorem dX0_takeFrom_0 : decode cX0_takeFrom 0 = .ok (.iload_n 1, 1) := by decide +kernel
theorem dX0_takeFrom_1 : decode cX0_takeFrom 1 = .ok (.tableswitch 79 1 4 #[31, 43, 55, 67], 31) := by decide +kernel
theorem dX0_takeFrom_32 : decode cX0_takeFrom 32 = .ok (.aload_n 0, 1) := by decide +kernel
theorem dX0_takeFrom_33 : decode cX0_takeFrom 33 = .ok (.getfield 12, 3) := by decide +kernel
theorem dX0_takeFrom_36 : decode cX0_takeFrom 36 = .ok (.iload_n 2, 1) := by decide +kernel
theorem dX0_takeFrom_37 : decode cX0_takeFrom 37 = .ok (.invokevirtual 129, 3) := by decide +kernel
theorem dX0_takeFrom_40 : decode cX0_takeFrom 40 = .ok (.pop, 1) := by decide +kernel
theorem dX0_takeFrom_41 : decode cX0_takeFrom 41 = .ok (.goto 39, 3) := by decide +kernel
theorem dX0_takeFrom_44 : decode cX0_takeFrom 44 = .ok (.aload_n 0, 1) := by decide +kernel
theorem dX0_takeFrom_45 : decode cX0_takeFrom 45 = .ok (.getfield 18, 3) := by decide +kernel
theorem dX0_takeFrom_48 : decode cX0_takeFrom 48 = .ok (.iload_n 2, 1) := by decide +kernel
theorem dX0_takeFrom_49 : decode cX0_takeFrom 49 = .ok (.invokevirtual 129, 3) := by decide +kernel
theorem dX0_takeFrom_52 : decode cX0_takeFrom 52 = .ok (.pop, 1) := by decide +kernel
theorem dX0_takeFrom_53 : decode cX0_takeFrom 53 = .ok (.goto 27, 3) := by decide +kernel
theorem dX0_takeFrom_56 : decode cX0_takeFrom 56 = .ok (.aload_n 0, 1) := by decide +kernel
theorem dX0_takeFrom_57 : decode cX0_takeFrom 57 = .ok (.getfield 21, 3) := by decide +kernel
theorem dX0_takeFrom_60 : decode cX0_takeFrom 60 = .ok (.iload_n 2, 1) := by decide +kernel
theorem dX0_takeFrom_61 : decode cX0_takeFrom 61 = .ok (.invokevirtual 129, 3) := by decide +kernel
theorem dX0_takeFrom_64 : decode cX0_takeFrom 64 = .ok (.pop, 1) := by decide +kernel
theorem dX0_takeFrom_65 : decode cX0_takeFrom 65 = .ok (.goto 15, 3) := by decide +kernel
theorem dX0_takeFrom_68 : decode cX0_takeFrom 68 = .ok (.aload_n 0, 1) := by decide +kernel
theorem dX0_takeFrom_69 : decode cX0_takeFrom 69 = .ok (.getfield 24, 3) := by decide +kernel
theorem dX0_takeFrom_72 : decode cX0_takeFrom 72 = .ok (.iload_n 2, 1) := by decide +kernel
theorem dX0_takeFrom_73 : decode cX0_takeFrom 73 = .ok (.invokevirtual 129, 3) := by decide +kernel
theorem dX0_takeFrom_76 : decode cX0_takeFrom 76 = .ok (.pop, 1) := by decide +kernel
theorem dX0_takeFrom_77 : decode cX0_takeFrom 77 = .ok (.goto 3, 3) := by decide +kernel
theorem dX0_takeFrom_80 : decode cX0_takeFrom 80 = .ok (.return_, 1) := by decide +kernel
theorem dX1_init_0 : decode cX1_init 0 = .ok (.aload_n 0, 1) := by decide +kernel
theorem dX1_init_1 : decode cX1_init 1 = .ok (.invokespecial 3, 3) := by decide +kernel
theorem dX1_init_4 : decode cX1_init 4 = .ok (.aload_n 0, 1) := by decide +kernel
theorem dX1_init_5 : decode cX1_init 5 = .ok (.bipush 64, 2) := by decide +kernel
theorem dX1_init_7 : decode cX1_init 7 = .ok (.newarray .int, 2) := by decide +kernel
theorem dX1_init_9 : decode cX1_init 9 = .ok (.putfield 9, 3) := by decide +kernel
theorem dX1_init_12 : decode cX1_init 12 = .ok (.return_, 1) := by decide +kernel
theorem dX1_length_0 : decode cX1_length 0 = .ok (.aload_n 0, 1) := by decide +kernel
theorem dX1_length_1 : decode cX1_length 1 = .ok (.getfield 15, 3) := by decide +kernel
theorem dX1_length_4 : decode cX1_length 4 = .ok (.ireturn, 1) := by decide +kernel
theorem dX1_empty_0 : decode cX1_empty 0 = .ok (.aload_n 0, 1) := by decide +kernel
theorem dX1_empty_1 : decode cX1_empty 1 = .ok (.iconst 0, 1) := by decide +kernel
theorem dX1_empty_2 : decode cX1_empty 2 = .ok (.putfield 15, 3) := by decide +kernel
theorem dX1_empty_5 : decode cX1_empty 5 = .ok (.return_, 1) := by decide +kernel
theorem dX1_join_0 : decode cX1_join 0 = .ok (.iload_n 1, 1) := by decide +kernel
theorem dX1_join_1 : decode cX1_join 1 = .ok (.iconst (-1), 1) := by decide +kernel
theorem dX1_join_2 : decode cX1_join 2 = .ok (.if_icmp .eq 35, 3) := by decide +kernel
