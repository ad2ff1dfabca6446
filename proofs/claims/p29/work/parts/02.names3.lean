theorem dX1_join_5 : decode cX1_join 5 = .ok (.aload_n 0, 1) := by decide +kernel
theorem dX1_join_6 : decode cX1_join 6 = .ok (.getfield 15, 3) := by decide +kernel
theorem dX1_join_9 : decode cX1_join 9 = .ok (.aload_n 0, 1) := by decide +kernel
theorem dX1_join_10 : decode cX1_join 10 = .ok (.getfield 9, 3) := by decide +kernel
theorem dX1_join_13 : decode cX1_join 13 = .ok (.arraylength, 1) := by decide +kernel
theorem dX1_join_14 : decode cX1_join 14 = .ok (.if_icmp .ge 23, 3) := by decide +kernel
theorem dX1_join_17 : decode cX1_join 17 = .ok (.aload_n 0, 1) := by decide +kernel
theorem dX1_join_18 : decode cX1_join 18 = .ok (.getfield 9, 3) := by decide +kernel
theorem dX1_join_21 : decode cX1_join 21 = .ok (.aload_n 0, 1) := by decide +kernel
theorem dX1_join_22 : decode cX1_join 22 = .ok (.getfield 15, 3) := by decide +kernel
theorem dX1_join_25 : decode cX1_join 25 = .ok (.iload_n 1, 1) := by decide +kernel
theorem dX1_join_26 : decode cX1_join 26 = .ok (.iastore, 1) := by decide +kernel
theorem dX1_join_27 : decode cX1_join 27 = .ok (.aload_n 0, 1) := by decide +kernel
theorem dX1_join_28 : decode cX1_join 28 = .ok (.dup, 1) := by decide +kernel
theorem dX1_join_29 : decode cX1_join 29 = .ok (.getfield 15, 3) := by decide +kernel
theorem dX1_join_32 : decode cX1_join 32 = .ok (.iconst 1, 1) := by decide +kernel
theorem dX1_join_33 : decode cX1_join 33 = .ok (.iadd, 1) := by decide +kernel
theorem dX1_join_34 : decode cX1_join 34 = .ok (.putfield 15, 3) := by decide +kernel
theorem dX1_join_37 : decode cX1_join 37 = .ok (.return_, 1) := by decide +kernel
set_option maxRecDepth 20000 in
theorem ggX1_holds_X1_indexOf : GoodIn wsX1_holds wsX1_indexOf := goodIn_r _ [5, 6, 7, 8, 9] (by decide +kernel) (by decide +kernel)
set_option maxRecDepth 20000 in
theorem gX1_holds_X1_indexOf : GoodIn wsX1_holds (wsV RX1 19 RX1 yX1_indexOf wsX1_indexOf) := goodIn_app (goodIn_of _ (by decide +kernel)) ggX1_holds_X1_indexOf
theorem dX1_holds_0 : decode cX1_holds 0 = .ok (.aload_n 0, 1) := by decide +kernel
theorem dX1_holds_1 : decode cX1_holds 1 = .ok (.iload_n 1, 1) := by decide +kernel
theorem dX1_holds_2 : decode cX1_holds 2 = .ok (.invokevirtual 19, 3) := by decide +kernel
theorem dX1_holds_5 : decode cX1_holds 5 = .ok (.ifCond .lt 7, 3) := by decide +kernel
theorem dX1_holds_8 : decode cX1_holds 8 = .ok (.iconst 1, 1) := by decide +kernel
theorem dX1_holds_9 : decode cX1_holds 9 = .ok (.goto 4, 3) := by decide +kernel
theorem dX1_holds_12 : decode cX1_holds 12 = .ok (.iconst 0, 1) := by decide +kernel
theorem dX1_holds_13 : decode cX1_holds 13 = .ok (.ireturn, 1) := by decide +kernel
set_option maxRecDepth 20000 in
theorem ggX1_oldest_X1_fromOldest : GoodIn wsX1_oldest wsX1_fromOldest := goodIn_r _ [5, 6, 7, 8, 9] (by decide +kernel) (by decide +kernel)
set_option maxRecDepth 20000 in
theorem gX1_oldest_X1_fromOldest : GoodIn wsX1_oldest (wsV RX1 23 RX1 yX1_fromOldest wsX1_fromOldest) := goodIn_app (goodIn_of _ (by decide +kernel)) ggX1_oldest_X1_fromOldest
theorem dX1_oldest_0 : decode cX1_oldest 0 = .ok (.aload_n 0, 1) := by decide +kernel
theorem dX1_oldest_1 : decode cX1_oldest 1 = .ok (.iconst 0, 1) := by decide +kernel
theorem dX1_oldest_2 : decode cX1_oldest 2 = .ok (.invokevirtual 23, 3) := by decide +kernel
theorem dX1_oldest_5 : decode cX1_oldest 5 = .ok (.ireturn, 1) := by decide +kernel
theorem dX1_fromOldest_0 : decode cX1_fromOldest 0 = .ok (.iload_n 1, 1) := by decide +kernel
theorem dX1_fromOldest_1 : decode cX1_fromOldest 1 = .ok (.ifCond .lt 29, 3) := by decide +kernel
theorem dX1_fromOldest_4 : decode cX1_fromOldest 4 = .ok (.iload_n 1, 1) := by decide +kernel
theorem dX1_fromOldest_5 : decode cX1_fromOldest 5 = .ok (.aload_n 0, 1) := by decide +kernel
theorem dX1_fromOldest_6 : decode cX1_fromOldest 6 = .ok (.getfield 15, 3) := by decide +kernel
theorem dX1_fromOldest_9 : decode cX1_fromOldest 9 = .ok (.if_icmp .ge 21, 3) := by decide +kernel
theorem dX1_fromOldest_12 : decode cX1_fromOldest 12 = .ok (.iload_n 1, 1) := by decide +kernel
theorem dX1_fromOldest_13 : decode cX1_fromOldest 13 = .ok (.aload_n 0, 1) := by decide +kernel
theorem dX1_fromOldest_14 : decode cX1_fromOldest 14 = .ok (.getfield 9, 3) := by decide +kernel
theorem dX1_fromOldest_17 : decode cX1_fromOldest 17 = .ok (.arraylength, 1) := by decide +kernel
theorem dX1_fromOldest_18 : decode cX1_fromOldest 18 = .ok (.if_icmp .ge 12, 3) := by decide +kernel
theorem dX1_fromOldest_21 : decode cX1_fromOldest 21 = .ok (.aload_n 0, 1) := by decide +kernel
theorem dX1_fromOldest_22 : decode cX1_fromOldest 22 = .ok (.getfield 9, 3) := by decide +kernel
theorem dX1_fromOldest_25 : decode cX1_fromOldest 25 = .ok (.iload_n 1, 1) := by decide +kernel
theorem dX1_fromOldest_26 : decode cX1_fromOldest 26 = .ok (.iaload, 1) := by decide +kernel
theorem dX1_fromOldest_27 : decode cX1_fromOldest 27 = .ok (.goto 4, 3) := by decide +kernel
theorem dX1_fromOldest_30 : decode cX1_fromOldest 30 = .ok (.iconst (-1), 1) := by decide +kernel
theorem dX1_fromOldest_31 : decode cX1_fromOldest 31 = .ok (.ireturn, 1) := by decide +kernel
set_option maxRecDepth 20000 in
theorem ggX1_fromNewest_X1_fromOldest : GoodIn wsX1_fromNewest wsX1_fromOldest := goodIn_r _ [6, 1, 7, 8, 9] (by decide +kernel) (by decide +kernel)
set_option maxRecDepth 20000 in
theorem gX1_fromNewest_X1_fromOldest : GoodIn wsX1_fromNewest (wsV RX1 23 RX1 yX1_fromOldest wsX1_fromOldest) := goodIn_app (goodIn_of _ (by decide +kernel)) ggX1_fromNewest_X1_fromOldest
theorem dX1_fromNewest_0 : decode cX1_fromNewest 0 = .ok (.aload_n 0, 1) := by decide +kernel
theorem dX1_fromNewest_1 : decode cX1_fromNewest 1 = .ok (.aload_n 0, 1) := by decide +kernel
theorem dX1_fromNewest_2 : decode cX1_fromNewest 2 = .ok (.getfield 15, 3) := by decide +kernel
theorem dX1_fromNewest_5 : decode cX1_fromNewest 5 = .ok (.iconst 1, 1) := by decide +kernel
theorem dX1_fromNewest_6 : decode cX1_fromNewest 6 = .ok (.isub, 1) := by decide +kernel
theorem dX1_fromNewest_7 : decode cX1_fromNewest 7 = .ok (.iload_n 1, 1) := by decide +kernel
theorem dX1_fromNewest_8 : decode cX1_fromNewest 8 = .ok (.isub, 1) := by decide +kernel
theorem dX1_fromNewest_9 : decode cX1_fromNewest 9 = .ok (.invokevirtual 23, 3) := by decide +kernel
theorem dX1_fromNewest_12 : decode cX1_fromNewest 12 = .ok (.ireturn, 1) := by decide +kernel
set_option maxRecDepth 20000 in
theorem ggX1_takeOldest_X1_fromOldest : GoodIn wsX1_takeOldest wsX1_fromOldest := goodIn_r _ [5, 6, 7, 12, 13] (by decide +kernel) (by decide +kernel)
set_option maxRecDepth 20000 in
theorem gX1_takeOldest_X1_fromOldest : GoodIn wsX1_takeOldest (wsV RX1 23 RX1 yX1_fromOldest wsX1_fromOldest) := goodIn_app (goodIn_of _ (by decide +kernel)) ggX1_takeOldest_X1_fromOldest
set_option maxRecDepth 20000 in
theorem ggX1_takeOldest_X1_closeGap : GoodIn wsX1_takeOldest wsX1_closeGap := goodIn_r _ [11, 6, 7, 12, 13] (by decide +kernel) (by decide +kernel)
set_option maxRecDepth 20000 in
theorem gX1_takeOldest_X1_closeGap : GoodIn wsX1_takeOldest (wsV RX1 26 RX1 yX1_closeGap wsX1_closeGap) := goodIn_app (goodIn_of _ (by decide +kernel)) ggX1_takeOldest_X1_closeGap
theorem dX1_takeOldest_0 : decode cX1_takeOldest 0 = .ok (.aload_n 0, 1) := by decide +kernel
theorem dX1_takeOldest_1 : decode cX1_takeOldest 1 = .ok (.iconst 0, 1) := by decide +kernel
theorem dX1_takeOldest_2 : decode cX1_takeOldest 2 = .ok (.invokevirtual 23, 3) := by decide +kernel
theorem dX1_takeOldest_5 : decode cX1_takeOldest 5 = .ok (.istore_n 1, 1) := by decide +kernel
theorem dX1_takeOldest_6 : decode cX1_takeOldest 6 = .ok (.aload_n 0, 1) := by decide +kernel
theorem dX1_takeOldest_7 : decode cX1_takeOldest 7 = .ok (.iconst 0, 1) := by decide +kernel
theorem dX1_takeOldest_8 : decode cX1_takeOldest 8 = .ok (.invokevirtual 26, 3) := by decide +kernel
theorem dX1_takeOldest_11 : decode cX1_takeOldest 11 = .ok (.iload_n 1, 1) := by decide +kernel
theorem dX1_takeOldest_12 : decode cX1_takeOldest 12 = .ok (.ireturn, 1) := by decide +kernel
set_option maxRecDepth 20000 in
theorem ggX1_takeOut_X1_indexOf : GoodIn wsX1_takeOut wsX1_indexOf := goodIn_r _ [5, 6, 7, 12, 13] (by decide +kernel) (by decide +kernel)
set_option maxRecDepth 20000 in
theorem gX1_takeOut_X1_indexOf : GoodIn wsX1_takeOut (wsV RX1 19 RX1 yX1_indexOf wsX1_indexOf) := goodIn_app (goodIn_of _ (by decide +kernel)) ggX1_takeOut_X1_indexOf
set_option maxRecDepth 20000 in
theorem ggX1_takeOut_X1_closeGap : GoodIn wsX1_takeOut wsX1_closeGap := goodIn_r _ [11, 6, 7, 12, 13] (by decide +kernel) (by decide +kernel)
set_option maxRecDepth 20000 in
theorem gX1_takeOut_X1_closeGap : GoodIn wsX1_takeOut (wsV RX1 26 RX1 yX1_closeGap wsX1_closeGap) := goodIn_app (goodIn_of _ (by decide +kernel)) ggX1_takeOut_X1_closeGap
theorem dX1_takeOut_0 : decode cX1_takeOut 0 = .ok (.aload_n 0, 1) := by decide +kernel
theorem dX1_takeOut_1 : decode cX1_takeOut 1 = .ok (.iload_n 1, 1) := by decide +kernel
theorem dX1_takeOut_2 : decode cX1_takeOut 2 = .ok (.invokevirtual 19, 3) := by decide +kernel
theorem dX1_takeOut_5 : decode cX1_takeOut 5 = .ok (.istore_n 2, 1) := by decide +kernel
theorem dX1_takeOut_6 : decode cX1_takeOut 6 = .ok (.aload_n 0, 1) := by decide +kernel
theorem dX1_takeOut_7 : decode cX1_takeOut 7 = .ok (.iload_n 2, 1) := by decide +kernel
theorem dX1_takeOut_8 : decode cX1_takeOut 8 = .ok (.invokevirtual 26, 3) := by decide +kernel
theorem dX1_takeOut_11 : decode cX1_takeOut 11 = .ok (.iload_n 2, 1) := by decide +kernel
theorem dX1_takeOut_12 : decode cX1_takeOut 12 = .ok (.ifCond .lt 7, 3) := by decide +kernel
theorem dX1_takeOut_15 : decode cX1_takeOut 15 = .ok (.iconst 1, 1) := by decide +kernel
theorem dX1_takeOut_16 : decode cX1_takeOut 16 = .ok (.goto 4, 3) := by decide +kernel
theorem dX1_takeOut_19 : decode cX1_takeOut 19 = .ok (.iconst 0, 1) := by decide +kernel
theorem dX1_takeOut_20 : decode cX1_takeOut 20 = .ok (.ireturn, 1) := by decide +kernel
theorem dX1_indexOf_0 : decode cX1_indexOf 0 = .ok (.iconst 0, 1) := by decide +kernel
theorem dX1_indexOf_1 : decode cX1_indexOf 1 = .ok (.istore_n 2, 1) := by decide +kernel
theorem dX1_indexOf_2 : decode cX1_indexOf 2 = .ok (.iload_n 2, 1) := by decide +kernel
theorem dX1_indexOf_3 : decode cX1_indexOf 3 = .ok (.aload_n 0, 1) := by decide +kernel
theorem dX1_indexOf_4 : decode cX1_indexOf 4 = .ok (.getfield 15, 3) := by decide +kernel
theorem dX1_indexOf_7 : decode cX1_indexOf 7 = .ok (.if_icmp .ge 30, 3) := by decide +kernel
theorem dX1_indexOf_10 : decode cX1_indexOf 10 = .ok (.iload_n 2, 1) := by decide +kernel
theorem dX1_indexOf_11 : decode cX1_indexOf 11 = .ok (.aload_n 0, 1) := by decide +kernel
theorem dX1_indexOf_12 : decode cX1_indexOf 12 = .ok (.getfield 9, 3) := by decide +kernel
theorem dX1_indexOf_15 : decode cX1_indexOf 15 = .ok (.arraylength, 1) := by decide +kernel
theorem dX1_indexOf_16 : decode cX1_indexOf 16 = .ok (.if_icmp .ge 21, 3) := by decide +kernel
theorem dX1_indexOf_19 : decode cX1_indexOf 19 = .ok (.aload_n 0, 1) := by decide +kernel
theorem dX1_indexOf_20 : decode cX1_indexOf 20 = .ok (.getfield 9, 3) := by decide +kernel
theorem dX1_indexOf_23 : decode cX1_indexOf 23 = .ok (.iload_n 2, 1) := by decide +kernel
theorem dX1_indexOf_24 : decode cX1_indexOf 24 = .ok (.iaload, 1) := by decide +kernel
theorem dX1_indexOf_25 : decode cX1_indexOf 25 = .ok (.iload_n 1, 1) := by decide +kernel
theorem dX1_indexOf_26 : decode cX1_indexOf 26 = .ok (.if_icmp .ne 5, 3) := by decide +kernel
theorem dX1_indexOf_29 : decode cX1_indexOf 29 = .ok (.iload_n 2, 1) := by decide +kernel
theorem dX1_indexOf_30 : decode cX1_indexOf 30 = .ok (.ireturn, 1) := by decide +kernel
theorem dX1_indexOf_31 : decode cX1_indexOf 31 = .ok (.iinc 2 1, 3) := by decide +kernel
theorem dX1_indexOf_34 : decode cX1_indexOf 34 = .ok (.goto (-32), 3) := by decide +kernel
theorem dX1_indexOf_37 : decode cX1_indexOf 37 = .ok (.iconst (-1), 1) := by decide +kernel
theorem dX1_indexOf_38 : decode cX1_indexOf 38 = .ok (.ireturn, 1) := by decide +kernel
theorem dX1_closeGap_0 : decode cX1_closeGap 0 = .ok (.iload_n 1, 1) := by decide +kernel
theorem dX1_closeGap_1 : decode cX1_closeGap 1 = .ok (.ifCond .lt 11, 3) := by decide +kernel
theorem dX1_closeGap_4 : decode cX1_closeGap 4 = .ok (.iload_n 1, 1) := by decide +kernel
theorem dX1_closeGap_5 : decode cX1_closeGap 5 = .ok (.aload_n 0, 1) := by decide +kernel
theorem dX1_closeGap_6 : decode cX1_closeGap 6 = .ok (.getfield 15, 3) := by decide +kernel
theorem dX1_closeGap_9 : decode cX1_closeGap 9 = .ok (.if_icmp .lt 4, 3) := by decide +kernel
theorem dX1_closeGap_12 : decode cX1_closeGap 12 = .ok (.return_, 1) := by decide +kernel
theorem dX1_closeGap_13 : decode cX1_closeGap 13 = .ok (.iload_n 1, 1) := by decide +kernel
theorem dX1_closeGap_14 : decode cX1_closeGap 14 = .ok (.istore_n 2, 1) := by decide +kernel
theorem dX1_closeGap_15 : decode cX1_closeGap 15 = .ok (.iload_n 2, 1) := by decide +kernel
theorem dX1_closeGap_16 : decode cX1_closeGap 16 = .ok (.iconst 1, 1) := by decide +kernel
theorem dX1_closeGap_17 : decode cX1_closeGap 17 = .ok (.iadd, 1) := by decide +kernel
theorem dX1_closeGap_18 : decode cX1_closeGap 18 = .ok (.aload_n 0, 1) := by decide +kernel
theorem dX1_closeGap_19 : decode cX1_closeGap 19 = .ok (.getfield 15, 3) := by decide +kernel
theorem dX1_closeGap_22 : decode cX1_closeGap 22 = .ok (.if_icmp .ge 34, 3) := by decide +kernel
theorem dX1_closeGap_25 : decode cX1_closeGap 25 = .ok (.iload_n 2, 1) := by decide +kernel
theorem dX1_closeGap_26 : decode cX1_closeGap 26 = .ok (.iconst 1, 1) := by decide +kernel
theorem dX1_closeGap_27 : decode cX1_closeGap 27 = .ok (.iadd, 1) := by decide +kernel
theorem dX1_closeGap_28 : decode cX1_closeGap 28 = .ok (.aload_n 0, 1) := by decide +kernel
theorem dX1_closeGap_29 : decode cX1_closeGap 29 = .ok (.getfield 9, 3) := by decide +kernel
theorem dX1_closeGap_32 : decode cX1_closeGap 32 = .ok (.arraylength, 1) := by decide +kernel
theorem dX1_closeGap_33 : decode cX1_closeGap 33 = .ok (.if_icmp .ge 23, 3) := by decide +kernel
theorem dX1_closeGap_36 : decode cX1_closeGap 36 = .ok (.aload_n 0, 1) := by decide +kernel
theorem dX1_closeGap_37 : decode cX1_closeGap 37 = .ok (.getfield 9, 3) := by decide +kernel
theorem dX1_closeGap_40 : decode cX1_closeGap 40 = .ok (.iload_n 2, 1) := by decide +kernel
theorem dX1_closeGap_41 : decode cX1_closeGap 41 = .ok (.aload_n 0, 1) := by decide +kernel
theorem dX1_closeGap_42 : decode cX1_closeGap 42 = .ok (.getfield 9, 3) := by decide +kernel
theorem dX1_closeGap_45 : decode cX1_closeGap 45 = .ok (.iload_n 2, 1) := by decide +kernel
theorem dX1_closeGap_46 : decode cX1_closeGap 46 = .ok (.iconst 1, 1) := by decide +kernel
theorem dX1_closeGap_47 : decode cX1_closeGap 47 = .ok (.iadd, 1) := by decide +kernel
theorem dX1_closeGap_48 : decode cX1_closeGap 48 = .ok (.iaload, 1) := by decide +kernel
theorem dX1_closeGap_49 : decode cX1_closeGap 49 = .ok (.iastore, 1) := by decide +kernel
theorem dX1_closeGap_50 : decode cX1_closeGap 50 = .ok (.iinc 2 1, 3) := by decide +kernel
theorem dX1_closeGap_53 : decode cX1_closeGap 53 = .ok (.goto (-38), 3) := by decide +kernel
theorem dX1_closeGap_56 : decode cX1_closeGap 56 = .ok (.aload_n 0, 1) := by decide +kernel
theorem dX1_closeGap_57 : decode cX1_closeGap 57 = .ok (.dup, 1) := by decide +kernel
theorem dX1_closeGap_58 : decode cX1_closeGap 58 = .ok (.getfield 15, 3) := by decide +kernel
theorem dX1_closeGap_61 : decode cX1_closeGap 61 = .ok (.iconst 1, 1) := by decide +kernel
theorem dX1_closeGap_62 : decode cX1_closeGap 62 = .ok (.isub, 1) := by decide +kernel
theorem dX1_closeGap_63 : decode cX1_closeGap 63 = .ok (.putfield 15, 3) := by decide +kernel
theorem dX1_closeGap_66 : decode cX1_closeGap 66 = .ok (.return_, 1) := by decide +kernel
set_option maxRecDepth 20000 in
theorem ggX2_init_X0_init : GoodIn wsX2_init wsX0_init := goodIn_r _ [15, 16, 2, 3, 17, 9, 10, 18, 19, 20, 21, 22, 23, 24, 25, 26, 27, 28, 47, 48, 29, 30, 31, 32, 33, 34, 35, 36, 37, 38] (by decide +kernel) (by decide +kernel)
set_option maxRecDepth 20000 in
theorem gX2_init_X0_init_n11 : GoodIn wsX2_init (wsX0_init) := ggX2_init_X0_init
set_option maxRecDepth 20000 in
theorem ggX2_init_X1_init : GoodIn wsX2_init wsX1_init := goodIn_r _ [25, 26, 2, 3, 27, 28, 47, 48] (by decide +kernel) (by decide +kernel)
set_option maxRecDepth 20000 in
theorem gX2_init_X1_init_n18 : GoodIn wsX2_init (wsX1_init) := ggX2_init_X1_init
theorem dX2_init_0 : decode cX2_init 0 = .ok (.aload_n 0, 1) := by decide +kernel
theorem dX2_init_1 : decode cX2_init 1 = .ok (.invokespecial 3, 3) := by decide +kernel
theorem dX2_init_4 : decode cX2_init 4 = .ok (.aload_n 0, 1) := by decide +kernel
theorem dX2_init_5 : decode cX2_init 5 = .ok (.new 9, 3) := by decide +kernel
theorem dX2_init_8 : decode cX2_init 8 = .ok (.dup, 1) := by decide +kernel
theorem dX2_init_9 : decode cX2_init 9 = .ok (.invokespecial 11, 3) := by decide +kernel
theorem dX2_init_12 : decode cX2_init 12 = .ok (.putfield 12, 3) := by decide +kernel
theorem dX2_init_15 : decode cX2_init 15 = .ok (.aload_n 0, 1) := by decide +kernel
theorem dX2_init_16 : decode cX2_init 16 = .ok (.new 16, 3) := by decide +kernel
theorem dX2_init_19 : decode cX2_init 19 = .ok (.dup, 1) := by decide +kernel
theorem dX2_init_20 : decode cX2_init 20 = .ok (.invokespecial 18, 3) := by decide +kernel
theorem dX2_init_23 : decode cX2_init 23 = .ok (.putfield 19, 3) := by decide +kernel
theorem dX2_init_26 : decode cX2_init 26 = .ok (.aload_n 0, 1) := by decide +kernel
theorem dX2_init_27 : decode cX2_init 27 = .ok (.new 9, 3) := by decide +kernel
theorem dX2_init_30 : decode cX2_init 30 = .ok (.dup, 1) := by decide +kernel
theorem dX2_init_31 : decode cX2_init 31 = .ok (.invokespecial 11, 3) := by decide +kernel
theorem dX2_init_34 : decode cX2_init 34 = .ok (.putfield 23, 3) := by decide +kernel
theorem dX2_init_37 : decode cX2_init 37 = .ok (.aload_n 0, 1) := by decide +kernel
theorem dX2_init_38 : decode cX2_init 38 = .ok (.new 16, 3) := by decide +kernel
theorem dX2_init_41 : decode cX2_init 41 = .ok (.dup, 1) := by decide +kernel
theorem dX2_init_42 : decode cX2_init 42 = .ok (.invokespecial 18, 3) := by decide +kernel
theorem dX2_init_45 : decode cX2_init 45 = .ok (.putfield 26, 3) := by decide +kernel
theorem dX2_init_48 : decode cX2_init 48 = .ok (.return_, 1) := by decide +kernel
set_option maxRecDepth 20000 in
theorem ggX2_request_X2_checkKey : GoodIn wsX2_request wsX2_checkKey := goodIn_ca (goodIn_r _ [5, 6, 7] (by decide +kernel) (by decide +kernel)) (goodIn_sub (fun _ h => List.mem_cons_of_mem _ (List.mem_append_right _ h)) (by decide +kernel))
set_option maxRecDepth 20000 in
theorem gX2_request_X2_checkKey : GoodIn wsX2_request (va_wsS RX2 29 yX2_checkKey wsX2_checkKey) := goodIn_app (goodIn_of _ (by decide +kernel)) ggX2_request_X2_checkKey
set_option maxRecDepth 20000 in
theorem ggX2_request_X2_addToLog : GoodIn wsX2_request wsX2_addToLog := goodIn_r _ [11, 12, 13, 14, 15, 16, 17, 18, 19, 20, 21, 22, 23, 24, 25, 26, 27, 28, 29, 30, 31, 32, 33, 34, 35, 139, 140, 141, 142, 143, 144, 145, 146, 147, 148] (by decide +kernel) (by decide +kernel)
set_option maxRecDepth 20000 in
theorem gX2_request_X2_addToLog : GoodIn wsX2_request (wsV RX2 33 RX2 yX2_addToLog wsX2_addToLog) := goodIn_app (goodIn_of _ (by decide +kernel)) ggX2_request_X2_addToLog
set_option maxRecDepth 20000 in
theorem ggX2_request_X0_serve : GoodIn wsX2_request wsX0_serve := goodIn_r _ [40, 41, 42, 43, 44, 45, 46, 39, 47, 48, 49, 50, 51, 52, 53, 54, 55, 56, 57, 58, 16, 59, 60, 61, 62, 63, 18, 27, 64, 4, 65, 66, 67, 68, 69, 70, 71, 72, 73, 74, 75, 76, 77, 78, 79, 80, 14, 15, 17, 81, 20, 21, 22, 23, 24, 25, 26, 28, 29, 30, 31, 82, 83, 84, 85, 86, 87, 88, 89, 90, 91, 92, 93, 94, 95, 96, 97, 98, 99, 100, 101, 102, 103, 104, 105, 106, 107, 33, 34, 35, 108, 109, 110, 111, 112, 113, 114, 115, 116, 117, 118, 119, 120, 121, 122, 123, 124, 125, 126, 127, 128, 129, 149, 150, 151, 152, 153, 154, 155, 156, 157, 158, 147, 148] (by decide +kernel) (by decide +kernel)
set_option maxRecDepth 20000 in
theorem gX2_request_X0_serve : GoodIn wsX2_request (wsV RX2 36 RX0 yX0_serve wsX0_serve) := goodIn_app (goodIn_of _ (by decide +kernel)) ggX2_request_X0_serve
set_option maxRecDepth 20000 in
theorem ggX2_request_X2_count : GoodIn wsX2_request wsX2_count := goodIn_r _ [133, 134, 135, 136, 137, 138, 64, 4, 65, 139, 140, 141, 142, 143, 144, 145, 146] (by decide +kernel) (by decide +kernel)
set_option maxRecDepth 20000 in
theorem gX2_request_X2_count : GoodIn wsX2_request (wsV RX2 40 RX2 yX2_count wsX2_count) := goodIn_app (goodIn_of _ (by decide +kernel)) ggX2_request_X2_count
theorem dX2_request_0 : decode cX2_request 0 = .ok (.iload_n 1, 1) := by decide +kernel
theorem dX2_request_1 : decode cX2_request 1 = .ok (.invokestatic 29, 3) := by decide +kernel
theorem dX2_request_4 : decode cX2_request 4 = .ok (.aload_n 0, 1) := by decide +kernel
theorem dX2_request_5 : decode cX2_request 5 = .ok (.iload_n 1, 1) := by decide +kernel
theorem dX2_request_6 : decode cX2_request 6 = .ok (.invokevirtual 33, 3) := by decide +kernel
theorem dX2_request_9 : decode cX2_request 9 = .ok (.aload_n 0, 1) := by decide +kernel
theorem dX2_request_10 : decode cX2_request 10 = .ok (.getfield 12, 3) := by decide +kernel
theorem dX2_request_13 : decode cX2_request 13 = .ok (.iload_n 1, 1) := by decide +kernel
theorem dX2_request_14 : decode cX2_request 14 = .ok (.invokevirtual 36, 3) := by decide +kernel
theorem dX2_request_17 : decode cX2_request 17 = .ok (.istore_n 2, 1) := by decide +kernel
theorem dX2_request_18 : decode cX2_request 18 = .ok (.aload_n 0, 1) := by decide +kernel
theorem dX2_request_19 : decode cX2_request 19 = .ok (.iload_n 2, 1) := by decide +kernel
theorem dX2_request_20 : decode cX2_request 20 = .ok (.invokevirtual 40, 3) := by decide +kernel
theorem dX2_request_23 : decode cX2_request 23 = .ok (.iload_n 2, 1) := by decide +kernel
theorem dX2_request_24 : decode cX2_request 24 = .ok (.ireturn, 1) := by decide +kernel
set_option maxRecDepth 20000 in
theorem ggX2_remove_X2_checkKey : GoodIn wsX2_remove wsX2_checkKey := goodIn_ca (goodIn_r _ [5, 6, 7] (by decide +kernel) (by decide +kernel)) (goodIn_sub (fun _ h => List.mem_cons_of_mem _ (List.mem_append_right _ h)) (by decide +kernel))
set_option maxRecDepth 20000 in
theorem gX2_remove_X2_checkKey : GoodIn wsX2_remove (va_wsS RX2 29 yX2_checkKey wsX2_checkKey) := goodIn_app (goodIn_of _ (by decide +kernel)) ggX2_remove_X2_checkKey
set_option maxRecDepth 20000 in
theorem ggX2_remove_X0_forget : GoodIn wsX2_remove wsX0_forget := goodIn_r _ [12, 13, 14, 15, 11, 16, 17, 18, 19, 20, 21, 22, 23, 24, 25, 26, 27, 28, 29, 30, 31, 32, 33, 34, 35, 36, 37, 38, 39, 40, 41, 42, 43, 52, 53, 54, 55, 56, 57, 58, 59, 60, 61, 62, 63] (by decide +kernel) (by decide +kernel)
set_option maxRecDepth 20000 in
theorem gX2_remove_X0_forget : GoodIn wsX2_remove (wsV RX2 43 RX0 yX0_forget wsX0_forget) := goodIn_app (goodIn_of _ (by decide +kernel)) ggX2_remove_X0_forget
theorem dX2_remove_0 : decode cX2_remove 0 = .ok (.iload_n 1, 1) := by decide +kernel
theorem dX2_remove_1 : decode cX2_remove 1 = .ok (.invokestatic 29, 3) := by decide +kernel
theorem dX2_remove_4 : decode cX2_remove 4 = .ok (.aload_n 0, 1) := by decide +kernel
theorem dX2_remove_5 : decode cX2_remove 5 = .ok (.getfield 12, 3) := by decide +kernel
theorem dX2_remove_8 : decode cX2_remove 8 = .ok (.iload_n 1, 1) := by decide +kernel
theorem dX2_remove_9 : decode cX2_remove 9 = .ok (.invokevirtual 43, 3) := by decide +kernel
theorem dX2_remove_12 : decode cX2_remove 12 = .ok (.ireturn, 1) := by decide +kernel
set_option maxRecDepth 20000 in
theorem ggX2_clear_X0_forgetAll : GoodIn wsX2_clear wsX0_forgetAll := goodIn_r _ [6, 7, 8, 9, 10, 11, 12, 13, 14, 5, 15, 16, 17, 18, 19, 20, 21, 22, 23, 24, 25, 34, 35, 36, 37, 38, 39, 40, 41, 42, 43, 44, 45] (by decide +kernel) (by decide +kernel)
set_option maxRecDepth 20000 in
theorem gX2_clear_X0_forgetAll : GoodIn wsX2_clear (wsV RX2 46 RX0 yX0_forgetAll wsX0_forgetAll) := goodIn_app (goodIn_of _ (by decide +kernel)) ggX2_clear_X0_forgetAll
theorem dX2_clear_0 : decode cX2_clear 0 = .ok (.aload_n 0, 1) := by decide +kernel
theorem dX2_clear_1 : decode cX2_clear 1 = .ok (.getfield 12, 3) := by decide +kernel
theorem dX2_clear_4 : decode cX2_clear 4 = .ok (.invokevirtual 46, 3) := by decide +kernel
theorem dX2_clear_7 : decode cX2_clear 7 = .ok (.ireturn, 1) := by decide +kernel
set_option maxRecDepth 20000 in
theorem ggX2_setCapacity_X2_checkCapacity : GoodIn wsX2_setCapacity wsX2_checkCapacity := goodIn_ca (goodIn_r _ [5, 6, 7] (by decide +kernel) (by decide +kernel)) (goodIn_sub (fun _ h => List.mem_cons_of_mem _ (List.mem_append_right _ h)) (by decide +kernel))
set_option maxRecDepth 20000 in
theorem gX2_setCapacity_X2_checkCapacity : GoodIn wsX2_setCapacity (va_wsS RX2 50 yX2_checkCapacity wsX2_checkCapacity) := goodIn_app (goodIn_of _ (by decide +kernel)) ggX2_setCapacity_X2_checkCapacity
set_option maxRecDepth 20000 in
theorem ggX2_setCapacity_X0_changeCapacity : GoodIn wsX2_setCapacity wsX0_changeCapacity := goodIn_r _ [12, 13, 14, 15, 16, 17, 18, 19, 20, 21, 22, 23, 24, 25, 26, 11, 27, 28, 29, 30, 31, 32, 33, 34, 35, 36, 37, 38, 39, 40, 41, 42, 43, 44, 45, 46, 47, 48, 49, 50, 51, 52, 53, 54, 55, 56, 57, 58, 59, 60, 61, 62, 63, 64, 65, 66, 67, 68, 69, 78, 79, 80, 81, 82, 83, 84, 85, 86, 87, 88, 89] (by decide +kernel) (by decide +kernel)
set_option maxRecDepth 20000 in
theorem gX2_setCapacity_X0_changeCapacity : GoodIn wsX2_setCapacity (wsV RX2 53 RX0 yX0_changeCapacity wsX0_changeCapacity) := goodIn_app (goodIn_of _ (by decide +kernel)) ggX2_setCapacity_X0_changeCapacity
theorem dX2_setCapacity_0 : decode cX2_setCapacity 0 = .ok (.iload_n 1, 1) := by decide +kernel
theorem dX2_setCapacity_1 : decode cX2_setCapacity 1 = .ok (.invokestatic 50, 3) := by decide +kernel
theorem dX2_setCapacity_4 : decode cX2_setCapacity 4 = .ok (.aload_n 0, 1) := by decide +kernel
theorem dX2_setCapacity_5 : decode cX2_setCapacity 5 = .ok (.getfield 12, 3) := by decide +kernel
theorem dX2_setCapacity_8 : decode cX2_setCapacity 8 = .ok (.iload_n 1, 1) := by decide +kernel
theorem dX2_setCapacity_9 : decode cX2_setCapacity 9 = .ok (.invokevirtual 53, 3) := by decide +kernel
theorem dX2_setCapacity_12 : decode cX2_setCapacity 12 = .ok (.ireturn, 1) := by decide +kernel
theorem dX2_setScanLength_0 : decode cX2_setScanLength 0 = .ok (.iload_n 1, 1) := by decide +kernel
theorem dX2_setScanLength_1 : decode cX2_setScanLength 1 = .ok (.ifCond .eq 24, 3) := by decide +kernel
theorem dX2_setScanLength_4 : decode cX2_setScanLength 4 = .ok (.iload_n 1, 1) := by decide +kernel
theorem dX2_setScanLength_5 : decode cX2_setScanLength 5 = .ok (.iconst 2, 1) := by decide +kernel
theorem dX2_setScanLength_6 : decode cX2_setScanLength 6 = .ok (.if_icmp .lt 9, 3) := by decide +kernel
theorem dX2_setScanLength_9 : decode cX2_setScanLength 9 = .ok (.iload_n 1, 1) := by decide +kernel
theorem dX2_setScanLength_10 : decode cX2_setScanLength 10 = .ok (.bipush 20, 2) := by decide +kernel
theorem dX2_setScanLength_12 : decode cX2_setScanLength 12 = .ok (.if_icmp .le 13, 3) := by decide +kernel
theorem dX2_setScanLength_15 : decode cX2_setScanLength 15 = .ok (.new 60, 3) := by decide +kernel
theorem dX2_setScanLength_18 : decode cX2_setScanLength 18 = .ok (.dup, 1) := by decide +kernel
theorem dX2_setScanLength_19 : decode cX2_setScanLength 19 = .ok (.ldc 62, 2) := by decide +kernel
theorem dX2_setScanLength_21 : decode cX2_setScanLength 21 = .ok (.invokespecial 64, 3) := by decide +kernel
theorem dX2_setScanLength_24 : decode cX2_setScanLength 24 = .ok (.athrow, 1) := by decide +kernel
theorem dX2_setScanLength_25 : decode cX2_setScanLength 25 = .ok (.aload_n 0, 1) := by decide +kernel
theorem dX2_setScanLength_26 : decode cX2_setScanLength 26 = .ok (.getfield 12, 3) := by decide +kernel
theorem dX2_setScanLength_29 : decode cX2_setScanLength 29 = .ok (.getfield 67, 3) := by decide +kernel
theorem dX2_setScanLength_32 : decode cX2_setScanLength 32 = .ok (.istore_n 2, 1) := by decide +kernel
theorem dX2_setScanLength_33 : decode cX2_setScanLength 33 = .ok (.aload_n 0, 1) := by decide +kernel
theorem dX2_setScanLength_34 : decode cX2_setScanLength 34 = .ok (.getfield 12, 3) := by decide +kernel
theorem dX2_setScanLength_37 : decode cX2_setScanLength 37 = .ok (.iload_n 1, 1) := by decide +kernel
theorem dX2_setScanLength_38 : decode cX2_setScanLength 38 = .ok (.putfield 67, 3) := by decide +kernel
theorem dX2_setScanLength_41 : decode cX2_setScanLength 41 = .ok (.iload_n 2, 1) := by decide +kernel
theorem dX2_setScanLength_42 : decode cX2_setScanLength 42 = .ok (.ireturn, 1) := by decide +kernel
theorem dX2_run_0 : decode cX2_run 0 = .ok (.aload_n 0, 1) := by decide +kernel
theorem dX2_run_1 : decode cX2_run 1 = .ok (.getfield 12, 3) := by decide +kernel
theorem dX2_run_4 : decode cX2_run 4 = .ok (.getfield 70, 3) := by decide +kernel
theorem dX2_run_7 : decode cX2_run 7 = .ok (.ireturn, 1) := by decide +kernel
theorem dX2_target_0 : decode cX2_target 0 = .ok (.aload_n 0, 1) := by decide +kernel
theorem dX2_target_1 : decode cX2_target 1 = .ok (.getfield 12, 3) := by decide +kernel
theorem dX2_target_4 : decode cX2_target 4 = .ok (.getfield 73, 3) := by decide +kernel
theorem dX2_target_7 : decode cX2_target 7 = .ok (.ireturn, 1) := by decide +kernel
set_option maxRecDepth 20000 in
theorem ggX2_size_X0_pages : GoodIn wsX2_size wsX0_pages := goodIn_r _ [6, 7, 8, 9, 10, 11, 12, 13, 14, 23, 24, 25, 26, 27, 28, 29, 30, 31, 32, 33, 34] (by decide +kernel) (by decide +kernel)
set_option maxRecDepth 20000 in
theorem gX2_size_X0_pages : GoodIn wsX2_size (wsV RX2 76 RX0 yX0_pages wsX0_pages) := goodIn_app (goodIn_of _ (by decide +kernel)) ggX2_size_X0_pages
theorem dX2_size_0 : decode cX2_size 0 = .ok (.aload_n 0, 1) := by decide +kernel
theorem dX2_size_1 : decode cX2_size 1 = .ok (.getfield 12, 3) := by decide +kernel
theorem dX2_size_4 : decode cX2_size 4 = .ok (.invokevirtual 76, 3) := by decide +kernel
theorem dX2_size_7 : decode cX2_size 7 = .ok (.ireturn, 1) := by decide +kernel
set_option maxRecDepth 20000 in
theorem ggX2_whereIs_X2_checkKey : GoodIn wsX2_whereIs wsX2_checkKey := goodIn_ca (goodIn_r _ [5, 6, 7] (by decide +kernel) (by decide +kernel)) (goodIn_sub (fun _ h => List.mem_cons_of_mem _ (List.mem_append_right _ h)) (by decide +kernel))
set_option maxRecDepth 20000 in
theorem gX2_whereIs_X2_checkKey : GoodIn wsX2_whereIs (va_wsS RX2 29 yX2_checkKey wsX2_checkKey) := goodIn_app (goodIn_of _ (by decide +kernel)) ggX2_whereIs_X2_checkKey
set_option maxRecDepth 20000 in
theorem ggX2_whereIs_X0_listWith : GoodIn wsX2_whereIs wsX0_listWith := goodIn_r _ [12, 13, 14, 15, 16, 17, 18, 19, 20, 21, 22, 23, 24, 25, 26, 27, 36, 37, 38, 39, 40, 41, 42, 43, 44, 45, 46, 47] (by decide +kernel) (by decide +kernel)
set_option maxRecDepth 20000 in
theorem gX2_whereIs_X0_listWith : GoodIn wsX2_whereIs (wsV RX2 79 RX0 yX0_listWith wsX0_listWith) := goodIn_app (goodIn_of _ (by decide +kernel)) ggX2_whereIs_X0_listWith
theorem dX2_whereIs_0 : decode cX2_whereIs 0 = .ok (.iload_n 1, 1) := by decide +kernel
theorem dX2_whereIs_1 : decode cX2_whereIs 1 = .ok (.invokestatic 29, 3) := by decide +kernel
theorem dX2_whereIs_4 : decode cX2_whereIs 4 = .ok (.aload_n 0, 1) := by decide +kernel
theorem dX2_whereIs_5 : decode cX2_whereIs 5 = .ok (.getfield 12, 3) := by decide +kernel
theorem dX2_whereIs_8 : decode cX2_whereIs 8 = .ok (.iload_n 1, 1) := by decide +kernel
theorem dX2_whereIs_9 : decode cX2_whereIs 9 = .ok (.invokevirtual 79, 3) := by decide +kernel
theorem dX2_whereIs_12 : decode cX2_whereIs 12 = .ok (.ireturn, 1) := by decide +kernel
set_option maxRecDepth 20000 in
theorem ggX2_victim_X0_nextToLeave : GoodIn wsX2_victim wsX0_nextToLeave := goodIn_r _ [6, 7, 8, 9, 10, 11, 5, 12, 13, 14, 15, 16, 17, 18, 19, 20, 21, 22, 23, 24, 25, 26, 27, 28, 29, 30, 31, 32, 33, 34, 35, 36, 37, 38, 39, 40, 41, 42, 43, 44, 45, 46, 55, 56, 57, 58, 59, 60, 61, 62, 63, 64, 65, 66] (by decide +kernel) (by decide +kernel)
set_option maxRecDepth 20000 in
theorem gX2_victim_X0_nextToLeave : GoodIn wsX2_victim (wsV RX2 82 RX0 yX0_nextToLeave wsX0_nextToLeave) := goodIn_app (goodIn_of _ (by decide +kernel)) ggX2_victim_X0_nextToLeave
theorem dX2_victim_0 : decode cX2_victim 0 = .ok (.aload_n 0, 1) := by decide +kernel
theorem dX2_victim_1 : decode cX2_victim 1 = .ok (.getfield 12, 3) := by decide +kernel
theorem dX2_victim_4 : decode cX2_victim 4 = .ok (.invokevirtual 82, 3) := by decide +kernel
theorem dX2_victim_7 : decode cX2_victim 7 = .ok (.ireturn, 1) := by decide +kernel
set_option maxRecDepth 20000 in
theorem ggX2_recentAt_X2_keyAt : GoodIn wsX2_recentAt wsX2_keyAt := goodIn_ca (goodIn_r _ [5, 6, 7, 8, 9, 10, 11, 12, 13, 14, 15, 16, 17, 18, 19, 20, 21, 22, 41, 42] (by decide +kernel) (by decide +kernel)) (goodIn_sub (fun _ h => List.mem_cons_of_mem _ (List.mem_append_right _ h)) (by decide +kernel))
set_option maxRecDepth 20000 in
theorem gX2_recentAt_X2_keyAt : GoodIn wsX2_recentAt (va_wsS RX2 100 yX2_keyAt wsX2_keyAt) := goodIn_app (goodIn_of _ (by decide +kernel)) ggX2_recentAt_X2_keyAt
theorem dX2_recentAt_0 : decode cX2_recentAt 0 = .ok (.aload_n 0, 1) := by decide +kernel
theorem dX2_recentAt_1 : decode cX2_recentAt 1 = .ok (.getfield 12, 3) := by decide +kernel
theorem dX2_recentAt_4 : decode cX2_recentAt 4 = .ok (.getfield 85, 3) := by decide +kernel
theorem dX2_recentAt_7 : decode cX2_recentAt 7 = .ok (.iload_n 1, 1) := by decide +kernel
theorem dX2_recentAt_8 : decode cX2_recentAt 8 = .ok (.invokestatic 100, 3) := by decide +kernel
theorem dX2_recentAt_11 : decode cX2_recentAt 11 = .ok (.ireturn, 1) := by decide +kernel
set_option maxRecDepth 20000 in
theorem ggX2_frequentAt_X2_keyAt : GoodIn wsX2_frequentAt wsX2_keyAt := goodIn_ca (goodIn_r _ [5, 6, 7, 8, 9, 10, 11, 12, 13, 14, 15, 16, 17, 18, 19, 20, 21, 22, 41, 42] (by decide +kernel) (by decide +kernel)) (goodIn_sub (fun _ h => List.mem_cons_of_mem _ (List.mem_append_right _ h)) (by decide +kernel))
set_option maxRecDepth 20000 in
theorem gX2_frequentAt_X2_keyAt : GoodIn wsX2_frequentAt (va_wsS RX2 100 yX2_keyAt wsX2_keyAt) := goodIn_app (goodIn_of _ (by decide +kernel)) ggX2_frequentAt_X2_keyAt
theorem dX2_frequentAt_0 : decode cX2_frequentAt 0 = .ok (.aload_n 0, 1) := by decide +kernel
theorem dX2_frequentAt_1 : decode cX2_frequentAt 1 = .ok (.getfield 12, 3) := by decide +kernel
theorem dX2_frequentAt_4 : decode cX2_frequentAt 4 = .ok (.getfield 91, 3) := by decide +kernel
theorem dX2_frequentAt_7 : decode cX2_frequentAt 7 = .ok (.iload_n 1, 1) := by decide +kernel
theorem dX2_frequentAt_8 : decode cX2_frequentAt 8 = .ok (.invokestatic 100, 3) := by decide +kernel
theorem dX2_frequentAt_11 : decode cX2_frequentAt 11 = .ok (.ireturn, 1) := by decide +kernel
set_option maxRecDepth 20000 in
theorem ggX2_recentGhostAt_X2_keyAt : GoodIn wsX2_recentGhostAt wsX2_keyAt := goodIn_ca (goodIn_r _ [5, 6, 7, 8, 9, 10, 11, 12, 13, 14, 15, 16, 17, 18, 19, 20, 21, 22, 41, 42] (by decide +kernel) (by decide +kernel)) (goodIn_sub (fun _ h => List.mem_cons_of_mem _ (List.mem_append_right _ h)) (by decide +kernel))
set_option maxRecDepth 20000 in
theorem gX2_recentGhostAt_X2_keyAt : GoodIn wsX2_recentGhostAt (va_wsS RX2 100 yX2_keyAt wsX2_keyAt) := goodIn_app (goodIn_of _ (by decide +kernel)) ggX2_recentGhostAt_X2_keyAt
theorem dX2_recentGhostAt_0 : decode cX2_recentGhostAt 0 = .ok (.aload_n 0, 1) := by decide +kernel
theorem dX2_recentGhostAt_1 : decode cX2_recentGhostAt 1 = .ok (.getfield 12, 3) := by decide +kernel
theorem dX2_recentGhostAt_4 : decode cX2_recentGhostAt 4 = .ok (.getfield 94, 3) := by decide +kernel
theorem dX2_recentGhostAt_7 : decode cX2_recentGhostAt 7 = .ok (.iload_n 1, 1) := by decide +kernel
theorem dX2_recentGhostAt_8 : decode cX2_recentGhostAt 8 = .ok (.invokestatic 100, 3) := by decide +kernel
theorem dX2_recentGhostAt_11 : decode cX2_recentGhostAt 11 = .ok (.ireturn, 1) := by decide +kernel
set_option maxRecDepth 20000 in
theorem ggX2_frequentGhostAt_X2_keyAt : GoodIn wsX2_frequentGhostAt wsX2_keyAt := goodIn_ca (goodIn_r _ [5, 6, 7, 8, 9, 10, 11, 12, 13, 14, 15, 16, 17, 18, 19, 20, 21, 22, 41, 42] (by decide +kernel) (by decide +kernel)) (goodIn_sub (fun _ h => List.mem_cons_of_mem _ (List.mem_append_right _ h)) (by decide +kernel))
set_option maxRecDepth 20000 in
theorem gX2_frequentGhostAt_X2_keyAt : GoodIn wsX2_frequentGhostAt (va_wsS RX2 100 yX2_keyAt wsX2_keyAt) := goodIn_app (goodIn_of _ (by decide +kernel)) ggX2_frequentGhostAt_X2_keyAt
theorem dX2_frequentGhostAt_0 : decode cX2_frequentGhostAt 0 = .ok (.aload_n 0, 1) := by decide +kernel
theorem dX2_frequentGhostAt_1 : decode cX2_frequentGhostAt 1 = .ok (.getfield 12, 3) := by decide +kernel
theorem dX2_frequentGhostAt_4 : decode cX2_frequentGhostAt 4 = .ok (.getfield 97, 3) := by decide +kernel
theorem dX2_frequentGhostAt_7 : decode cX2_frequentGhostAt 7 = .ok (.iload_n 1, 1) := by decide +kernel
theorem dX2_frequentGhostAt_8 : decode cX2_frequentGhostAt 8 = .ok (.invokestatic 100, 3) := by decide +kernel
theorem dX2_frequentGhostAt_11 : decode cX2_frequentGhostAt 11 = .ok (.ireturn, 1) := by decide +kernel
theorem dX2_requests_0 : decode cX2_requests 0 = .ok (.aload_n 0, 1) := by decide +kernel
theorem dX2_requests_1 : decode cX2_requests 1 = .ok (.getfield 104, 3) := by decide +kernel
theorem dX2_requests_4 : decode cX2_requests 4 = .ok (.ireturn, 1) := by decide +kernel
theorem dX2_hits_0 : decode cX2_hits 0 = .ok (.aload_n 0, 1) := by decide +kernel
theorem dX2_hits_1 : decode cX2_hits 1 = .ok (.getfield 107, 3) := by decide +kernel
theorem dX2_hits_4 : decode cX2_hits 4 = .ok (.ireturn, 1) := by decide +kernel
theorem dX2_ghostHits_0 : decode cX2_ghostHits 0 = .ok (.aload_n 0, 1) := by decide +kernel
theorem dX2_ghostHits_1 : decode cX2_ghostHits 1 = .ok (.getfield 110, 3) := by decide +kernel
theorem dX2_ghostHits_4 : decode cX2_ghostHits 4 = .ok (.ireturn, 1) := by decide +kernel
theorem dX2_bypassed_0 : decode cX2_bypassed 0 = .ok (.aload_n 0, 1) := by decide +kernel
theorem dX2_bypassed_1 : decode cX2_bypassed 1 = .ok (.getfield 113, 3) := by decide +kernel
theorem dX2_bypassed_4 : decode cX2_bypassed 4 = .ok (.ireturn, 1) := by decide +kernel
theorem dX2_evictions_0 : decode cX2_evictions 0 = .ok (.aload_n 0, 1) := by decide +kernel
theorem dX2_evictions_1 : decode cX2_evictions 1 = .ok (.getfield 12, 3) := by decide +kernel
theorem dX2_evictions_4 : decode cX2_evictions 4 = .ok (.getfield 116, 3) := by decide +kernel
theorem dX2_evictions_7 : decode cX2_evictions 7 = .ok (.ireturn, 1) := by decide +kernel
set_option maxRecDepth 20000 in
theorem ggX2_hitsIf_X2_checkCapacity : GoodIn wsX2_hitsIf wsX2_checkCapacity := goodIn_ca (goodIn_r _ [7, 8, 9] (by decide +kernel) (by decide +kernel)) (goodIn_sub (fun _ h => List.mem_cons_of_mem _ (List.mem_append_right _ h)) (by decide +kernel))
set_option maxRecDepth 20000 in
theorem gX2_hitsIf_X2_checkCapacity : GoodIn wsX2_hitsIf (va_wsS RX2 50 yX2_checkCapacity wsX2_checkCapacity) := goodIn_app (goodIn_of _ (by decide +kernel)) ggX2_hitsIf_X2_checkCapacity
set_option maxRecDepth 20000 in
theorem ggX2_hitsIf_X0_startAnew : GoodIn wsX2_hitsIf wsX0_startAnew := goodIn_r _ [14, 15, 16, 17, 18, 19, 20, 21, 22, 13, 23, 24, 25, 26, 27, 28, 29, 30, 31, 32, 33, 34, 35, 36, 37, 38, 39, 40, 41, 42, 147, 148, 149, 150, 151, 152, 153, 154, 155, 156, 157, 158] (by decide +kernel) (by decide +kernel)
set_option maxRecDepth 20000 in
theorem gX2_hitsIf_X0_startAnew : GoodIn wsX2_hitsIf (wsV RX2 119 RX0 yX0_startAnew wsX0_startAnew) := goodIn_app (goodIn_of _ (by decide +kernel)) ggX2_hitsIf_X0_startAnew
set_option maxRecDepth 20000 in
theorem ggX2_hitsIf_X1_length : GoodIn wsX2_hitsIf wsX1_length := goodIn_r _ [37, 38, 157, 158] (by decide +kernel) (by decide +kernel)
set_option maxRecDepth 20000 in
theorem gX2_hitsIf_X1_length : GoodIn wsX2_hitsIf (wsV RX2 88 RX1 yX1_length wsX1_length) := goodIn_app (goodIn_of _ (by decide +kernel)) ggX2_hitsIf_X1_length
set_option maxRecDepth 20000 in
theorem ggX2_hitsIf_X1_fromOldest : GoodIn wsX2_hitsIf wsX1_fromOldest := goodIn_r _ [47, 38, 48, 157, 158] (by decide +kernel) (by decide +kernel)
set_option maxRecDepth 20000 in
theorem gX2_hitsIf_X1_fromOldest : GoodIn wsX2_hitsIf (wsV RX2 123 RX1 yX1_fromOldest wsX1_fromOldest) := goodIn_app (goodIn_of _ (by decide +kernel)) ggX2_hitsIf_X1_fromOldest
set_option maxRecDepth 20000 in
theorem ggX2_hitsIf_X0_serve : GoodIn wsX2_hitsIf wsX0_serve := goodIn_r _ [52, 16, 17, 25, 53, 54, 55, 13, 56, 18, 57, 58, 59, 60, 24, 26, 27, 61, 62, 63, 36, 64, 65, 66, 67, 68, 38, 48, 69, 6, 70, 71, 72, 73, 74, 19, 15, 75, 76, 77, 78, 79, 80, 81, 82, 33, 34, 35, 37, 83, 84, 85, 86, 87, 45, 46, 47, 88, 89, 90, 91, 92, 93, 94, 95, 29, 30, 31, 32, 96, 97, 98, 99, 100, 101, 102, 103, 104, 105, 106, 107, 108, 109, 110, 111, 28, 112, 113, 114, 115, 116, 117, 118, 119, 120, 121, 122, 123, 124, 125, 126, 127, 128, 129, 130, 131, 132, 133, 134, 135, 136, 137, 147, 148, 149, 150, 151, 152, 153, 154, 155, 156, 157, 158] (by decide +kernel) (by decide +kernel)
set_option maxRecDepth 20000 in
theorem gX2_hitsIf_X0_serve : GoodIn wsX2_hitsIf (wsV RX2 36 RX0 yX0_serve wsX0_serve) := goodIn_app (goodIn_of _ (by decide +kernel)) ggX2_hitsIf_X0_serve
set_option maxRecDepth 20000 in
theorem ggX2_hitsIf_X2_isPage : GoodIn wsX2_hitsIf wsX2_isPage := goodIn_r _ [70] (by decide +kernel) (by decide +kernel)
set_option maxRecDepth 20000 in
theorem gX2_hitsIf_X2_isPage : GoodIn wsX2_hitsIf (va_wsS RX2 126 yX2_isPage wsX2_isPage) := goodIn_app (goodIn_of _ (by decide +kernel)) ggX2_hitsIf_X2_isPage
theorem dX2_hitsIf_0 : decode cX2_hitsIf 0 = .ok (.iload_n 1, 1) := by decide +kernel
theorem dX2_hitsIf_1 : decode cX2_hitsIf 1 = .ok (.invokestatic 50, 3) := by decide +kernel
theorem dX2_hitsIf_4 : decode cX2_hitsIf 4 = .ok (.aload_n 0, 1) := by decide +kernel
theorem dX2_hitsIf_5 : decode cX2_hitsIf 5 = .ok (.getfield 23, 3) := by decide +kernel
theorem dX2_hitsIf_8 : decode cX2_hitsIf 8 = .ok (.iload_n 1, 1) := by decide +kernel
theorem dX2_hitsIf_9 : decode cX2_hitsIf 9 = .ok (.aload_n 0, 1) := by decide +kernel
theorem dX2_hitsIf_10 : decode cX2_hitsIf 10 = .ok (.getfield 12, 3) := by decide +kernel
theorem dX2_hitsIf_13 : decode cX2_hitsIf 13 = .ok (.getfield 67, 3) := by decide +kernel
theorem dX2_hitsIf_16 : decode cX2_hitsIf 16 = .ok (.invokevirtual 119, 3) := by decide +kernel
theorem dX2_hitsIf_19 : decode cX2_hitsIf 19 = .ok (.iconst 0, 1) := by decide +kernel
theorem dX2_hitsIf_20 : decode cX2_hitsIf 20 = .ok (.istore_n 2, 1) := by decide +kernel
theorem dX2_hitsIf_21 : decode cX2_hitsIf 21 = .ok (.iconst 0, 1) := by decide +kernel
theorem dX2_hitsIf_22 : decode cX2_hitsIf 22 = .ok (.istore_n 3, 1) := by decide +kernel
theorem dX2_hitsIf_23 : decode cX2_hitsIf 23 = .ok (.iload_n 3, 1) := by decide +kernel
theorem dX2_hitsIf_24 : decode cX2_hitsIf 24 = .ok (.aload_n 0, 1) := by decide +kernel
theorem dX2_hitsIf_25 : decode cX2_hitsIf 25 = .ok (.getfield 19, 3) := by decide +kernel
theorem dX2_hitsIf_28 : decode cX2_hitsIf 28 = .ok (.invokevirtual 88, 3) := by decide +kernel
theorem dX2_hitsIf_31 : decode cX2_hitsIf 31 = .ok (.if_icmp .ge 33, 3) := by decide +kernel
theorem dX2_hitsIf_34 : decode cX2_hitsIf 34 = .ok (.aload_n 0, 1) := by decide +kernel
theorem dX2_hitsIf_35 : decode cX2_hitsIf 35 = .ok (.getfield 23, 3) := by decide +kernel
theorem dX2_hitsIf_38 : decode cX2_hitsIf 38 = .ok (.aload_n 0, 1) := by decide +kernel
theorem dX2_hitsIf_39 : decode cX2_hitsIf 39 = .ok (.getfield 19, 3) := by decide +kernel
theorem dX2_hitsIf_42 : decode cX2_hitsIf 42 = .ok (.iload_n 3, 1) := by decide +kernel
theorem dX2_hitsIf_43 : decode cX2_hitsIf 43 = .ok (.invokevirtual 123, 3) := by decide +kernel
theorem dX2_hitsIf_46 : decode cX2_hitsIf 46 = .ok (.invokevirtual 36, 3) := by decide +kernel
theorem dX2_hitsIf_49 : decode cX2_hitsIf 49 = .ok (.invokestatic 126, 3) := by decide +kernel
theorem dX2_hitsIf_52 : decode cX2_hitsIf 52 = .ok (.ifCond .eq 6, 3) := by decide +kernel
theorem dX2_hitsIf_55 : decode cX2_hitsIf 55 = .ok (.iinc 2 1, 3) := by decide +kernel
theorem dX2_hitsIf_58 : decode cX2_hitsIf 58 = .ok (.iinc 3 1, 3) := by decide +kernel
theorem dX2_hitsIf_61 : decode cX2_hitsIf 61 = .ok (.goto (-38), 3) := by decide +kernel
theorem dX2_hitsIf_64 : decode cX2_hitsIf 64 = .ok (.iload_n 2, 1) := by decide +kernel
theorem dX2_hitsIf_65 : decode cX2_hitsIf 65 = .ok (.ireturn, 1) := by decide +kernel
set_option maxRecDepth 20000 in
theorem ggX2_leastRecentHitsIf_X2_checkCapacity : GoodIn wsX2_leastRecentHitsIf wsX2_checkCapacity := goodIn_ca (goodIn_r _ [6, 7, 8] (by decide +kernel) (by decide +kernel)) (goodIn_sub (fun _ h => List.mem_cons_of_mem _ (List.mem_append_right _ h)) (by decide +kernel))
set_option maxRecDepth 20000 in
theorem gX2_leastRecentHitsIf_X2_checkCapacity : GoodIn wsX2_leastRecentHitsIf (va_wsS RX2 50 yX2_checkCapacity wsX2_checkCapacity) := goodIn_app (goodIn_of _ (by decide +kernel)) ggX2_leastRecentHitsIf_X2_checkCapacity
set_option maxRecDepth 20000 in
theorem ggX2_leastRecentHitsIf_X1_empty : GoodIn wsX2_leastRecentHitsIf wsX1_empty := goodIn_r _ [13, 14, 53, 54] (by decide +kernel) (by decide +kernel)
set_option maxRecDepth 20000 in
theorem gX2_leastRecentHitsIf_X1_empty : GoodIn wsX2_leastRecentHitsIf (wsV RX2 130 RX1 yX1_empty wsX1_empty) := goodIn_app (goodIn_of _ (by decide +kernel)) ggX2_leastRecentHitsIf_X1_empty
set_option maxRecDepth 20000 in
theorem ggX2_leastRecentHitsIf_X1_length : GoodIn wsX2_leastRecentHitsIf wsX1_length := goodIn_r _ [18, 14, 53, 54] (by decide +kernel) (by decide +kernel)
set_option maxRecDepth 20000 in
theorem gX2_leastRecentHitsIf_X1_length : GoodIn wsX2_leastRecentHitsIf (wsV RX2 88 RX1 yX1_length wsX1_length) := goodIn_app (goodIn_of _ (by decide +kernel)) ggX2_leastRecentHitsIf_X1_length
set_option maxRecDepth 20000 in
theorem ggX2_leastRecentHitsIf_X1_fromOldest : GoodIn wsX2_leastRecentHitsIf wsX1_fromOldest := goodIn_r _ [22, 14, 23, 53, 54] (by decide +kernel) (by decide +kernel)
set_option maxRecDepth 20000 in
theorem gX2_leastRecentHitsIf_X1_fromOldest : GoodIn wsX2_leastRecentHitsIf (wsV RX2 123 RX1 yX1_fromOldest wsX1_fromOldest) := goodIn_app (goodIn_of _ (by decide +kernel)) ggX2_leastRecentHitsIf_X1_fromOldest
set_option maxRecDepth 20000 in
theorem ggX2_leastRecentHitsIf_X1_takeOut : GoodIn wsX2_leastRecentHitsIf wsX1_takeOut := goodIn_r _ [27, 28, 29, 30, 12, 31, 14, 23, 32, 33, 34, 35, 53, 54] (by decide +kernel) (by decide +kernel)
set_option maxRecDepth 20000 in
theorem gX2_leastRecentHitsIf_X1_takeOut : GoodIn wsX2_leastRecentHitsIf (wsV RX2 133 RX1 yX1_takeOut wsX1_takeOut) := goodIn_app (goodIn_of _ (by decide +kernel)) ggX2_leastRecentHitsIf_X1_takeOut
set_option maxRecDepth 20000 in
theorem ggX2_leastRecentHitsIf_X1_takeOldest : GoodIn wsX2_leastRecentHitsIf wsX1_takeOldest := goodIn_r _ [39, 40, 20, 21, 12, 22, 14, 23, 32, 33, 34, 35, 53, 54] (by decide +kernel) (by decide +kernel)
set_option maxRecDepth 20000 in
theorem gX2_leastRecentHitsIf_X1_takeOldest : GoodIn wsX2_leastRecentHitsIf (wsV RX2 136 RX1 yX1_takeOldest wsX1_takeOldest) := goodIn_app (goodIn_of _ (by decide +kernel)) ggX2_leastRecentHitsIf_X1_takeOldest
set_option maxRecDepth 20000 in
theorem ggX2_leastRecentHitsIf_X1_join : GoodIn wsX2_leastRecentHitsIf wsX1_join := goodIn_r _ [44, 14, 23, 53, 54] (by decide +kernel) (by decide +kernel)
set_option maxRecDepth 20000 in
theorem gX2_leastRecentHitsIf_X1_join : GoodIn wsX2_leastRecentHitsIf (wsV RX2 139 RX1 yX1_join wsX1_join) := goodIn_app (goodIn_of _ (by decide +kernel)) ggX2_leastRecentHitsIf_X1_join
theorem dX2_leastRecentHitsIf_0 : decode cX2_leastRecentHitsIf 0 = .ok (.iload_n 1, 1) := by decide +kernel
theorem dX2_leastRecentHitsIf_1 : decode cX2_leastRecentHitsIf 1 = .ok (.invokestatic 50, 3) := by decide +kernel
theorem dX2_leastRecentHitsIf_4 : decode cX2_leastRecentHitsIf 4 = .ok (.aload_n 0, 1) := by decide +kernel
theorem dX2_leastRecentHitsIf_5 : decode cX2_leastRecentHitsIf 5 = .ok (.getfield 26, 3) := by decide +kernel
theorem dX2_leastRecentHitsIf_8 : decode cX2_leastRecentHitsIf 8 = .ok (.invokevirtual 130, 3) := by decide +kernel
theorem dX2_leastRecentHitsIf_11 : decode cX2_leastRecentHitsIf 11 = .ok (.iconst 0, 1) := by decide +kernel
theorem dX2_leastRecentHitsIf_12 : decode cX2_leastRecentHitsIf 12 = .ok (.istore_n 2, 1) := by decide +kernel
theorem dX2_leastRecentHitsIf_13 : decode cX2_leastRecentHitsIf 13 = .ok (.iconst 0, 1) := by decide +kernel
theorem dX2_leastRecentHitsIf_14 : decode cX2_leastRecentHitsIf 14 = .ok (.istore_n 3, 1) := by decide +kernel
theorem dX2_leastRecentHitsIf_15 : decode cX2_leastRecentHitsIf 15 = .ok (.iload_n 3, 1) := by decide +kernel
theorem dX2_leastRecentHitsIf_16 : decode cX2_leastRecentHitsIf 16 = .ok (.aload_n 0, 1) := by decide +kernel
theorem dX2_leastRecentHitsIf_17 : decode cX2_leastRecentHitsIf 17 = .ok (.getfield 19, 3) := by decide +kernel
theorem dX2_leastRecentHitsIf_20 : decode cX2_leastRecentHitsIf 20 = .ok (.invokevirtual 88, 3) := by decide +kernel
theorem dX2_leastRecentHitsIf_23 : decode cX2_leastRecentHitsIf 23 = .ok (.if_icmp .ge 65, 3) := by decide +kernel
theorem dX2_leastRecentHitsIf_26 : decode cX2_leastRecentHitsIf 26 = .ok (.aload_n 0, 1) := by decide +kernel
theorem dX2_leastRecentHitsIf_27 : decode cX2_leastRecentHitsIf 27 = .ok (.getfield 19, 3) := by decide +kernel
theorem dX2_leastRecentHitsIf_30 : decode cX2_leastRecentHitsIf 30 = .ok (.iload_n 3, 1) := by decide +kernel
theorem dX2_leastRecentHitsIf_31 : decode cX2_leastRecentHitsIf 31 = .ok (.invokevirtual 123, 3) := by decide +kernel
theorem dX2_leastRecentHitsIf_34 : decode cX2_leastRecentHitsIf 34 = .ok (.istore 4, 2) := by decide +kernel
theorem dX2_leastRecentHitsIf_36 : decode cX2_leastRecentHitsIf 36 = .ok (.aload_n 0, 1) := by decide +kernel
theorem dX2_leastRecentHitsIf_37 : decode cX2_leastRecentHitsIf 37 = .ok (.getfield 26, 3) := by decide +kernel
theorem dX2_leastRecentHitsIf_40 : decode cX2_leastRecentHitsIf 40 = .ok (.iload 4, 2) := by decide +kernel
theorem dX2_leastRecentHitsIf_42 : decode cX2_leastRecentHitsIf 42 = .ok (.invokevirtual 133, 3) := by decide +kernel
theorem dX2_leastRecentHitsIf_45 : decode cX2_leastRecentHitsIf 45 = .ok (.ifCond .eq 9, 3) := by decide +kernel
theorem dX2_leastRecentHitsIf_48 : decode cX2_leastRecentHitsIf 48 = .ok (.iinc 2 1, 3) := by decide +kernel
theorem dX2_leastRecentHitsIf_51 : decode cX2_leastRecentHitsIf 51 = .ok (.goto 22, 3) := by decide +kernel
theorem dX2_leastRecentHitsIf_54 : decode cX2_leastRecentHitsIf 54 = .ok (.aload_n 0, 1) := by decide +kernel
theorem dX2_leastRecentHitsIf_55 : decode cX2_leastRecentHitsIf 55 = .ok (.getfield 26, 3) := by decide +kernel
theorem dX2_leastRecentHitsIf_58 : decode cX2_leastRecentHitsIf 58 = .ok (.invokevirtual 88, 3) := by decide +kernel
theorem dX2_leastRecentHitsIf_61 : decode cX2_leastRecentHitsIf 61 = .ok (.iload_n 1, 1) := by decide +kernel
theorem dX2_leastRecentHitsIf_62 : decode cX2_leastRecentHitsIf 62 = .ok (.if_icmp .lt 11, 3) := by decide +kernel
theorem dX2_leastRecentHitsIf_65 : decode cX2_leastRecentHitsIf 65 = .ok (.aload_n 0, 1) := by decide +kernel
theorem dX2_leastRecentHitsIf_66 : decode cX2_leastRecentHitsIf 66 = .ok (.getfield 26, 3) := by decide +kernel
theorem dX2_leastRecentHitsIf_69 : decode cX2_leastRecentHitsIf 69 = .ok (.invokevirtual 136, 3) := by decide +kernel
theorem dX2_leastRecentHitsIf_72 : decode cX2_leastRecentHitsIf 72 = .ok (.pop, 1) := by decide +kernel
theorem dX2_leastRecentHitsIf_73 : decode cX2_leastRecentHitsIf 73 = .ok (.aload_n 0, 1) := by decide +kernel
theorem dX2_leastRecentHitsIf_74 : decode cX2_leastRecentHitsIf 74 = .ok (.getfield 26, 3) := by decide +kernel
theorem dX2_leastRecentHitsIf_77 : decode cX2_leastRecentHitsIf 77 = .ok (.iload 4, 2) := by decide +kernel
theorem dX2_leastRecentHitsIf_79 : decode cX2_leastRecentHitsIf 79 = .ok (.invokevirtual 139, 3) := by decide +kernel
theorem dX2_leastRecentHitsIf_82 : decode cX2_leastRecentHitsIf 82 = .ok (.iinc 3 1, 3) := by decide +kernel
theorem dX2_leastRecentHitsIf_85 : decode cX2_leastRecentHitsIf 85 = .ok (.goto (-70), 3) := by decide +kernel
theorem dX2_leastRecentHitsIf_88 : decode cX2_leastRecentHitsIf 88 = .ok (.iload_n 2, 1) := by decide +kernel
theorem dX2_leastRecentHitsIf_89 : decode cX2_leastRecentHitsIf 89 = .ok (.ireturn, 1) := by decide +kernel
theorem dX2_checkKey_0 : decode cX2_checkKey 0 = .ok (.iload_n 0, 1) := by decide +kernel
theorem dX2_checkKey_1 : decode cX2_checkKey 1 = .ok (.ifCond .lt 10, 3) := by decide +kernel
theorem dX2_checkKey_4 : decode cX2_checkKey 4 = .ok (.iload_n 0, 1) := by decide +kernel
theorem dX2_checkKey_5 : decode cX2_checkKey 5 = .ok (.sipush 9999, 3) := by decide +kernel
theorem dX2_checkKey_8 : decode cX2_checkKey 8 = .ok (.if_icmp .le 13, 3) := by decide +kernel
theorem dX2_checkKey_11 : decode cX2_checkKey 11 = .ok (.new 60, 3) := by decide +kernel
theorem dX2_checkKey_14 : decode cX2_checkKey 14 = .ok (.dup, 1) := by decide +kernel
theorem dX2_checkKey_15 : decode cX2_checkKey 15 = .ok (.ldc 142, 2) := by decide +kernel
theorem dX2_checkKey_17 : decode cX2_checkKey 17 = .ok (.invokespecial 64, 3) := by decide +kernel
theorem dX2_checkKey_20 : decode cX2_checkKey 20 = .ok (.athrow, 1) := by decide +kernel
theorem dX2_checkKey_21 : decode cX2_checkKey 21 = .ok (.return_, 1) := by decide +kernel
theorem dX2_checkCapacity_0 : decode cX2_checkCapacity 0 = .ok (.iload_n 0, 1) := by decide +kernel
theorem dX2_checkCapacity_1 : decode cX2_checkCapacity 1 = .ok (.iconst 1, 1) := by decide +kernel
theorem dX2_checkCapacity_2 : decode cX2_checkCapacity 2 = .ok (.if_icmp .lt 9, 3) := by decide +kernel
theorem dX2_checkCapacity_5 : decode cX2_checkCapacity 5 = .ok (.iload_n 0, 1) := by decide +kernel
theorem dX2_checkCapacity_6 : decode cX2_checkCapacity 6 = .ok (.bipush 32, 2) := by decide +kernel
theorem dX2_checkCapacity_8 : decode cX2_checkCapacity 8 = .ok (.if_icmp .le 13, 3) := by decide +kernel
theorem dX2_checkCapacity_11 : decode cX2_checkCapacity 11 = .ok (.new 60, 3) := by decide +kernel
theorem dX2_checkCapacity_14 : decode cX2_checkCapacity 14 = .ok (.dup, 1) := by decide +kernel
theorem dX2_checkCapacity_15 : decode cX2_checkCapacity 15 = .ok (.ldc 144, 2) := by decide +kernel
theorem dX2_checkCapacity_17 : decode cX2_checkCapacity 17 = .ok (.invokespecial 64, 3) := by decide +kernel
theorem dX2_checkCapacity_20 : decode cX2_checkCapacity 20 = .ok (.athrow, 1) := by decide +kernel
theorem dX2_checkCapacity_21 : decode cX2_checkCapacity 21 = .ok (.return_, 1) := by decide +kernel
set_option maxRecDepth 20000 in
theorem ggX2_keyAt_X1_length : GoodIn wsX2_keyAt wsX1_length := goodIn_r _ [7, 8, 18, 19] (by decide +kernel) (by decide +kernel)
set_option maxRecDepth 20000 in
theorem gX2_keyAt_X1_length : GoodIn wsX2_keyAt (wsV RX2 88 RX1 yX1_length wsX1_length) := goodIn_app (goodIn_of _ (by decide +kernel)) ggX2_keyAt_X1_length
set_option maxRecDepth 20000 in
theorem ggX2_keyAt_X1_fromNewest : GoodIn wsX2_keyAt wsX1_fromNewest := goodIn_r _ [12, 8, 13, 14, 15, 6, 16, 17, 18, 19] (by decide +kernel) (by decide +kernel)
set_option maxRecDepth 20000 in
theorem gX2_keyAt_X1_fromNewest : GoodIn wsX2_keyAt (wsV RX2 151 RX1 yX1_fromNewest wsX1_fromNewest) := goodIn_app (goodIn_of _ (by decide +kernel)) ggX2_keyAt_X1_fromNewest
theorem dX2_keyAt_0 : decode cX2_keyAt 0 = .ok (.iload_n 1, 1) := by decide +kernel
theorem dX2_keyAt_1 : decode cX2_keyAt 1 = .ok (.ifCond .lt 11, 3) := by decide +kernel
theorem dX2_keyAt_4 : decode cX2_keyAt 4 = .ok (.iload_n 1, 1) := by decide +kernel
theorem dX2_keyAt_5 : decode cX2_keyAt 5 = .ok (.aload_n 0, 1) := by decide +kernel
theorem dX2_keyAt_6 : decode cX2_keyAt 6 = .ok (.invokevirtual 88, 3) := by decide +kernel
theorem dX2_keyAt_9 : decode cX2_keyAt 9 = .ok (.if_icmp .lt 13, 3) := by decide +kernel
theorem dX2_keyAt_12 : decode cX2_keyAt 12 = .ok (.new 146, 3) := by decide +kernel
theorem dX2_keyAt_15 : decode cX2_keyAt 15 = .ok (.dup, 1) := by decide +kernel
theorem dX2_keyAt_16 : decode cX2_keyAt 16 = .ok (.ldc 148, 2) := by decide +kernel
theorem dX2_keyAt_18 : decode cX2_keyAt 18 = .ok (.invokespecial 150, 3) := by decide +kernel
theorem dX2_keyAt_21 : decode cX2_keyAt 21 = .ok (.athrow, 1) := by decide +kernel
theorem dX2_keyAt_22 : decode cX2_keyAt 22 = .ok (.aload_n 0, 1) := by decide +kernel
theorem dX2_keyAt_23 : decode cX2_keyAt 23 = .ok (.iload_n 1, 1) := by decide +kernel
theorem dX2_keyAt_24 : decode cX2_keyAt 24 = .ok (.invokevirtual 151, 3) := by decide +kernel
theorem dX2_keyAt_27 : decode cX2_keyAt 27 = .ok (.ireturn, 1) := by decide +kernel
theorem dX2_isPage_0 : decode cX2_isPage 0 = .ok (.iload_n 0, 1) := by decide +kernel
theorem dX2_isPage_1 : decode cX2_isPage 1 = .ok (.iconst 1, 1) := by decide +kernel
theorem dX2_isPage_2 : decode cX2_isPage 2 = .ok (.if_icmp .eq 8, 3) := by decide +kernel
theorem dX2_isPage_5 : decode cX2_isPage 5 = .ok (.iload_n 0, 1) := by decide +kernel
theorem dX2_isPage_6 : decode cX2_isPage 6 = .ok (.iconst 2, 1) := by decide +kernel
theorem dX2_isPage_7 : decode cX2_isPage 7 = .ok (.if_icmp .ne 7, 3) := by decide +kernel
theorem dX2_isPage_10 : decode cX2_isPage 10 = .ok (.iconst 1, 1) := by decide +kernel
theorem dX2_isPage_11 : decode cX2_isPage 11 = .ok (.goto 4, 3) := by decide +kernel
theorem dX2_isPage_14 : decode cX2_isPage 14 = .ok (.iconst 0, 1) := by decide +kernel
theorem dX2_isPage_15 : decode cX2_isPage 15 = .ok (.ireturn, 1) := by decide +kernel
set_option maxRecDepth 20000 in
theorem ggX2_addToLog_X1_length : GoodIn wsX2_addToLog wsX1_length := goodIn_r _ [6, 7, 33, 34] (by decide +kernel) (by decide +kernel)
set_option maxRecDepth 20000 in
theorem gX2_addToLog_X1_length : GoodIn wsX2_addToLog (wsV RX2 88 RX1 yX1_length wsX1_length) := goodIn_app (goodIn_of _ (by decide +kernel)) ggX2_addToLog_X1_length
set_option maxRecDepth 20000 in
theorem ggX2_addToLog_X1_takeOldest : GoodIn wsX2_addToLog wsX1_takeOldest := goodIn_r _ [11, 12, 13, 14, 5, 15, 7, 16, 17, 18, 19, 20, 33, 34] (by decide +kernel) (by decide +kernel)
set_option maxRecDepth 20000 in
theorem gX2_addToLog_X1_takeOldest : GoodIn wsX2_addToLog (wsV RX2 136 RX1 yX1_takeOldest wsX1_takeOldest) := goodIn_app (goodIn_of _ (by decide +kernel)) ggX2_addToLog_X1_takeOldest
set_option maxRecDepth 20000 in
theorem ggX2_addToLog_X1_join : GoodIn wsX2_addToLog wsX1_join := goodIn_r _ [24, 7, 16, 33, 34] (by decide +kernel) (by decide +kernel)
set_option maxRecDepth 20000 in
theorem gX2_addToLog_X1_join : GoodIn wsX2_addToLog (wsV RX2 139 RX1 yX1_join wsX1_join) := goodIn_app (goodIn_of _ (by decide +kernel)) ggX2_addToLog_X1_join
theorem dX2_addToLog_0 : decode cX2_addToLog 0 = .ok (.aload_n 0, 1) := by decide +kernel
theorem dX2_addToLog_1 : decode cX2_addToLog 1 = .ok (.getfield 19, 3) := by decide +kernel
theorem dX2_addToLog_4 : decode cX2_addToLog 4 = .ok (.invokevirtual 88, 3) := by decide +kernel
theorem dX2_addToLog_7 : decode cX2_addToLog 7 = .ok (.bipush 60, 2) := by decide +kernel
theorem dX2_addToLog_9 : decode cX2_addToLog 9 = .ok (.if_icmp .lt 11, 3) := by decide +kernel
theorem dX2_addToLog_12 : decode cX2_addToLog 12 = .ok (.aload_n 0, 1) := by decide +kernel
theorem dX2_addToLog_13 : decode cX2_addToLog 13 = .ok (.getfield 19, 3) := by decide +kernel
theorem dX2_addToLog_16 : decode cX2_addToLog 16 = .ok (.invokevirtual 136, 3) := by decide +kernel
theorem dX2_addToLog_19 : decode cX2_addToLog 19 = .ok (.pop, 1) := by decide +kernel
theorem dX2_addToLog_20 : decode cX2_addToLog 20 = .ok (.aload_n 0, 1) := by decide +kernel
theorem dX2_addToLog_21 : decode cX2_addToLog 21 = .ok (.getfield 19, 3) := by decide +kernel
theorem dX2_addToLog_24 : decode cX2_addToLog 24 = .ok (.iload_n 1, 1) := by decide +kernel
theorem dX2_addToLog_25 : decode cX2_addToLog 25 = .ok (.invokevirtual 139, 3) := by decide +kernel
theorem dX2_addToLog_28 : decode cX2_addToLog 28 = .ok (.return_, 1) := by decide +kernel
set_option maxRecDepth 20000 in
theorem ggX2_count_X2_isPage : GoodIn wsX2_count wsX2_isPage := goodIn_r _ [8] (by decide +kernel) (by decide +kernel)
set_option maxRecDepth 20000 in
theorem gX2_count_X2_isPage : GoodIn wsX2_count (va_wsS RX2 126 yX2_isPage wsX2_isPage) := goodIn_app (goodIn_of _ (by decide +kernel)) ggX2_count_X2_isPage
theorem dX2_count_0 : decode cX2_count 0 = .ok (.aload_n 0, 1) := by decide +kernel
theorem dX2_count_1 : decode cX2_count 1 = .ok (.dup, 1) := by decide +kernel
theorem dX2_count_2 : decode cX2_count 2 = .ok (.getfield 104, 3) := by decide +kernel
theorem dX2_count_5 : decode cX2_count 5 = .ok (.iconst 1, 1) := by decide +kernel
theorem dX2_count_6 : decode cX2_count 6 = .ok (.iadd, 1) := by decide +kernel
theorem dX2_count_7 : decode cX2_count 7 = .ok (.putfield 104, 3) := by decide +kernel
theorem dX2_count_10 : decode cX2_count 10 = .ok (.iload_n 1, 1) := by decide +kernel
theorem dX2_count_11 : decode cX2_count 11 = .ok (.invokestatic 126, 3) := by decide +kernel
theorem dX2_count_14 : decode cX2_count 14 = .ok (.ifCond .eq 16, 3) := by decide +kernel
theorem dX2_count_17 : decode cX2_count 17 = .ok (.aload_n 0, 1) := by decide +kernel
theorem dX2_count_18 : decode cX2_count 18 = .ok (.dup, 1) := by decide +kernel
theorem dX2_count_19 : decode cX2_count 19 = .ok (.getfield 107, 3) := by decide +kernel
theorem dX2_count_22 : decode cX2_count 22 = .ok (.iconst 1, 1) := by decide +kernel
theorem dX2_count_23 : decode cX2_count 23 = .ok (.iadd, 1) := by decide +kernel
theorem dX2_count_24 : decode cX2_count 24 = .ok (.putfield 107, 3) := by decide +kernel
theorem dX2_count_27 : decode cX2_count 27 = .ok (.goto 42, 3) := by decide +kernel
theorem dX2_count_30 : decode cX2_count 30 = .ok (.iload_n 1, 1) := by decide +kernel
theorem dX2_count_31 : decode cX2_count 31 = .ok (.iconst 3, 1) := by decide +kernel
theorem dX2_count_32 : decode cX2_count 32 = .ok (.if_icmp .eq 8, 3) := by decide +kernel
theorem dX2_count_35 : decode cX2_count 35 = .ok (.iload_n 1, 1) := by decide +kernel
theorem dX2_count_36 : decode cX2_count 36 = .ok (.iconst 4, 1) := by decide +kernel
theorem dX2_count_37 : decode cX2_count 37 = .ok (.if_icmp .ne 16, 3) := by decide +kernel
theorem dX2_count_40 : decode cX2_count 40 = .ok (.aload_n 0, 1) := by decide +kernel
theorem dX2_count_41 : decode cX2_count 41 = .ok (.dup, 1) := by decide +kernel
theorem dX2_count_42 : decode cX2_count 42 = .ok (.getfield 110, 3) := by decide +kernel
theorem dX2_count_45 : decode cX2_count 45 = .ok (.iconst 1, 1) := by decide +kernel
theorem dX2_count_46 : decode cX2_count 46 = .ok (.iadd, 1) := by decide +kernel
theorem dX2_count_47 : decode cX2_count 47 = .ok (.putfield 110, 3) := by decide +kernel
theorem dX2_count_50 : decode cX2_count 50 = .ok (.goto 19, 3) := by decide +kernel
theorem dX2_count_53 : decode cX2_count 53 = .ok (.iload_n 1, 1) := by decide +kernel
theorem dX2_count_54 : decode cX2_count 54 = .ok (.bipush 6, 2) := by decide +kernel
theorem dX2_count_56 : decode cX2_count 56 = .ok (.if_icmp .ne 13, 3) := by decide +kernel
theorem dX2_count_59 : decode cX2_count 59 = .ok (.aload_n 0, 1) := by decide +kernel
theorem dX2_count_60 : decode cX2_count 60 = .ok (.dup, 1) := by decide +kernel
theorem dX2_count_61 : decode cX2_count 61 = .ok (.getfield 113, 3) := by decide +kernel
theorem dX2_count_64 : decode cX2_count 64 = .ok (.iconst 1, 1) := by decide +kernel
theorem dX2_count_65 : decode cX2_count 65 = .ok (.iadd, 1) := by decide +kernel
theorem dX2_count_66 : decode cX2_count 66 = .ok (.putfield 113, 3) := by decide +kernel
theorem dX2_count_69 : decode cX2_count 69 = .ok (.return_, 1) := by decide +kernel
theorem dJ9_max_7cf53_0 : decode cJ9_max_7cf53 0 = .ok (.iload_n 0, 1) := by decide +kernel
theorem dJ9_max_7cf53_1 : decode cJ9_max_7cf53 1 = .ok (.iload_n 1, 1) := by decide +kernel
theorem dJ9_max_7cf53_2 : decode cJ9_max_7cf53 2 = .ok (.if_icmp .lt 7, 3) := by decide +kernel
theorem dJ9_max_7cf53_5 : decode cJ9_max_7cf53 5 = .ok (.iload_n 0, 1) := by decide +kernel
theorem dJ9_max_7cf53_6 : decode cJ9_max_7cf53 6 = .ok (.goto 4, 3) := by decide +kernel
theorem dJ9_max_7cf53_9 : decode cJ9_max_7cf53 9 = .ok (.iload_n 1, 1) := by decide +kernel
theorem dJ9_max_7cf53_10 : decode cJ9_max_7cf53 10 = .ok (.ireturn, 1) := by decide +kernel
theorem dJ9_min_7cf53_0 : decode cJ9_min_7cf53 0 = .ok (.iload_n 0, 1) := by decide +kernel
theorem dJ9_min_7cf53_1 : decode cJ9_min_7cf53 1 = .ok (.iload_n 1, 1) := by decide +kernel
theorem dJ9_min_7cf53_2 : decode cJ9_min_7cf53 2 = .ok (.if_icmp .gt 7, 3) := by decide +kernel
theorem dJ9_min_7cf53_5 : decode cJ9_min_7cf53 5 = .ok (.iload_n 0, 1) := by decide +kernel
theorem dJ9_min_7cf53_6 : decode cJ9_min_7cf53 6 = .ok (.goto 4, 3) := by decide +kernel
theorem dJ9_min_7cf53_9 : decode cJ9_min_7cf53 9 = .ok (.iload_n 1, 1) := by decide +kernel
theorem dJ9_min_7cf53_10 : decode cJ9_min_7cf53 10 = .ok (.ireturn, 1) := by decide +kernel
theorem dL_drawn_0 : decode cL_drawn 0 = .ok (.iload_n 1, 1) := by decide +kernel
theorem dL_drawn_1 : decode cL_drawn 1 = .ok (.aload_n 0, 1) := by decide +kernel
theorem dL_drawn_2 : decode cL_drawn 2 = .ok (.arraylength, 1) := by decide +kernel
theorem dL_drawn_3 : decode cL_drawn 3 = .ok (.if_icmp .ge 9, 3) := by decide +kernel
theorem dL_drawn_6 : decode cL_drawn 6 = .ok (.aload_n 0, 1) := by decide +kernel
theorem dL_drawn_7 : decode cL_drawn 7 = .ok (.iload_n 1, 1) := by decide +kernel
theorem dL_drawn_8 : decode cL_drawn 8 = .ok (.iaload, 1) := by decide +kernel
theorem dL_drawn_9 : decode cL_drawn 9 = .ok (.goto 12, 3) := by decide +kernel
theorem dL_drawn_12 : decode cL_drawn 12 = .ok (.sipush 11003, 3) := by decide +kernel
theorem dL_drawn_15 : decode cL_drawn 15 = .ok (.iload_n 1, 1) := by decide +kernel
theorem dL_drawn_16 : decode cL_drawn 16 = .ok (.imul, 1) := by decide +kernel
theorem dL_drawn_17 : decode cL_drawn 17 = .ok (.sipush 1201, 3) := by decide +kernel
theorem dL_drawn_20 : decode cL_drawn 20 = .ok (.iadd, 1) := by decide +kernel
theorem dL_drawn_21 : decode cL_drawn 21 = .ok (.istore_n 2, 1) := by decide +kernel
theorem dL_drawn_22 : decode cL_drawn 22 = .ok (.iload_n 2, 1) := by decide +kernel
theorem dL_drawn_23 : decode cL_drawn 23 = .ok (.ldc 7, 2) := by decide +kernel
theorem dL_drawn_25 : decode cL_drawn 25 = .ok (.iand, 1) := by decide +kernel
theorem dL_drawn_26 : decode cL_drawn 26 = .ok (.ireturn, 1) := by decide +kernel
set_option maxRecDepth 20000 in
theorem ggL_byKey_X2_request : GoodIn wsL_byKey wsX2_request := goodIn_ca (goodIn_r _ [6, 7, 8, 9, 5, 10, 11, 12, 13, 14, 15, 16, 17, 18, 19, 20, 21, 22, 23, 24, 25, 26, 27, 28, 29, 30, 31, 32, 33, 34, 35, 36, 37, 38, 39, 40, 41, 42, 43, 44, 45, 46, 47, 48, 49, 50, 51, 52, 53, 54, 55, 56, 57, 58, 59, 60, 61, 62, 63, 64, 65, 66, 67, 68, 69, 70, 71, 72, 73, 74, 75, 76, 77, 78, 79, 80, 81, 82, 83, 84, 85, 86, 87, 88, 89, 90, 91, 92, 93, 94, 95, 96, 97, 98, 99, 100, 101, 102, 103, 104, 105, 106, 107, 108, 109, 110, 111, 112, 113, 114, 115, 116, 117, 118, 119, 120, 121, 122, 123, 124, 125, 126, 127, 128, 129, 130, 131, 132, 133, 134, 135, 136, 137, 138, 139, 140, 141, 142, 143, 157, 158, 159, 160, 161, 162, 163, 164, 165, 166, 167, 168, 169, 170, 171, 172, 173, 174, 175, 176] (by decide +kernel) (by decide +kernel)) (goodIn_sub (fun _ h => List.mem_cons_of_mem _ (List.mem_append_right _ h)) (by decide +kernel))
set_option maxRecDepth 20000 in
theorem gL_byKey_X2_request : GoodIn wsL_byKey (wsV RL 8 RX2 yX2_request wsX2_request) := goodIn_app (goodIn_of _ (by decide +kernel)) ggL_byKey_X2_request
set_option maxRecDepth 20000 in
theorem ggL_byKey_X2_remove : GoodIn wsL_byKey wsX2_remove := goodIn_ca (goodIn_r _ [147, 7, 8, 9, 5, 10, 11, 12, 148, 149, 150, 44, 151, 54, 55, 56, 57, 58, 48, 59, 60, 61, 62, 63, 21, 64, 65, 66, 67, 68, 23, 32, 127, 128, 129, 130, 131, 132, 133, 134, 33, 34, 35, 36, 157, 158, 159, 160, 161, 162, 163, 164, 167, 168, 169, 170, 171, 172, 173, 174, 175, 176, 165, 166] (by decide +kernel) (by decide +kernel)) (goodIn_sub (fun _ h => List.mem_cons_of_mem _ (List.mem_append_right _ h)) (by decide +kernel))
set_option maxRecDepth 20000 in
theorem gL_byKey_X2_remove : GoodIn wsL_byKey (wsV RL 14 RX2 yX2_remove wsX2_remove) := goodIn_app (goodIn_of _ (by decide +kernel)) ggL_byKey_X2_remove
set_option maxRecDepth 20000 in
theorem ggL_byKey_X2_whereIs : GoodIn wsL_byKey wsX2_whereIs := goodIn_ca (goodIn_r _ [155, 7, 8, 9, 5, 10, 11, 12, 156, 55, 56, 44, 57, 58, 48, 59, 60, 61, 62, 63, 21, 64, 65, 66, 67, 68, 23, 32, 157, 158, 159, 160, 161, 162, 163, 164, 167, 168, 169, 170, 171, 172, 173, 174, 175, 176, 165, 166] (by decide +kernel) (by decide +kernel)) (goodIn_sub (fun _ h => List.mem_cons_of_mem _ (List.mem_append_right _ h)) (by decide +kernel))
set_option maxRecDepth 20000 in
theorem gL_byKey_X2_whereIs : GoodIn wsL_byKey (wsV RL 17 RX2 yX2_whereIs wsX2_whereIs) := goodIn_app (goodIn_of _ (by decide +kernel)) ggL_byKey_X2_whereIs
theorem dL_byKey_0 : decode cL_byKey 0 = .ok (.iload_n 1, 1) := by decide +kernel
theorem dL_byKey_1 : decode cL_byKey 1 = .ok (.ifCond .ne 11, 3) := by decide +kernel
theorem dL_byKey_4 : decode cL_byKey 4 = .ok (.aload_n 0, 1) := by decide +kernel
theorem dL_byKey_5 : decode cL_byKey 5 = .ok (.iload_n 2, 1) := by decide +kernel
theorem dL_byKey_6 : decode cL_byKey 6 = .ok (.invokevirtual 8, 3) := by decide +kernel
theorem dL_byKey_9 : decode cL_byKey 9 = .ok (.goto 21, 3) := by decide +kernel
theorem dL_byKey_12 : decode cL_byKey 12 = .ok (.iload_n 1, 1) := by decide +kernel
theorem dL_byKey_13 : decode cL_byKey 13 = .ok (.iconst 1, 1) := by decide +kernel
theorem dL_byKey_14 : decode cL_byKey 14 = .ok (.if_icmp .ne 11, 3) := by decide +kernel
theorem dL_byKey_17 : decode cL_byKey 17 = .ok (.aload_n 0, 1) := by decide +kernel
theorem dL_byKey_18 : decode cL_byKey 18 = .ok (.iload_n 2, 1) := by decide +kernel
theorem dL_byKey_19 : decode cL_byKey 19 = .ok (.invokevirtual 14, 3) := by decide +kernel
theorem dL_byKey_22 : decode cL_byKey 22 = .ok (.goto 8, 3) := by decide +kernel
theorem dL_byKey_25 : decode cL_byKey 25 = .ok (.aload_n 0, 1) := by decide +kernel
theorem dL_byKey_26 : decode cL_byKey 26 = .ok (.iload_n 2, 1) := by decide +kernel
theorem dL_byKey_27 : decode cL_byKey 27 = .ok (.invokevirtual 17, 3) := by decide +kernel
theorem dL_byKey_30 : decode cL_byKey 30 = .ok (.ireturn, 1) := by decide +kernel
theorem dL_byKey_31 : decode cL_byKey 31 = .ok (.astore_n 3, 1) := by decide +kernel
theorem dL_byKey_32 : decode cL_byKey 32 = .ok (.bipush (-5), 2) := by decide +kernel
theorem dL_byKey_34 : decode cL_byKey 34 = .ok (.ireturn, 1) := by decide +kernel
set_option maxRecDepth 20000 in
theorem ggL_byNumber_X2_setCapacity : GoodIn wsL_byNumber wsX2_setCapacity := goodIn_ca (goodIn_r _ [6, 7, 8, 9, 5, 10, 11, 12, 13, 14, 15, 16, 17, 18, 19, 20, 21, 22, 23, 24, 25, 26, 27, 28, 29, 30, 31, 32, 33, 34, 35, 36, 37, 38, 39, 40, 41, 42, 43, 44, 45, 46, 47, 48, 49, 50, 51, 52, 53, 54, 55, 56, 57, 58, 59, 60, 61, 62, 63, 64, 65, 66, 67, 68, 69, 70, 71, 72, 73, 74, 165, 166, 167, 168, 169, 170, 171, 172, 173, 174, 175, 176, 177, 178, 179, 180, 181, 182, 183, 184] (by decide +kernel) (by decide +kernel)) (goodIn_sub (fun _ h => List.mem_cons_of_mem _ (List.mem_append_right _ h)) (by decide +kernel))
set_option maxRecDepth 20000 in
theorem gL_byNumber_X2_setCapacity : GoodIn wsL_byNumber (wsV RL 22 RX2 yX2_setCapacity wsX2_setCapacity) := goodIn_app (goodIn_of _ (by decide +kernel)) ggL_byNumber_X2_setCapacity
set_option maxRecDepth 20000 in
theorem ggL_byNumber_X2_setScanLength : GoodIn wsL_byNumber wsX2_setScanLength := goodIn_ca (goodIn_r _ [78, 11, 12, 7, 165, 166, 167, 168, 169, 170, 171, 172, 173, 174, 175, 176, 177, 178, 179, 180, 181, 182] (by decide +kernel) (by decide +kernel)) (goodIn_sub (fun _ h => List.mem_cons_of_mem _ (List.mem_append_right _ h)) (by decide +kernel))
set_option maxRecDepth 20000 in
theorem gL_byNumber_X2_setScanLength : GoodIn wsL_byNumber (wsV RL 25 RX2 yX2_setScanLength wsX2_setScanLength) := goodIn_app (goodIn_of _ (by decide +kernel)) ggL_byNumber_X2_setScanLength
set_option maxRecDepth 20000 in
theorem ggL_byNumber_X2_hitsIf : GoodIn wsL_byNumber wsX2_hitsIf := goodIn_ca (goodIn_r _ [82, 83, 7, 84, 8, 9, 5, 10, 11, 12, 85, 86, 87, 16, 88, 18, 89, 90, 91, 45, 92, 93, 94, 95, 33, 34, 27, 28, 19, 29, 30, 31, 32, 35, 36, 37, 38, 39, 40, 96, 97, 98, 99, 100, 101, 55, 56, 57, 58, 102, 103, 104, 105, 106, 107, 108, 109, 110, 111, 112, 113, 114, 115, 116, 117, 118, 119, 120, 121, 122, 123, 124, 125, 126, 127, 128, 129, 130, 131, 67, 68, 69, 70, 50, 51, 52, 53, 54, 59, 60, 61, 62, 71, 72, 73, 74, 132, 133, 134, 135, 136, 137, 138, 139, 41, 42, 43, 44, 46, 47, 48, 49, 63, 64, 65, 66, 140, 141, 142, 143, 20, 21, 22, 23, 24, 25, 26, 144, 145, 146, 147, 148, 149, 150, 151, 152, 153, 154, 155, 165, 166, 167, 168, 169, 170, 171, 172, 173, 174, 175, 176, 177, 178, 179, 180, 181, 182, 183, 184] (by decide +kernel) (by decide +kernel)) (goodIn_sub (fun _ h => List.mem_cons_of_mem _ (List.mem_append_right _ h)) (by decide +kernel))
set_option maxRecDepth 20000 in
theorem gL_byNumber_X2_hitsIf : GoodIn wsL_byNumber (wsV RL 28 RX2 yX2_hitsIf wsX2_hitsIf) := goodIn_app (goodIn_of _ (by decide +kernel)) ggL_byNumber_X2_hitsIf
set_option maxRecDepth 20000 in
theorem ggL_byNumber_X2_leastRecentHitsIf : GoodIn wsL_byNumber wsX2_leastRecentHitsIf := goodIn_ca (goodIn_r _ [159, 160, 84, 8, 9, 5, 10, 11, 12, 161, 97, 98, 38, 99, 40, 100, 36, 37, 39, 101, 55, 56, 57, 58, 162, 152, 153, 154, 118, 119, 120, 121, 59, 60, 61, 62, 163, 51, 52, 53, 54, 164, 64, 65, 66, 165, 166, 167, 168, 169, 170, 171, 172, 183, 184] (by decide +kernel) (by decide +kernel)) (goodIn_sub (fun _ h => List.mem_cons_of_mem _ (List.mem_append_right _ h)) (by decide +kernel))
set_option maxRecDepth 20000 in
theorem gL_byNumber_X2_leastRecentHitsIf : GoodIn wsL_byNumber (wsV RL 31 RX2 yX2_leastRecentHitsIf wsX2_leastRecentHitsIf) := goodIn_app (goodIn_of _ (by decide +kernel)) ggL_byNumber_X2_leastRecentHitsIf
theorem dL_byNumber_0 : decode cL_byNumber 0 = .ok (.iload_n 1, 1) := by decide +kernel
theorem dL_byNumber_1 : decode cL_byNumber 1 = .ok (.ifCond .ne 11, 3) := by decide +kernel
theorem dL_byNumber_4 : decode cL_byNumber 4 = .ok (.aload_n 0, 1) := by decide +kernel
theorem dL_byNumber_5 : decode cL_byNumber 5 = .ok (.iload_n 2, 1) := by decide +kernel
theorem dL_byNumber_6 : decode cL_byNumber 6 = .ok (.invokevirtual 22, 3) := by decide +kernel
theorem dL_byNumber_9 : decode cL_byNumber 9 = .ok (.goto 34, 3) := by decide +kernel
theorem dL_byNumber_12 : decode cL_byNumber 12 = .ok (.iload_n 1, 1) := by decide +kernel
theorem dL_byNumber_13 : decode cL_byNumber 13 = .ok (.iconst 1, 1) := by decide +kernel
theorem dL_byNumber_14 : decode cL_byNumber 14 = .ok (.if_icmp .ne 11, 3) := by decide +kernel
theorem dL_byNumber_17 : decode cL_byNumber 17 = .ok (.aload_n 0, 1) := by decide +kernel
theorem dL_byNumber_18 : decode cL_byNumber 18 = .ok (.iload_n 2, 1) := by decide +kernel
theorem dL_byNumber_19 : decode cL_byNumber 19 = .ok (.invokevirtual 25, 3) := by decide +kernel
theorem dL_byNumber_22 : decode cL_byNumber 22 = .ok (.goto 21, 3) := by decide +kernel
