theorem dX2_addToLog_1 : decode cX2_addToLog 1 = .ok (.getfield 19, 3) := by decide +kernel
theorem dX2_addToLog_4 : decode cX2_addToLog 4 = .ok (.invokevirtual 88, 3) := by decide +kernel
theorem dX2_addToLog_7 : decode cX2_addToLog 7 = .ok (.bipush 60, 2) := by decide +kernel
theorem dX2_addToLog_9 : decode cX2_addToLog 9 = .ok (.if_icmp .lt 11, 3) := by decide +kernel
theorem dX2_addToLog_12 : decode cX2_addToLog 12 = .ok (.aload_n 0, 1) := by decide +kernel
theorem dX2_addToLog_13 : decode cX2_addToLog 13 = .ok (.getfield 19, 3) := by decide +kernel
theorem dX2_addToLog_16 : decode cX2_addToLog 16 = .ok (.invokevirtual 136, 3) := by decide +kernel
theorem dX2_addToLog_19 : decode cX2_addToLog 19 = .ok (.pop, 1) := by decide +kernel
theorem dX2_addToLog_20 : decode cX2_addToLog 20 = .ok (.aload_n 0, 1) := by decide +kernel
theorem dX2_addToLog_21 : decode cX2_addToLog 21 = .ok (.getfield 19, 3) := by decide +kernel
theorem dX2_addToLog_24 : decode cX2_addToLog 24 = .ok (.iload_n 1, 1) := by decide +kernel
theorem dX2_addToLog_25 : decode cX2_addToLog 25 = .ok (.invokevirtual 139, 3) := by decide +kernel
theorem dX2_addToLog_28 : decode cX2_addToLog 28 = .ok (.return_, 1) := by decide +kernel
set_option maxRecDepth 20000 in
theorem ggX2_count_X2_isPage : GoodIn wsX2_count wsX2_isPage := goodIn_r _ [8] (by decide +kernel) (by decide +kernel)
set_option maxRecDepth 20000 in
theorem gX2_count_X2_isPage : GoodIn wsX2_count (va_wsS RX2 126 yX2_isPage wsX2_isPage) := goodIn_app (goodIn_of _ (by decide +kernel)) ggX2_count_X2_isPage
theorem dX2_count_0 : decode cX2_count 0 = .ok (.aload_n 0, 1) := by decide +kernel
theorem dX2_count_1 : decode cX2_count 1 = .ok (.dup, 1) := by decide +kernel
theorem dX2_count_2 : decode cX2_count 2 = .ok (.getfield 104, 3) := by decide +kernel
theorem dX2_count_5 : decode cX2_count 5 = .ok (.iconst 1, 1) := by decide +kernel
theorem dX2_count_6 : decode cX2_count 6 = .ok (.iadd, 1) := by decide +kernel
theorem dX2_count_7 : decode cX2_count 7 = .ok (.putfield 104, 3) := by decide +kernel
theorem dX2_count_10 : decode cX2_count 10 = .ok (.iload_n 1, 1) := by decide +kernel
theorem dX2_count_11 : decode cX2_count 11 = .ok (.invokestatic 126, 3) := by decide +kernel
theorem dX2_count_14 : decode cX2_count 14 = .ok (.ifCond .eq 16, 3) := by decide +kernel
theorem dX2_count_17 : decode cX2_count 17 = .ok (.aload_n 0, 1) := by decide +kernel
theorem dX2_count_18 : decode cX2_count 18 = .ok (.dup, 1) := by decide +kernel
theorem dX2_count_19 : decode cX2_count 19 = .ok (.getfield 107, 3) := by decide +kernel
theorem dX2_count_22 : decode cX2_count 22 = .ok (.iconst 1, 1) := by decide +kernel
theorem dX2_count_23 : decode cX2_count 23 = .ok (.iadd, 1) := by decide +kernel
theorem dX2_count_24 : decode cX2_count 24 = .ok (.putfield 107, 3) := by decide +kernel
theorem dX2_count_27 : decode cX2_count 27 = .ok (.goto 42, 3) := by decide +kernel
theorem dX2_count_30 : decode cX2_count 30 = .ok (.iload_n 1, 1) := by decide +kernel
theorem dX2_count_31 : decode cX2_count 31 = .ok (.iconst 3, 1) := by decide +kernel
theorem dX2_count_32 : decode cX2_count 32 = .ok (.if_icmp .eq 8, 3) := by decide +kernel
theorem dX2_count_35 : decode cX2_count 35 = .ok (.iload_n 1, 1) := by decide +kernel
theorem dX2_count_36 : decode cX2_count 36 = .ok (.iconst 4, 1) := by decide +kernel
theorem dX2_count_37 : decode cX2_count 37 = .ok (.if_icmp .ne 16, 3) := by decide +kernel
theorem dX2_count_40 : decode cX2_count 40 = .ok (.aload_n 0, 1) := by decide +kernel
theorem dX2_count_41 : decode cX2_count 41 = .ok (.dup, 1) := by decide +kernel
theorem dX2_count_42 : decode cX2_count 42 = .ok (.getfield 110, 3) := by decide +kernel
theorem dX2_count_45 : decode cX2_count 45 = .ok (.iconst 1, 1) := by decide +kernel
theorem dX2_count_46 : decode cX2_count 46 = .ok (.iadd, 1) := by decide +kernel
theorem dX2_count_47 : decode cX2_count 47 = .ok (.putfield 110, 3) := by decide +kernel
theorem dX2_count_50 : decode cX2_count 50 = .ok (.goto 19, 3) := by decide +kernel
theorem dX2_count_53 : decode cX2_count 53 = .ok (.iload_n 1, 1) := by decide +kernel
theorem dX2_count_54 : decode cX2_count 54 = .ok (.bipush 6, 2) := by decide +kernel
theorem dX2_count_56 : decode cX2_count 56 = .ok (.if_icmp .ne 13, 3) := by decide +kernel
theorem dX2_count_59 : decode cX2_count 59 = .ok (.aload_n 0, 1) := by decide +kernel
theorem dX2_count_60 : decode cX2_count 60 = .ok (.dup, 1) := by decide +kernel
theorem dX2_count_61 : decode cX2_count 61 = .ok (.getfield 113, 3) := by decide +kernel
theorem dX2_count_64 : decode cX2_count 64 = .ok (.iconst 1, 1) := by decide +kernel
theorem dX2_count_65 : decode cX2_count 65 = .ok (.iadd, 1) := by decide +kernel
theorem dX2_count_66 : decode cX2_count 66 = .ok (.putfield 113, 3) := by decide +kernel
theorem dX2_count_69 : decode cX2_count 69 = .ok (.return_, 1) := by decide +kernel
theorem dX3_init_0 : decode cX3_init 0 = .ok (.aload_n 0, 1) := by decide +kernel
theorem dX3_init_1 : decode cX3_init 1 = .ok (.invokespecial 1, 3) := by decide +kernel
theorem dX3_init_4 : decode cX3_init 4 = .ok (.aload_n 0, 1) := by decide +kernel
theorem dX3_init_5 : decode cX3_init 5 = .ok (.sipush 366, 3) := by decide +kernel
theorem dX3_init_8 : decode cX3_init 8 = .ok (.newarray .int, 2) := by decide +kernel
theorem dX3_init_10 : decode cX3_init 10 = .ok (.putfield 7, 3) := by decide +kernel
theorem dX3_init_13 : decode cX3_init 13 = .ok (.aload_n 0, 1) := by decide +kernel
theorem dX3_init_14 : decode cX3_init 14 = .ok (.sipush 366, 3) := by decide +kernel
theorem dX3_init_17 : decode cX3_init 17 = .ok (.newarray .int, 2) := by decide +kernel
theorem dX3_init_19 : decode cX3_init 19 = .ok (.putfield 13, 3) := by decide +kernel
theorem dX3_init_22 : decode cX3_init 22 = .ok (.aload_n 0, 1) := by decide +kernel
theorem dX3_init_23 : decode cX3_init 23 = .ok (.bipush 60, 2) := by decide +kernel
theorem dX3_init_25 : decode cX3_init 25 = .ok (.newarray .int, 2) := by decide +kernel
theorem dX3_init_27 : decode cX3_init 27 = .ok (.putfield 16, 3) := by decide +kernel
theorem dX3_init_30 : decode cX3_init 30 = .ok (.aload_n 0, 1) := by decide +kernel
theorem dX3_init_31 : decode cX3_init 31 = .ok (.bipush 32, 2) := by decide +kernel
theorem dX3_init_33 : decode cX3_init 33 = .ok (.newarray .int, 2) := by decide +kernel
theorem dX3_init_35 : decode cX3_init 35 = .ok (.putfield 19, 3) := by decide +kernel
theorem dX3_init_38 : decode cX3_init 38 = .ok (.aload_n 0, 1) := by decide +kernel
theorem dX3_init_39 : decode cX3_init 39 = .ok (.getfield 7, 3) := by decide +kernel
theorem dX3_init_42 : decode cX3_init 42 = .ok (.bipush 6, 2) := by decide +kernel
theorem dX3_init_44 : decode cX3_init 44 = .ok (.bipush 8, 2) := by decide +kernel
theorem dX3_init_46 : decode cX3_init 46 = .ok (.iastore, 1) := by decide +kernel
theorem dX3_init_47 : decode cX3_init 47 = .ok (.aload_n 0, 1) := by decide +kernel
theorem dX3_init_48 : decode cX3_init 48 = .ok (.getfield 7, 3) := by decide +kernel
theorem dX3_init_51 : decode cX3_init 51 = .ok (.bipush 9, 2) := by decide +kernel
theorem dX3_init_53 : decode cX3_init 53 = .ok (.iconst (-1), 1) := by decide +kernel
theorem dX3_init_54 : decode cX3_init 54 = .ok (.iastore, 1) := by decide +kernel
theorem dX3_init_55 : decode cX3_init 55 = .ok (.return_, 1) := by decide +kernel
theorem dX3_thrown_0 : decode cX3_thrown 0 = .ok (.aload_n 0, 1) := by decide +kernel
theorem dX3_thrown_1 : decode cX3_thrown 1 = .ok (.getfield 22, 3) := by decide +kernel
theorem dX3_thrown_4 : decode cX3_thrown 4 = .ok (.ireturn, 1) := by decide +kernel
theorem dX3_asked_0 : decode cX3_asked 0 = .ok (.aload_n 0, 1) := by decide +kernel
theorem dX3_asked_1 : decode cX3_asked 1 = .ok (.iload_n 1, 1) := by decide +kernel
theorem dX3_asked_2 : decode cX3_asked 2 = .ok (.ifCond .eq 7, 3) := by decide +kernel
theorem dX3_asked_5 : decode cX3_asked 5 = .ok (.iconst 0, 1) := by decide +kernel
theorem dX3_asked_6 : decode cX3_asked 6 = .ok (.goto 4, 3) := by decide +kernel
theorem dX3_asked_9 : decode cX3_asked 9 = .ok (.iconst 1, 1) := by decide +kernel
theorem dX3_asked_10 : decode cX3_asked 10 = .ok (.putfield 22, 3) := by decide +kernel
theorem dX3_asked_13 : decode cX3_asked 13 = .ok (.iload_n 1, 1) := by decide +kernel
theorem dX3_asked_14 : decode cX3_asked 14 = .ok (.ireturn, 1) := by decide +kernel
theorem dX3_told_0 : decode cX3_told 0 = .ok (.aload_n 0, 1) := by decide +kernel
theorem dX3_told_1 : decode cX3_told 1 = .ok (.iconst 0, 1) := by decide +kernel
theorem dX3_told_2 : decode cX3_told 2 = .ok (.putfield 22, 3) := by decide +kernel
theorem dX3_told_5 : decode cX3_told 5 = .ok (.iload_n 1, 1) := by decide +kernel
theorem dX3_told_6 : decode cX3_told 6 = .ok (.ireturn, 1) := by decide +kernel
theorem dX3_isKey_0 : decode cX3_isKey 0 = .ok (.iload_n 0, 1) := by decide +kernel
theorem dX3_isKey_1 : decode cX3_isKey 1 = .ok (.ifCond .lt 14, 3) := by decide +kernel
theorem dX3_isKey_4 : decode cX3_isKey 4 = .ok (.iload_n 0, 1) := by decide +kernel
theorem dX3_isKey_5 : decode cX3_isKey 5 = .ok (.sipush 10000, 3) := by decide +kernel
theorem dX3_isKey_8 : decode cX3_isKey 8 = .ok (.if_icmp .ge 7, 3) := by decide +kernel
theorem dX3_isKey_11 : decode cX3_isKey 11 = .ok (.iconst 1, 1) := by decide +kernel
theorem dX3_isKey_12 : decode cX3_isKey 12 = .ok (.goto 4, 3) := by decide +kernel
theorem dX3_isKey_15 : decode cX3_isKey 15 = .ok (.iconst 0, 1) := by decide +kernel
theorem dX3_isKey_16 : decode cX3_isKey 16 = .ok (.ireturn, 1) := by decide +kernel
theorem dX3_at_0 : decode cX3_at 0 = .ok (.bipush 16, 2) := by decide +kernel
theorem dX3_at_2 : decode cX3_at 2 = .ok (.bipush 70, 2) := by decide +kernel
theorem dX3_at_4 : decode cX3_at 4 = .ok (.iload_n 0, 1) := by decide +kernel
theorem dX3_at_5 : decode cX3_at 5 = .ok (.imul, 1) := by decide +kernel
theorem dX3_at_6 : decode cX3_at 6 = .ok (.iadd, 1) := by decide +kernel
theorem dX3_at_7 : decode cX3_at 7 = .ok (.iload_n 1, 1) := by decide +kernel
theorem dX3_at_8 : decode cX3_at 8 = .ok (.iadd, 1) := by decide +kernel
theorem dX3_at_9 : decode cX3_at 9 = .ok (.ireturn, 1) := by decide +kernel
set_option maxRecDepth 20000 in
theorem ggX3_placeIn_X3_at : GoodIn wsX3_placeIn wsX3_at := goodIn_r _ [4] (by decide +kernel) (by decide +kernel)
set_option maxRecDepth 20000 in
theorem gX3_placeIn_X3_at : GoodIn wsX3_placeIn (va_wsS RX3 26 yX3_at wsX3_at) := goodIn_app (goodIn_of _ (by decide +kernel)) ggX3_placeIn_X3_at
theorem dX3_placeIn_0 : decode cX3_placeIn 0 = .ok (.iconst (-1), 1) := by decide +kernel
theorem dX3_placeIn_1 : decode cX3_placeIn 1 = .ok (.istore_n 3, 1) := by decide +kernel
theorem dX3_placeIn_2 : decode cX3_placeIn 2 = .ok (.iconst 0, 1) := by decide +kernel
theorem dX3_placeIn_3 : decode cX3_placeIn 3 = .ok (.istore 4, 2) := by decide +kernel
theorem dX3_placeIn_5 : decode cX3_placeIn 5 = .ok (.iload 4, 2) := by decide +kernel
theorem dX3_placeIn_7 : decode cX3_placeIn 7 = .ok (.aload_n 0, 1) := by decide +kernel
theorem dX3_placeIn_8 : decode cX3_placeIn 8 = .ok (.iload_n 1, 1) := by decide +kernel
theorem dX3_placeIn_9 : decode cX3_placeIn 9 = .ok (.iaload, 1) := by decide +kernel
theorem dX3_placeIn_10 : decode cX3_placeIn 10 = .ok (.if_icmp .ge 28, 3) := by decide +kernel
theorem dX3_placeIn_13 : decode cX3_placeIn 13 = .ok (.aload_n 0, 1) := by decide +kernel
theorem dX3_placeIn_14 : decode cX3_placeIn 14 = .ok (.iload_n 1, 1) := by decide +kernel
theorem dX3_placeIn_15 : decode cX3_placeIn 15 = .ok (.iload 4, 2) := by decide +kernel
theorem dX3_placeIn_17 : decode cX3_placeIn 17 = .ok (.invokestatic 26, 3) := by decide +kernel
theorem dX3_placeIn_20 : decode cX3_placeIn 20 = .ok (.iaload, 1) := by decide +kernel
theorem dX3_placeIn_21 : decode cX3_placeIn 21 = .ok (.iload_n 2, 1) := by decide +kernel
theorem dX3_placeIn_22 : decode cX3_placeIn 22 = .ok (.if_icmp .ne 8, 3) := by decide +kernel
theorem dX3_placeIn_25 : decode cX3_placeIn 25 = .ok (.iload 4, 2) := by decide +kernel
theorem dX3_placeIn_27 : decode cX3_placeIn 27 = .ok (.goto 4, 3) := by decide +kernel
theorem dX3_placeIn_30 : decode cX3_placeIn 30 = .ok (.iload_n 3, 1) := by decide +kernel
theorem dX3_placeIn_31 : decode cX3_placeIn 31 = .ok (.istore_n 3, 1) := by decide +kernel
theorem dX3_placeIn_32 : decode cX3_placeIn 32 = .ok (.iinc 4 1, 3) := by decide +kernel
theorem dX3_placeIn_35 : decode cX3_placeIn 35 = .ok (.goto (-30), 3) := by decide +kernel
theorem dX3_placeIn_38 : decode cX3_placeIn 38 = .ok (.iload_n 3, 1) := by decide +kernel
theorem dX3_placeIn_39 : decode cX3_placeIn 39 = .ok (.ireturn, 1) := by decide +kernel
set_option maxRecDepth 20000 in
theorem ggX3_listOf_X3_placeIn : GoodIn wsX3_listOf wsX3_placeIn := goodIn_r _ [4, 5, 6, 3, 7] (by decide +kernel) (by decide +kernel)
set_option maxRecDepth 20000 in
theorem gX3_listOf_X3_placeIn : GoodIn wsX3_listOf (va_wsS RX3 30 yX3_placeIn wsX3_placeIn) := goodIn_app (goodIn_of _ (by decide +kernel)) ggX3_listOf_X3_placeIn
theorem dX3_listOf_0 : decode cX3_listOf 0 = .ok (.iconst 0, 1) := by decide +kernel
theorem dX3_listOf_1 : decode cX3_listOf 1 = .ok (.istore_n 2, 1) := by decide +kernel
theorem dX3_listOf_2 : decode cX3_listOf 2 = .ok (.iconst 1, 1) := by decide +kernel
theorem dX3_listOf_3 : decode cX3_listOf 3 = .ok (.istore_n 3, 1) := by decide +kernel
theorem dX3_listOf_4 : decode cX3_listOf 4 = .ok (.iload_n 3, 1) := by decide +kernel
theorem dX3_listOf_5 : decode cX3_listOf 5 = .ok (.iconst 4, 1) := by decide +kernel
theorem dX3_listOf_6 : decode cX3_listOf 6 = .ok (.if_icmp .gt 25, 3) := by decide +kernel
theorem dX3_listOf_9 : decode cX3_listOf 9 = .ok (.aload_n 0, 1) := by decide +kernel
theorem dX3_listOf_10 : decode cX3_listOf 10 = .ok (.iload_n 3, 1) := by decide +kernel
theorem dX3_listOf_11 : decode cX3_listOf 11 = .ok (.iload_n 1, 1) := by decide +kernel
theorem dX3_listOf_12 : decode cX3_listOf 12 = .ok (.invokestatic 30, 3) := by decide +kernel
theorem dX3_listOf_15 : decode cX3_listOf 15 = .ok (.iconst (-1), 1) := by decide +kernel
theorem dX3_listOf_16 : decode cX3_listOf 16 = .ok (.if_icmp .ne 7, 3) := by decide +kernel
theorem dX3_listOf_19 : decode cX3_listOf 19 = .ok (.iload_n 2, 1) := by decide +kernel
theorem dX3_listOf_20 : decode cX3_listOf 20 = .ok (.goto 4, 3) := by decide +kernel
theorem dX3_listOf_23 : decode cX3_listOf 23 = .ok (.iload_n 3, 1) := by decide +kernel
theorem dX3_listOf_24 : decode cX3_listOf 24 = .ok (.istore_n 2, 1) := by decide +kernel
theorem dX3_listOf_25 : decode cX3_listOf 25 = .ok (.iinc 3 1, 3) := by decide +kernel
theorem dX3_listOf_28 : decode cX3_listOf 28 = .ok (.goto (-24), 3) := by decide +kernel
theorem dX3_listOf_31 : decode cX3_listOf 31 = .ok (.iload_n 2, 1) := by decide +kernel
theorem dX3_listOf_32 : decode cX3_listOf 32 = .ok (.ireturn, 1) := by decide +kernel
set_option maxRecDepth 20000 in
theorem ggX3_joins_X3_at : GoodIn wsX3_joins wsX3_at := goodIn_r _ [4] (by decide +kernel) (by decide +kernel)
set_option maxRecDepth 20000 in
theorem gX3_joins_X3_at : GoodIn wsX3_joins (va_wsS RX3 26 yX3_at wsX3_at) := goodIn_app (goodIn_of _ (by decide +kernel)) ggX3_joins_X3_at
theorem dX3_joins_0 : decode cX3_joins 0 = .ok (.aload_n 0, 1) := by decide +kernel
theorem dX3_joins_1 : decode cX3_joins 1 = .ok (.iload_n 1, 1) := by decide +kernel
theorem dX3_joins_2 : decode cX3_joins 2 = .ok (.aload_n 0, 1) := by decide +kernel
theorem dX3_joins_3 : decode cX3_joins 3 = .ok (.iload_n 1, 1) := by decide +kernel
theorem dX3_joins_4 : decode cX3_joins 4 = .ok (.iaload, 1) := by decide +kernel
theorem dX3_joins_5 : decode cX3_joins 5 = .ok (.invokestatic 26, 3) := by decide +kernel
theorem dX3_joins_8 : decode cX3_joins 8 = .ok (.iload_n 2, 1) := by decide +kernel
theorem dX3_joins_9 : decode cX3_joins 9 = .ok (.iastore, 1) := by decide +kernel
theorem dX3_joins_10 : decode cX3_joins 10 = .ok (.aload_n 0, 1) := by decide +kernel
theorem dX3_joins_11 : decode cX3_joins 11 = .ok (.iload_n 1, 1) := by decide +kernel
theorem dX3_joins_12 : decode cX3_joins 12 = .ok (.dup2, 1) := by decide +kernel
theorem dX3_joins_13 : decode cX3_joins 13 = .ok (.iaload, 1) := by decide +kernel
theorem dX3_joins_14 : decode cX3_joins 14 = .ok (.iconst 1, 1) := by decide +kernel
theorem dX3_joins_15 : decode cX3_joins 15 = .ok (.iadd, 1) := by decide +kernel
theorem dX3_joins_16 : decode cX3_joins 16 = .ok (.iastore, 1) := by decide +kernel
theorem dX3_joins_17 : decode cX3_joins 17 = .ok (.return_, 1) := by decide +kernel
set_option maxRecDepth 20000 in
theorem ggX3_leaves_X3_at : GoodIn wsX3_leaves wsX3_at := goodIn_r _ [4] (by decide +kernel) (by decide +kernel)
set_option maxRecDepth 20000 in
theorem gX3_leaves_X3_at : GoodIn wsX3_leaves (va_wsS RX3 26 yX3_at wsX3_at) := goodIn_app (goodIn_of _ (by decide +kernel)) ggX3_leaves_X3_at
theorem dX3_leaves_0 : decode cX3_leaves 0 = .ok (.aload_n 0, 1) := by decide +kernel
theorem dX3_leaves_1 : decode cX3_leaves 1 = .ok (.iload_n 1, 1) := by decide +kernel
theorem dX3_leaves_2 : decode cX3_leaves 2 = .ok (.iload_n 2, 1) := by decide +kernel
theorem dX3_leaves_3 : decode cX3_leaves 3 = .ok (.invokestatic 26, 3) := by decide +kernel
theorem dX3_leaves_6 : decode cX3_leaves 6 = .ok (.iaload, 1) := by decide +kernel
theorem dX3_leaves_7 : decode cX3_leaves 7 = .ok (.istore_n 3, 1) := by decide +kernel
theorem dX3_leaves_8 : decode cX3_leaves 8 = .ok (.aload_n 0, 1) := by decide +kernel
theorem dX3_leaves_9 : decode cX3_leaves 9 = .ok (.iload_n 1, 1) := by decide +kernel
theorem dX3_leaves_10 : decode cX3_leaves 10 = .ok (.dup2, 1) := by decide +kernel
theorem dX3_leaves_11 : decode cX3_leaves 11 = .ok (.iaload, 1) := by decide +kernel
theorem dX3_leaves_12 : decode cX3_leaves 12 = .ok (.iconst 1, 1) := by decide +kernel
theorem dX3_leaves_13 : decode cX3_leaves 13 = .ok (.isub, 1) := by decide +kernel
theorem dX3_leaves_14 : decode cX3_leaves 14 = .ok (.iastore, 1) := by decide +kernel
theorem dX3_leaves_15 : decode cX3_leaves 15 = .ok (.iload_n 2, 1) := by decide +kernel
theorem dX3_leaves_16 : decode cX3_leaves 16 = .ok (.istore 4, 2) := by decide +kernel
theorem dX3_leaves_18 : decode cX3_leaves 18 = .ok (.iload 4, 2) := by decide +kernel
theorem dX3_leaves_20 : decode cX3_leaves 20 = .ok (.aload_n 0, 1) := by decide +kernel
theorem dX3_leaves_21 : decode cX3_leaves 21 = .ok (.iload_n 1, 1) := by decide +kernel
theorem dX3_leaves_22 : decode cX3_leaves 22 = .ok (.iaload, 1) := by decide +kernel
theorem dX3_leaves_23 : decode cX3_leaves 23 = .ok (.if_icmp .ge 27, 3) := by decide +kernel
theorem dX3_leaves_26 : decode cX3_leaves 26 = .ok (.aload_n 0, 1) := by decide +kernel
theorem dX3_leaves_27 : decode cX3_leaves 27 = .ok (.iload_n 1, 1) := by decide +kernel
theorem dX3_leaves_28 : decode cX3_leaves 28 = .ok (.iload 4, 2) := by decide +kernel
theorem dX3_leaves_30 : decode cX3_leaves 30 = .ok (.invokestatic 26, 3) := by decide +kernel
theorem dX3_leaves_33 : decode cX3_leaves 33 = .ok (.aload_n 0, 1) := by decide +kernel
theorem dX3_leaves_34 : decode cX3_leaves 34 = .ok (.iload_n 1, 1) := by decide +kernel
theorem dX3_leaves_35 : decode cX3_leaves 35 = .ok (.iload 4, 2) := by decide +kernel
theorem dX3_leaves_37 : decode cX3_leaves 37 = .ok (.iconst 1, 1) := by decide +kernel
theorem dX3_leaves_38 : decode cX3_leaves 38 = .ok (.iadd, 1) := by decide +kernel
theorem dX3_leaves_39 : decode cX3_leaves 39 = .ok (.invokestatic 26, 3) := by decide +kernel
theorem dX3_leaves_42 : decode cX3_leaves 42 = .ok (.iaload, 1) := by decide +kernel
theorem dX3_leaves_43 : decode cX3_leaves 43 = .ok (.iastore, 1) := by decide +kernel
theorem dX3_leaves_44 : decode cX3_leaves 44 = .ok (.iinc 4 1, 3) := by decide +kernel
theorem dX3_leaves_47 : decode cX3_leaves 47 = .ok (.goto (-29), 3) := by decide +kernel
theorem dX3_leaves_50 : decode cX3_leaves 50 = .ok (.iload_n 3, 1) := by decide +kernel
theorem dX3_leaves_51 : decode cX3_leaves 51 = .ok (.ireturn, 1) := by decide +kernel
theorem dX3_isFull_0 : decode cX3_isFull 0 = .ok (.aload_n 0, 1) := by decide +kernel
theorem dX3_isFull_1 : decode cX3_isFull 1 = .ok (.iconst 1, 1) := by decide +kernel
theorem dX3_isFull_2 : decode cX3_isFull 2 = .ok (.iaload, 1) := by decide +kernel
theorem dX3_isFull_3 : decode cX3_isFull 3 = .ok (.aload_n 0, 1) := by decide +kernel
theorem dX3_isFull_4 : decode cX3_isFull 4 = .ok (.iconst 2, 1) := by decide +kernel
theorem dX3_isFull_5 : decode cX3_isFull 5 = .ok (.iaload, 1) := by decide +kernel
theorem dX3_isFull_6 : decode cX3_isFull 6 = .ok (.iadd, 1) := by decide +kernel
theorem dX3_isFull_7 : decode cX3_isFull 7 = .ok (.aload_n 0, 1) := by decide +kernel
theorem dX3_isFull_8 : decode cX3_isFull 8 = .ok (.bipush 6, 2) := by decide +kernel
theorem dX3_isFull_10 : decode cX3_isFull 10 = .ok (.iaload, 1) := by decide +kernel
theorem dX3_isFull_11 : decode cX3_isFull 11 = .ok (.if_icmp .lt 7, 3) := by decide +kernel
theorem dX3_isFull_14 : decode cX3_isFull 14 = .ok (.iconst 1, 1) := by decide +kernel
theorem dX3_isFull_15 : decode cX3_isFull 15 = .ok (.goto 4, 3) := by decide +kernel
theorem dX3_isFull_18 : decode cX3_isFull 18 = .ok (.iconst 0, 1) := by decide +kernel
theorem dX3_isFull_19 : decode cX3_isFull 19 = .ok (.ireturn, 1) := by decide +kernel
theorem dX3_allKeys_0 : decode cX3_allKeys 0 = .ok (.aload_n 0, 1) := by decide +kernel
theorem dX3_allKeys_1 : decode cX3_allKeys 1 = .ok (.iconst 1, 1) := by decide +kernel
theorem dX3_allKeys_2 : decode cX3_allKeys 2 = .ok (.iaload, 1) := by decide +kernel
theorem dX3_allKeys_3 : decode cX3_allKeys 3 = .ok (.aload_n 0, 1) := by decide +kernel
theorem dX3_allKeys_4 : decode cX3_allKeys 4 = .ok (.iconst 2, 1) := by decide +kernel
theorem dX3_allKeys_5 : decode cX3_allKeys 5 = .ok (.iaload, 1) := by decide +kernel
theorem dX3_allKeys_6 : decode cX3_allKeys 6 = .ok (.iadd, 1) := by decide +kernel
theorem dX3_allKeys_7 : decode cX3_allKeys 7 = .ok (.aload_n 0, 1) := by decide +kernel
theorem dX3_allKeys_8 : decode cX3_allKeys 8 = .ok (.iconst 3, 1) := by decide +kernel
theorem dX3_allKeys_9 : decode cX3_allKeys 9 = .ok (.iaload, 1) := by decide +kernel
theorem dX3_allKeys_10 : decode cX3_allKeys 10 = .ok (.iadd, 1) := by decide +kernel
theorem dX3_allKeys_11 : decode cX3_allKeys 11 = .ok (.aload_n 0, 1) := by decide +kernel
theorem dX3_allKeys_12 : decode cX3_allKeys 12 = .ok (.iconst 4, 1) := by decide +kernel
theorem dX3_allKeys_13 : decode cX3_allKeys 13 = .ok (.iaload, 1) := by decide +kernel
theorem dX3_allKeys_14 : decode cX3_allKeys 14 = .ok (.iadd, 1) := by decide +kernel
theorem dX3_allKeys_15 : decode cX3_allKeys 15 = .ok (.ireturn, 1) := by decide +kernel
theorem dX3_evictedFrom_0 : decode cX3_evictedFrom 0 = .ok (.aload_n 0, 1) := by decide +kernel
theorem dX3_evictedFrom_1 : decode cX3_evictedFrom 1 = .ok (.iconst 1, 1) := by decide +kernel
theorem dX3_evictedFrom_2 : decode cX3_evictedFrom 2 = .ok (.iaload, 1) := by decide +kernel
theorem dX3_evictedFrom_3 : decode cX3_evictedFrom 3 = .ok (.aload_n 0, 1) := by decide +kernel
theorem dX3_evictedFrom_4 : decode cX3_evictedFrom 4 = .ok (.iconst 5, 1) := by decide +kernel
theorem dX3_evictedFrom_5 : decode cX3_evictedFrom 5 = .ok (.iaload, 1) := by decide +kernel
theorem dX3_evictedFrom_6 : decode cX3_evictedFrom 6 = .ok (.if_icmp .gt 23, 3) := by decide +kernel
theorem dX3_evictedFrom_9 : decode cX3_evictedFrom 9 = .ok (.aload_n 0, 1) := by decide +kernel
theorem dX3_evictedFrom_10 : decode cX3_evictedFrom 10 = .ok (.iconst 1, 1) := by decide +kernel
theorem dX3_evictedFrom_11 : decode cX3_evictedFrom 11 = .ok (.iaload, 1) := by decide +kernel
theorem dX3_evictedFrom_12 : decode cX3_evictedFrom 12 = .ok (.aload_n 0, 1) := by decide +kernel
theorem dX3_evictedFrom_13 : decode cX3_evictedFrom 13 = .ok (.iconst 5, 1) := by decide +kernel
theorem dX3_evictedFrom_14 : decode cX3_evictedFrom 14 = .ok (.iaload, 1) := by decide +kernel
theorem dX3_evictedFrom_15 : decode cX3_evictedFrom 15 = .ok (.if_icmp .ne 18, 3) := by decide +kernel
theorem dX3_evictedFrom_18 : decode cX3_evictedFrom 18 = .ok (.aload_n 0, 1) := by decide +kernel
theorem dX3_evictedFrom_19 : decode cX3_evictedFrom 19 = .ok (.iconst 1, 1) := by decide +kernel
theorem dX3_evictedFrom_20 : decode cX3_evictedFrom 20 = .ok (.iaload, 1) := by decide +kernel
theorem dX3_evictedFrom_21 : decode cX3_evictedFrom 21 = .ok (.ifCond .le 12, 3) := by decide +kernel
theorem dX3_evictedFrom_24 : decode cX3_evictedFrom 24 = .ok (.iload_n 1, 1) := by decide +kernel
theorem dX3_evictedFrom_25 : decode cX3_evictedFrom 25 = .ok (.iconst 4, 1) := by decide +kernel
theorem dX3_evictedFrom_26 : decode cX3_evictedFrom 26 = .ok (.if_icmp .ne 7, 3) := by decide +kernel
theorem dX3_evictedFrom_29 : decode cX3_evictedFrom 29 = .ok (.iconst 1, 1) := by decide +kernel
theorem dX3_evictedFrom_30 : decode cX3_evictedFrom 30 = .ok (.goto 4, 3) := by decide +kernel
theorem dX3_evictedFrom_33 : decode cX3_evictedFrom 33 = .ok (.iconst 0, 1) := by decide +kernel
theorem dX3_evictedFrom_34 : decode cX3_evictedFrom 34 = .ok (.istore_n 2, 1) := by decide +kernel
theorem dX3_evictedFrom_35 : decode cX3_evictedFrom 35 = .ok (.iload_n 2, 1) := by decide +kernel
theorem dX3_evictedFrom_36 : decode cX3_evictedFrom 36 = .ok (.ifCond .eq 7, 3) := by decide +kernel
theorem dX3_evictedFrom_39 : decode cX3_evictedFrom 39 = .ok (.iconst 1, 1) := by decide +kernel
theorem dX3_evictedFrom_40 : decode cX3_evictedFrom 40 = .ok (.goto 4, 3) := by decide +kernel
theorem dX3_evictedFrom_43 : decode cX3_evictedFrom 43 = .ok (.iconst 2, 1) := by decide +kernel
theorem dX3_evictedFrom_44 : decode cX3_evictedFrom 44 = .ok (.ireturn, 1) := by decide +kernel
set_option maxRecDepth 20000 in
theorem ggX3_evicts_X3_evictedFrom : GoodIn wsX3_evicts wsX3_evictedFrom := goodIn_r _ [4] (by decide +kernel) (by decide +kernel)
set_option maxRecDepth 20000 in
theorem gX3_evicts_X3_evictedFrom : GoodIn wsX3_evicts (va_wsS RX3 34 yX3_evictedFrom wsX3_evictedFrom) := goodIn_app (goodIn_of _ (by decide +kernel)) ggX3_evicts_X3_evictedFrom
set_option maxRecDepth 20000 in
theorem ggX3_evicts_X3_leaves : GoodIn wsX3_evicts wsX3_leaves := goodIn_r _ [7, 8, 9, 3, 10] (by decide +kernel) (by decide +kernel)
set_option maxRecDepth 20000 in
theorem gX3_evicts_X3_leaves : GoodIn wsX3_evicts (va_wsS RX3 38 yX3_leaves wsX3_leaves) := goodIn_app (goodIn_of _ (by decide +kernel)) ggX3_evicts_X3_leaves
set_option maxRecDepth 20000 in
theorem ggX3_evicts_X3_joins : GoodIn wsX3_evicts wsX3_joins := goodIn_r _ [13, 8, 9, 3, 10] (by decide +kernel) (by decide +kernel)
set_option maxRecDepth 20000 in
theorem gX3_evicts_X3_joins : GoodIn wsX3_evicts (va_wsS RX3 41 yX3_joins wsX3_joins) := goodIn_app (goodIn_of _ (by decide +kernel)) ggX3_evicts_X3_joins
theorem dX3_evicts_0 : decode cX3_evicts 0 = .ok (.aload_n 0, 1) := by decide +kernel
theorem dX3_evicts_1 : decode cX3_evicts 1 = .ok (.iload_n 1, 1) := by decide +kernel
theorem dX3_evicts_2 : decode cX3_evicts 2 = .ok (.invokestatic 34, 3) := by decide +kernel
theorem dX3_evicts_5 : decode cX3_evicts 5 = .ok (.istore_n 2, 1) := by decide +kernel
theorem dX3_evicts_6 : decode cX3_evicts 6 = .ok (.aload_n 0, 1) := by decide +kernel
theorem dX3_evicts_7 : decode cX3_evicts 7 = .ok (.iload_n 2, 1) := by decide +kernel
theorem dX3_evicts_8 : decode cX3_evicts 8 = .ok (.iconst 2, 1) := by decide +kernel
theorem dX3_evicts_9 : decode cX3_evicts 9 = .ok (.iadd, 1) := by decide +kernel
theorem dX3_evicts_10 : decode cX3_evicts 10 = .ok (.aload_n 0, 1) := by decide +kernel
theorem dX3_evicts_11 : decode cX3_evicts 11 = .ok (.iload_n 2, 1) := by decide +kernel
theorem dX3_evicts_12 : decode cX3_evicts 12 = .ok (.iconst 0, 1) := by decide +kernel
theorem dX3_evicts_13 : decode cX3_evicts 13 = .ok (.invokestatic 38, 3) := by decide +kernel
theorem dX3_evicts_16 : decode cX3_evicts 16 = .ok (.invokestatic 41, 3) := by decide +kernel
theorem dX3_evicts_19 : decode cX3_evicts 19 = .ok (.aload_n 0, 1) := by decide +kernel
theorem dX3_evicts_20 : decode cX3_evicts 20 = .ok (.bipush 10, 2) := by decide +kernel
theorem dX3_evicts_22 : decode cX3_evicts 22 = .ok (.dup2, 1) := by decide +kernel
theorem dX3_evicts_23 : decode cX3_evicts 23 = .ok (.iaload, 1) := by decide +kernel
theorem dX3_evicts_24 : decode cX3_evicts 24 = .ok (.iconst 1, 1) := by decide +kernel
theorem dX3_evicts_25 : decode cX3_evicts 25 = .ok (.iadd, 1) := by decide +kernel
theorem dX3_evicts_26 : decode cX3_evicts 26 = .ok (.iastore, 1) := by decide +kernel
theorem dX3_evicts_27 : decode cX3_evicts 27 = .ok (.return_, 1) := by decide +kernel
set_option maxRecDepth 20000 in
theorem ggX3_evictsIfFull_X3_isFull : GoodIn wsX3_evictsIfFull wsX3_isFull := goodIn_r _ [4] (by decide +kernel) (by decide +kernel)
set_option maxRecDepth 20000 in
theorem gX3_evictsIfFull_X3_isFull : GoodIn wsX3_evictsIfFull (va_wsS RX3 45 yX3_isFull wsX3_isFull) := goodIn_app (goodIn_of _ (by decide +kernel)) ggX3_evictsIfFull_X3_isFull
set_option maxRecDepth 20000 in
theorem ggX3_evictsIfFull_X3_evicts : GoodIn wsX3_evictsIfFull wsX3_evicts := goodIn_r _ [7, 8, 9, 3, 10, 11, 12, 13, 14, 15, 16, 17, 18, 19] (by decide +kernel) (by decide +kernel)
set_option maxRecDepth 20000 in
theorem gX3_evictsIfFull_X3_evicts : GoodIn wsX3_evictsIfFull (va_wsS RX3 49 yX3_evicts wsX3_evicts) := goodIn_app (goodIn_of _ (by decide +kernel)) ggX3_evictsIfFull_X3_evicts
theorem dX3_evictsIfFull_0 : decode cX3_evictsIfFull 0 = .ok (.aload_n 0, 1) := by decide +kernel
theorem dX3_evictsIfFull_1 : decode cX3_evictsIfFull 1 = .ok (.invokestatic 45, 3) := by decide +kernel
theorem dX3_evictsIfFull_4 : decode cX3_evictsIfFull 4 = .ok (.ifCond .eq 8, 3) := by decide +kernel
theorem dX3_evictsIfFull_7 : decode cX3_evictsIfFull 7 = .ok (.aload_n 0, 1) := by decide +kernel
theorem dX3_evictsIfFull_8 : decode cX3_evictsIfFull 8 = .ok (.iload_n 1, 1) := by decide +kernel
theorem dX3_evictsIfFull_9 : decode cX3_evictsIfFull 9 = .ok (.invokestatic 49, 3) := by decide +kernel
theorem dX3_evictsIfFull_12 : decode cX3_evictsIfFull 12 = .ok (.return_, 1) := by decide +kernel
theorem dX3_step_0 : decode cX3_step 0 = .ok (.iload_n 0, 1) := by decide +kernel
theorem dX3_step_1 : decode cX3_step 1 = .ok (.iload_n 1, 1) := by decide +kernel
theorem dX3_step_2 : decode cX3_step 2 = .ok (.idiv, 1) := by decide +kernel
theorem dX3_step_3 : decode cX3_step 3 = .ok (.istore_n 2, 1) := by decide +kernel
theorem dX3_step_4 : decode cX3_step 4 = .ok (.iload_n 2, 1) := by decide +kernel
theorem dX3_step_5 : decode cX3_step 5 = .ok (.iconst 1, 1) := by decide +kernel
theorem dX3_step_6 : decode cX3_step 6 = .ok (.if_icmp .le 7, 3) := by decide +kernel
theorem dX3_step_9 : decode cX3_step 9 = .ok (.iload_n 2, 1) := by decide +kernel
theorem dX3_step_10 : decode cX3_step 10 = .ok (.goto 4, 3) := by decide +kernel
theorem dX3_step_13 : decode cX3_step 13 = .ok (.iconst 1, 1) := by decide +kernel
theorem dX3_step_14 : decode cX3_step 14 = .ok (.ireturn, 1) := by decide +kernel
set_option maxRecDepth 20000 in
theorem ggX3_ghost_X3_step : GoodIn wsX3_ghost wsX3_step := goodIn_r _ [4] (by decide +kernel) (by decide +kernel)
set_option maxRecDepth 20000 in
theorem gX3_ghost_X3_step : GoodIn wsX3_ghost (va_wsS RX3 53 yX3_step wsX3_step) := goodIn_app (goodIn_of _ (by decide +kernel)) ggX3_ghost_X3_step
set_option maxRecDepth 20000 in
theorem ggX3_ghost_X3_evictsIfFull : GoodIn wsX3_ghost wsX3_evictsIfFull := goodIn_r _ [7, 8, 9, 3, 10, 11, 12, 13, 14, 15, 16, 17, 18, 19, 20, 21, 22, 23, 24, 25] (by decide +kernel) (by decide +kernel)
set_option maxRecDepth 20000 in
theorem gX3_ghost_X3_evictsIfFull : GoodIn wsX3_ghost (va_wsS RX3 56 yX3_evictsIfFull wsX3_evictsIfFull) := goodIn_app (goodIn_of _ (by decide +kernel)) ggX3_ghost_X3_evictsIfFull
set_option maxRecDepth 20000 in
theorem ggX3_ghost_X3_placeIn : GoodIn wsX3_ghost wsX3_placeIn := goodIn_r _ [28, 20, 21, 3, 22] (by decide +kernel) (by decide +kernel)
set_option maxRecDepth 20000 in
theorem gX3_ghost_X3_placeIn : GoodIn wsX3_ghost (va_wsS RX3 30 yX3_placeIn wsX3_placeIn) := goodIn_app (goodIn_of _ (by decide +kernel)) ggX3_ghost_X3_placeIn
set_option maxRecDepth 20000 in
theorem ggX3_ghost_X3_leaves : GoodIn wsX3_ghost wsX3_leaves := goodIn_r _ [19, 20, 21, 3, 22] (by decide +kernel) (by decide +kernel)
set_option maxRecDepth 20000 in
theorem gX3_ghost_X3_leaves : GoodIn wsX3_ghost (va_wsS RX3 38 yX3_leaves wsX3_leaves) := goodIn_app (goodIn_of _ (by decide +kernel)) ggX3_ghost_X3_leaves
set_option maxRecDepth 20000 in
theorem ggX3_ghost_X3_joins : GoodIn wsX3_ghost wsX3_joins := goodIn_r _ [25, 20, 21, 3, 22] (by decide +kernel) (by decide +kernel)
set_option maxRecDepth 20000 in
theorem gX3_ghost_X3_joins : GoodIn wsX3_ghost (va_wsS RX3 41 yX3_joins wsX3_joins) := goodIn_app (goodIn_of _ (by decide +kernel)) ggX3_ghost_X3_joins
theorem dX3_ghost_0 : decode cX3_ghost 0 = .ok (.aload_n 0, 1) := by decide +kernel
theorem dX3_ghost_1 : decode cX3_ghost 1 = .ok (.iconst 5, 1) := by decide +kernel
theorem dX3_ghost_2 : decode cX3_ghost 2 = .ok (.iaload, 1) := by decide +kernel
theorem dX3_ghost_3 : decode cX3_ghost 3 = .ok (.aload_n 0, 1) := by decide +kernel
theorem dX3_ghost_4 : decode cX3_ghost 4 = .ok (.iconst 4, 1) := by decide +kernel
theorem dX3_ghost_5 : decode cX3_ghost 5 = .ok (.iaload, 1) := by decide +kernel
theorem dX3_ghost_6 : decode cX3_ghost 6 = .ok (.aload_n 0, 1) := by decide +kernel
theorem dX3_ghost_7 : decode cX3_ghost 7 = .ok (.iconst 3, 1) := by decide +kernel
theorem dX3_ghost_8 : decode cX3_ghost 8 = .ok (.iaload, 1) := by decide +kernel
theorem dX3_ghost_9 : decode cX3_ghost 9 = .ok (.ifCond .le 9, 3) := by decide +kernel
theorem dX3_ghost_12 : decode cX3_ghost 12 = .ok (.aload_n 0, 1) := by decide +kernel
theorem dX3_ghost_13 : decode cX3_ghost 13 = .ok (.iconst 3, 1) := by decide +kernel
theorem dX3_ghost_14 : decode cX3_ghost 14 = .ok (.iaload, 1) := by decide +kernel
theorem dX3_ghost_15 : decode cX3_ghost 15 = .ok (.goto 4, 3) := by decide +kernel
theorem dX3_ghost_18 : decode cX3_ghost 18 = .ok (.iconst 1, 1) := by decide +kernel
theorem dX3_ghost_19 : decode cX3_ghost 19 = .ok (.invokestatic 53, 3) := by decide +kernel
theorem dX3_ghost_22 : decode cX3_ghost 22 = .ok (.iadd, 1) := by decide +kernel
theorem dX3_ghost_23 : decode cX3_ghost 23 = .ok (.istore_n 3, 1) := by decide +kernel
theorem dX3_ghost_24 : decode cX3_ghost 24 = .ok (.aload_n 0, 1) := by decide +kernel
theorem dX3_ghost_25 : decode cX3_ghost 25 = .ok (.iconst 5, 1) := by decide +kernel
theorem dX3_ghost_26 : decode cX3_ghost 26 = .ok (.iaload, 1) := by decide +kernel
theorem dX3_ghost_27 : decode cX3_ghost 27 = .ok (.aload_n 0, 1) := by decide +kernel
theorem dX3_ghost_28 : decode cX3_ghost 28 = .ok (.iconst 3, 1) := by decide +kernel
theorem dX3_ghost_29 : decode cX3_ghost 29 = .ok (.iaload, 1) := by decide +kernel
theorem dX3_ghost_30 : decode cX3_ghost 30 = .ok (.aload_n 0, 1) := by decide +kernel
theorem dX3_ghost_31 : decode cX3_ghost 31 = .ok (.iconst 4, 1) := by decide +kernel
theorem dX3_ghost_32 : decode cX3_ghost 32 = .ok (.iaload, 1) := by decide +kernel
theorem dX3_ghost_33 : decode cX3_ghost 33 = .ok (.ifCond .le 9, 3) := by decide +kernel
theorem dX3_ghost_36 : decode cX3_ghost 36 = .ok (.aload_n 0, 1) := by decide +kernel
theorem dX3_ghost_37 : decode cX3_ghost 37 = .ok (.iconst 4, 1) := by decide +kernel
theorem dX3_ghost_38 : decode cX3_ghost 38 = .ok (.iaload, 1) := by decide +kernel
theorem dX3_ghost_39 : decode cX3_ghost 39 = .ok (.goto 4, 3) := by decide +kernel
theorem dX3_ghost_42 : decode cX3_ghost 42 = .ok (.iconst 1, 1) := by decide +kernel
theorem dX3_ghost_43 : decode cX3_ghost 43 = .ok (.invokestatic 53, 3) := by decide +kernel
theorem dX3_ghost_46 : decode cX3_ghost 46 = .ok (.isub, 1) := by decide +kernel
theorem dX3_ghost_47 : decode cX3_ghost 47 = .ok (.istore 4, 2) := by decide +kernel
theorem dX3_ghost_49 : decode cX3_ghost 49 = .ok (.iload_n 2, 1) := by decide +kernel
theorem dX3_ghost_50 : decode cX3_ghost 50 = .ok (.iconst 3, 1) := by decide +kernel
theorem dX3_ghost_51 : decode cX3_ghost 51 = .ok (.if_icmp .ne 25, 3) := by decide +kernel
theorem dX3_ghost_54 : decode cX3_ghost 54 = .ok (.aload_n 0, 1) := by decide +kernel
theorem dX3_ghost_55 : decode cX3_ghost 55 = .ok (.iconst 5, 1) := by decide +kernel
theorem dX3_ghost_56 : decode cX3_ghost 56 = .ok (.iload_n 3, 1) := by decide +kernel
theorem dX3_ghost_57 : decode cX3_ghost 57 = .ok (.aload_n 0, 1) := by decide +kernel
theorem dX3_ghost_58 : decode cX3_ghost 58 = .ok (.bipush 6, 2) := by decide +kernel
theorem dX3_ghost_60 : decode cX3_ghost 60 = .ok (.iaload, 1) := by decide +kernel
theorem dX3_ghost_61 : decode cX3_ghost 61 = .ok (.if_icmp .le 10, 3) := by decide +kernel
theorem dX3_ghost_64 : decode cX3_ghost 64 = .ok (.aload_n 0, 1) := by decide +kernel
theorem dX3_ghost_65 : decode cX3_ghost 65 = .ok (.bipush 6, 2) := by decide +kernel
theorem dX3_ghost_67 : decode cX3_ghost 67 = .ok (.iaload, 1) := by decide +kernel
theorem dX3_ghost_68 : decode cX3_ghost 68 = .ok (.goto 4, 3) := by decide +kernel
theorem dX3_ghost_71 : decode cX3_ghost 71 = .ok (.iload_n 3, 1) := by decide +kernel
theorem dX3_ghost_72 : decode cX3_ghost 72 = .ok (.iastore, 1) := by decide +kernel
theorem dX3_ghost_73 : decode cX3_ghost 73 = .ok (.goto 17, 3) := by decide +kernel
theorem dX3_ghost_76 : decode cX3_ghost 76 = .ok (.aload_n 0, 1) := by decide +kernel
theorem dX3_ghost_77 : decode cX3_ghost 77 = .ok (.iconst 5, 1) := by decide +kernel
theorem dX3_ghost_78 : decode cX3_ghost 78 = .ok (.iload 4, 2) := by decide +kernel
theorem dX3_ghost_80 : decode cX3_ghost 80 = .ok (.ifCond .ge 7, 3) := by decide +kernel
theorem dX3_ghost_83 : decode cX3_ghost 83 = .ok (.iconst 0, 1) := by decide +kernel
theorem dX3_ghost_84 : decode cX3_ghost 84 = .ok (.goto 5, 3) := by decide +kernel
theorem dX3_ghost_87 : decode cX3_ghost 87 = .ok (.iload 4, 2) := by decide +kernel
theorem dX3_ghost_89 : decode cX3_ghost 89 = .ok (.iastore, 1) := by decide +kernel
theorem dX3_ghost_90 : decode cX3_ghost 90 = .ok (.aload_n 0, 1) := by decide +kernel
theorem dX3_ghost_91 : decode cX3_ghost 91 = .ok (.iload_n 2, 1) := by decide +kernel
theorem dX3_ghost_92 : decode cX3_ghost 92 = .ok (.invokestatic 56, 3) := by decide +kernel
theorem dX3_ghost_95 : decode cX3_ghost 95 = .ok (.aload_n 0, 1) := by decide +kernel
theorem dX3_ghost_96 : decode cX3_ghost 96 = .ok (.iload_n 2, 1) := by decide +kernel
theorem dX3_ghost_97 : decode cX3_ghost 97 = .ok (.aload_n 0, 1) := by decide +kernel
theorem dX3_ghost_98 : decode cX3_ghost 98 = .ok (.iload_n 2, 1) := by decide +kernel
theorem dX3_ghost_99 : decode cX3_ghost 99 = .ok (.iload_n 1, 1) := by decide +kernel
theorem dX3_ghost_100 : decode cX3_ghost 100 = .ok (.invokestatic 30, 3) := by decide +kernel
theorem dX3_ghost_103 : decode cX3_ghost 103 = .ok (.invokestatic 38, 3) := by decide +kernel
theorem dX3_ghost_106 : decode cX3_ghost 106 = .ok (.pop, 1) := by decide +kernel
theorem dX3_ghost_107 : decode cX3_ghost 107 = .ok (.aload_n 0, 1) := by decide +kernel
theorem dX3_ghost_108 : decode cX3_ghost 108 = .ok (.iconst 2, 1) := by decide +kernel
theorem dX3_ghost_109 : decode cX3_ghost 109 = .ok (.iload_n 1, 1) := by decide +kernel
theorem dX3_ghost_110 : decode cX3_ghost 110 = .ok (.invokestatic 41, 3) := by decide +kernel
theorem dX3_ghost_113 : decode cX3_ghost 113 = .ok (.return_, 1) := by decide +kernel
set_option maxRecDepth 20000 in
theorem ggX3_miss_X3_leaves : GoodIn wsX3_miss wsX3_leaves := goodIn_r _ [4, 5, 6, 3, 7] (by decide +kernel) (by decide +kernel)
set_option maxRecDepth 20000 in
theorem gX3_miss_X3_leaves : GoodIn wsX3_miss (va_wsS RX3 38 yX3_leaves wsX3_leaves) := goodIn_app (goodIn_of _ (by decide +kernel)) ggX3_miss_X3_leaves
set_option maxRecDepth 20000 in
theorem ggX3_miss_X3_evictsIfFull : GoodIn wsX3_miss wsX3_evictsIfFull := goodIn_r _ [10, 11, 12, 3, 13, 14, 15, 16, 17, 18, 19, 1, 2, 4, 5, 6, 7, 20, 21, 22] (by decide +kernel) (by decide +kernel)
set_option maxRecDepth 20000 in
theorem gX3_miss_X3_evictsIfFull : GoodIn wsX3_miss (va_wsS RX3 56 yX3_evictsIfFull wsX3_evictsIfFull) := goodIn_app (goodIn_of _ (by decide +kernel)) ggX3_miss_X3_evictsIfFull
set_option maxRecDepth 20000 in
theorem ggX3_miss_X3_allKeys : GoodIn wsX3_miss wsX3_allKeys := goodIn_r _ [25] (by decide +kernel) (by decide +kernel)
set_option maxRecDepth 20000 in
theorem gX3_miss_X3_allKeys : GoodIn wsX3_miss (va_wsS RX3 59 yX3_allKeys wsX3_allKeys) := goodIn_app (goodIn_of _ (by decide +kernel)) ggX3_miss_X3_allKeys
set_option maxRecDepth 20000 in
theorem ggX3_miss_X3_joins : GoodIn wsX3_miss wsX3_joins := goodIn_r _ [22, 5, 6, 3, 7] (by decide +kernel) (by decide +kernel)
set_option maxRecDepth 20000 in
theorem gX3_miss_X3_joins : GoodIn wsX3_miss (va_wsS RX3 41 yX3_joins wsX3_joins) := goodIn_app (goodIn_of _ (by decide +kernel)) ggX3_miss_X3_joins
theorem dX3_miss_0 : decode cX3_miss 0 = .ok (.aload_n 0, 1) := by decide +kernel
theorem dX3_miss_1 : decode cX3_miss 1 = .ok (.iconst 1, 1) := by decide +kernel
theorem dX3_miss_2 : decode cX3_miss 2 = .ok (.iaload, 1) := by decide +kernel
theorem dX3_miss_3 : decode cX3_miss 3 = .ok (.aload_n 0, 1) := by decide +kernel
theorem dX3_miss_4 : decode cX3_miss 4 = .ok (.iconst 3, 1) := by decide +kernel
theorem dX3_miss_5 : decode cX3_miss 5 = .ok (.iaload, 1) := by decide +kernel
theorem dX3_miss_6 : decode cX3_miss 6 = .ok (.iadd, 1) := by decide +kernel
theorem dX3_miss_7 : decode cX3_miss 7 = .ok (.aload_n 0, 1) := by decide +kernel
theorem dX3_miss_8 : decode cX3_miss 8 = .ok (.bipush 6, 2) := by decide +kernel
theorem dX3_miss_10 : decode cX3_miss 10 = .ok (.iaload, 1) := by decide +kernel
theorem dX3_miss_11 : decode cX3_miss 11 = .ok (.if_icmp .lt 42, 3) := by decide +kernel
theorem dX3_miss_14 : decode cX3_miss 14 = .ok (.aload_n 0, 1) := by decide +kernel
theorem dX3_miss_15 : decode cX3_miss 15 = .ok (.iconst 3, 1) := by decide +kernel
theorem dX3_miss_16 : decode cX3_miss 16 = .ok (.iaload, 1) := by decide +kernel
theorem dX3_miss_17 : decode cX3_miss 17 = .ok (.ifCond .ne 21, 3) := by decide +kernel
theorem dX3_miss_20 : decode cX3_miss 20 = .ok (.aload_n 0, 1) := by decide +kernel
theorem dX3_miss_21 : decode cX3_miss 21 = .ok (.iconst 1, 1) := by decide +kernel
theorem dX3_miss_22 : decode cX3_miss 22 = .ok (.iconst 0, 1) := by decide +kernel
theorem dX3_miss_23 : decode cX3_miss 23 = .ok (.invokestatic 38, 3) := by decide +kernel
theorem dX3_miss_26 : decode cX3_miss 26 = .ok (.pop, 1) := by decide +kernel
theorem dX3_miss_27 : decode cX3_miss 27 = .ok (.aload_n 0, 1) := by decide +kernel
theorem dX3_miss_28 : decode cX3_miss 28 = .ok (.bipush 10, 2) := by decide +kernel
theorem dX3_miss_30 : decode cX3_miss 30 = .ok (.dup2, 1) := by decide +kernel
theorem dX3_miss_31 : decode cX3_miss 31 = .ok (.iaload, 1) := by decide +kernel
theorem dX3_miss_32 : decode cX3_miss 32 = .ok (.iconst 1, 1) := by decide +kernel
theorem dX3_miss_33 : decode cX3_miss 33 = .ok (.iadd, 1) := by decide +kernel
theorem dX3_miss_34 : decode cX3_miss 34 = .ok (.iastore, 1) := by decide +kernel
theorem dX3_miss_35 : decode cX3_miss 35 = .ok (.goto 43, 3) := by decide +kernel
theorem dX3_miss_38 : decode cX3_miss 38 = .ok (.aload_n 0, 1) := by decide +kernel
theorem dX3_miss_39 : decode cX3_miss 39 = .ok (.iconst 3, 1) := by decide +kernel
theorem dX3_miss_40 : decode cX3_miss 40 = .ok (.iconst 0, 1) := by decide +kernel
theorem dX3_miss_41 : decode cX3_miss 41 = .ok (.invokestatic 38, 3) := by decide +kernel
theorem dX3_miss_44 : decode cX3_miss 44 = .ok (.pop, 1) := by decide +kernel
theorem dX3_miss_45 : decode cX3_miss 45 = .ok (.aload_n 0, 1) := by decide +kernel
theorem dX3_miss_46 : decode cX3_miss 46 = .ok (.iconst 0, 1) := by decide +kernel
theorem dX3_miss_47 : decode cX3_miss 47 = .ok (.invokestatic 56, 3) := by decide +kernel
theorem dX3_miss_50 : decode cX3_miss 50 = .ok (.goto 28, 3) := by decide +kernel
theorem dX3_miss_53 : decode cX3_miss 53 = .ok (.aload_n 0, 1) := by decide +kernel
theorem dX3_miss_54 : decode cX3_miss 54 = .ok (.invokestatic 59, 3) := by decide +kernel
theorem dX3_miss_57 : decode cX3_miss 57 = .ok (.iconst 2, 1) := by decide +kernel
theorem dX3_miss_58 : decode cX3_miss 58 = .ok (.aload_n 0, 1) := by decide +kernel
theorem dX3_miss_59 : decode cX3_miss 59 = .ok (.bipush 6, 2) := by decide +kernel
theorem dX3_miss_61 : decode cX3_miss 61 = .ok (.iaload, 1) := by decide +kernel
theorem dX3_miss_62 : decode cX3_miss 62 = .ok (.imul, 1) := by decide +kernel
theorem dX3_miss_63 : decode cX3_miss 63 = .ok (.if_icmp .lt 10, 3) := by decide +kernel
theorem dX3_miss_66 : decode cX3_miss 66 = .ok (.aload_n 0, 1) := by decide +kernel
theorem dX3_miss_67 : decode cX3_miss 67 = .ok (.iconst 4, 1) := by decide +kernel
theorem dX3_miss_68 : decode cX3_miss 68 = .ok (.iconst 0, 1) := by decide +kernel
theorem dX3_miss_69 : decode cX3_miss 69 = .ok (.invokestatic 38, 3) := by decide +kernel
theorem dX3_miss_72 : decode cX3_miss 72 = .ok (.pop, 1) := by decide +kernel
theorem dX3_miss_73 : decode cX3_miss 73 = .ok (.aload_n 0, 1) := by decide +kernel
theorem dX3_miss_74 : decode cX3_miss 74 = .ok (.iconst 0, 1) := by decide +kernel
theorem dX3_miss_75 : decode cX3_miss 75 = .ok (.invokestatic 56, 3) := by decide +kernel
theorem dX3_miss_78 : decode cX3_miss 78 = .ok (.aload_n 0, 1) := by decide +kernel
theorem dX3_miss_79 : decode cX3_miss 79 = .ok (.iconst 1, 1) := by decide +kernel
theorem dX3_miss_80 : decode cX3_miss 80 = .ok (.iload_n 1, 1) := by decide +kernel
theorem dX3_miss_81 : decode cX3_miss 81 = .ok (.invokestatic 41, 3) := by decide +kernel
theorem dX3_miss_84 : decode cX3_miss 84 = .ok (.return_, 1) := by decide +kernel
set_option maxRecDepth 20000 in
theorem ggX3_asks_X3_listOf : GoodIn wsX3_asks wsX3_listOf := goodIn_r _ [4, 5, 6, 3, 7, 8, 9, 10] (by decide +kernel) (by decide +kernel)
set_option maxRecDepth 20000 in
theorem gX3_asks_X3_listOf : GoodIn wsX3_asks (va_wsS RX3 63 yX3_listOf wsX3_listOf) := goodIn_app (goodIn_of _ (by decide +kernel)) ggX3_asks_X3_listOf
set_option maxRecDepth 20000 in
theorem ggX3_asks_X3_placeIn : GoodIn wsX3_asks wsX3_placeIn := goodIn_r _ [7, 8, 9, 3, 10] (by decide +kernel) (by decide +kernel)
set_option maxRecDepth 20000 in
theorem gX3_asks_X3_placeIn : GoodIn wsX3_asks (va_wsS RX3 30 yX3_placeIn wsX3_placeIn) := goodIn_app (goodIn_of _ (by decide +kernel)) ggX3_asks_X3_placeIn
set_option maxRecDepth 20000 in
theorem ggX3_asks_X3_leaves : GoodIn wsX3_asks wsX3_leaves := goodIn_r _ [13, 8, 9, 3, 10] (by decide +kernel) (by decide +kernel)
set_option maxRecDepth 20000 in
theorem gX3_asks_X3_leaves : GoodIn wsX3_asks (va_wsS RX3 38 yX3_leaves wsX3_leaves) := goodIn_app (goodIn_of _ (by decide +kernel)) ggX3_asks_X3_leaves
set_option maxRecDepth 20000 in
theorem ggX3_asks_X3_joins : GoodIn wsX3_asks wsX3_joins := goodIn_r _ [16, 8, 9, 3, 10] (by decide +kernel) (by decide +kernel)
set_option maxRecDepth 20000 in
theorem gX3_asks_X3_joins : GoodIn wsX3_asks (va_wsS RX3 41 yX3_joins wsX3_joins) := goodIn_app (goodIn_of _ (by decide +kernel)) ggX3_asks_X3_joins
set_option maxRecDepth 20000 in
theorem ggX3_asks_X3_ghost : GoodIn wsX3_asks wsX3_ghost := goodIn_r _ [19, 20, 21, 3, 22, 23, 24, 25, 26, 27, 28, 29, 30, 31, 32, 33, 34, 11, 12, 13, 8, 9, 10, 14, 15, 16, 5, 6, 7] (by decide +kernel) (by decide +kernel)
set_option maxRecDepth 20000 in
theorem gX3_asks_X3_ghost : GoodIn wsX3_asks (va_wsS RX3 66 yX3_ghost wsX3_ghost) := goodIn_app (goodIn_of _ (by decide +kernel)) ggX3_asks_X3_ghost
set_option maxRecDepth 20000 in
theorem ggX3_asks_X3_miss : GoodIn wsX3_asks wsX3_miss := goodIn_r _ [37, 11, 12, 3, 13, 8, 9, 10, 23, 24, 25, 26, 27, 28, 29, 30, 31, 32, 33, 34, 14, 15, 16, 38, 39, 40] (by decide +kernel) (by decide +kernel)
set_option maxRecDepth 20000 in
theorem gX3_asks_X3_miss : GoodIn wsX3_asks (va_wsS RX3 69 yX3_miss wsX3_miss) := goodIn_app (goodIn_of _ (by decide +kernel)) ggX3_asks_X3_miss
theorem dX3_asks_0 : decode cX3_asks 0 = .ok (.aload_n 0, 1) := by decide +kernel
theorem dX3_asks_1 : decode cX3_asks 1 = .ok (.iload_n 1, 1) := by decide +kernel
theorem dX3_asks_2 : decode cX3_asks 2 = .ok (.invokestatic 63, 3) := by decide +kernel
theorem dX3_asks_5 : decode cX3_asks 5 = .ok (.istore_n 2, 1) := by decide +kernel
theorem dX3_asks_6 : decode cX3_asks 6 = .ok (.aload_n 0, 1) := by decide +kernel
theorem dX3_asks_7 : decode cX3_asks 7 = .ok (.bipush 8, 2) := by decide +kernel
theorem dX3_asks_9 : decode cX3_asks 9 = .ok (.aload_n 0, 1) := by decide +kernel
theorem dX3_asks_10 : decode cX3_asks 10 = .ok (.bipush 8, 2) := by decide +kernel
theorem dX3_asks_12 : decode cX3_asks 12 = .ok (.iaload, 1) := by decide +kernel
theorem dX3_asks_13 : decode cX3_asks 13 = .ok (.ifCond .le 22, 3) := by decide +kernel
theorem dX3_asks_16 : decode cX3_asks 16 = .ok (.iload_n 1, 1) := by decide +kernel
theorem dX3_asks_17 : decode cX3_asks 17 = .ok (.aload_n 0, 1) := by decide +kernel
theorem dX3_asks_18 : decode cX3_asks 18 = .ok (.bipush 9, 2) := by decide +kernel
theorem dX3_asks_20 : decode cX3_asks 20 = .ok (.iaload, 1) := by decide +kernel
theorem dX3_asks_21 : decode cX3_asks 21 = .ok (.iconst 1, 1) := by decide +kernel
theorem dX3_asks_22 : decode cX3_asks 22 = .ok (.iadd, 1) := by decide +kernel
theorem dX3_asks_23 : decode cX3_asks 23 = .ok (.if_icmp .ne 12, 3) := by decide +kernel
theorem dX3_asks_26 : decode cX3_asks 26 = .ok (.aload_n 0, 1) := by decide +kernel
theorem dX3_asks_27 : decode cX3_asks 27 = .ok (.bipush 8, 2) := by decide +kernel
theorem dX3_asks_29 : decode cX3_asks 29 = .ok (.iaload, 1) := by decide +kernel
theorem dX3_asks_30 : decode cX3_asks 30 = .ok (.iconst 1, 1) := by decide +kernel
theorem dX3_asks_31 : decode cX3_asks 31 = .ok (.iadd, 1) := by decide +kernel
theorem dX3_asks_32 : decode cX3_asks 32 = .ok (.goto 4, 3) := by decide +kernel
theorem dX3_asks_35 : decode cX3_asks 35 = .ok (.iconst 1, 1) := by decide +kernel
theorem dX3_asks_36 : decode cX3_asks 36 = .ok (.iastore, 1) := by decide +kernel
theorem dX3_asks_37 : decode cX3_asks 37 = .ok (.aload_n 0, 1) := by decide +kernel
theorem dX3_asks_38 : decode cX3_asks 38 = .ok (.bipush 9, 2) := by decide +kernel
theorem dX3_asks_40 : decode cX3_asks 40 = .ok (.iload_n 1, 1) := by decide +kernel
theorem dX3_asks_41 : decode cX3_asks 41 = .ok (.iastore, 1) := by decide +kernel
theorem dX3_asks_42 : decode cX3_asks 42 = .ok (.aload_n 0, 1) := by decide +kernel
theorem dX3_asks_43 : decode cX3_asks 43 = .ok (.bipush 7, 2) := by decide +kernel
theorem dX3_asks_45 : decode cX3_asks 45 = .ok (.iaload, 1) := by decide +kernel
theorem dX3_asks_46 : decode cX3_asks 46 = .ok (.ifCond .le 31, 3) := by decide +kernel
theorem dX3_asks_49 : decode cX3_asks 49 = .ok (.aload_n 0, 1) := by decide +kernel
theorem dX3_asks_50 : decode cX3_asks 50 = .ok (.bipush 8, 2) := by decide +kernel
theorem dX3_asks_52 : decode cX3_asks 52 = .ok (.iaload, 1) := by decide +kernel
theorem dX3_asks_53 : decode cX3_asks 53 = .ok (.aload_n 0, 1) := by decide +kernel
theorem dX3_asks_54 : decode cX3_asks 54 = .ok (.bipush 7, 2) := by decide +kernel
theorem dX3_asks_56 : decode cX3_asks 56 = .ok (.iaload, 1) := by decide +kernel
theorem dX3_asks_57 : decode cX3_asks 57 = .ok (.if_icmp .lt 20, 3) := by decide +kernel
theorem dX3_asks_60 : decode cX3_asks 60 = .ok (.iload_n 2, 1) := by decide +kernel
theorem dX3_asks_61 : decode cX3_asks 61 = .ok (.iconst 1, 1) := by decide +kernel
theorem dX3_asks_62 : decode cX3_asks 62 = .ok (.if_icmp .eq 8, 3) := by decide +kernel
theorem dX3_asks_65 : decode cX3_asks 65 = .ok (.iload_n 2, 1) := by decide +kernel
theorem dX3_asks_66 : decode cX3_asks 66 = .ok (.iconst 2, 1) := by decide +kernel
theorem dX3_asks_67 : decode cX3_asks 67 = .ok (.if_icmp .ne 7, 3) := by decide +kernel
theorem dX3_asks_70 : decode cX3_asks 70 = .ok (.iload_n 2, 1) := by decide +kernel
theorem dX3_asks_71 : decode cX3_asks 71 = .ok (.goto 5, 3) := by decide +kernel
theorem dX3_asks_74 : decode cX3_asks 74 = .ok (.bipush 6, 2) := by decide +kernel
theorem dX3_asks_76 : decode cX3_asks 76 = .ok (.ireturn, 1) := by decide +kernel
theorem dX3_asks_77 : decode cX3_asks 77 = .ok (.iload_n 2, 1) := by decide +kernel
theorem dX3_asks_78 : decode cX3_asks 78 = .ok (.iconst 1, 1) := by decide +kernel
theorem dX3_asks_79 : decode cX3_asks 79 = .ok (.if_icmp .eq 8, 3) := by decide +kernel
theorem dX3_asks_82 : decode cX3_asks 82 = .ok (.iload_n 2, 1) := by decide +kernel
theorem dX3_asks_83 : decode cX3_asks 83 = .ok (.iconst 2, 1) := by decide +kernel
theorem dX3_asks_84 : decode cX3_asks 84 = .ok (.if_icmp .ne 24, 3) := by decide +kernel
theorem dX3_asks_87 : decode cX3_asks 87 = .ok (.aload_n 0, 1) := by decide +kernel
theorem dX3_asks_88 : decode cX3_asks 88 = .ok (.iload_n 2, 1) := by decide +kernel
theorem dX3_asks_89 : decode cX3_asks 89 = .ok (.aload_n 0, 1) := by decide +kernel
theorem dX3_asks_90 : decode cX3_asks 90 = .ok (.iload_n 2, 1) := by decide +kernel
theorem dX3_asks_91 : decode cX3_asks 91 = .ok (.iload_n 1, 1) := by decide +kernel
theorem dX3_asks_92 : decode cX3_asks 92 = .ok (.invokestatic 30, 3) := by decide +kernel
theorem dX3_asks_95 : decode cX3_asks 95 = .ok (.invokestatic 38, 3) := by decide +kernel
theorem dX3_asks_98 : decode cX3_asks 98 = .ok (.pop, 1) := by decide +kernel
theorem dX3_asks_99 : decode cX3_asks 99 = .ok (.aload_n 0, 1) := by decide +kernel
theorem dX3_asks_100 : decode cX3_asks 100 = .ok (.iconst 2, 1) := by decide +kernel
theorem dX3_asks_101 : decode cX3_asks 101 = .ok (.iload_n 1, 1) := by decide +kernel
theorem dX3_asks_102 : decode cX3_asks 102 = .ok (.invokestatic 41, 3) := by decide +kernel
theorem dX3_asks_105 : decode cX3_asks 105 = .ok (.goto 21, 3) := by decide +kernel
theorem dX3_asks_108 : decode cX3_asks 108 = .ok (.iload_n 2, 1) := by decide +kernel
theorem dX3_asks_109 : decode cX3_asks 109 = .ok (.ifCond .le 12, 3) := by decide +kernel
theorem dX3_asks_112 : decode cX3_asks 112 = .ok (.aload_n 0, 1) := by decide +kernel
theorem dX3_asks_113 : decode cX3_asks 113 = .ok (.iload_n 1, 1) := by decide +kernel
theorem dX3_asks_114 : decode cX3_asks 114 = .ok (.iload_n 2, 1) := by decide +kernel
theorem dX3_asks_115 : decode cX3_asks 115 = .ok (.invokestatic 66, 3) := by decide +kernel
theorem dX3_asks_118 : decode cX3_asks 118 = .ok (.goto 8, 3) := by decide +kernel
theorem dX3_asks_121 : decode cX3_asks 121 = .ok (.aload_n 0, 1) := by decide +kernel
theorem dX3_asks_122 : decode cX3_asks 122 = .ok (.iload_n 1, 1) := by decide +kernel
theorem dX3_asks_123 : decode cX3_asks 123 = .ok (.invokestatic 69, 3) := by decide +kernel
theorem dX3_asks_126 : decode cX3_asks 126 = .ok (.iload_n 2, 1) := by decide +kernel
theorem dX3_asks_127 : decode cX3_asks 127 = .ok (.ifCond .ne 7, 3) := by decide +kernel
theorem dX3_asks_130 : decode cX3_asks 130 = .ok (.iconst 5, 1) := by decide +kernel
theorem dX3_asks_131 : decode cX3_asks 131 = .ok (.goto 4, 3) := by decide +kernel
theorem dX3_asks_134 : decode cX3_asks 134 = .ok (.iload_n 2, 1) := by decide +kernel
theorem dX3_asks_135 : decode cX3_asks 135 = .ok (.ireturn, 1) := by decide +kernel
set_option maxRecDepth 20000 in
theorem ggX3_request_X3_isKey : GoodIn wsX3_request wsX3_isKey := goodIn_r _ [11] (by decide +kernel) (by decide +kernel)
set_option maxRecDepth 20000 in
theorem gX3_request_X3_isKey : GoodIn wsX3_request (va_wsS RX3 72 yX3_isKey wsX3_isKey) := goodIn_app (goodIn_of _ (by decide +kernel)) ggX3_request_X3_isKey
set_option maxRecDepth 20000 in
theorem ggX3_request_X3_asked : GoodIn wsX3_request wsX3_asked := goodIn_r _ [15, 16, 59, 60, 61, 62, 63, 64, 65, 66, 67, 68] (by decide +kernel) (by decide +kernel)
set_option maxRecDepth 20000 in
theorem gX3_request_X3_asked : GoodIn wsX3_request (wsV RX3 76 RX3 yX3_asked wsX3_asked) := goodIn_app (goodIn_of _ (by decide +kernel)) ggX3_request_X3_asked
set_option maxRecDepth 20000 in
theorem ggX3_request_X3_asks : GoodIn wsX3_request wsX3_asks := goodIn_r _ [19, 20, 21, 10, 22, 23, 24, 25, 26, 27, 28, 29, 30, 31, 32, 33, 34, 35, 36, 37, 38, 39, 40, 41, 42, 43, 44, 45, 46, 47, 48, 49, 50, 51, 52, 53, 54, 55, 56, 57, 58] (by decide +kernel) (by decide +kernel)
set_option maxRecDepth 20000 in
theorem gX3_request_X3_asks : GoodIn wsX3_request (va_wsS RX3 80 yX3_asks wsX3_asks) := goodIn_app (goodIn_of _ (by decide +kernel)) ggX3_request_X3_asks
theorem dX3_request_0 : decode cX3_request 0 = .ok (.aload_n 0, 1) := by decide +kernel
theorem dX3_request_1 : decode cX3_request 1 = .ok (.iload_n 1, 1) := by decide +kernel
theorem dX3_request_2 : decode cX3_request 2 = .ok (.invokestatic 72, 3) := by decide +kernel
theorem dX3_request_5 : decode cX3_request 5 = .ok (.invokevirtual 76, 3) := by decide +kernel
theorem dX3_request_8 : decode cX3_request 8 = .ok (.ifCond .ne 5, 3) := by decide +kernel
theorem dX3_request_11 : decode cX3_request 11 = .ok (.iconst 0, 1) := by decide +kernel
theorem dX3_request_12 : decode cX3_request 12 = .ok (.ireturn, 1) := by decide +kernel
theorem dX3_request_13 : decode cX3_request 13 = .ok (.aload_n 0, 1) := by decide +kernel
theorem dX3_request_14 : decode cX3_request 14 = .ok (.getfield 7, 3) := by decide +kernel
theorem dX3_request_17 : decode cX3_request 17 = .ok (.iload_n 1, 1) := by decide +kernel
theorem dX3_request_18 : decode cX3_request 18 = .ok (.invokestatic 80, 3) := by decide +kernel
theorem dX3_request_21 : decode cX3_request 21 = .ok (.istore_n 2, 1) := by decide +kernel
theorem dX3_request_22 : decode cX3_request 22 = .ok (.aload_n 0, 1) := by decide +kernel
theorem dX3_request_23 : decode cX3_request 23 = .ok (.dup, 1) := by decide +kernel
theorem dX3_request_24 : decode cX3_request 24 = .ok (.getfield 83, 3) := by decide +kernel
theorem dX3_request_27 : decode cX3_request 27 = .ok (.iconst 1, 1) := by decide +kernel
theorem dX3_request_28 : decode cX3_request 28 = .ok (.iadd, 1) := by decide +kernel
theorem dX3_request_29 : decode cX3_request 29 = .ok (.putfield 83, 3) := by decide +kernel
theorem dX3_request_32 : decode cX3_request 32 = .ok (.aload_n 0, 1) := by decide +kernel
theorem dX3_request_33 : decode cX3_request 33 = .ok (.dup, 1) := by decide +kernel
theorem dX3_request_34 : decode cX3_request 34 = .ok (.getfield 86, 3) := by decide +kernel
theorem dX3_request_37 : decode cX3_request 37 = .ok (.iload_n 2, 1) := by decide +kernel
theorem dX3_request_38 : decode cX3_request 38 = .ok (.iconst 3, 1) := by decide +kernel
theorem dX3_request_39 : decode cX3_request 39 = .ok (.if_icmp .ge 7, 3) := by decide +kernel
theorem dX3_request_42 : decode cX3_request 42 = .ok (.iconst 1, 1) := by decide +kernel
theorem dX3_request_43 : decode cX3_request 43 = .ok (.goto 4, 3) := by decide +kernel
theorem dX3_request_46 : decode cX3_request 46 = .ok (.iconst 0, 1) := by decide +kernel
theorem dX3_request_47 : decode cX3_request 47 = .ok (.iadd, 1) := by decide +kernel
theorem dX3_request_48 : decode cX3_request 48 = .ok (.putfield 86, 3) := by decide +kernel
theorem dX3_request_51 : decode cX3_request 51 = .ok (.aload_n 0, 1) := by decide +kernel
theorem dX3_request_52 : decode cX3_request 52 = .ok (.dup, 1) := by decide +kernel
theorem dX3_request_53 : decode cX3_request 53 = .ok (.getfield 89, 3) := by decide +kernel
theorem dX3_request_56 : decode cX3_request 56 = .ok (.iload_n 2, 1) := by decide +kernel
theorem dX3_request_57 : decode cX3_request 57 = .ok (.iconst 3, 1) := by decide +kernel
theorem dX3_request_58 : decode cX3_request 58 = .ok (.if_icmp .eq 8, 3) := by decide +kernel
theorem dX3_request_61 : decode cX3_request 61 = .ok (.iload_n 2, 1) := by decide +kernel
theorem dX3_request_62 : decode cX3_request 62 = .ok (.iconst 4, 1) := by decide +kernel
theorem dX3_request_63 : decode cX3_request 63 = .ok (.if_icmp .ne 7, 3) := by decide +kernel
theorem dX3_request_66 : decode cX3_request 66 = .ok (.iconst 1, 1) := by decide +kernel
theorem dX3_request_67 : decode cX3_request 67 = .ok (.goto 4, 3) := by decide +kernel
theorem dX3_request_70 : decode cX3_request 70 = .ok (.iconst 0, 1) := by decide +kernel
theorem dX3_request_71 : decode cX3_request 71 = .ok (.iadd, 1) := by decide +kernel
theorem dX3_request_72 : decode cX3_request 72 = .ok (.putfield 89, 3) := by decide +kernel
theorem dX3_request_75 : decode cX3_request 75 = .ok (.aload_n 0, 1) := by decide +kernel
theorem dX3_request_76 : decode cX3_request 76 = .ok (.dup, 1) := by decide +kernel
theorem dX3_request_77 : decode cX3_request 77 = .ok (.getfield 92, 3) := by decide +kernel
theorem dX3_request_80 : decode cX3_request 80 = .ok (.iload_n 2, 1) := by decide +kernel
theorem dX3_request_81 : decode cX3_request 81 = .ok (.bipush 6, 2) := by decide +kernel
theorem dX3_request_83 : decode cX3_request 83 = .ok (.if_icmp .ne 7, 3) := by decide +kernel
theorem dX3_request_86 : decode cX3_request 86 = .ok (.iconst 1, 1) := by decide +kernel
theorem dX3_request_87 : decode cX3_request 87 = .ok (.goto 4, 3) := by decide +kernel
theorem dX3_request_90 : decode cX3_request 90 = .ok (.iconst 0, 1) := by decide +kernel
theorem dX3_request_91 : decode cX3_request 91 = .ok (.iadd, 1) := by decide +kernel
theorem dX3_request_92 : decode cX3_request 92 = .ok (.putfield 92, 3) := by decide +kernel
theorem dX3_request_95 : decode cX3_request 95 = .ok (.aload_n 0, 1) := by decide +kernel
theorem dX3_request_96 : decode cX3_request 96 = .ok (.getfield 95, 3) := by decide +kernel
theorem dX3_request_99 : decode cX3_request 99 = .ok (.bipush 60, 2) := by decide +kernel
theorem dX3_request_101 : decode cX3_request 101 = .ok (.if_icmp .ne 41, 3) := by decide +kernel
theorem dX3_request_104 : decode cX3_request 104 = .ok (.iconst 1, 1) := by decide +kernel
theorem dX3_request_105 : decode cX3_request 105 = .ok (.istore_n 3, 1) := by decide +kernel
theorem dX3_request_106 : decode cX3_request 106 = .ok (.iload_n 3, 1) := by decide +kernel
theorem dX3_request_107 : decode cX3_request 107 = .ok (.bipush 60, 2) := by decide +kernel
theorem dX3_request_109 : decode cX3_request 109 = .ok (.if_icmp .ge 23, 3) := by decide +kernel
theorem dX3_request_112 : decode cX3_request 112 = .ok (.aload_n 0, 1) := by decide +kernel
theorem dX3_request_113 : decode cX3_request 113 = .ok (.getfield 16, 3) := by decide +kernel
theorem dX3_request_116 : decode cX3_request 116 = .ok (.iload_n 3, 1) := by decide +kernel
theorem dX3_request_117 : decode cX3_request 117 = .ok (.iconst 1, 1) := by decide +kernel
theorem dX3_request_118 : decode cX3_request 118 = .ok (.isub, 1) := by decide +kernel
theorem dX3_request_119 : decode cX3_request 119 = .ok (.aload_n 0, 1) := by decide +kernel
theorem dX3_request_120 : decode cX3_request 120 = .ok (.getfield 16, 3) := by decide +kernel
theorem dX3_request_123 : decode cX3_request 123 = .ok (.iload_n 3, 1) := by decide +kernel
theorem dX3_request_124 : decode cX3_request 124 = .ok (.iaload, 1) := by decide +kernel
theorem dX3_request_125 : decode cX3_request 125 = .ok (.iastore, 1) := by decide +kernel
theorem dX3_request_126 : decode cX3_request 126 = .ok (.iinc 3 1, 3) := by decide +kernel
theorem dX3_request_129 : decode cX3_request 129 = .ok (.goto (-23), 3) := by decide +kernel
theorem dX3_request_132 : decode cX3_request 132 = .ok (.aload_n 0, 1) := by decide +kernel
theorem dX3_request_133 : decode cX3_request 133 = .ok (.dup, 1) := by decide +kernel
theorem dX3_request_134 : decode cX3_request 134 = .ok (.getfield 95, 3) := by decide +kernel
theorem dX3_request_137 : decode cX3_request 137 = .ok (.iconst 1, 1) := by decide +kernel
theorem dX3_request_138 : decode cX3_request 138 = .ok (.isub, 1) := by decide +kernel
theorem dX3_request_139 : decode cX3_request 139 = .ok (.putfield 95, 3) := by decide +kernel
theorem dX3_request_142 : decode cX3_request 142 = .ok (.aload_n 0, 1) := by decide +kernel
theorem dX3_request_143 : decode cX3_request 143 = .ok (.getfield 16, 3) := by decide +kernel
theorem dX3_request_146 : decode cX3_request 146 = .ok (.aload_n 0, 1) := by decide +kernel
theorem dX3_request_147 : decode cX3_request 147 = .ok (.getfield 95, 3) := by decide +kernel
theorem dX3_request_150 : decode cX3_request 150 = .ok (.iload_n 1, 1) := by decide +kernel
theorem dX3_request_151 : decode cX3_request 151 = .ok (.iastore, 1) := by decide +kernel
theorem dX3_request_152 : decode cX3_request 152 = .ok (.aload_n 0, 1) := by decide +kernel
theorem dX3_request_153 : decode cX3_request 153 = .ok (.dup, 1) := by decide +kernel
theorem dX3_request_154 : decode cX3_request 154 = .ok (.getfield 95, 3) := by decide +kernel
theorem dX3_request_157 : decode cX3_request 157 = .ok (.iconst 1, 1) := by decide +kernel
theorem dX3_request_158 : decode cX3_request 158 = .ok (.iadd, 1) := by decide +kernel
theorem dX3_request_159 : decode cX3_request 159 = .ok (.putfield 95, 3) := by decide +kernel
theorem dX3_request_162 : decode cX3_request 162 = .ok (.iload_n 2, 1) := by decide +kernel
theorem dX3_request_163 : decode cX3_request 163 = .ok (.ireturn, 1) := by decide +kernel
set_option maxRecDepth 20000 in
theorem ggX3_remove_X3_isKey : GoodIn wsX3_remove wsX3_isKey := goodIn_r _ [5] (by decide +kernel) (by decide +kernel)
set_option maxRecDepth 20000 in
theorem gX3_remove_X3_isKey : GoodIn wsX3_remove (va_wsS RX3 72 yX3_isKey wsX3_isKey) := goodIn_app (goodIn_of _ (by decide +kernel)) ggX3_remove_X3_isKey
set_option maxRecDepth 20000 in
theorem ggX3_remove_X3_asked : GoodIn wsX3_remove wsX3_asked := goodIn_r _ [9, 10, 23, 24, 25, 26, 27, 28, 29, 30, 31, 32] (by decide +kernel) (by decide +kernel)
set_option maxRecDepth 20000 in
theorem gX3_remove_X3_asked : GoodIn wsX3_remove (wsV RX3 76 RX3 yX3_asked wsX3_asked) := goodIn_app (goodIn_of _ (by decide +kernel)) ggX3_remove_X3_asked
set_option maxRecDepth 20000 in
theorem ggX3_remove_X3_listOf : GoodIn wsX3_remove wsX3_listOf := goodIn_r _ [13, 14, 15, 4, 16, 17, 18, 19] (by decide +kernel) (by decide +kernel)
set_option maxRecDepth 20000 in
theorem gX3_remove_X3_listOf : GoodIn wsX3_remove (va_wsS RX3 63 yX3_listOf wsX3_listOf) := goodIn_app (goodIn_of _ (by decide +kernel)) ggX3_remove_X3_listOf
set_option maxRecDepth 20000 in
theorem ggX3_remove_X3_placeIn : GoodIn wsX3_remove wsX3_placeIn := goodIn_r _ [16, 17, 18, 4, 19] (by decide +kernel) (by decide +kernel)
set_option maxRecDepth 20000 in
theorem gX3_remove_X3_placeIn : GoodIn wsX3_remove (va_wsS RX3 30 yX3_placeIn wsX3_placeIn) := goodIn_app (goodIn_of _ (by decide +kernel)) ggX3_remove_X3_placeIn
set_option maxRecDepth 20000 in
theorem ggX3_remove_X3_leaves : GoodIn wsX3_remove wsX3_leaves := goodIn_r _ [22, 17, 18, 4, 19] (by decide +kernel) (by decide +kernel)
set_option maxRecDepth 20000 in
theorem gX3_remove_X3_leaves : GoodIn wsX3_remove (va_wsS RX3 38 yX3_leaves wsX3_leaves) := goodIn_app (goodIn_of _ (by decide +kernel)) ggX3_remove_X3_leaves
theorem dX3_remove_0 : decode cX3_remove 0 = .ok (.aload_n 0, 1) := by decide +kernel
theorem dX3_remove_1 : decode cX3_remove 1 = .ok (.iload_n 1, 1) := by decide +kernel
theorem dX3_remove_2 : decode cX3_remove 2 = .ok (.invokestatic 72, 3) := by decide +kernel
theorem dX3_remove_5 : decode cX3_remove 5 = .ok (.invokevirtual 76, 3) := by decide +kernel
theorem dX3_remove_8 : decode cX3_remove 8 = .ok (.ifCond .ne 5, 3) := by decide +kernel
theorem dX3_remove_11 : decode cX3_remove 11 = .ok (.iconst 0, 1) := by decide +kernel
theorem dX3_remove_12 : decode cX3_remove 12 = .ok (.ireturn, 1) := by decide +kernel
theorem dX3_remove_13 : decode cX3_remove 13 = .ok (.aload_n 0, 1) := by decide +kernel
theorem dX3_remove_14 : decode cX3_remove 14 = .ok (.getfield 7, 3) := by decide +kernel
theorem dX3_remove_17 : decode cX3_remove 17 = .ok (.iload_n 1, 1) := by decide +kernel
theorem dX3_remove_18 : decode cX3_remove 18 = .ok (.invokestatic 63, 3) := by decide +kernel
theorem dX3_remove_21 : decode cX3_remove 21 = .ok (.istore_n 2, 1) := by decide +kernel
theorem dX3_remove_22 : decode cX3_remove 22 = .ok (.iload_n 2, 1) := by decide +kernel
theorem dX3_remove_23 : decode cX3_remove 23 = .ok (.ifCond .le 21, 3) := by decide +kernel
theorem dX3_remove_26 : decode cX3_remove 26 = .ok (.aload_n 0, 1) := by decide +kernel
theorem dX3_remove_27 : decode cX3_remove 27 = .ok (.getfield 7, 3) := by decide +kernel
theorem dX3_remove_30 : decode cX3_remove 30 = .ok (.iload_n 2, 1) := by decide +kernel
theorem dX3_remove_31 : decode cX3_remove 31 = .ok (.aload_n 0, 1) := by decide +kernel
theorem dX3_remove_32 : decode cX3_remove 32 = .ok (.getfield 7, 3) := by decide +kernel
theorem dX3_remove_35 : decode cX3_remove 35 = .ok (.iload_n 2, 1) := by decide +kernel
theorem dX3_remove_36 : decode cX3_remove 36 = .ok (.iload_n 1, 1) := by decide +kernel
theorem dX3_remove_37 : decode cX3_remove 37 = .ok (.invokestatic 30, 3) := by decide +kernel
theorem dX3_remove_40 : decode cX3_remove 40 = .ok (.invokestatic 38, 3) := by decide +kernel
theorem dX3_remove_43 : decode cX3_remove 43 = .ok (.pop, 1) := by decide +kernel
theorem dX3_remove_44 : decode cX3_remove 44 = .ok (.iload_n 2, 1) := by decide +kernel
theorem dX3_remove_45 : decode cX3_remove 45 = .ok (.ireturn, 1) := by decide +kernel
theorem dX3_clear_0 : decode cX3_clear 0 = .ok (.aload_n 0, 1) := by decide +kernel
theorem dX3_clear_1 : decode cX3_clear 1 = .ok (.iconst 0, 1) := by decide +kernel
theorem dX3_clear_2 : decode cX3_clear 2 = .ok (.putfield 22, 3) := by decide +kernel
theorem dX3_clear_5 : decode cX3_clear 5 = .ok (.aload_n 0, 1) := by decide +kernel
theorem dX3_clear_6 : decode cX3_clear 6 = .ok (.getfield 7, 3) := by decide +kernel
theorem dX3_clear_9 : decode cX3_clear 9 = .ok (.iconst 1, 1) := by decide +kernel
theorem dX3_clear_10 : decode cX3_clear 10 = .ok (.iaload, 1) := by decide +kernel
theorem dX3_clear_11 : decode cX3_clear 11 = .ok (.aload_n 0, 1) := by decide +kernel
theorem dX3_clear_12 : decode cX3_clear 12 = .ok (.getfield 7, 3) := by decide +kernel
theorem dX3_clear_15 : decode cX3_clear 15 = .ok (.iconst 2, 1) := by decide +kernel
theorem dX3_clear_16 : decode cX3_clear 16 = .ok (.iaload, 1) := by decide +kernel
theorem dX3_clear_17 : decode cX3_clear 17 = .ok (.iadd, 1) := by decide +kernel
theorem dX3_clear_18 : decode cX3_clear 18 = .ok (.istore_n 1, 1) := by decide +kernel
theorem dX3_clear_19 : decode cX3_clear 19 = .ok (.iconst 1, 1) := by decide +kernel
theorem dX3_clear_20 : decode cX3_clear 20 = .ok (.istore_n 2, 1) := by decide +kernel
theorem dX3_clear_21 : decode cX3_clear 21 = .ok (.iload_n 2, 1) := by decide +kernel
theorem dX3_clear_22 : decode cX3_clear 22 = .ok (.iconst 5, 1) := by decide +kernel
theorem dX3_clear_23 : decode cX3_clear 23 = .ok (.if_icmp .gt 16, 3) := by decide +kernel
theorem dX3_clear_26 : decode cX3_clear 26 = .ok (.aload_n 0, 1) := by decide +kernel
theorem dX3_clear_27 : decode cX3_clear 27 = .ok (.getfield 7, 3) := by decide +kernel
theorem dX3_clear_30 : decode cX3_clear 30 = .ok (.iload_n 2, 1) := by decide +kernel
theorem dX3_clear_31 : decode cX3_clear 31 = .ok (.iconst 0, 1) := by decide +kernel
theorem dX3_clear_32 : decode cX3_clear 32 = .ok (.iastore, 1) := by decide +kernel
theorem dX3_clear_33 : decode cX3_clear 33 = .ok (.iinc 2 1, 3) := by decide +kernel
theorem dX3_clear_36 : decode cX3_clear 36 = .ok (.goto (-15), 3) := by decide +kernel
theorem dX3_clear_39 : decode cX3_clear 39 = .ok (.iload_n 1, 1) := by decide +kernel
theorem dX3_clear_40 : decode cX3_clear 40 = .ok (.ireturn, 1) := by decide +kernel
theorem dX3_isCapacity_0 : decode cX3_isCapacity 0 = .ok (.iload_n 0, 1) := by decide +kernel
theorem dX3_isCapacity_1 : decode cX3_isCapacity 1 = .ok (.iconst 1, 1) := by decide +kernel
theorem dX3_isCapacity_2 : decode cX3_isCapacity 2 = .ok (.if_icmp .lt 13, 3) := by decide +kernel
theorem dX3_isCapacity_5 : decode cX3_isCapacity 5 = .ok (.iload_n 0, 1) := by decide +kernel
theorem dX3_isCapacity_6 : decode cX3_isCapacity 6 = .ok (.bipush 32, 2) := by decide +kernel
theorem dX3_isCapacity_8 : decode cX3_isCapacity 8 = .ok (.if_icmp .gt 7, 3) := by decide +kernel
theorem dX3_isCapacity_11 : decode cX3_isCapacity 11 = .ok (.iconst 1, 1) := by decide +kernel
theorem dX3_isCapacity_12 : decode cX3_isCapacity 12 = .ok (.goto 4, 3) := by decide +kernel
theorem dX3_isCapacity_15 : decode cX3_isCapacity 15 = .ok (.iconst 0, 1) := by decide +kernel
theorem dX3_isCapacity_16 : decode cX3_isCapacity 16 = .ok (.ireturn, 1) := by decide +kernel
set_option maxRecDepth 20000 in
theorem ggX3_setCapacity_X3_isCapacity : GoodIn wsX3_setCapacity wsX3_isCapacity := goodIn_r _ [5] (by decide +kernel) (by decide +kernel)
set_option maxRecDepth 20000 in
theorem gX3_setCapacity_X3_isCapacity : GoodIn wsX3_setCapacity (va_wsS RX3 98 yX3_isCapacity wsX3_isCapacity) := goodIn_app (goodIn_of _ (by decide +kernel)) ggX3_setCapacity_X3_isCapacity
set_option maxRecDepth 20000 in
theorem ggX3_setCapacity_X3_asked : GoodIn wsX3_setCapacity wsX3_asked := goodIn_r _ [9, 10, 29, 30, 31, 32, 33, 34, 35, 36, 37, 38] (by decide +kernel) (by decide +kernel)
set_option maxRecDepth 20000 in
theorem gX3_setCapacity_X3_asked : GoodIn wsX3_setCapacity (wsV RX3 76 RX3 yX3_asked wsX3_asked) := goodIn_app (goodIn_of _ (by decide +kernel)) ggX3_setCapacity_X3_asked
set_option maxRecDepth 20000 in
theorem ggX3_setCapacity_X3_evicts : GoodIn wsX3_setCapacity wsX3_evicts := goodIn_r _ [13, 14, 15, 4, 16, 17, 18, 19, 20, 21, 22, 23, 24, 25] (by decide +kernel) (by decide +kernel)
set_option maxRecDepth 20000 in
theorem gX3_setCapacity_X3_evicts : GoodIn wsX3_setCapacity (va_wsS RX3 49 yX3_evicts wsX3_evicts) := goodIn_app (goodIn_of _ (by decide +kernel)) ggX3_setCapacity_X3_evicts
set_option maxRecDepth 20000 in
theorem ggX3_setCapacity_X3_leaves : GoodIn wsX3_setCapacity wsX3_leaves := goodIn_r _ [19, 20, 21, 4, 22] (by decide +kernel) (by decide +kernel)
set_option maxRecDepth 20000 in
theorem gX3_setCapacity_X3_leaves : GoodIn wsX3_setCapacity (va_wsS RX3 38 yX3_leaves wsX3_leaves) := goodIn_app (goodIn_of _ (by decide +kernel)) ggX3_setCapacity_X3_leaves
set_option maxRecDepth 20000 in
theorem ggX3_setCapacity_X3_allKeys : GoodIn wsX3_setCapacity wsX3_allKeys := goodIn_r _ [28] (by decide +kernel) (by decide +kernel)
set_option maxRecDepth 20000 in
theorem gX3_setCapacity_X3_allKeys : GoodIn wsX3_setCapacity (va_wsS RX3 59 yX3_allKeys wsX3_allKeys) := goodIn_app (goodIn_of _ (by decide +kernel)) ggX3_setCapacity_X3_allKeys
theorem dX3_setCapacity_0 : decode cX3_setCapacity 0 = .ok (.aload_n 0, 1) := by decide +kernel
theorem dX3_setCapacity_1 : decode cX3_setCapacity 1 = .ok (.iload_n 1, 1) := by decide +kernel
theorem dX3_setCapacity_2 : decode cX3_setCapacity 2 = .ok (.invokestatic 98, 3) := by decide +kernel
theorem dX3_setCapacity_5 : decode cX3_setCapacity 5 = .ok (.invokevirtual 76, 3) := by decide +kernel
theorem dX3_setCapacity_8 : decode cX3_setCapacity 8 = .ok (.ifCond .ne 5, 3) := by decide +kernel
theorem dX3_setCapacity_11 : decode cX3_setCapacity 11 = .ok (.iconst 0, 1) := by decide +kernel
theorem dX3_setCapacity_12 : decode cX3_setCapacity 12 = .ok (.ireturn, 1) := by decide +kernel
theorem dX3_setCapacity_13 : decode cX3_setCapacity 13 = .ok (.aload_n 0, 1) := by decide +kernel
theorem dX3_setCapacity_14 : decode cX3_setCapacity 14 = .ok (.getfield 7, 3) := by decide +kernel
theorem dX3_setCapacity_17 : decode cX3_setCapacity 17 = .ok (.bipush 10, 2) := by decide +kernel
theorem dX3_setCapacity_19 : decode cX3_setCapacity 19 = .ok (.iaload, 1) := by decide +kernel
theorem dX3_setCapacity_20 : decode cX3_setCapacity 20 = .ok (.istore_n 2, 1) := by decide +kernel
theorem dX3_setCapacity_21 : decode cX3_setCapacity 21 = .ok (.aload_n 0, 1) := by decide +kernel
theorem dX3_setCapacity_22 : decode cX3_setCapacity 22 = .ok (.getfield 7, 3) := by decide +kernel
theorem dX3_setCapacity_25 : decode cX3_setCapacity 25 = .ok (.bipush 6, 2) := by decide +kernel
theorem dX3_setCapacity_27 : decode cX3_setCapacity 27 = .ok (.iload_n 1, 1) := by decide +kernel
theorem dX3_setCapacity_28 : decode cX3_setCapacity 28 = .ok (.iastore, 1) := by decide +kernel
theorem dX3_setCapacity_29 : decode cX3_setCapacity 29 = .ok (.aload_n 0, 1) := by decide +kernel
theorem dX3_setCapacity_30 : decode cX3_setCapacity 30 = .ok (.getfield 7, 3) := by decide +kernel
theorem dX3_setCapacity_33 : decode cX3_setCapacity 33 = .ok (.iconst 5, 1) := by decide +kernel
theorem dX3_setCapacity_34 : decode cX3_setCapacity 34 = .ok (.aload_n 0, 1) := by decide +kernel
theorem dX3_setCapacity_35 : decode cX3_setCapacity 35 = .ok (.getfield 7, 3) := by decide +kernel
theorem dX3_setCapacity_38 : decode cX3_setCapacity 38 = .ok (.iconst 5, 1) := by decide +kernel
theorem dX3_setCapacity_39 : decode cX3_setCapacity 39 = .ok (.iaload, 1) := by decide +kernel
theorem dX3_setCapacity_40 : decode cX3_setCapacity 40 = .ok (.iload_n 1, 1) := by decide +kernel
theorem dX3_setCapacity_41 : decode cX3_setCapacity 41 = .ok (.if_icmp .le 7, 3) := by decide +kernel
theorem dX3_setCapacity_44 : decode cX3_setCapacity 44 = .ok (.iload_n 1, 1) := by decide +kernel
theorem dX3_setCapacity_45 : decode cX3_setCapacity 45 = .ok (.goto 9, 3) := by decide +kernel
theorem dX3_setCapacity_48 : decode cX3_setCapacity 48 = .ok (.aload_n 0, 1) := by decide +kernel
theorem dX3_setCapacity_49 : decode cX3_setCapacity 49 = .ok (.getfield 7, 3) := by decide +kernel
theorem dX3_setCapacity_52 : decode cX3_setCapacity 52 = .ok (.iconst 5, 1) := by decide +kernel
theorem dX3_setCapacity_53 : decode cX3_setCapacity 53 = .ok (.iaload, 1) := by decide +kernel
theorem dX3_setCapacity_54 : decode cX3_setCapacity 54 = .ok (.iastore, 1) := by decide +kernel
theorem dX3_setCapacity_55 : decode cX3_setCapacity 55 = .ok (.aload_n 0, 1) := by decide +kernel
theorem dX3_setCapacity_56 : decode cX3_setCapacity 56 = .ok (.getfield 7, 3) := by decide +kernel
theorem dX3_setCapacity_59 : decode cX3_setCapacity 59 = .ok (.iconst 1, 1) := by decide +kernel
theorem dX3_setCapacity_60 : decode cX3_setCapacity 60 = .ok (.iaload, 1) := by decide +kernel
theorem dX3_setCapacity_61 : decode cX3_setCapacity 61 = .ok (.aload_n 0, 1) := by decide +kernel
theorem dX3_setCapacity_62 : decode cX3_setCapacity 62 = .ok (.getfield 7, 3) := by decide +kernel
theorem dX3_setCapacity_65 : decode cX3_setCapacity 65 = .ok (.iconst 2, 1) := by decide +kernel
theorem dX3_setCapacity_66 : decode cX3_setCapacity 66 = .ok (.iaload, 1) := by decide +kernel
theorem dX3_setCapacity_67 : decode cX3_setCapacity 67 = .ok (.iadd, 1) := by decide +kernel
theorem dX3_setCapacity_68 : decode cX3_setCapacity 68 = .ok (.iload_n 1, 1) := by decide +kernel
theorem dX3_setCapacity_69 : decode cX3_setCapacity 69 = .ok (.if_icmp .le 14, 3) := by decide +kernel
theorem dX3_setCapacity_72 : decode cX3_setCapacity 72 = .ok (.aload_n 0, 1) := by decide +kernel
theorem dX3_setCapacity_73 : decode cX3_setCapacity 73 = .ok (.getfield 7, 3) := by decide +kernel
theorem dX3_setCapacity_76 : decode cX3_setCapacity 76 = .ok (.iconst 0, 1) := by decide +kernel
theorem dX3_setCapacity_77 : decode cX3_setCapacity 77 = .ok (.invokestatic 49, 3) := by decide +kernel
theorem dX3_setCapacity_80 : decode cX3_setCapacity 80 = .ok (.goto (-25), 3) := by decide +kernel
theorem dX3_setCapacity_83 : decode cX3_setCapacity 83 = .ok (.aload_n 0, 1) := by decide +kernel
theorem dX3_setCapacity_84 : decode cX3_setCapacity 84 = .ok (.getfield 7, 3) := by decide +kernel
theorem dX3_setCapacity_87 : decode cX3_setCapacity 87 = .ok (.iconst 1, 1) := by decide +kernel
theorem dX3_setCapacity_88 : decode cX3_setCapacity 88 = .ok (.iaload, 1) := by decide +kernel
theorem dX3_setCapacity_89 : decode cX3_setCapacity 89 = .ok (.aload_n 0, 1) := by decide +kernel
theorem dX3_setCapacity_90 : decode cX3_setCapacity 90 = .ok (.getfield 7, 3) := by decide +kernel
theorem dX3_setCapacity_93 : decode cX3_setCapacity 93 = .ok (.iconst 3, 1) := by decide +kernel
theorem dX3_setCapacity_94 : decode cX3_setCapacity 94 = .ok (.iaload, 1) := by decide +kernel
theorem dX3_setCapacity_95 : decode cX3_setCapacity 95 = .ok (.iadd, 1) := by decide +kernel
theorem dX3_setCapacity_96 : decode cX3_setCapacity 96 = .ok (.iload_n 1, 1) := by decide +kernel
theorem dX3_setCapacity_97 : decode cX3_setCapacity 97 = .ok (.if_icmp .le 16, 3) := by decide +kernel
theorem dX3_setCapacity_100 : decode cX3_setCapacity 100 = .ok (.aload_n 0, 1) := by decide +kernel
theorem dX3_setCapacity_101 : decode cX3_setCapacity 101 = .ok (.getfield 7, 3) := by decide +kernel
theorem dX3_setCapacity_104 : decode cX3_setCapacity 104 = .ok (.iconst 3, 1) := by decide +kernel
theorem dX3_setCapacity_105 : decode cX3_setCapacity 105 = .ok (.iconst 0, 1) := by decide +kernel
theorem dX3_setCapacity_106 : decode cX3_setCapacity 106 = .ok (.invokestatic 38, 3) := by decide +kernel
theorem dX3_setCapacity_109 : decode cX3_setCapacity 109 = .ok (.pop, 1) := by decide +kernel
theorem dX3_setCapacity_110 : decode cX3_setCapacity 110 = .ok (.goto (-27), 3) := by decide +kernel
theorem dX3_setCapacity_113 : decode cX3_setCapacity 113 = .ok (.aload_n 0, 1) := by decide +kernel
theorem dX3_setCapacity_114 : decode cX3_setCapacity 114 = .ok (.getfield 7, 3) := by decide +kernel
theorem dX3_setCapacity_117 : decode cX3_setCapacity 117 = .ok (.invokestatic 59, 3) := by decide +kernel
theorem dX3_setCapacity_120 : decode cX3_setCapacity 120 = .ok (.iconst 2, 1) := by decide +kernel
theorem dX3_setCapacity_121 : decode cX3_setCapacity 121 = .ok (.iload_n 1, 1) := by decide +kernel
theorem dX3_setCapacity_122 : decode cX3_setCapacity 122 = .ok (.imul, 1) := by decide +kernel
theorem dX3_setCapacity_123 : decode cX3_setCapacity 123 = .ok (.if_icmp .le 16, 3) := by decide +kernel
theorem dX3_setCapacity_126 : decode cX3_setCapacity 126 = .ok (.aload_n 0, 1) := by decide +kernel
theorem dX3_setCapacity_127 : decode cX3_setCapacity 127 = .ok (.getfield 7, 3) := by decide +kernel
theorem dX3_setCapacity_130 : decode cX3_setCapacity 130 = .ok (.iconst 4, 1) := by decide +kernel
theorem dX3_setCapacity_131 : decode cX3_setCapacity 131 = .ok (.iconst 0, 1) := by decide +kernel
theorem dX3_setCapacity_132 : decode cX3_setCapacity 132 = .ok (.invokestatic 38, 3) := by decide +kernel
theorem dX3_setCapacity_135 : decode cX3_setCapacity 135 = .ok (.pop, 1) := by decide +kernel
theorem dX3_setCapacity_136 : decode cX3_setCapacity 136 = .ok (.goto (-23), 3) := by decide +kernel
theorem dX3_setCapacity_139 : decode cX3_setCapacity 139 = .ok (.aload_n 0, 1) := by decide +kernel
theorem dX3_setCapacity_140 : decode cX3_setCapacity 140 = .ok (.getfield 7, 3) := by decide +kernel
theorem dX3_setCapacity_143 : decode cX3_setCapacity 143 = .ok (.bipush 10, 2) := by decide +kernel
theorem dX3_setCapacity_145 : decode cX3_setCapacity 145 = .ok (.iaload, 1) := by decide +kernel
theorem dX3_setCapacity_146 : decode cX3_setCapacity 146 = .ok (.iload_n 2, 1) := by decide +kernel
theorem dX3_setCapacity_147 : decode cX3_setCapacity 147 = .ok (.isub, 1) := by decide +kernel
theorem dX3_setCapacity_148 : decode cX3_setCapacity 148 = .ok (.ireturn, 1) := by decide +kernel
set_option maxRecDepth 20000 in
theorem ggX3_capacity_X3_told : GoodIn wsX3_capacity wsX3_told := goodIn_r _ [6, 7, 8, 9, 10, 11, 12, 13, 14, 15, 16, 17] (by decide +kernel) (by decide +kernel)
set_option maxRecDepth 20000 in
theorem gX3_capacity_X3_told : GoodIn wsX3_capacity (wsV RX3 101 RX3 yX3_told wsX3_told) := goodIn_app (goodIn_of _ (by decide +kernel)) ggX3_capacity_X3_told
theorem dX3_capacity_0 : decode cX3_capacity 0 = .ok (.aload_n 0, 1) := by decide +kernel
theorem dX3_capacity_1 : decode cX3_capacity 1 = .ok (.aload_n 0, 1) := by decide +kernel
theorem dX3_capacity_2 : decode cX3_capacity 2 = .ok (.getfield 7, 3) := by decide +kernel
theorem dX3_capacity_5 : decode cX3_capacity 5 = .ok (.bipush 6, 2) := by decide +kernel
theorem dX3_capacity_7 : decode cX3_capacity 7 = .ok (.iaload, 1) := by decide +kernel
theorem dX3_capacity_8 : decode cX3_capacity 8 = .ok (.invokevirtual 101, 3) := by decide +kernel
theorem dX3_capacity_11 : decode cX3_capacity 11 = .ok (.ireturn, 1) := by decide +kernel
set_option maxRecDepth 20000 in
theorem ggX3_setScanLength_X3_asked : GoodIn wsX3_setScanLength wsX3_asked := goodIn_r _ [6, 7, 8, 9, 10, 11, 12, 13, 14, 15, 16, 17] (by decide +kernel) (by decide +kernel)
set_option maxRecDepth 20000 in
theorem gX3_setScanLength_X3_asked : GoodIn wsX3_setScanLength (wsV RX3 76 RX3 yX3_asked wsX3_asked) := goodIn_app (goodIn_of _ (by decide +kernel)) ggX3_setScanLength_X3_asked
theorem dX3_setScanLength_0 : decode cX3_setScanLength 0 = .ok (.aload_n 0, 1) := by decide +kernel
theorem dX3_setScanLength_1 : decode cX3_setScanLength 1 = .ok (.iload_n 1, 1) := by decide +kernel
theorem dX3_setScanLength_2 : decode cX3_setScanLength 2 = .ok (.ifCond .eq 14, 3) := by decide +kernel
theorem dX3_setScanLength_5 : decode cX3_setScanLength 5 = .ok (.iload_n 1, 1) := by decide +kernel
theorem dX3_setScanLength_6 : decode cX3_setScanLength 6 = .ok (.iconst 2, 1) := by decide +kernel
theorem dX3_setScanLength_7 : decode cX3_setScanLength 7 = .ok (.if_icmp .lt 13, 3) := by decide +kernel
theorem dX3_setScanLength_10 : decode cX3_setScanLength 10 = .ok (.iload_n 1, 1) := by decide +kernel
theorem dX3_setScanLength_11 : decode cX3_setScanLength 11 = .ok (.bipush 20, 2) := by decide +kernel
theorem dX3_setScanLength_13 : decode cX3_setScanLength 13 = .ok (.if_icmp .gt 7, 3) := by decide +kernel
theorem dX3_setScanLength_16 : decode cX3_setScanLength 16 = .ok (.iconst 1, 1) := by decide +kernel
theorem dX3_setScanLength_17 : decode cX3_setScanLength 17 = .ok (.goto 4, 3) := by decide +kernel
theorem dX3_setScanLength_20 : decode cX3_setScanLength 20 = .ok (.iconst 0, 1) := by decide +kernel
theorem dX3_setScanLength_21 : decode cX3_setScanLength 21 = .ok (.invokevirtual 76, 3) := by decide +kernel
theorem dX3_setScanLength_24 : decode cX3_setScanLength 24 = .ok (.ifCond .ne 5, 3) := by decide +kernel
theorem dX3_setScanLength_27 : decode cX3_setScanLength 27 = .ok (.iconst 0, 1) := by decide +kernel
theorem dX3_setScanLength_28 : decode cX3_setScanLength 28 = .ok (.ireturn, 1) := by decide +kernel
theorem dX3_setScanLength_29 : decode cX3_setScanLength 29 = .ok (.aload_n 0, 1) := by decide +kernel
theorem dX3_setScanLength_30 : decode cX3_setScanLength 30 = .ok (.getfield 7, 3) := by decide +kernel
theorem dX3_setScanLength_33 : decode cX3_setScanLength 33 = .ok (.bipush 7, 2) := by decide +kernel
theorem dX3_setScanLength_35 : decode cX3_setScanLength 35 = .ok (.iaload, 1) := by decide +kernel
theorem dX3_setScanLength_36 : decode cX3_setScanLength 36 = .ok (.istore_n 2, 1) := by decide +kernel
theorem dX3_setScanLength_37 : decode cX3_setScanLength 37 = .ok (.aload_n 0, 1) := by decide +kernel
theorem dX3_setScanLength_38 : decode cX3_setScanLength 38 = .ok (.getfield 7, 3) := by decide +kernel
theorem dX3_setScanLength_41 : decode cX3_setScanLength 41 = .ok (.bipush 7, 2) := by decide +kernel
theorem dX3_setScanLength_43 : decode cX3_setScanLength 43 = .ok (.iload_n 1, 1) := by decide +kernel
theorem dX3_setScanLength_44 : decode cX3_setScanLength 44 = .ok (.iastore, 1) := by decide +kernel
theorem dX3_setScanLength_45 : decode cX3_setScanLength 45 = .ok (.iload_n 2, 1) := by decide +kernel
theorem dX3_setScanLength_46 : decode cX3_setScanLength 46 = .ok (.ireturn, 1) := by decide +kernel
set_option maxRecDepth 20000 in
theorem ggX3_run_X3_told : GoodIn wsX3_run wsX3_told := goodIn_r _ [6, 7, 8, 9, 10, 11, 12, 13, 14, 15, 16, 17] (by decide +kernel) (by decide +kernel)
set_option maxRecDepth 20000 in
theorem gX3_run_X3_told : GoodIn wsX3_run (wsV RX3 101 RX3 yX3_told wsX3_told) := goodIn_app (goodIn_of _ (by decide +kernel)) ggX3_run_X3_told
theorem dX3_run_0 : decode cX3_run 0 = .ok (.aload_n 0, 1) := by decide +kernel
theorem dX3_run_1 : decode cX3_run 1 = .ok (.aload_n 0, 1) := by decide +kernel
theorem dX3_run_2 : decode cX3_run 2 = .ok (.getfield 7, 3) := by decide +kernel
theorem dX3_run_5 : decode cX3_run 5 = .ok (.bipush 8, 2) := by decide +kernel
theorem dX3_run_7 : decode cX3_run 7 = .ok (.iaload, 1) := by decide +kernel
theorem dX3_run_8 : decode cX3_run 8 = .ok (.invokevirtual 101, 3) := by decide +kernel
theorem dX3_run_11 : decode cX3_run 11 = .ok (.ireturn, 1) := by decide +kernel
set_option maxRecDepth 20000 in
theorem ggX3_target_X3_told : GoodIn wsX3_target wsX3_told := goodIn_r _ [6, 7, 8, 9, 10, 11, 12, 13, 14, 15, 16, 17] (by decide +kernel) (by decide +kernel)
set_option maxRecDepth 20000 in
theorem gX3_target_X3_told : GoodIn wsX3_target (wsV RX3 101 RX3 yX3_told wsX3_told) := goodIn_app (goodIn_of _ (by decide +kernel)) ggX3_target_X3_told
theorem dX3_target_0 : decode cX3_target 0 = .ok (.aload_n 0, 1) := by decide +kernel
theorem dX3_target_1 : decode cX3_target 1 = .ok (.aload_n 0, 1) := by decide +kernel
theorem dX3_target_2 : decode cX3_target 2 = .ok (.getfield 7, 3) := by decide +kernel
theorem dX3_target_5 : decode cX3_target 5 = .ok (.iconst 5, 1) := by decide +kernel
theorem dX3_target_6 : decode cX3_target 6 = .ok (.iaload, 1) := by decide +kernel
theorem dX3_target_7 : decode cX3_target 7 = .ok (.invokevirtual 101, 3) := by decide +kernel
theorem dX3_target_10 : decode cX3_target 10 = .ok (.ireturn, 1) := by decide +kernel
set_option maxRecDepth 20000 in
theorem ggX3_size_X3_told : GoodIn wsX3_size wsX3_told := goodIn_r _ [6, 7, 8, 9, 10, 11, 12, 13, 14, 15, 16, 17] (by decide +kernel) (by decide +kernel)
set_option maxRecDepth 20000 in
theorem gX3_size_X3_told : GoodIn wsX3_size (wsV RX3 101 RX3 yX3_told wsX3_told) := goodIn_app (goodIn_of _ (by decide +kernel)) ggX3_size_X3_told
theorem dX3_size_0 : decode cX3_size 0 = .ok (.aload_n 0, 1) := by decide +kernel
theorem dX3_size_1 : decode cX3_size 1 = .ok (.aload_n 0, 1) := by decide +kernel
theorem dX3_size_2 : decode cX3_size 2 = .ok (.getfield 7, 3) := by decide +kernel
theorem dX3_size_5 : decode cX3_size 5 = .ok (.iconst 1, 1) := by decide +kernel
theorem dX3_size_6 : decode cX3_size 6 = .ok (.iaload, 1) := by decide +kernel
theorem dX3_size_7 : decode cX3_size 7 = .ok (.aload_n 0, 1) := by decide +kernel
theorem dX3_size_8 : decode cX3_size 8 = .ok (.getfield 7, 3) := by decide +kernel
theorem dX3_size_11 : decode cX3_size 11 = .ok (.iconst 2, 1) := by decide +kernel
theorem dX3_size_12 : decode cX3_size 12 = .ok (.iaload, 1) := by decide +kernel
theorem dX3_size_13 : decode cX3_size 13 = .ok (.iadd, 1) := by decide +kernel
theorem dX3_size_14 : decode cX3_size 14 = .ok (.invokevirtual 101, 3) := by decide +kernel
theorem dX3_size_17 : decode cX3_size 17 = .ok (.ireturn, 1) := by decide +kernel
set_option maxRecDepth 20000 in
theorem ggX3_whereIs_X3_isKey : GoodIn wsX3_whereIs wsX3_isKey := goodIn_r _ [5] (by decide +kernel) (by decide +kernel)
set_option maxRecDepth 20000 in
theorem gX3_whereIs_X3_isKey : GoodIn wsX3_whereIs (va_wsS RX3 72 yX3_isKey wsX3_isKey) := goodIn_app (goodIn_of _ (by decide +kernel)) ggX3_whereIs_X3_isKey
set_option maxRecDepth 20000 in
theorem ggX3_whereIs_X3_asked : GoodIn wsX3_whereIs wsX3_asked := goodIn_r _ [9, 10, 20, 21, 22, 23, 24, 25, 26, 27, 28, 29] (by decide +kernel) (by decide +kernel)
set_option maxRecDepth 20000 in
theorem gX3_whereIs_X3_asked : GoodIn wsX3_whereIs (wsV RX3 76 RX3 yX3_asked wsX3_asked) := goodIn_app (goodIn_of _ (by decide +kernel)) ggX3_whereIs_X3_asked
set_option maxRecDepth 20000 in
theorem ggX3_whereIs_X3_listOf : GoodIn wsX3_whereIs wsX3_listOf := goodIn_r _ [13, 14, 15, 4, 16, 17, 18, 19] (by decide +kernel) (by decide +kernel)
set_option maxRecDepth 20000 in
theorem gX3_whereIs_X3_listOf : GoodIn wsX3_whereIs (va_wsS RX3 63 yX3_listOf wsX3_listOf) := goodIn_app (goodIn_of _ (by decide +kernel)) ggX3_whereIs_X3_listOf
theorem dX3_whereIs_0 : decode cX3_whereIs 0 = .ok (.aload_n 0, 1) := by decide +kernel
theorem dX3_whereIs_1 : decode cX3_whereIs 1 = .ok (.iload_n 1, 1) := by decide +kernel
theorem dX3_whereIs_2 : decode cX3_whereIs 2 = .ok (.invokestatic 72, 3) := by decide +kernel
theorem dX3_whereIs_5 : decode cX3_whereIs 5 = .ok (.invokevirtual 76, 3) := by decide +kernel
theorem dX3_whereIs_8 : decode cX3_whereIs 8 = .ok (.ifCond .eq 14, 3) := by decide +kernel
theorem dX3_whereIs_11 : decode cX3_whereIs 11 = .ok (.aload_n 0, 1) := by decide +kernel
theorem dX3_whereIs_12 : decode cX3_whereIs 12 = .ok (.getfield 7, 3) := by decide +kernel
theorem dX3_whereIs_15 : decode cX3_whereIs 15 = .ok (.iload_n 1, 1) := by decide +kernel
theorem dX3_whereIs_16 : decode cX3_whereIs 16 = .ok (.invokestatic 63, 3) := by decide +kernel
theorem dX3_whereIs_19 : decode cX3_whereIs 19 = .ok (.goto 4, 3) := by decide +kernel
theorem dX3_whereIs_22 : decode cX3_whereIs 22 = .ok (.iconst 0, 1) := by decide +kernel
theorem dX3_whereIs_23 : decode cX3_whereIs 23 = .ok (.ireturn, 1) := by decide +kernel
set_option maxRecDepth 20000 in
theorem ggX3_victim_X3_isFull : GoodIn wsX3_victim wsX3_isFull := goodIn_r _ [6] (by decide +kernel) (by decide +kernel)
set_option maxRecDepth 20000 in
theorem gX3_victim_X3_isFull : GoodIn wsX3_victim (va_wsS RX3 45 yX3_isFull wsX3_isFull) := goodIn_app (goodIn_of _ (by decide +kernel)) ggX3_victim_X3_isFull
set_option maxRecDepth 20000 in
theorem ggX3_victim_X3_evictedFrom : GoodIn wsX3_victim wsX3_evictedFrom := goodIn_r _ [9] (by decide +kernel) (by decide +kernel)
set_option maxRecDepth 20000 in
theorem gX3_victim_X3_evictedFrom : GoodIn wsX3_victim (va_wsS RX3 34 yX3_evictedFrom wsX3_evictedFrom) := goodIn_app (goodIn_of _ (by decide +kernel)) ggX3_victim_X3_evictedFrom
set_option maxRecDepth 20000 in
theorem ggX3_victim_X3_at : GoodIn wsX3_victim wsX3_at := goodIn_r _ [12] (by decide +kernel) (by decide +kernel)
set_option maxRecDepth 20000 in
theorem gX3_victim_X3_at : GoodIn wsX3_victim (va_wsS RX3 26 yX3_at wsX3_at) := goodIn_app (goodIn_of _ (by decide +kernel)) ggX3_victim_X3_at
theorem dX3_victim_0 : decode cX3_victim 0 = .ok (.aload_n 0, 1) := by decide +kernel
theorem dX3_victim_1 : decode cX3_victim 1 = .ok (.iconst 0, 1) := by decide +kernel
theorem dX3_victim_2 : decode cX3_victim 2 = .ok (.putfield 22, 3) := by decide +kernel
theorem dX3_victim_5 : decode cX3_victim 5 = .ok (.aload_n 0, 1) := by decide +kernel
theorem dX3_victim_6 : decode cX3_victim 6 = .ok (.getfield 7, 3) := by decide +kernel
theorem dX3_victim_9 : decode cX3_victim 9 = .ok (.iconst 1, 1) := by decide +kernel
theorem dX3_victim_10 : decode cX3_victim 10 = .ok (.iaload, 1) := by decide +kernel
theorem dX3_victim_11 : decode cX3_victim 11 = .ok (.aload_n 0, 1) := by decide +kernel
theorem dX3_victim_12 : decode cX3_victim 12 = .ok (.getfield 7, 3) := by decide +kernel
theorem dX3_victim_15 : decode cX3_victim 15 = .ok (.iconst 3, 1) := by decide +kernel
theorem dX3_victim_16 : decode cX3_victim 16 = .ok (.iaload, 1) := by decide +kernel
theorem dX3_victim_17 : decode cX3_victim 17 = .ok (.iadd, 1) := by decide +kernel
theorem dX3_victim_18 : decode cX3_victim 18 = .ok (.aload_n 0, 1) := by decide +kernel
theorem dX3_victim_19 : decode cX3_victim 19 = .ok (.getfield 7, 3) := by decide +kernel
theorem dX3_victim_22 : decode cX3_victim 22 = .ok (.bipush 6, 2) := by decide +kernel
theorem dX3_victim_24 : decode cX3_victim 24 = .ok (.iaload, 1) := by decide +kernel
theorem dX3_victim_25 : decode cX3_victim 25 = .ok (.if_icmp .lt 16, 3) := by decide +kernel
theorem dX3_victim_28 : decode cX3_victim 28 = .ok (.aload_n 0, 1) := by decide +kernel
theorem dX3_victim_29 : decode cX3_victim 29 = .ok (.getfield 7, 3) := by decide +kernel
theorem dX3_victim_32 : decode cX3_victim 32 = .ok (.iconst 3, 1) := by decide +kernel
theorem dX3_victim_33 : decode cX3_victim 33 = .ok (.iaload, 1) := by decide +kernel
theorem dX3_victim_34 : decode cX3_victim 34 = .ok (.ifCond .ne 7, 3) := by decide +kernel
theorem dX3_victim_37 : decode cX3_victim 37 = .ok (.iconst 1, 1) := by decide +kernel
theorem dX3_victim_38 : decode cX3_victim 38 = .ok (.goto 4, 3) := by decide +kernel
theorem dX3_victim_41 : decode cX3_victim 41 = .ok (.iconst 0, 1) := by decide +kernel
theorem dX3_victim_42 : decode cX3_victim 42 = .ok (.istore_n 1, 1) := by decide +kernel
theorem dX3_victim_43 : decode cX3_victim 43 = .ok (.aload_n 0, 1) := by decide +kernel
theorem dX3_victim_44 : decode cX3_victim 44 = .ok (.getfield 7, 3) := by decide +kernel
theorem dX3_victim_47 : decode cX3_victim 47 = .ok (.invokestatic 45, 3) := by decide +kernel
theorem dX3_victim_50 : decode cX3_victim 50 = .ok (.ifCond .ne 5, 3) := by decide +kernel
theorem dX3_victim_53 : decode cX3_victim 53 = .ok (.iconst (-1), 1) := by decide +kernel
theorem dX3_victim_54 : decode cX3_victim 54 = .ok (.ireturn, 1) := by decide +kernel
theorem dX3_victim_55 : decode cX3_victim 55 = .ok (.aload_n 0, 1) := by decide +kernel
theorem dX3_victim_56 : decode cX3_victim 56 = .ok (.getfield 7, 3) := by decide +kernel
theorem dX3_victim_59 : decode cX3_victim 59 = .ok (.iload_n 1, 1) := by decide +kernel
theorem dX3_victim_60 : decode cX3_victim 60 = .ok (.ifCond .eq 7, 3) := by decide +kernel
theorem dX3_victim_63 : decode cX3_victim 63 = .ok (.iconst 1, 1) := by decide +kernel
theorem dX3_victim_64 : decode cX3_victim 64 = .ok (.goto 11, 3) := by decide +kernel
theorem dX3_victim_67 : decode cX3_victim 67 = .ok (.aload_n 0, 1) := by decide +kernel
theorem dX3_victim_68 : decode cX3_victim 68 = .ok (.getfield 7, 3) := by decide +kernel
theorem dX3_victim_71 : decode cX3_victim 71 = .ok (.iconst 0, 1) := by decide +kernel
theorem dX3_victim_72 : decode cX3_victim 72 = .ok (.invokestatic 34, 3) := by decide +kernel
theorem dX3_victim_75 : decode cX3_victim 75 = .ok (.iconst 0, 1) := by decide +kernel
theorem dX3_victim_76 : decode cX3_victim 76 = .ok (.invokestatic 26, 3) := by decide +kernel
theorem dX3_victim_79 : decode cX3_victim 79 = .ok (.iaload, 1) := by decide +kernel
theorem dX3_victim_80 : decode cX3_victim 80 = .ok (.ireturn, 1) := by decide +kernel
set_option maxRecDepth 20000 in
theorem ggX3_recentSize_X3_told : GoodIn wsX3_recentSize wsX3_told := goodIn_r _ [6, 7, 8, 9, 10, 11, 12, 13, 14, 15, 16, 17] (by decide +kernel) (by decide +kernel)
set_option maxRecDepth 20000 in
theorem gX3_recentSize_X3_told : GoodIn wsX3_recentSize (wsV RX3 101 RX3 yX3_told wsX3_told) := goodIn_app (goodIn_of _ (by decide +kernel)) ggX3_recentSize_X3_told
theorem dX3_recentSize_0 : decode cX3_recentSize 0 = .ok (.aload_n 0, 1) := by decide +kernel
theorem dX3_recentSize_1 : decode cX3_recentSize 1 = .ok (.aload_n 0, 1) := by decide +kernel
theorem dX3_recentSize_2 : decode cX3_recentSize 2 = .ok (.getfield 7, 3) := by decide +kernel
theorem dX3_recentSize_5 : decode cX3_recentSize 5 = .ok (.iconst 1, 1) := by decide +kernel
theorem dX3_recentSize_6 : decode cX3_recentSize 6 = .ok (.iaload, 1) := by decide +kernel
theorem dX3_recentSize_7 : decode cX3_recentSize 7 = .ok (.invokevirtual 101, 3) := by decide +kernel
theorem dX3_recentSize_10 : decode cX3_recentSize 10 = .ok (.ireturn, 1) := by decide +kernel
set_option maxRecDepth 20000 in
theorem ggX3_frequentSize_X3_told : GoodIn wsX3_frequentSize wsX3_told := goodIn_r _ [6, 7, 8, 9, 10, 11, 12, 13, 14, 15, 16, 17] (by decide +kernel) (by decide +kernel)
set_option maxRecDepth 20000 in
theorem gX3_frequentSize_X3_told : GoodIn wsX3_frequentSize (wsV RX3 101 RX3 yX3_told wsX3_told) := goodIn_app (goodIn_of _ (by decide +kernel)) ggX3_frequentSize_X3_told
theorem dX3_frequentSize_0 : decode cX3_frequentSize 0 = .ok (.aload_n 0, 1) := by decide +kernel
theorem dX3_frequentSize_1 : decode cX3_frequentSize 1 = .ok (.aload_n 0, 1) := by decide +kernel
theorem dX3_frequentSize_2 : decode cX3_frequentSize 2 = .ok (.getfield 7, 3) := by decide +kernel
theorem dX3_frequentSize_5 : decode cX3_frequentSize 5 = .ok (.iconst 2, 1) := by decide +kernel
theorem dX3_frequentSize_6 : decode cX3_frequentSize 6 = .ok (.iaload, 1) := by decide +kernel
theorem dX3_frequentSize_7 : decode cX3_frequentSize 7 = .ok (.invokevirtual 101, 3) := by decide +kernel
theorem dX3_frequentSize_10 : decode cX3_frequentSize 10 = .ok (.ireturn, 1) := by decide +kernel
set_option maxRecDepth 20000 in
theorem ggX3_recentGhosts_X3_told : GoodIn wsX3_recentGhosts wsX3_told := goodIn_r _ [6, 7, 8, 9, 10, 11, 12, 13, 14, 15, 16, 17] (by decide +kernel) (by decide +kernel)
set_option maxRecDepth 20000 in
theorem gX3_recentGhosts_X3_told : GoodIn wsX3_recentGhosts (wsV RX3 101 RX3 yX3_told wsX3_told) := goodIn_app (goodIn_of _ (by decide +kernel)) ggX3_recentGhosts_X3_told
theorem dX3_recentGhosts_0 : decode cX3_recentGhosts 0 = .ok (.aload_n 0, 1) := by decide +kernel
theorem dX3_recentGhosts_1 : decode cX3_recentGhosts 1 = .ok (.aload_n 0, 1) := by decide +kernel
theorem dX3_recentGhosts_2 : decode cX3_recentGhosts 2 = .ok (.getfield 7, 3) := by decide +kernel
theorem dX3_recentGhosts_5 : decode cX3_recentGhosts 5 = .ok (.iconst 3, 1) := by decide +kernel
theorem dX3_recentGhosts_6 : decode cX3_recentGhosts 6 = .ok (.iaload, 1) := by decide +kernel
theorem dX3_recentGhosts_7 : decode cX3_recentGhosts 7 = .ok (.invokevirtual 101, 3) := by decide +kernel
theorem dX3_recentGhosts_10 : decode cX3_recentGhosts 10 = .ok (.ireturn, 1) := by decide +kernel
set_option maxRecDepth 20000 in
theorem ggX3_frequentGhosts_X3_told : GoodIn wsX3_frequentGhosts wsX3_told := goodIn_r _ [6, 7, 8, 9, 10, 11, 12, 13, 14, 15, 16, 17] (by decide +kernel) (by decide +kernel)
set_option maxRecDepth 20000 in
theorem gX3_frequentGhosts_X3_told : GoodIn wsX3_frequentGhosts (wsV RX3 101 RX3 yX3_told wsX3_told) := goodIn_app (goodIn_of _ (by decide +kernel)) ggX3_frequentGhosts_X3_told
theorem dX3_frequentGhosts_0 : decode cX3_frequentGhosts 0 = .ok (.aload_n 0, 1) := by decide +kernel
theorem dX3_frequentGhosts_1 : decode cX3_frequentGhosts 1 = .ok (.aload_n 0, 1) := by decide +kernel
theorem dX3_frequentGhosts_2 : decode cX3_frequentGhosts 2 = .ok (.getfield 7, 3) := by decide +kernel
theorem dX3_frequentGhosts_5 : decode cX3_frequentGhosts 5 = .ok (.iconst 4, 1) := by decide +kernel
theorem dX3_frequentGhosts_6 : decode cX3_frequentGhosts 6 = .ok (.iaload, 1) := by decide +kernel
theorem dX3_frequentGhosts_7 : decode cX3_frequentGhosts 7 = .ok (.invokevirtual 101, 3) := by decide +kernel
theorem dX3_frequentGhosts_10 : decode cX3_frequentGhosts 10 = .ok (.ireturn, 1) := by decide +kernel
set_option maxRecDepth 20000 in
theorem ggX3_newest_X3_asked : GoodIn wsX3_newest wsX3_asked := goodIn_r _ [6, 7, 11, 12, 13, 14, 15, 16, 17, 18, 19, 20] (by decide +kernel) (by decide +kernel)
set_option maxRecDepth 20000 in
theorem gX3_newest_X3_asked : GoodIn wsX3_newest (wsV RX3 76 RX3 yX3_asked wsX3_asked) := goodIn_app (goodIn_of _ (by decide +kernel)) ggX3_newest_X3_asked
set_option maxRecDepth 20000 in
theorem ggX3_newest_X3_at : GoodIn wsX3_newest wsX3_at := goodIn_r _ [10] (by decide +kernel) (by decide +kernel)
set_option maxRecDepth 20000 in
theorem gX3_newest_X3_at : GoodIn wsX3_newest (va_wsS RX3 26 yX3_at wsX3_at) := goodIn_app (goodIn_of _ (by decide +kernel)) ggX3_newest_X3_at
theorem dX3_newest_0 : decode cX3_newest 0 = .ok (.aload_n 0, 1) := by decide +kernel
theorem dX3_newest_1 : decode cX3_newest 1 = .ok (.iload_n 2, 1) := by decide +kernel
theorem dX3_newest_2 : decode cX3_newest 2 = .ok (.ifCond .lt 17, 3) := by decide +kernel
theorem dX3_newest_5 : decode cX3_newest 5 = .ok (.iload_n 2, 1) := by decide +kernel
theorem dX3_newest_6 : decode cX3_newest 6 = .ok (.aload_n 0, 1) := by decide +kernel
theorem dX3_newest_7 : decode cX3_newest 7 = .ok (.getfield 7, 3) := by decide +kernel
theorem dX3_newest_10 : decode cX3_newest 10 = .ok (.iload_n 1, 1) := by decide +kernel
theorem dX3_newest_11 : decode cX3_newest 11 = .ok (.iaload, 1) := by decide +kernel
theorem dX3_newest_12 : decode cX3_newest 12 = .ok (.if_icmp .ge 7, 3) := by decide +kernel
theorem dX3_newest_15 : decode cX3_newest 15 = .ok (.iconst 1, 1) := by decide +kernel
theorem dX3_newest_16 : decode cX3_newest 16 = .ok (.goto 4, 3) := by decide +kernel
theorem dX3_newest_19 : decode cX3_newest 19 = .ok (.iconst 0, 1) := by decide +kernel
theorem dX3_newest_20 : decode cX3_newest 20 = .ok (.invokevirtual 76, 3) := by decide +kernel
theorem dX3_newest_23 : decode cX3_newest 23 = .ok (.ifCond .eq 25, 3) := by decide +kernel
theorem dX3_newest_26 : decode cX3_newest 26 = .ok (.aload_n 0, 1) := by decide +kernel
theorem dX3_newest_27 : decode cX3_newest 27 = .ok (.getfield 7, 3) := by decide +kernel
theorem dX3_newest_30 : decode cX3_newest 30 = .ok (.iload_n 1, 1) := by decide +kernel
theorem dX3_newest_31 : decode cX3_newest 31 = .ok (.aload_n 0, 1) := by decide +kernel
theorem dX3_newest_32 : decode cX3_newest 32 = .ok (.getfield 7, 3) := by decide +kernel
theorem dX3_newest_35 : decode cX3_newest 35 = .ok (.iload_n 1, 1) := by decide +kernel
theorem dX3_newest_36 : decode cX3_newest 36 = .ok (.iaload, 1) := by decide +kernel
theorem dX3_newest_37 : decode cX3_newest 37 = .ok (.iconst 1, 1) := by decide +kernel
theorem dX3_newest_38 : decode cX3_newest 38 = .ok (.isub, 1) := by decide +kernel
theorem dX3_newest_39 : decode cX3_newest 39 = .ok (.iload_n 2, 1) := by decide +kernel
theorem dX3_newest_40 : decode cX3_newest 40 = .ok (.isub, 1) := by decide +kernel
theorem dX3_newest_41 : decode cX3_newest 41 = .ok (.invokestatic 26, 3) := by decide +kernel
theorem dX3_newest_44 : decode cX3_newest 44 = .ok (.iaload, 1) := by decide +kernel
theorem dX3_newest_45 : decode cX3_newest 45 = .ok (.goto 4, 3) := by decide +kernel
theorem dX3_newest_48 : decode cX3_newest 48 = .ok (.iconst 0, 1) := by decide +kernel
theorem dX3_newest_49 : decode cX3_newest 49 = .ok (.ireturn, 1) := by decide +kernel
set_option maxRecDepth 20000 in
theorem ggX3_recentAt_X3_newest : GoodIn wsX3_recentAt wsX3_newest := goodIn_r _ [5, 6, 7, 8, 9, 4, 10, 11, 12, 13, 14, 15, 16, 17, 18, 19, 20, 21, 22, 23, 24] (by decide +kernel) (by decide +kernel)
set_option maxRecDepth 20000 in
theorem gX3_recentAt_X3_newest : GoodIn wsX3_recentAt (wsV RX3 105 RX3 yX3_newest wsX3_newest) := goodIn_app (goodIn_of _ (by decide +kernel)) ggX3_recentAt_X3_newest
theorem dX3_recentAt_0 : decode cX3_recentAt 0 = .ok (.aload_n 0, 1) := by decide +kernel
theorem dX3_recentAt_1 : decode cX3_recentAt 1 = .ok (.iconst 1, 1) := by decide +kernel
theorem dX3_recentAt_2 : decode cX3_recentAt 2 = .ok (.iload_n 1, 1) := by decide +kernel
theorem dX3_recentAt_3 : decode cX3_recentAt 3 = .ok (.invokevirtual 105, 3) := by decide +kernel
theorem dX3_recentAt_6 : decode cX3_recentAt 6 = .ok (.ireturn, 1) := by decide +kernel
set_option maxRecDepth 20000 in
theorem ggX3_frequentAt_X3_newest : GoodIn wsX3_frequentAt wsX3_newest := goodIn_r _ [5, 6, 7, 8, 9, 4, 10, 11, 12, 13, 14, 15, 16, 17, 18, 19, 20, 21, 22, 23, 24] (by decide +kernel) (by decide +kernel)
set_option maxRecDepth 20000 in
theorem gX3_frequentAt_X3_newest : GoodIn wsX3_frequentAt (wsV RX3 105 RX3 yX3_newest wsX3_newest) := goodIn_app (goodIn_of _ (by decide +kernel)) ggX3_frequentAt_X3_newest
theorem dX3_frequentAt_0 : decode cX3_frequentAt 0 = .ok (.aload_n 0, 1) := by decide +kernel
theorem dX3_frequentAt_1 : decode cX3_frequentAt 1 = .ok (.iconst 2, 1) := by decide +kernel
theorem dX3_frequentAt_2 : decode cX3_frequentAt 2 = .ok (.iload_n 1, 1) := by decide +kernel
theorem dX3_frequentAt_3 : decode cX3_frequentAt 3 = .ok (.invokevirtual 105, 3) := by decide +kernel
theorem dX3_frequentAt_6 : decode cX3_frequentAt 6 = .ok (.ireturn, 1) := by decide +kernel
set_option maxRecDepth 20000 in
theorem ggX3_recentGhostAt_X3_newest : GoodIn wsX3_recentGhostAt wsX3_newest := goodIn_r _ [5, 6, 7, 8, 9, 4, 10, 11, 12, 13, 14, 15, 16, 17, 18, 19, 20, 21, 22, 23, 24] (by decide +kernel) (by decide +kernel)
set_option maxRecDepth 20000 in
theorem gX3_recentGhostAt_X3_newest : GoodIn wsX3_recentGhostAt (wsV RX3 105 RX3 yX3_newest wsX3_newest) := goodIn_app (goodIn_of _ (by decide +kernel)) ggX3_recentGhostAt_X3_newest
theorem dX3_recentGhostAt_0 : decode cX3_recentGhostAt 0 = .ok (.aload_n 0, 1) := by decide +kernel
theorem dX3_recentGhostAt_1 : decode cX3_recentGhostAt 1 = .ok (.iconst 3, 1) := by decide +kernel
theorem dX3_recentGhostAt_2 : decode cX3_recentGhostAt 2 = .ok (.iload_n 1, 1) := by decide +kernel
theorem dX3_recentGhostAt_3 : decode cX3_recentGhostAt 3 = .ok (.invokevirtual 105, 3) := by decide +kernel
theorem dX3_recentGhostAt_6 : decode cX3_recentGhostAt 6 = .ok (.ireturn, 1) := by decide +kernel
set_option maxRecDepth 20000 in
theorem ggX3_frequentGhostAt_X3_newest : GoodIn wsX3_frequentGhostAt wsX3_newest := goodIn_r _ [5, 6, 7, 8, 9, 4, 10, 11, 12, 13, 14, 15, 16, 17, 18, 19, 20, 21, 22, 23, 24] (by decide +kernel) (by decide +kernel)
set_option maxRecDepth 20000 in
theorem gX3_frequentGhostAt_X3_newest : GoodIn wsX3_frequentGhostAt (wsV RX3 105 RX3 yX3_newest wsX3_newest) := goodIn_app (goodIn_of _ (by decide +kernel)) ggX3_frequentGhostAt_X3_newest
theorem dX3_frequentGhostAt_0 : decode cX3_frequentGhostAt 0 = .ok (.aload_n 0, 1) := by decide +kernel
theorem dX3_frequentGhostAt_1 : decode cX3_frequentGhostAt 1 = .ok (.iconst 4, 1) := by decide +kernel
theorem dX3_frequentGhostAt_2 : decode cX3_frequentGhostAt 2 = .ok (.iload_n 1, 1) := by decide +kernel
theorem dX3_frequentGhostAt_3 : decode cX3_frequentGhostAt 3 = .ok (.invokevirtual 105, 3) := by decide +kernel
theorem dX3_frequentGhostAt_6 : decode cX3_frequentGhostAt 6 = .ok (.ireturn, 1) := by decide +kernel
set_option maxRecDepth 20000 in
theorem ggX3_requests_X3_told : GoodIn wsX3_requests wsX3_told := goodIn_r _ [6, 7, 8, 9, 10, 11, 12, 13, 14, 15, 16, 17] (by decide +kernel) (by decide +kernel)
set_option maxRecDepth 20000 in
theorem gX3_requests_X3_told : GoodIn wsX3_requests (wsV RX3 101 RX3 yX3_told wsX3_told) := goodIn_app (goodIn_of _ (by decide +kernel)) ggX3_requests_X3_told
theorem dX3_requests_0 : decode cX3_requests 0 = .ok (.aload_n 0, 1) := by decide +kernel
theorem dX3_requests_1 : decode cX3_requests 1 = .ok (.aload_n 0, 1) := by decide +kernel
theorem dX3_requests_2 : decode cX3_requests 2 = .ok (.getfield 83, 3) := by decide +kernel
theorem dX3_requests_5 : decode cX3_requests 5 = .ok (.invokevirtual 101, 3) := by decide +kernel
theorem dX3_requests_8 : decode cX3_requests 8 = .ok (.ireturn, 1) := by decide +kernel
set_option maxRecDepth 20000 in
theorem ggX3_hits_X3_told : GoodIn wsX3_hits wsX3_told := goodIn_r _ [6, 7, 8, 9, 10, 11, 12, 13, 14, 15, 16, 17] (by decide +kernel) (by decide +kernel)
set_option maxRecDepth 20000 in
theorem gX3_hits_X3_told : GoodIn wsX3_hits (wsV RX3 101 RX3 yX3_told wsX3_told) := goodIn_app (goodIn_of _ (by decide +kernel)) ggX3_hits_X3_told
theorem dX3_hits_0 : decode cX3_hits 0 = .ok (.aload_n 0, 1) := by decide +kernel
theorem dX3_hits_1 : decode cX3_hits 1 = .ok (.aload_n 0, 1) := by decide +kernel
theorem dX3_hits_2 : decode cX3_hits 2 = .ok (.getfield 86, 3) := by decide +kernel
theorem dX3_hits_5 : decode cX3_hits 5 = .ok (.invokevirtual 101, 3) := by decide +kernel
theorem dX3_hits_8 : decode cX3_hits 8 = .ok (.ireturn, 1) := by decide +kernel
set_option maxRecDepth 20000 in
theorem ggX3_ghostHits_X3_told : GoodIn wsX3_ghostHits wsX3_told := goodIn_r _ [6, 7, 8, 9, 10, 11, 12, 13, 14, 15, 16, 17] (by decide +kernel) (by decide +kernel)
set_option maxRecDepth 20000 in
theorem gX3_ghostHits_X3_told : GoodIn wsX3_ghostHits (wsV RX3 101 RX3 yX3_told wsX3_told) := goodIn_app (goodIn_of _ (by decide +kernel)) ggX3_ghostHits_X3_told
theorem dX3_ghostHits_0 : decode cX3_ghostHits 0 = .ok (.aload_n 0, 1) := by decide +kernel
theorem dX3_ghostHits_1 : decode cX3_ghostHits 1 = .ok (.aload_n 0, 1) := by decide +kernel
theorem dX3_ghostHits_2 : decode cX3_ghostHits 2 = .ok (.getfield 89, 3) := by decide +kernel
theorem dX3_ghostHits_5 : decode cX3_ghostHits 5 = .ok (.invokevirtual 101, 3) := by decide +kernel
theorem dX3_ghostHits_8 : decode cX3_ghostHits 8 = .ok (.ireturn, 1) := by decide +kernel
set_option maxRecDepth 20000 in
theorem ggX3_bypassed_X3_told : GoodIn wsX3_bypassed wsX3_told := goodIn_r _ [6, 7, 8, 9, 10, 11, 12, 13, 14, 15, 16, 17] (by decide +kernel) (by decide +kernel)
set_option maxRecDepth 20000 in
theorem gX3_bypassed_X3_told : GoodIn wsX3_bypassed (wsV RX3 101 RX3 yX3_told wsX3_told) := goodIn_app (goodIn_of _ (by decide +kernel)) ggX3_bypassed_X3_told
theorem dX3_bypassed_0 : decode cX3_bypassed 0 = .ok (.aload_n 0, 1) := by decide +kernel
theorem dX3_bypassed_1 : decode cX3_bypassed 1 = .ok (.aload_n 0, 1) := by decide +kernel
theorem dX3_bypassed_2 : decode cX3_bypassed 2 = .ok (.getfield 92, 3) := by decide +kernel
theorem dX3_bypassed_5 : decode cX3_bypassed 5 = .ok (.invokevirtual 101, 3) := by decide +kernel
theorem dX3_bypassed_8 : decode cX3_bypassed 8 = .ok (.ireturn, 1) := by decide +kernel
set_option maxRecDepth 20000 in
theorem ggX3_evictions_X3_told : GoodIn wsX3_evictions wsX3_told := goodIn_r _ [6, 7, 8, 9, 10, 11, 12, 13, 14, 15, 16, 17] (by decide +kernel) (by decide +kernel)
set_option maxRecDepth 20000 in
theorem gX3_evictions_X3_told : GoodIn wsX3_evictions (wsV RX3 101 RX3 yX3_told wsX3_told) := goodIn_app (goodIn_of _ (by decide +kernel)) ggX3_evictions_X3_told
theorem dX3_evictions_0 : decode cX3_evictions 0 = .ok (.aload_n 0, 1) := by decide +kernel
theorem dX3_evictions_1 : decode cX3_evictions 1 = .ok (.aload_n 0, 1) := by decide +kernel
theorem dX3_evictions_2 : decode cX3_evictions 2 = .ok (.getfield 7, 3) := by decide +kernel
theorem dX3_evictions_5 : decode cX3_evictions 5 = .ok (.bipush 10, 2) := by decide +kernel
theorem dX3_evictions_7 : decode cX3_evictions 7 = .ok (.iaload, 1) := by decide +kernel
theorem dX3_evictions_8 : decode cX3_evictions 8 = .ok (.invokevirtual 101, 3) := by decide +kernel
theorem dX3_evictions_11 : decode cX3_evictions 11 = .ok (.ireturn, 1) := by decide +kernel
set_option maxRecDepth 20000 in
theorem ggX3_hitsIf_X3_isCapacity : GoodIn wsX3_hitsIf wsX3_isCapacity := goodIn_r _ [8] (by decide +kernel) (by decide +kernel)
set_option maxRecDepth 20000 in
theorem gX3_hitsIf_X3_isCapacity : GoodIn wsX3_hitsIf (va_wsS RX3 98 yX3_isCapacity wsX3_isCapacity) := goodIn_app (goodIn_of _ (by decide +kernel)) ggX3_hitsIf_X3_isCapacity
set_option maxRecDepth 20000 in
theorem ggX3_hitsIf_X3_asked : GoodIn wsX3_hitsIf wsX3_asked := goodIn_r _ [12, 13, 56, 57, 58, 59, 60, 61, 62, 63, 64, 65] (by decide +kernel) (by decide +kernel)
set_option maxRecDepth 20000 in
theorem gX3_hitsIf_X3_asked : GoodIn wsX3_hitsIf (wsV RX3 76 RX3 yX3_asked wsX3_asked) := goodIn_app (goodIn_of _ (by decide +kernel)) ggX3_hitsIf_X3_asked
set_option maxRecDepth 20000 in
theorem ggX3_hitsIf_X3_asks : GoodIn wsX3_hitsIf wsX3_asks := goodIn_r _ [16, 17, 18, 7, 19, 20, 21, 22, 23, 24, 25, 26, 27, 28, 29, 30, 31, 32, 33, 34, 35, 36, 37, 38, 39, 40, 41, 42, 43, 44, 45, 46, 47, 48, 49, 50, 51, 52, 53, 54, 55] (by decide +kernel) (by decide +kernel)
set_option maxRecDepth 20000 in
theorem gX3_hitsIf_X3_asks : GoodIn wsX3_hitsIf (va_wsS RX3 80 yX3_asks wsX3_asks) := goodIn_app (goodIn_of _ (by decide +kernel)) ggX3_hitsIf_X3_asks
theorem dX3_hitsIf_0 : decode cX3_hitsIf 0 = .ok (.aload_n 0, 1) := by decide +kernel
theorem dX3_hitsIf_1 : decode cX3_hitsIf 1 = .ok (.iload_n 1, 1) := by decide +kernel
theorem dX3_hitsIf_2 : decode cX3_hitsIf 2 = .ok (.invokestatic 98, 3) := by decide +kernel
theorem dX3_hitsIf_5 : decode cX3_hitsIf 5 = .ok (.invokevirtual 76, 3) := by decide +kernel
theorem dX3_hitsIf_8 : decode cX3_hitsIf 8 = .ok (.ifCond .ne 5, 3) := by decide +kernel
theorem dX3_hitsIf_11 : decode cX3_hitsIf 11 = .ok (.iconst 0, 1) := by decide +kernel
theorem dX3_hitsIf_12 : decode cX3_hitsIf 12 = .ok (.ireturn, 1) := by decide +kernel
theorem dX3_hitsIf_13 : decode cX3_hitsIf 13 = .ok (.iconst 0, 1) := by decide +kernel
theorem dX3_hitsIf_14 : decode cX3_hitsIf 14 = .ok (.istore_n 2, 1) := by decide +kernel
theorem dX3_hitsIf_15 : decode cX3_hitsIf 15 = .ok (.iload_n 2, 1) := by decide +kernel
theorem dX3_hitsIf_16 : decode cX3_hitsIf 16 = .ok (.bipush 16, 2) := by decide +kernel
theorem dX3_hitsIf_18 : decode cX3_hitsIf 18 = .ok (.if_icmp .ge 16, 3) := by decide +kernel
theorem dX3_hitsIf_21 : decode cX3_hitsIf 21 = .ok (.aload_n 0, 1) := by decide +kernel
theorem dX3_hitsIf_22 : decode cX3_hitsIf 22 = .ok (.getfield 13, 3) := by decide +kernel
theorem dX3_hitsIf_25 : decode cX3_hitsIf 25 = .ok (.iload_n 2, 1) := by decide +kernel
theorem dX3_hitsIf_26 : decode cX3_hitsIf 26 = .ok (.iconst 0, 1) := by decide +kernel
theorem dX3_hitsIf_27 : decode cX3_hitsIf 27 = .ok (.iastore, 1) := by decide +kernel
theorem dX3_hitsIf_28 : decode cX3_hitsIf 28 = .ok (.iinc 2 1, 3) := by decide +kernel
theorem dX3_hitsIf_31 : decode cX3_hitsIf 31 = .ok (.goto (-16), 3) := by decide +kernel
theorem dX3_hitsIf_34 : decode cX3_hitsIf 34 = .ok (.aload_n 0, 1) := by decide +kernel
theorem dX3_hitsIf_35 : decode cX3_hitsIf 35 = .ok (.getfield 13, 3) := by decide +kernel
theorem dX3_hitsIf_38 : decode cX3_hitsIf 38 = .ok (.bipush 6, 2) := by decide +kernel
theorem dX3_hitsIf_40 : decode cX3_hitsIf 40 = .ok (.iload_n 1, 1) := by decide +kernel
theorem dX3_hitsIf_41 : decode cX3_hitsIf 41 = .ok (.iastore, 1) := by decide +kernel
theorem dX3_hitsIf_42 : decode cX3_hitsIf 42 = .ok (.aload_n 0, 1) := by decide +kernel
theorem dX3_hitsIf_43 : decode cX3_hitsIf 43 = .ok (.getfield 13, 3) := by decide +kernel
theorem dX3_hitsIf_46 : decode cX3_hitsIf 46 = .ok (.bipush 7, 2) := by decide +kernel
theorem dX3_hitsIf_48 : decode cX3_hitsIf 48 = .ok (.aload_n 0, 1) := by decide +kernel
theorem dX3_hitsIf_49 : decode cX3_hitsIf 49 = .ok (.getfield 7, 3) := by decide +kernel
theorem dX3_hitsIf_52 : decode cX3_hitsIf 52 = .ok (.bipush 7, 2) := by decide +kernel
theorem dX3_hitsIf_54 : decode cX3_hitsIf 54 = .ok (.iaload, 1) := by decide +kernel
theorem dX3_hitsIf_55 : decode cX3_hitsIf 55 = .ok (.iastore, 1) := by decide +kernel
theorem dX3_hitsIf_56 : decode cX3_hitsIf 56 = .ok (.aload_n 0, 1) := by decide +kernel
theorem dX3_hitsIf_57 : decode cX3_hitsIf 57 = .ok (.getfield 13, 3) := by decide +kernel
theorem dX3_hitsIf_60 : decode cX3_hitsIf 60 = .ok (.bipush 9, 2) := by decide +kernel
theorem dX3_hitsIf_62 : decode cX3_hitsIf 62 = .ok (.iconst (-1), 1) := by decide +kernel
theorem dX3_hitsIf_63 : decode cX3_hitsIf 63 = .ok (.iastore, 1) := by decide +kernel
theorem dX3_hitsIf_64 : decode cX3_hitsIf 64 = .ok (.iconst 0, 1) := by decide +kernel
theorem dX3_hitsIf_65 : decode cX3_hitsIf 65 = .ok (.istore_n 2, 1) := by decide +kernel
theorem dX3_hitsIf_66 : decode cX3_hitsIf 66 = .ok (.iconst 0, 1) := by decide +kernel
theorem dX3_hitsIf_67 : decode cX3_hitsIf 67 = .ok (.istore_n 3, 1) := by decide +kernel
theorem dX3_hitsIf_68 : decode cX3_hitsIf 68 = .ok (.iload_n 3, 1) := by decide +kernel
theorem dX3_hitsIf_69 : decode cX3_hitsIf 69 = .ok (.aload_n 0, 1) := by decide +kernel
theorem dX3_hitsIf_70 : decode cX3_hitsIf 70 = .ok (.getfield 95, 3) := by decide +kernel
theorem dX3_hitsIf_73 : decode cX3_hitsIf 73 = .ok (.if_icmp .ge 34, 3) := by decide +kernel
theorem dX3_hitsIf_76 : decode cX3_hitsIf 76 = .ok (.iload_n 2, 1) := by decide +kernel
theorem dX3_hitsIf_77 : decode cX3_hitsIf 77 = .ok (.aload_n 0, 1) := by decide +kernel
theorem dX3_hitsIf_78 : decode cX3_hitsIf 78 = .ok (.getfield 13, 3) := by decide +kernel
theorem dX3_hitsIf_81 : decode cX3_hitsIf 81 = .ok (.aload_n 0, 1) := by decide +kernel
theorem dX3_hitsIf_82 : decode cX3_hitsIf 82 = .ok (.getfield 16, 3) := by decide +kernel
theorem dX3_hitsIf_85 : decode cX3_hitsIf 85 = .ok (.iload_n 3, 1) := by decide +kernel
theorem dX3_hitsIf_86 : decode cX3_hitsIf 86 = .ok (.iaload, 1) := by decide +kernel
theorem dX3_hitsIf_87 : decode cX3_hitsIf 87 = .ok (.invokestatic 80, 3) := by decide +kernel
theorem dX3_hitsIf_90 : decode cX3_hitsIf 90 = .ok (.iconst 3, 1) := by decide +kernel
theorem dX3_hitsIf_91 : decode cX3_hitsIf 91 = .ok (.if_icmp .ge 7, 3) := by decide +kernel
theorem dX3_hitsIf_94 : decode cX3_hitsIf 94 = .ok (.iconst 1, 1) := by decide +kernel
theorem dX3_hitsIf_95 : decode cX3_hitsIf 95 = .ok (.goto 4, 3) := by decide +kernel
theorem dX3_hitsIf_98 : decode cX3_hitsIf 98 = .ok (.iconst 0, 1) := by decide +kernel
theorem dX3_hitsIf_99 : decode cX3_hitsIf 99 = .ok (.iadd, 1) := by decide +kernel
theorem dX3_hitsIf_100 : decode cX3_hitsIf 100 = .ok (.istore_n 2, 1) := by decide +kernel
theorem dX3_hitsIf_101 : decode cX3_hitsIf 101 = .ok (.iinc 3 1, 3) := by decide +kernel
theorem dX3_hitsIf_104 : decode cX3_hitsIf 104 = .ok (.goto (-36), 3) := by decide +kernel
theorem dX3_hitsIf_107 : decode cX3_hitsIf 107 = .ok (.iload_n 2, 1) := by decide +kernel
theorem dX3_hitsIf_108 : decode cX3_hitsIf 108 = .ok (.ireturn, 1) := by decide +kernel
set_option maxRecDepth 20000 in
theorem ggX3_leastRecentHitsIf_X3_isCapacity : GoodIn wsX3_leastRecentHitsIf wsX3_isCapacity := goodIn_r _ [7] (by decide +kernel) (by decide +kernel)
set_option maxRecDepth 20000 in
theorem gX3_leastRecentHitsIf_X3_isCapacity : GoodIn wsX3_leastRecentHitsIf (va_wsS RX3 98 yX3_isCapacity wsX3_isCapacity) := goodIn_app (goodIn_of _ (by decide +kernel)) ggX3_leastRecentHitsIf_X3_isCapacity
set_option maxRecDepth 20000 in
theorem ggX3_leastRecentHitsIf_X3_asked : GoodIn wsX3_leastRecentHitsIf wsX3_asked := goodIn_r _ [11, 12, 13, 14, 15, 16, 17, 18, 19, 20, 21, 22] (by decide +kernel) (by decide +kernel)
set_option maxRecDepth 20000 in
theorem gX3_leastRecentHitsIf_X3_asked : GoodIn wsX3_leastRecentHitsIf (wsV RX3 76 RX3 yX3_asked wsX3_asked) := goodIn_app (goodIn_of _ (by decide +kernel)) ggX3_leastRecentHitsIf_X3_asked
theorem dX3_leastRecentHitsIf_0 : decode cX3_leastRecentHitsIf 0 = .ok (.aload_n 0, 1) := by decide +kernel
theorem dX3_leastRecentHitsIf_1 : decode cX3_leastRecentHitsIf 1 = .ok (.iload_n 1, 1) := by decide +kernel
theorem dX3_leastRecentHitsIf_2 : decode cX3_leastRecentHitsIf 2 = .ok (.invokestatic 98, 3) := by decide +kernel
theorem dX3_leastRecentHitsIf_5 : decode cX3_leastRecentHitsIf 5 = .ok (.invokevirtual 76, 3) := by decide +kernel
theorem dX3_leastRecentHitsIf_8 : decode cX3_leastRecentHitsIf 8 = .ok (.ifCond .ne 5, 3) := by decide +kernel
theorem dX3_leastRecentHitsIf_11 : decode cX3_leastRecentHitsIf 11 = .ok (.iconst 0, 1) := by decide +kernel
theorem dX3_leastRecentHitsIf_12 : decode cX3_leastRecentHitsIf 12 = .ok (.ireturn, 1) := by decide +kernel
theorem dX3_leastRecentHitsIf_13 : decode cX3_leastRecentHitsIf 13 = .ok (.iconst 0, 1) := by decide +kernel
theorem dX3_leastRecentHitsIf_14 : decode cX3_leastRecentHitsIf 14 = .ok (.istore_n 2, 1) := by decide +kernel
theorem dX3_leastRecentHitsIf_15 : decode cX3_leastRecentHitsIf 15 = .ok (.iconst 0, 1) := by decide +kernel
theorem dX3_leastRecentHitsIf_16 : decode cX3_leastRecentHitsIf 16 = .ok (.istore_n 3, 1) := by decide +kernel
theorem dX3_leastRecentHitsIf_17 : decode cX3_leastRecentHitsIf 17 = .ok (.iconst 0, 1) := by decide +kernel
theorem dX3_leastRecentHitsIf_18 : decode cX3_leastRecentHitsIf 18 = .ok (.istore 4, 2) := by decide +kernel
theorem dX3_leastRecentHitsIf_20 : decode cX3_leastRecentHitsIf 20 = .ok (.iload 4, 2) := by decide +kernel
theorem dX3_leastRecentHitsIf_22 : decode cX3_leastRecentHitsIf 22 = .ok (.aload_n 0, 1) := by decide +kernel
theorem dX3_leastRecentHitsIf_23 : decode cX3_leastRecentHitsIf 23 = .ok (.getfield 95, 3) := by decide +kernel
theorem dX3_leastRecentHitsIf_26 : decode cX3_leastRecentHitsIf 26 = .ok (.if_icmp .ge 153, 3) := by decide +kernel
theorem dX3_leastRecentHitsIf_29 : decode cX3_leastRecentHitsIf 29 = .ok (.iconst (-1), 1) := by decide +kernel
theorem dX3_leastRecentHitsIf_30 : decode cX3_leastRecentHitsIf 30 = .ok (.istore 5, 2) := by decide +kernel
theorem dX3_leastRecentHitsIf_32 : decode cX3_leastRecentHitsIf 32 = .ok (.iconst 0, 1) := by decide +kernel
theorem dX3_leastRecentHitsIf_33 : decode cX3_leastRecentHitsIf 33 = .ok (.istore 6, 2) := by decide +kernel
theorem dX3_leastRecentHitsIf_35 : decode cX3_leastRecentHitsIf 35 = .ok (.iload 6, 2) := by decide +kernel
theorem dX3_leastRecentHitsIf_37 : decode cX3_leastRecentHitsIf 37 = .ok (.iload_n 3, 1) := by decide +kernel
theorem dX3_leastRecentHitsIf_38 : decode cX3_leastRecentHitsIf 38 = .ok (.if_icmp .ge 35, 3) := by decide +kernel
theorem dX3_leastRecentHitsIf_41 : decode cX3_leastRecentHitsIf 41 = .ok (.aload_n 0, 1) := by decide +kernel
theorem dX3_leastRecentHitsIf_42 : decode cX3_leastRecentHitsIf 42 = .ok (.getfield 19, 3) := by decide +kernel
theorem dX3_leastRecentHitsIf_45 : decode cX3_leastRecentHitsIf 45 = .ok (.iload 6, 2) := by decide +kernel
theorem dX3_leastRecentHitsIf_47 : decode cX3_leastRecentHitsIf 47 = .ok (.iaload, 1) := by decide +kernel
theorem dX3_leastRecentHitsIf_48 : decode cX3_leastRecentHitsIf 48 = .ok (.aload_n 0, 1) := by decide +kernel
theorem dX3_leastRecentHitsIf_49 : decode cX3_leastRecentHitsIf 49 = .ok (.getfield 16, 3) := by decide +kernel
theorem dX3_leastRecentHitsIf_52 : decode cX3_leastRecentHitsIf 52 = .ok (.iload 4, 2) := by decide +kernel
theorem dX3_leastRecentHitsIf_54 : decode cX3_leastRecentHitsIf 54 = .ok (.iaload, 1) := by decide +kernel
theorem dX3_leastRecentHitsIf_55 : decode cX3_leastRecentHitsIf 55 = .ok (.if_icmp .ne 8, 3) := by decide +kernel
theorem dX3_leastRecentHitsIf_58 : decode cX3_leastRecentHitsIf 58 = .ok (.iload 6, 2) := by decide +kernel
theorem dX3_leastRecentHitsIf_60 : decode cX3_leastRecentHitsIf 60 = .ok (.goto 5, 3) := by decide +kernel
theorem dX3_leastRecentHitsIf_63 : decode cX3_leastRecentHitsIf 63 = .ok (.iload 5, 2) := by decide +kernel
theorem dX3_leastRecentHitsIf_65 : decode cX3_leastRecentHitsIf 65 = .ok (.istore 5, 2) := by decide +kernel
theorem dX3_leastRecentHitsIf_67 : decode cX3_leastRecentHitsIf 67 = .ok (.iinc 6 1, 3) := by decide +kernel
theorem dX3_leastRecentHitsIf_70 : decode cX3_leastRecentHitsIf 70 = .ok (.goto (-35), 3) := by decide +kernel
theorem dX3_leastRecentHitsIf_73 : decode cX3_leastRecentHitsIf 73 = .ok (.iload_n 2, 1) := by decide +kernel
theorem dX3_leastRecentHitsIf_74 : decode cX3_leastRecentHitsIf 74 = .ok (.iload 5, 2) := by decide +kernel
theorem dX3_leastRecentHitsIf_76 : decode cX3_leastRecentHitsIf 76 = .ok (.iconst (-1), 1) := by decide +kernel
theorem dX3_leastRecentHitsIf_77 : decode cX3_leastRecentHitsIf 77 = .ok (.if_icmp .ne 7, 3) := by decide +kernel
theorem dX3_leastRecentHitsIf_80 : decode cX3_leastRecentHitsIf 80 = .ok (.iconst 0, 1) := by decide +kernel
theorem dX3_leastRecentHitsIf_81 : decode cX3_leastRecentHitsIf 81 = .ok (.goto 4, 3) := by decide +kernel
theorem dX3_leastRecentHitsIf_84 : decode cX3_leastRecentHitsIf 84 = .ok (.iconst 1, 1) := by decide +kernel
theorem dX3_leastRecentHitsIf_85 : decode cX3_leastRecentHitsIf 85 = .ok (.iadd, 1) := by decide +kernel
theorem dX3_leastRecentHitsIf_86 : decode cX3_leastRecentHitsIf 86 = .ok (.istore_n 2, 1) := by decide +kernel
theorem dX3_leastRecentHitsIf_87 : decode cX3_leastRecentHitsIf 87 = .ok (.iload 5, 2) := by decide +kernel
theorem dX3_leastRecentHitsIf_89 : decode cX3_leastRecentHitsIf 89 = .ok (.iconst (-1), 1) := by decide +kernel
theorem dX3_leastRecentHitsIf_90 : decode cX3_leastRecentHitsIf 90 = .ok (.if_icmp .eq 8, 3) := by decide +kernel
theorem dX3_leastRecentHitsIf_93 : decode cX3_leastRecentHitsIf 93 = .ok (.iload 5, 2) := by decide +kernel
theorem dX3_leastRecentHitsIf_95 : decode cX3_leastRecentHitsIf 95 = .ok (.goto 13, 3) := by decide +kernel
theorem dX3_leastRecentHitsIf_98 : decode cX3_leastRecentHitsIf 98 = .ok (.iload_n 3, 1) := by decide +kernel
theorem dX3_leastRecentHitsIf_99 : decode cX3_leastRecentHitsIf 99 = .ok (.iload_n 1, 1) := by decide +kernel
theorem dX3_leastRecentHitsIf_100 : decode cX3_leastRecentHitsIf 100 = .ok (.if_icmp .ne 7, 3) := by decide +kernel
theorem dX3_leastRecentHitsIf_103 : decode cX3_leastRecentHitsIf 103 = .ok (.iconst 0, 1) := by decide +kernel
theorem dX3_leastRecentHitsIf_104 : decode cX3_leastRecentHitsIf 104 = .ok (.goto 4, 3) := by decide +kernel
theorem dX3_leastRecentHitsIf_107 : decode cX3_leastRecentHitsIf 107 = .ok (.iload_n 3, 1) := by decide +kernel
theorem dX3_leastRecentHitsIf_108 : decode cX3_leastRecentHitsIf 108 = .ok (.istore 6, 2) := by decide +kernel
theorem dX3_leastRecentHitsIf_110 : decode cX3_leastRecentHitsIf 110 = .ok (.iload 6, 2) := by decide +kernel
theorem dX3_leastRecentHitsIf_112 : decode cX3_leastRecentHitsIf 112 = .ok (.istore 7, 2) := by decide +kernel
theorem dX3_leastRecentHitsIf_114 : decode cX3_leastRecentHitsIf 114 = .ok (.iload 7, 2) := by decide +kernel
theorem dX3_leastRecentHitsIf_116 : decode cX3_leastRecentHitsIf 116 = .ok (.iload_n 3, 1) := by decide +kernel
theorem dX3_leastRecentHitsIf_117 : decode cX3_leastRecentHitsIf 117 = .ok (.iconst 1, 1) := by decide +kernel
theorem dX3_leastRecentHitsIf_118 : decode cX3_leastRecentHitsIf 118 = .ok (.isub, 1) := by decide +kernel
theorem dX3_leastRecentHitsIf_119 : decode cX3_leastRecentHitsIf 119 = .ok (.if_icmp .ge 25, 3) := by decide +kernel
theorem dX3_leastRecentHitsIf_122 : decode cX3_leastRecentHitsIf 122 = .ok (.aload_n 0, 1) := by decide +kernel
theorem dX3_leastRecentHitsIf_123 : decode cX3_leastRecentHitsIf 123 = .ok (.getfield 19, 3) := by decide +kernel
theorem dX3_leastRecentHitsIf_126 : decode cX3_leastRecentHitsIf 126 = .ok (.iload 7, 2) := by decide +kernel
theorem dX3_leastRecentHitsIf_128 : decode cX3_leastRecentHitsIf 128 = .ok (.aload_n 0, 1) := by decide +kernel
theorem dX3_leastRecentHitsIf_129 : decode cX3_leastRecentHitsIf 129 = .ok (.getfield 19, 3) := by decide +kernel
theorem dX3_leastRecentHitsIf_132 : decode cX3_leastRecentHitsIf 132 = .ok (.iload 7, 2) := by decide +kernel
theorem dX3_leastRecentHitsIf_134 : decode cX3_leastRecentHitsIf 134 = .ok (.iconst 1, 1) := by decide +kernel
theorem dX3_leastRecentHitsIf_135 : decode cX3_leastRecentHitsIf 135 = .ok (.iadd, 1) := by decide +kernel
theorem dX3_leastRecentHitsIf_136 : decode cX3_leastRecentHitsIf 136 = .ok (.iaload, 1) := by decide +kernel
theorem dX3_leastRecentHitsIf_137 : decode cX3_leastRecentHitsIf 137 = .ok (.iastore, 1) := by decide +kernel
theorem dX3_leastRecentHitsIf_138 : decode cX3_leastRecentHitsIf 138 = .ok (.iinc 7 1, 3) := by decide +kernel
theorem dX3_leastRecentHitsIf_141 : decode cX3_leastRecentHitsIf 141 = .ok (.goto (-27), 3) := by decide +kernel
theorem dX3_leastRecentHitsIf_144 : decode cX3_leastRecentHitsIf 144 = .ok (.iload 6, 2) := by decide +kernel
theorem dX3_leastRecentHitsIf_146 : decode cX3_leastRecentHitsIf 146 = .ok (.iload_n 3, 1) := by decide +kernel
theorem dX3_leastRecentHitsIf_147 : decode cX3_leastRecentHitsIf 147 = .ok (.if_icmp .ne 9, 3) := by decide +kernel
theorem dX3_leastRecentHitsIf_150 : decode cX3_leastRecentHitsIf 150 = .ok (.iload_n 3, 1) := by decide +kernel
theorem dX3_leastRecentHitsIf_151 : decode cX3_leastRecentHitsIf 151 = .ok (.iconst 1, 1) := by decide +kernel
theorem dX3_leastRecentHitsIf_152 : decode cX3_leastRecentHitsIf 152 = .ok (.iadd, 1) := by decide +kernel
theorem dX3_leastRecentHitsIf_153 : decode cX3_leastRecentHitsIf 153 = .ok (.goto 4, 3) := by decide +kernel
theorem dX3_leastRecentHitsIf_156 : decode cX3_leastRecentHitsIf 156 = .ok (.iload_n 3, 1) := by decide +kernel
theorem dX3_leastRecentHitsIf_157 : decode cX3_leastRecentHitsIf 157 = .ok (.istore_n 3, 1) := by decide +kernel
theorem dX3_leastRecentHitsIf_158 : decode cX3_leastRecentHitsIf 158 = .ok (.aload_n 0, 1) := by decide +kernel
theorem dX3_leastRecentHitsIf_159 : decode cX3_leastRecentHitsIf 159 = .ok (.getfield 19, 3) := by decide +kernel
theorem dX3_leastRecentHitsIf_162 : decode cX3_leastRecentHitsIf 162 = .ok (.iload_n 3, 1) := by decide +kernel
theorem dX3_leastRecentHitsIf_163 : decode cX3_leastRecentHitsIf 163 = .ok (.iconst 1, 1) := by decide +kernel
