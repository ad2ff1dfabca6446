theorem dX3_leastRecentHitsIf_164 : decode cX3_leastRecentHitsIf 164 = .ok (.isub, 1) := by decide +kernel
theorem dX3_leastRecentHitsIf_165 : decode cX3_leastRecentHitsIf 165 = .ok (.aload_n 0, 1) := by decide +kernel
theorem dX3_leastRecentHitsIf_166 : decode cX3_leastRecentHitsIf 166 = .ok (.getfield 16, 3) := by decide +kernel
theorem dX3_leastRecentHitsIf_169 : decode cX3_leastRecentHitsIf 169 = .ok (.iload 4, 2) := by decide +kernel
theorem dX3_leastRecentHitsIf_171 : decode cX3_leastRecentHitsIf 171 = .ok (.iaload, 1) := by decide +kernel
theorem dX3_leastRecentHitsIf_172 : decode cX3_leastRecentHitsIf 172 = .ok (.iastore, 1) := by decide +kernel
theorem dX3_leastRecentHitsIf_173 : decode cX3_leastRecentHitsIf 173 = .ok (.iinc 4 1, 3) := by decide +kernel
theorem dX3_leastRecentHitsIf_176 : decode cX3_leastRecentHitsIf 176 = .ok (.goto (-156), 3) := by decide +kernel
theorem dX3_leastRecentHitsIf_179 : decode cX3_leastRecentHitsIf 179 = .ok (.iload_n 2, 1) := by decide +kernel
theorem dX3_leastRecentHitsIf_180 : decode cX3_leastRecentHitsIf 180 = .ok (.ireturn, 1) := by decide +kernel
theorem dJ9_max_7cf53_0 : decode cJ9_max_7cf53 0 = .ok (.iload_n 0, 1) := by decide +kernel
theorem dJ9_max_7cf53_1 : decode cJ9_max_7cf53 1 = .ok (.iload_n 1, 1) := by decide +kernel
theorem dJ9_max_7cf53_2 : decode cJ9_max_7cf53 2 = .ok (.if_icmp .lt 7, 3) := by decide +kernel
theorem dJ9_max_7cf53_5 : decode cJ9_max_7cf53 5 = .ok (.iload_n 0, 1) := by decide +kernel
theorem dJ9_max_7cf53_6 : decode cJ9_max_7cf53 6 = .ok (.goto 4, 3) := by decide +kernel
theorem dJ9_max_7cf53_9 : decode cJ9_max_7cf53 9 = .ok (.iload_n 1, 1) := by decide +kernel
theorem dJ9_max_7cf53_10 : decode cJ9_max_7cf53 10 = .ok (.ireturn, 1) := by decide +kernel
theorem dJ9_min_7cf53_0 : decode cJ9_min_7cf53 0 = .ok (.iload_n 0, 1) := by decide +kernel
theorem dJ9_min_7cf53_1 : decode cJ9_min_7cf53 1 = .ok (.iload_n 1, 1) := by decide +kernel
theorem dJ9_min_7cf53_2 : decode cJ9_min_7cf53 2 = .ok (.if_icmp .gt 7, 3) := by decide +kernel
theorem dJ9_min_7cf53_5 : decode cJ9_min_7cf53 5 = .ok (.iload_n 0, 1) := by decide +kernel
theorem dJ9_min_7cf53_6 : decode cJ9_min_7cf53 6 = .ok (.goto 4, 3) := by decide +kernel
theorem dJ9_min_7cf53_9 : decode cJ9_min_7cf53 9 = .ok (.iload_n 1, 1) := by decide +kernel
theorem dJ9_min_7cf53_10 : decode cJ9_min_7cf53 10 = .ok (.ireturn, 1) := by decide +kernel
set_option maxRecDepth 20000 in
theorem ggL_request_X2_request : GoodIn wsL_request wsX2_request := goodIn_ca (goodIn_r _ [6, 7, 8, 9, 5, 10, 11, 12, 13, 14, 15, 16, 17, 18, 19, 20, 21, 22, 23, 24, 25, 26, 27, 28, 29, 30, 31, 32, 33, 34, 35, 36, 37, 38, 39, 40, 41, 42, 43, 44, 45, 46, 47, 48, 49, 50, 51, 52, 53, 54, 55, 56, 57, 58, 59, 60, 61, 62, 63, 64, 65, 66, 67, 68, 69, 70, 71, 72, 73, 74, 75, 76, 77, 78, 79, 80, 81, 82, 83, 84, 85, 86, 87, 88, 89, 90, 91, 92, 93, 94, 95, 96, 97, 98, 99, 100, 101, 102, 103, 104, 105, 106, 107, 108, 109, 110, 111, 112, 113, 114, 115, 116, 117, 118, 119, 120, 121, 122, 123, 124, 125, 126, 127, 128, 129, 130, 131, 132, 133, 134, 135, 136, 137, 138, 139, 140, 141, 142, 143, 144, 145, 146, 147, 148, 149, 150, 151, 152, 153, 154, 155, 156, 157, 158, 159, 160, 161, 162, 163] (by decide +kernel) (by decide +kernel)) (goodIn_sub (fun _ h => List.mem_cons_of_mem _ (List.mem_append_right _ h)) (by decide +kernel))
set_option maxRecDepth 20000 in
theorem gL_request_X2_request : GoodIn wsL_request (wsV RL 7 RX2 yX2_request wsX2_request) := goodIn_app (goodIn_of _ (by decide +kernel)) ggL_request_X2_request
theorem dL_request_0 : decode cL_request 0 = .ok (.aload_n 2, 1) := by decide +kernel
theorem dL_request_1 : decode cL_request 1 = .ok (.iconst 0, 1) := by decide +kernel
theorem dL_request_2 : decode cL_request 2 = .ok (.aload_n 0, 1) := by decide +kernel
theorem dL_request_3 : decode cL_request 3 = .ok (.iload_n 1, 1) := by decide +kernel
theorem dL_request_4 : decode cL_request 4 = .ok (.invokevirtual 7, 3) := by decide +kernel
theorem dL_request_7 : decode cL_request 7 = .ok (.i2l, 1) := by decide +kernel
theorem dL_request_8 : decode cL_request 8 = .ok (.lastore, 1) := by decide +kernel
theorem dL_request_9 : decode cL_request 9 = .ok (.goto 6, 3) := by decide +kernel
theorem dL_request_12 : decode cL_request 12 = .ok (.astore_n 3, 1) := by decide +kernel
theorem dL_request_13 : decode cL_request 13 = .ok (.iconst 1, 1) := by decide +kernel
theorem dL_request_14 : decode cL_request 14 = .ok (.ireturn, 1) := by decide +kernel
theorem dL_request_15 : decode cL_request 15 = .ok (.iconst 0, 1) := by decide +kernel
theorem dL_request_16 : decode cL_request 16 = .ok (.ireturn, 1) := by decide +kernel
set_option maxRecDepth 20000 in
theorem ggL_remove_X2_remove : GoodIn wsL_remove wsX2_remove := goodIn_ca (goodIn_r _ [6, 7, 8, 9, 5, 10, 11, 12, 13, 14, 15, 16, 17, 18, 19, 20, 21, 22, 23, 24, 25, 26, 27, 28, 29, 30, 31, 32, 33, 34, 35, 36, 37, 38, 39, 40, 41, 42, 43, 44, 45, 46, 47, 48, 49, 50, 51, 52, 53, 54, 55, 56, 57, 58, 59, 60, 61, 62, 63, 64, 65, 66, 67, 68] (by decide +kernel) (by decide +kernel)) (goodIn_sub (fun _ h => List.mem_cons_of_mem _ (List.mem_append_right _ h)) (by decide +kernel))
set_option maxRecDepth 20000 in
theorem gL_remove_X2_remove : GoodIn wsL_remove (wsV RL 15 RX2 yX2_remove wsX2_remove) := goodIn_app (goodIn_of _ (by decide +kernel)) ggL_remove_X2_remove
theorem dL_remove_0 : decode cL_remove 0 = .ok (.aload_n 2, 1) := by decide +kernel
theorem dL_remove_1 : decode cL_remove 1 = .ok (.iconst 0, 1) := by decide +kernel
theorem dL_remove_2 : decode cL_remove 2 = .ok (.aload_n 0, 1) := by decide +kernel
theorem dL_remove_3 : decode cL_remove 3 = .ok (.iload_n 1, 1) := by decide +kernel
theorem dL_remove_4 : decode cL_remove 4 = .ok (.invokevirtual 15, 3) := by decide +kernel
theorem dL_remove_7 : decode cL_remove 7 = .ok (.i2l, 1) := by decide +kernel
theorem dL_remove_8 : decode cL_remove 8 = .ok (.lastore, 1) := by decide +kernel
theorem dL_remove_9 : decode cL_remove 9 = .ok (.goto 6, 3) := by decide +kernel
theorem dL_remove_12 : decode cL_remove 12 = .ok (.astore_n 3, 1) := by decide +kernel
theorem dL_remove_13 : decode cL_remove 13 = .ok (.iconst 1, 1) := by decide +kernel
theorem dL_remove_14 : decode cL_remove 14 = .ok (.ireturn, 1) := by decide +kernel
theorem dL_remove_15 : decode cL_remove 15 = .ok (.iconst 0, 1) := by decide +kernel
theorem dL_remove_16 : decode cL_remove 16 = .ok (.ireturn, 1) := by decide +kernel
set_option maxRecDepth 20000 in
theorem ggL_setCapacity_X2_setCapacity : GoodIn wsL_setCapacity wsX2_setCapacity := goodIn_ca (goodIn_r _ [6, 7, 8, 9, 5, 10, 11, 12, 13, 14, 15, 16, 17, 18, 19, 20, 21, 22, 23, 24, 25, 26, 27, 28, 29, 30, 31, 32, 33, 34, 35, 36, 37, 38, 39, 40, 41, 42, 43, 44, 45, 46, 47, 48, 49, 50, 51, 52, 53, 54, 55, 56, 57, 58, 59, 60, 61, 62, 63, 64, 65, 66, 67, 68, 69, 70, 71, 72, 73, 74, 75, 76, 77, 78, 79, 80, 81, 82, 83, 84, 85, 86, 87, 88, 89, 90, 91, 92, 93, 94] (by decide +kernel) (by decide +kernel)) (goodIn_sub (fun _ h => List.mem_cons_of_mem _ (List.mem_append_right _ h)) (by decide +kernel))
set_option maxRecDepth 20000 in
theorem gL_setCapacity_X2_setCapacity : GoodIn wsL_setCapacity (wsV RL 18 RX2 yX2_setCapacity wsX2_setCapacity) := goodIn_app (goodIn_of _ (by decide +kernel)) ggL_setCapacity_X2_setCapacity
theorem dL_setCapacity_0 : decode cL_setCapacity 0 = .ok (.aload_n 2, 1) := by decide +kernel
theorem dL_setCapacity_1 : decode cL_setCapacity 1 = .ok (.iconst 0, 1) := by decide +kernel
theorem dL_setCapacity_2 : decode cL_setCapacity 2 = .ok (.aload_n 0, 1) := by decide +kernel
theorem dL_setCapacity_3 : decode cL_setCapacity 3 = .ok (.iload_n 1, 1) := by decide +kernel
theorem dL_setCapacity_4 : decode cL_setCapacity 4 = .ok (.invokevirtual 18, 3) := by decide +kernel
theorem dL_setCapacity_7 : decode cL_setCapacity 7 = .ok (.i2l, 1) := by decide +kernel
theorem dL_setCapacity_8 : decode cL_setCapacity 8 = .ok (.lastore, 1) := by decide +kernel
theorem dL_setCapacity_9 : decode cL_setCapacity 9 = .ok (.goto 6, 3) := by decide +kernel
theorem dL_setCapacity_12 : decode cL_setCapacity 12 = .ok (.astore_n 3, 1) := by decide +kernel
theorem dL_setCapacity_13 : decode cL_setCapacity 13 = .ok (.iconst 1, 1) := by decide +kernel
theorem dL_setCapacity_14 : decode cL_setCapacity 14 = .ok (.ireturn, 1) := by decide +kernel
theorem dL_setCapacity_15 : decode cL_setCapacity 15 = .ok (.iconst 0, 1) := by decide +kernel
theorem dL_setCapacity_16 : decode cL_setCapacity 16 = .ok (.ireturn, 1) := by decide +kernel
set_option maxRecDepth 20000 in
theorem ggL_setScanLength_X2_setScanLength : GoodIn wsL_setScanLength wsX2_setScanLength := goodIn_ca (goodIn_r _ [6, 7, 8, 9, 10, 11, 12, 13, 14, 15, 16, 17, 18, 19, 20, 21, 22, 23, 24, 25, 26, 27] (by decide +kernel) (by decide +kernel)) (goodIn_sub (fun _ h => List.mem_cons_of_mem _ (List.mem_append_right _ h)) (by decide +kernel))
set_option maxRecDepth 20000 in
theorem gL_setScanLength_X2_setScanLength : GoodIn wsL_setScanLength (wsV RL 21 RX2 yX2_setScanLength wsX2_setScanLength) := goodIn_app (goodIn_of _ (by decide +kernel)) ggL_setScanLength_X2_setScanLength
theorem dL_setScanLength_0 : decode cL_setScanLength 0 = .ok (.aload_n 2, 1) := by decide +kernel
theorem dL_setScanLength_1 : decode cL_setScanLength 1 = .ok (.iconst 0, 1) := by decide +kernel
theorem dL_setScanLength_2 : decode cL_setScanLength 2 = .ok (.aload_n 0, 1) := by decide +kernel
theorem dL_setScanLength_3 : decode cL_setScanLength 3 = .ok (.iload_n 1, 1) := by decide +kernel
theorem dL_setScanLength_4 : decode cL_setScanLength 4 = .ok (.invokevirtual 21, 3) := by decide +kernel
theorem dL_setScanLength_7 : decode cL_setScanLength 7 = .ok (.i2l, 1) := by decide +kernel
theorem dL_setScanLength_8 : decode cL_setScanLength 8 = .ok (.lastore, 1) := by decide +kernel
theorem dL_setScanLength_9 : decode cL_setScanLength 9 = .ok (.goto 6, 3) := by decide +kernel
theorem dL_setScanLength_12 : decode cL_setScanLength 12 = .ok (.astore_n 3, 1) := by decide +kernel
theorem dL_setScanLength_13 : decode cL_setScanLength 13 = .ok (.iconst 1, 1) := by decide +kernel
theorem dL_setScanLength_14 : decode cL_setScanLength 14 = .ok (.ireturn, 1) := by decide +kernel
theorem dL_setScanLength_15 : decode cL_setScanLength 15 = .ok (.iconst 0, 1) := by decide +kernel
theorem dL_setScanLength_16 : decode cL_setScanLength 16 = .ok (.ireturn, 1) := by decide +kernel
set_option maxRecDepth 20000 in
theorem ggL_whereIs_X2_whereIs : GoodIn wsL_whereIs wsX2_whereIs := goodIn_ca (goodIn_r _ [6, 7, 8, 9, 5, 10, 11, 12, 13, 14, 15, 16, 17, 18, 19, 20, 21, 22, 23, 24, 25, 26, 27, 28, 29, 30, 31, 32, 33, 34, 35, 36, 37, 38, 39, 40, 41, 42, 43, 44, 45, 46, 47, 48, 49, 50, 51, 52] (by decide +kernel) (by decide +kernel)) (goodIn_sub (fun _ h => List.mem_cons_of_mem _ (List.mem_append_right _ h)) (by decide +kernel))
set_option maxRecDepth 20000 in
theorem gL_whereIs_X2_whereIs : GoodIn wsL_whereIs (wsV RL 24 RX2 yX2_whereIs wsX2_whereIs) := goodIn_app (goodIn_of _ (by decide +kernel)) ggL_whereIs_X2_whereIs
theorem dL_whereIs_0 : decode cL_whereIs 0 = .ok (.aload_n 2, 1) := by decide +kernel
theorem dL_whereIs_1 : decode cL_whereIs 1 = .ok (.iconst 0, 1) := by decide +kernel
theorem dL_whereIs_2 : decode cL_whereIs 2 = .ok (.aload_n 0, 1) := by decide +kernel
theorem dL_whereIs_3 : decode cL_whereIs 3 = .ok (.iload_n 1, 1) := by decide +kernel
theorem dL_whereIs_4 : decode cL_whereIs 4 = .ok (.invokevirtual 24, 3) := by decide +kernel
theorem dL_whereIs_7 : decode cL_whereIs 7 = .ok (.i2l, 1) := by decide +kernel
theorem dL_whereIs_8 : decode cL_whereIs 8 = .ok (.lastore, 1) := by decide +kernel
theorem dL_whereIs_9 : decode cL_whereIs 9 = .ok (.goto 6, 3) := by decide +kernel
theorem dL_whereIs_12 : decode cL_whereIs 12 = .ok (.astore_n 3, 1) := by decide +kernel
theorem dL_whereIs_13 : decode cL_whereIs 13 = .ok (.iconst 1, 1) := by decide +kernel
theorem dL_whereIs_14 : decode cL_whereIs 14 = .ok (.ireturn, 1) := by decide +kernel
theorem dL_whereIs_15 : decode cL_whereIs 15 = .ok (.iconst 0, 1) := by decide +kernel
theorem dL_whereIs_16 : decode cL_whereIs 16 = .ok (.ireturn, 1) := by decide +kernel
set_option maxRecDepth 20000 in
theorem ggL_recentAt_X2_recentAt : GoodIn wsL_recentAt wsX2_recentAt := goodIn_ca (goodIn_r _ [6, 7, 8, 9, 5, 10, 11, 12, 13, 14, 15, 16, 17, 18, 19, 20, 21, 22, 23, 24, 25, 26, 27, 28, 29, 30, 31, 32, 33, 34, 35, 36, 37, 38, 39, 40, 41, 42, 43, 44, 45, 46, 47] (by decide +kernel) (by decide +kernel)) (goodIn_sub (fun _ h => List.mem_cons_of_mem _ (List.mem_append_right _ h)) (by decide +kernel))
set_option maxRecDepth 20000 in
theorem gL_recentAt_X2_recentAt : GoodIn wsL_recentAt (wsV RL 27 RX2 yX2_recentAt wsX2_recentAt) := goodIn_app (goodIn_of _ (by decide +kernel)) ggL_recentAt_X2_recentAt
theorem dL_recentAt_0 : decode cL_recentAt 0 = .ok (.aload_n 2, 1) := by decide +kernel
theorem dL_recentAt_1 : decode cL_recentAt 1 = .ok (.iconst 0, 1) := by decide +kernel
theorem dL_recentAt_2 : decode cL_recentAt 2 = .ok (.aload_n 0, 1) := by decide +kernel
theorem dL_recentAt_3 : decode cL_recentAt 3 = .ok (.iload_n 1, 1) := by decide +kernel
theorem dL_recentAt_4 : decode cL_recentAt 4 = .ok (.invokevirtual 27, 3) := by decide +kernel
theorem dL_recentAt_7 : decode cL_recentAt 7 = .ok (.i2l, 1) := by decide +kernel
theorem dL_recentAt_8 : decode cL_recentAt 8 = .ok (.lastore, 1) := by decide +kernel
theorem dL_recentAt_9 : decode cL_recentAt 9 = .ok (.goto 6, 3) := by decide +kernel
theorem dL_recentAt_12 : decode cL_recentAt 12 = .ok (.astore_n 3, 1) := by decide +kernel
theorem dL_recentAt_13 : decode cL_recentAt 13 = .ok (.iconst 1, 1) := by decide +kernel
theorem dL_recentAt_14 : decode cL_recentAt 14 = .ok (.ireturn, 1) := by decide +kernel
theorem dL_recentAt_15 : decode cL_recentAt 15 = .ok (.iconst 0, 1) := by decide +kernel
theorem dL_recentAt_16 : decode cL_recentAt 16 = .ok (.ireturn, 1) := by decide +kernel
set_option maxRecDepth 20000 in
theorem ggL_frequentAt_X2_frequentAt : GoodIn wsL_frequentAt wsX2_frequentAt := goodIn_ca (goodIn_r _ [6, 7, 8, 9, 5, 10, 11, 12, 13, 14, 15, 16, 17, 18, 19, 20, 21, 22, 23, 24, 25, 26, 27, 28, 29, 30, 31, 32, 33, 34, 35, 36, 37, 38, 39, 40, 41, 42, 43, 44, 45, 46, 47] (by decide +kernel) (by decide +kernel)) (goodIn_sub (fun _ h => List.mem_cons_of_mem _ (List.mem_append_right _ h)) (by decide +kernel))
set_option maxRecDepth 20000 in
theorem gL_frequentAt_X2_frequentAt : GoodIn wsL_frequentAt (wsV RL 32 RX2 yX2_frequentAt wsX2_frequentAt) := goodIn_app (goodIn_of _ (by decide +kernel)) ggL_frequentAt_X2_frequentAt
theorem dL_frequentAt_0 : decode cL_frequentAt 0 = .ok (.aload_n 2, 1) := by decide +kernel
theorem dL_frequentAt_1 : decode cL_frequentAt 1 = .ok (.iconst 0, 1) := by decide +kernel
theorem dL_frequentAt_2 : decode cL_frequentAt 2 = .ok (.aload_n 0, 1) := by decide +kernel
theorem dL_frequentAt_3 : decode cL_frequentAt 3 = .ok (.iload_n 1, 1) := by decide +kernel
theorem dL_frequentAt_4 : decode cL_frequentAt 4 = .ok (.invokevirtual 32, 3) := by decide +kernel
theorem dL_frequentAt_7 : decode cL_frequentAt 7 = .ok (.i2l, 1) := by decide +kernel
theorem dL_frequentAt_8 : decode cL_frequentAt 8 = .ok (.lastore, 1) := by decide +kernel
theorem dL_frequentAt_9 : decode cL_frequentAt 9 = .ok (.goto 6, 3) := by decide +kernel
theorem dL_frequentAt_12 : decode cL_frequentAt 12 = .ok (.astore_n 3, 1) := by decide +kernel
theorem dL_frequentAt_13 : decode cL_frequentAt 13 = .ok (.iconst 1, 1) := by decide +kernel
theorem dL_frequentAt_14 : decode cL_frequentAt 14 = .ok (.ireturn, 1) := by decide +kernel
theorem dL_frequentAt_15 : decode cL_frequentAt 15 = .ok (.iconst 0, 1) := by decide +kernel
theorem dL_frequentAt_16 : decode cL_frequentAt 16 = .ok (.ireturn, 1) := by decide +kernel
set_option maxRecDepth 20000 in
theorem ggL_recentGhostAt_X2_recentGhostAt : GoodIn wsL_recentGhostAt wsX2_recentGhostAt := goodIn_ca (goodIn_r _ [6, 7, 8, 9, 5, 10, 11, 12, 13, 14, 15, 16, 17, 18, 19, 20, 21, 22, 23, 24, 25, 26, 27, 28, 29, 30, 31, 32, 33, 34, 35, 36, 37, 38, 39, 40, 41, 42, 43, 44, 45, 46, 47] (by decide +kernel) (by decide +kernel)) (goodIn_sub (fun _ h => List.mem_cons_of_mem _ (List.mem_append_right _ h)) (by decide +kernel))
set_option maxRecDepth 20000 in
theorem gL_recentGhostAt_X2_recentGhostAt : GoodIn wsL_recentGhostAt (wsV RL 35 RX2 yX2_recentGhostAt wsX2_recentGhostAt) := goodIn_app (goodIn_of _ (by decide +kernel)) ggL_recentGhostAt_X2_recentGhostAt
theorem dL_recentGhostAt_0 : decode cL_recentGhostAt 0 = .ok (.aload_n 2, 1) := by decide +kernel
theorem dL_recentGhostAt_1 : decode cL_recentGhostAt 1 = .ok (.iconst 0, 1) := by decide +kernel
theorem dL_recentGhostAt_2 : decode cL_recentGhostAt 2 = .ok (.aload_n 0, 1) := by decide +kernel
theorem dL_recentGhostAt_3 : decode cL_recentGhostAt 3 = .ok (.iload_n 1, 1) := by decide +kernel
theorem dL_recentGhostAt_4 : decode cL_recentGhostAt 4 = .ok (.invokevirtual 35, 3) := by decide +kernel
theorem dL_recentGhostAt_7 : decode cL_recentGhostAt 7 = .ok (.i2l, 1) := by decide +kernel
theorem dL_recentGhostAt_8 : decode cL_recentGhostAt 8 = .ok (.lastore, 1) := by decide +kernel
theorem dL_recentGhostAt_9 : decode cL_recentGhostAt 9 = .ok (.goto 6, 3) := by decide +kernel
theorem dL_recentGhostAt_12 : decode cL_recentGhostAt 12 = .ok (.astore_n 3, 1) := by decide +kernel
theorem dL_recentGhostAt_13 : decode cL_recentGhostAt 13 = .ok (.iconst 1, 1) := by decide +kernel
theorem dL_recentGhostAt_14 : decode cL_recentGhostAt 14 = .ok (.ireturn, 1) := by decide +kernel
theorem dL_recentGhostAt_15 : decode cL_recentGhostAt 15 = .ok (.iconst 0, 1) := by decide +kernel
theorem dL_recentGhostAt_16 : decode cL_recentGhostAt 16 = .ok (.ireturn, 1) := by decide +kernel
set_option maxRecDepth 20000 in
theorem ggL_frequentGhostAt_X2_frequentGhostAt : GoodIn wsL_frequentGhostAt wsX2_frequentGhostAt := goodIn_ca (goodIn_r _ [6, 7, 8, 9, 5, 10, 11, 12, 13, 14, 15, 16, 17, 18, 19, 20, 21, 22, 23, 24, 25, 26, 27, 28, 29, 30, 31, 32, 33, 34, 35, 36, 37, 38, 39, 40, 41, 42, 43, 44, 45, 46, 47] (by decide +kernel) (by decide +kernel)) (goodIn_sub (fun _ h => List.mem_cons_of_mem _ (List.mem_append_right _ h)) (by decide +kernel))
set_option maxRecDepth 20000 in
theorem gL_frequentGhostAt_X2_frequentGhostAt : GoodIn wsL_frequentGhostAt (wsV RL 38 RX2 yX2_frequentGhostAt wsX2_frequentGhostAt) := goodIn_app (goodIn_of _ (by decide +kernel)) ggL_frequentGhostAt_X2_frequentGhostAt
theorem dL_frequentGhostAt_0 : decode cL_frequentGhostAt 0 = .ok (.aload_n 2, 1) := by decide +kernel
theorem dL_frequentGhostAt_1 : decode cL_frequentGhostAt 1 = .ok (.iconst 0, 1) := by decide +kernel
theorem dL_frequentGhostAt_2 : decode cL_frequentGhostAt 2 = .ok (.aload_n 0, 1) := by decide +kernel
theorem dL_frequentGhostAt_3 : decode cL_frequentGhostAt 3 = .ok (.iload_n 1, 1) := by decide +kernel
theorem dL_frequentGhostAt_4 : decode cL_frequentGhostAt 4 = .ok (.invokevirtual 38, 3) := by decide +kernel
theorem dL_frequentGhostAt_7 : decode cL_frequentGhostAt 7 = .ok (.i2l, 1) := by decide +kernel
theorem dL_frequentGhostAt_8 : decode cL_frequentGhostAt 8 = .ok (.lastore, 1) := by decide +kernel
theorem dL_frequentGhostAt_9 : decode cL_frequentGhostAt 9 = .ok (.goto 6, 3) := by decide +kernel
theorem dL_frequentGhostAt_12 : decode cL_frequentGhostAt 12 = .ok (.astore_n 3, 1) := by decide +kernel
theorem dL_frequentGhostAt_13 : decode cL_frequentGhostAt 13 = .ok (.iconst 1, 1) := by decide +kernel
theorem dL_frequentGhostAt_14 : decode cL_frequentGhostAt 14 = .ok (.ireturn, 1) := by decide +kernel
theorem dL_frequentGhostAt_15 : decode cL_frequentGhostAt 15 = .ok (.iconst 0, 1) := by decide +kernel
theorem dL_frequentGhostAt_16 : decode cL_frequentGhostAt 16 = .ok (.ireturn, 1) := by decide +kernel
set_option maxRecDepth 20000 in
theorem ggL_hitsIf_X2_hitsIf : GoodIn wsL_hitsIf wsX2_hitsIf := goodIn_ca (goodIn_r _ [6, 7, 8, 9, 10, 11, 5, 12, 13, 14, 15, 16, 17, 18, 19, 20, 21, 22, 23, 24, 25, 26, 27, 28, 29, 30, 31, 32, 33, 34, 35, 36, 37, 38, 39, 40, 41, 42, 43, 44, 45, 46, 47, 48, 49, 50, 51, 52, 53, 54, 55, 56, 57, 58, 59, 60, 61, 62, 63, 64, 65, 66, 67, 68, 69, 70, 71, 72, 73, 74, 75, 76, 77, 78, 79, 80, 81, 82, 83, 84, 85, 86, 87, 88, 89, 90, 91, 92, 93, 94, 95, 96, 97, 98, 99, 100, 101, 102, 103, 104, 105, 106, 107, 108, 109, 110, 111, 112, 113, 114, 115, 116, 117, 118, 119, 120, 121, 122, 123, 124, 125, 126, 127, 128, 129, 130, 131, 132, 133, 134, 135, 136, 137, 138, 139, 140, 141, 142, 143, 144, 145, 146, 147, 148, 149, 150, 151, 152, 153, 154, 155, 156, 157, 158, 159, 160, 161, 162, 163] (by decide +kernel) (by decide +kernel)) (goodIn_sub (fun _ h => List.mem_cons_of_mem _ (List.mem_append_right _ h)) (by decide +kernel))
set_option maxRecDepth 20000 in
theorem gL_hitsIf_X2_hitsIf : GoodIn wsL_hitsIf (wsV RL 41 RX2 yX2_hitsIf wsX2_hitsIf) := goodIn_app (goodIn_of _ (by decide +kernel)) ggL_hitsIf_X2_hitsIf
theorem dL_hitsIf_0 : decode cL_hitsIf 0 = .ok (.aload_n 2, 1) := by decide +kernel
theorem dL_hitsIf_1 : decode cL_hitsIf 1 = .ok (.iconst 0, 1) := by decide +kernel
theorem dL_hitsIf_2 : decode cL_hitsIf 2 = .ok (.aload_n 0, 1) := by decide +kernel
theorem dL_hitsIf_3 : decode cL_hitsIf 3 = .ok (.iload_n 1, 1) := by decide +kernel
theorem dL_hitsIf_4 : decode cL_hitsIf 4 = .ok (.invokevirtual 41, 3) := by decide +kernel
theorem dL_hitsIf_7 : decode cL_hitsIf 7 = .ok (.i2l, 1) := by decide +kernel
theorem dL_hitsIf_8 : decode cL_hitsIf 8 = .ok (.lastore, 1) := by decide +kernel
theorem dL_hitsIf_9 : decode cL_hitsIf 9 = .ok (.goto 6, 3) := by decide +kernel
theorem dL_hitsIf_12 : decode cL_hitsIf 12 = .ok (.astore_n 3, 1) := by decide +kernel
theorem dL_hitsIf_13 : decode cL_hitsIf 13 = .ok (.iconst 1, 1) := by decide +kernel
theorem dL_hitsIf_14 : decode cL_hitsIf 14 = .ok (.ireturn, 1) := by decide +kernel
theorem dL_hitsIf_15 : decode cL_hitsIf 15 = .ok (.iconst 0, 1) := by decide +kernel
theorem dL_hitsIf_16 : decode cL_hitsIf 16 = .ok (.ireturn, 1) := by decide +kernel
set_option maxRecDepth 20000 in
theorem ggL_leastRecentHitsIf_X2_leastRecentHitsIf : GoodIn wsL_leastRecentHitsIf wsX2_leastRecentHitsIf := goodIn_ca (goodIn_r _ [6, 7, 8, 9, 10, 5, 11, 12, 13, 14, 15, 16, 17, 18, 19, 20, 21, 22, 23, 24, 25, 26, 27, 28, 29, 30, 31, 32, 33, 34, 35, 36, 37, 38, 39, 40, 41, 42, 43, 44, 45, 46, 47, 48, 49, 50, 51, 52, 53, 54, 55, 56, 57, 58, 59] (by decide +kernel) (by decide +kernel)) (goodIn_sub (fun _ h => List.mem_cons_of_mem _ (List.mem_append_right _ h)) (by decide +kernel))
set_option maxRecDepth 20000 in
theorem gL_leastRecentHitsIf_X2_leastRecentHitsIf : GoodIn wsL_leastRecentHitsIf (wsV RL 44 RX2 yX2_leastRecentHitsIf wsX2_leastRecentHitsIf) := goodIn_app (goodIn_of _ (by decide +kernel)) ggL_leastRecentHitsIf_X2_leastRecentHitsIf
theorem dL_leastRecentHitsIf_0 : decode cL_leastRecentHitsIf 0 = .ok (.aload_n 2, 1) := by decide +kernel
theorem dL_leastRecentHitsIf_1 : decode cL_leastRecentHitsIf 1 = .ok (.iconst 0, 1) := by decide +kernel
theorem dL_leastRecentHitsIf_2 : decode cL_leastRecentHitsIf 2 = .ok (.aload_n 0, 1) := by decide +kernel
theorem dL_leastRecentHitsIf_3 : decode cL_leastRecentHitsIf 3 = .ok (.iload_n 1, 1) := by decide +kernel
theorem dL_leastRecentHitsIf_4 : decode cL_leastRecentHitsIf 4 = .ok (.invokevirtual 44, 3) := by decide +kernel
theorem dL_leastRecentHitsIf_7 : decode cL_leastRecentHitsIf 7 = .ok (.i2l, 1) := by decide +kernel
theorem dL_leastRecentHitsIf_8 : decode cL_leastRecentHitsIf 8 = .ok (.lastore, 1) := by decide +kernel
theorem dL_leastRecentHitsIf_9 : decode cL_leastRecentHitsIf 9 = .ok (.goto 6, 3) := by decide +kernel
theorem dL_leastRecentHitsIf_12 : decode cL_leastRecentHitsIf 12 = .ok (.astore_n 3, 1) := by decide +kernel
theorem dL_leastRecentHitsIf_13 : decode cL_leastRecentHitsIf 13 = .ok (.iconst 1, 1) := by decide +kernel
theorem dL_leastRecentHitsIf_14 : decode cL_leastRecentHitsIf 14 = .ok (.ireturn, 1) := by decide +kernel
theorem dL_leastRecentHitsIf_15 : decode cL_leastRecentHitsIf 15 = .ok (.iconst 0, 1) := by decide +kernel
theorem dL_leastRecentHitsIf_16 : decode cL_leastRecentHitsIf 16 = .ok (.ireturn, 1) := by decide +kernel
set_option maxRecDepth 20000 in
theorem ggL_law_X2_init : GoodIn wsL_law wsX2_init := goodIn_r _ [9, 10, 11, 12, 13, 14, 15, 16, 17, 18, 19, 20, 21, 22, 23, 24, 25, 26, 27, 28, 29, 30, 31, 32, 33, 34, 35, 36, 37, 550, 551, 552, 553, 554, 555, 556, 557, 558, 559, 532, 533, 534, 535, 536, 537, 538, 539, 560, 561] (by decide +kernel) (by decide +kernel)
set_option maxRecDepth 20000 in
theorem gL_law_X2_init : GoodIn wsL_law (wsX2_init) := ggL_law_X2_init
set_option maxRecDepth 20000 in
theorem ggL_law_X3_init : GoodIn wsL_law wsX3_init := goodIn_r _ [40, 41, 11, 12, 36, 42, 43, 44, 45, 540, 541, 542, 543, 544, 545, 546, 547, 548, 549] (by decide +kernel) (by decide +kernel)
set_option maxRecDepth 20000 in
theorem gL_law_X3_init : GoodIn wsL_law (wsX3_init) := ggL_law_X3_init
set_option maxRecDepth 20000 in
theorem ggL_law_L_request : GoodIn wsL_law wsL_request := goodIn_ca (goodIn_r _ [49, 50, 51, 52, 53, 2, 54, 16, 55, 56, 57, 58, 59, 60, 61, 62, 63, 20, 64, 65, 66, 19, 67, 68, 69, 70, 71, 72, 73, 74, 75, 76, 37, 77, 78, 79, 80, 81, 82, 83, 84, 85, 86, 87, 15, 88, 89, 90, 28, 91, 92, 93, 94, 32, 95, 96, 97, 98, 27, 29, 30, 99, 100, 101, 102, 103, 104, 105, 106, 107, 108, 109, 110, 111, 112, 113, 31, 114, 115, 116, 117, 118, 119, 120, 121, 122, 123, 124, 125, 126, 127, 128, 129, 130, 131, 132, 133, 134, 135, 136, 137, 138, 139, 140, 141, 142, 143, 144, 145, 146, 147, 148, 149, 150, 151, 152, 153, 154, 155, 156, 157, 158, 159, 160, 161, 162, 163, 164, 165, 166, 167, 168, 169, 170, 171, 172, 173, 174, 175, 176, 177, 178, 179, 180, 532, 533, 534, 535, 536, 537, 538, 539, 560, 561, 550, 551, 552, 553, 554, 555, 556, 557, 558, 559] (by decide +kernel) (by decide +kernel)) (goodIn_sub (fun _ h => List.mem_append_left _ (List.mem_append_right _ h)) (by decide +kernel))
set_option maxRecDepth 20000 in
theorem gL_law_L_request : GoodIn wsL_law (va_wsS RL 51 yL_request wsL_request) := goodIn_app (goodIn_of _ (by decide +kernel)) ggL_law_L_request
set_option maxRecDepth 20000 in
theorem ggL_law_X3_request : GoodIn wsL_law wsX3_request := goodIn_r _ [184, 42, 185, 186, 187, 188, 189, 44, 190, 191, 5, 192, 193, 194, 195, 196, 197, 198, 199, 200, 201, 202, 203, 204, 205, 206, 207, 208, 209, 210, 211, 212, 213, 214, 215, 216, 217, 218, 219, 220, 221, 222, 223, 224, 225, 226, 227, 228, 229, 230, 231, 232, 233, 234, 235, 236, 237, 238, 239, 540, 541, 542, 543, 544, 545, 546, 547, 548, 549] (by decide +kernel) (by decide +kernel)
set_option maxRecDepth 20000 in
theorem gL_law_X3_request : GoodIn wsL_law (wsV RL 56 RX3 yX3_request wsX3_request) := goodIn_app (goodIn_of _ (by decide +kernel)) ggL_law_X3_request
set_option maxRecDepth 20000 in
theorem ggL_law_X3_thrown : GoodIn wsL_law wsX3_thrown := goodIn_r _ [243, 197, 540, 541, 542, 543, 544, 545, 546, 547, 548, 549] (by decide +kernel) (by decide +kernel)
set_option maxRecDepth 20000 in
theorem gL_law_X3_thrown : GoodIn wsL_law (wsV RL 57 RX3 yX3_thrown wsX3_thrown) := goodIn_app (goodIn_of _ (by decide +kernel)) ggL_law_X3_thrown
set_option maxRecDepth 20000 in
theorem ggL_law_L_remove : GoodIn wsL_law wsL_remove := goodIn_ca (goodIn_r _ [246, 50, 247, 248, 249, 2, 250, 16, 55, 56, 57, 58, 59, 251, 252, 253, 15, 254, 95, 96, 97, 98, 27, 28, 29, 30, 99, 100, 101, 19, 102, 103, 104, 105, 106, 68, 37, 164, 165, 166, 167, 168, 169, 170, 171, 77, 78, 79, 80, 532, 533, 534, 535, 536, 537, 538, 539, 550, 551, 552, 553, 554, 555, 556, 557, 558, 559, 560, 561] (by decide +kernel) (by decide +kernel)) (goodIn_sub (fun _ h => List.mem_append_left _ (List.mem_append_right _ h)) (by decide +kernel))
set_option maxRecDepth 20000 in
theorem gL_law_L_remove : GoodIn wsL_law (va_wsS RL 61 yL_remove wsL_remove) := goodIn_app (goodIn_of _ (by decide +kernel)) ggL_law_L_remove
set_option maxRecDepth 20000 in
theorem ggL_law_X3_remove : GoodIn wsL_law wsX3_remove := goodIn_r _ [258, 42, 190, 191, 5, 192, 193, 194, 195, 196, 197, 201, 202, 203, 204, 205, 206, 207, 208, 209, 210, 211, 212, 540, 541, 542, 543, 544, 545, 546, 547, 548, 549] (by decide +kernel) (by decide +kernel)
set_option maxRecDepth 20000 in
theorem gL_law_X3_remove : GoodIn wsL_law (wsV RL 63 RX3 yX3_remove wsX3_remove) := goodIn_app (goodIn_of _ (by decide +kernel)) ggL_law_X3_remove
set_option maxRecDepth 20000 in
theorem ggL_law_X2_clear : GoodIn wsL_law wsX2_clear := goodIn_r _ [262, 16, 263, 264, 265, 15, 266, 27, 28, 29, 30, 148, 128, 129, 130, 131, 122, 65, 66, 19, 67, 68, 267, 268, 269, 270, 532, 533, 534, 535, 536, 537, 538, 539, 550, 551, 552, 553, 554, 555, 556, 557, 558, 559, 560, 561] (by decide +kernel) (by decide +kernel)
set_option maxRecDepth 20000 in
theorem gL_law_X2_clear : GoodIn wsL_law (wsV RL 64 RX2 yX2_clear wsX2_clear) := goodIn_app (goodIn_of _ (by decide +kernel)) ggL_law_X2_clear
set_option maxRecDepth 20000 in
theorem ggL_law_X3_clear : GoodIn wsL_law wsX3_clear := goodIn_r _ [274, 197, 42, 540, 541, 542, 543, 544, 545, 546, 547, 548, 549] (by decide +kernel) (by decide +kernel)
set_option maxRecDepth 20000 in
theorem gL_law_X3_clear : GoodIn wsL_law (wsV RL 67 RX3 yX3_clear wsX3_clear) := goodIn_app (goodIn_of _ (by decide +kernel)) ggL_law_X3_clear
set_option maxRecDepth 20000 in
theorem ggL_law_L_setCapacity : GoodIn wsL_law wsL_setCapacity := goodIn_ca (goodIn_r _ [277, 50, 278, 279, 280, 2, 281, 16, 282, 283, 284, 58, 59, 285, 286, 287, 15, 288, 31, 148, 154, 155, 156, 157, 158, 159, 160, 29, 30, 128, 129, 130, 131, 27, 28, 122, 65, 66, 19, 67, 68, 140, 141, 142, 143, 113, 144, 145, 146, 147, 123, 70, 71, 72, 73, 74, 75, 76, 37, 77, 78, 79, 80, 149, 82, 83, 84, 118, 119, 120, 121, 124, 125, 126, 127, 532, 533, 534, 535, 536, 537, 538, 539, 550, 551, 552, 553, 554, 555, 556, 557, 558, 559, 560, 561] (by decide +kernel) (by decide +kernel)) (goodIn_sub (fun _ h => List.mem_append_left _ (List.mem_append_right _ h)) (by decide +kernel))
set_option maxRecDepth 20000 in
theorem gL_law_L_setCapacity : GoodIn wsL_law (va_wsS RL 68 yL_setCapacity wsL_setCapacity) := goodIn_app (goodIn_of _ (by decide +kernel)) ggL_law_L_setCapacity
set_option maxRecDepth 20000 in
theorem ggL_law_X3_setCapacity : GoodIn wsL_law wsX3_setCapacity := goodIn_r _ [292, 42, 293, 294, 5, 295, 193, 194, 195, 196, 197, 228, 229, 230, 231, 232, 233, 210, 211, 212, 207, 208, 209, 213, 214, 215, 237, 238, 239, 540, 541, 542, 543, 544, 545, 546, 547, 548, 549] (by decide +kernel) (by decide +kernel)
set_option maxRecDepth 20000 in
theorem gL_law_X3_setCapacity : GoodIn wsL_law (wsV RL 70 RX3 yX3_setCapacity wsX3_setCapacity) := goodIn_app (goodIn_of _ (by decide +kernel)) ggL_law_X3_setCapacity
set_option maxRecDepth 20000 in
theorem ggL_law_X2_capacity : GoodIn wsL_law wsX2_capacity := goodIn_r _ [299, 16, 532, 533, 534, 535, 536, 537, 538, 539, 550, 551, 552, 553, 554, 555, 556, 557, 558, 559] (by decide +kernel) (by decide +kernel)
set_option maxRecDepth 20000 in
theorem gL_law_X2_capacity : GoodIn wsL_law (wsV RL 71 RX2 yX2_capacity wsX2_capacity) := goodIn_app (goodIn_of _ (by decide +kernel)) ggL_law_X2_capacity
set_option maxRecDepth 20000 in
theorem ggL_law_X3_capacity : GoodIn wsL_law wsX3_capacity := goodIn_r _ [303, 42, 304, 305, 306, 5, 307, 197, 540, 541, 542, 543, 544, 545, 546, 547, 548, 549] (by decide +kernel) (by decide +kernel)
set_option maxRecDepth 20000 in
theorem gL_law_X3_capacity : GoodIn wsL_law (wsV RL 74 RX3 yX3_capacity wsX3_capacity) := goodIn_app (goodIn_of _ (by decide +kernel)) ggL_law_X3_capacity
set_option maxRecDepth 20000 in
theorem ggL_law_L_setScanLength : GoodIn wsL_law wsL_setScanLength := goodIn_ca (goodIn_r _ [310, 50, 311, 312, 313, 2, 314, 58, 59, 16, 532, 533, 534, 535, 536, 537, 538, 539, 550, 551, 552, 553, 554, 555, 556, 557, 558, 559] (by decide +kernel) (by decide +kernel)) (goodIn_sub (fun _ h => List.mem_append_left _ (List.mem_append_right _ h)) (by decide +kernel))
set_option maxRecDepth 20000 in
theorem gL_law_L_setScanLength : GoodIn wsL_law (va_wsS RL 75 yL_setScanLength wsL_setScanLength) := goodIn_app (goodIn_of _ (by decide +kernel)) ggL_law_L_setScanLength
set_option maxRecDepth 20000 in
theorem ggL_law_X3_setScanLength : GoodIn wsL_law wsX3_setScanLength := goodIn_r _ [318, 42, 193, 194, 195, 5, 196, 197, 540, 541, 542, 543, 544, 545, 546, 547, 548, 549] (by decide +kernel) (by decide +kernel)
set_option maxRecDepth 20000 in
theorem gL_law_X3_setScanLength : GoodIn wsL_law (wsV RL 77 RX3 yX3_setScanLength wsX3_setScanLength) := goodIn_app (goodIn_of _ (by decide +kernel)) ggL_law_X3_setScanLength
set_option maxRecDepth 20000 in
theorem ggL_law_X2_run : GoodIn wsL_law wsX2_run := goodIn_r _ [322, 16, 532, 533, 534, 535, 536, 537, 538, 539, 550, 551, 552, 553, 554, 555, 556, 557, 558, 559] (by decide +kernel) (by decide +kernel)
set_option maxRecDepth 20000 in
theorem gL_law_X2_run : GoodIn wsL_law (wsV RL 78 RX2 yX2_run wsX2_run) := goodIn_app (goodIn_of _ (by decide +kernel)) ggL_law_X2_run
set_option maxRecDepth 20000 in
theorem ggL_law_X3_run : GoodIn wsL_law wsX3_run := goodIn_r _ [326, 42, 304, 305, 306, 5, 307, 197, 540, 541, 542, 543, 544, 545, 546, 547, 548, 549] (by decide +kernel) (by decide +kernel)
set_option maxRecDepth 20000 in
theorem gL_law_X3_run : GoodIn wsL_law (wsV RL 81 RX3 yX3_run wsX3_run) := goodIn_app (goodIn_of _ (by decide +kernel)) ggL_law_X3_run
set_option maxRecDepth 20000 in
theorem ggL_law_X2_target : GoodIn wsL_law wsX2_target := goodIn_r _ [330, 16, 532, 533, 534, 535, 536, 537, 538, 539, 550, 551, 552, 553, 554, 555, 556, 557, 558, 559] (by decide +kernel) (by decide +kernel)
set_option maxRecDepth 20000 in
theorem gL_law_X2_target : GoodIn wsL_law (wsV RL 82 RX2 yX2_target wsX2_target) := goodIn_app (goodIn_of _ (by decide +kernel)) ggL_law_X2_target
set_option maxRecDepth 20000 in
theorem ggL_law_X3_target : GoodIn wsL_law wsX3_target := goodIn_r _ [334, 42, 304, 305, 306, 5, 307, 197, 540, 541, 542, 543, 544, 545, 546, 547, 548, 549] (by decide +kernel) (by decide +kernel)
set_option maxRecDepth 20000 in
theorem gL_law_X3_target : GoodIn wsL_law (wsV RL 85 RX3 yX3_target wsX3_target) := goodIn_app (goodIn_of _ (by decide +kernel)) ggL_law_X3_target
set_option maxRecDepth 20000 in
theorem ggL_law_X2_size : GoodIn wsL_law wsX2_size := goodIn_r _ [338, 16, 339, 129, 130, 15, 131, 27, 28, 122, 65, 66, 19, 67, 68, 532, 533, 534, 535, 536, 537, 538, 539, 550, 551, 552, 553, 554, 555, 556, 557, 558, 559, 560, 561] (by decide +kernel) (by decide +kernel)
set_option maxRecDepth 20000 in
theorem gL_law_X2_size : GoodIn wsL_law (wsV RL 86 RX2 yX2_size wsX2_size) := goodIn_app (goodIn_of _ (by decide +kernel)) ggL_law_X2_size
set_option maxRecDepth 20000 in
theorem ggL_law_X3_size : GoodIn wsL_law wsX3_size := goodIn_r _ [343, 42, 304, 305, 306, 5, 307, 197, 540, 541, 542, 543, 544, 545, 546, 547, 548, 549] (by decide +kernel) (by decide +kernel)
set_option maxRecDepth 20000 in
theorem gL_law_X3_size : GoodIn wsL_law (wsV RL 89 RX3 yX3_size wsX3_size) := goodIn_app (goodIn_of _ (by decide +kernel)) ggL_law_X3_size
set_option maxRecDepth 20000 in
theorem ggL_law_L_whereIs : GoodIn wsL_law wsL_whereIs := goodIn_ca (goodIn_r _ [346, 50, 347, 348, 349, 2, 350, 16, 55, 56, 57, 58, 59, 351, 96, 97, 15, 98, 27, 28, 29, 30, 99, 100, 101, 19, 102, 103, 104, 105, 106, 68, 37, 532, 533, 534, 535, 536, 537, 538, 539, 550, 551, 552, 553, 554, 555, 556, 557, 558, 559, 560, 561] (by decide +kernel) (by decide +kernel)) (goodIn_sub (fun _ h => List.mem_append_left _ (List.mem_append_right _ h)) (by decide +kernel))
set_option maxRecDepth 20000 in
theorem gL_law_L_whereIs : GoodIn wsL_law (va_wsS RL 90 yL_whereIs wsL_whereIs) := goodIn_app (goodIn_of _ (by decide +kernel)) ggL_law_L_whereIs
set_option maxRecDepth 20000 in
theorem ggL_law_X3_whereIs : GoodIn wsL_law wsX3_whereIs := goodIn_r _ [355, 42, 190, 191, 5, 192, 193, 194, 195, 196, 197, 201, 202, 203, 204, 205, 206, 207, 208, 209, 540, 541, 542, 543, 544, 545, 546, 547, 548, 549] (by decide +kernel) (by decide +kernel)
set_option maxRecDepth 20000 in
theorem gL_law_X3_whereIs : GoodIn wsL_law (wsV RL 92 RX3 yX3_whereIs wsX3_whereIs) := goodIn_app (goodIn_of _ (by decide +kernel)) ggL_law_X3_whereIs
set_option maxRecDepth 20000 in
theorem ggL_law_X2_victim : GoodIn wsL_law wsX2_victim := goodIn_r _ [359, 16, 360, 361, 362, 15, 363, 27, 28, 114, 115, 116, 117, 31, 29, 118, 119, 120, 121, 122, 65, 66, 19, 67, 68, 364, 365, 366, 367, 73, 74, 75, 76, 37, 136, 137, 138, 139, 128, 129, 130, 131, 144, 145, 146, 147, 148, 532, 533, 534, 535, 536, 537, 538, 539, 550, 551, 552, 553, 554, 555, 556, 557, 558, 559, 560, 561] (by decide +kernel) (by decide +kernel)
set_option maxRecDepth 20000 in
theorem gL_law_X2_victim : GoodIn wsL_law (wsV RL 93 RX2 yX2_victim wsX2_victim) := goodIn_app (goodIn_of _ (by decide +kernel)) ggL_law_X2_victim
set_option maxRecDepth 20000 in
theorem ggL_law_X3_victim : GoodIn wsL_law wsX3_victim := goodIn_r _ [371, 197, 42, 225, 226, 5, 227, 231, 232, 233, 207, 208, 209, 540, 541, 542, 543, 544, 545, 546, 547, 548, 549] (by decide +kernel) (by decide +kernel)
set_option maxRecDepth 20000 in
theorem gL_law_X3_victim : GoodIn wsL_law (wsV RL 96 RX3 yX3_victim wsX3_victim) := goodIn_app (goodIn_of _ (by decide +kernel)) ggL_law_X3_victim
set_option maxRecDepth 20000 in
theorem ggL_law_X2_recentSize : GoodIn wsL_law wsX2_recentSize := goodIn_r _ [375, 16, 64, 65, 66, 19, 67, 68, 532, 533, 534, 535, 536, 537, 538, 539, 550, 551, 552, 553, 554, 555, 556, 557, 558, 559, 560, 561] (by decide +kernel) (by decide +kernel)
set_option maxRecDepth 20000 in
theorem gL_law_X2_recentSize : GoodIn wsL_law (wsV RL 97 RX2 yX2_recentSize wsX2_recentSize) := goodIn_app (goodIn_of _ (by decide +kernel)) ggL_law_X2_recentSize
set_option maxRecDepth 20000 in
theorem ggL_law_X3_recentSize : GoodIn wsL_law wsX3_recentSize := goodIn_r _ [379, 42, 304, 305, 306, 5, 307, 197, 540, 541, 542, 543, 544, 545, 546, 547, 548, 549] (by decide +kernel) (by decide +kernel)
set_option maxRecDepth 20000 in
theorem gL_law_X3_recentSize : GoodIn wsL_law (wsV RL 100 RX3 yX3_recentSize wsX3_recentSize) := goodIn_app (goodIn_of _ (by decide +kernel)) ggL_law_X3_recentSize
set_option maxRecDepth 20000 in
theorem ggL_law_X2_frequentSize : GoodIn wsL_law wsX2_frequentSize := goodIn_r _ [383, 16, 64, 65, 66, 19, 67, 68, 532, 533, 534, 535, 536, 537, 538, 539, 550, 551, 552, 553, 554, 555, 556, 557, 558, 559, 560, 561] (by decide +kernel) (by decide +kernel)
set_option maxRecDepth 20000 in
theorem gL_law_X2_frequentSize : GoodIn wsL_law (wsV RL 101 RX2 yX2_frequentSize wsX2_frequentSize) := goodIn_app (goodIn_of _ (by decide +kernel)) ggL_law_X2_frequentSize
set_option maxRecDepth 20000 in
theorem ggL_law_X3_frequentSize : GoodIn wsL_law wsX3_frequentSize := goodIn_r _ [387, 42, 304, 305, 306, 5, 307, 197, 540, 541, 542, 543, 544, 545, 546, 547, 548, 549] (by decide +kernel) (by decide +kernel)
set_option maxRecDepth 20000 in
theorem gL_law_X3_frequentSize : GoodIn wsL_law (wsV RL 104 RX3 yX3_frequentSize wsX3_frequentSize) := goodIn_app (goodIn_of _ (by decide +kernel)) ggL_law_X3_frequentSize
set_option maxRecDepth 20000 in
theorem ggL_law_X2_recentGhosts : GoodIn wsL_law wsX2_recentGhosts := goodIn_r _ [391, 16, 64, 65, 66, 19, 67, 68, 532, 533, 534, 535, 536, 537, 538, 539, 550, 551, 552, 553, 554, 555, 556, 557, 558, 559, 560, 561] (by decide +kernel) (by decide +kernel)
set_option maxRecDepth 20000 in
theorem gL_law_X2_recentGhosts : GoodIn wsL_law (wsV RL 105 RX2 yX2_recentGhosts wsX2_recentGhosts) := goodIn_app (goodIn_of _ (by decide +kernel)) ggL_law_X2_recentGhosts
set_option maxRecDepth 20000 in
theorem ggL_law_X3_recentGhosts : GoodIn wsL_law wsX3_recentGhosts := goodIn_r _ [395, 42, 304, 305, 306, 5, 307, 197, 540, 541, 542, 543, 544, 545, 546, 547, 548, 549] (by decide +kernel) (by decide +kernel)
set_option maxRecDepth 20000 in
theorem gL_law_X3_recentGhosts : GoodIn wsL_law (wsV RL 108 RX3 yX3_recentGhosts wsX3_recentGhosts) := goodIn_app (goodIn_of _ (by decide +kernel)) ggL_law_X3_recentGhosts
set_option maxRecDepth 20000 in
theorem ggL_law_X2_frequentGhosts : GoodIn wsL_law wsX2_frequentGhosts := goodIn_r _ [399, 16, 64, 65, 66, 19, 67, 68, 532, 533, 534, 535, 536, 537, 538, 539, 550, 551, 552, 553, 554, 555, 556, 557, 558, 559, 560, 561] (by decide +kernel) (by decide +kernel)
set_option maxRecDepth 20000 in
theorem gL_law_X2_frequentGhosts : GoodIn wsL_law (wsV RL 109 RX2 yX2_frequentGhosts wsX2_frequentGhosts) := goodIn_app (goodIn_of _ (by decide +kernel)) ggL_law_X2_frequentGhosts
set_option maxRecDepth 20000 in
theorem ggL_law_X3_frequentGhosts : GoodIn wsL_law wsX3_frequentGhosts := goodIn_r _ [403, 42, 304, 305, 306, 5, 307, 197, 540, 541, 542, 543, 544, 545, 546, 547, 548, 549] (by decide +kernel) (by decide +kernel)
set_option maxRecDepth 20000 in
theorem gL_law_X3_frequentGhosts : GoodIn wsL_law (wsV RL 112 RX3 yX3_frequentGhosts wsX3_frequentGhosts) := goodIn_app (goodIn_of _ (by decide +kernel)) ggL_law_X3_frequentGhosts
set_option maxRecDepth 20000 in
theorem ggL_law_L_recentAt : GoodIn wsL_law wsL_recentAt := goodIn_ca (goodIn_r _ [406, 407, 408, 409, 410, 2, 411, 16, 412, 413, 414, 415, 416, 64, 65, 66, 19, 67, 68, 417, 418, 419, 420, 73, 74, 75, 76, 37, 532, 533, 534, 535, 536, 537, 538, 539, 550, 551, 552, 553, 554, 555, 556, 557, 558, 559, 560, 561] (by decide +kernel) (by decide +kernel)) (goodIn_sub (fun _ h => List.mem_append_right _ h) (by decide +kernel))
set_option maxRecDepth 20000 in
theorem gL_law_L_recentAt : GoodIn wsL_law (va_wsS RL 113 yL_recentAt wsL_recentAt) := goodIn_app (goodIn_of _ (by decide +kernel)) ggL_law_L_recentAt
set_option maxRecDepth 20000 in
theorem ggL_law_X3_recentAt : GoodIn wsL_law wsX3_recentAt := goodIn_r _ [424, 425, 426, 427, 5, 428, 42, 193, 194, 195, 196, 197, 207, 208, 209, 540, 541, 542, 543, 544, 545, 546, 547, 548, 549] (by decide +kernel) (by decide +kernel)
set_option maxRecDepth 20000 in
theorem gL_law_X3_recentAt : GoodIn wsL_law (wsV RL 115 RX3 yX3_recentAt wsX3_recentAt) := goodIn_app (goodIn_of _ (by decide +kernel)) ggL_law_X3_recentAt
set_option maxRecDepth 20000 in
theorem ggL_law_L_frequentAt : GoodIn wsL_law wsL_frequentAt := goodIn_ca (goodIn_r _ [431, 407, 432, 433, 434, 2, 435, 16, 412, 413, 414, 415, 416, 64, 65, 66, 19, 67, 68, 417, 418, 419, 420, 73, 74, 75, 76, 37, 532, 533, 534, 535, 536, 537, 538, 539, 550, 551, 552, 553, 554, 555, 556, 557, 558, 559, 560, 561] (by decide +kernel) (by decide +kernel)) (goodIn_sub (fun _ h => List.mem_append_right _ h) (by decide +kernel))
set_option maxRecDepth 20000 in
theorem gL_law_L_frequentAt : GoodIn wsL_law (va_wsS RL 116 yL_frequentAt wsL_frequentAt) := goodIn_app (goodIn_of _ (by decide +kernel)) ggL_law_L_frequentAt
set_option maxRecDepth 20000 in
theorem ggL_law_X3_frequentAt : GoodIn wsL_law wsX3_frequentAt := goodIn_r _ [439, 425, 426, 427, 5, 428, 42, 193, 194, 195, 196, 197, 207, 208, 209, 540, 541, 542, 543, 544, 545, 546, 547, 548, 549] (by decide +kernel) (by decide +kernel)
set_option maxRecDepth 20000 in
theorem gL_law_X3_frequentAt : GoodIn wsL_law (wsV RL 118 RX3 yX3_frequentAt wsX3_frequentAt) := goodIn_app (goodIn_of _ (by decide +kernel)) ggL_law_X3_frequentAt
set_option maxRecDepth 20000 in
theorem ggL_law_L_recentGhostAt : GoodIn wsL_law wsL_recentGhostAt := goodIn_ca (goodIn_r _ [442, 407, 443, 444, 445, 2, 446, 16, 412, 413, 414, 415, 416, 64, 65, 66, 19, 67, 68, 417, 418, 419, 420, 73, 74, 75, 76, 37, 532, 533, 534, 535, 536, 537, 538, 539, 550, 551, 552, 553, 554, 555, 556, 557, 558, 559, 560, 561] (by decide +kernel) (by decide +kernel)) (goodIn_sub (fun _ h => List.mem_append_right _ h) (by decide +kernel))
set_option maxRecDepth 20000 in
theorem gL_law_L_recentGhostAt : GoodIn wsL_law (va_wsS RL 119 yL_recentGhostAt wsL_recentGhostAt) := goodIn_app (goodIn_of _ (by decide +kernel)) ggL_law_L_recentGhostAt
set_option maxRecDepth 20000 in
theorem ggL_law_X3_recentGhostAt : GoodIn wsL_law wsX3_recentGhostAt := goodIn_r _ [450, 425, 426, 427, 5, 428, 42, 193, 194, 195, 196, 197, 207, 208, 209, 540, 541, 542, 543, 544, 545, 546, 547, 548, 549] (by decide +kernel) (by decide +kernel)
set_option maxRecDepth 20000 in
theorem gL_law_X3_recentGhostAt : GoodIn wsL_law (wsV RL 121 RX3 yX3_recentGhostAt wsX3_recentGhostAt) := goodIn_app (goodIn_of _ (by decide +kernel)) ggL_law_X3_recentGhostAt
set_option maxRecDepth 20000 in
theorem ggL_law_L_frequentGhostAt : GoodIn wsL_law wsL_frequentGhostAt := goodIn_ca (goodIn_r _ [453, 407, 454, 455, 456, 2, 457, 16, 412, 413, 414, 415, 416, 64, 65, 66, 19, 67, 68, 417, 418, 419, 420, 73, 74, 75, 76, 37, 532, 533, 534, 535, 536, 537, 538, 539, 550, 551, 552, 553, 554, 555, 556, 557, 558, 559, 560, 561] (by decide +kernel) (by decide +kernel)) (goodIn_sub (fun _ h => List.mem_append_right _ h) (by decide +kernel))
set_option maxRecDepth 20000 in
theorem gL_law_L_frequentGhostAt : GoodIn wsL_law (va_wsS RL 122 yL_frequentGhostAt wsL_frequentGhostAt) := goodIn_app (goodIn_of _ (by decide +kernel)) ggL_law_L_frequentGhostAt
set_option maxRecDepth 20000 in
theorem ggL_law_X3_frequentGhostAt : GoodIn wsL_law wsX3_frequentGhostAt := goodIn_r _ [461, 425, 426, 427, 5, 428, 42, 193, 194, 195, 196, 197, 207, 208, 209, 540, 541, 542, 543, 544, 545, 546, 547, 548, 549] (by decide +kernel) (by decide +kernel)
set_option maxRecDepth 20000 in
theorem gL_law_X3_frequentGhostAt : GoodIn wsL_law (wsV RL 124 RX3 yX3_frequentGhostAt wsX3_frequentGhostAt) := goodIn_app (goodIn_of _ (by decide +kernel)) ggL_law_X3_frequentGhostAt
set_option maxRecDepth 20000 in
theorem ggL_law_X2_requests : GoodIn wsL_law wsX2_requests := goodIn_r _ [465, 176, 532, 533, 534, 535, 536, 537, 538, 539] (by decide +kernel) (by decide +kernel)
set_option maxRecDepth 20000 in
theorem gL_law_X2_requests : GoodIn wsL_law (wsV RL 125 RX2 yX2_requests wsX2_requests) := goodIn_app (goodIn_of _ (by decide +kernel)) ggL_law_X2_requests
set_option maxRecDepth 20000 in
theorem ggL_law_X3_requests : GoodIn wsL_law wsX3_requests := goodIn_r _ [469, 185, 304, 305, 306, 5, 307, 197, 540, 541, 542, 543, 544, 545, 546, 547, 548, 549] (by decide +kernel) (by decide +kernel)
set_option maxRecDepth 20000 in
theorem gL_law_X3_requests : GoodIn wsL_law (wsV RL 128 RX3 yX3_requests wsX3_requests) := goodIn_app (goodIn_of _ (by decide +kernel)) ggL_law_X3_requests
set_option maxRecDepth 20000 in
theorem ggL_law_X2_hits : GoodIn wsL_law wsX2_hits := goodIn_r _ [473, 177, 532, 533, 534, 535, 536, 537, 538, 539] (by decide +kernel) (by decide +kernel)
set_option maxRecDepth 20000 in
theorem gL_law_X2_hits : GoodIn wsL_law (wsV RL 129 RX2 yX2_hits wsX2_hits) := goodIn_app (goodIn_of _ (by decide +kernel)) ggL_law_X2_hits
set_option maxRecDepth 20000 in
theorem ggL_law_X3_hits : GoodIn wsL_law wsX3_hits := goodIn_r _ [477, 186, 304, 305, 306, 5, 307, 197, 540, 541, 542, 543, 544, 545, 546, 547, 548, 549] (by decide +kernel) (by decide +kernel)
set_option maxRecDepth 20000 in
theorem gL_law_X3_hits : GoodIn wsL_law (wsV RL 132 RX3 yX3_hits wsX3_hits) := goodIn_app (goodIn_of _ (by decide +kernel)) ggL_law_X3_hits
set_option maxRecDepth 20000 in
theorem ggL_law_X2_ghostHits : GoodIn wsL_law wsX2_ghostHits := goodIn_r _ [481, 178, 532, 533, 534, 535, 536, 537, 538, 539] (by decide +kernel) (by decide +kernel)
set_option maxRecDepth 20000 in
theorem gL_law_X2_ghostHits : GoodIn wsL_law (wsV RL 133 RX2 yX2_ghostHits wsX2_ghostHits) := goodIn_app (goodIn_of _ (by decide +kernel)) ggL_law_X2_ghostHits
set_option maxRecDepth 20000 in
theorem ggL_law_X3_ghostHits : GoodIn wsL_law wsX3_ghostHits := goodIn_r _ [485, 187, 304, 305, 306, 5, 307, 197, 540, 541, 542, 543, 544, 545, 546, 547, 548, 549] (by decide +kernel) (by decide +kernel)
set_option maxRecDepth 20000 in
theorem gL_law_X3_ghostHits : GoodIn wsL_law (wsV RL 136 RX3 yX3_ghostHits wsX3_ghostHits) := goodIn_app (goodIn_of _ (by decide +kernel)) ggL_law_X3_ghostHits
set_option maxRecDepth 20000 in
theorem ggL_law_X2_bypassed : GoodIn wsL_law wsX2_bypassed := goodIn_r _ [489, 179, 532, 533, 534, 535, 536, 537, 538, 539] (by decide +kernel) (by decide +kernel)
set_option maxRecDepth 20000 in
theorem gL_law_X2_bypassed : GoodIn wsL_law (wsV RL 137 RX2 yX2_bypassed wsX2_bypassed) := goodIn_app (goodIn_of _ (by decide +kernel)) ggL_law_X2_bypassed
set_option maxRecDepth 20000 in
theorem ggL_law_X3_bypassed : GoodIn wsL_law wsX3_bypassed := goodIn_r _ [493, 188, 304, 305, 306, 5, 307, 197, 540, 541, 542, 543, 544, 545, 546, 547, 548, 549] (by decide +kernel) (by decide +kernel)
set_option maxRecDepth 20000 in
theorem gL_law_X3_bypassed : GoodIn wsL_law (wsV RL 140 RX3 yX3_bypassed wsX3_bypassed) := goodIn_app (goodIn_of _ (by decide +kernel)) ggL_law_X3_bypassed
set_option maxRecDepth 20000 in
theorem ggL_law_X2_evictions : GoodIn wsL_law wsX2_evictions := goodIn_r _ [497, 16, 532, 533, 534, 535, 536, 537, 538, 539, 550, 551, 552, 553, 554, 555, 556, 557, 558, 559] (by decide +kernel) (by decide +kernel)
set_option maxRecDepth 20000 in
theorem gL_law_X2_evictions : GoodIn wsL_law (wsV RL 141 RX2 yX2_evictions wsX2_evictions) := goodIn_app (goodIn_of _ (by decide +kernel)) ggL_law_X2_evictions
set_option maxRecDepth 20000 in
theorem ggL_law_X3_evictions : GoodIn wsL_law wsX3_evictions := goodIn_r _ [501, 42, 304, 305, 306, 5, 307, 197, 540, 541, 542, 543, 544, 545, 546, 547, 548, 549] (by decide +kernel) (by decide +kernel)
set_option maxRecDepth 20000 in
theorem gL_law_X3_evictions : GoodIn wsL_law (wsV RL 144 RX3 yX3_evictions wsX3_evictions) := goodIn_app (goodIn_of _ (by decide +kernel)) ggL_law_X3_evictions
set_option maxRecDepth 20000 in
theorem ggL_law_L_hitsIf : GoodIn wsL_law wsL_hitsIf := goodIn_ca (goodIn_r _ [504, 50, 505, 506, 507, 2, 508, 21, 16, 20, 282, 283, 284, 58, 59, 509, 510, 511, 15, 512, 31, 89, 90, 32, 113, 513, 264, 265, 266, 27, 28, 29, 30, 148, 128, 129, 130, 131, 122, 65, 66, 19, 67, 68, 267, 268, 269, 270, 64, 514, 74, 75, 76, 37, 85, 86, 87, 88, 91, 92, 93, 94, 95, 96, 97, 98, 99, 100, 101, 102, 103, 104, 105, 106, 107, 108, 109, 110, 111, 112, 114, 115, 116, 117, 118, 119, 120, 121, 123, 70, 71, 72, 73, 77, 78, 79, 80, 124, 125, 126, 127, 132, 133, 134, 135, 136, 137, 138, 139, 140, 141, 142, 143, 144, 145, 146, 147, 149, 82, 83, 84, 150, 151, 152, 153, 154, 155, 156, 157, 158, 159, 160, 161, 162, 163, 164, 165, 166, 167, 168, 169, 170, 171, 180, 532, 533, 534, 535, 536, 537, 538, 539, 550, 551, 552, 553, 554, 555, 556, 557, 558, 559, 560, 561] (by decide +kernel) (by decide +kernel)) (goodIn_sub (fun _ h => List.mem_append_left _ (List.mem_append_right _ h)) (by decide +kernel))
set_option maxRecDepth 20000 in
theorem gL_law_L_hitsIf : GoodIn wsL_law (va_wsS RL 145 yL_hitsIf wsL_hitsIf) := goodIn_app (goodIn_of _ (by decide +kernel)) ggL_law_L_hitsIf
set_option maxRecDepth 20000 in
theorem ggL_law_X3_hitsIf : GoodIn wsL_law wsX3_hitsIf := goodIn_r _ [518, 43, 42, 189, 44, 293, 294, 5, 295, 193, 194, 195, 196, 197, 198, 199, 200, 201, 202, 203, 204, 205, 206, 207, 208, 209, 210, 211, 212, 213, 214, 215, 216, 217, 218, 219, 220, 221, 222, 223, 224, 225, 226, 227, 228, 229, 230, 231, 232, 233, 234, 235, 236, 237, 238, 239, 540, 541, 542, 543, 544, 545, 546, 547, 548, 549] (by decide +kernel) (by decide +kernel)
set_option maxRecDepth 20000 in
theorem gL_law_X3_hitsIf : GoodIn wsL_law (wsV RL 147 RX3 yX3_hitsIf wsX3_hitsIf) := goodIn_app (goodIn_of _ (by decide +kernel)) ggL_law_X3_hitsIf
set_option maxRecDepth 20000 in
theorem ggL_law_L_leastRecentHitsIf : GoodIn wsL_law wsL_leastRecentHitsIf := goodIn_ca (goodIn_r _ [521, 50, 522, 523, 524, 2, 525, 22, 20, 282, 283, 284, 58, 59, 526, 268, 269, 19, 270, 68, 64, 65, 66, 67, 514, 74, 75, 76, 37, 527, 169, 170, 171, 103, 104, 105, 106, 77, 78, 79, 80, 69, 70, 71, 72, 73, 81, 82, 83, 84, 532, 533, 534, 535, 536, 537, 538, 539, 560, 561] (by decide +kernel) (by decide +kernel)) (goodIn_sub (fun _ h => List.mem_append_left _ (List.mem_append_right _ h)) (by decide +kernel))
set_option maxRecDepth 20000 in
theorem gL_law_L_leastRecentHitsIf : GoodIn wsL_law (va_wsS RL 148 yL_leastRecentHitsIf wsL_leastRecentHitsIf) := goodIn_app (goodIn_of _ (by decide +kernel)) ggL_law_L_leastRecentHitsIf
set_option maxRecDepth 20000 in
theorem ggL_law_X3_leastRecentHitsIf : GoodIn wsL_law wsX3_leastRecentHitsIf := goodIn_r _ [531, 189, 45, 44, 293, 294, 5, 295, 193, 194, 195, 196, 197, 540, 541, 542, 543, 544, 545, 546, 547, 548, 549] (by decide +kernel) (by decide +kernel)
set_option maxRecDepth 20000 in
theorem gL_law_X3_leastRecentHitsIf : GoodIn wsL_law (wsV RL 150 RX3 yX3_leastRecentHitsIf wsX3_leastRecentHitsIf) := goodIn_app (goodIn_of _ (by decide +kernel)) ggL_law_X3_leastRecentHitsIf
theorem dL_law_0 : decode cL_law 0 = .ok (.new 8, 3) := by decide +kernel
theorem dL_law_3 : decode cL_law 3 = .ok (.dup, 1) := by decide +kernel
theorem dL_law_4 : decode cL_law 4 = .ok (.invokespecial 47, 3) := by decide +kernel
theorem dL_law_7 : decode cL_law 7 = .ok (.astore_n 1, 1) := by decide +kernel
theorem dL_law_8 : decode cL_law 8 = .ok (.new 48, 3) := by decide +kernel
theorem dL_law_11 : decode cL_law 11 = .ok (.dup, 1) := by decide +kernel
theorem dL_law_12 : decode cL_law 12 = .ok (.invokespecial 50, 3) := by decide +kernel
theorem dL_law_15 : decode cL_law 15 = .ok (.astore_n 2, 1) := by decide +kernel
theorem dL_law_16 : decode cL_law 16 = .ok (.iconst 1, 1) := by decide +kernel
theorem dL_law_17 : decode cL_law 17 = .ok (.newarray .long, 2) := by decide +kernel
theorem dL_law_19 : decode cL_law 19 = .ok (.astore_n 3, 1) := by decide +kernel
theorem dL_law_20 : decode cL_law 20 = .ok (.iconst 0, 1) := by decide +kernel
theorem dL_law_21 : decode cL_law 21 = .ok (.istore 4, 2) := by decide +kernel
theorem dL_law_23 : decode cL_law 23 = .ok (.iload 4, 2) := by decide +kernel
theorem dL_law_25 : decode cL_law 25 = .ok (.aload_n 0, 1) := by decide +kernel
theorem dL_law_26 : decode cL_law 26 = .ok (.arraylength, 1) := by decide +kernel
theorem dL_law_27 : decode cL_law 27 = .ok (.iconst 2, 1) := by decide +kernel
theorem dL_law_28 : decode cL_law 28 = .ok (.isub, 1) := by decide +kernel
theorem dL_law_29 : decode cL_law 29 = .ok (.if_icmp .gt 944, 3) := by decide +kernel
theorem dL_law_32 : decode cL_law 32 = .ok (.aload_n 0, 1) := by decide +kernel
theorem dL_law_33 : decode cL_law 33 = .ok (.iload 4, 2) := by decide +kernel
theorem dL_law_35 : decode cL_law 35 = .ok (.iaload, 1) := by decide +kernel
theorem dL_law_36 : decode cL_law 36 = .ok (.bipush 31, 2) := by decide +kernel
theorem dL_law_38 : decode cL_law 38 = .ok (.iand, 1) := by decide +kernel
theorem dL_law_39 : decode cL_law 39 = .ok (.tableswitch 928 0 25 #[117, 173, 229, 242, 298, 311, 367, 380, 393, 406, 462, 475, 488, 501, 514, 527, 583, 639, 695, 751, 764, 777, 790, 803, 816, 872], 117) := by decide +kernel
theorem dL_law_156 : decode cL_law 156 = .ok (.aload_n 1, 1) := by decide +kernel
theorem dL_law_157 : decode cL_law 157 = .ok (.aload_n 0, 1) := by decide +kernel
theorem dL_law_158 : decode cL_law 158 = .ok (.iload 4, 2) := by decide +kernel
theorem dL_law_160 : decode cL_law 160 = .ok (.iconst 1, 1) := by decide +kernel
theorem dL_law_161 : decode cL_law 161 = .ok (.iadd, 1) := by decide +kernel
theorem dL_law_162 : decode cL_law 162 = .ok (.iaload, 1) := by decide +kernel
theorem dL_law_163 : decode cL_law 163 = .ok (.aload_n 3, 1) := by decide +kernel
theorem dL_law_164 : decode cL_law 164 = .ok (.invokestatic 51, 3) := by decide +kernel
theorem dL_law_167 : decode cL_law 167 = .ok (.istore 5, 2) := by decide +kernel
theorem dL_law_169 : decode cL_law 169 = .ok (.aload_n 2, 1) := by decide +kernel
theorem dL_law_170 : decode cL_law 170 = .ok (.aload_n 0, 1) := by decide +kernel
theorem dL_law_171 : decode cL_law 171 = .ok (.iload 4, 2) := by decide +kernel
theorem dL_law_173 : decode cL_law 173 = .ok (.iconst 1, 1) := by decide +kernel
theorem dL_law_174 : decode cL_law 174 = .ok (.iadd, 1) := by decide +kernel
theorem dL_law_175 : decode cL_law 175 = .ok (.iaload, 1) := by decide +kernel
theorem dL_law_176 : decode cL_law 176 = .ok (.invokevirtual 56, 3) := by decide +kernel
theorem dL_law_179 : decode cL_law 179 = .ok (.istore 6, 2) := by decide +kernel
theorem dL_law_181 : decode cL_law 181 = .ok (.aload_n 2, 1) := by decide +kernel
theorem dL_law_182 : decode cL_law 182 = .ok (.invokevirtual 57, 3) := by decide +kernel
theorem dL_law_185 : decode cL_law 185 = .ok (.iload 5, 2) := by decide +kernel
theorem dL_law_187 : decode cL_law 187 = .ok (.if_icmp .eq 5, 3) := by decide +kernel
theorem dL_law_190 : decode cL_law 190 = .ok (.iconst 0, 1) := by decide +kernel
theorem dL_law_191 : decode cL_law 191 = .ok (.ireturn, 1) := by decide +kernel
theorem dL_law_192 : decode cL_law 192 = .ok (.iload 5, 2) := by decide +kernel
theorem dL_law_194 : decode cL_law 194 = .ok (.ifCond .ne 15, 3) := by decide +kernel
theorem dL_law_197 : decode cL_law 197 = .ok (.aload_n 3, 1) := by decide +kernel
theorem dL_law_198 : decode cL_law 198 = .ok (.iconst 0, 1) := by decide +kernel
theorem dL_law_199 : decode cL_law 199 = .ok (.laload, 1) := by decide +kernel
theorem dL_law_200 : decode cL_law 200 = .ok (.iload 6, 2) := by decide +kernel
theorem dL_law_202 : decode cL_law 202 = .ok (.i2l, 1) := by decide +kernel
theorem dL_law_203 : decode cL_law 203 = .ok (.lcmp, 1) := by decide +kernel
theorem dL_law_204 : decode cL_law 204 = .ok (.ifCond .eq 5, 3) := by decide +kernel
theorem dL_law_207 : decode cL_law 207 = .ok (.iconst 0, 1) := by decide +kernel
theorem dL_law_208 : decode cL_law 208 = .ok (.ireturn, 1) := by decide +kernel
theorem dL_law_209 : decode cL_law 209 = .ok (.goto 758, 3) := by decide +kernel
theorem dL_law_212 : decode cL_law 212 = .ok (.aload_n 1, 1) := by decide +kernel
theorem dL_law_213 : decode cL_law 213 = .ok (.aload_n 0, 1) := by decide +kernel
theorem dL_law_214 : decode cL_law 214 = .ok (.iload 4, 2) := by decide +kernel
theorem dL_law_216 : decode cL_law 216 = .ok (.iconst 1, 1) := by decide +kernel
theorem dL_law_217 : decode cL_law 217 = .ok (.iadd, 1) := by decide +kernel
theorem dL_law_218 : decode cL_law 218 = .ok (.iaload, 1) := by decide +kernel
theorem dL_law_219 : decode cL_law 219 = .ok (.aload_n 3, 1) := by decide +kernel
theorem dL_law_220 : decode cL_law 220 = .ok (.invokestatic 61, 3) := by decide +kernel
theorem dL_law_223 : decode cL_law 223 = .ok (.istore 5, 2) := by decide +kernel
theorem dL_law_225 : decode cL_law 225 = .ok (.aload_n 2, 1) := by decide +kernel
theorem dL_law_226 : decode cL_law 226 = .ok (.aload_n 0, 1) := by decide +kernel
theorem dL_law_227 : decode cL_law 227 = .ok (.iload 4, 2) := by decide +kernel
theorem dL_law_229 : decode cL_law 229 = .ok (.iconst 1, 1) := by decide +kernel
theorem dL_law_230 : decode cL_law 230 = .ok (.iadd, 1) := by decide +kernel
theorem dL_law_231 : decode cL_law 231 = .ok (.iaload, 1) := by decide +kernel
theorem dL_law_232 : decode cL_law 232 = .ok (.invokevirtual 63, 3) := by decide +kernel
theorem dL_law_235 : decode cL_law 235 = .ok (.istore 6, 2) := by decide +kernel
theorem dL_law_237 : decode cL_law 237 = .ok (.aload_n 2, 1) := by decide +kernel
theorem dL_law_238 : decode cL_law 238 = .ok (.invokevirtual 57, 3) := by decide +kernel
theorem dL_law_241 : decode cL_law 241 = .ok (.iload 5, 2) := by decide +kernel
theorem dL_law_243 : decode cL_law 243 = .ok (.if_icmp .eq 5, 3) := by decide +kernel
theorem dL_law_246 : decode cL_law 246 = .ok (.iconst 0, 1) := by decide +kernel
theorem dL_law_247 : decode cL_law 247 = .ok (.ireturn, 1) := by decide +kernel
theorem dL_law_248 : decode cL_law 248 = .ok (.iload 5, 2) := by decide +kernel
theorem dL_law_250 : decode cL_law 250 = .ok (.ifCond .ne 15, 3) := by decide +kernel
theorem dL_law_253 : decode cL_law 253 = .ok (.aload_n 3, 1) := by decide +kernel
theorem dL_law_254 : decode cL_law 254 = .ok (.iconst 0, 1) := by decide +kernel
theorem dL_law_255 : decode cL_law 255 = .ok (.laload, 1) := by decide +kernel
theorem dL_law_256 : decode cL_law 256 = .ok (.iload 6, 2) := by decide +kernel
theorem dL_law_258 : decode cL_law 258 = .ok (.i2l, 1) := by decide +kernel
theorem dL_law_259 : decode cL_law 259 = .ok (.lcmp, 1) := by decide +kernel
theorem dL_law_260 : decode cL_law 260 = .ok (.ifCond .eq 5, 3) := by decide +kernel
theorem dL_law_263 : decode cL_law 263 = .ok (.iconst 0, 1) := by decide +kernel
theorem dL_law_264 : decode cL_law 264 = .ok (.ireturn, 1) := by decide +kernel
theorem dL_law_265 : decode cL_law 265 = .ok (.goto 702, 3) := by decide +kernel
theorem dL_law_268 : decode cL_law 268 = .ok (.aload_n 1, 1) := by decide +kernel
theorem dL_law_269 : decode cL_law 269 = .ok (.invokevirtual 64, 3) := by decide +kernel
theorem dL_law_272 : decode cL_law 272 = .ok (.aload_n 2, 1) := by decide +kernel
theorem dL_law_273 : decode cL_law 273 = .ok (.invokevirtual 67, 3) := by decide +kernel
theorem dL_law_276 : decode cL_law 276 = .ok (.if_icmp .eq 691, 3) := by decide +kernel
theorem dL_law_279 : decode cL_law 279 = .ok (.iconst 0, 1) := by decide +kernel
theorem dL_law_280 : decode cL_law 280 = .ok (.ireturn, 1) := by decide +kernel
theorem dL_law_281 : decode cL_law 281 = .ok (.aload_n 1, 1) := by decide +kernel
theorem dL_law_282 : decode cL_law 282 = .ok (.aload_n 0, 1) := by decide +kernel
theorem dL_law_283 : decode cL_law 283 = .ok (.iload 4, 2) := by decide +kernel
theorem dL_law_285 : decode cL_law 285 = .ok (.iconst 1, 1) := by decide +kernel
theorem dL_law_286 : decode cL_law 286 = .ok (.iadd, 1) := by decide +kernel
theorem dL_law_287 : decode cL_law 287 = .ok (.iaload, 1) := by decide +kernel
theorem dL_law_288 : decode cL_law 288 = .ok (.aload_n 3, 1) := by decide +kernel
theorem dL_law_289 : decode cL_law 289 = .ok (.invokestatic 68, 3) := by decide +kernel
theorem dL_law_292 : decode cL_law 292 = .ok (.istore 5, 2) := by decide +kernel
theorem dL_law_294 : decode cL_law 294 = .ok (.aload_n 2, 1) := by decide +kernel
theorem dL_law_295 : decode cL_law 295 = .ok (.aload_n 0, 1) := by decide +kernel
theorem dL_law_296 : decode cL_law 296 = .ok (.iload 4, 2) := by decide +kernel
theorem dL_law_298 : decode cL_law 298 = .ok (.iconst 1, 1) := by decide +kernel
theorem dL_law_299 : decode cL_law 299 = .ok (.iadd, 1) := by decide +kernel
theorem dL_law_300 : decode cL_law 300 = .ok (.iaload, 1) := by decide +kernel
theorem dL_law_301 : decode cL_law 301 = .ok (.invokevirtual 70, 3) := by decide +kernel
theorem dL_law_304 : decode cL_law 304 = .ok (.istore 6, 2) := by decide +kernel
theorem dL_law_306 : decode cL_law 306 = .ok (.aload_n 2, 1) := by decide +kernel
theorem dL_law_307 : decode cL_law 307 = .ok (.invokevirtual 57, 3) := by decide +kernel
theorem dL_law_310 : decode cL_law 310 = .ok (.iload 5, 2) := by decide +kernel
theorem dL_law_312 : decode cL_law 312 = .ok (.if_icmp .eq 5, 3) := by decide +kernel
theorem dL_law_315 : decode cL_law 315 = .ok (.iconst 0, 1) := by decide +kernel
theorem dL_law_316 : decode cL_law 316 = .ok (.ireturn, 1) := by decide +kernel
theorem dL_law_317 : decode cL_law 317 = .ok (.iload 5, 2) := by decide +kernel
theorem dL_law_319 : decode cL_law 319 = .ok (.ifCond .ne 15, 3) := by decide +kernel
theorem dL_law_322 : decode cL_law 322 = .ok (.aload_n 3, 1) := by decide +kernel
theorem dL_law_323 : decode cL_law 323 = .ok (.iconst 0, 1) := by decide +kernel
theorem dL_law_324 : decode cL_law 324 = .ok (.laload, 1) := by decide +kernel
theorem dL_law_325 : decode cL_law 325 = .ok (.iload 6, 2) := by decide +kernel
theorem dL_law_327 : decode cL_law 327 = .ok (.i2l, 1) := by decide +kernel
theorem dL_law_328 : decode cL_law 328 = .ok (.lcmp, 1) := by decide +kernel
theorem dL_law_329 : decode cL_law 329 = .ok (.ifCond .eq 5, 3) := by decide +kernel
theorem dL_law_332 : decode cL_law 332 = .ok (.iconst 0, 1) := by decide +kernel
theorem dL_law_333 : decode cL_law 333 = .ok (.ireturn, 1) := by decide +kernel
theorem dL_law_334 : decode cL_law 334 = .ok (.goto 633, 3) := by decide +kernel
theorem dL_law_337 : decode cL_law 337 = .ok (.aload_n 1, 1) := by decide +kernel
theorem dL_law_338 : decode cL_law 338 = .ok (.invokevirtual 71, 3) := by decide +kernel
theorem dL_law_341 : decode cL_law 341 = .ok (.aload_n 2, 1) := by decide +kernel
theorem dL_law_342 : decode cL_law 342 = .ok (.invokevirtual 74, 3) := by decide +kernel
theorem dL_law_345 : decode cL_law 345 = .ok (.if_icmp .eq 622, 3) := by decide +kernel
theorem dL_law_348 : decode cL_law 348 = .ok (.iconst 0, 1) := by decide +kernel
theorem dL_law_349 : decode cL_law 349 = .ok (.ireturn, 1) := by decide +kernel
theorem dL_law_350 : decode cL_law 350 = .ok (.aload_n 1, 1) := by decide +kernel
theorem dL_law_351 : decode cL_law 351 = .ok (.aload_n 0, 1) := by decide +kernel
theorem dL_law_352 : decode cL_law 352 = .ok (.iload 4, 2) := by decide +kernel
theorem dL_law_354 : decode cL_law 354 = .ok (.iconst 1, 1) := by decide +kernel
theorem dL_law_355 : decode cL_law 355 = .ok (.iadd, 1) := by decide +kernel
theorem dL_law_356 : decode cL_law 356 = .ok (.iaload, 1) := by decide +kernel
theorem dL_law_357 : decode cL_law 357 = .ok (.aload_n 3, 1) := by decide +kernel
theorem dL_law_358 : decode cL_law 358 = .ok (.invokestatic 75, 3) := by decide +kernel
theorem dL_law_361 : decode cL_law 361 = .ok (.istore 5, 2) := by decide +kernel
theorem dL_law_363 : decode cL_law 363 = .ok (.aload_n 2, 1) := by decide +kernel
theorem dL_law_364 : decode cL_law 364 = .ok (.aload_n 0, 1) := by decide +kernel
theorem dL_law_365 : decode cL_law 365 = .ok (.iload 4, 2) := by decide +kernel
theorem dL_law_367 : decode cL_law 367 = .ok (.iconst 1, 1) := by decide +kernel
theorem dL_law_368 : decode cL_law 368 = .ok (.iadd, 1) := by decide +kernel
theorem dL_law_369 : decode cL_law 369 = .ok (.iaload, 1) := by decide +kernel
theorem dL_law_370 : decode cL_law 370 = .ok (.invokevirtual 77, 3) := by decide +kernel
theorem dL_law_373 : decode cL_law 373 = .ok (.istore 6, 2) := by decide +kernel
theorem dL_law_375 : decode cL_law 375 = .ok (.aload_n 2, 1) := by decide +kernel
theorem dL_law_376 : decode cL_law 376 = .ok (.invokevirtual 57, 3) := by decide +kernel
theorem dL_law_379 : decode cL_law 379 = .ok (.iload 5, 2) := by decide +kernel
theorem dL_law_381 : decode cL_law 381 = .ok (.if_icmp .eq 5, 3) := by decide +kernel
theorem dL_law_384 : decode cL_law 384 = .ok (.iconst 0, 1) := by decide +kernel
theorem dL_law_385 : decode cL_law 385 = .ok (.ireturn, 1) := by decide +kernel
theorem dL_law_386 : decode cL_law 386 = .ok (.iload 5, 2) := by decide +kernel
theorem dL_law_388 : decode cL_law 388 = .ok (.ifCond .ne 15, 3) := by decide +kernel
theorem dL_law_391 : decode cL_law 391 = .ok (.aload_n 3, 1) := by decide +kernel
theorem dL_law_392 : decode cL_law 392 = .ok (.iconst 0, 1) := by decide +kernel
theorem dL_law_393 : decode cL_law 393 = .ok (.laload, 1) := by decide +kernel
theorem dL_law_394 : decode cL_law 394 = .ok (.iload 6, 2) := by decide +kernel
theorem dL_law_396 : decode cL_law 396 = .ok (.i2l, 1) := by decide +kernel
theorem dL_law_397 : decode cL_law 397 = .ok (.lcmp, 1) := by decide +kernel
theorem dL_law_398 : decode cL_law 398 = .ok (.ifCond .eq 5, 3) := by decide +kernel
theorem dL_law_401 : decode cL_law 401 = .ok (.iconst 0, 1) := by decide +kernel
theorem dL_law_402 : decode cL_law 402 = .ok (.ireturn, 1) := by decide +kernel
theorem dL_law_403 : decode cL_law 403 = .ok (.goto 564, 3) := by decide +kernel
theorem dL_law_406 : decode cL_law 406 = .ok (.aload_n 1, 1) := by decide +kernel
theorem dL_law_407 : decode cL_law 407 = .ok (.invokevirtual 78, 3) := by decide +kernel
theorem dL_law_410 : decode cL_law 410 = .ok (.aload_n 2, 1) := by decide +kernel
theorem dL_law_411 : decode cL_law 411 = .ok (.invokevirtual 81, 3) := by decide +kernel
theorem dL_law_414 : decode cL_law 414 = .ok (.if_icmp .eq 553, 3) := by decide +kernel
theorem dL_law_417 : decode cL_law 417 = .ok (.iconst 0, 1) := by decide +kernel
theorem dL_law_418 : decode cL_law 418 = .ok (.ireturn, 1) := by decide +kernel
theorem dL_law_419 : decode cL_law 419 = .ok (.aload_n 1, 1) := by decide +kernel
theorem dL_law_420 : decode cL_law 420 = .ok (.invokevirtual 82, 3) := by decide +kernel
theorem dL_law_423 : decode cL_law 423 = .ok (.aload_n 2, 1) := by decide +kernel
theorem dL_law_424 : decode cL_law 424 = .ok (.invokevirtual 85, 3) := by decide +kernel
theorem dL_law_427 : decode cL_law 427 = .ok (.if_icmp .eq 540, 3) := by decide +kernel
theorem dL_law_430 : decode cL_law 430 = .ok (.iconst 0, 1) := by decide +kernel
theorem dL_law_431 : decode cL_law 431 = .ok (.ireturn, 1) := by decide +kernel
theorem dL_law_432 : decode cL_law 432 = .ok (.aload_n 1, 1) := by decide +kernel
theorem dL_law_433 : decode cL_law 433 = .ok (.invokevirtual 86, 3) := by decide +kernel
theorem dL_law_436 : decode cL_law 436 = .ok (.aload_n 2, 1) := by decide +kernel
theorem dL_law_437 : decode cL_law 437 = .ok (.invokevirtual 89, 3) := by decide +kernel
theorem dL_law_440 : decode cL_law 440 = .ok (.if_icmp .eq 527, 3) := by decide +kernel
theorem dL_law_443 : decode cL_law 443 = .ok (.iconst 0, 1) := by decide +kernel
theorem dL_law_444 : decode cL_law 444 = .ok (.ireturn, 1) := by decide +kernel
theorem dL_law_445 : decode cL_law 445 = .ok (.aload_n 1, 1) := by decide +kernel
theorem dL_law_446 : decode cL_law 446 = .ok (.aload_n 0, 1) := by decide +kernel
theorem dL_law_447 : decode cL_law 447 = .ok (.iload 4, 2) := by decide +kernel
theorem dL_law_449 : decode cL_law 449 = .ok (.iconst 1, 1) := by decide +kernel
theorem dL_law_450 : decode cL_law 450 = .ok (.iadd, 1) := by decide +kernel
theorem dL_law_451 : decode cL_law 451 = .ok (.iaload, 1) := by decide +kernel
theorem dL_law_452 : decode cL_law 452 = .ok (.aload_n 3, 1) := by decide +kernel
theorem dL_law_453 : decode cL_law 453 = .ok (.invokestatic 90, 3) := by decide +kernel
theorem dL_law_456 : decode cL_law 456 = .ok (.istore 5, 2) := by decide +kernel
theorem dL_law_458 : decode cL_law 458 = .ok (.aload_n 2, 1) := by decide +kernel
theorem dL_law_459 : decode cL_law 459 = .ok (.aload_n 0, 1) := by decide +kernel
theorem dL_law_460 : decode cL_law 460 = .ok (.iload 4, 2) := by decide +kernel
theorem dL_law_462 : decode cL_law 462 = .ok (.iconst 1, 1) := by decide +kernel
theorem dL_law_463 : decode cL_law 463 = .ok (.iadd, 1) := by decide +kernel
theorem dL_law_464 : decode cL_law 464 = .ok (.iaload, 1) := by decide +kernel
theorem dL_law_465 : decode cL_law 465 = .ok (.invokevirtual 92, 3) := by decide +kernel
theorem dL_law_468 : decode cL_law 468 = .ok (.istore 6, 2) := by decide +kernel
theorem dL_law_470 : decode cL_law 470 = .ok (.aload_n 2, 1) := by decide +kernel
theorem dL_law_471 : decode cL_law 471 = .ok (.invokevirtual 57, 3) := by decide +kernel
theorem dL_law_474 : decode cL_law 474 = .ok (.iload 5, 2) := by decide +kernel
theorem dL_law_476 : decode cL_law 476 = .ok (.if_icmp .eq 5, 3) := by decide +kernel
theorem dL_law_479 : decode cL_law 479 = .ok (.iconst 0, 1) := by decide +kernel
theorem dL_law_480 : decode cL_law 480 = .ok (.ireturn, 1) := by decide +kernel
theorem dL_law_481 : decode cL_law 481 = .ok (.iload 5, 2) := by decide +kernel
theorem dL_law_483 : decode cL_law 483 = .ok (.ifCond .ne 15, 3) := by decide +kernel
theorem dL_law_486 : decode cL_law 486 = .ok (.aload_n 3, 1) := by decide +kernel
theorem dL_law_487 : decode cL_law 487 = .ok (.iconst 0, 1) := by decide +kernel
theorem dL_law_488 : decode cL_law 488 = .ok (.laload, 1) := by decide +kernel
theorem dL_law_489 : decode cL_law 489 = .ok (.iload 6, 2) := by decide +kernel
theorem dL_law_491 : decode cL_law 491 = .ok (.i2l, 1) := by decide +kernel
theorem dL_law_492 : decode cL_law 492 = .ok (.lcmp, 1) := by decide +kernel
theorem dL_law_493 : decode cL_law 493 = .ok (.ifCond .eq 5, 3) := by decide +kernel
theorem dL_law_496 : decode cL_law 496 = .ok (.iconst 0, 1) := by decide +kernel
theorem dL_law_497 : decode cL_law 497 = .ok (.ireturn, 1) := by decide +kernel
theorem dL_law_498 : decode cL_law 498 = .ok (.goto 469, 3) := by decide +kernel
theorem dL_law_501 : decode cL_law 501 = .ok (.aload_n 1, 1) := by decide +kernel
theorem dL_law_502 : decode cL_law 502 = .ok (.invokevirtual 93, 3) := by decide +kernel
theorem dL_law_505 : decode cL_law 505 = .ok (.aload_n 2, 1) := by decide +kernel
theorem dL_law_506 : decode cL_law 506 = .ok (.invokevirtual 96, 3) := by decide +kernel
theorem dL_law_509 : decode cL_law 509 = .ok (.if_icmp .eq 458, 3) := by decide +kernel
theorem dL_law_512 : decode cL_law 512 = .ok (.iconst 0, 1) := by decide +kernel
theorem dL_law_513 : decode cL_law 513 = .ok (.ireturn, 1) := by decide +kernel
theorem dL_law_514 : decode cL_law 514 = .ok (.aload_n 1, 1) := by decide +kernel
theorem dL_law_515 : decode cL_law 515 = .ok (.invokevirtual 97, 3) := by decide +kernel
theorem dL_law_518 : decode cL_law 518 = .ok (.aload_n 2, 1) := by decide +kernel
theorem dL_law_519 : decode cL_law 519 = .ok (.invokevirtual 100, 3) := by decide +kernel
theorem dL_law_522 : decode cL_law 522 = .ok (.if_icmp .eq 445, 3) := by decide +kernel
theorem dL_law_525 : decode cL_law 525 = .ok (.iconst 0, 1) := by decide +kernel
theorem dL_law_526 : decode cL_law 526 = .ok (.ireturn, 1) := by decide +kernel
theorem dL_law_527 : decode cL_law 527 = .ok (.aload_n 1, 1) := by decide +kernel
theorem dL_law_528 : decode cL_law 528 = .ok (.invokevirtual 101, 3) := by decide +kernel
theorem dL_law_531 : decode cL_law 531 = .ok (.aload_n 2, 1) := by decide +kernel
theorem dL_law_532 : decode cL_law 532 = .ok (.invokevirtual 104, 3) := by decide +kernel
theorem dL_law_535 : decode cL_law 535 = .ok (.if_icmp .eq 432, 3) := by decide +kernel
theorem dL_law_538 : decode cL_law 538 = .ok (.iconst 0, 1) := by decide +kernel
theorem dL_law_539 : decode cL_law 539 = .ok (.ireturn, 1) := by decide +kernel
theorem dL_law_540 : decode cL_law 540 = .ok (.aload_n 1, 1) := by decide +kernel
theorem dL_law_541 : decode cL_law 541 = .ok (.invokevirtual 105, 3) := by decide +kernel
theorem dL_law_544 : decode cL_law 544 = .ok (.aload_n 2, 1) := by decide +kernel
theorem dL_law_545 : decode cL_law 545 = .ok (.invokevirtual 108, 3) := by decide +kernel
theorem dL_law_548 : decode cL_law 548 = .ok (.if_icmp .eq 419, 3) := by decide +kernel
theorem dL_law_551 : decode cL_law 551 = .ok (.iconst 0, 1) := by decide +kernel
theorem dL_law_552 : decode cL_law 552 = .ok (.ireturn, 1) := by decide +kernel
theorem dL_law_553 : decode cL_law 553 = .ok (.aload_n 1, 1) := by decide +kernel
theorem dL_law_554 : decode cL_law 554 = .ok (.invokevirtual 109, 3) := by decide +kernel
theorem dL_law_557 : decode cL_law 557 = .ok (.aload_n 2, 1) := by decide +kernel
theorem dL_law_558 : decode cL_law 558 = .ok (.invokevirtual 112, 3) := by decide +kernel
theorem dL_law_561 : decode cL_law 561 = .ok (.if_icmp .eq 406, 3) := by decide +kernel
theorem dL_law_564 : decode cL_law 564 = .ok (.iconst 0, 1) := by decide +kernel
theorem dL_law_565 : decode cL_law 565 = .ok (.ireturn, 1) := by decide +kernel
theorem dL_law_566 : decode cL_law 566 = .ok (.aload_n 1, 1) := by decide +kernel
theorem dL_law_567 : decode cL_law 567 = .ok (.aload_n 0, 1) := by decide +kernel
theorem dL_law_568 : decode cL_law 568 = .ok (.iload 4, 2) := by decide +kernel
theorem dL_law_570 : decode cL_law 570 = .ok (.iconst 1, 1) := by decide +kernel
theorem dL_law_571 : decode cL_law 571 = .ok (.iadd, 1) := by decide +kernel
theorem dL_law_572 : decode cL_law 572 = .ok (.iaload, 1) := by decide +kernel
theorem dL_law_573 : decode cL_law 573 = .ok (.aload_n 3, 1) := by decide +kernel
theorem dL_law_574 : decode cL_law 574 = .ok (.invokestatic 113, 3) := by decide +kernel
theorem dL_law_577 : decode cL_law 577 = .ok (.istore 5, 2) := by decide +kernel
theorem dL_law_579 : decode cL_law 579 = .ok (.aload_n 2, 1) := by decide +kernel
theorem dL_law_580 : decode cL_law 580 = .ok (.aload_n 0, 1) := by decide +kernel
theorem dL_law_581 : decode cL_law 581 = .ok (.iload 4, 2) := by decide +kernel
theorem dL_law_583 : decode cL_law 583 = .ok (.iconst 1, 1) := by decide +kernel
theorem dL_law_584 : decode cL_law 584 = .ok (.iadd, 1) := by decide +kernel
theorem dL_law_585 : decode cL_law 585 = .ok (.iaload, 1) := by decide +kernel
theorem dL_law_586 : decode cL_law 586 = .ok (.invokevirtual 115, 3) := by decide +kernel
theorem dL_law_589 : decode cL_law 589 = .ok (.istore 6, 2) := by decide +kernel
theorem dL_law_591 : decode cL_law 591 = .ok (.aload_n 2, 1) := by decide +kernel
theorem dL_law_592 : decode cL_law 592 = .ok (.invokevirtual 57, 3) := by decide +kernel
theorem dL_law_595 : decode cL_law 595 = .ok (.iload 5, 2) := by decide +kernel
theorem dL_law_597 : decode cL_law 597 = .ok (.if_icmp .eq 5, 3) := by decide +kernel
theorem dL_law_600 : decode cL_law 600 = .ok (.iconst 0, 1) := by decide +kernel
theorem dL_law_601 : decode cL_law 601 = .ok (.ireturn, 1) := by decide +kernel
theorem dL_law_602 : decode cL_law 602 = .ok (.iload 5, 2) := by decide +kernel
theorem dL_law_604 : decode cL_law 604 = .ok (.ifCond .ne 15, 3) := by decide +kernel
theorem dL_law_607 : decode cL_law 607 = .ok (.aload_n 3, 1) := by decide +kernel
theorem dL_law_608 : decode cL_law 608 = .ok (.iconst 0, 1) := by decide +kernel
theorem dL_law_609 : decode cL_law 609 = .ok (.laload, 1) := by decide +kernel
theorem dL_law_610 : decode cL_law 610 = .ok (.iload 6, 2) := by decide +kernel
theorem dL_law_612 : decode cL_law 612 = .ok (.i2l, 1) := by decide +kernel
theorem dL_law_613 : decode cL_law 613 = .ok (.lcmp, 1) := by decide +kernel
theorem dL_law_614 : decode cL_law 614 = .ok (.ifCond .eq 5, 3) := by decide +kernel
theorem dL_law_617 : decode cL_law 617 = .ok (.iconst 0, 1) := by decide +kernel
theorem dL_law_618 : decode cL_law 618 = .ok (.ireturn, 1) := by decide +kernel
theorem dL_law_619 : decode cL_law 619 = .ok (.goto 348, 3) := by decide +kernel
theorem dL_law_622 : decode cL_law 622 = .ok (.aload_n 1, 1) := by decide +kernel
theorem dL_law_623 : decode cL_law 623 = .ok (.aload_n 0, 1) := by decide +kernel
theorem dL_law_624 : decode cL_law 624 = .ok (.iload 4, 2) := by decide +kernel
theorem dL_law_626 : decode cL_law 626 = .ok (.iconst 1, 1) := by decide +kernel
theorem dL_law_627 : decode cL_law 627 = .ok (.iadd, 1) := by decide +kernel
theorem dL_law_628 : decode cL_law 628 = .ok (.iaload, 1) := by decide +kernel
theorem dL_law_629 : decode cL_law 629 = .ok (.aload_n 3, 1) := by decide +kernel
theorem dL_law_630 : decode cL_law 630 = .ok (.invokestatic 116, 3) := by decide +kernel
theorem dL_law_633 : decode cL_law 633 = .ok (.istore 5, 2) := by decide +kernel
theorem dL_law_635 : decode cL_law 635 = .ok (.aload_n 2, 1) := by decide +kernel
theorem dL_law_636 : decode cL_law 636 = .ok (.aload_n 0, 1) := by decide +kernel
theorem dL_law_637 : decode cL_law 637 = .ok (.iload 4, 2) := by decide +kernel
theorem dL_law_639 : decode cL_law 639 = .ok (.iconst 1, 1) := by decide +kernel
theorem dL_law_640 : decode cL_law 640 = .ok (.iadd, 1) := by decide +kernel
theorem dL_law_641 : decode cL_law 641 = .ok (.iaload, 1) := by decide +kernel
theorem dL_law_642 : decode cL_law 642 = .ok (.invokevirtual 118, 3) := by decide +kernel
theorem dL_law_645 : decode cL_law 645 = .ok (.istore 6, 2) := by decide +kernel
theorem dL_law_647 : decode cL_law 647 = .ok (.aload_n 2, 1) := by decide +kernel
theorem dL_law_648 : decode cL_law 648 = .ok (.invokevirtual 57, 3) := by decide +kernel
theorem dL_law_651 : decode cL_law 651 = .ok (.iload 5, 2) := by decide +kernel
theorem dL_law_653 : decode cL_law 653 = .ok (.if_icmp .eq 5, 3) := by decide +kernel
theorem dL_law_656 : decode cL_law 656 = .ok (.iconst 0, 1) := by decide +kernel
theorem dL_law_657 : decode cL_law 657 = .ok (.ireturn, 1) := by decide +kernel
theorem dL_law_658 : decode cL_law 658 = .ok (.iload 5, 2) := by decide +kernel
theorem dL_law_660 : decode cL_law 660 = .ok (.ifCond .ne 15, 3) := by decide +kernel
theorem dL_law_663 : decode cL_law 663 = .ok (.aload_n 3, 1) := by decide +kernel
theorem dL_law_664 : decode cL_law 664 = .ok (.iconst 0, 1) := by decide +kernel
theorem dL_law_665 : decode cL_law 665 = .ok (.laload, 1) := by decide +kernel
theorem dL_law_666 : decode cL_law 666 = .ok (.iload 6, 2) := by decide +kernel
theorem dL_law_668 : decode cL_law 668 = .ok (.i2l, 1) := by decide +kernel
theorem dL_law_669 : decode cL_law 669 = .ok (.lcmp, 1) := by decide +kernel
theorem dL_law_670 : decode cL_law 670 = .ok (.ifCond .eq 5, 3) := by decide +kernel
theorem dL_law_673 : decode cL_law 673 = .ok (.iconst 0, 1) := by decide +kernel
theorem dL_law_674 : decode cL_law 674 = .ok (.ireturn, 1) := by decide +kernel
theorem dL_law_675 : decode cL_law 675 = .ok (.goto 292, 3) := by decide +kernel
theorem dL_law_678 : decode cL_law 678 = .ok (.aload_n 1, 1) := by decide +kernel
theorem dL_law_679 : decode cL_law 679 = .ok (.aload_n 0, 1) := by decide +kernel
theorem dL_law_680 : decode cL_law 680 = .ok (.iload 4, 2) := by decide +kernel
theorem dL_law_682 : decode cL_law 682 = .ok (.iconst 1, 1) := by decide +kernel
theorem dL_law_683 : decode cL_law 683 = .ok (.iadd, 1) := by decide +kernel
theorem dL_law_684 : decode cL_law 684 = .ok (.iaload, 1) := by decide +kernel
theorem dL_law_685 : decode cL_law 685 = .ok (.aload_n 3, 1) := by decide +kernel
theorem dL_law_686 : decode cL_law 686 = .ok (.invokestatic 119, 3) := by decide +kernel
theorem dL_law_689 : decode cL_law 689 = .ok (.istore 5, 2) := by decide +kernel
theorem dL_law_691 : decode cL_law 691 = .ok (.aload_n 2, 1) := by decide +kernel
theorem dL_law_692 : decode cL_law 692 = .ok (.aload_n 0, 1) := by decide +kernel
theorem dL_law_693 : decode cL_law 693 = .ok (.iload 4, 2) := by decide +kernel
theorem dL_law_695 : decode cL_law 695 = .ok (.iconst 1, 1) := by decide +kernel
theorem dL_law_696 : decode cL_law 696 = .ok (.iadd, 1) := by decide +kernel
theorem dL_law_697 : decode cL_law 697 = .ok (.iaload, 1) := by decide +kernel
theorem dL_law_698 : decode cL_law 698 = .ok (.invokevirtual 121, 3) := by decide +kernel
theorem dL_law_701 : decode cL_law 701 = .ok (.istore 6, 2) := by decide +kernel
theorem dL_law_703 : decode cL_law 703 = .ok (.aload_n 2, 1) := by decide +kernel
theorem dL_law_704 : decode cL_law 704 = .ok (.invokevirtual 57, 3) := by decide +kernel
theorem dL_law_707 : decode cL_law 707 = .ok (.iload 5, 2) := by decide +kernel
theorem dL_law_709 : decode cL_law 709 = .ok (.if_icmp .eq 5, 3) := by decide +kernel
theorem dL_law_712 : decode cL_law 712 = .ok (.iconst 0, 1) := by decide +kernel
theorem dL_law_713 : decode cL_law 713 = .ok (.ireturn, 1) := by decide +kernel
theorem dL_law_714 : decode cL_law 714 = .ok (.iload 5, 2) := by decide +kernel
theorem dL_law_716 : decode cL_law 716 = .ok (.ifCond .ne 15, 3) := by decide +kernel
theorem dL_law_719 : decode cL_law 719 = .ok (.aload_n 3, 1) := by decide +kernel
theorem dL_law_720 : decode cL_law 720 = .ok (.iconst 0, 1) := by decide +kernel
theorem dL_law_721 : decode cL_law 721 = .ok (.laload, 1) := by decide +kernel
theorem dL_law_722 : decode cL_law 722 = .ok (.iload 6, 2) := by decide +kernel
theorem dL_law_724 : decode cL_law 724 = .ok (.i2l, 1) := by decide +kernel
theorem dL_law_725 : decode cL_law 725 = .ok (.lcmp, 1) := by decide +kernel
theorem dL_law_726 : decode cL_law 726 = .ok (.ifCond .eq 5, 3) := by decide +kernel
theorem dL_law_729 : decode cL_law 729 = .ok (.iconst 0, 1) := by decide +kernel
theorem dL_law_730 : decode cL_law 730 = .ok (.ireturn, 1) := by decide +kernel
theorem dL_law_731 : decode cL_law 731 = .ok (.goto 236, 3) := by decide +kernel
theorem dL_law_734 : decode cL_law 734 = .ok (.aload_n 1, 1) := by decide +kernel
theorem dL_law_735 : decode cL_law 735 = .ok (.aload_n 0, 1) := by decide +kernel
theorem dL_law_736 : decode cL_law 736 = .ok (.iload 4, 2) := by decide +kernel
theorem dL_law_738 : decode cL_law 738 = .ok (.iconst 1, 1) := by decide +kernel
theorem dL_law_739 : decode cL_law 739 = .ok (.iadd, 1) := by decide +kernel
theorem dL_law_740 : decode cL_law 740 = .ok (.iaload, 1) := by decide +kernel
theorem dL_law_741 : decode cL_law 741 = .ok (.aload_n 3, 1) := by decide +kernel
theorem dL_law_742 : decode cL_law 742 = .ok (.invokestatic 122, 3) := by decide +kernel
theorem dL_law_745 : decode cL_law 745 = .ok (.istore 5, 2) := by decide +kernel
theorem dL_law_747 : decode cL_law 747 = .ok (.aload_n 2, 1) := by decide +kernel
theorem dL_law_748 : decode cL_law 748 = .ok (.aload_n 0, 1) := by decide +kernel
theorem dL_law_749 : decode cL_law 749 = .ok (.iload 4, 2) := by decide +kernel
theorem dL_law_751 : decode cL_law 751 = .ok (.iconst 1, 1) := by decide +kernel
theorem dL_law_752 : decode cL_law 752 = .ok (.iadd, 1) := by decide +kernel
theorem dL_law_753 : decode cL_law 753 = .ok (.iaload, 1) := by decide +kernel
theorem dL_law_754 : decode cL_law 754 = .ok (.invokevirtual 124, 3) := by decide +kernel
theorem dL_law_757 : decode cL_law 757 = .ok (.istore 6, 2) := by decide +kernel
theorem dL_law_759 : decode cL_law 759 = .ok (.aload_n 2, 1) := by decide +kernel
theorem dL_law_760 : decode cL_law 760 = .ok (.invokevirtual 57, 3) := by decide +kernel
theorem dL_law_763 : decode cL_law 763 = .ok (.iload 5, 2) := by decide +kernel
theorem dL_law_765 : decode cL_law 765 = .ok (.if_icmp .eq 5, 3) := by decide +kernel
theorem dL_law_768 : decode cL_law 768 = .ok (.iconst 0, 1) := by decide +kernel
theorem dL_law_769 : decode cL_law 769 = .ok (.ireturn, 1) := by decide +kernel
theorem dL_law_770 : decode cL_law 770 = .ok (.iload 5, 2) := by decide +kernel
theorem dL_law_772 : decode cL_law 772 = .ok (.ifCond .ne 15, 3) := by decide +kernel
theorem dL_law_775 : decode cL_law 775 = .ok (.aload_n 3, 1) := by decide +kernel
theorem dL_law_776 : decode cL_law 776 = .ok (.iconst 0, 1) := by decide +kernel
theorem dL_law_777 : decode cL_law 777 = .ok (.laload, 1) := by decide +kernel
theorem dL_law_778 : decode cL_law 778 = .ok (.iload 6, 2) := by decide +kernel
theorem dL_law_780 : decode cL_law 780 = .ok (.i2l, 1) := by decide +kernel
theorem dL_law_781 : decode cL_law 781 = .ok (.lcmp, 1) := by decide +kernel
theorem dL_law_782 : decode cL_law 782 = .ok (.ifCond .eq 5, 3) := by decide +kernel
theorem dL_law_785 : decode cL_law 785 = .ok (.iconst 0, 1) := by decide +kernel
theorem dL_law_786 : decode cL_law 786 = .ok (.ireturn, 1) := by decide +kernel
theorem dL_law_787 : decode cL_law 787 = .ok (.goto 180, 3) := by decide +kernel
theorem dL_law_790 : decode cL_law 790 = .ok (.aload_n 1, 1) := by decide +kernel
theorem dL_law_791 : decode cL_law 791 = .ok (.invokevirtual 125, 3) := by decide +kernel
theorem dL_law_794 : decode cL_law 794 = .ok (.aload_n 2, 1) := by decide +kernel
theorem dL_law_795 : decode cL_law 795 = .ok (.invokevirtual 128, 3) := by decide +kernel
theorem dL_law_798 : decode cL_law 798 = .ok (.if_icmp .eq 169, 3) := by decide +kernel
theorem dL_law_801 : decode cL_law 801 = .ok (.iconst 0, 1) := by decide +kernel
theorem dL_law_802 : decode cL_law 802 = .ok (.ireturn, 1) := by decide +kernel
theorem dL_law_803 : decode cL_law 803 = .ok (.aload_n 1, 1) := by decide +kernel
theorem dL_law_804 : decode cL_law 804 = .ok (.invokevirtual 129, 3) := by decide +kernel
theorem dL_law_807 : decode cL_law 807 = .ok (.aload_n 2, 1) := by decide +kernel
theorem dL_law_808 : decode cL_law 808 = .ok (.invokevirtual 132, 3) := by decide +kernel
theorem dL_law_811 : decode cL_law 811 = .ok (.if_icmp .eq 156, 3) := by decide +kernel
theorem dL_law_814 : decode cL_law 814 = .ok (.iconst 0, 1) := by decide +kernel
theorem dL_law_815 : decode cL_law 815 = .ok (.ireturn, 1) := by decide +kernel
theorem dL_law_816 : decode cL_law 816 = .ok (.aload_n 1, 1) := by decide +kernel
theorem dL_law_817 : decode cL_law 817 = .ok (.invokevirtual 133, 3) := by decide +kernel
theorem dL_law_820 : decode cL_law 820 = .ok (.aload_n 2, 1) := by decide +kernel
theorem dL_law_821 : decode cL_law 821 = .ok (.invokevirtual 136, 3) := by decide +kernel
theorem dL_law_824 : decode cL_law 824 = .ok (.if_icmp .eq 143, 3) := by decide +kernel
theorem dL_law_827 : decode cL_law 827 = .ok (.iconst 0, 1) := by decide +kernel
theorem dL_law_828 : decode cL_law 828 = .ok (.ireturn, 1) := by decide +kernel
theorem dL_law_829 : decode cL_law 829 = .ok (.aload_n 1, 1) := by decide +kernel
theorem dL_law_830 : decode cL_law 830 = .ok (.invokevirtual 137, 3) := by decide +kernel
theorem dL_law_833 : decode cL_law 833 = .ok (.aload_n 2, 1) := by decide +kernel
theorem dL_law_834 : decode cL_law 834 = .ok (.invokevirtual 140, 3) := by decide +kernel
theorem dL_law_837 : decode cL_law 837 = .ok (.if_icmp .eq 130, 3) := by decide +kernel
theorem dL_law_840 : decode cL_law 840 = .ok (.iconst 0, 1) := by decide +kernel
theorem dL_law_841 : decode cL_law 841 = .ok (.ireturn, 1) := by decide +kernel
theorem dL_law_842 : decode cL_law 842 = .ok (.aload_n 1, 1) := by decide +kernel
theorem dL_law_843 : decode cL_law 843 = .ok (.invokevirtual 141, 3) := by decide +kernel
theorem dL_law_846 : decode cL_law 846 = .ok (.aload_n 2, 1) := by decide +kernel
theorem dL_law_847 : decode cL_law 847 = .ok (.invokevirtual 144, 3) := by decide +kernel
theorem dL_law_850 : decode cL_law 850 = .ok (.if_icmp .eq 117, 3) := by decide +kernel
theorem dL_law_853 : decode cL_law 853 = .ok (.iconst 0, 1) := by decide +kernel
theorem dL_law_854 : decode cL_law 854 = .ok (.ireturn, 1) := by decide +kernel
theorem dL_law_855 : decode cL_law 855 = .ok (.aload_n 1, 1) := by decide +kernel
theorem dL_law_856 : decode cL_law 856 = .ok (.aload_n 0, 1) := by decide +kernel
theorem dL_law_857 : decode cL_law 857 = .ok (.iload 4, 2) := by decide +kernel
theorem dL_law_859 : decode cL_law 859 = .ok (.iconst 1, 1) := by decide +kernel
theorem dL_law_860 : decode cL_law 860 = .ok (.iadd, 1) := by decide +kernel
theorem dL_law_861 : decode cL_law 861 = .ok (.iaload, 1) := by decide +kernel
theorem dL_law_862 : decode cL_law 862 = .ok (.aload_n 3, 1) := by decide +kernel
theorem dL_law_863 : decode cL_law 863 = .ok (.invokestatic 145, 3) := by decide +kernel
theorem dL_law_866 : decode cL_law 866 = .ok (.istore 5, 2) := by decide +kernel
theorem dL_law_868 : decode cL_law 868 = .ok (.aload_n 2, 1) := by decide +kernel
theorem dL_law_869 : decode cL_law 869 = .ok (.aload_n 0, 1) := by decide +kernel
theorem dL_law_870 : decode cL_law 870 = .ok (.iload 4, 2) := by decide +kernel
theorem dL_law_872 : decode cL_law 872 = .ok (.iconst 1, 1) := by decide +kernel
theorem dL_law_873 : decode cL_law 873 = .ok (.iadd, 1) := by decide +kernel
theorem dL_law_874 : decode cL_law 874 = .ok (.iaload, 1) := by decide +kernel
theorem dL_law_875 : decode cL_law 875 = .ok (.invokevirtual 147, 3) := by decide +kernel
theorem dL_law_878 : decode cL_law 878 = .ok (.istore 6, 2) := by decide +kernel
theorem dL_law_880 : decode cL_law 880 = .ok (.aload_n 2, 1) := by decide +kernel
theorem dL_law_881 : decode cL_law 881 = .ok (.invokevirtual 57, 3) := by decide +kernel
theorem dL_law_884 : decode cL_law 884 = .ok (.iload 5, 2) := by decide +kernel
theorem dL_law_886 : decode cL_law 886 = .ok (.if_icmp .eq 5, 3) := by decide +kernel
theorem dL_law_889 : decode cL_law 889 = .ok (.iconst 0, 1) := by decide +kernel
theorem dL_law_890 : decode cL_law 890 = .ok (.ireturn, 1) := by decide +kernel
theorem dL_law_891 : decode cL_law 891 = .ok (.iload 5, 2) := by decide +kernel
theorem dL_law_893 : decode cL_law 893 = .ok (.ifCond .ne 15, 3) := by decide +kernel
theorem dL_law_896 : decode cL_law 896 = .ok (.aload_n 3, 1) := by decide +kernel
theorem dL_law_897 : decode cL_law 897 = .ok (.iconst 0, 1) := by decide +kernel
theorem dL_law_898 : decode cL_law 898 = .ok (.laload, 1) := by decide +kernel
theorem dL_law_899 : decode cL_law 899 = .ok (.iload 6, 2) := by decide +kernel
theorem dL_law_901 : decode cL_law 901 = .ok (.i2l, 1) := by decide +kernel
theorem dL_law_902 : decode cL_law 902 = .ok (.lcmp, 1) := by decide +kernel
theorem dL_law_903 : decode cL_law 903 = .ok (.ifCond .eq 5, 3) := by decide +kernel
theorem dL_law_906 : decode cL_law 906 = .ok (.iconst 0, 1) := by decide +kernel
theorem dL_law_907 : decode cL_law 907 = .ok (.ireturn, 1) := by decide +kernel
theorem dL_law_908 : decode cL_law 908 = .ok (.goto 59, 3) := by decide +kernel
theorem dL_law_911 : decode cL_law 911 = .ok (.aload_n 1, 1) := by decide +kernel
theorem dL_law_912 : decode cL_law 912 = .ok (.aload_n 0, 1) := by decide +kernel
theorem dL_law_913 : decode cL_law 913 = .ok (.iload 4, 2) := by decide +kernel
theorem dL_law_915 : decode cL_law 915 = .ok (.iconst 1, 1) := by decide +kernel
theorem dL_law_916 : decode cL_law 916 = .ok (.iadd, 1) := by decide +kernel
theorem dL_law_917 : decode cL_law 917 = .ok (.iaload, 1) := by decide +kernel
theorem dL_law_918 : decode cL_law 918 = .ok (.aload_n 3, 1) := by decide +kernel
theorem dL_law_919 : decode cL_law 919 = .ok (.invokestatic 148, 3) := by decide +kernel
theorem dL_law_922 : decode cL_law 922 = .ok (.istore 5, 2) := by decide +kernel
theorem dL_law_924 : decode cL_law 924 = .ok (.aload_n 2, 1) := by decide +kernel
theorem dL_law_925 : decode cL_law 925 = .ok (.aload_n 0, 1) := by decide +kernel
theorem dL_law_926 : decode cL_law 926 = .ok (.iload 4, 2) := by decide +kernel
theorem dL_law_928 : decode cL_law 928 = .ok (.iconst 1, 1) := by decide +kernel
theorem dL_law_929 : decode cL_law 929 = .ok (.iadd, 1) := by decide +kernel
theorem dL_law_930 : decode cL_law 930 = .ok (.iaload, 1) := by decide +kernel
theorem dL_law_931 : decode cL_law 931 = .ok (.invokevirtual 150, 3) := by decide +kernel
theorem dL_law_934 : decode cL_law 934 = .ok (.istore 6, 2) := by decide +kernel
theorem dL_law_936 : decode cL_law 936 = .ok (.aload_n 2, 1) := by decide +kernel
theorem dL_law_937 : decode cL_law 937 = .ok (.invokevirtual 57, 3) := by decide +kernel
theorem dL_law_940 : decode cL_law 940 = .ok (.iload 5, 2) := by decide +kernel
theorem dL_law_942 : decode cL_law 942 = .ok (.if_icmp .eq 5, 3) := by decide +kernel
theorem dL_law_945 : decode cL_law 945 = .ok (.iconst 0, 1) := by decide +kernel
theorem dL_law_946 : decode cL_law 946 = .ok (.ireturn, 1) := by decide +kernel
theorem dL_law_947 : decode cL_law 947 = .ok (.iload 5, 2) := by decide +kernel
theorem dL_law_949 : decode cL_law 949 = .ok (.ifCond .ne 15, 3) := by decide +kernel
theorem dL_law_952 : decode cL_law 952 = .ok (.aload_n 3, 1) := by decide +kernel
theorem dL_law_953 : decode cL_law 953 = .ok (.iconst 0, 1) := by decide +kernel
theorem dL_law_954 : decode cL_law 954 = .ok (.laload, 1) := by decide +kernel
theorem dL_law_955 : decode cL_law 955 = .ok (.iload 6, 2) := by decide +kernel
theorem dL_law_957 : decode cL_law 957 = .ok (.i2l, 1) := by decide +kernel
theorem dL_law_958 : decode cL_law 958 = .ok (.lcmp, 1) := by decide +kernel
theorem dL_law_959 : decode cL_law 959 = .ok (.ifCond .eq 5, 3) := by decide +kernel
theorem dL_law_962 : decode cL_law 962 = .ok (.iconst 0, 1) := by decide +kernel
theorem dL_law_963 : decode cL_law 963 = .ok (.ireturn, 1) := by decide +kernel
theorem dL_law_964 : decode cL_law 964 = .ok (.goto 3, 3) := by decide +kernel
theorem dL_law_967 : decode cL_law 967 = .ok (.iinc 4 2, 3) := by decide +kernel
theorem dL_law_970 : decode cL_law 970 = .ok (.goto (-947), 3) := by decide +kernel
theorem dL_law_973 : decode cL_law 973 = .ok (.iconst 1, 1) := by decide +kernel
theorem dL_law_974 : decode cL_law 974 = .ok (.ireturn, 1) := by decide +kernel
abbrev vwCl : List vw_C := [(RX0, TX0, 10), (RX1, TX1, 2), (RX2, TX2, 8), (RX3, TX3, 10)]
