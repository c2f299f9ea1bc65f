theorem dL_hidden_0 : decode cL_hidden 0 = .ok (.aload_n 2, 1) := by decide +kernel
theorem dL_hidden_1 : decode cL_hidden 1 = .ok (.iconst 0, 1) := by decide +kernel
theorem dL_hidden_2 : decode cL_hidden 2 = .ok (.aload_n 0, 1) := by decide +kernel
theorem dL_hidden_3 : decode cL_hidden 3 = .ok (.iload_n 1, 1) := by decide +kernel
theorem dL_hidden_4 : decode cL_hidden 4 = .ok (.invokevirtual 65, 3) := by decide +kernel
theorem dL_hidden_7 : decode cL_hidden 7 = .ok (.i2l, 1) := by decide +kernel
theorem dL_hidden_8 : decode cL_hidden 8 = .ok (.lastore, 1) := by decide +kernel
theorem dL_hidden_9 : decode cL_hidden 9 = .ok (.goto 6, 3) := by decide +kernel
theorem dL_hidden_12 : decode cL_hidden 12 = .ok (.astore_n 3, 1) := by decide +kernel
theorem dL_hidden_13 : decode cL_hidden 13 = .ok (.iconst 1, 1) := by decide +kernel
theorem dL_hidden_14 : decode cL_hidden 14 = .ok (.ireturn, 1) := by decide +kernel
theorem dL_hidden_15 : decode cL_hidden 15 = .ok (.iconst 0, 1) := by decide +kernel
theorem dL_hidden_16 : decode cL_hidden 16 = .ok (.ireturn, 1) := by decide +kernel
set_option maxRecDepth 20000 in
theorem ggL_extreme_X7_extreme : GoodIn wsL_extreme wsX7_extreme := goodIn_ca (goodIn_r _ [6, 7, 8, 9, 10, 11, 12, 5, 13, 14, 15, 16, 17, 18, 19, 20, 21, 22, 23, 24, 25, 26, 27, 28, 29, 30, 31, 32, 33, 34, 35, 36, 37, 38, 39, 40, 41, 42, 43, 44, 45, 46, 47, 48, 49, 50, 51, 52, 53, 54, 55, 56, 57, 58, 59, 60, 61, 62, 63, 64, 65, 66, 67, 68, 69, 70, 71, 72, 73, 74, 75, 76, 77, 78, 79, 80, 81, 82, 83, 84, 85, 86, 87, 88, 89, 90, 91, 92, 93, 94, 95, 96, 97, 98, 99, 100, 101, 102, 103] (by decide +kernel) (by decide +kernel)) (goodIn_sub (fun _ h => List.mem_cons_of_mem _ (List.mem_append_right _ h)) (by decide +kernel))
set_option maxRecDepth 20000 in
theorem gL_extreme_X7_extreme : GoodIn wsL_extreme (wsV RL 68 RX7 yX7_extreme wsX7_extreme) := goodIn_app (goodIn_of _ (by decide +kernel)) ggL_extreme_X7_extreme
theorem dL_extreme_0 : decode cL_extreme 0 = .ok (.aload_n 3, 1) := by decide +kernel
theorem dL_extreme_1 : decode cL_extreme 1 = .ok (.iconst 0, 1) := by decide +kernel
theorem dL_extreme_2 : decode cL_extreme 2 = .ok (.aload_n 0, 1) := by decide +kernel
theorem dL_extreme_3 : decode cL_extreme 3 = .ok (.iload_n 1, 1) := by decide +kernel
theorem dL_extreme_4 : decode cL_extreme 4 = .ok (.iload_n 2, 1) := by decide +kernel
theorem dL_extreme_5 : decode cL_extreme 5 = .ok (.invokevirtual 68, 3) := by decide +kernel
theorem dL_extreme_8 : decode cL_extreme 8 = .ok (.i2l, 1) := by decide +kernel
theorem dL_extreme_9 : decode cL_extreme 9 = .ok (.lastore, 1) := by decide +kernel
theorem dL_extreme_10 : decode cL_extreme 10 = .ok (.goto 7, 3) := by decide +kernel
theorem dL_extreme_13 : decode cL_extreme 13 = .ok (.astore 4, 2) := by decide +kernel
theorem dL_extreme_15 : decode cL_extreme 15 = .ok (.iconst 1, 1) := by decide +kernel
theorem dL_extreme_16 : decode cL_extreme 16 = .ok (.ireturn, 1) := by decide +kernel
theorem dL_extreme_17 : decode cL_extreme 17 = .ok (.iconst 0, 1) := by decide +kernel
theorem dL_extreme_18 : decode cL_extreme 18 = .ok (.ireturn, 1) := by decide +kernel
set_option maxRecDepth 20000 in
theorem ggL_changes_X7_changes : GoodIn wsL_changes wsX7_changes := goodIn_ca (goodIn_r _ [6, 7, 8, 9, 10, 5, 11, 12, 13, 14, 15, 16, 17, 18, 19, 20, 21, 22, 23, 24, 25, 26, 27, 28, 29, 30, 31, 32, 33, 34, 35, 36, 37, 38, 39, 40, 41, 42, 43, 44, 45, 46, 47, 48, 49, 50, 51, 52, 53, 54, 55, 56, 57, 58, 59, 60, 61, 62, 63, 64, 65, 66, 67, 68, 69] (by decide +kernel) (by decide +kernel)) (goodIn_sub (fun _ h => List.mem_cons_of_mem _ (List.mem_append_right _ h)) (by decide +kernel))
set_option maxRecDepth 20000 in
theorem gL_changes_X7_changes : GoodIn wsL_changes (wsV RL 72 RX7 yX7_changes wsX7_changes) := goodIn_app (goodIn_of _ (by decide +kernel)) ggL_changes_X7_changes
theorem dL_changes_0 : decode cL_changes 0 = .ok (.aload 4, 2) := by decide +kernel
theorem dL_changes_2 : decode cL_changes 2 = .ok (.iconst 0, 1) := by decide +kernel
theorem dL_changes_3 : decode cL_changes 3 = .ok (.aload_n 0, 1) := by decide +kernel
theorem dL_changes_4 : decode cL_changes 4 = .ok (.iload_n 1, 1) := by decide +kernel
theorem dL_changes_5 : decode cL_changes 5 = .ok (.iload_n 2, 1) := by decide +kernel
theorem dL_changes_6 : decode cL_changes 6 = .ok (.iload_n 3, 1) := by decide +kernel
theorem dL_changes_7 : decode cL_changes 7 = .ok (.invokevirtual 72, 3) := by decide +kernel
theorem dL_changes_10 : decode cL_changes 10 = .ok (.i2l, 1) := by decide +kernel
theorem dL_changes_11 : decode cL_changes 11 = .ok (.lastore, 1) := by decide +kernel
theorem dL_changes_12 : decode cL_changes 12 = .ok (.goto 7, 3) := by decide +kernel
theorem dL_changes_15 : decode cL_changes 15 = .ok (.astore 5, 2) := by decide +kernel
theorem dL_changes_17 : decode cL_changes 17 = .ok (.iconst 1, 1) := by decide +kernel
theorem dL_changes_18 : decode cL_changes 18 = .ok (.ireturn, 1) := by decide +kernel
theorem dL_changes_19 : decode cL_changes 19 = .ok (.iconst 0, 1) := by decide +kernel
theorem dL_changes_20 : decode cL_changes 20 = .ok (.ireturn, 1) := by decide +kernel
set_option maxRecDepth 20000 in
theorem ggL_nextChange_X7_nextChange : GoodIn wsL_nextChange wsX7_nextChange := goodIn_ca (goodIn_r _ [6, 7, 8, 9, 10, 5, 11, 12, 13, 14, 15, 16, 17, 18, 19, 20, 21, 22, 23, 24, 25, 26, 27, 28, 29, 30, 31, 32, 33, 34, 35, 36, 37, 38, 39, 40, 41, 42, 43, 44, 45, 46, 47, 48, 49, 50, 51, 52, 53, 54, 55, 56, 57, 58, 59, 60, 61, 62, 63, 64, 65] (by decide +kernel) (by decide +kernel)) (goodIn_sub (fun _ h => List.mem_cons_of_mem _ (List.mem_append_right _ h)) (by decide +kernel))
set_option maxRecDepth 20000 in
theorem gL_nextChange_X7_nextChange : GoodIn wsL_nextChange (wsV RL 75 RX7 yX7_nextChange wsX7_nextChange) := goodIn_app (goodIn_of _ (by decide +kernel)) ggL_nextChange_X7_nextChange
theorem dL_nextChange_0 : decode cL_nextChange 0 = .ok (.aload_n 3, 1) := by decide +kernel
theorem dL_nextChange_1 : decode cL_nextChange 1 = .ok (.iconst 0, 1) := by decide +kernel
theorem dL_nextChange_2 : decode cL_nextChange 2 = .ok (.aload_n 0, 1) := by decide +kernel
theorem dL_nextChange_3 : decode cL_nextChange 3 = .ok (.iload_n 1, 1) := by decide +kernel
theorem dL_nextChange_4 : decode cL_nextChange 4 = .ok (.iload_n 2, 1) := by decide +kernel
theorem dL_nextChange_5 : decode cL_nextChange 5 = .ok (.invokevirtual 75, 3) := by decide +kernel
theorem dL_nextChange_8 : decode cL_nextChange 8 = .ok (.i2l, 1) := by decide +kernel
theorem dL_nextChange_9 : decode cL_nextChange 9 = .ok (.lastore, 1) := by decide +kernel
theorem dL_nextChange_10 : decode cL_nextChange 10 = .ok (.goto 7, 3) := by decide +kernel
theorem dL_nextChange_13 : decode cL_nextChange 13 = .ok (.astore 4, 2) := by decide +kernel
theorem dL_nextChange_15 : decode cL_nextChange 15 = .ok (.iconst 1, 1) := by decide +kernel
theorem dL_nextChange_16 : decode cL_nextChange 16 = .ok (.ireturn, 1) := by decide +kernel
theorem dL_nextChange_17 : decode cL_nextChange 17 = .ok (.iconst 0, 1) := by decide +kernel
theorem dL_nextChange_18 : decode cL_nextChange 18 = .ok (.ireturn, 1) := by decide +kernel
set_option maxRecDepth 20000 in
theorem ggL_overTime_X7_overTime : GoodIn wsL_overTime wsX7_overTime := goodIn_ca (goodIn_r _ [6, 7, 8, 9, 10, 5, 11, 12, 13, 14, 15, 16, 17, 18, 19, 20, 21, 22, 23, 24, 25, 26, 27, 28, 29, 30, 31, 32, 33, 34, 35, 36, 37, 38, 39, 40, 41, 42, 43, 44, 45, 46, 47, 48, 49, 50, 51, 52, 53, 54, 55, 56, 57, 58, 59, 60, 61, 62, 63, 64, 65, 66] (by decide +kernel) (by decide +kernel)) (goodIn_sub (fun _ h => List.mem_cons_of_mem _ (List.mem_append_right _ h)) (by decide +kernel))
set_option maxRecDepth 20000 in
theorem gL_overTime_X7_overTime : GoodIn wsL_overTime (wsV RL 78 RX7 yX7_overTime wsX7_overTime) := goodIn_app (goodIn_of _ (by decide +kernel)) ggL_overTime_X7_overTime
theorem dL_overTime_0 : decode cL_overTime 0 = .ok (.aload 5, 2) := by decide +kernel
theorem dL_overTime_2 : decode cL_overTime 2 = .ok (.iconst 0, 1) := by decide +kernel
theorem dL_overTime_3 : decode cL_overTime 3 = .ok (.aload_n 0, 1) := by decide +kernel
theorem dL_overTime_4 : decode cL_overTime 4 = .ok (.iload_n 1, 1) := by decide +kernel
theorem dL_overTime_5 : decode cL_overTime 5 = .ok (.iload_n 2, 1) := by decide +kernel
theorem dL_overTime_6 : decode cL_overTime 6 = .ok (.iload_n 3, 1) := by decide +kernel
theorem dL_overTime_7 : decode cL_overTime 7 = .ok (.iload 4, 2) := by decide +kernel
theorem dL_overTime_9 : decode cL_overTime 9 = .ok (.invokevirtual 78, 3) := by decide +kernel
theorem dL_overTime_12 : decode cL_overTime 12 = .ok (.lastore, 1) := by decide +kernel
theorem dL_overTime_13 : decode cL_overTime 13 = .ok (.goto 7, 3) := by decide +kernel
theorem dL_overTime_16 : decode cL_overTime 16 = .ok (.astore 6, 2) := by decide +kernel
theorem dL_overTime_18 : decode cL_overTime 18 = .ok (.iconst 1, 1) := by decide +kernel
theorem dL_overTime_19 : decode cL_overTime 19 = .ok (.ireturn, 1) := by decide +kernel
theorem dL_overTime_20 : decode cL_overTime 20 = .ok (.iconst 0, 1) := by decide +kernel
theorem dL_overTime_21 : decode cL_overTime 21 = .ok (.ireturn, 1) := by decide +kernel
set_option maxRecDepth 20000 in
theorem ggL_leads_X7_leads : GoodIn wsL_leads wsX7_leads := goodIn_ca (goodIn_ca (goodIn_r _ [7, 8, 9, 10, 11, 12, 6, 13, 14, 15, 16, 17, 18, 19, 20, 21, 22, 23, 24, 25, 26, 27, 28, 29, 30, 31, 32, 33, 34, 35, 36, 37, 38, 39, 40, 41, 42, 43, 44, 45, 46, 47, 48, 49, 50, 51, 52, 53, 54, 55, 56, 57, 58, 59, 60, 61, 62, 63, 64, 65, 66, 67, 68, 69, 70, 71, 72, 73, 74, 75, 76, 77] (by decide +kernel) (by decide +kernel)) (goodIn_sub (fun _ h => List.mem_cons_of_mem _ (List.mem_append_left _ (List.mem_append_right _ h))) (by decide +kernel))) (goodIn_sub (fun _ h => List.mem_cons_of_mem _ (List.mem_append_right _ h)) (by decide +kernel))
set_option maxRecDepth 20000 in
theorem gL_leads_X7_leads : GoodIn wsL_leads (wsV RL 82 RX7 yX7_leads wsX7_leads) := goodIn_app (goodIn_of _ (by decide +kernel)) ggL_leads_X7_leads
theorem dL_leads_0 : decode cL_leads 0 = .ok (.aload_n 3, 1) := by decide +kernel
theorem dL_leads_1 : decode cL_leads 1 = .ok (.iconst 0, 1) := by decide +kernel
theorem dL_leads_2 : decode cL_leads 2 = .ok (.aload_n 0, 1) := by decide +kernel
theorem dL_leads_3 : decode cL_leads 3 = .ok (.iload_n 1, 1) := by decide +kernel
theorem dL_leads_4 : decode cL_leads 4 = .ok (.iload_n 2, 1) := by decide +kernel
theorem dL_leads_5 : decode cL_leads 5 = .ok (.invokevirtual 82, 3) := by decide +kernel
theorem dL_leads_8 : decode cL_leads 8 = .ok (.i2l, 1) := by decide +kernel
theorem dL_leads_9 : decode cL_leads 9 = .ok (.lastore, 1) := by decide +kernel
theorem dL_leads_10 : decode cL_leads 10 = .ok (.goto 11, 3) := by decide +kernel
theorem dL_leads_13 : decode cL_leads 13 = .ok (.astore 4, 2) := by decide +kernel
theorem dL_leads_15 : decode cL_leads 15 = .ok (.iconst 1, 1) := by decide +kernel
theorem dL_leads_16 : decode cL_leads 16 = .ok (.ireturn, 1) := by decide +kernel
theorem dL_leads_17 : decode cL_leads 17 = .ok (.astore 4, 2) := by decide +kernel
theorem dL_leads_19 : decode cL_leads 19 = .ok (.iconst 2, 1) := by decide +kernel
theorem dL_leads_20 : decode cL_leads 20 = .ok (.ireturn, 1) := by decide +kernel
theorem dL_leads_21 : decode cL_leads 21 = .ok (.iconst 0, 1) := by decide +kernel
theorem dL_leads_22 : decode cL_leads 22 = .ok (.ireturn, 1) := by decide +kernel
set_option maxRecDepth 20000 in
theorem ggL_intervals_X7_intervals : GoodIn wsL_intervals wsX7_intervals := goodIn_ca (goodIn_r _ [6, 7, 8, 9, 10, 11, 5, 12, 13, 14, 15, 16, 17, 18, 19, 20, 21, 22, 23, 24, 25, 26, 27, 28, 29, 30, 31, 32, 33, 34, 35, 36, 37, 38, 39, 40, 41, 42, 43] (by decide +kernel) (by decide +kernel)) (goodIn_sub (fun _ h => List.mem_cons_of_mem _ (List.mem_append_right _ h)) (by decide +kernel))
set_option maxRecDepth 20000 in
theorem gL_intervals_X7_intervals : GoodIn wsL_intervals (wsV RL 85 RX7 yX7_intervals wsX7_intervals) := goodIn_app (goodIn_of _ (by decide +kernel)) ggL_intervals_X7_intervals
theorem dL_intervals_0 : decode cL_intervals 0 = .ok (.aload_n 2, 1) := by decide +kernel
theorem dL_intervals_1 : decode cL_intervals 1 = .ok (.iconst 0, 1) := by decide +kernel
theorem dL_intervals_2 : decode cL_intervals 2 = .ok (.aload_n 0, 1) := by decide +kernel
theorem dL_intervals_3 : decode cL_intervals 3 = .ok (.iload_n 1, 1) := by decide +kernel
theorem dL_intervals_4 : decode cL_intervals 4 = .ok (.invokevirtual 85, 3) := by decide +kernel
theorem dL_intervals_7 : decode cL_intervals 7 = .ok (.i2l, 1) := by decide +kernel
theorem dL_intervals_8 : decode cL_intervals 8 = .ok (.lastore, 1) := by decide +kernel
theorem dL_intervals_9 : decode cL_intervals 9 = .ok (.goto 6, 3) := by decide +kernel
theorem dL_intervals_12 : decode cL_intervals 12 = .ok (.astore_n 3, 1) := by decide +kernel
theorem dL_intervals_13 : decode cL_intervals 13 = .ok (.iconst 1, 1) := by decide +kernel
theorem dL_intervals_14 : decode cL_intervals 14 = .ok (.ireturn, 1) := by decide +kernel
theorem dL_intervals_15 : decode cL_intervals 15 = .ok (.iconst 0, 1) := by decide +kernel
theorem dL_intervals_16 : decode cL_intervals 16 = .ok (.ireturn, 1) := by decide +kernel
set_option maxRecDepth 20000 in
theorem ggL_interval_X7_interval : GoodIn wsL_interval wsX7_interval := goodIn_ca (goodIn_r _ [6, 7, 8, 9, 10, 11, 12, 13, 5, 14, 15, 16, 17, 18, 19, 20, 21, 22, 23, 24, 25, 26, 27, 28, 29, 30, 31, 32, 33, 34, 35, 36, 37, 38, 39, 40, 41, 42, 43, 44] (by decide +kernel) (by decide +kernel)) (goodIn_sub (fun _ h => List.mem_cons_of_mem _ (List.mem_append_right _ h)) (by decide +kernel))
set_option maxRecDepth 20000 in
theorem gL_interval_X7_interval : GoodIn wsL_interval (wsV RL 88 RX7 yX7_interval wsX7_interval) := goodIn_app (goodIn_of _ (by decide +kernel)) ggL_interval_X7_interval
theorem dL_interval_0 : decode cL_interval 0 = .ok (.aload 4, 2) := by decide +kernel
theorem dL_interval_2 : decode cL_interval 2 = .ok (.iconst 0, 1) := by decide +kernel
theorem dL_interval_3 : decode cL_interval 3 = .ok (.aload_n 0, 1) := by decide +kernel
theorem dL_interval_4 : decode cL_interval 4 = .ok (.iload_n 1, 1) := by decide +kernel
theorem dL_interval_5 : decode cL_interval 5 = .ok (.iload_n 2, 1) := by decide +kernel
theorem dL_interval_6 : decode cL_interval 6 = .ok (.iload_n 3, 1) := by decide +kernel
theorem dL_interval_7 : decode cL_interval 7 = .ok (.invokevirtual 88, 3) := by decide +kernel
theorem dL_interval_10 : decode cL_interval 10 = .ok (.i2l, 1) := by decide +kernel
theorem dL_interval_11 : decode cL_interval 11 = .ok (.lastore, 1) := by decide +kernel
theorem dL_interval_12 : decode cL_interval 12 = .ok (.goto 7, 3) := by decide +kernel
theorem dL_interval_15 : decode cL_interval 15 = .ok (.astore 5, 2) := by decide +kernel
theorem dL_interval_17 : decode cL_interval 17 = .ok (.iconst 1, 1) := by decide +kernel
theorem dL_interval_18 : decode cL_interval 18 = .ok (.ireturn, 1) := by decide +kernel
theorem dL_interval_19 : decode cL_interval 19 = .ok (.iconst 0, 1) := by decide +kernel
theorem dL_interval_20 : decode cL_interval 20 = .ok (.ireturn, 1) := by decide +kernel
set_option maxRecDepth 20000 in
theorem ggL_holders_X7_holders : GoodIn wsL_holders wsX7_holders := goodIn_ca (goodIn_r _ [6, 7, 8, 9, 10, 11, 12, 13, 14, 15, 16, 5, 17, 18, 19, 20, 21, 22, 23, 24, 25, 26, 27, 28, 29, 30, 31, 32, 33, 34, 35, 36, 37] (by decide +kernel) (by decide +kernel)) (goodIn_sub (fun _ h => List.mem_cons_of_mem _ (List.mem_append_right _ h)) (by decide +kernel))
set_option maxRecDepth 20000 in
theorem gL_holders_X7_holders : GoodIn wsL_holders (wsV RL 92 RX7 yX7_holders wsX7_holders) := goodIn_app (goodIn_of _ (by decide +kernel)) ggL_holders_X7_holders
