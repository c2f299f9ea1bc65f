theorem dL_minimum_0 : decode cL_minimum 0 = .ok (.aload_n 3, 1) := by decide +kernel
theorem dL_minimum_1 : decode cL_minimum 1 = .ok (.iconst 0, 1) := by decide +kernel
theorem dL_minimum_2 : decode cL_minimum 2 = .ok (.aload_n 0, 1) := by decide +kernel
theorem dL_minimum_3 : decode cL_minimum 3 = .ok (.iload_n 1, 1) := by decide +kernel
theorem dL_minimum_4 : decode cL_minimum 4 = .ok (.iload_n 2, 1) := by decide +kernel
theorem dL_minimum_5 : decode cL_minimum 5 = .ok (.invokevirtual 37, 3) := by decide +kernel
theorem dL_minimum_8 : decode cL_minimum 8 = .ok (.lastore, 1) := by decide +kernel
theorem dL_minimum_9 : decode cL_minimum 9 = .ok (.goto 7, 3) := by decide +kernel
theorem dL_minimum_12 : decode cL_minimum 12 = .ok (.astore 4, 2) := by decide +kernel
theorem dL_minimum_14 : decode cL_minimum 14 = .ok (.iconst 1, 1) := by decide +kernel
theorem dL_minimum_15 : decode cL_minimum 15 = .ok (.ireturn, 1) := by decide +kernel
theorem dL_minimum_16 : decode cL_minimum 16 = .ok (.iconst 0, 1) := by decide +kernel
theorem dL_minimum_17 : decode cL_minimum 17 = .ok (.ireturn, 1) := by decide +kernel
set_option maxRecDepth 20000 in
theorem ggL_ranked_X7_ranked : GoodIn wsL_ranked wsX7_ranked := goodIn_ca (goodIn_r _ [6, 7, 8, 9, 10, 11, 12, 5, 13, 14, 15, 16, 17, 18, 19, 20, 21, 22, 23, 24, 25, 26, 27, 28, 29, 30, 31, 32, 33, 34, 35, 36, 37, 38, 39, 40, 41, 42, 43, 44, 45, 46, 47, 48, 49, 50, 51, 52, 53, 54, 55, 56, 57, 58, 59, 60, 61] (by decide +kernel) (by decide +kernel)) (goodIn_sub (fun _ h => List.mem_cons_of_mem _ (List.mem_append_right _ h)) (by decide +kernel))
set_option maxRecDepth 20000 in
theorem gL_ranked_X7_ranked : GoodIn wsL_ranked (wsV RL 41 RX7 yX7_ranked wsX7_ranked) := goodIn_app (goodIn_of _ (by decide +kernel)) ggL_ranked_X7_ranked
theorem dL_ranked_0 : decode cL_ranked 0 = .ok (.aload 4, 2) := by decide +kernel
theorem dL_ranked_2 : decode cL_ranked 2 = .ok (.iconst 0, 1) := by decide +kernel
theorem dL_ranked_3 : decode cL_ranked 3 = .ok (.aload_n 0, 1) := by decide +kernel
theorem dL_ranked_4 : decode cL_ranked 4 = .ok (.iload_n 1, 1) := by decide +kernel
theorem dL_ranked_5 : decode cL_ranked 5 = .ok (.iload_n 2, 1) := by decide +kernel
theorem dL_ranked_6 : decode cL_ranked 6 = .ok (.iload_n 3, 1) := by decide +kernel
theorem dL_ranked_7 : decode cL_ranked 7 = .ok (.invokevirtual 41, 3) := by decide +kernel
theorem dL_ranked_10 : decode cL_ranked 10 = .ok (.i2l, 1) := by decide +kernel
theorem dL_ranked_11 : decode cL_ranked 11 = .ok (.lastore, 1) := by decide +kernel
theorem dL_ranked_12 : decode cL_ranked 12 = .ok (.goto 7, 3) := by decide +kernel
theorem dL_ranked_15 : decode cL_ranked 15 = .ok (.astore 5, 2) := by decide +kernel
theorem dL_ranked_17 : decode cL_ranked 17 = .ok (.iconst 1, 1) := by decide +kernel
theorem dL_ranked_18 : decode cL_ranked 18 = .ok (.ireturn, 1) := by decide +kernel
theorem dL_ranked_19 : decode cL_ranked 19 = .ok (.iconst 0, 1) := by decide +kernel
theorem dL_ranked_20 : decode cL_ranked 20 = .ok (.ireturn, 1) := by decide +kernel
set_option maxRecDepth 20000 in
theorem ggL_below_X7_below : GoodIn wsL_below wsX7_below := goodIn_ca (goodIn_r _ [6, 7, 8, 9, 10, 5, 11, 12, 13, 14, 15, 16, 17, 18, 19, 20, 21, 22, 23, 24, 25, 26, 27, 28, 29, 30, 31, 32, 33, 34, 35, 36, 37, 38, 39, 40, 41, 42, 43, 44, 45, 46, 47, 48, 49, 50, 51, 52, 53, 54, 55, 56, 57] (by decide +kernel) (by decide +kernel)) (goodIn_sub (fun _ h => List.mem_cons_of_mem _ (List.mem_append_right _ h)) (by decide +kernel))
set_option maxRecDepth 20000 in
theorem gL_below_X7_below : GoodIn wsL_below (wsV RL 45 RX7 yX7_below wsX7_below) := goodIn_app (goodIn_of _ (by decide +kernel)) ggL_below_X7_below
theorem dL_below_0 : decode cL_below 0 = .ok (.aload 5, 2) := by decide +kernel
theorem dL_below_2 : decode cL_below 2 = .ok (.iconst 0, 1) := by decide +kernel
theorem dL_below_3 : decode cL_below 3 = .ok (.aload_n 0, 1) := by decide +kernel
theorem dL_below_4 : decode cL_below 4 = .ok (.iload_n 1, 1) := by decide +kernel
theorem dL_below_5 : decode cL_below 5 = .ok (.iload_n 2, 1) := by decide +kernel
theorem dL_below_6 : decode cL_below 6 = .ok (.lload_n 3, 1) := by decide +kernel
theorem dL_below_7 : decode cL_below 7 = .ok (.invokevirtual 45, 3) := by decide +kernel
theorem dL_below_10 : decode cL_below 10 = .ok (.i2l, 1) := by decide +kernel
theorem dL_below_11 : decode cL_below 11 = .ok (.lastore, 1) := by decide +kernel
theorem dL_below_12 : decode cL_below 12 = .ok (.goto 7, 3) := by decide +kernel
theorem dL_below_15 : decode cL_below 15 = .ok (.astore 6, 2) := by decide +kernel
theorem dL_below_17 : decode cL_below 17 = .ok (.iconst 1, 1) := by decide +kernel
theorem dL_below_18 : decode cL_below 18 = .ok (.ireturn, 1) := by decide +kernel
theorem dL_below_19 : decode cL_below 19 = .ok (.iconst 0, 1) := by decide +kernel
theorem dL_below_20 : decode cL_below 20 = .ok (.ireturn, 1) := by decide +kernel
set_option maxRecDepth 20000 in
theorem ggL_overtakes_X7_overtakes : GoodIn wsL_overtakes wsX7_overtakes := goodIn_ca (goodIn_r _ [6, 7, 8, 9, 10, 11, 5, 12, 13, 14, 15, 16, 17, 18, 19, 20, 21, 22, 23, 24, 25, 26, 27, 28, 29, 30, 31, 32, 33, 34, 35, 36, 37, 38, 39, 40, 41, 42, 43, 44, 45, 46, 47] (by decide +kernel) (by decide +kernel)) (goodIn_sub (fun _ h => List.mem_cons_of_mem _ (List.mem_append_right _ h)) (by decide +kernel))
set_option maxRecDepth 20000 in
theorem gL_overtakes_X7_overtakes : GoodIn wsL_overtakes (wsV RL 49 RX7 yX7_overtakes wsX7_overtakes) := goodIn_app (goodIn_of _ (by decide +kernel)) ggL_overtakes_X7_overtakes
theorem dL_overtakes_0 : decode cL_overtakes 0 = .ok (.aload_n 3, 1) := by decide +kernel
theorem dL_overtakes_1 : decode cL_overtakes 1 = .ok (.iconst 0, 1) := by decide +kernel
theorem dL_overtakes_2 : decode cL_overtakes 2 = .ok (.aload_n 0, 1) := by decide +kernel
theorem dL_overtakes_3 : decode cL_overtakes 3 = .ok (.iload_n 1, 1) := by decide +kernel
theorem dL_overtakes_4 : decode cL_overtakes 4 = .ok (.iload_n 2, 1) := by decide +kernel
theorem dL_overtakes_5 : decode cL_overtakes 5 = .ok (.invokevirtual 49, 3) := by decide +kernel
theorem dL_overtakes_8 : decode cL_overtakes 8 = .ok (.i2l, 1) := by decide +kernel
theorem dL_overtakes_9 : decode cL_overtakes 9 = .ok (.lastore, 1) := by decide +kernel
theorem dL_overtakes_10 : decode cL_overtakes 10 = .ok (.goto 7, 3) := by decide +kernel
theorem dL_overtakes_13 : decode cL_overtakes 13 = .ok (.astore 4, 2) := by decide +kernel
theorem dL_overtakes_15 : decode cL_overtakes 15 = .ok (.iconst 1, 1) := by decide +kernel
theorem dL_overtakes_16 : decode cL_overtakes 16 = .ok (.ireturn, 1) := by decide +kernel
theorem dL_overtakes_17 : decode cL_overtakes 17 = .ok (.iconst 0, 1) := by decide +kernel
theorem dL_overtakes_18 : decode cL_overtakes 18 = .ok (.ireturn, 1) := by decide +kernel
set_option maxRecDepth 20000 in
theorem ggL_pieces_X7_pieces : GoodIn wsL_pieces wsX7_pieces := goodIn_ca (goodIn_r _ [6, 7, 8, 9, 10, 11, 5, 12, 13, 14, 15, 16, 17, 18, 19, 20, 21, 22, 23, 24, 25, 26, 27, 28, 29, 30, 31, 32, 33, 34, 35, 36, 37, 38, 39, 40, 41, 42, 43, 44, 45, 46, 47, 48, 49, 50, 51, 52, 53, 54, 55, 56, 57, 58, 59, 60, 61, 62, 63, 64, 65, 66, 67, 68, 69, 70, 71, 72, 73, 74, 75, 76, 77, 78, 79, 80, 81, 82, 83, 84, 85, 86] (by decide +kernel) (by decide +kernel)) (goodIn_sub (fun _ h => List.mem_cons_of_mem _ (List.mem_append_right _ h)) (by decide +kernel))
set_option maxRecDepth 20000 in
theorem gL_pieces_X7_pieces : GoodIn wsL_pieces (wsV RL 52 RX7 yX7_pieces wsX7_pieces) := goodIn_app (goodIn_of _ (by decide +kernel)) ggL_pieces_X7_pieces
theorem dL_pieces_0 : decode cL_pieces 0 = .ok (.aload_n 2, 1) := by decide +kernel
theorem dL_pieces_1 : decode cL_pieces 1 = .ok (.iconst 0, 1) := by decide +kernel
theorem dL_pieces_2 : decode cL_pieces 2 = .ok (.aload_n 0, 1) := by decide +kernel
theorem dL_pieces_3 : decode cL_pieces 3 = .ok (.iload_n 1, 1) := by decide +kernel
theorem dL_pieces_4 : decode cL_pieces 4 = .ok (.invokevirtual 52, 3) := by decide +kernel
theorem dL_pieces_7 : decode cL_pieces 7 = .ok (.i2l, 1) := by decide +kernel
theorem dL_pieces_8 : decode cL_pieces 8 = .ok (.lastore, 1) := by decide +kernel
theorem dL_pieces_9 : decode cL_pieces 9 = .ok (.goto 6, 3) := by decide +kernel
theorem dL_pieces_12 : decode cL_pieces 12 = .ok (.astore_n 3, 1) := by decide +kernel
theorem dL_pieces_13 : decode cL_pieces 13 = .ok (.iconst 1, 1) := by decide +kernel
theorem dL_pieces_14 : decode cL_pieces 14 = .ok (.ireturn, 1) := by decide +kernel
theorem dL_pieces_15 : decode cL_pieces 15 = .ok (.iconst 0, 1) := by decide +kernel
theorem dL_pieces_16 : decode cL_pieces 16 = .ok (.ireturn, 1) := by decide +kernel
set_option maxRecDepth 20000 in
theorem ggL_piece_X7_piece : GoodIn wsL_piece wsX7_piece := goodIn_ca (goodIn_ca (goodIn_r _ [7, 8, 9, 10, 11, 12, 13, 6, 14, 15, 16, 17, 18, 19, 20, 21, 22, 23, 24, 25, 26, 27, 28, 29, 30, 31, 32, 33, 34, 35, 36, 37, 38, 39, 40, 41, 42, 43, 44, 45, 46, 47, 48, 49, 50, 51, 52, 53, 54, 55, 56, 57, 58, 59, 60, 61, 62, 63, 64, 65, 66, 67, 68, 69, 70, 71, 72, 73, 74, 75, 76, 77, 78, 79, 80, 81, 82, 83, 84, 85, 86, 87, 88, 89, 90, 91, 92, 93, 94, 95, 96, 97, 98, 99, 100, 101, 102, 103, 104, 105] (by decide +kernel) (by decide +kernel)) (goodIn_sub (fun _ h => List.mem_cons_of_mem _ (List.mem_append_left _ (List.mem_append_right _ h))) (by decide +kernel))) (goodIn_sub (fun _ h => List.mem_cons_of_mem _ (List.mem_append_right _ h)) (by decide +kernel))
set_option maxRecDepth 20000 in
theorem gL_piece_X7_piece : GoodIn wsL_piece (wsV RL 55 RX7 yX7_piece wsX7_piece) := goodIn_app (goodIn_of _ (by decide +kernel)) ggL_piece_X7_piece
theorem dL_piece_0 : decode cL_piece 0 = .ok (.aload 4, 2) := by decide +kernel
theorem dL_piece_2 : decode cL_piece 2 = .ok (.iconst 0, 1) := by decide +kernel
theorem dL_piece_3 : decode cL_piece 3 = .ok (.aload_n 0, 1) := by decide +kernel
theorem dL_piece_4 : decode cL_piece 4 = .ok (.iload_n 1, 1) := by decide +kernel
theorem dL_piece_5 : decode cL_piece 5 = .ok (.iload_n 2, 1) := by decide +kernel
theorem dL_piece_6 : decode cL_piece 6 = .ok (.iload_n 3, 1) := by decide +kernel
theorem dL_piece_7 : decode cL_piece 7 = .ok (.invokevirtual 55, 3) := by decide +kernel
theorem dL_piece_10 : decode cL_piece 10 = .ok (.i2l, 1) := by decide +kernel
theorem dL_piece_11 : decode cL_piece 11 = .ok (.lastore, 1) := by decide +kernel
theorem dL_piece_12 : decode cL_piece 12 = .ok (.goto 11, 3) := by decide +kernel
theorem dL_piece_15 : decode cL_piece 15 = .ok (.astore 5, 2) := by decide +kernel
theorem dL_piece_17 : decode cL_piece 17 = .ok (.iconst 1, 1) := by decide +kernel
theorem dL_piece_18 : decode cL_piece 18 = .ok (.ireturn, 1) := by decide +kernel
theorem dL_piece_19 : decode cL_piece 19 = .ok (.astore 5, 2) := by decide +kernel
theorem dL_piece_21 : decode cL_piece 21 = .ok (.iconst 2, 1) := by decide +kernel
theorem dL_piece_22 : decode cL_piece 22 = .ok (.ireturn, 1) := by decide +kernel
theorem dL_piece_23 : decode cL_piece 23 = .ok (.iconst 0, 1) := by decide +kernel
theorem dL_piece_24 : decode cL_piece 24 = .ok (.ireturn, 1) := by decide +kernel
set_option maxRecDepth 20000 in
theorem ggL_sum_X7_sum : GoodIn wsL_sum wsX7_sum := goodIn_ca (goodIn_r _ [6, 7, 8, 9, 10, 11, 5, 12, 13, 14, 15, 16, 17, 18, 19, 20, 21, 22, 23, 24, 25, 26, 27, 28, 29, 30, 31, 32, 33, 34, 35, 36, 37, 38, 39, 40, 41, 42, 43, 44, 45, 46, 47, 48, 49, 50, 51, 52, 53, 54, 55, 56, 57, 58, 59, 60, 61, 62, 63, 64, 65, 66, 67, 68, 69, 70, 71, 72, 73, 74, 75, 76, 77, 78, 79, 80, 81, 82, 83, 84, 85, 86, 87, 88, 89, 90, 91, 92, 93, 94, 95, 96, 97, 98, 99, 100, 101, 102, 103, 104, 105] (by decide +kernel) (by decide +kernel)) (goodIn_sub (fun _ h => List.mem_cons_of_mem _ (List.mem_append_right _ h)) (by decide +kernel))
set_option maxRecDepth 20000 in
theorem gL_sum_X7_sum : GoodIn wsL_sum (wsV RL 58 RX7 yX7_sum wsX7_sum) := goodIn_app (goodIn_of _ (by decide +kernel)) ggL_sum_X7_sum
theorem dL_sum_0 : decode cL_sum 0 = .ok (.aload 4, 2) := by decide +kernel
theorem dL_sum_2 : decode cL_sum 2 = .ok (.iconst 0, 1) := by decide +kernel
theorem dL_sum_3 : decode cL_sum 3 = .ok (.aload_n 0, 1) := by decide +kernel
theorem dL_sum_4 : decode cL_sum 4 = .ok (.iload_n 1, 1) := by decide +kernel
theorem dL_sum_5 : decode cL_sum 5 = .ok (.iload_n 2, 1) := by decide +kernel
theorem dL_sum_6 : decode cL_sum 6 = .ok (.iload_n 3, 1) := by decide +kernel
theorem dL_sum_7 : decode cL_sum 7 = .ok (.invokevirtual 58, 3) := by decide +kernel
theorem dL_sum_10 : decode cL_sum 10 = .ok (.lastore, 1) := by decide +kernel
theorem dL_sum_11 : decode cL_sum 11 = .ok (.goto 7, 3) := by decide +kernel
theorem dL_sum_14 : decode cL_sum 14 = .ok (.astore 5, 2) := by decide +kernel
theorem dL_sum_16 : decode cL_sum 16 = .ok (.iconst 1, 1) := by decide +kernel
theorem dL_sum_17 : decode cL_sum 17 = .ok (.ireturn, 1) := by decide +kernel
theorem dL_sum_18 : decode cL_sum 18 = .ok (.iconst 0, 1) := by decide +kernel
theorem dL_sum_19 : decode cL_sum 19 = .ok (.ireturn, 1) := by decide +kernel
set_option maxRecDepth 20000 in
theorem ggL_visible_X7_visible : GoodIn wsL_visible wsX7_visible := goodIn_ca (goodIn_ca (goodIn_r _ [7, 8, 9, 10, 11, 6, 12, 13, 14, 15, 16, 17, 18, 19, 20, 21, 22, 23, 24, 25, 26, 27, 28, 29, 30, 31, 32, 33, 34, 35, 36, 37, 38, 39, 40, 41, 42, 43, 44, 45, 46, 47, 48, 49, 50, 51, 52, 53, 54, 55, 56, 57, 58, 59, 60, 61, 62, 63, 64, 65, 66, 67, 68, 69, 70, 71, 72, 73, 74, 75, 76, 77, 78, 79, 80, 81, 82, 83, 84, 85, 86, 87, 88, 89, 90, 91, 92, 93, 94, 95, 96, 97, 98, 99, 100, 101, 102, 103, 104, 105, 106, 107, 108, 109, 110, 111, 112] (by decide +kernel) (by decide +kernel)) (goodIn_sub (fun _ h => List.mem_cons_of_mem _ (List.mem_append_left _ (List.mem_append_right _ h))) (by decide +kernel))) (goodIn_sub (fun _ h => List.mem_cons_of_mem _ (List.mem_append_right _ h)) (by decide +kernel))
set_option maxRecDepth 20000 in
theorem gL_visible_X7_visible : GoodIn wsL_visible (wsV RL 62 RX7 yX7_visible wsX7_visible) := goodIn_app (goodIn_of _ (by decide +kernel)) ggL_visible_X7_visible
theorem dL_visible_0 : decode cL_visible 0 = .ok (.aload_n 3, 1) := by decide +kernel
theorem dL_visible_1 : decode cL_visible 1 = .ok (.iconst 0, 1) := by decide +kernel
theorem dL_visible_2 : decode cL_visible 2 = .ok (.aload_n 0, 1) := by decide +kernel
theorem dL_visible_3 : decode cL_visible 3 = .ok (.iload_n 1, 1) := by decide +kernel
theorem dL_visible_4 : decode cL_visible 4 = .ok (.iload_n 2, 1) := by decide +kernel
theorem dL_visible_5 : decode cL_visible 5 = .ok (.invokevirtual 62, 3) := by decide +kernel
theorem dL_visible_8 : decode cL_visible 8 = .ok (.i2l, 1) := by decide +kernel
theorem dL_visible_9 : decode cL_visible 9 = .ok (.lastore, 1) := by decide +kernel
theorem dL_visible_10 : decode cL_visible 10 = .ok (.goto 11, 3) := by decide +kernel
theorem dL_visible_13 : decode cL_visible 13 = .ok (.astore 4, 2) := by decide +kernel
theorem dL_visible_15 : decode cL_visible 15 = .ok (.iconst 1, 1) := by decide +kernel
theorem dL_visible_16 : decode cL_visible 16 = .ok (.ireturn, 1) := by decide +kernel
theorem dL_visible_17 : decode cL_visible 17 = .ok (.astore 4, 2) := by decide +kernel
theorem dL_visible_19 : decode cL_visible 19 = .ok (.iconst 2, 1) := by decide +kernel
theorem dL_visible_20 : decode cL_visible 20 = .ok (.ireturn, 1) := by decide +kernel
theorem dL_visible_21 : decode cL_visible 21 = .ok (.iconst 0, 1) := by decide +kernel
theorem dL_visible_22 : decode cL_visible 22 = .ok (.ireturn, 1) := by decide +kernel
set_option maxRecDepth 20000 in
theorem ggL_hidden_X7_hidden : GoodIn wsL_hidden wsX7_hidden := goodIn_ca (goodIn_r _ [6, 7, 8, 9, 10, 11, 12, 13, 5, 14, 15, 16, 17, 18, 19, 20, 21, 22, 23, 24, 25, 26, 27, 28, 29, 30, 31, 32, 33, 34, 35, 36, 37, 38, 39, 40, 41, 42, 43, 44, 45, 46, 47, 48, 49, 50, 51, 52, 53, 54, 55, 56, 57, 58, 59, 60, 61, 62, 63, 64, 65, 66, 67, 68, 69, 70, 71, 72, 73, 74, 75, 76, 77, 78, 79, 80, 81, 82, 83, 84, 85, 86, 87, 88, 89, 90, 91, 92, 93, 94, 95, 96, 97, 98, 99, 100, 101, 102, 103] (by decide +kernel) (by decide +kernel)) (goodIn_sub (fun _ h => List.mem_cons_of_mem _ (List.mem_append_right _ h)) (by decide +kernel))
set_option maxRecDepth 20000 in
theorem gL_hidden_X7_hidden : GoodIn wsL_hidden (wsV RL 65 RX7 yX7_hidden wsX7_hidden) := goodIn_app (goodIn_of _ (by decide +kernel)) ggL_hidden_X7_hidden
