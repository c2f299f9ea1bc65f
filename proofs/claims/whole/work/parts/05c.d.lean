theorem dX8_endNow_14 : decode cX8_endNow 14 = .ok (.iaload, 1) := by decide +kernel
theorem dX8_endNow_15 : decode cX8_endNow 15 = .ok (.iastore, 1) := by decide +kernel
theorem dX8_endNow_16 : decode cX8_endNow 16 = .ok (.aload_n 0, 1) := by decide +kernel
theorem dX8_endNow_17 : decode cX8_endNow 17 = .ok (.getfield 7, 3) := by decide +kernel
theorem dX8_endNow_20 : decode cX8_endNow 20 = .ok (.iconst 1, 1) := by decide +kernel
theorem dX8_endNow_21 : decode cX8_endNow 21 = .ok (.iaload, 1) := by decide +kernel
theorem dX8_endNow_22 : decode cX8_endNow 22 = .ok (.aload_n 0, 1) := by decide +kernel
theorem dX8_endNow_23 : decode cX8_endNow 23 = .ok (.iload_n 1, 1) := by decide +kernel
theorem dX8_endNow_24 : decode cX8_endNow 24 = .ok (.iconst 4, 1) := by decide +kernel
theorem dX8_endNow_25 : decode cX8_endNow 25 = .ok (.invokevirtual 58, 3) := by decide +kernel
theorem dX8_endNow_28 : decode cX8_endNow 28 = .ok (.isub, 1) := by decide +kernel
theorem dX8_endNow_29 : decode cX8_endNow 29 = .ok (.ireturn, 1) := by decide +kernel
set_option maxRecDepth 20000 in
theorem ggX8_end_X8_whyNotEnd : GoodIn wsX8_end wsX8_whyNotEnd := goodIn_r _ [6, 7, 8, 9, 10, 5, 11, 12, 13, 14, 15, 16, 17, 18, 19, 20, 21, 22, 23, 24, 25, 36, 37, 38, 39, 40, 41, 42, 43, 44, 45, 46, 47, 48, 49] (by decide +kernel) (by decide +kernel)
set_option maxRecDepth 20000 in
theorem gX8_end_X8_whyNotEnd : GoodIn wsX8_end (wsV RX8 100 RX8 yX8_whyNotEnd wsX8_whyNotEnd) := goodIn_app (goodIn_of _ (by decide +kernel)) ggX8_end_X8_whyNotEnd
set_option maxRecDepth 20000 in
theorem ggX8_end_X8_keep : GoodIn wsX8_end wsX8_keep := goodIn_r _ [29, 30, 31, 7, 36, 37, 38, 39, 40, 41, 42, 43, 44, 45, 46, 47, 48, 49] (by decide +kernel) (by decide +kernel)
set_option maxRecDepth 20000 in
theorem gX8_end_X8_keep : GoodIn wsX8_end (wsV RX8 77 RX8 yX8_keep wsX8_keep) := goodIn_app (goodIn_of _ (by decide +kernel)) ggX8_end_X8_keep
set_option maxRecDepth 20000 in
theorem ggX8_end_X8_endNow : GoodIn wsX8_end wsX8_endNow := goodIn_r _ [35, 7, 23, 24, 5, 25, 19, 20, 21, 22, 36, 37, 38, 39, 40, 41, 42, 43, 44, 45, 46, 47, 48, 49] (by decide +kernel) (by decide +kernel)
set_option maxRecDepth 20000 in
theorem gX8_end_X8_endNow : GoodIn wsX8_end (wsV RX8 103 RX8 yX8_endNow wsX8_endNow) := goodIn_app (goodIn_of _ (by decide +kernel)) ggX8_end_X8_endNow
theorem dX8_end_0 : decode cX8_end 0 = .ok (.aload_n 0, 1) := by decide +kernel
theorem dX8_end_1 : decode cX8_end 1 = .ok (.aload_n 0, 1) := by decide +kernel
theorem dX8_end_2 : decode cX8_end 2 = .ok (.iload_n 1, 1) := by decide +kernel
theorem dX8_end_3 : decode cX8_end 3 = .ok (.invokevirtual 100, 3) := by decide +kernel
theorem dX8_end_6 : decode cX8_end 6 = .ok (.putfield 31, 3) := by decide +kernel
theorem dX8_end_9 : decode cX8_end 9 = .ok (.aload_n 0, 1) := by decide +kernel
theorem dX8_end_10 : decode cX8_end 10 = .ok (.getfield 31, 3) := by decide +kernel
theorem dX8_end_13 : decode cX8_end 13 = .ok (.ifCond .eq 5, 3) := by decide +kernel
theorem dX8_end_16 : decode cX8_end 16 = .ok (.iconst 0, 1) := by decide +kernel
theorem dX8_end_17 : decode cX8_end 17 = .ok (.ireturn, 1) := by decide +kernel
theorem dX8_end_18 : decode cX8_end 18 = .ok (.aload_n 0, 1) := by decide +kernel
theorem dX8_end_19 : decode cX8_end 19 = .ok (.invokevirtual 77, 3) := by decide +kernel
theorem dX8_end_22 : decode cX8_end 22 = .ok (.aload_n 0, 1) := by decide +kernel
theorem dX8_end_23 : decode cX8_end 23 = .ok (.iload_n 1, 1) := by decide +kernel
theorem dX8_end_24 : decode cX8_end 24 = .ok (.invokevirtual 103, 3) := by decide +kernel
theorem dX8_end_27 : decode cX8_end 27 = .ok (.ireturn, 1) := by decide +kernel
set_option maxRecDepth 20000 in
theorem ggX8_whyNotLift_X8_isSegment : GoodIn wsX8_whyNotLift wsX8_isSegment := goodIn_r _ [6, 1, 7, 8, 5, 9, 30, 31, 32, 33, 34, 35, 36, 37, 38, 39, 40, 41, 42, 43] (by decide +kernel) (by decide +kernel)
set_option maxRecDepth 20000 in
theorem gX8_whyNotLift_X8_isSegment : GoodIn wsX8_whyNotLift (wsV RX8 94 RX8 yX8_isSegment wsX8_isSegment) := goodIn_app (goodIn_of _ (by decide +kernel)) ggX8_whyNotLift_X8_isSegment
set_option maxRecDepth 20000 in
theorem ggX8_whyNotLift_X8_isValue : GoodIn wsX8_whyNotLift wsX8_isValue := goodIn_r _ [12, 13, 14, 7, 8, 5, 9] (by decide +kernel) (by decide +kernel)
set_option maxRecDepth 20000 in
theorem gX8_whyNotLift_X8_isValue : GoodIn wsX8_whyNotLift (va_wsS RX8 84 yX8_isValue wsX8_isValue) := goodIn_app (goodIn_of _ (by decide +kernel)) ggX8_whyNotLift_X8_isValue
set_option maxRecDepth 20000 in
theorem ggX8_whyNotLift_X8_of : GoodIn wsX8_whyNotLift wsX8_of := goodIn_r _ [18, 1, 19, 20, 5, 21, 30, 31, 32, 33, 34, 35, 36, 37, 38, 39, 40, 41, 42, 43] (by decide +kernel) (by decide +kernel)
set_option maxRecDepth 20000 in
theorem gX8_whyNotLift_X8_of : GoodIn wsX8_whyNotLift (wsV RX8 58 RX8 yX8_of wsX8_of) := goodIn_app (goodIn_of _ (by decide +kernel)) ggX8_whyNotLift_X8_of
set_option maxRecDepth 20000 in
theorem ggX8_whyNotLift_X8_isLive : GoodIn wsX8_whyNotLift wsX8_isLive := goodIn_r _ [25, 15, 16, 17, 5, 18, 1, 19, 20, 21, 30, 31, 32, 33, 34, 35, 36, 37, 38, 39, 40, 41, 42, 43] (by decide +kernel) (by decide +kernel)
set_option maxRecDepth 20000 in
theorem gX8_whyNotLift_X8_isLive : GoodIn wsX8_whyNotLift (wsV RX8 97 RX8 yX8_isLive wsX8_isLive) := goodIn_app (goodIn_of _ (by decide +kernel)) ggX8_whyNotLift_X8_isLive
set_option maxRecDepth 20000 in
theorem ggX8_whyNotLift_X8_isFull : GoodIn wsX8_whyNotLift wsX8_isFull := goodIn_r _ [29, 1, 30, 31, 32, 33, 34, 35, 36, 37, 38, 39, 40, 41, 42, 43] (by decide +kernel) (by decide +kernel)
set_option maxRecDepth 20000 in
theorem gX8_whyNotLift_X8_isFull : GoodIn wsX8_whyNotLift (wsV RX8 69 RX8 yX8_isFull wsX8_isFull) := goodIn_app (goodIn_of _ (by decide +kernel)) ggX8_whyNotLift_X8_isFull
theorem dX8_whyNotLift_0 : decode cX8_whyNotLift 0 = .ok (.aload_n 0, 1) := by decide +kernel
theorem dX8_whyNotLift_1 : decode cX8_whyNotLift 1 = .ok (.iload_n 1, 1) := by decide +kernel
theorem dX8_whyNotLift_2 : decode cX8_whyNotLift 2 = .ok (.invokevirtual 94, 3) := by decide +kernel
theorem dX8_whyNotLift_5 : decode cX8_whyNotLift 5 = .ok (.ifCond .ne 5, 3) := by decide +kernel
theorem dX8_whyNotLift_8 : decode cX8_whyNotLift 8 = .ok (.iconst 1, 1) := by decide +kernel
theorem dX8_whyNotLift_9 : decode cX8_whyNotLift 9 = .ok (.ireturn, 1) := by decide +kernel
theorem dX8_whyNotLift_10 : decode cX8_whyNotLift 10 = .ok (.iload_n 2, 1) := by decide +kernel
theorem dX8_whyNotLift_11 : decode cX8_whyNotLift 11 = .ok (.invokestatic 84, 3) := by decide +kernel
theorem dX8_whyNotLift_14 : decode cX8_whyNotLift 14 = .ok (.ifCond .eq 17, 3) := by decide +kernel
theorem dX8_whyNotLift_17 : decode cX8_whyNotLift 17 = .ok (.aload_n 0, 1) := by decide +kernel
theorem dX8_whyNotLift_18 : decode cX8_whyNotLift 18 = .ok (.iload_n 1, 1) := by decide +kernel
theorem dX8_whyNotLift_19 : decode cX8_whyNotLift 19 = .ok (.iconst 1, 1) := by decide +kernel
theorem dX8_whyNotLift_20 : decode cX8_whyNotLift 20 = .ok (.invokevirtual 58, 3) := by decide +kernel
theorem dX8_whyNotLift_23 : decode cX8_whyNotLift 23 = .ok (.iload_n 2, 1) := by decide +kernel
theorem dX8_whyNotLift_24 : decode cX8_whyNotLift 24 = .ok (.iadd, 1) := by decide +kernel
theorem dX8_whyNotLift_25 : decode cX8_whyNotLift 25 = .ok (.invokestatic 84, 3) := by decide +kernel
theorem dX8_whyNotLift_28 : decode cX8_whyNotLift 28 = .ok (.ifCond .ne 5, 3) := by decide +kernel
theorem dX8_whyNotLift_31 : decode cX8_whyNotLift 31 = .ok (.iconst 2, 1) := by decide +kernel
theorem dX8_whyNotLift_32 : decode cX8_whyNotLift 32 = .ok (.ireturn, 1) := by decide +kernel
theorem dX8_whyNotLift_33 : decode cX8_whyNotLift 33 = .ok (.aload_n 0, 1) := by decide +kernel
theorem dX8_whyNotLift_34 : decode cX8_whyNotLift 34 = .ok (.iload_n 1, 1) := by decide +kernel
theorem dX8_whyNotLift_35 : decode cX8_whyNotLift 35 = .ok (.aload_n 0, 1) := by decide +kernel
theorem dX8_whyNotLift_36 : decode cX8_whyNotLift 36 = .ok (.getfield 7, 3) := by decide +kernel
theorem dX8_whyNotLift_39 : decode cX8_whyNotLift 39 = .ok (.iconst 1, 1) := by decide +kernel
theorem dX8_whyNotLift_40 : decode cX8_whyNotLift 40 = .ok (.iaload, 1) := by decide +kernel
theorem dX8_whyNotLift_41 : decode cX8_whyNotLift 41 = .ok (.invokevirtual 97, 3) := by decide +kernel
theorem dX8_whyNotLift_44 : decode cX8_whyNotLift 44 = .ok (.ifCond .eq 14, 3) := by decide +kernel
theorem dX8_whyNotLift_47 : decode cX8_whyNotLift 47 = .ok (.aload_n 0, 1) := by decide +kernel
theorem dX8_whyNotLift_48 : decode cX8_whyNotLift 48 = .ok (.invokevirtual 69, 3) := by decide +kernel
theorem dX8_whyNotLift_51 : decode cX8_whyNotLift 51 = .ok (.ifCond .ne 7, 3) := by decide +kernel
theorem dX8_whyNotLift_54 : decode cX8_whyNotLift 54 = .ok (.iconst 0, 1) := by decide +kernel
theorem dX8_whyNotLift_55 : decode cX8_whyNotLift 55 = .ok (.goto 4, 3) := by decide +kernel
theorem dX8_whyNotLift_58 : decode cX8_whyNotLift 58 = .ok (.iconst 3, 1) := by decide +kernel
theorem dX8_whyNotLift_59 : decode cX8_whyNotLift 59 = .ok (.ireturn, 1) := by decide +kernel
set_option maxRecDepth 20000 in
theorem ggX8_liftNow_X8_of : GoodIn wsX8_liftNow wsX8_of := goodIn_r _ [6, 1, 7, 8, 5, 9, 14, 15, 16, 17, 18, 19, 20, 21, 22, 23, 24, 25, 26, 27] (by decide +kernel) (by decide +kernel)
set_option maxRecDepth 20000 in
theorem gX8_liftNow_X8_of : GoodIn wsX8_liftNow (wsV RX8 58 RX8 yX8_of wsX8_of) := goodIn_app (goodIn_of _ (by decide +kernel)) ggX8_liftNow_X8_of
set_option maxRecDepth 20000 in
theorem ggX8_liftNow_X8_cell : GoodIn wsX8_liftNow wsX8_cell := goodIn_r _ [9] (by decide +kernel) (by decide +kernel)
set_option maxRecDepth 20000 in
theorem gX8_liftNow_X8_cell : GoodIn wsX8_liftNow (va_wsS RX8 38 yX8_cell wsX8_cell) := goodIn_app (goodIn_of _ (by decide +kernel)) ggX8_liftNow_X8_cell
set_option maxRecDepth 20000 in
theorem ggX8_liftNow_X8_put : GoodIn wsX8_liftNow wsX8_put := goodIn_r _ [13, 1, 7, 8, 5, 9, 14, 15, 16, 17, 18, 19, 20, 21, 22, 23, 24, 25, 26, 27] (by decide +kernel) (by decide +kernel)
set_option maxRecDepth 20000 in
theorem gX8_liftNow_X8_put : GoodIn wsX8_liftNow (wsV RX8 80 RX8 yX8_put wsX8_put) := goodIn_app (goodIn_of _ (by decide +kernel)) ggX8_liftNow_X8_put
theorem dX8_liftNow_0 : decode cX8_liftNow 0 = .ok (.aload_n 0, 1) := by decide +kernel
theorem dX8_liftNow_1 : decode cX8_liftNow 1 = .ok (.iload_n 1, 1) := by decide +kernel
theorem dX8_liftNow_2 : decode cX8_liftNow 2 = .ok (.iconst 5, 1) := by decide +kernel
theorem dX8_liftNow_3 : decode cX8_liftNow 3 = .ok (.invokevirtual 58, 3) := by decide +kernel
theorem dX8_liftNow_6 : decode cX8_liftNow 6 = .ok (.istore_n 3, 1) := by decide +kernel
theorem dX8_liftNow_7 : decode cX8_liftNow 7 = .ok (.aload_n 0, 1) := by decide +kernel
theorem dX8_liftNow_8 : decode cX8_liftNow 8 = .ok (.getfield 7, 3) := by decide +kernel
theorem dX8_liftNow_11 : decode cX8_liftNow 11 = .ok (.iload_n 1, 1) := by decide +kernel
theorem dX8_liftNow_12 : decode cX8_liftNow 12 = .ok (.iconst 5, 1) := by decide +kernel
theorem dX8_liftNow_13 : decode cX8_liftNow 13 = .ok (.invokestatic 38, 3) := by decide +kernel
theorem dX8_liftNow_16 : decode cX8_liftNow 16 = .ok (.aload_n 0, 1) := by decide +kernel
theorem dX8_liftNow_17 : decode cX8_liftNow 17 = .ok (.getfield 7, 3) := by decide +kernel
theorem dX8_liftNow_20 : decode cX8_liftNow 20 = .ok (.iconst 1, 1) := by decide +kernel
theorem dX8_liftNow_21 : decode cX8_liftNow 21 = .ok (.iaload, 1) := by decide +kernel
theorem dX8_liftNow_22 : decode cX8_liftNow 22 = .ok (.iastore, 1) := by decide +kernel
theorem dX8_liftNow_23 : decode cX8_liftNow 23 = .ok (.aload_n 0, 1) := by decide +kernel
theorem dX8_liftNow_24 : decode cX8_liftNow 24 = .ok (.aload_n 0, 1) := by decide +kernel
theorem dX8_liftNow_25 : decode cX8_liftNow 25 = .ok (.iload_n 1, 1) := by decide +kernel
theorem dX8_liftNow_26 : decode cX8_liftNow 26 = .ok (.iconst 0, 1) := by decide +kernel
theorem dX8_liftNow_27 : decode cX8_liftNow 27 = .ok (.invokevirtual 58, 3) := by decide +kernel
theorem dX8_liftNow_30 : decode cX8_liftNow 30 = .ok (.aload_n 0, 1) := by decide +kernel
theorem dX8_liftNow_31 : decode cX8_liftNow 31 = .ok (.iload_n 1, 1) := by decide +kernel
theorem dX8_liftNow_32 : decode cX8_liftNow 32 = .ok (.iconst 1, 1) := by decide +kernel
theorem dX8_liftNow_33 : decode cX8_liftNow 33 = .ok (.invokevirtual 58, 3) := by decide +kernel
theorem dX8_liftNow_36 : decode cX8_liftNow 36 = .ok (.iload_n 2, 1) := by decide +kernel
theorem dX8_liftNow_37 : decode cX8_liftNow 37 = .ok (.iadd, 1) := by decide +kernel
theorem dX8_liftNow_38 : decode cX8_liftNow 38 = .ok (.aload_n 0, 1) := by decide +kernel
theorem dX8_liftNow_39 : decode cX8_liftNow 39 = .ok (.iload_n 1, 1) := by decide +kernel
theorem dX8_liftNow_40 : decode cX8_liftNow 40 = .ok (.iconst 2, 1) := by decide +kernel
theorem dX8_liftNow_41 : decode cX8_liftNow 41 = .ok (.invokevirtual 58, 3) := by decide +kernel
theorem dX8_liftNow_44 : decode cX8_liftNow 44 = .ok (.aload_n 0, 1) := by decide +kernel
theorem dX8_liftNow_45 : decode cX8_liftNow 45 = .ok (.iload_n 1, 1) := by decide +kernel
theorem dX8_liftNow_46 : decode cX8_liftNow 46 = .ok (.iconst 3, 1) := by decide +kernel
theorem dX8_liftNow_47 : decode cX8_liftNow 47 = .ok (.invokevirtual 58, 3) := by decide +kernel
theorem dX8_liftNow_50 : decode cX8_liftNow 50 = .ok (.aload_n 0, 1) := by decide +kernel
theorem dX8_liftNow_51 : decode cX8_liftNow 51 = .ok (.getfield 7, 3) := by decide +kernel
theorem dX8_liftNow_54 : decode cX8_liftNow 54 = .ok (.iconst 1, 1) := by decide +kernel
theorem dX8_liftNow_55 : decode cX8_liftNow 55 = .ok (.iaload, 1) := by decide +kernel
theorem dX8_liftNow_56 : decode cX8_liftNow 56 = .ok (.iload_n 3, 1) := by decide +kernel
theorem dX8_liftNow_57 : decode cX8_liftNow 57 = .ok (.invokevirtual 80, 3) := by decide +kernel
theorem dX8_liftNow_60 : decode cX8_liftNow 60 = .ok (.ireturn, 1) := by decide +kernel
set_option maxRecDepth 20000 in
theorem ggX8_lift_X8_whyNotLift : GoodIn wsX8_lift wsX8_whyNotLift := goodIn_r _ [6, 7, 8, 9, 10, 5, 11, 12, 13, 14, 15, 16, 17, 18, 19, 20, 21, 22, 23, 24, 25, 26, 27, 28, 29, 30, 31, 32, 33, 34, 49, 50, 51, 52, 53, 54, 55, 56, 57, 58, 59, 60, 61, 62] (by decide +kernel) (by decide +kernel)
set_option maxRecDepth 20000 in
theorem gX8_lift_X8_whyNotLift : GoodIn wsX8_lift (wsV RX8 106 RX8 yX8_whyNotLift wsX8_whyNotLift) := goodIn_app (goodIn_of _ (by decide +kernel)) ggX8_lift_X8_whyNotLift
set_option maxRecDepth 20000 in
theorem ggX8_lift_X8_keep : GoodIn wsX8_lift wsX8_keep := goodIn_r _ [38, 39, 40, 7, 49, 50, 51, 52, 53, 54, 55, 56, 57, 58, 59, 60, 61, 62] (by decide +kernel) (by decide +kernel)
set_option maxRecDepth 20000 in
theorem gX8_lift_X8_keep : GoodIn wsX8_lift (wsV RX8 77 RX8 yX8_keep wsX8_keep) := goodIn_app (goodIn_of _ (by decide +kernel)) ggX8_lift_X8_keep
set_option maxRecDepth 20000 in
theorem ggX8_lift_X8_liftNow : GoodIn wsX8_lift wsX8_liftNow := goodIn_r _ [44, 7, 20, 21, 22, 5, 23, 24, 25, 26, 45, 46, 47, 48, 49, 50, 51, 52, 53, 54, 55, 56, 57, 58, 59, 60, 61, 62] (by decide +kernel) (by decide +kernel)
set_option maxRecDepth 20000 in
theorem gX8_lift_X8_liftNow : GoodIn wsX8_lift (wsV RX8 109 RX8 yX8_liftNow wsX8_liftNow) := goodIn_app (goodIn_of _ (by decide +kernel)) ggX8_lift_X8_liftNow
theorem dX8_lift_0 : decode cX8_lift 0 = .ok (.aload_n 0, 1) := by decide +kernel
theorem dX8_lift_1 : decode cX8_lift 1 = .ok (.aload_n 0, 1) := by decide +kernel
theorem dX8_lift_2 : decode cX8_lift 2 = .ok (.iload_n 1, 1) := by decide +kernel
theorem dX8_lift_3 : decode cX8_lift 3 = .ok (.iload_n 2, 1) := by decide +kernel
theorem dX8_lift_4 : decode cX8_lift 4 = .ok (.invokevirtual 106, 3) := by decide +kernel
theorem dX8_lift_7 : decode cX8_lift 7 = .ok (.putfield 31, 3) := by decide +kernel
theorem dX8_lift_10 : decode cX8_lift 10 = .ok (.aload_n 0, 1) := by decide +kernel
theorem dX8_lift_11 : decode cX8_lift 11 = .ok (.getfield 31, 3) := by decide +kernel
theorem dX8_lift_14 : decode cX8_lift 14 = .ok (.ifCond .eq 5, 3) := by decide +kernel
theorem dX8_lift_17 : decode cX8_lift 17 = .ok (.iconst 0, 1) := by decide +kernel
theorem dX8_lift_18 : decode cX8_lift 18 = .ok (.ireturn, 1) := by decide +kernel
theorem dX8_lift_19 : decode cX8_lift 19 = .ok (.aload_n 0, 1) := by decide +kernel
theorem dX8_lift_20 : decode cX8_lift 20 = .ok (.invokevirtual 77, 3) := by decide +kernel
theorem dX8_lift_23 : decode cX8_lift 23 = .ok (.aload_n 0, 1) := by decide +kernel
theorem dX8_lift_24 : decode cX8_lift 24 = .ok (.iload_n 1, 1) := by decide +kernel
theorem dX8_lift_25 : decode cX8_lift 25 = .ok (.iload_n 2, 1) := by decide +kernel
theorem dX8_lift_26 : decode cX8_lift 26 = .ok (.invokevirtual 109, 3) := by decide +kernel
theorem dX8_lift_29 : decode cX8_lift 29 = .ok (.ireturn, 1) := by decide +kernel
set_option maxRecDepth 20000 in
theorem ggX8_whyNotPass_X8_in : GoodIn wsX8_whyNotPass wsX8_in := goodIn_r _ [6] (by decide +kernel) (by decide +kernel)
set_option maxRecDepth 20000 in
theorem gX8_whyNotPass_X8_in : GoodIn wsX8_whyNotPass (va_wsS RX8 42 yX8_in wsX8_in) := goodIn_app (goodIn_of _ (by decide +kernel)) ggX8_whyNotPass_X8_in
theorem dX8_whyNotPass_0 : decode cX8_whyNotPass 0 = .ok (.iload_n 1, 1) := by decide +kernel
theorem dX8_whyNotPass_1 : decode cX8_whyNotPass 1 = .ok (.i2l, 1) := by decide +kernel
theorem dX8_whyNotPass_2 : decode cX8_whyNotPass 2 = .ok (.lconst 0, 1) := by decide +kernel
theorem dX8_whyNotPass_3 : decode cX8_whyNotPass 3 = .ok (.ldc2_w 52, 3) := by decide +kernel
theorem dX8_whyNotPass_6 : decode cX8_whyNotPass 6 = .ok (.invokestatic 42, 3) := by decide +kernel
theorem dX8_whyNotPass_9 : decode cX8_whyNotPass 9 = .ok (.ifCond .ne 7, 3) := by decide +kernel
theorem dX8_whyNotPass_12 : decode cX8_whyNotPass 12 = .ok (.iconst 1, 1) := by decide +kernel
theorem dX8_whyNotPass_13 : decode cX8_whyNotPass 13 = .ok (.goto 22, 3) := by decide +kernel
theorem dX8_whyNotPass_16 : decode cX8_whyNotPass 16 = .ok (.aload_n 0, 1) := by decide +kernel
theorem dX8_whyNotPass_17 : decode cX8_whyNotPass 17 = .ok (.getfield 7, 3) := by decide +kernel
theorem dX8_whyNotPass_20 : decode cX8_whyNotPass 20 = .ok (.iconst 1, 1) := by decide +kernel
theorem dX8_whyNotPass_21 : decode cX8_whyNotPass 21 = .ok (.iaload, 1) := by decide +kernel
theorem dX8_whyNotPass_22 : decode cX8_whyNotPass 22 = .ok (.iload_n 1, 1) := by decide +kernel
theorem dX8_whyNotPass_23 : decode cX8_whyNotPass 23 = .ok (.iadd, 1) := by decide +kernel
theorem dX8_whyNotPass_24 : decode cX8_whyNotPass 24 = .ok (.sipush 16383, 3) := by decide +kernel
theorem dX8_whyNotPass_27 : decode cX8_whyNotPass 27 = .ok (.if_icmp .le 7, 3) := by decide +kernel
theorem dX8_whyNotPass_30 : decode cX8_whyNotPass 30 = .ok (.iconst 2, 1) := by decide +kernel
theorem dX8_whyNotPass_31 : decode cX8_whyNotPass 31 = .ok (.goto 4, 3) := by decide +kernel
theorem dX8_whyNotPass_34 : decode cX8_whyNotPass 34 = .ok (.iconst 0, 1) := by decide +kernel
theorem dX8_whyNotPass_35 : decode cX8_whyNotPass 35 = .ok (.ireturn, 1) := by decide +kernel
set_option maxRecDepth 20000 in
theorem ggX8_pass_X8_whyNotPass : GoodIn wsX8_pass wsX8_whyNotPass := goodIn_r _ [7, 8, 2, 9, 10, 6, 11, 18, 19, 20, 21, 22, 23, 24, 25, 26, 27, 28, 29, 30, 31] (by decide +kernel) (by decide +kernel)
set_option maxRecDepth 20000 in
theorem gX8_pass_X8_whyNotPass : GoodIn wsX8_pass (wsV RX8 112 RX8 yX8_whyNotPass wsX8_whyNotPass) := goodIn_app (goodIn_of _ (by decide +kernel)) ggX8_pass_X8_whyNotPass
set_option maxRecDepth 20000 in
theorem ggX8_pass_X8_keep : GoodIn wsX8_pass wsX8_keep := goodIn_r _ [15, 16, 17, 2, 18, 19, 20, 21, 22, 23, 24, 25, 26, 27, 28, 29, 30, 31] (by decide +kernel) (by decide +kernel)
set_option maxRecDepth 20000 in
theorem gX8_pass_X8_keep : GoodIn wsX8_pass (wsV RX8 77 RX8 yX8_keep wsX8_keep) := goodIn_app (goodIn_of _ (by decide +kernel)) ggX8_pass_X8_keep
theorem dX8_pass_0 : decode cX8_pass 0 = .ok (.aload_n 0, 1) := by decide +kernel
theorem dX8_pass_1 : decode cX8_pass 1 = .ok (.aload_n 0, 1) := by decide +kernel
theorem dX8_pass_2 : decode cX8_pass 2 = .ok (.iload_n 1, 1) := by decide +kernel
theorem dX8_pass_3 : decode cX8_pass 3 = .ok (.invokevirtual 112, 3) := by decide +kernel
theorem dX8_pass_6 : decode cX8_pass 6 = .ok (.putfield 31, 3) := by decide +kernel
theorem dX8_pass_9 : decode cX8_pass 9 = .ok (.aload_n 0, 1) := by decide +kernel
theorem dX8_pass_10 : decode cX8_pass 10 = .ok (.getfield 31, 3) := by decide +kernel
theorem dX8_pass_13 : decode cX8_pass 13 = .ok (.ifCond .eq 5, 3) := by decide +kernel
theorem dX8_pass_16 : decode cX8_pass 16 = .ok (.iconst 0, 1) := by decide +kernel
theorem dX8_pass_17 : decode cX8_pass 17 = .ok (.ireturn, 1) := by decide +kernel
theorem dX8_pass_18 : decode cX8_pass 18 = .ok (.aload_n 0, 1) := by decide +kernel
theorem dX8_pass_19 : decode cX8_pass 19 = .ok (.invokevirtual 77, 3) := by decide +kernel
theorem dX8_pass_22 : decode cX8_pass 22 = .ok (.aload_n 0, 1) := by decide +kernel
theorem dX8_pass_23 : decode cX8_pass 23 = .ok (.getfield 7, 3) := by decide +kernel
theorem dX8_pass_26 : decode cX8_pass 26 = .ok (.iconst 1, 1) := by decide +kernel
theorem dX8_pass_27 : decode cX8_pass 27 = .ok (.dup2, 1) := by decide +kernel
theorem dX8_pass_28 : decode cX8_pass 28 = .ok (.iaload, 1) := by decide +kernel
theorem dX8_pass_29 : decode cX8_pass 29 = .ok (.iload_n 1, 1) := by decide +kernel
theorem dX8_pass_30 : decode cX8_pass 30 = .ok (.iadd, 1) := by decide +kernel
theorem dX8_pass_31 : decode cX8_pass 31 = .ok (.iastore, 1) := by decide +kernel
theorem dX8_pass_32 : decode cX8_pass 32 = .ok (.aload_n 0, 1) := by decide +kernel
theorem dX8_pass_33 : decode cX8_pass 33 = .ok (.getfield 7, 3) := by decide +kernel
theorem dX8_pass_36 : decode cX8_pass 36 = .ok (.iconst 1, 1) := by decide +kernel
theorem dX8_pass_37 : decode cX8_pass 37 = .ok (.iaload, 1) := by decide +kernel
theorem dX8_pass_38 : decode cX8_pass 38 = .ok (.ireturn, 1) := by decide +kernel
theorem dX8_now_0 : decode cX8_now 0 = .ok (.aload_n 0, 1) := by decide +kernel
theorem dX8_now_1 : decode cX8_now 1 = .ok (.iconst 0, 1) := by decide +kernel
theorem dX8_now_2 : decode cX8_now 2 = .ok (.putfield 31, 3) := by decide +kernel
theorem dX8_now_5 : decode cX8_now 5 = .ok (.aload_n 0, 1) := by decide +kernel
theorem dX8_now_6 : decode cX8_now 6 = .ok (.getfield 7, 3) := by decide +kernel
theorem dX8_now_9 : decode cX8_now 9 = .ok (.iconst 1, 1) := by decide +kernel
theorem dX8_now_10 : decode cX8_now 10 = .ok (.iaload, 1) := by decide +kernel
theorem dX8_now_11 : decode cX8_now 11 = .ok (.ireturn, 1) := by decide +kernel
theorem dX8_segments_0 : decode cX8_segments 0 = .ok (.aload_n 0, 1) := by decide +kernel
theorem dX8_segments_1 : decode cX8_segments 1 = .ok (.iconst 0, 1) := by decide +kernel
theorem dX8_segments_2 : decode cX8_segments 2 = .ok (.putfield 31, 3) := by decide +kernel
theorem dX8_segments_5 : decode cX8_segments 5 = .ok (.aload_n 0, 1) := by decide +kernel
theorem dX8_segments_6 : decode cX8_segments 6 = .ok (.getfield 7, 3) := by decide +kernel
theorem dX8_segments_9 : decode cX8_segments 9 = .ok (.iconst 0, 1) := by decide +kernel
theorem dX8_segments_10 : decode cX8_segments 10 = .ok (.iaload, 1) := by decide +kernel
theorem dX8_segments_11 : decode cX8_segments 11 = .ok (.ireturn, 1) := by decide +kernel
set_option maxRecDepth 20000 in
theorem ggX8_segment_X8_isSegment : GoodIn wsX8_segment wsX8_isSegment := goodIn_r _ [7, 8, 9, 10, 6, 11, 23, 24, 25, 26, 27, 28, 29, 30, 31, 32, 33, 34, 35, 36] (by decide +kernel) (by decide +kernel)
set_option maxRecDepth 20000 in
theorem gX8_segment_X8_isSegment : GoodIn wsX8_segment (wsV RX8 94 RX8 yX8_isSegment wsX8_isSegment) := goodIn_app (goodIn_of _ (by decide +kernel)) ggX8_segment_X8_isSegment
set_option maxRecDepth 20000 in
theorem ggX8_segment_X8_fails : GoodIn wsX8_segment wsX8_fails := goodIn_r _ [15, 1, 23, 24, 25, 26, 27, 28, 29, 30, 31, 32, 33, 34, 35, 36] (by decide +kernel) (by decide +kernel)
set_option maxRecDepth 20000 in
theorem gX8_segment_X8_fails : GoodIn wsX8_segment (wsV RX8 90 RX8 yX8_fails wsX8_fails) := goodIn_app (goodIn_of _ (by decide +kernel)) ggX8_segment_X8_fails
set_option maxRecDepth 20000 in
theorem ggX8_segment_X8_in : GoodIn wsX8_segment wsX8_in := goodIn_r _ [11] (by decide +kernel) (by decide +kernel)
set_option maxRecDepth 20000 in
theorem gX8_segment_X8_in : GoodIn wsX8_segment (va_wsS RX8 42 yX8_in wsX8_in) := goodIn_app (goodIn_of _ (by decide +kernel)) ggX8_segment_X8_in
set_option maxRecDepth 20000 in
theorem ggX8_segment_X8_of : GoodIn wsX8_segment wsX8_of := goodIn_r _ [19, 8, 20, 21, 6, 22, 23, 24, 25, 26, 27, 28, 29, 30, 31, 32, 33, 34, 35, 36] (by decide +kernel) (by decide +kernel)
set_option maxRecDepth 20000 in
theorem gX8_segment_X8_of : GoodIn wsX8_segment (wsV RX8 58 RX8 yX8_of wsX8_of) := goodIn_app (goodIn_of _ (by decide +kernel)) ggX8_segment_X8_of
theorem dX8_segment_0 : decode cX8_segment 0 = .ok (.aload_n 0, 1) := by decide +kernel
theorem dX8_segment_1 : decode cX8_segment 1 = .ok (.iconst 0, 1) := by decide +kernel
theorem dX8_segment_2 : decode cX8_segment 2 = .ok (.putfield 31, 3) := by decide +kernel
theorem dX8_segment_5 : decode cX8_segment 5 = .ok (.aload_n 0, 1) := by decide +kernel
theorem dX8_segment_6 : decode cX8_segment 6 = .ok (.iload_n 1, 1) := by decide +kernel
theorem dX8_segment_7 : decode cX8_segment 7 = .ok (.invokevirtual 94, 3) := by decide +kernel
theorem dX8_segment_10 : decode cX8_segment 10 = .ok (.ifCond .ne 9, 3) := by decide +kernel
theorem dX8_segment_13 : decode cX8_segment 13 = .ok (.aload_n 0, 1) := by decide +kernel
theorem dX8_segment_14 : decode cX8_segment 14 = .ok (.iconst 1, 1) := by decide +kernel
theorem dX8_segment_15 : decode cX8_segment 15 = .ok (.invokevirtual 90, 3) := by decide +kernel
theorem dX8_segment_18 : decode cX8_segment 18 = .ok (.ireturn, 1) := by decide +kernel
theorem dX8_segment_19 : decode cX8_segment 19 = .ok (.iload_n 2, 1) := by decide +kernel
theorem dX8_segment_20 : decode cX8_segment 20 = .ok (.i2l, 1) := by decide +kernel
theorem dX8_segment_21 : decode cX8_segment 21 = .ok (.lconst 0, 1) := by decide +kernel
theorem dX8_segment_22 : decode cX8_segment 22 = .ok (.ldc2_w 115, 3) := by decide +kernel
theorem dX8_segment_25 : decode cX8_segment 25 = .ok (.invokestatic 42, 3) := by decide +kernel
theorem dX8_segment_28 : decode cX8_segment 28 = .ok (.ifCond .eq 12, 3) := by decide +kernel
theorem dX8_segment_31 : decode cX8_segment 31 = .ok (.aload_n 0, 1) := by decide +kernel
theorem dX8_segment_32 : decode cX8_segment 32 = .ok (.iload_n 1, 1) := by decide +kernel
theorem dX8_segment_33 : decode cX8_segment 33 = .ok (.iload_n 2, 1) := by decide +kernel
theorem dX8_segment_34 : decode cX8_segment 34 = .ok (.invokevirtual 58, 3) := by decide +kernel
theorem dX8_segment_37 : decode cX8_segment 37 = .ok (.goto 8, 3) := by decide +kernel
theorem dX8_segment_40 : decode cX8_segment 40 = .ok (.aload_n 0, 1) := by decide +kernel
theorem dX8_segment_41 : decode cX8_segment 41 = .ok (.iconst 2, 1) := by decide +kernel
theorem dX8_segment_42 : decode cX8_segment 42 = .ok (.invokevirtual 90, 3) := by decide +kernel
theorem dX8_segment_45 : decode cX8_segment 45 = .ok (.ireturn, 1) := by decide +kernel
set_option maxRecDepth 20000 in
theorem ggX8_valueAt_X8_of : GoodIn wsX8_valueAt wsX8_of := goodIn_r _ [5, 6, 7, 8, 4, 9, 10, 11, 12, 13, 14, 15, 16, 17, 18, 19, 20, 21, 22, 23] (by decide +kernel) (by decide +kernel)
set_option maxRecDepth 20000 in
theorem gX8_valueAt_X8_of : GoodIn wsX8_valueAt (wsV RX8 58 RX8 yX8_of wsX8_of) := goodIn_app (goodIn_of _ (by decide +kernel)) ggX8_valueAt_X8_of
theorem dX8_valueAt_0 : decode cX8_valueAt 0 = .ok (.aload_n 0, 1) := by decide +kernel
theorem dX8_valueAt_1 : decode cX8_valueAt 1 = .ok (.iload_n 1, 1) := by decide +kernel
theorem dX8_valueAt_2 : decode cX8_valueAt 2 = .ok (.iconst 0, 1) := by decide +kernel
theorem dX8_valueAt_3 : decode cX8_valueAt 3 = .ok (.invokevirtual 58, 3) := by decide +kernel
theorem dX8_valueAt_6 : decode cX8_valueAt 6 = .ok (.iload_n 2, 1) := by decide +kernel
theorem dX8_valueAt_7 : decode cX8_valueAt 7 = .ok (.imul, 1) := by decide +kernel
theorem dX8_valueAt_8 : decode cX8_valueAt 8 = .ok (.aload_n 0, 1) := by decide +kernel
theorem dX8_valueAt_9 : decode cX8_valueAt 9 = .ok (.iload_n 1, 1) := by decide +kernel
theorem dX8_valueAt_10 : decode cX8_valueAt 10 = .ok (.iconst 1, 1) := by decide +kernel
theorem dX8_valueAt_11 : decode cX8_valueAt 11 = .ok (.invokevirtual 58, 3) := by decide +kernel
theorem dX8_valueAt_14 : decode cX8_valueAt 14 = .ok (.iadd, 1) := by decide +kernel
theorem dX8_valueAt_15 : decode cX8_valueAt 15 = .ok (.ireturn, 1) := by decide +kernel
set_option maxRecDepth 20000 in
theorem ggX8_isThere_X8_isLive : GoodIn wsX8_isThere wsX8_isLive := goodIn_r _ [5, 6, 7, 8, 4, 9, 10, 11, 12, 13, 17, 18, 19, 20, 21, 22, 23, 24, 25, 26, 27, 28, 29, 30] (by decide +kernel) (by decide +kernel)
set_option maxRecDepth 20000 in
theorem gX8_isThere_X8_isLive : GoodIn wsX8_isThere (wsV RX8 97 RX8 yX8_isLive wsX8_isLive) := goodIn_app (goodIn_of _ (by decide +kernel)) ggX8_isThere_X8_isLive
set_option maxRecDepth 20000 in
theorem ggX8_isThere_X8_of : GoodIn wsX8_isThere wsX8_of := goodIn_r _ [9, 10, 11, 12, 4, 13, 17, 18, 19, 20, 21, 22, 23, 24, 25, 26, 27, 28, 29, 30] (by decide +kernel) (by decide +kernel)
set_option maxRecDepth 20000 in
theorem gX8_isThere_X8_of : GoodIn wsX8_isThere (wsV RX8 58 RX8 yX8_of wsX8_of) := goodIn_app (goodIn_of _ (by decide +kernel)) ggX8_isThere_X8_of
set_option maxRecDepth 20000 in
theorem ggX8_isThere_X8_in : GoodIn wsX8_isThere wsX8_in := goodIn_r _ [16] (by decide +kernel) (by decide +kernel)
set_option maxRecDepth 20000 in
theorem gX8_isThere_X8_in : GoodIn wsX8_isThere (va_wsS RX8 42 yX8_in wsX8_in) := goodIn_app (goodIn_of _ (by decide +kernel)) ggX8_isThere_X8_in
theorem dX8_isThere_0 : decode cX8_isThere 0 = .ok (.aload_n 0, 1) := by decide +kernel
theorem dX8_isThere_1 : decode cX8_isThere 1 = .ok (.iload_n 1, 1) := by decide +kernel
theorem dX8_isThere_2 : decode cX8_isThere 2 = .ok (.iload_n 3, 1) := by decide +kernel
theorem dX8_isThere_3 : decode cX8_isThere 3 = .ok (.invokevirtual 97, 3) := by decide +kernel
theorem dX8_isThere_6 : decode cX8_isThere 6 = .ok (.ifCond .eq 29, 3) := by decide +kernel
theorem dX8_isThere_9 : decode cX8_isThere 9 = .ok (.iload_n 2, 1) := by decide +kernel
theorem dX8_isThere_10 : decode cX8_isThere 10 = .ok (.i2l, 1) := by decide +kernel
theorem dX8_isThere_11 : decode cX8_isThere 11 = .ok (.aload_n 0, 1) := by decide +kernel
theorem dX8_isThere_12 : decode cX8_isThere 12 = .ok (.iload_n 1, 1) := by decide +kernel
theorem dX8_isThere_13 : decode cX8_isThere 13 = .ok (.iconst 2, 1) := by decide +kernel
theorem dX8_isThere_14 : decode cX8_isThere 14 = .ok (.invokevirtual 58, 3) := by decide +kernel
theorem dX8_isThere_17 : decode cX8_isThere 17 = .ok (.i2l, 1) := by decide +kernel
theorem dX8_isThere_18 : decode cX8_isThere 18 = .ok (.aload_n 0, 1) := by decide +kernel
theorem dX8_isThere_19 : decode cX8_isThere 19 = .ok (.iload_n 1, 1) := by decide +kernel
theorem dX8_isThere_20 : decode cX8_isThere 20 = .ok (.iconst 3, 1) := by decide +kernel
theorem dX8_isThere_21 : decode cX8_isThere 21 = .ok (.invokevirtual 58, 3) := by decide +kernel
theorem dX8_isThere_24 : decode cX8_isThere 24 = .ok (.i2l, 1) := by decide +kernel
theorem dX8_isThere_25 : decode cX8_isThere 25 = .ok (.invokestatic 42, 3) := by decide +kernel
theorem dX8_isThere_28 : decode cX8_isThere 28 = .ok (.ifCond .eq 7, 3) := by decide +kernel
theorem dX8_isThere_31 : decode cX8_isThere 31 = .ok (.iconst 1, 1) := by decide +kernel
theorem dX8_isThere_32 : decode cX8_isThere 32 = .ok (.goto 4, 3) := by decide +kernel
theorem dX8_isThere_35 : decode cX8_isThere 35 = .ok (.iconst 0, 1) := by decide +kernel
theorem dX8_isThere_36 : decode cX8_isThere 36 = .ok (.ireturn, 1) := by decide +kernel
set_option maxRecDepth 20000 in
theorem ggX8_isBefore_X8_valueAt : GoodIn wsX8_isBefore wsX8_valueAt := goodIn_r _ [5, 6, 7, 8, 4, 9, 10, 11, 12, 13, 14, 15, 16, 17, 18, 19, 20, 21, 22, 23, 24, 25, 26, 27] (by decide +kernel) (by decide +kernel)
set_option maxRecDepth 20000 in
theorem gX8_isBefore_X8_valueAt : GoodIn wsX8_isBefore (wsV RX8 117 RX8 yX8_valueAt wsX8_valueAt) := goodIn_app (goodIn_of _ (by decide +kernel)) ggX8_isBefore_X8_valueAt
theorem dX8_isBefore_0 : decode cX8_isBefore 0 = .ok (.aload_n 0, 1) := by decide +kernel
theorem dX8_isBefore_1 : decode cX8_isBefore 1 = .ok (.iload_n 1, 1) := by decide +kernel
theorem dX8_isBefore_2 : decode cX8_isBefore 2 = .ok (.iload_n 3, 1) := by decide +kernel
theorem dX8_isBefore_3 : decode cX8_isBefore 3 = .ok (.invokevirtual 117, 3) := by decide +kernel
theorem dX8_isBefore_6 : decode cX8_isBefore 6 = .ok (.istore 4, 2) := by decide +kernel
theorem dX8_isBefore_8 : decode cX8_isBefore 8 = .ok (.aload_n 0, 1) := by decide +kernel
theorem dX8_isBefore_9 : decode cX8_isBefore 9 = .ok (.iload_n 2, 1) := by decide +kernel
theorem dX8_isBefore_10 : decode cX8_isBefore 10 = .ok (.iload_n 3, 1) := by decide +kernel
theorem dX8_isBefore_11 : decode cX8_isBefore 11 = .ok (.invokevirtual 117, 3) := by decide +kernel
theorem dX8_isBefore_14 : decode cX8_isBefore 14 = .ok (.istore 5, 2) := by decide +kernel
theorem dX8_isBefore_16 : decode cX8_isBefore 16 = .ok (.iload 4, 2) := by decide +kernel
theorem dX8_isBefore_18 : decode cX8_isBefore 18 = .ok (.iload 5, 2) := by decide +kernel
theorem dX8_isBefore_20 : decode cX8_isBefore 20 = .ok (.if_icmp .lt 15, 3) := by decide +kernel
theorem dX8_isBefore_23 : decode cX8_isBefore 23 = .ok (.iload 4, 2) := by decide +kernel
theorem dX8_isBefore_25 : decode cX8_isBefore 25 = .ok (.iload 5, 2) := by decide +kernel
theorem dX8_isBefore_27 : decode cX8_isBefore 27 = .ok (.if_icmp .ne 12, 3) := by decide +kernel
theorem dX8_isBefore_30 : decode cX8_isBefore 30 = .ok (.iload_n 1, 1) := by decide +kernel
theorem dX8_isBefore_31 : decode cX8_isBefore 31 = .ok (.iload_n 2, 1) := by decide +kernel
theorem dX8_isBefore_32 : decode cX8_isBefore 32 = .ok (.if_icmp .ge 7, 3) := by decide +kernel
theorem dX8_isBefore_35 : decode cX8_isBefore 35 = .ok (.iconst 1, 1) := by decide +kernel
theorem dX8_isBefore_36 : decode cX8_isBefore 36 = .ok (.goto 4, 3) := by decide +kernel
theorem dX8_isBefore_39 : decode cX8_isBefore 39 = .ok (.iconst 0, 1) := by decide +kernel
theorem dX8_isBefore_40 : decode cX8_isBefore 40 = .ok (.ireturn, 1) := by decide +kernel
set_option maxRecDepth 20000 in
theorem ggX8_firstAt_X8_isThere : GoodIn wsX8_firstAt wsX8_isThere := goodIn_r _ [6, 7, 8, 9, 5, 10, 11, 12, 13, 14, 1, 15, 16, 17, 18, 19, 20, 29, 30, 31, 32, 33, 34, 35, 36, 37, 38, 39, 40, 41, 42] (by decide +kernel) (by decide +kernel)
set_option maxRecDepth 20000 in
theorem gX8_firstAt_X8_isThere : GoodIn wsX8_firstAt (wsV RX8 120 RX8 yX8_isThere wsX8_isThere) := goodIn_app (goodIn_of _ (by decide +kernel)) ggX8_firstAt_X8_isThere
set_option maxRecDepth 20000 in
theorem ggX8_firstAt_X8_isBefore : GoodIn wsX8_firstAt wsX8_isBefore := goodIn_r _ [24, 25, 26, 27, 5, 28, 11, 12, 13, 14, 1, 15, 16, 17, 29, 30, 31, 32, 33, 34, 35, 36, 37, 38, 39, 40, 41, 42] (by decide +kernel) (by decide +kernel)
set_option maxRecDepth 20000 in
theorem gX8_firstAt_X8_isBefore : GoodIn wsX8_firstAt (wsV RX8 124 RX8 yX8_isBefore wsX8_isBefore) := goodIn_app (goodIn_of _ (by decide +kernel)) ggX8_firstAt_X8_isBefore
theorem dX8_firstAt_0 : decode cX8_firstAt 0 = .ok (.iconst (-1), 1) := by decide +kernel
theorem dX8_firstAt_1 : decode cX8_firstAt 1 = .ok (.istore_n 3, 1) := by decide +kernel
theorem dX8_firstAt_2 : decode cX8_firstAt 2 = .ok (.iconst 0, 1) := by decide +kernel
theorem dX8_firstAt_3 : decode cX8_firstAt 3 = .ok (.istore 4, 2) := by decide +kernel
theorem dX8_firstAt_5 : decode cX8_firstAt 5 = .ok (.iload 4, 2) := by decide +kernel
theorem dX8_firstAt_7 : decode cX8_firstAt 7 = .ok (.aload_n 0, 1) := by decide +kernel
theorem dX8_firstAt_8 : decode cX8_firstAt 8 = .ok (.getfield 7, 3) := by decide +kernel
theorem dX8_firstAt_11 : decode cX8_firstAt 11 = .ok (.iconst 0, 1) := by decide +kernel
theorem dX8_firstAt_12 : decode cX8_firstAt 12 = .ok (.iaload, 1) := by decide +kernel
theorem dX8_firstAt_13 : decode cX8_firstAt 13 = .ok (.if_icmp .ge 43, 3) := by decide +kernel
theorem dX8_firstAt_16 : decode cX8_firstAt 16 = .ok (.aload_n 0, 1) := by decide +kernel
theorem dX8_firstAt_17 : decode cX8_firstAt 17 = .ok (.iload 4, 2) := by decide +kernel
theorem dX8_firstAt_19 : decode cX8_firstAt 19 = .ok (.iload_n 1, 1) := by decide +kernel
theorem dX8_firstAt_20 : decode cX8_firstAt 20 = .ok (.iload_n 2, 1) := by decide +kernel
theorem dX8_firstAt_21 : decode cX8_firstAt 21 = .ok (.invokevirtual 120, 3) := by decide +kernel
theorem dX8_firstAt_24 : decode cX8_firstAt 24 = .ok (.ifCond .eq 24, 3) := by decide +kernel
theorem dX8_firstAt_27 : decode cX8_firstAt 27 = .ok (.iload_n 3, 1) := by decide +kernel
theorem dX8_firstAt_28 : decode cX8_firstAt 28 = .ok (.iconst (-1), 1) := by decide +kernel
theorem dX8_firstAt_29 : decode cX8_firstAt 29 = .ok (.if_icmp .eq 14, 3) := by decide +kernel
theorem dX8_firstAt_32 : decode cX8_firstAt 32 = .ok (.aload_n 0, 1) := by decide +kernel
theorem dX8_firstAt_33 : decode cX8_firstAt 33 = .ok (.iload 4, 2) := by decide +kernel
theorem dX8_firstAt_35 : decode cX8_firstAt 35 = .ok (.iload_n 3, 1) := by decide +kernel
theorem dX8_firstAt_36 : decode cX8_firstAt 36 = .ok (.iload_n 1, 1) := by decide +kernel
theorem dX8_firstAt_37 : decode cX8_firstAt 37 = .ok (.invokevirtual 124, 3) := by decide +kernel
theorem dX8_firstAt_40 : decode cX8_firstAt 40 = .ok (.ifCond .eq 8, 3) := by decide +kernel
theorem dX8_firstAt_43 : decode cX8_firstAt 43 = .ok (.iload 4, 2) := by decide +kernel
theorem dX8_firstAt_45 : decode cX8_firstAt 45 = .ok (.goto 4, 3) := by decide +kernel
theorem dX8_firstAt_48 : decode cX8_firstAt 48 = .ok (.iload_n 3, 1) := by decide +kernel
theorem dX8_firstAt_49 : decode cX8_firstAt 49 = .ok (.istore_n 3, 1) := by decide +kernel
theorem dX8_firstAt_50 : decode cX8_firstAt 50 = .ok (.iinc 4 1, 3) := by decide +kernel
theorem dX8_firstAt_53 : decode cX8_firstAt 53 = .ok (.goto (-48), 3) := by decide +kernel
theorem dX8_firstAt_56 : decode cX8_firstAt 56 = .ok (.iload_n 3, 1) := by decide +kernel
theorem dX8_firstAt_57 : decode cX8_firstAt 57 = .ok (.ireturn, 1) := by decide +kernel
set_option maxRecDepth 20000 in
theorem ggX8_isPlace_X8_isPosition : GoodIn wsX8_isPlace wsX8_isPosition := goodIn_r _ [4, 5, 6, 7, 3, 8] (by decide +kernel) (by decide +kernel)
set_option maxRecDepth 20000 in
theorem gX8_isPlace_X8_isPosition : GoodIn wsX8_isPlace (va_wsS RX8 65 yX8_isPosition wsX8_isPosition) := goodIn_app (goodIn_of _ (by decide +kernel)) ggX8_isPlace_X8_isPosition
set_option maxRecDepth 20000 in
theorem ggX8_isPlace_X8_isTick : GoodIn wsX8_isPlace wsX8_isTick := goodIn_r _ [11, 12, 6, 7, 3, 8] (by decide +kernel) (by decide +kernel)
set_option maxRecDepth 20000 in
theorem gX8_isPlace_X8_isTick : GoodIn wsX8_isPlace (va_wsS RX8 87 yX8_isTick wsX8_isTick) := goodIn_app (goodIn_of _ (by decide +kernel)) ggX8_isPlace_X8_isTick
theorem dX8_isPlace_0 : decode cX8_isPlace 0 = .ok (.iload_n 0, 1) := by decide +kernel
theorem dX8_isPlace_1 : decode cX8_isPlace 1 = .ok (.invokestatic 65, 3) := by decide +kernel
theorem dX8_isPlace_4 : decode cX8_isPlace 4 = .ok (.ifCond .eq 14, 3) := by decide +kernel
theorem dX8_isPlace_7 : decode cX8_isPlace 7 = .ok (.iload_n 1, 1) := by decide +kernel
theorem dX8_isPlace_8 : decode cX8_isPlace 8 = .ok (.invokestatic 87, 3) := by decide +kernel
theorem dX8_isPlace_11 : decode cX8_isPlace 11 = .ok (.ifCond .eq 7, 3) := by decide +kernel
theorem dX8_isPlace_14 : decode cX8_isPlace 14 = .ok (.iconst 1, 1) := by decide +kernel
theorem dX8_isPlace_15 : decode cX8_isPlace 15 = .ok (.goto 4, 3) := by decide +kernel
theorem dX8_isPlace_18 : decode cX8_isPlace 18 = .ok (.iconst 0, 1) := by decide +kernel
theorem dX8_isPlace_19 : decode cX8_isPlace 19 = .ok (.ireturn, 1) := by decide +kernel
set_option maxRecDepth 20000 in
theorem ggX8_minimum_X8_isPlace : GoodIn wsX8_minimum wsX8_isPlace := goodIn_r _ [6, 7, 8, 5, 9, 10, 11, 12, 13, 14, 15, 16, 17] (by decide +kernel) (by decide +kernel)
set_option maxRecDepth 20000 in
theorem gX8_minimum_X8_isPlace : GoodIn wsX8_minimum (va_wsS RX8 127 yX8_isPlace wsX8_isPlace) := goodIn_app (goodIn_of _ (by decide +kernel)) ggX8_minimum_X8_isPlace
set_option maxRecDepth 20000 in
theorem ggX8_minimum_X8_fails : GoodIn wsX8_minimum wsX8_fails := goodIn_r _ [21, 1, 50, 51, 52, 53, 54, 55, 56, 57, 58, 59, 60, 61, 62, 63] (by decide +kernel) (by decide +kernel)
set_option maxRecDepth 20000 in
theorem gX8_minimum_X8_fails : GoodIn wsX8_minimum (wsV RX8 90 RX8 yX8_fails wsX8_fails) := goodIn_app (goodIn_of _ (by decide +kernel)) ggX8_minimum_X8_fails
set_option maxRecDepth 20000 in
theorem ggX8_minimum_X8_firstAt : GoodIn wsX8_minimum wsX8_firstAt := goodIn_r _ [25, 26, 27, 28, 29, 5, 30, 31, 32, 33, 34, 35, 36, 37, 38, 39, 40, 41, 11, 12, 13, 42, 43, 44, 45, 46, 47, 48, 49, 50, 51, 52, 53, 54, 55, 56, 57, 58, 59, 60, 61, 62, 63] (by decide +kernel) (by decide +kernel)
set_option maxRecDepth 20000 in
theorem gX8_minimum_X8_firstAt : GoodIn wsX8_minimum (wsV RX8 130 RX8 yX8_firstAt wsX8_firstAt) := goodIn_app (goodIn_of _ (by decide +kernel)) ggX8_minimum_X8_firstAt
set_option maxRecDepth 20000 in
theorem ggX8_minimum_X8_valueAt : GoodIn wsX8_minimum wsX8_valueAt := goodIn_r _ [49, 35, 36, 37, 5, 38, 26, 39, 40, 41, 50, 51, 52, 53, 54, 55, 56, 57, 58, 59, 60, 61, 62, 63] (by decide +kernel) (by decide +kernel)
set_option maxRecDepth 20000 in
theorem gX8_minimum_X8_valueAt : GoodIn wsX8_minimum (wsV RX8 117 RX8 yX8_valueAt wsX8_valueAt) := goodIn_app (goodIn_of _ (by decide +kernel)) ggX8_minimum_X8_valueAt
theorem dX8_minimum_0 : decode cX8_minimum 0 = .ok (.aload_n 0, 1) := by decide +kernel
theorem dX8_minimum_1 : decode cX8_minimum 1 = .ok (.iconst 0, 1) := by decide +kernel
theorem dX8_minimum_2 : decode cX8_minimum 2 = .ok (.putfield 31, 3) := by decide +kernel
theorem dX8_minimum_5 : decode cX8_minimum 5 = .ok (.iload_n 1, 1) := by decide +kernel
theorem dX8_minimum_6 : decode cX8_minimum 6 = .ok (.iload_n 2, 1) := by decide +kernel
theorem dX8_minimum_7 : decode cX8_minimum 7 = .ok (.invokestatic 127, 3) := by decide +kernel
theorem dX8_minimum_10 : decode cX8_minimum 10 = .ok (.ifCond .ne 10, 3) := by decide +kernel
theorem dX8_minimum_13 : decode cX8_minimum 13 = .ok (.aload_n 0, 1) := by decide +kernel
theorem dX8_minimum_14 : decode cX8_minimum 14 = .ok (.iconst 1, 1) := by decide +kernel
theorem dX8_minimum_15 : decode cX8_minimum 15 = .ok (.invokevirtual 90, 3) := by decide +kernel
theorem dX8_minimum_18 : decode cX8_minimum 18 = .ok (.i2l, 1) := by decide +kernel
theorem dX8_minimum_19 : decode cX8_minimum 19 = .ok (.lreturn, 1) := by decide +kernel
theorem dX8_minimum_20 : decode cX8_minimum 20 = .ok (.aload_n 0, 1) := by decide +kernel
theorem dX8_minimum_21 : decode cX8_minimum 21 = .ok (.iload_n 1, 1) := by decide +kernel
theorem dX8_minimum_22 : decode cX8_minimum 22 = .ok (.iload_n 2, 1) := by decide +kernel
theorem dX8_minimum_23 : decode cX8_minimum 23 = .ok (.invokevirtual 130, 3) := by decide +kernel
theorem dX8_minimum_26 : decode cX8_minimum 26 = .ok (.istore_n 3, 1) := by decide +kernel
theorem dX8_minimum_27 : decode cX8_minimum 27 = .ok (.iload_n 3, 1) := by decide +kernel
theorem dX8_minimum_28 : decode cX8_minimum 28 = .ok (.iconst (-1), 1) := by decide +kernel
theorem dX8_minimum_29 : decode cX8_minimum 29 = .ok (.if_icmp .ne 9, 3) := by decide +kernel
theorem dX8_minimum_32 : decode cX8_minimum 32 = .ok (.ldc2_w 133, 3) := by decide +kernel
theorem dX8_minimum_35 : decode cX8_minimum 35 = .ok (.goto 10, 3) := by decide +kernel
theorem dX8_minimum_38 : decode cX8_minimum 38 = .ok (.aload_n 0, 1) := by decide +kernel
theorem dX8_minimum_39 : decode cX8_minimum 39 = .ok (.iload_n 3, 1) := by decide +kernel
theorem dX8_minimum_40 : decode cX8_minimum 40 = .ok (.iload_n 1, 1) := by decide +kernel
theorem dX8_minimum_41 : decode cX8_minimum 41 = .ok (.invokevirtual 117, 3) := by decide +kernel
theorem dX8_minimum_44 : decode cX8_minimum 44 = .ok (.i2l, 1) := by decide +kernel
theorem dX8_minimum_45 : decode cX8_minimum 45 = .ok (.lreturn, 1) := by decide +kernel
set_option maxRecDepth 20000 in
theorem ggX8_placeOf_X8_isThere : GoodIn wsX8_placeOf wsX8_isThere := goodIn_r _ [6, 7, 8, 9, 5, 10, 11, 12, 13, 14, 1, 15, 16, 17, 18, 19, 20, 29, 30, 31, 32, 33, 34, 35, 36, 37, 38, 39, 40, 41, 42] (by decide +kernel) (by decide +kernel)
set_option maxRecDepth 20000 in
theorem gX8_placeOf_X8_isThere : GoodIn wsX8_placeOf (wsV RX8 120 RX8 yX8_isThere wsX8_isThere) := goodIn_app (goodIn_of _ (by decide +kernel)) ggX8_placeOf_X8_isThere
set_option maxRecDepth 20000 in
theorem ggX8_placeOf_X8_isBefore : GoodIn wsX8_placeOf wsX8_isBefore := goodIn_r _ [24, 25, 26, 27, 5, 28, 11, 12, 13, 14, 1, 15, 16, 17, 29, 30, 31, 32, 33, 34, 35, 36, 37, 38, 39, 40, 41, 42] (by decide +kernel) (by decide +kernel)
set_option maxRecDepth 20000 in
theorem gX8_placeOf_X8_isBefore : GoodIn wsX8_placeOf (wsV RX8 124 RX8 yX8_isBefore wsX8_isBefore) := goodIn_app (goodIn_of _ (by decide +kernel)) ggX8_placeOf_X8_isBefore
theorem dX8_placeOf_0 : decode cX8_placeOf 0 = .ok (.iconst 0, 1) := by decide +kernel
theorem dX8_placeOf_1 : decode cX8_placeOf 1 = .ok (.istore 4, 2) := by decide +kernel
theorem dX8_placeOf_3 : decode cX8_placeOf 3 = .ok (.iconst 0, 1) := by decide +kernel
theorem dX8_placeOf_4 : decode cX8_placeOf 4 = .ok (.istore 5, 2) := by decide +kernel
theorem dX8_placeOf_6 : decode cX8_placeOf 6 = .ok (.iload 5, 2) := by decide +kernel
theorem dX8_placeOf_8 : decode cX8_placeOf 8 = .ok (.aload_n 0, 1) := by decide +kernel
theorem dX8_placeOf_9 : decode cX8_placeOf 9 = .ok (.getfield 7, 3) := by decide +kernel
theorem dX8_placeOf_12 : decode cX8_placeOf 12 = .ok (.iconst 0, 1) := by decide +kernel
theorem dX8_placeOf_13 : decode cX8_placeOf 13 = .ok (.iaload, 1) := by decide +kernel
theorem dX8_placeOf_14 : decode cX8_placeOf 14 = .ok (.if_icmp .ge 41, 3) := by decide +kernel
theorem dX8_placeOf_17 : decode cX8_placeOf 17 = .ok (.iload 4, 2) := by decide +kernel
theorem dX8_placeOf_19 : decode cX8_placeOf 19 = .ok (.aload_n 0, 1) := by decide +kernel
theorem dX8_placeOf_20 : decode cX8_placeOf 20 = .ok (.iload 5, 2) := by decide +kernel
theorem dX8_placeOf_22 : decode cX8_placeOf 22 = .ok (.iload_n 2, 1) := by decide +kernel
theorem dX8_placeOf_23 : decode cX8_placeOf 23 = .ok (.iload_n 3, 1) := by decide +kernel
theorem dX8_placeOf_24 : decode cX8_placeOf 24 = .ok (.invokevirtual 120, 3) := by decide +kernel
theorem dX8_placeOf_27 : decode cX8_placeOf 27 = .ok (.ifCond .eq 18, 3) := by decide +kernel
theorem dX8_placeOf_30 : decode cX8_placeOf 30 = .ok (.aload_n 0, 1) := by decide +kernel
theorem dX8_placeOf_31 : decode cX8_placeOf 31 = .ok (.iload 5, 2) := by decide +kernel
theorem dX8_placeOf_33 : decode cX8_placeOf 33 = .ok (.iload_n 1, 1) := by decide +kernel
theorem dX8_placeOf_34 : decode cX8_placeOf 34 = .ok (.iload_n 2, 1) := by decide +kernel
theorem dX8_placeOf_35 : decode cX8_placeOf 35 = .ok (.invokevirtual 124, 3) := by decide +kernel
theorem dX8_placeOf_38 : decode cX8_placeOf 38 = .ok (.ifCond .eq 7, 3) := by decide +kernel
theorem dX8_placeOf_41 : decode cX8_placeOf 41 = .ok (.iconst 1, 1) := by decide +kernel
theorem dX8_placeOf_42 : decode cX8_placeOf 42 = .ok (.goto 4, 3) := by decide +kernel
theorem dX8_placeOf_45 : decode cX8_placeOf 45 = .ok (.iconst 0, 1) := by decide +kernel
theorem dX8_placeOf_46 : decode cX8_placeOf 46 = .ok (.iadd, 1) := by decide +kernel
theorem dX8_placeOf_47 : decode cX8_placeOf 47 = .ok (.istore 4, 2) := by decide +kernel
theorem dX8_placeOf_49 : decode cX8_placeOf 49 = .ok (.iinc 5 1, 3) := by decide +kernel
theorem dX8_placeOf_52 : decode cX8_placeOf 52 = .ok (.goto (-46), 3) := by decide +kernel
theorem dX8_placeOf_55 : decode cX8_placeOf 55 = .ok (.iload 4, 2) := by decide +kernel
theorem dX8_placeOf_57 : decode cX8_placeOf 57 = .ok (.ireturn, 1) := by decide +kernel
set_option maxRecDepth 20000 in
theorem ggX8_ranked_X8_isPlace : GoodIn wsX8_ranked wsX8_isPlace := goodIn_r _ [6, 7, 8, 5, 9, 10, 11, 12, 13, 14, 15, 16, 17] (by decide +kernel) (by decide +kernel)
set_option maxRecDepth 20000 in
theorem gX8_ranked_X8_isPlace : GoodIn wsX8_ranked (va_wsS RX8 127 yX8_isPlace wsX8_isPlace) := goodIn_app (goodIn_of _ (by decide +kernel)) ggX8_ranked_X8_isPlace
set_option maxRecDepth 20000 in
theorem ggX8_ranked_X8_fails : GoodIn wsX8_ranked wsX8_fails := goodIn_r _ [21, 1, 49, 50, 51, 52, 53, 54, 55, 56, 57, 58, 59, 60, 61, 62] (by decide +kernel) (by decide +kernel)
set_option maxRecDepth 20000 in
theorem gX8_ranked_X8_fails : GoodIn wsX8_ranked (wsV RX8 90 RX8 yX8_fails wsX8_fails) := goodIn_app (goodIn_of _ (by decide +kernel)) ggX8_ranked_X8_fails
set_option maxRecDepth 20000 in
theorem ggX8_ranked_X8_isThere : GoodIn wsX8_ranked wsX8_isThere := goodIn_r _ [25, 26, 27, 28, 5, 29, 30, 31, 32, 33, 2, 34, 35, 36, 11, 12, 13, 49, 50, 51, 52, 53, 54, 55, 56, 57, 58, 59, 60, 61, 62] (by decide +kernel) (by decide +kernel)
set_option maxRecDepth 20000 in
theorem gX8_ranked_X8_isThere : GoodIn wsX8_ranked (wsV RX8 120 RX8 yX8_isThere wsX8_isThere) := goodIn_app (goodIn_of _ (by decide +kernel)) ggX8_ranked_X8_isThere
set_option maxRecDepth 20000 in
theorem ggX8_ranked_X8_placeOf : GoodIn wsX8_ranked wsX8_placeOf := goodIn_r _ [40, 2, 22, 23, 24, 5, 25, 26, 27, 28, 29, 30, 31, 32, 33, 34, 35, 36, 11, 12, 13, 41, 42, 43, 44, 45, 46, 47, 48, 49, 50, 51, 52, 53, 54, 55, 56, 57, 58, 59, 60, 61, 62] (by decide +kernel) (by decide +kernel)
set_option maxRecDepth 20000 in
theorem gX8_ranked_X8_placeOf : GoodIn wsX8_ranked (wsV RX8 135 RX8 yX8_placeOf wsX8_placeOf) := goodIn_app (goodIn_of _ (by decide +kernel)) ggX8_ranked_X8_placeOf
theorem dX8_ranked_0 : decode cX8_ranked 0 = .ok (.aload_n 0, 1) := by decide +kernel
theorem dX8_ranked_1 : decode cX8_ranked 1 = .ok (.iconst 0, 1) := by decide +kernel
theorem dX8_ranked_2 : decode cX8_ranked 2 = .ok (.putfield 31, 3) := by decide +kernel
theorem dX8_ranked_5 : decode cX8_ranked 5 = .ok (.iload_n 1, 1) := by decide +kernel
theorem dX8_ranked_6 : decode cX8_ranked 6 = .ok (.iload_n 2, 1) := by decide +kernel
theorem dX8_ranked_7 : decode cX8_ranked 7 = .ok (.invokestatic 127, 3) := by decide +kernel
theorem dX8_ranked_10 : decode cX8_ranked 10 = .ok (.ifCond .eq 7, 3) := by decide +kernel
theorem dX8_ranked_13 : decode cX8_ranked 13 = .ok (.iload_n 3, 1) := by decide +kernel
theorem dX8_ranked_14 : decode cX8_ranked 14 = .ok (.ifCond .ge 9, 3) := by decide +kernel
theorem dX8_ranked_17 : decode cX8_ranked 17 = .ok (.aload_n 0, 1) := by decide +kernel
theorem dX8_ranked_18 : decode cX8_ranked 18 = .ok (.iconst 1, 1) := by decide +kernel
theorem dX8_ranked_19 : decode cX8_ranked 19 = .ok (.invokevirtual 90, 3) := by decide +kernel
theorem dX8_ranked_22 : decode cX8_ranked 22 = .ok (.ireturn, 1) := by decide +kernel
theorem dX8_ranked_23 : decode cX8_ranked 23 = .ok (.iconst 0, 1) := by decide +kernel
theorem dX8_ranked_24 : decode cX8_ranked 24 = .ok (.istore 4, 2) := by decide +kernel
theorem dX8_ranked_26 : decode cX8_ranked 26 = .ok (.iload 4, 2) := by decide +kernel
theorem dX8_ranked_28 : decode cX8_ranked 28 = .ok (.aload_n 0, 1) := by decide +kernel
theorem dX8_ranked_29 : decode cX8_ranked 29 = .ok (.getfield 7, 3) := by decide +kernel
theorem dX8_ranked_32 : decode cX8_ranked 32 = .ok (.iconst 0, 1) := by decide +kernel
theorem dX8_ranked_33 : decode cX8_ranked 33 = .ok (.iaload, 1) := by decide +kernel
theorem dX8_ranked_34 : decode cX8_ranked 34 = .ok (.if_icmp .ge 35, 3) := by decide +kernel
theorem dX8_ranked_37 : decode cX8_ranked 37 = .ok (.aload_n 0, 1) := by decide +kernel
theorem dX8_ranked_38 : decode cX8_ranked 38 = .ok (.iload 4, 2) := by decide +kernel
theorem dX8_ranked_40 : decode cX8_ranked 40 = .ok (.iload_n 1, 1) := by decide +kernel
theorem dX8_ranked_41 : decode cX8_ranked 41 = .ok (.iload_n 2, 1) := by decide +kernel
theorem dX8_ranked_42 : decode cX8_ranked 42 = .ok (.invokevirtual 120, 3) := by decide +kernel
theorem dX8_ranked_45 : decode cX8_ranked 45 = .ok (.ifCond .eq 18, 3) := by decide +kernel
theorem dX8_ranked_48 : decode cX8_ranked 48 = .ok (.aload_n 0, 1) := by decide +kernel
theorem dX8_ranked_49 : decode cX8_ranked 49 = .ok (.iload 4, 2) := by decide +kernel
theorem dX8_ranked_51 : decode cX8_ranked 51 = .ok (.iload_n 1, 1) := by decide +kernel
theorem dX8_ranked_52 : decode cX8_ranked 52 = .ok (.iload_n 2, 1) := by decide +kernel
theorem dX8_ranked_53 : decode cX8_ranked 53 = .ok (.invokevirtual 135, 3) := by decide +kernel
theorem dX8_ranked_56 : decode cX8_ranked 56 = .ok (.iload_n 3, 1) := by decide +kernel
theorem dX8_ranked_57 : decode cX8_ranked 57 = .ok (.if_icmp .ne 6, 3) := by decide +kernel
theorem dX8_ranked_60 : decode cX8_ranked 60 = .ok (.iload 4, 2) := by decide +kernel
theorem dX8_ranked_62 : decode cX8_ranked 62 = .ok (.ireturn, 1) := by decide +kernel
theorem dX8_ranked_63 : decode cX8_ranked 63 = .ok (.iinc 4 1, 3) := by decide +kernel
theorem dX8_ranked_66 : decode cX8_ranked 66 = .ok (.goto (-40), 3) := by decide +kernel
theorem dX8_ranked_69 : decode cX8_ranked 69 = .ok (.iconst (-1), 1) := by decide +kernel
theorem dX8_ranked_70 : decode cX8_ranked 70 = .ok (.ireturn, 1) := by decide +kernel
set_option maxRecDepth 20000 in
theorem ggX8_below_X8_isPlace : GoodIn wsX8_below wsX8_isPlace := goodIn_r _ [6, 7, 8, 5, 9, 10, 11, 12, 13, 14, 15, 16, 17] (by decide +kernel) (by decide +kernel)
set_option maxRecDepth 20000 in
theorem gX8_below_X8_isPlace : GoodIn wsX8_below (va_wsS RX8 127 yX8_isPlace wsX8_isPlace) := goodIn_app (goodIn_of _ (by decide +kernel)) ggX8_below_X8_isPlace
set_option maxRecDepth 20000 in
theorem ggX8_below_X8_fails : GoodIn wsX8_below wsX8_fails := goodIn_r _ [21, 1, 41, 42, 43, 44, 45, 46, 47, 48, 49, 50, 51, 52, 53, 54] (by decide +kernel) (by decide +kernel)
set_option maxRecDepth 20000 in
theorem gX8_below_X8_fails : GoodIn wsX8_below (wsV RX8 90 RX8 yX8_fails wsX8_fails) := goodIn_app (goodIn_of _ (by decide +kernel)) ggX8_below_X8_fails
set_option maxRecDepth 20000 in
theorem ggX8_below_X8_isThere : GoodIn wsX8_below wsX8_isThere := goodIn_r _ [25, 26, 27, 28, 5, 29, 30, 31, 32, 33, 2, 34, 35, 36, 11, 12, 13, 41, 42, 43, 44, 45, 46, 47, 48, 49, 50, 51, 52, 53, 54] (by decide +kernel) (by decide +kernel)
set_option maxRecDepth 20000 in
theorem gX8_below_X8_isThere : GoodIn wsX8_below (wsV RX8 120 RX8 yX8_isThere wsX8_isThere) := goodIn_app (goodIn_of _ (by decide +kernel)) ggX8_below_X8_isThere
set_option maxRecDepth 20000 in
theorem ggX8_below_X8_valueAt : GoodIn wsX8_below wsX8_valueAt := goodIn_r _ [40, 30, 31, 32, 5, 33, 2, 34, 35, 36, 41, 42, 43, 44, 45, 46, 47, 48, 49, 50, 51, 52, 53, 54] (by decide +kernel) (by decide +kernel)
set_option maxRecDepth 20000 in
theorem gX8_below_X8_valueAt : GoodIn wsX8_below (wsV RX8 117 RX8 yX8_valueAt wsX8_valueAt) := goodIn_app (goodIn_of _ (by decide +kernel)) ggX8_below_X8_valueAt
theorem dX8_below_0 : decode cX8_below 0 = .ok (.aload_n 0, 1) := by decide +kernel
theorem dX8_below_1 : decode cX8_below 1 = .ok (.iconst 0, 1) := by decide +kernel
theorem dX8_below_2 : decode cX8_below 2 = .ok (.putfield 31, 3) := by decide +kernel
theorem dX8_below_5 : decode cX8_below 5 = .ok (.iload_n 1, 1) := by decide +kernel
theorem dX8_below_6 : decode cX8_below 6 = .ok (.iload_n 2, 1) := by decide +kernel
theorem dX8_below_7 : decode cX8_below 7 = .ok (.invokestatic 127, 3) := by decide +kernel
theorem dX8_below_10 : decode cX8_below 10 = .ok (.ifCond .ne 9, 3) := by decide +kernel
theorem dX8_below_13 : decode cX8_below 13 = .ok (.aload_n 0, 1) := by decide +kernel
theorem dX8_below_14 : decode cX8_below 14 = .ok (.iconst 1, 1) := by decide +kernel
theorem dX8_below_15 : decode cX8_below 15 = .ok (.invokevirtual 90, 3) := by decide +kernel
theorem dX8_below_18 : decode cX8_below 18 = .ok (.ireturn, 1) := by decide +kernel
theorem dX8_below_19 : decode cX8_below 19 = .ok (.iconst 0, 1) := by decide +kernel
theorem dX8_below_20 : decode cX8_below 20 = .ok (.istore 5, 2) := by decide +kernel
theorem dX8_below_22 : decode cX8_below 22 = .ok (.iconst 0, 1) := by decide +kernel
theorem dX8_below_23 : decode cX8_below 23 = .ok (.istore 6, 2) := by decide +kernel
theorem dX8_below_25 : decode cX8_below 25 = .ok (.iload 6, 2) := by decide +kernel
theorem dX8_below_27 : decode cX8_below 27 = .ok (.aload_n 0, 1) := by decide +kernel
theorem dX8_below_28 : decode cX8_below 28 = .ok (.getfield 7, 3) := by decide +kernel
theorem dX8_below_31 : decode cX8_below 31 = .ok (.iconst 0, 1) := by decide +kernel
theorem dX8_below_32 : decode cX8_below 32 = .ok (.iaload, 1) := by decide +kernel
theorem dX8_below_33 : decode cX8_below 33 = .ok (.if_icmp .ge 43, 3) := by decide +kernel
theorem dX8_below_36 : decode cX8_below 36 = .ok (.iload 5, 2) := by decide +kernel
theorem dX8_below_38 : decode cX8_below 38 = .ok (.aload_n 0, 1) := by decide +kernel
theorem dX8_below_39 : decode cX8_below 39 = .ok (.iload 6, 2) := by decide +kernel
theorem dX8_below_41 : decode cX8_below 41 = .ok (.iload_n 1, 1) := by decide +kernel
theorem dX8_below_42 : decode cX8_below 42 = .ok (.iload_n 2, 1) := by decide +kernel
theorem dX8_below_43 : decode cX8_below 43 = .ok (.invokevirtual 120, 3) := by decide +kernel
theorem dX8_below_46 : decode cX8_below 46 = .ok (.ifCond .eq 20, 3) := by decide +kernel
theorem dX8_below_49 : decode cX8_below 49 = .ok (.aload_n 0, 1) := by decide +kernel
theorem dX8_below_50 : decode cX8_below 50 = .ok (.iload 6, 2) := by decide +kernel
theorem dX8_below_52 : decode cX8_below 52 = .ok (.iload_n 1, 1) := by decide +kernel
theorem dX8_below_53 : decode cX8_below 53 = .ok (.invokevirtual 117, 3) := by decide +kernel
theorem dX8_below_56 : decode cX8_below 56 = .ok (.i2l, 1) := by decide +kernel
theorem dX8_below_57 : decode cX8_below 57 = .ok (.lload_n 3, 1) := by decide +kernel
theorem dX8_below_58 : decode cX8_below 58 = .ok (.lcmp, 1) := by decide +kernel
theorem dX8_below_59 : decode cX8_below 59 = .ok (.ifCond .ge 7, 3) := by decide +kernel
theorem dX8_below_62 : decode cX8_below 62 = .ok (.iconst 1, 1) := by decide +kernel
theorem dX8_below_63 : decode cX8_below 63 = .ok (.goto 4, 3) := by decide +kernel
theorem dX8_below_66 : decode cX8_below 66 = .ok (.iconst 0, 1) := by decide +kernel
theorem dX8_below_67 : decode cX8_below 67 = .ok (.iadd, 1) := by decide +kernel
theorem dX8_below_68 : decode cX8_below 68 = .ok (.istore 5, 2) := by decide +kernel
theorem dX8_below_70 : decode cX8_below 70 = .ok (.iinc 6 1, 3) := by decide +kernel
theorem dX8_below_73 : decode cX8_below 73 = .ok (.goto (-48), 3) := by decide +kernel
theorem dX8_below_76 : decode cX8_below 76 = .ok (.iload 5, 2) := by decide +kernel
theorem dX8_below_78 : decode cX8_below 78 = .ok (.ireturn, 1) := by decide +kernel
set_option maxRecDepth 20000 in
theorem ggX8_overtakes_X8_isSegment : GoodIn wsX8_overtakes wsX8_isSegment := goodIn_r _ [6, 7, 8, 9, 5, 10, 26, 27, 28, 29, 30, 31, 32, 33, 34, 35, 36, 37, 38, 39] (by decide +kernel) (by decide +kernel)
set_option maxRecDepth 20000 in
theorem gX8_overtakes_X8_isSegment : GoodIn wsX8_overtakes (wsV RX8 94 RX8 yX8_isSegment wsX8_isSegment) := goodIn_app (goodIn_of _ (by decide +kernel)) ggX8_overtakes_X8_isSegment
set_option maxRecDepth 20000 in
theorem ggX8_overtakes_X8_fails : GoodIn wsX8_overtakes wsX8_fails := goodIn_r _ [14, 1, 26, 27, 28, 29, 30, 31, 32, 33, 34, 35, 36, 37, 38, 39] (by decide +kernel) (by decide +kernel)
set_option maxRecDepth 20000 in
theorem gX8_overtakes_X8_fails : GoodIn wsX8_overtakes (wsV RX8 90 RX8 yX8_fails wsX8_fails) := goodIn_app (goodIn_of _ (by decide +kernel)) ggX8_overtakes_X8_fails
set_option maxRecDepth 20000 in
theorem ggX8_overtakes_X8_of : GoodIn wsX8_overtakes wsX8_of := goodIn_r _ [18, 7, 19, 20, 5, 21, 26, 27, 28, 29, 30, 31, 32, 33, 34, 35, 36, 37, 38, 39] (by decide +kernel) (by decide +kernel)
set_option maxRecDepth 20000 in
theorem gX8_overtakes_X8_of : GoodIn wsX8_overtakes (wsV RX8 58 RX8 yX8_of wsX8_of) := goodIn_app (goodIn_of _ (by decide +kernel)) ggX8_overtakes_X8_of
set_option maxRecDepth 20000 in
theorem ggX8_overtakes_X8_in : GoodIn wsX8_overtakes wsX8_in := goodIn_r _ [10] (by decide +kernel) (by decide +kernel)
set_option maxRecDepth 20000 in
theorem gX8_overtakes_X8_in : GoodIn wsX8_overtakes (va_wsS RX8 42 yX8_in wsX8_in) := goodIn_app (goodIn_of _ (by decide +kernel)) ggX8_overtakes_X8_in
set_option maxRecDepth 20000 in
theorem ggX8_overtakes_X8_valueAt : GoodIn wsX8_overtakes wsX8_valueAt := goodIn_r _ [25, 15, 16, 17, 5, 18, 7, 19, 20, 21, 26, 27, 28, 29, 30, 31, 32, 33, 34, 35, 36, 37, 38, 39] (by decide +kernel) (by decide +kernel)
set_option maxRecDepth 20000 in
theorem gX8_overtakes_X8_valueAt : GoodIn wsX8_overtakes (wsV RX8 117 RX8 yX8_valueAt wsX8_valueAt) := goodIn_app (goodIn_of _ (by decide +kernel)) ggX8_overtakes_X8_valueAt
theorem dX8_overtakes_0 : decode cX8_overtakes 0 = .ok (.aload_n 0, 1) := by decide +kernel
theorem dX8_overtakes_1 : decode cX8_overtakes 1 = .ok (.iconst 0, 1) := by decide +kernel
theorem dX8_overtakes_2 : decode cX8_overtakes 2 = .ok (.putfield 31, 3) := by decide +kernel
theorem dX8_overtakes_5 : decode cX8_overtakes 5 = .ok (.aload_n 0, 1) := by decide +kernel
theorem dX8_overtakes_6 : decode cX8_overtakes 6 = .ok (.iload_n 1, 1) := by decide +kernel
theorem dX8_overtakes_7 : decode cX8_overtakes 7 = .ok (.invokevirtual 94, 3) := by decide +kernel
theorem dX8_overtakes_10 : decode cX8_overtakes 10 = .ok (.ifCond .eq 11, 3) := by decide +kernel
theorem dX8_overtakes_13 : decode cX8_overtakes 13 = .ok (.aload_n 0, 1) := by decide +kernel
theorem dX8_overtakes_14 : decode cX8_overtakes 14 = .ok (.iload_n 2, 1) := by decide +kernel
theorem dX8_overtakes_15 : decode cX8_overtakes 15 = .ok (.invokevirtual 94, 3) := by decide +kernel
theorem dX8_overtakes_18 : decode cX8_overtakes 18 = .ok (.ifCond .ne 9, 3) := by decide +kernel
theorem dX8_overtakes_21 : decode cX8_overtakes 21 = .ok (.aload_n 0, 1) := by decide +kernel
theorem dX8_overtakes_22 : decode cX8_overtakes 22 = .ok (.iconst 1, 1) := by decide +kernel
theorem dX8_overtakes_23 : decode cX8_overtakes 23 = .ok (.invokevirtual 90, 3) := by decide +kernel
theorem dX8_overtakes_26 : decode cX8_overtakes 26 = .ok (.ireturn, 1) := by decide +kernel
theorem dX8_overtakes_27 : decode cX8_overtakes 27 = .ok (.iconst 0, 1) := by decide +kernel
theorem dX8_overtakes_28 : decode cX8_overtakes 28 = .ok (.istore_n 3, 1) := by decide +kernel
theorem dX8_overtakes_29 : decode cX8_overtakes 29 = .ok (.iload_n 3, 1) := by decide +kernel
theorem dX8_overtakes_30 : decode cX8_overtakes 30 = .ok (.sipush 255, 3) := by decide +kernel
theorem dX8_overtakes_33 : decode cX8_overtakes 33 = .ok (.if_icmp .gt 82, 3) := by decide +kernel
theorem dX8_overtakes_36 : decode cX8_overtakes 36 = .ok (.iload_n 3, 1) := by decide +kernel
theorem dX8_overtakes_37 : decode cX8_overtakes 37 = .ok (.i2l, 1) := by decide +kernel
theorem dX8_overtakes_38 : decode cX8_overtakes 38 = .ok (.aload_n 0, 1) := by decide +kernel
theorem dX8_overtakes_39 : decode cX8_overtakes 39 = .ok (.iload_n 1, 1) := by decide +kernel
theorem dX8_overtakes_40 : decode cX8_overtakes 40 = .ok (.iconst 2, 1) := by decide +kernel
theorem dX8_overtakes_41 : decode cX8_overtakes 41 = .ok (.invokevirtual 58, 3) := by decide +kernel
theorem dX8_overtakes_44 : decode cX8_overtakes 44 = .ok (.i2l, 1) := by decide +kernel
theorem dX8_overtakes_45 : decode cX8_overtakes 45 = .ok (.aload_n 0, 1) := by decide +kernel
theorem dX8_overtakes_46 : decode cX8_overtakes 46 = .ok (.iload_n 1, 1) := by decide +kernel
theorem dX8_overtakes_47 : decode cX8_overtakes 47 = .ok (.iconst 3, 1) := by decide +kernel
theorem dX8_overtakes_48 : decode cX8_overtakes 48 = .ok (.invokevirtual 58, 3) := by decide +kernel
theorem dX8_overtakes_51 : decode cX8_overtakes 51 = .ok (.i2l, 1) := by decide +kernel
theorem dX8_overtakes_52 : decode cX8_overtakes 52 = .ok (.invokestatic 42, 3) := by decide +kernel
theorem dX8_overtakes_55 : decode cX8_overtakes 55 = .ok (.ifCond .eq 29, 3) := by decide +kernel
theorem dX8_overtakes_58 : decode cX8_overtakes 58 = .ok (.iload_n 3, 1) := by decide +kernel
theorem dX8_overtakes_59 : decode cX8_overtakes 59 = .ok (.i2l, 1) := by decide +kernel
theorem dX8_overtakes_60 : decode cX8_overtakes 60 = .ok (.aload_n 0, 1) := by decide +kernel
theorem dX8_overtakes_61 : decode cX8_overtakes 61 = .ok (.iload_n 2, 1) := by decide +kernel
theorem dX8_overtakes_62 : decode cX8_overtakes 62 = .ok (.iconst 2, 1) := by decide +kernel
theorem dX8_overtakes_63 : decode cX8_overtakes 63 = .ok (.invokevirtual 58, 3) := by decide +kernel
theorem dX8_overtakes_66 : decode cX8_overtakes 66 = .ok (.i2l, 1) := by decide +kernel
theorem dX8_overtakes_67 : decode cX8_overtakes 67 = .ok (.aload_n 0, 1) := by decide +kernel
theorem dX8_overtakes_68 : decode cX8_overtakes 68 = .ok (.iload_n 2, 1) := by decide +kernel
theorem dX8_overtakes_69 : decode cX8_overtakes 69 = .ok (.iconst 3, 1) := by decide +kernel
theorem dX8_overtakes_70 : decode cX8_overtakes 70 = .ok (.invokevirtual 58, 3) := by decide +kernel
theorem dX8_overtakes_73 : decode cX8_overtakes 73 = .ok (.i2l, 1) := by decide +kernel
theorem dX8_overtakes_74 : decode cX8_overtakes 74 = .ok (.invokestatic 42, 3) := by decide +kernel
theorem dX8_overtakes_77 : decode cX8_overtakes 77 = .ok (.ifCond .eq 7, 3) := by decide +kernel
theorem dX8_overtakes_80 : decode cX8_overtakes 80 = .ok (.iconst 1, 1) := by decide +kernel
theorem dX8_overtakes_81 : decode cX8_overtakes 81 = .ok (.goto 4, 3) := by decide +kernel
theorem dX8_overtakes_84 : decode cX8_overtakes 84 = .ok (.iconst 0, 1) := by decide +kernel
theorem dX8_overtakes_85 : decode cX8_overtakes 85 = .ok (.istore 4, 2) := by decide +kernel
theorem dX8_overtakes_87 : decode cX8_overtakes 87 = .ok (.iload 4, 2) := by decide +kernel
theorem dX8_overtakes_89 : decode cX8_overtakes 89 = .ok (.ifCond .eq 20, 3) := by decide +kernel
theorem dX8_overtakes_92 : decode cX8_overtakes 92 = .ok (.aload_n 0, 1) := by decide +kernel
theorem dX8_overtakes_93 : decode cX8_overtakes 93 = .ok (.iload_n 2, 1) := by decide +kernel
theorem dX8_overtakes_94 : decode cX8_overtakes 94 = .ok (.iload_n 3, 1) := by decide +kernel
theorem dX8_overtakes_95 : decode cX8_overtakes 95 = .ok (.invokevirtual 117, 3) := by decide +kernel
theorem dX8_overtakes_98 : decode cX8_overtakes 98 = .ok (.aload_n 0, 1) := by decide +kernel
theorem dX8_overtakes_99 : decode cX8_overtakes 99 = .ok (.iload_n 1, 1) := by decide +kernel
theorem dX8_overtakes_100 : decode cX8_overtakes 100 = .ok (.iload_n 3, 1) := by decide +kernel
theorem dX8_overtakes_101 : decode cX8_overtakes 101 = .ok (.invokevirtual 117, 3) := by decide +kernel
theorem dX8_overtakes_104 : decode cX8_overtakes 104 = .ok (.if_icmp .ge 5, 3) := by decide +kernel
theorem dX8_overtakes_107 : decode cX8_overtakes 107 = .ok (.iload_n 3, 1) := by decide +kernel
theorem dX8_overtakes_108 : decode cX8_overtakes 108 = .ok (.ireturn, 1) := by decide +kernel
theorem dX8_overtakes_109 : decode cX8_overtakes 109 = .ok (.iinc 3 1, 3) := by decide +kernel
theorem dX8_overtakes_112 : decode cX8_overtakes 112 = .ok (.goto (-83), 3) := by decide +kernel
theorem dX8_overtakes_115 : decode cX8_overtakes 115 = .ok (.iconst (-1), 1) := by decide +kernel
theorem dX8_overtakes_116 : decode cX8_overtakes 116 = .ok (.ireturn, 1) := by decide +kernel
set_option maxRecDepth 20000 in
theorem ggX8_layPieces_X8_firstAt : GoodIn wsX8_layPieces wsX8_firstAt := goodIn_r _ [7, 8, 9, 10, 11, 6, 12, 13, 14, 15, 16, 17, 18, 19, 20, 21, 22, 23, 24, 25, 26, 27, 28, 29, 30, 31, 32, 33, 34, 35, 36, 37, 38, 39, 40, 41, 42, 43, 44, 45, 46, 47, 48] (by decide +kernel) (by decide +kernel)
set_option maxRecDepth 20000 in
theorem gX8_layPieces_X8_firstAt : GoodIn wsX8_layPieces (wsV RX8 130 RX8 yX8_firstAt wsX8_firstAt) := goodIn_app (goodIn_of _ (by decide +kernel)) ggX8_layPieces_X8_firstAt
theorem dX8_layPieces_0 : decode cX8_layPieces 0 = .ok (.aload_n 0, 1) := by decide +kernel
theorem dX8_layPieces_1 : decode cX8_layPieces 1 = .ok (.iconst 0, 1) := by decide +kernel
theorem dX8_layPieces_2 : decode cX8_layPieces 2 = .ok (.putfield 139, 3) := by decide +kernel
theorem dX8_layPieces_5 : decode cX8_layPieces 5 = .ok (.iconst 0, 1) := by decide +kernel
theorem dX8_layPieces_6 : decode cX8_layPieces 6 = .ok (.istore_n 2, 1) := by decide +kernel
theorem dX8_layPieces_7 : decode cX8_layPieces 7 = .ok (.iload_n 2, 1) := by decide +kernel
theorem dX8_layPieces_8 : decode cX8_layPieces 8 = .ok (.sipush 255, 3) := by decide +kernel
theorem dX8_layPieces_11 : decode cX8_layPieces 11 = .ok (.if_icmp .gt 99, 3) := by decide +kernel
theorem dX8_layPieces_14 : decode cX8_layPieces 14 = .ok (.aload_n 0, 1) := by decide +kernel
theorem dX8_layPieces_15 : decode cX8_layPieces 15 = .ok (.iload_n 2, 1) := by decide +kernel
theorem dX8_layPieces_16 : decode cX8_layPieces 16 = .ok (.iload_n 1, 1) := by decide +kernel
theorem dX8_layPieces_17 : decode cX8_layPieces 17 = .ok (.invokevirtual 130, 3) := by decide +kernel
theorem dX8_layPieces_20 : decode cX8_layPieces 20 = .ok (.istore_n 3, 1) := by decide +kernel
theorem dX8_layPieces_21 : decode cX8_layPieces 21 = .ok (.iconst 3, 1) := by decide +kernel
theorem dX8_layPieces_22 : decode cX8_layPieces 22 = .ok (.aload_n 0, 1) := by decide +kernel
theorem dX8_layPieces_23 : decode cX8_layPieces 23 = .ok (.getfield 139, 3) := by decide +kernel
theorem dX8_layPieces_26 : decode cX8_layPieces 26 = .ok (.iconst 1, 1) := by decide +kernel
theorem dX8_layPieces_27 : decode cX8_layPieces 27 = .ok (.isub, 1) := by decide +kernel
theorem dX8_layPieces_28 : decode cX8_layPieces 28 = .ok (.imul, 1) := by decide +kernel
theorem dX8_layPieces_29 : decode cX8_layPieces 29 = .ok (.istore 4, 2) := by decide +kernel
theorem dX8_layPieces_31 : decode cX8_layPieces 31 = .ok (.aload_n 0, 1) := by decide +kernel
theorem dX8_layPieces_32 : decode cX8_layPieces 32 = .ok (.getfield 139, 3) := by decide +kernel
theorem dX8_layPieces_35 : decode cX8_layPieces 35 = .ok (.ifCond .le 29, 3) := by decide +kernel
theorem dX8_layPieces_38 : decode cX8_layPieces 38 = .ok (.aload_n 0, 1) := by decide +kernel
theorem dX8_layPieces_39 : decode cX8_layPieces 39 = .ok (.getfield 19, 3) := by decide +kernel
theorem dX8_layPieces_42 : decode cX8_layPieces 42 = .ok (.iload 4, 2) := by decide +kernel
theorem dX8_layPieces_44 : decode cX8_layPieces 44 = .ok (.iconst 2, 1) := by decide +kernel
theorem dX8_layPieces_45 : decode cX8_layPieces 45 = .ok (.iadd, 1) := by decide +kernel
theorem dX8_layPieces_46 : decode cX8_layPieces 46 = .ok (.iaload, 1) := by decide +kernel
theorem dX8_layPieces_47 : decode cX8_layPieces 47 = .ok (.iload_n 3, 1) := by decide +kernel
theorem dX8_layPieces_48 : decode cX8_layPieces 48 = .ok (.if_icmp .ne 16, 3) := by decide +kernel
theorem dX8_layPieces_51 : decode cX8_layPieces 51 = .ok (.aload_n 0, 1) := by decide +kernel
theorem dX8_layPieces_52 : decode cX8_layPieces 52 = .ok (.getfield 19, 3) := by decide +kernel
theorem dX8_layPieces_55 : decode cX8_layPieces 55 = .ok (.iload 4, 2) := by decide +kernel
theorem dX8_layPieces_57 : decode cX8_layPieces 57 = .ok (.iconst 1, 1) := by decide +kernel
theorem dX8_layPieces_58 : decode cX8_layPieces 58 = .ok (.iadd, 1) := by decide +kernel
theorem dX8_layPieces_59 : decode cX8_layPieces 59 = .ok (.iload_n 2, 1) := by decide +kernel
theorem dX8_layPieces_60 : decode cX8_layPieces 60 = .ok (.iastore, 1) := by decide +kernel
theorem dX8_layPieces_61 : decode cX8_layPieces 61 = .ok (.goto 43, 3) := by decide +kernel
theorem dX8_layPieces_64 : decode cX8_layPieces 64 = .ok (.aload_n 0, 1) := by decide +kernel
theorem dX8_layPieces_65 : decode cX8_layPieces 65 = .ok (.getfield 19, 3) := by decide +kernel
theorem dX8_layPieces_68 : decode cX8_layPieces 68 = .ok (.iload 4, 2) := by decide +kernel
theorem dX8_layPieces_70 : decode cX8_layPieces 70 = .ok (.iconst 3, 1) := by decide +kernel
theorem dX8_layPieces_71 : decode cX8_layPieces 71 = .ok (.iadd, 1) := by decide +kernel
theorem dX8_layPieces_72 : decode cX8_layPieces 72 = .ok (.iload_n 2, 1) := by decide +kernel
theorem dX8_layPieces_73 : decode cX8_layPieces 73 = .ok (.iastore, 1) := by decide +kernel
theorem dX8_layPieces_74 : decode cX8_layPieces 74 = .ok (.aload_n 0, 1) := by decide +kernel
theorem dX8_layPieces_75 : decode cX8_layPieces 75 = .ok (.getfield 19, 3) := by decide +kernel
theorem dX8_layPieces_78 : decode cX8_layPieces 78 = .ok (.iload 4, 2) := by decide +kernel
theorem dX8_layPieces_80 : decode cX8_layPieces 80 = .ok (.iconst 4, 1) := by decide +kernel
theorem dX8_layPieces_81 : decode cX8_layPieces 81 = .ok (.iadd, 1) := by decide +kernel
theorem dX8_layPieces_82 : decode cX8_layPieces 82 = .ok (.iload_n 2, 1) := by decide +kernel
theorem dX8_layPieces_83 : decode cX8_layPieces 83 = .ok (.iastore, 1) := by decide +kernel
theorem dX8_layPieces_84 : decode cX8_layPieces 84 = .ok (.aload_n 0, 1) := by decide +kernel
theorem dX8_layPieces_85 : decode cX8_layPieces 85 = .ok (.getfield 19, 3) := by decide +kernel
theorem dX8_layPieces_88 : decode cX8_layPieces 88 = .ok (.iload 4, 2) := by decide +kernel
theorem dX8_layPieces_90 : decode cX8_layPieces 90 = .ok (.iconst 5, 1) := by decide +kernel
theorem dX8_layPieces_91 : decode cX8_layPieces 91 = .ok (.iadd, 1) := by decide +kernel
theorem dX8_layPieces_92 : decode cX8_layPieces 92 = .ok (.iload_n 3, 1) := by decide +kernel
theorem dX8_layPieces_93 : decode cX8_layPieces 93 = .ok (.iastore, 1) := by decide +kernel
theorem dX8_layPieces_94 : decode cX8_layPieces 94 = .ok (.aload_n 0, 1) := by decide +kernel
theorem dX8_layPieces_95 : decode cX8_layPieces 95 = .ok (.dup, 1) := by decide +kernel
theorem dX8_layPieces_96 : decode cX8_layPieces 96 = .ok (.getfield 139, 3) := by decide +kernel
theorem dX8_layPieces_99 : decode cX8_layPieces 99 = .ok (.iconst 1, 1) := by decide +kernel
theorem dX8_layPieces_100 : decode cX8_layPieces 100 = .ok (.iadd, 1) := by decide +kernel
theorem dX8_layPieces_101 : decode cX8_layPieces 101 = .ok (.putfield 139, 3) := by decide +kernel
theorem dX8_layPieces_104 : decode cX8_layPieces 104 = .ok (.iinc 2 1, 3) := by decide +kernel
theorem dX8_layPieces_107 : decode cX8_layPieces 107 = .ok (.goto (-100), 3) := by decide +kernel
theorem dX8_layPieces_110 : decode cX8_layPieces 110 = .ok (.return_, 1) := by decide +kernel
set_option maxRecDepth 20000 in
theorem ggX8_pieces_X8_isTick : GoodIn wsX8_pieces wsX8_isTick := goodIn_r _ [6, 7, 8, 9, 5, 10] (by decide +kernel) (by decide +kernel)
set_option maxRecDepth 20000 in
theorem gX8_pieces_X8_isTick : GoodIn wsX8_pieces (va_wsS RX8 87 yX8_isTick wsX8_isTick) := goodIn_app (goodIn_of _ (by decide +kernel)) ggX8_pieces_X8_isTick
set_option maxRecDepth 20000 in
theorem ggX8_pieces_X8_fails : GoodIn wsX8_pieces wsX8_fails := goodIn_r _ [14, 1, 48, 49, 50, 51, 52, 53, 54, 55, 56, 57, 58, 59, 60, 61] (by decide +kernel) (by decide +kernel)
set_option maxRecDepth 20000 in
theorem gX8_pieces_X8_fails : GoodIn wsX8_pieces (wsV RX8 90 RX8 yX8_fails wsX8_fails) := goodIn_app (goodIn_of _ (by decide +kernel)) ggX8_pieces_X8_fails
set_option maxRecDepth 20000 in
theorem ggX8_pieces_X8_layPieces : GoodIn wsX8_pieces wsX8_layPieces := goodIn_r _ [18, 2, 19, 20, 21, 22, 5, 23, 24, 25, 26, 27, 28, 29, 30, 31, 32, 33, 34, 35, 36, 37, 38, 39, 8, 9, 10, 40, 41, 42, 43, 44, 45, 46, 47, 48, 49, 50, 51, 52, 53, 54, 55, 56, 57, 58, 59, 60, 61] (by decide +kernel) (by decide +kernel)
set_option maxRecDepth 20000 in
theorem gX8_pieces_X8_layPieces : GoodIn wsX8_pieces (wsV RX8 142 RX8 yX8_layPieces wsX8_layPieces) := goodIn_app (goodIn_of _ (by decide +kernel)) ggX8_pieces_X8_layPieces
theorem dX8_pieces_0 : decode cX8_pieces 0 = .ok (.aload_n 0, 1) := by decide +kernel
theorem dX8_pieces_1 : decode cX8_pieces 1 = .ok (.iconst 0, 1) := by decide +kernel
theorem dX8_pieces_2 : decode cX8_pieces 2 = .ok (.putfield 31, 3) := by decide +kernel
theorem dX8_pieces_5 : decode cX8_pieces 5 = .ok (.iload_n 1, 1) := by decide +kernel
theorem dX8_pieces_6 : decode cX8_pieces 6 = .ok (.invokestatic 87, 3) := by decide +kernel
theorem dX8_pieces_9 : decode cX8_pieces 9 = .ok (.ifCond .ne 9, 3) := by decide +kernel
theorem dX8_pieces_12 : decode cX8_pieces 12 = .ok (.aload_n 0, 1) := by decide +kernel
theorem dX8_pieces_13 : decode cX8_pieces 13 = .ok (.iconst 1, 1) := by decide +kernel
theorem dX8_pieces_14 : decode cX8_pieces 14 = .ok (.invokevirtual 90, 3) := by decide +kernel
theorem dX8_pieces_17 : decode cX8_pieces 17 = .ok (.ireturn, 1) := by decide +kernel
theorem dX8_pieces_18 : decode cX8_pieces 18 = .ok (.aload_n 0, 1) := by decide +kernel
theorem dX8_pieces_19 : decode cX8_pieces 19 = .ok (.iload_n 1, 1) := by decide +kernel
theorem dX8_pieces_20 : decode cX8_pieces 20 = .ok (.invokevirtual 142, 3) := by decide +kernel
theorem dX8_pieces_23 : decode cX8_pieces 23 = .ok (.aload_n 0, 1) := by decide +kernel
theorem dX8_pieces_24 : decode cX8_pieces 24 = .ok (.getfield 139, 3) := by decide +kernel
theorem dX8_pieces_27 : decode cX8_pieces 27 = .ok (.ireturn, 1) := by decide +kernel
set_option maxRecDepth 20000 in
theorem ggX8_piece_X8_isTick : GoodIn wsX8_piece wsX8_isTick := goodIn_r _ [8, 9, 10, 11, 7, 12] (by decide +kernel) (by decide +kernel)
set_option maxRecDepth 20000 in
theorem gX8_piece_X8_isTick : GoodIn wsX8_piece (va_wsS RX8 87 yX8_isTick wsX8_isTick) := goodIn_app (goodIn_of _ (by decide +kernel)) ggX8_piece_X8_isTick
set_option maxRecDepth 20000 in
theorem ggX8_piece_X8_in : GoodIn wsX8_piece wsX8_in := goodIn_r _ [12] (by decide +kernel) (by decide +kernel)
set_option maxRecDepth 20000 in
theorem gX8_piece_X8_in : GoodIn wsX8_piece (va_wsS RX8 42 yX8_in wsX8_in) := goodIn_app (goodIn_of _ (by decide +kernel)) ggX8_piece_X8_in
set_option maxRecDepth 20000 in
theorem ggX8_piece_X8_fails : GoodIn wsX8_piece wsX8_fails := goodIn_r _ [16, 1, 49, 50, 51, 52, 53, 54, 55, 56, 57, 58, 59, 60, 61, 62] (by decide +kernel) (by decide +kernel)
set_option maxRecDepth 20000 in
theorem gX8_piece_X8_fails : GoodIn wsX8_piece (wsV RX8 90 RX8 yX8_fails wsX8_fails) := goodIn_app (goodIn_of _ (by decide +kernel)) ggX8_piece_X8_fails
set_option maxRecDepth 20000 in
theorem ggX8_piece_X8_layPieces : GoodIn wsX8_piece wsX8_layPieces := goodIn_r _ [20, 3, 4, 21, 22, 23, 7, 24, 25, 26, 27, 28, 29, 30, 31, 32, 33, 34, 35, 36, 37, 38, 39, 40, 10, 11, 12, 41, 42, 43, 44, 45, 46, 47, 48, 49, 50, 51, 52, 53, 54, 55, 56, 57, 58, 59, 60, 61, 62] (by decide +kernel) (by decide +kernel)
set_option maxRecDepth 20000 in
theorem gX8_piece_X8_layPieces : GoodIn wsX8_piece (wsV RX8 142 RX8 yX8_layPieces wsX8_layPieces) := goodIn_app (goodIn_of _ (by decide +kernel)) ggX8_piece_X8_layPieces
theorem dX8_piece_0 : decode cX8_piece 0 = .ok (.aload_n 0, 1) := by decide +kernel
theorem dX8_piece_1 : decode cX8_piece 1 = .ok (.iconst 0, 1) := by decide +kernel
theorem dX8_piece_2 : decode cX8_piece 2 = .ok (.putfield 31, 3) := by decide +kernel
theorem dX8_piece_5 : decode cX8_piece 5 = .ok (.iload_n 1, 1) := by decide +kernel
theorem dX8_piece_6 : decode cX8_piece 6 = .ok (.invokestatic 87, 3) := by decide +kernel
theorem dX8_piece_9 : decode cX8_piece 9 = .ok (.ifCond .eq 15, 3) := by decide +kernel
theorem dX8_piece_12 : decode cX8_piece 12 = .ok (.iload_n 3, 1) := by decide +kernel
theorem dX8_piece_13 : decode cX8_piece 13 = .ok (.i2l, 1) := by decide +kernel
theorem dX8_piece_14 : decode cX8_piece 14 = .ok (.lconst 0, 1) := by decide +kernel
theorem dX8_piece_15 : decode cX8_piece 15 = .ok (.ldc2_w 146, 3) := by decide +kernel
theorem dX8_piece_18 : decode cX8_piece 18 = .ok (.invokestatic 42, 3) := by decide +kernel
theorem dX8_piece_21 : decode cX8_piece 21 = .ok (.ifCond .ne 9, 3) := by decide +kernel
theorem dX8_piece_24 : decode cX8_piece 24 = .ok (.aload_n 0, 1) := by decide +kernel
theorem dX8_piece_25 : decode cX8_piece 25 = .ok (.iconst 1, 1) := by decide +kernel
theorem dX8_piece_26 : decode cX8_piece 26 = .ok (.invokevirtual 90, 3) := by decide +kernel
theorem dX8_piece_29 : decode cX8_piece 29 = .ok (.ireturn, 1) := by decide +kernel
theorem dX8_piece_30 : decode cX8_piece 30 = .ok (.aload_n 0, 1) := by decide +kernel
theorem dX8_piece_31 : decode cX8_piece 31 = .ok (.iload_n 1, 1) := by decide +kernel
theorem dX8_piece_32 : decode cX8_piece 32 = .ok (.invokevirtual 142, 3) := by decide +kernel
theorem dX8_piece_35 : decode cX8_piece 35 = .ok (.iload_n 2, 1) := by decide +kernel
theorem dX8_piece_36 : decode cX8_piece 36 = .ok (.i2l, 1) := by decide +kernel
theorem dX8_piece_37 : decode cX8_piece 37 = .ok (.lconst 0, 1) := by decide +kernel
theorem dX8_piece_38 : decode cX8_piece 38 = .ok (.aload_n 0, 1) := by decide +kernel
theorem dX8_piece_39 : decode cX8_piece 39 = .ok (.getfield 139, 3) := by decide +kernel
theorem dX8_piece_42 : decode cX8_piece 42 = .ok (.iconst 1, 1) := by decide +kernel
theorem dX8_piece_43 : decode cX8_piece 43 = .ok (.isub, 1) := by decide +kernel
theorem dX8_piece_44 : decode cX8_piece 44 = .ok (.i2l, 1) := by decide +kernel
theorem dX8_piece_45 : decode cX8_piece 45 = .ok (.invokestatic 42, 3) := by decide +kernel
theorem dX8_piece_48 : decode cX8_piece 48 = .ok (.ifCond .eq 16, 3) := by decide +kernel
theorem dX8_piece_51 : decode cX8_piece 51 = .ok (.aload_n 0, 1) := by decide +kernel
theorem dX8_piece_52 : decode cX8_piece 52 = .ok (.getfield 19, 3) := by decide +kernel
theorem dX8_piece_55 : decode cX8_piece 55 = .ok (.iconst 3, 1) := by decide +kernel
theorem dX8_piece_56 : decode cX8_piece 56 = .ok (.iload_n 2, 1) := by decide +kernel
theorem dX8_piece_57 : decode cX8_piece 57 = .ok (.imul, 1) := by decide +kernel
theorem dX8_piece_58 : decode cX8_piece 58 = .ok (.iload_n 3, 1) := by decide +kernel
theorem dX8_piece_59 : decode cX8_piece 59 = .ok (.iadd, 1) := by decide +kernel
theorem dX8_piece_60 : decode cX8_piece 60 = .ok (.iaload, 1) := by decide +kernel
theorem dX8_piece_61 : decode cX8_piece 61 = .ok (.goto 8, 3) := by decide +kernel
theorem dX8_piece_64 : decode cX8_piece 64 = .ok (.aload_n 0, 1) := by decide +kernel
theorem dX8_piece_65 : decode cX8_piece 65 = .ok (.iconst 2, 1) := by decide +kernel
theorem dX8_piece_66 : decode cX8_piece 66 = .ok (.invokevirtual 90, 3) := by decide +kernel
theorem dX8_piece_69 : decode cX8_piece 69 = .ok (.ireturn, 1) := by decide +kernel
set_option maxRecDepth 20000 in
theorem ggX8_sumOf_X8_firstAt : GoodIn wsX8_sumOf wsX8_firstAt := goodIn_r _ [5, 6, 7, 8, 9, 4, 10, 11, 12, 13, 14, 15, 16, 17, 18, 19, 20, 21, 22, 23, 24, 25, 26, 27, 28, 29, 30, 31, 32, 33, 34, 35, 36, 37, 38, 39, 40, 41, 42, 43, 44, 45, 46] (by decide +kernel) (by decide +kernel)
set_option maxRecDepth 20000 in
theorem gX8_sumOf_X8_firstAt : GoodIn wsX8_sumOf (wsV RX8 130 RX8 yX8_firstAt wsX8_firstAt) := goodIn_app (goodIn_of _ (by decide +kernel)) ggX8_sumOf_X8_firstAt
set_option maxRecDepth 20000 in
theorem ggX8_sumOf_X8_valueAt : GoodIn wsX8_sumOf wsX8_valueAt := goodIn_r _ [32, 15, 16, 17, 4, 18, 6, 19, 20, 21, 33, 34, 35, 36, 37, 38, 39, 40, 41, 42, 43, 44, 45, 46] (by decide +kernel) (by decide +kernel)
set_option maxRecDepth 20000 in
theorem gX8_sumOf_X8_valueAt : GoodIn wsX8_sumOf (wsV RX8 117 RX8 yX8_valueAt wsX8_valueAt) := goodIn_app (goodIn_of _ (by decide +kernel)) ggX8_sumOf_X8_valueAt
theorem dX8_sumOf_0 : decode cX8_sumOf 0 = .ok (.lconst 0, 1) := by decide +kernel
theorem dX8_sumOf_1 : decode cX8_sumOf 1 = .ok (.lstore 4, 2) := by decide +kernel
theorem dX8_sumOf_3 : decode cX8_sumOf 3 = .ok (.iload_n 2, 1) := by decide +kernel
theorem dX8_sumOf_4 : decode cX8_sumOf 4 = .ok (.istore 6, 2) := by decide +kernel
theorem dX8_sumOf_6 : decode cX8_sumOf 6 = .ok (.iload 6, 2) := by decide +kernel
theorem dX8_sumOf_8 : decode cX8_sumOf 8 = .ok (.iload_n 3, 1) := by decide +kernel
theorem dX8_sumOf_9 : decode cX8_sumOf 9 = .ok (.if_icmp .gt 42, 3) := by decide +kernel
theorem dX8_sumOf_12 : decode cX8_sumOf 12 = .ok (.aload_n 0, 1) := by decide +kernel
theorem dX8_sumOf_13 : decode cX8_sumOf 13 = .ok (.iload 6, 2) := by decide +kernel
theorem dX8_sumOf_15 : decode cX8_sumOf 15 = .ok (.iload_n 1, 1) := by decide +kernel
theorem dX8_sumOf_16 : decode cX8_sumOf 16 = .ok (.invokevirtual 130, 3) := by decide +kernel
theorem dX8_sumOf_19 : decode cX8_sumOf 19 = .ok (.istore 7, 2) := by decide +kernel
theorem dX8_sumOf_21 : decode cX8_sumOf 21 = .ok (.lload 4, 2) := by decide +kernel
theorem dX8_sumOf_23 : decode cX8_sumOf 23 = .ok (.iload 7, 2) := by decide +kernel
theorem dX8_sumOf_25 : decode cX8_sumOf 25 = .ok (.iconst (-1), 1) := by decide +kernel
theorem dX8_sumOf_26 : decode cX8_sumOf 26 = .ok (.if_icmp .ne 7, 3) := by decide +kernel
theorem dX8_sumOf_29 : decode cX8_sumOf 29 = .ok (.lconst 0, 1) := by decide +kernel
theorem dX8_sumOf_30 : decode cX8_sumOf 30 = .ok (.goto 12, 3) := by decide +kernel
theorem dX8_sumOf_33 : decode cX8_sumOf 33 = .ok (.aload_n 0, 1) := by decide +kernel
theorem dX8_sumOf_34 : decode cX8_sumOf 34 = .ok (.iload 7, 2) := by decide +kernel
theorem dX8_sumOf_36 : decode cX8_sumOf 36 = .ok (.iload 6, 2) := by decide +kernel
theorem dX8_sumOf_38 : decode cX8_sumOf 38 = .ok (.invokevirtual 117, 3) := by decide +kernel
theorem dX8_sumOf_41 : decode cX8_sumOf 41 = .ok (.i2l, 1) := by decide +kernel
theorem dX8_sumOf_42 : decode cX8_sumOf 42 = .ok (.ladd, 1) := by decide +kernel
theorem dX8_sumOf_43 : decode cX8_sumOf 43 = .ok (.lstore 4, 2) := by decide +kernel
theorem dX8_sumOf_45 : decode cX8_sumOf 45 = .ok (.iinc 6 1, 3) := by decide +kernel
theorem dX8_sumOf_48 : decode cX8_sumOf 48 = .ok (.goto (-42), 3) := by decide +kernel
theorem dX8_sumOf_51 : decode cX8_sumOf 51 = .ok (.lload 4, 2) := by decide +kernel
theorem dX8_sumOf_53 : decode cX8_sumOf 53 = .ok (.lreturn, 1) := by decide +kernel
set_option maxRecDepth 20000 in
theorem ggX8_sum_X8_isTick : GoodIn wsX8_sum wsX8_isTick := goodIn_r _ [5, 6, 7, 8, 4, 9] (by decide +kernel) (by decide +kernel)
set_option maxRecDepth 20000 in
theorem gX8_sum_X8_isTick : GoodIn wsX8_sum (va_wsS RX8 87 yX8_isTick wsX8_isTick) := goodIn_app (goodIn_of _ (by decide +kernel)) ggX8_sum_X8_isTick
set_option maxRecDepth 20000 in
theorem ggX8_sum_X8_isPosition : GoodIn wsX8_sum wsX8_isPosition := goodIn_r _ [12, 13, 7, 8, 4, 9] (by decide +kernel) (by decide +kernel)
set_option maxRecDepth 20000 in
theorem gX8_sum_X8_isPosition : GoodIn wsX8_sum (va_wsS RX8 65 yX8_isPosition wsX8_isPosition) := goodIn_app (goodIn_of _ (by decide +kernel)) ggX8_sum_X8_isPosition
set_option maxRecDepth 20000 in
theorem ggX8_sum_X8_sumOf : GoodIn wsX8_sum wsX8_sumOf := goodIn_r _ [17, 18, 19, 20, 4, 21, 22, 23, 24, 25, 26, 27, 28, 29, 30, 31, 32, 33, 34, 35, 36, 37, 7, 8, 9, 38, 39, 40, 41, 42, 43, 44, 45, 50, 51, 52, 53, 54, 55, 56, 57, 58, 59, 60, 61, 62, 63] (by decide +kernel) (by decide +kernel)
set_option maxRecDepth 20000 in
theorem gX8_sum_X8_sumOf : GoodIn wsX8_sum (wsV RX8 148 RX8 yX8_sumOf wsX8_sumOf) := goodIn_app (goodIn_of _ (by decide +kernel)) ggX8_sum_X8_sumOf
set_option maxRecDepth 20000 in
theorem ggX8_sum_X8_fails : GoodIn wsX8_sum wsX8_fails := goodIn_r _ [49, 1, 50, 51, 52, 53, 54, 55, 56, 57, 58, 59, 60, 61, 62, 63] (by decide +kernel) (by decide +kernel)
set_option maxRecDepth 20000 in
theorem gX8_sum_X8_fails : GoodIn wsX8_sum (wsV RX8 90 RX8 yX8_fails wsX8_fails) := goodIn_app (goodIn_of _ (by decide +kernel)) ggX8_sum_X8_fails
theorem dX8_sum_0 : decode cX8_sum 0 = .ok (.aload_n 0, 1) := by decide +kernel
theorem dX8_sum_1 : decode cX8_sum 1 = .ok (.iconst 0, 1) := by decide +kernel
theorem dX8_sum_2 : decode cX8_sum 2 = .ok (.putfield 31, 3) := by decide +kernel
theorem dX8_sum_5 : decode cX8_sum 5 = .ok (.iload_n 1, 1) := by decide +kernel
theorem dX8_sum_6 : decode cX8_sum 6 = .ok (.invokestatic 87, 3) := by decide +kernel
theorem dX8_sum_9 : decode cX8_sum 9 = .ok (.ifCond .eq 32, 3) := by decide +kernel
theorem dX8_sum_12 : decode cX8_sum 12 = .ok (.iload_n 2, 1) := by decide +kernel
theorem dX8_sum_13 : decode cX8_sum 13 = .ok (.invokestatic 65, 3) := by decide +kernel
theorem dX8_sum_16 : decode cX8_sum 16 = .ok (.ifCond .eq 25, 3) := by decide +kernel
theorem dX8_sum_19 : decode cX8_sum 19 = .ok (.iload_n 3, 1) := by decide +kernel
theorem dX8_sum_20 : decode cX8_sum 20 = .ok (.invokestatic 65, 3) := by decide +kernel
theorem dX8_sum_23 : decode cX8_sum 23 = .ok (.ifCond .eq 18, 3) := by decide +kernel
theorem dX8_sum_26 : decode cX8_sum 26 = .ok (.iload_n 2, 1) := by decide +kernel
theorem dX8_sum_27 : decode cX8_sum 27 = .ok (.iload_n 3, 1) := by decide +kernel
theorem dX8_sum_28 : decode cX8_sum 28 = .ok (.if_icmp .gt 13, 3) := by decide +kernel
theorem dX8_sum_31 : decode cX8_sum 31 = .ok (.aload_n 0, 1) := by decide +kernel
theorem dX8_sum_32 : decode cX8_sum 32 = .ok (.iload_n 1, 1) := by decide +kernel
theorem dX8_sum_33 : decode cX8_sum 33 = .ok (.iload_n 2, 1) := by decide +kernel
theorem dX8_sum_34 : decode cX8_sum 34 = .ok (.iload_n 3, 1) := by decide +kernel
theorem dX8_sum_35 : decode cX8_sum 35 = .ok (.invokevirtual 148, 3) := by decide +kernel
theorem dX8_sum_38 : decode cX8_sum 38 = .ok (.goto 9, 3) := by decide +kernel
theorem dX8_sum_41 : decode cX8_sum 41 = .ok (.aload_n 0, 1) := by decide +kernel
theorem dX8_sum_42 : decode cX8_sum 42 = .ok (.iconst 1, 1) := by decide +kernel
theorem dX8_sum_43 : decode cX8_sum 43 = .ok (.invokevirtual 90, 3) := by decide +kernel
theorem dX8_sum_46 : decode cX8_sum 46 = .ok (.i2l, 1) := by decide +kernel
theorem dX8_sum_47 : decode cX8_sum 47 = .ok (.lreturn, 1) := by decide +kernel
set_option maxRecDepth 20000 in
theorem ggX8_visibleAt_X8_firstAt : GoodIn wsX8_visibleAt wsX8_firstAt := goodIn_r _ [5, 6, 7, 8, 9, 4, 10, 11, 12, 13, 14, 15, 16, 17, 18, 19, 20, 21, 22, 23, 24, 25, 26, 27, 28, 29, 30, 31, 32, 33, 34, 35, 36, 37, 38, 39, 40, 41, 42, 43, 44, 45, 46] (by decide +kernel) (by decide +kernel)
set_option maxRecDepth 20000 in
theorem gX8_visibleAt_X8_firstAt : GoodIn wsX8_visibleAt (wsV RX8 130 RX8 yX8_firstAt wsX8_firstAt) := goodIn_app (goodIn_of _ (by decide +kernel)) ggX8_visibleAt_X8_firstAt
theorem dX8_visibleAt_0 : decode cX8_visibleAt 0 = .ok (.iconst 0, 1) := by decide +kernel
theorem dX8_visibleAt_1 : decode cX8_visibleAt 1 = .ok (.istore_n 3, 1) := by decide +kernel
theorem dX8_visibleAt_2 : decode cX8_visibleAt 2 = .ok (.iconst 0, 1) := by decide +kernel
theorem dX8_visibleAt_3 : decode cX8_visibleAt 3 = .ok (.istore 4, 2) := by decide +kernel
theorem dX8_visibleAt_5 : decode cX8_visibleAt 5 = .ok (.iload 4, 2) := by decide +kernel
theorem dX8_visibleAt_7 : decode cX8_visibleAt 7 = .ok (.sipush 255, 3) := by decide +kernel
theorem dX8_visibleAt_10 : decode cX8_visibleAt 10 = .ok (.if_icmp .gt 28, 3) := by decide +kernel
theorem dX8_visibleAt_13 : decode cX8_visibleAt 13 = .ok (.iload_n 3, 1) := by decide +kernel
theorem dX8_visibleAt_14 : decode cX8_visibleAt 14 = .ok (.aload_n 0, 1) := by decide +kernel
theorem dX8_visibleAt_15 : decode cX8_visibleAt 15 = .ok (.iload 4, 2) := by decide +kernel
theorem dX8_visibleAt_17 : decode cX8_visibleAt 17 = .ok (.iload_n 2, 1) := by decide +kernel
theorem dX8_visibleAt_18 : decode cX8_visibleAt 18 = .ok (.invokevirtual 130, 3) := by decide +kernel
theorem dX8_visibleAt_21 : decode cX8_visibleAt 21 = .ok (.iload_n 1, 1) := by decide +kernel
theorem dX8_visibleAt_22 : decode cX8_visibleAt 22 = .ok (.if_icmp .ne 7, 3) := by decide +kernel
theorem dX8_visibleAt_25 : decode cX8_visibleAt 25 = .ok (.iconst 1, 1) := by decide +kernel
theorem dX8_visibleAt_26 : decode cX8_visibleAt 26 = .ok (.goto 4, 3) := by decide +kernel
theorem dX8_visibleAt_29 : decode cX8_visibleAt 29 = .ok (.iconst 0, 1) := by decide +kernel
theorem dX8_visibleAt_30 : decode cX8_visibleAt 30 = .ok (.iadd, 1) := by decide +kernel
theorem dX8_visibleAt_31 : decode cX8_visibleAt 31 = .ok (.istore_n 3, 1) := by decide +kernel
theorem dX8_visibleAt_32 : decode cX8_visibleAt 32 = .ok (.iinc 4 1, 3) := by decide +kernel
theorem dX8_visibleAt_35 : decode cX8_visibleAt 35 = .ok (.goto (-30), 3) := by decide +kernel
theorem dX8_visibleAt_38 : decode cX8_visibleAt 38 = .ok (.iload_n 3, 1) := by decide +kernel
theorem dX8_visibleAt_39 : decode cX8_visibleAt 39 = .ok (.ireturn, 1) := by decide +kernel
set_option maxRecDepth 20000 in
theorem ggX8_visible_X8_isSegment : GoodIn wsX8_visible wsX8_isSegment := goodIn_r _ [6, 7, 8, 9, 5, 10, 50, 51, 52, 53, 54, 55, 56, 57, 58, 59, 60, 61, 62, 63] (by decide +kernel) (by decide +kernel)
set_option maxRecDepth 20000 in
theorem gX8_visible_X8_isSegment : GoodIn wsX8_visible (wsV RX8 94 RX8 yX8_isSegment wsX8_isSegment) := goodIn_app (goodIn_of _ (by decide +kernel)) ggX8_visible_X8_isSegment
set_option maxRecDepth 20000 in
theorem ggX8_visible_X8_fails : GoodIn wsX8_visible wsX8_fails := goodIn_r _ [14, 1, 50, 51, 52, 53, 54, 55, 56, 57, 58, 59, 60, 61, 62, 63] (by decide +kernel) (by decide +kernel)
set_option maxRecDepth 20000 in
theorem gX8_visible_X8_fails : GoodIn wsX8_visible (wsV RX8 90 RX8 yX8_fails wsX8_fails) := goodIn_app (goodIn_of _ (by decide +kernel)) ggX8_visible_X8_fails
set_option maxRecDepth 20000 in
theorem ggX8_visible_X8_isTick : GoodIn wsX8_visible wsX8_isTick := goodIn_r _ [17, 18, 8, 9, 5, 10] (by decide +kernel) (by decide +kernel)
set_option maxRecDepth 20000 in
theorem gX8_visible_X8_isTick : GoodIn wsX8_visible (va_wsS RX8 87 yX8_isTick wsX8_isTick) := goodIn_app (goodIn_of _ (by decide +kernel)) ggX8_visible_X8_isTick
set_option maxRecDepth 20000 in
theorem ggX8_visible_X8_visibleAt : GoodIn wsX8_visible wsX8_visibleAt := goodIn_r _ [22, 23, 24, 25, 5, 26, 7, 27, 28, 29, 30, 31, 32, 33, 34, 35, 36, 37, 38, 39, 40, 41, 8, 9, 10, 42, 43, 44, 45, 46, 47, 48, 49, 50, 51, 52, 53, 54, 55, 56, 57, 58, 59, 60, 61, 62, 63] (by decide +kernel) (by decide +kernel)
set_option maxRecDepth 20000 in
theorem gX8_visible_X8_visibleAt : GoodIn wsX8_visible (wsV RX8 152 RX8 yX8_visibleAt wsX8_visibleAt) := goodIn_app (goodIn_of _ (by decide +kernel)) ggX8_visible_X8_visibleAt
theorem dX8_visible_0 : decode cX8_visible 0 = .ok (.aload_n 0, 1) := by decide +kernel
theorem dX8_visible_1 : decode cX8_visible 1 = .ok (.iconst 0, 1) := by decide +kernel
theorem dX8_visible_2 : decode cX8_visible 2 = .ok (.putfield 31, 3) := by decide +kernel
theorem dX8_visible_5 : decode cX8_visible 5 = .ok (.aload_n 0, 1) := by decide +kernel
theorem dX8_visible_6 : decode cX8_visible 6 = .ok (.iload_n 1, 1) := by decide +kernel
theorem dX8_visible_7 : decode cX8_visible 7 = .ok (.invokevirtual 94, 3) := by decide +kernel
theorem dX8_visible_10 : decode cX8_visible 10 = .ok (.ifCond .ne 9, 3) := by decide +kernel
theorem dX8_visible_13 : decode cX8_visible 13 = .ok (.aload_n 0, 1) := by decide +kernel
theorem dX8_visible_14 : decode cX8_visible 14 = .ok (.iconst 1, 1) := by decide +kernel
theorem dX8_visible_15 : decode cX8_visible 15 = .ok (.invokevirtual 90, 3) := by decide +kernel
theorem dX8_visible_18 : decode cX8_visible 18 = .ok (.ireturn, 1) := by decide +kernel
theorem dX8_visible_19 : decode cX8_visible 19 = .ok (.iload_n 2, 1) := by decide +kernel
theorem dX8_visible_20 : decode cX8_visible 20 = .ok (.invokestatic 87, 3) := by decide +kernel
theorem dX8_visible_23 : decode cX8_visible 23 = .ok (.ifCond .eq 12, 3) := by decide +kernel
theorem dX8_visible_26 : decode cX8_visible 26 = .ok (.aload_n 0, 1) := by decide +kernel
theorem dX8_visible_27 : decode cX8_visible 27 = .ok (.iload_n 1, 1) := by decide +kernel
theorem dX8_visible_28 : decode cX8_visible 28 = .ok (.iload_n 2, 1) := by decide +kernel
theorem dX8_visible_29 : decode cX8_visible 29 = .ok (.invokevirtual 152, 3) := by decide +kernel
theorem dX8_visible_32 : decode cX8_visible 32 = .ok (.goto 8, 3) := by decide +kernel
theorem dX8_visible_35 : decode cX8_visible 35 = .ok (.aload_n 0, 1) := by decide +kernel
theorem dX8_visible_36 : decode cX8_visible 36 = .ok (.iconst 2, 1) := by decide +kernel
theorem dX8_visible_37 : decode cX8_visible 37 = .ok (.invokevirtual 90, 3) := by decide +kernel
theorem dX8_visible_40 : decode cX8_visible 40 = .ok (.ireturn, 1) := by decide +kernel
set_option maxRecDepth 20000 in
theorem ggX8_hidden_X8_isTick : GoodIn wsX8_hidden wsX8_isTick := goodIn_r _ [8, 9, 10, 11, 7, 12] (by decide +kernel) (by decide +kernel)
set_option maxRecDepth 20000 in
theorem gX8_hidden_X8_isTick : GoodIn wsX8_hidden (va_wsS RX8 87 yX8_isTick wsX8_isTick) := goodIn_app (goodIn_of _ (by decide +kernel)) ggX8_hidden_X8_isTick
set_option maxRecDepth 20000 in
theorem ggX8_hidden_X8_fails : GoodIn wsX8_hidden wsX8_fails := goodIn_r _ [16, 1, 48, 49, 50, 51, 52, 53, 54, 55, 56, 57, 58, 59, 60, 61] (by decide +kernel) (by decide +kernel)
set_option maxRecDepth 20000 in
theorem gX8_hidden_X8_fails : GoodIn wsX8_hidden (wsV RX8 90 RX8 yX8_fails wsX8_fails) := goodIn_app (goodIn_of _ (by decide +kernel)) ggX8_hidden_X8_fails
set_option maxRecDepth 20000 in
theorem ggX8_hidden_X8_layPieces : GoodIn wsX8_hidden wsX8_layPieces := goodIn_r _ [20, 3, 4, 21, 22, 23, 7, 24, 2, 25, 26, 27, 28, 29, 30, 31, 32, 33, 34, 35, 36, 37, 38, 39, 10, 11, 12, 40, 41, 42, 43, 44, 45, 46, 47, 48, 49, 50, 51, 52, 53, 54, 55, 56, 57, 58, 59, 60, 61] (by decide +kernel) (by decide +kernel)
set_option maxRecDepth 20000 in
theorem gX8_hidden_X8_layPieces : GoodIn wsX8_hidden (wsV RX8 142 RX8 yX8_layPieces wsX8_layPieces) := goodIn_app (goodIn_of _ (by decide +kernel)) ggX8_hidden_X8_layPieces
set_option maxRecDepth 20000 in
theorem ggX8_hidden_X8_isLive : GoodIn wsX8_hidden wsX8_isLive := goodIn_r _ [32, 33, 34, 35, 7, 36, 2, 37, 38, 39, 48, 49, 50, 51, 52, 53, 54, 55, 56, 57, 58, 59, 60, 61] (by decide +kernel) (by decide +kernel)
set_option maxRecDepth 20000 in
theorem gX8_hidden_X8_isLive : GoodIn wsX8_hidden (wsV RX8 97 RX8 yX8_isLive wsX8_isLive) := goodIn_app (goodIn_of _ (by decide +kernel)) ggX8_hidden_X8_isLive
theorem dX8_hidden_0 : decode cX8_hidden 0 = .ok (.aload_n 0, 1) := by decide +kernel
theorem dX8_hidden_1 : decode cX8_hidden 1 = .ok (.iconst 0, 1) := by decide +kernel
theorem dX8_hidden_2 : decode cX8_hidden 2 = .ok (.putfield 31, 3) := by decide +kernel
theorem dX8_hidden_5 : decode cX8_hidden 5 = .ok (.iload_n 1, 1) := by decide +kernel
theorem dX8_hidden_6 : decode cX8_hidden 6 = .ok (.invokestatic 87, 3) := by decide +kernel
theorem dX8_hidden_9 : decode cX8_hidden 9 = .ok (.ifCond .ne 9, 3) := by decide +kernel
theorem dX8_hidden_12 : decode cX8_hidden 12 = .ok (.aload_n 0, 1) := by decide +kernel
theorem dX8_hidden_13 : decode cX8_hidden 13 = .ok (.iconst 1, 1) := by decide +kernel
theorem dX8_hidden_14 : decode cX8_hidden 14 = .ok (.invokevirtual 90, 3) := by decide +kernel
theorem dX8_hidden_17 : decode cX8_hidden 17 = .ok (.ireturn, 1) := by decide +kernel
theorem dX8_hidden_18 : decode cX8_hidden 18 = .ok (.aload_n 0, 1) := by decide +kernel
theorem dX8_hidden_19 : decode cX8_hidden 19 = .ok (.iload_n 1, 1) := by decide +kernel
theorem dX8_hidden_20 : decode cX8_hidden 20 = .ok (.invokevirtual 142, 3) := by decide +kernel
theorem dX8_hidden_23 : decode cX8_hidden 23 = .ok (.iconst 0, 1) := by decide +kernel
theorem dX8_hidden_24 : decode cX8_hidden 24 = .ok (.istore_n 2, 1) := by decide +kernel
theorem dX8_hidden_25 : decode cX8_hidden 25 = .ok (.iconst 0, 1) := by decide +kernel
theorem dX8_hidden_26 : decode cX8_hidden 26 = .ok (.istore_n 3, 1) := by decide +kernel
theorem dX8_hidden_27 : decode cX8_hidden 27 = .ok (.iload_n 3, 1) := by decide +kernel
theorem dX8_hidden_28 : decode cX8_hidden 28 = .ok (.aload_n 0, 1) := by decide +kernel
theorem dX8_hidden_29 : decode cX8_hidden 29 = .ok (.getfield 7, 3) := by decide +kernel
theorem dX8_hidden_32 : decode cX8_hidden 32 = .ok (.iconst 0, 1) := by decide +kernel
theorem dX8_hidden_33 : decode cX8_hidden 33 = .ok (.iaload, 1) := by decide +kernel
theorem dX8_hidden_34 : decode cX8_hidden 34 = .ok (.if_icmp .ge 75, 3) := by decide +kernel
theorem dX8_hidden_37 : decode cX8_hidden 37 = .ok (.aload_n 0, 1) := by decide +kernel
theorem dX8_hidden_38 : decode cX8_hidden 38 = .ok (.iload_n 3, 1) := by decide +kernel
theorem dX8_hidden_39 : decode cX8_hidden 39 = .ok (.iload_n 1, 1) := by decide +kernel
theorem dX8_hidden_40 : decode cX8_hidden 40 = .ok (.invokevirtual 97, 3) := by decide +kernel
theorem dX8_hidden_43 : decode cX8_hidden 43 = .ok (.istore 4, 2) := by decide +kernel
theorem dX8_hidden_45 : decode cX8_hidden 45 = .ok (.iconst 0, 1) := by decide +kernel
theorem dX8_hidden_46 : decode cX8_hidden 46 = .ok (.istore 5, 2) := by decide +kernel
theorem dX8_hidden_48 : decode cX8_hidden 48 = .ok (.iload 5, 2) := by decide +kernel
theorem dX8_hidden_50 : decode cX8_hidden 50 = .ok (.aload_n 0, 1) := by decide +kernel
theorem dX8_hidden_51 : decode cX8_hidden 51 = .ok (.getfield 139, 3) := by decide +kernel
theorem dX8_hidden_54 : decode cX8_hidden 54 = .ok (.if_icmp .ge 36, 3) := by decide +kernel
theorem dX8_hidden_57 : decode cX8_hidden 57 = .ok (.iload 4, 2) := by decide +kernel
theorem dX8_hidden_59 : decode cX8_hidden 59 = .ok (.ifCond .eq 22, 3) := by decide +kernel
theorem dX8_hidden_62 : decode cX8_hidden 62 = .ok (.aload_n 0, 1) := by decide +kernel
theorem dX8_hidden_63 : decode cX8_hidden 63 = .ok (.getfield 19, 3) := by decide +kernel
theorem dX8_hidden_66 : decode cX8_hidden 66 = .ok (.iconst 3, 1) := by decide +kernel
theorem dX8_hidden_67 : decode cX8_hidden 67 = .ok (.iload 5, 2) := by decide +kernel
theorem dX8_hidden_69 : decode cX8_hidden 69 = .ok (.imul, 1) := by decide +kernel
theorem dX8_hidden_70 : decode cX8_hidden 70 = .ok (.iconst 2, 1) := by decide +kernel
theorem dX8_hidden_71 : decode cX8_hidden 71 = .ok (.iadd, 1) := by decide +kernel
theorem dX8_hidden_72 : decode cX8_hidden 72 = .ok (.iaload, 1) := by decide +kernel
theorem dX8_hidden_73 : decode cX8_hidden 73 = .ok (.iload_n 3, 1) := by decide +kernel
theorem dX8_hidden_74 : decode cX8_hidden 74 = .ok (.if_icmp .eq 7, 3) := by decide +kernel
theorem dX8_hidden_77 : decode cX8_hidden 77 = .ok (.iconst 1, 1) := by decide +kernel
theorem dX8_hidden_78 : decode cX8_hidden 78 = .ok (.goto 4, 3) := by decide +kernel
theorem dX8_hidden_81 : decode cX8_hidden 81 = .ok (.iconst 0, 1) := by decide +kernel
theorem dX8_hidden_82 : decode cX8_hidden 82 = .ok (.istore 4, 2) := by decide +kernel
theorem dX8_hidden_84 : decode cX8_hidden 84 = .ok (.iinc 5 1, 3) := by decide +kernel
theorem dX8_hidden_87 : decode cX8_hidden 87 = .ok (.goto (-39), 3) := by decide +kernel
theorem dX8_hidden_90 : decode cX8_hidden 90 = .ok (.iload_n 2, 1) := by decide +kernel
theorem dX8_hidden_91 : decode cX8_hidden 91 = .ok (.iload 4, 2) := by decide +kernel
theorem dX8_hidden_93 : decode cX8_hidden 93 = .ok (.ifCond .eq 7, 3) := by decide +kernel
theorem dX8_hidden_96 : decode cX8_hidden 96 = .ok (.iconst 1, 1) := by decide +kernel
theorem dX8_hidden_97 : decode cX8_hidden 97 = .ok (.goto 4, 3) := by decide +kernel
theorem dX8_hidden_100 : decode cX8_hidden 100 = .ok (.iconst 0, 1) := by decide +kernel
theorem dX8_hidden_101 : decode cX8_hidden 101 = .ok (.iadd, 1) := by decide +kernel
theorem dX8_hidden_102 : decode cX8_hidden 102 = .ok (.istore_n 2, 1) := by decide +kernel
theorem dX8_hidden_103 : decode cX8_hidden 103 = .ok (.iinc 3 1, 3) := by decide +kernel
theorem dX8_hidden_106 : decode cX8_hidden 106 = .ok (.goto (-79), 3) := by decide +kernel
theorem dX8_hidden_109 : decode cX8_hidden 109 = .ok (.iload_n 2, 1) := by decide +kernel
theorem dX8_hidden_110 : decode cX8_hidden 110 = .ok (.ireturn, 1) := by decide +kernel
set_option maxRecDepth 20000 in
theorem ggX8_extreme_X8_isTick : GoodIn wsX8_extreme wsX8_isTick := goodIn_r _ [5, 6, 7, 8, 4, 9] (by decide +kernel) (by decide +kernel)
set_option maxRecDepth 20000 in
theorem gX8_extreme_X8_isTick : GoodIn wsX8_extreme (va_wsS RX8 87 yX8_isTick wsX8_isTick) := goodIn_app (goodIn_of _ (by decide +kernel)) ggX8_extreme_X8_isTick
set_option maxRecDepth 20000 in
theorem ggX8_extreme_X8_fails : GoodIn wsX8_extreme wsX8_fails := goodIn_r _ [13, 1, 42, 43, 44, 45, 46, 47, 48, 49, 50, 51, 52, 53, 54, 55] (by decide +kernel) (by decide +kernel)
set_option maxRecDepth 20000 in
theorem gX8_extreme_X8_fails : GoodIn wsX8_extreme (wsV RX8 90 RX8 yX8_fails wsX8_fails) := goodIn_app (goodIn_of _ (by decide +kernel)) ggX8_extreme_X8_fails
set_option maxRecDepth 20000 in
theorem ggX8_extreme_X8_firstAt : GoodIn wsX8_extreme wsX8_firstAt := goodIn_r _ [17, 18, 19, 20, 21, 4, 22, 23, 24, 25, 26, 27, 28, 29, 30, 31, 32, 33, 7, 8, 9, 34, 35, 36, 37, 38, 39, 40, 41, 42, 43, 44, 45, 46, 47, 48, 49, 50, 51, 52, 53, 54, 55] (by decide +kernel) (by decide +kernel)
set_option maxRecDepth 20000 in
theorem gX8_extreme_X8_firstAt : GoodIn wsX8_extreme (wsV RX8 130 RX8 yX8_firstAt wsX8_firstAt) := goodIn_app (goodIn_of _ (by decide +kernel)) ggX8_extreme_X8_firstAt
set_option maxRecDepth 20000 in
theorem ggX8_extreme_X8_valueAt : GoodIn wsX8_extreme wsX8_valueAt := goodIn_r _ [41, 27, 28, 29, 4, 30, 18, 31, 32, 33, 42, 43, 44, 45, 46, 47, 48, 49, 50, 51, 52, 53, 54, 55] (by decide +kernel) (by decide +kernel)
set_option maxRecDepth 20000 in
theorem gX8_extreme_X8_valueAt : GoodIn wsX8_extreme (wsV RX8 117 RX8 yX8_valueAt wsX8_valueAt) := goodIn_app (goodIn_of _ (by decide +kernel)) ggX8_extreme_X8_valueAt
theorem dX8_extreme_0 : decode cX8_extreme 0 = .ok (.aload_n 0, 1) := by decide +kernel
theorem dX8_extreme_1 : decode cX8_extreme 1 = .ok (.iconst 0, 1) := by decide +kernel
theorem dX8_extreme_2 : decode cX8_extreme 2 = .ok (.putfield 31, 3) := by decide +kernel
theorem dX8_extreme_5 : decode cX8_extreme 5 = .ok (.iload_n 1, 1) := by decide +kernel
theorem dX8_extreme_6 : decode cX8_extreme 6 = .ok (.invokestatic 87, 3) := by decide +kernel
theorem dX8_extreme_9 : decode cX8_extreme 9 = .ok (.ifCond .ne 9, 3) := by decide +kernel
theorem dX8_extreme_12 : decode cX8_extreme 12 = .ok (.aload_n 0, 1) := by decide +kernel
theorem dX8_extreme_13 : decode cX8_extreme 13 = .ok (.iconst 1, 1) := by decide +kernel
theorem dX8_extreme_14 : decode cX8_extreme 14 = .ok (.invokevirtual 90, 3) := by decide +kernel
theorem dX8_extreme_17 : decode cX8_extreme 17 = .ok (.ireturn, 1) := by decide +kernel
theorem dX8_extreme_18 : decode cX8_extreme 18 = .ok (.iconst (-1), 1) := by decide +kernel
theorem dX8_extreme_19 : decode cX8_extreme 19 = .ok (.istore_n 3, 1) := by decide +kernel
theorem dX8_extreme_20 : decode cX8_extreme 20 = .ok (.iconst 0, 1) := by decide +kernel
theorem dX8_extreme_21 : decode cX8_extreme 21 = .ok (.istore 4, 2) := by decide +kernel
theorem dX8_extreme_23 : decode cX8_extreme 23 = .ok (.iconst 0, 1) := by decide +kernel
theorem dX8_extreme_24 : decode cX8_extreme 24 = .ok (.istore 5, 2) := by decide +kernel
theorem dX8_extreme_26 : decode cX8_extreme 26 = .ok (.iload 5, 2) := by decide +kernel
theorem dX8_extreme_28 : decode cX8_extreme 28 = .ok (.sipush 255, 3) := by decide +kernel
theorem dX8_extreme_31 : decode cX8_extreme 31 = .ok (.if_icmp .gt 77, 3) := by decide +kernel
theorem dX8_extreme_34 : decode cX8_extreme 34 = .ok (.aload_n 0, 1) := by decide +kernel
theorem dX8_extreme_35 : decode cX8_extreme 35 = .ok (.iload 5, 2) := by decide +kernel
theorem dX8_extreme_37 : decode cX8_extreme 37 = .ok (.iload_n 1, 1) := by decide +kernel
theorem dX8_extreme_38 : decode cX8_extreme 38 = .ok (.invokevirtual 130, 3) := by decide +kernel
theorem dX8_extreme_41 : decode cX8_extreme 41 = .ok (.istore 6, 2) := by decide +kernel
theorem dX8_extreme_43 : decode cX8_extreme 43 = .ok (.iload 6, 2) := by decide +kernel
theorem dX8_extreme_45 : decode cX8_extreme 45 = .ok (.iconst (-1), 1) := by decide +kernel
theorem dX8_extreme_46 : decode cX8_extreme 46 = .ok (.if_icmp .ne 7, 3) := by decide +kernel
theorem dX8_extreme_49 : decode cX8_extreme 49 = .ok (.iconst 0, 1) := by decide +kernel
theorem dX8_extreme_50 : decode cX8_extreme 50 = .ok (.goto 11, 3) := by decide +kernel
theorem dX8_extreme_53 : decode cX8_extreme 53 = .ok (.aload_n 0, 1) := by decide +kernel
theorem dX8_extreme_54 : decode cX8_extreme 54 = .ok (.iload 6, 2) := by decide +kernel
theorem dX8_extreme_56 : decode cX8_extreme 56 = .ok (.iload 5, 2) := by decide +kernel
theorem dX8_extreme_58 : decode cX8_extreme 58 = .ok (.invokevirtual 117, 3) := by decide +kernel
theorem dX8_extreme_61 : decode cX8_extreme 61 = .ok (.istore 7, 2) := by decide +kernel
theorem dX8_extreme_63 : decode cX8_extreme 63 = .ok (.iload 6, 2) := by decide +kernel
theorem dX8_extreme_65 : decode cX8_extreme 65 = .ok (.iconst (-1), 1) := by decide +kernel
theorem dX8_extreme_66 : decode cX8_extreme 66 = .ok (.if_icmp .eq 36, 3) := by decide +kernel
theorem dX8_extreme_69 : decode cX8_extreme 69 = .ok (.iload_n 3, 1) := by decide +kernel
theorem dX8_extreme_70 : decode cX8_extreme 70 = .ok (.iconst (-1), 1) := by decide +kernel
theorem dX8_extreme_71 : decode cX8_extreme 71 = .ok (.if_icmp .eq 24, 3) := by decide +kernel
theorem dX8_extreme_74 : decode cX8_extreme 74 = .ok (.iload_n 2, 1) := by decide +kernel
theorem dX8_extreme_75 : decode cX8_extreme 75 = .ok (.ifCond .eq 13, 3) := by decide +kernel
theorem dX8_extreme_78 : decode cX8_extreme 78 = .ok (.iload 7, 2) := by decide +kernel
theorem dX8_extreme_80 : decode cX8_extreme 80 = .ok (.iload 4, 2) := by decide +kernel
theorem dX8_extreme_82 : decode cX8_extreme 82 = .ok (.if_icmp .le 20, 3) := by decide +kernel
theorem dX8_extreme_85 : decode cX8_extreme 85 = .ok (.goto 10, 3) := by decide +kernel
theorem dX8_extreme_88 : decode cX8_extreme 88 = .ok (.iload 7, 2) := by decide +kernel
theorem dX8_extreme_90 : decode cX8_extreme 90 = .ok (.iload 4, 2) := by decide +kernel
theorem dX8_extreme_92 : decode cX8_extreme 92 = .ok (.if_icmp .ge 10, 3) := by decide +kernel
theorem dX8_extreme_95 : decode cX8_extreme 95 = .ok (.iload 5, 2) := by decide +kernel
theorem dX8_extreme_97 : decode cX8_extreme 97 = .ok (.istore_n 3, 1) := by decide +kernel
theorem dX8_extreme_98 : decode cX8_extreme 98 = .ok (.iload 7, 2) := by decide +kernel
theorem dX8_extreme_100 : decode cX8_extreme 100 = .ok (.istore 4, 2) := by decide +kernel
theorem dX8_extreme_102 : decode cX8_extreme 102 = .ok (.iinc 5 1, 3) := by decide +kernel
theorem dX8_extreme_105 : decode cX8_extreme 105 = .ok (.goto (-79), 3) := by decide +kernel
theorem dX8_extreme_108 : decode cX8_extreme 108 = .ok (.iload_n 3, 1) := by decide +kernel
theorem dX8_extreme_109 : decode cX8_extreme 109 = .ok (.ireturn, 1) := by decide +kernel
set_option maxRecDepth 20000 in
theorem ggX8_event_X8_of : GoodIn wsX8_event wsX8_of := goodIn_r _ [5, 6, 7, 8, 4, 9, 10, 11, 12, 13, 14, 15, 16, 17, 18, 19, 20, 21, 22, 23] (by decide +kernel) (by decide +kernel)
set_option maxRecDepth 20000 in
theorem gX8_event_X8_of : GoodIn wsX8_event (wsV RX8 58 RX8 yX8_of wsX8_of) := goodIn_app (goodIn_of _ (by decide +kernel)) ggX8_event_X8_of
theorem dX8_event_0 : decode cX8_event 0 = .ok (.aload_n 0, 1) := by decide +kernel
theorem dX8_event_1 : decode cX8_event 1 = .ok (.iload_n 1, 1) := by decide +kernel
theorem dX8_event_2 : decode cX8_event 2 = .ok (.iconst 2, 1) := by decide +kernel
theorem dX8_event_3 : decode cX8_event 3 = .ok (.idiv, 1) := by decide +kernel
theorem dX8_event_4 : decode cX8_event 4 = .ok (.iload_n 1, 1) := by decide +kernel
theorem dX8_event_5 : decode cX8_event 5 = .ok (.iconst 2, 1) := by decide +kernel
theorem dX8_event_6 : decode cX8_event 6 = .ok (.irem, 1) := by decide +kernel
theorem dX8_event_7 : decode cX8_event 7 = .ok (.ifCond .ne 7, 3) := by decide +kernel
theorem dX8_event_10 : decode cX8_event 10 = .ok (.iconst 4, 1) := by decide +kernel
theorem dX8_event_11 : decode cX8_event 11 = .ok (.goto 4, 3) := by decide +kernel
theorem dX8_event_14 : decode cX8_event 14 = .ok (.iconst 5, 1) := by decide +kernel
theorem dX8_event_15 : decode cX8_event 15 = .ok (.invokevirtual 58, 3) := by decide +kernel
theorem dX8_event_18 : decode cX8_event 18 = .ok (.ireturn, 1) := by decide +kernel
set_option maxRecDepth 20000 in
theorem ggX8_isNew_X8_event : GoodIn wsX8_isNew wsX8_event := goodIn_r _ [5, 6, 7, 8, 4, 9, 10, 11, 12, 13, 14, 15, 16, 17, 18, 19, 20, 21, 22, 23, 24, 25, 26, 27] (by decide +kernel) (by decide +kernel)
set_option maxRecDepth 20000 in
theorem gX8_isNew_X8_event : GoodIn wsX8_isNew (wsV RX8 155 RX8 yX8_event wsX8_event) := goodIn_app (goodIn_of _ (by decide +kernel)) ggX8_isNew_X8_event
theorem dX8_isNew_0 : decode cX8_isNew 0 = .ok (.iconst 1, 1) := by decide +kernel
theorem dX8_isNew_1 : decode cX8_isNew 1 = .ok (.istore_n 2, 1) := by decide +kernel
theorem dX8_isNew_2 : decode cX8_isNew 2 = .ok (.iconst 0, 1) := by decide +kernel
theorem dX8_isNew_3 : decode cX8_isNew 3 = .ok (.istore_n 3, 1) := by decide +kernel
theorem dX8_isNew_4 : decode cX8_isNew 4 = .ok (.iload_n 3, 1) := by decide +kernel
theorem dX8_isNew_5 : decode cX8_isNew 5 = .ok (.iload_n 1, 1) := by decide +kernel
theorem dX8_isNew_6 : decode cX8_isNew 6 = .ok (.if_icmp .ge 32, 3) := by decide +kernel
theorem dX8_isNew_9 : decode cX8_isNew 9 = .ok (.iload_n 2, 1) := by decide +kernel
theorem dX8_isNew_10 : decode cX8_isNew 10 = .ok (.ifCond .eq 20, 3) := by decide +kernel
theorem dX8_isNew_13 : decode cX8_isNew 13 = .ok (.aload_n 0, 1) := by decide +kernel
theorem dX8_isNew_14 : decode cX8_isNew 14 = .ok (.iload_n 3, 1) := by decide +kernel
theorem dX8_isNew_15 : decode cX8_isNew 15 = .ok (.invokevirtual 155, 3) := by decide +kernel
theorem dX8_isNew_18 : decode cX8_isNew 18 = .ok (.aload_n 0, 1) := by decide +kernel
theorem dX8_isNew_19 : decode cX8_isNew 19 = .ok (.iload_n 1, 1) := by decide +kernel
theorem dX8_isNew_20 : decode cX8_isNew 20 = .ok (.invokevirtual 155, 3) := by decide +kernel
theorem dX8_isNew_23 : decode cX8_isNew 23 = .ok (.if_icmp .eq 7, 3) := by decide +kernel
theorem dX8_isNew_26 : decode cX8_isNew 26 = .ok (.iconst 1, 1) := by decide +kernel
theorem dX8_isNew_27 : decode cX8_isNew 27 = .ok (.goto 4, 3) := by decide +kernel
theorem dX8_isNew_30 : decode cX8_isNew 30 = .ok (.iconst 0, 1) := by decide +kernel
theorem dX8_isNew_31 : decode cX8_isNew 31 = .ok (.istore_n 2, 1) := by decide +kernel
theorem dX8_isNew_32 : decode cX8_isNew 32 = .ok (.iinc 3 1, 3) := by decide +kernel
theorem dX8_isNew_35 : decode cX8_isNew 35 = .ok (.goto (-31), 3) := by decide +kernel
theorem dX8_isNew_38 : decode cX8_isNew 38 = .ok (.iload_n 2, 1) := by decide +kernel
theorem dX8_isNew_39 : decode cX8_isNew 39 = .ok (.ireturn, 1) := by decide +kernel
set_option maxRecDepth 20000 in
theorem ggX8_isChange_X8_firstAt : GoodIn wsX8_isChange wsX8_firstAt := goodIn_r _ [5, 6, 7, 8, 9, 4, 10, 11, 12, 13, 14, 15, 16, 17, 18, 19, 20, 21, 22, 23, 24, 25, 26, 27, 28, 29, 30, 31, 32, 33, 34, 35, 36, 37, 38, 39, 40, 41, 42, 43, 44, 45, 46] (by decide +kernel) (by decide +kernel)
set_option maxRecDepth 20000 in
theorem gX8_isChange_X8_firstAt : GoodIn wsX8_isChange (wsV RX8 130 RX8 yX8_firstAt wsX8_firstAt) := goodIn_app (goodIn_of _ (by decide +kernel)) ggX8_isChange_X8_firstAt
theorem dX8_isChange_0 : decode cX8_isChange 0 = .ok (.aload_n 0, 1) := by decide +kernel
theorem dX8_isChange_1 : decode cX8_isChange 1 = .ok (.iload_n 1, 1) := by decide +kernel
theorem dX8_isChange_2 : decode cX8_isChange 2 = .ok (.iload_n 2, 1) := by decide +kernel
theorem dX8_isChange_3 : decode cX8_isChange 3 = .ok (.invokevirtual 130, 3) := by decide +kernel
theorem dX8_isChange_6 : decode cX8_isChange 6 = .ok (.aload_n 0, 1) := by decide +kernel
theorem dX8_isChange_7 : decode cX8_isChange 7 = .ok (.iload_n 1, 1) := by decide +kernel
theorem dX8_isChange_8 : decode cX8_isChange 8 = .ok (.iload_n 2, 1) := by decide +kernel
theorem dX8_isChange_9 : decode cX8_isChange 9 = .ok (.iconst 1, 1) := by decide +kernel
theorem dX8_isChange_10 : decode cX8_isChange 10 = .ok (.isub, 1) := by decide +kernel
theorem dX8_isChange_11 : decode cX8_isChange 11 = .ok (.invokevirtual 130, 3) := by decide +kernel
theorem dX8_isChange_14 : decode cX8_isChange 14 = .ok (.if_icmp .eq 7, 3) := by decide +kernel
theorem dX8_isChange_17 : decode cX8_isChange 17 = .ok (.iconst 1, 1) := by decide +kernel
theorem dX8_isChange_18 : decode cX8_isChange 18 = .ok (.goto 4, 3) := by decide +kernel
theorem dX8_isChange_21 : decode cX8_isChange 21 = .ok (.iconst 0, 1) := by decide +kernel
theorem dX8_isChange_22 : decode cX8_isChange 22 = .ok (.ireturn, 1) := by decide +kernel
set_option maxRecDepth 20000 in
theorem ggX8_isRange_X8_isPosition : GoodIn wsX8_isRange wsX8_isPosition := goodIn_r _ [4, 5, 6, 7, 3, 8] (by decide +kernel) (by decide +kernel)
set_option maxRecDepth 20000 in
theorem gX8_isRange_X8_isPosition : GoodIn wsX8_isRange (va_wsS RX8 65 yX8_isPosition wsX8_isPosition) := goodIn_app (goodIn_of _ (by decide +kernel)) ggX8_isRange_X8_isPosition
set_option maxRecDepth 20000 in
theorem ggX8_isRange_X8_isTick : GoodIn wsX8_isRange wsX8_isTick := goodIn_r _ [11, 12, 6, 7, 3, 8] (by decide +kernel) (by decide +kernel)
set_option maxRecDepth 20000 in
theorem gX8_isRange_X8_isTick : GoodIn wsX8_isRange (va_wsS RX8 87 yX8_isTick wsX8_isTick) := goodIn_app (goodIn_of _ (by decide +kernel)) ggX8_isRange_X8_isTick
theorem dX8_isRange_0 : decode cX8_isRange 0 = .ok (.iload_n 0, 1) := by decide +kernel
theorem dX8_isRange_1 : decode cX8_isRange 1 = .ok (.invokestatic 65, 3) := by decide +kernel
theorem dX8_isRange_4 : decode cX8_isRange 4 = .ok (.ifCond .eq 26, 3) := by decide +kernel
theorem dX8_isRange_7 : decode cX8_isRange 7 = .ok (.iload_n 1, 1) := by decide +kernel
theorem dX8_isRange_8 : decode cX8_isRange 8 = .ok (.invokestatic 87, 3) := by decide +kernel
theorem dX8_isRange_11 : decode cX8_isRange 11 = .ok (.ifCond .eq 19, 3) := by decide +kernel
theorem dX8_isRange_14 : decode cX8_isRange 14 = .ok (.iload_n 2, 1) := by decide +kernel
theorem dX8_isRange_15 : decode cX8_isRange 15 = .ok (.invokestatic 87, 3) := by decide +kernel
theorem dX8_isRange_18 : decode cX8_isRange 18 = .ok (.ifCond .eq 12, 3) := by decide +kernel
theorem dX8_isRange_21 : decode cX8_isRange 21 = .ok (.iload_n 1, 1) := by decide +kernel
theorem dX8_isRange_22 : decode cX8_isRange 22 = .ok (.iload_n 2, 1) := by decide +kernel
theorem dX8_isRange_23 : decode cX8_isRange 23 = .ok (.if_icmp .gt 7, 3) := by decide +kernel
theorem dX8_isRange_26 : decode cX8_isRange 26 = .ok (.iconst 1, 1) := by decide +kernel
theorem dX8_isRange_27 : decode cX8_isRange 27 = .ok (.goto 4, 3) := by decide +kernel
theorem dX8_isRange_30 : decode cX8_isRange 30 = .ok (.iconst 0, 1) := by decide +kernel
theorem dX8_isRange_31 : decode cX8_isRange 31 = .ok (.ireturn, 1) := by decide +kernel
set_option maxRecDepth 20000 in
theorem ggX8_changes_X8_isRange : GoodIn wsX8_changes wsX8_isRange := goodIn_r _ [6, 7, 8, 5, 9, 10, 11, 12, 13, 14, 15, 16, 17] (by decide +kernel) (by decide +kernel)
set_option maxRecDepth 20000 in
theorem gX8_changes_X8_isRange : GoodIn wsX8_changes (va_wsS RX8 158 yX8_isRange wsX8_isRange) := goodIn_app (goodIn_of _ (by decide +kernel)) ggX8_changes_X8_isRange
set_option maxRecDepth 20000 in
theorem ggX8_changes_X8_fails : GoodIn wsX8_changes wsX8_fails := goodIn_r _ [21, 1, 61, 62, 63, 64, 65, 66, 67, 68, 69, 70, 71, 72, 73, 74] (by decide +kernel) (by decide +kernel)
set_option maxRecDepth 20000 in
theorem gX8_changes_X8_fails : GoodIn wsX8_changes (wsV RX8 90 RX8 yX8_fails wsX8_fails) := goodIn_app (goodIn_of _ (by decide +kernel)) ggX8_changes_X8_fails
set_option maxRecDepth 20000 in
theorem ggX8_changes_X8_event : GoodIn wsX8_changes wsX8_event := goodIn_r _ [25, 26, 27, 28, 5, 29, 2, 30, 31, 32, 61, 62, 63, 64, 65, 66, 67, 68, 69, 70, 71, 72, 73, 74] (by decide +kernel) (by decide +kernel)
set_option maxRecDepth 20000 in
theorem gX8_changes_X8_event : GoodIn wsX8_changes (wsV RX8 155 RX8 yX8_event wsX8_event) := goodIn_app (goodIn_of _ (by decide +kernel)) ggX8_changes_X8_event
set_option maxRecDepth 20000 in
theorem ggX8_changes_X8_in : GoodIn wsX8_changes wsX8_in := goodIn_r _ [13] (by decide +kernel) (by decide +kernel)
set_option maxRecDepth 20000 in
theorem gX8_changes_X8_in : GoodIn wsX8_changes (va_wsS RX8 42 yX8_in wsX8_in) := goodIn_app (goodIn_of _ (by decide +kernel)) ggX8_changes_X8_in
set_option maxRecDepth 20000 in
theorem ggX8_changes_X8_isNew : GoodIn wsX8_changes wsX8_isNew := goodIn_r _ [36, 22, 23, 24, 5, 25, 26, 27, 28, 29, 2, 30, 31, 32, 61, 62, 63, 64, 65, 66, 67, 68, 69, 70, 71, 72, 73, 74] (by decide +kernel) (by decide +kernel)
set_option maxRecDepth 20000 in
theorem gX8_changes_X8_isNew : GoodIn wsX8_changes (wsV RX8 161 RX8 yX8_isNew wsX8_isNew) := goodIn_app (goodIn_of _ (by decide +kernel)) ggX8_changes_X8_isNew
set_option maxRecDepth 20000 in
theorem ggX8_changes_X8_isChange : GoodIn wsX8_changes wsX8_isChange := goodIn_r _ [40, 41, 42, 43, 5, 44, 2, 45, 46, 47, 48, 49, 50, 51, 52, 26, 27, 28, 29, 30, 31, 32, 11, 12, 13, 53, 54, 55, 56, 57, 58, 59, 60, 61, 62, 63, 64, 65, 66, 67, 68, 69, 70, 71, 72, 73, 74] (by decide +kernel) (by decide +kernel)
set_option maxRecDepth 20000 in
theorem gX8_changes_X8_isChange : GoodIn wsX8_changes (wsV RX8 164 RX8 yX8_isChange wsX8_isChange) := goodIn_app (goodIn_of _ (by decide +kernel)) ggX8_changes_X8_isChange
theorem dX8_changes_0 : decode cX8_changes 0 = .ok (.aload_n 0, 1) := by decide +kernel
theorem dX8_changes_1 : decode cX8_changes 1 = .ok (.iconst 0, 1) := by decide +kernel
theorem dX8_changes_2 : decode cX8_changes 2 = .ok (.putfield 31, 3) := by decide +kernel
theorem dX8_changes_5 : decode cX8_changes 5 = .ok (.iload_n 1, 1) := by decide +kernel
theorem dX8_changes_6 : decode cX8_changes 6 = .ok (.iload_n 2, 1) := by decide +kernel
theorem dX8_changes_7 : decode cX8_changes 7 = .ok (.iload_n 3, 1) := by decide +kernel
theorem dX8_changes_8 : decode cX8_changes 8 = .ok (.invokestatic 158, 3) := by decide +kernel
theorem dX8_changes_11 : decode cX8_changes 11 = .ok (.ifCond .ne 9, 3) := by decide +kernel
theorem dX8_changes_14 : decode cX8_changes 14 = .ok (.aload_n 0, 1) := by decide +kernel
theorem dX8_changes_15 : decode cX8_changes 15 = .ok (.iconst 1, 1) := by decide +kernel
theorem dX8_changes_16 : decode cX8_changes 16 = .ok (.invokevirtual 90, 3) := by decide +kernel
theorem dX8_changes_19 : decode cX8_changes 19 = .ok (.ireturn, 1) := by decide +kernel
theorem dX8_changes_20 : decode cX8_changes 20 = .ok (.iconst 0, 1) := by decide +kernel
theorem dX8_changes_21 : decode cX8_changes 21 = .ok (.istore 4, 2) := by decide +kernel
theorem dX8_changes_23 : decode cX8_changes 23 = .ok (.iconst 0, 1) := by decide +kernel
theorem dX8_changes_24 : decode cX8_changes 24 = .ok (.istore 5, 2) := by decide +kernel
theorem dX8_changes_26 : decode cX8_changes 26 = .ok (.iload 5, 2) := by decide +kernel
theorem dX8_changes_28 : decode cX8_changes 28 = .ok (.iconst 2, 1) := by decide +kernel
theorem dX8_changes_29 : decode cX8_changes 29 = .ok (.aload_n 0, 1) := by decide +kernel
theorem dX8_changes_30 : decode cX8_changes 30 = .ok (.getfield 7, 3) := by decide +kernel
theorem dX8_changes_33 : decode cX8_changes 33 = .ok (.iconst 0, 1) := by decide +kernel
theorem dX8_changes_34 : decode cX8_changes 34 = .ok (.iaload, 1) := by decide +kernel
theorem dX8_changes_35 : decode cX8_changes 35 = .ok (.imul, 1) := by decide +kernel
theorem dX8_changes_36 : decode cX8_changes 36 = .ok (.if_icmp .ge 61, 3) := by decide +kernel
theorem dX8_changes_39 : decode cX8_changes 39 = .ok (.iload 4, 2) := by decide +kernel
theorem dX8_changes_41 : decode cX8_changes 41 = .ok (.aload_n 0, 1) := by decide +kernel
theorem dX8_changes_42 : decode cX8_changes 42 = .ok (.iload 5, 2) := by decide +kernel
theorem dX8_changes_44 : decode cX8_changes 44 = .ok (.invokevirtual 155, 3) := by decide +kernel
theorem dX8_changes_47 : decode cX8_changes 47 = .ok (.i2l, 1) := by decide +kernel
theorem dX8_changes_48 : decode cX8_changes 48 = .ok (.iload_n 2, 1) := by decide +kernel
theorem dX8_changes_49 : decode cX8_changes 49 = .ok (.iconst 1, 1) := by decide +kernel
theorem dX8_changes_50 : decode cX8_changes 50 = .ok (.iadd, 1) := by decide +kernel
theorem dX8_changes_51 : decode cX8_changes 51 = .ok (.i2l, 1) := by decide +kernel
theorem dX8_changes_52 : decode cX8_changes 52 = .ok (.iload_n 3, 1) := by decide +kernel
theorem dX8_changes_53 : decode cX8_changes 53 = .ok (.i2l, 1) := by decide +kernel
theorem dX8_changes_54 : decode cX8_changes 54 = .ok (.invokestatic 42, 3) := by decide +kernel
theorem dX8_changes_57 : decode cX8_changes 57 = .ok (.ifCond .eq 30, 3) := by decide +kernel
theorem dX8_changes_60 : decode cX8_changes 60 = .ok (.aload_n 0, 1) := by decide +kernel
theorem dX8_changes_61 : decode cX8_changes 61 = .ok (.iload 5, 2) := by decide +kernel
theorem dX8_changes_63 : decode cX8_changes 63 = .ok (.invokevirtual 161, 3) := by decide +kernel
theorem dX8_changes_66 : decode cX8_changes 66 = .ok (.ifCond .eq 21, 3) := by decide +kernel
theorem dX8_changes_69 : decode cX8_changes 69 = .ok (.aload_n 0, 1) := by decide +kernel
theorem dX8_changes_70 : decode cX8_changes 70 = .ok (.iload_n 1, 1) := by decide +kernel
theorem dX8_changes_71 : decode cX8_changes 71 = .ok (.aload_n 0, 1) := by decide +kernel
theorem dX8_changes_72 : decode cX8_changes 72 = .ok (.iload 5, 2) := by decide +kernel
theorem dX8_changes_74 : decode cX8_changes 74 = .ok (.invokevirtual 155, 3) := by decide +kernel
theorem dX8_changes_77 : decode cX8_changes 77 = .ok (.invokevirtual 164, 3) := by decide +kernel
theorem dX8_changes_80 : decode cX8_changes 80 = .ok (.ifCond .eq 7, 3) := by decide +kernel
theorem dX8_changes_83 : decode cX8_changes 83 = .ok (.iconst 1, 1) := by decide +kernel
theorem dX8_changes_84 : decode cX8_changes 84 = .ok (.goto 4, 3) := by decide +kernel
theorem dX8_changes_87 : decode cX8_changes 87 = .ok (.iconst 0, 1) := by decide +kernel
theorem dX8_changes_88 : decode cX8_changes 88 = .ok (.iadd, 1) := by decide +kernel
theorem dX8_changes_89 : decode cX8_changes 89 = .ok (.istore 4, 2) := by decide +kernel
theorem dX8_changes_91 : decode cX8_changes 91 = .ok (.iinc 5 1, 3) := by decide +kernel
theorem dX8_changes_94 : decode cX8_changes 94 = .ok (.goto (-68), 3) := by decide +kernel
theorem dX8_changes_97 : decode cX8_changes 97 = .ok (.iload 4, 2) := by decide +kernel
theorem dX8_changes_99 : decode cX8_changes 99 = .ok (.ireturn, 1) := by decide +kernel
set_option maxRecDepth 20000 in
theorem ggX8_nextChange_X8_isPlace : GoodIn wsX8_nextChange wsX8_isPlace := goodIn_r _ [6, 7, 8, 5, 9, 10, 11, 12, 13, 14, 15, 16, 17] (by decide +kernel) (by decide +kernel)
set_option maxRecDepth 20000 in
theorem gX8_nextChange_X8_isPlace : GoodIn wsX8_nextChange (va_wsS RX8 127 yX8_isPlace wsX8_isPlace) := goodIn_app (goodIn_of _ (by decide +kernel)) ggX8_nextChange_X8_isPlace
set_option maxRecDepth 20000 in
theorem ggX8_nextChange_X8_fails : GoodIn wsX8_nextChange wsX8_fails := goodIn_r _ [21, 1, 57, 58, 59, 60, 61, 62, 63, 64, 65, 66, 67, 68, 69, 70] (by decide +kernel) (by decide +kernel)
set_option maxRecDepth 20000 in
theorem gX8_nextChange_X8_fails : GoodIn wsX8_nextChange (wsV RX8 90 RX8 yX8_fails wsX8_fails) := goodIn_app (goodIn_of _ (by decide +kernel)) ggX8_nextChange_X8_fails
set_option maxRecDepth 20000 in
theorem ggX8_nextChange_X8_event : GoodIn wsX8_nextChange wsX8_event := goodIn_r _ [25, 26, 27, 28, 5, 29, 2, 30, 31, 32, 57, 58, 59, 60, 61, 62, 63, 64, 65, 66, 67, 68, 69, 70] (by decide +kernel) (by decide +kernel)
set_option maxRecDepth 20000 in
theorem gX8_nextChange_X8_event : GoodIn wsX8_nextChange (wsV RX8 155 RX8 yX8_event wsX8_event) := goodIn_app (goodIn_of _ (by decide +kernel)) ggX8_nextChange_X8_event
set_option maxRecDepth 20000 in
theorem ggX8_nextChange_X8_isChange : GoodIn wsX8_nextChange wsX8_isChange := goodIn_r _ [36, 37, 38, 39, 5, 40, 2, 41, 42, 43, 44, 45, 46, 47, 48, 26, 27, 28, 29, 30, 31, 32, 11, 12, 13, 49, 50, 51, 52, 53, 54, 55, 56, 57, 58, 59, 60, 61, 62, 63, 64, 65, 66, 67, 68, 69, 70] (by decide +kernel) (by decide +kernel)
set_option maxRecDepth 20000 in
theorem gX8_nextChange_X8_isChange : GoodIn wsX8_nextChange (wsV RX8 164 RX8 yX8_isChange wsX8_isChange) := goodIn_app (goodIn_of _ (by decide +kernel)) ggX8_nextChange_X8_isChange
theorem dX8_nextChange_0 : decode cX8_nextChange 0 = .ok (.aload_n 0, 1) := by decide +kernel
theorem dX8_nextChange_1 : decode cX8_nextChange 1 = .ok (.iconst 0, 1) := by decide +kernel
theorem dX8_nextChange_2 : decode cX8_nextChange 2 = .ok (.putfield 31, 3) := by decide +kernel
theorem dX8_nextChange_5 : decode cX8_nextChange 5 = .ok (.iload_n 1, 1) := by decide +kernel
theorem dX8_nextChange_6 : decode cX8_nextChange 6 = .ok (.iload_n 2, 1) := by decide +kernel
theorem dX8_nextChange_7 : decode cX8_nextChange 7 = .ok (.invokestatic 127, 3) := by decide +kernel
theorem dX8_nextChange_10 : decode cX8_nextChange 10 = .ok (.ifCond .ne 9, 3) := by decide +kernel
theorem dX8_nextChange_13 : decode cX8_nextChange 13 = .ok (.aload_n 0, 1) := by decide +kernel
theorem dX8_nextChange_14 : decode cX8_nextChange 14 = .ok (.iconst 1, 1) := by decide +kernel
theorem dX8_nextChange_15 : decode cX8_nextChange 15 = .ok (.invokevirtual 90, 3) := by decide +kernel
theorem dX8_nextChange_18 : decode cX8_nextChange 18 = .ok (.ireturn, 1) := by decide +kernel
theorem dX8_nextChange_19 : decode cX8_nextChange 19 = .ok (.iconst (-1), 1) := by decide +kernel
theorem dX8_nextChange_20 : decode cX8_nextChange 20 = .ok (.istore_n 3, 1) := by decide +kernel
theorem dX8_nextChange_21 : decode cX8_nextChange 21 = .ok (.iconst 0, 1) := by decide +kernel
theorem dX8_nextChange_22 : decode cX8_nextChange 22 = .ok (.istore 4, 2) := by decide +kernel
theorem dX8_nextChange_24 : decode cX8_nextChange 24 = .ok (.iload 4, 2) := by decide +kernel
theorem dX8_nextChange_26 : decode cX8_nextChange 26 = .ok (.iconst 2, 1) := by decide +kernel
theorem dX8_nextChange_27 : decode cX8_nextChange 27 = .ok (.aload_n 0, 1) := by decide +kernel
theorem dX8_nextChange_28 : decode cX8_nextChange 28 = .ok (.getfield 7, 3) := by decide +kernel
theorem dX8_nextChange_31 : decode cX8_nextChange 31 = .ok (.iconst 0, 1) := by decide +kernel
theorem dX8_nextChange_32 : decode cX8_nextChange 32 = .ok (.iaload, 1) := by decide +kernel
theorem dX8_nextChange_33 : decode cX8_nextChange 33 = .ok (.imul, 1) := by decide +kernel
theorem dX8_nextChange_34 : decode cX8_nextChange 34 = .ok (.if_icmp .ge 71, 3) := by decide +kernel
theorem dX8_nextChange_37 : decode cX8_nextChange 37 = .ok (.aload_n 0, 1) := by decide +kernel
theorem dX8_nextChange_38 : decode cX8_nextChange 38 = .ok (.iload 4, 2) := by decide +kernel
theorem dX8_nextChange_40 : decode cX8_nextChange 40 = .ok (.invokevirtual 155, 3) := by decide +kernel
theorem dX8_nextChange_43 : decode cX8_nextChange 43 = .ok (.iload_n 2, 1) := by decide +kernel
theorem dX8_nextChange_44 : decode cX8_nextChange 44 = .ok (.if_icmp .le 22, 3) := by decide +kernel
theorem dX8_nextChange_47 : decode cX8_nextChange 47 = .ok (.iload_n 3, 1) := by decide +kernel
theorem dX8_nextChange_48 : decode cX8_nextChange 48 = .ok (.iconst (-1), 1) := by decide +kernel
theorem dX8_nextChange_49 : decode cX8_nextChange 49 = .ok (.if_icmp .eq 13, 3) := by decide +kernel
theorem dX8_nextChange_52 : decode cX8_nextChange 52 = .ok (.aload_n 0, 1) := by decide +kernel
theorem dX8_nextChange_53 : decode cX8_nextChange 53 = .ok (.iload 4, 2) := by decide +kernel
theorem dX8_nextChange_55 : decode cX8_nextChange 55 = .ok (.invokevirtual 155, 3) := by decide +kernel
theorem dX8_nextChange_58 : decode cX8_nextChange 58 = .ok (.iload_n 3, 1) := by decide +kernel
theorem dX8_nextChange_59 : decode cX8_nextChange 59 = .ok (.if_icmp .ge 7, 3) := by decide +kernel
theorem dX8_nextChange_62 : decode cX8_nextChange 62 = .ok (.iconst 1, 1) := by decide +kernel
theorem dX8_nextChange_63 : decode cX8_nextChange 63 = .ok (.goto 4, 3) := by decide +kernel
theorem dX8_nextChange_66 : decode cX8_nextChange 66 = .ok (.iconst 0, 1) := by decide +kernel
theorem dX8_nextChange_67 : decode cX8_nextChange 67 = .ok (.istore 5, 2) := by decide +kernel
theorem dX8_nextChange_69 : decode cX8_nextChange 69 = .ok (.iload 5, 2) := by decide +kernel
theorem dX8_nextChange_71 : decode cX8_nextChange 71 = .ok (.ifCond .eq 26, 3) := by decide +kernel
theorem dX8_nextChange_74 : decode cX8_nextChange 74 = .ok (.aload_n 0, 1) := by decide +kernel
theorem dX8_nextChange_75 : decode cX8_nextChange 75 = .ok (.iload_n 1, 1) := by decide +kernel
theorem dX8_nextChange_76 : decode cX8_nextChange 76 = .ok (.aload_n 0, 1) := by decide +kernel
theorem dX8_nextChange_77 : decode cX8_nextChange 77 = .ok (.iload 4, 2) := by decide +kernel
theorem dX8_nextChange_79 : decode cX8_nextChange 79 = .ok (.invokevirtual 155, 3) := by decide +kernel
theorem dX8_nextChange_82 : decode cX8_nextChange 82 = .ok (.invokevirtual 164, 3) := by decide +kernel
theorem dX8_nextChange_85 : decode cX8_nextChange 85 = .ok (.ifCond .eq 12, 3) := by decide +kernel
theorem dX8_nextChange_88 : decode cX8_nextChange 88 = .ok (.aload_n 0, 1) := by decide +kernel
theorem dX8_nextChange_89 : decode cX8_nextChange 89 = .ok (.iload 4, 2) := by decide +kernel
theorem dX8_nextChange_91 : decode cX8_nextChange 91 = .ok (.invokevirtual 155, 3) := by decide +kernel
theorem dX8_nextChange_94 : decode cX8_nextChange 94 = .ok (.goto 4, 3) := by decide +kernel
theorem dX8_nextChange_97 : decode cX8_nextChange 97 = .ok (.iload_n 3, 1) := by decide +kernel
theorem dX8_nextChange_98 : decode cX8_nextChange 98 = .ok (.istore_n 3, 1) := by decide +kernel
theorem dX8_nextChange_99 : decode cX8_nextChange 99 = .ok (.iinc 4 1, 3) := by decide +kernel
theorem dX8_nextChange_102 : decode cX8_nextChange 102 = .ok (.goto (-78), 3) := by decide +kernel
theorem dX8_nextChange_105 : decode cX8_nextChange 105 = .ok (.iload_n 3, 1) := by decide +kernel
theorem dX8_nextChange_106 : decode cX8_nextChange 106 = .ok (.ireturn, 1) := by decide +kernel
set_option maxRecDepth 20000 in
theorem ggX8_overTime_X8_isRange : GoodIn wsX8_overTime wsX8_isRange := goodIn_r _ [7, 8, 9, 6, 10, 11, 12, 13, 14, 15, 16, 17, 18] (by decide +kernel) (by decide +kernel)
set_option maxRecDepth 20000 in
theorem gX8_overTime_X8_isRange : GoodIn wsX8_overTime (va_wsS RX8 158 yX8_isRange wsX8_isRange) := goodIn_app (goodIn_of _ (by decide +kernel)) ggX8_overTime_X8_isRange
set_option maxRecDepth 20000 in
theorem ggX8_overTime_X8_fails : GoodIn wsX8_overTime wsX8_fails := goodIn_r _ [22, 1, 54, 55, 56, 57, 58, 59, 60, 61, 62, 63, 64, 65, 66, 67] (by decide +kernel) (by decide +kernel)
set_option maxRecDepth 20000 in
theorem gX8_overTime_X8_fails : GoodIn wsX8_overTime (wsV RX8 90 RX8 yX8_fails wsX8_fails) := goodIn_app (goodIn_of _ (by decide +kernel)) ggX8_overTime_X8_fails
set_option maxRecDepth 20000 in
theorem ggX8_overTime_X8_event : GoodIn wsX8_overTime wsX8_event := goodIn_r _ [26, 27, 28, 29, 6, 30, 2, 31, 32, 33, 54, 55, 56, 57, 58, 59, 60, 61, 62, 63, 64, 65, 66, 67] (by decide +kernel) (by decide +kernel)
set_option maxRecDepth 20000 in
theorem gX8_overTime_X8_event : GoodIn wsX8_overTime (wsV RX8 155 RX8 yX8_event wsX8_event) := goodIn_app (goodIn_of _ (by decide +kernel)) ggX8_overTime_X8_event
set_option maxRecDepth 20000 in
theorem ggX8_overTime_X8_in : GoodIn wsX8_overTime wsX8_in := goodIn_r _ [14] (by decide +kernel) (by decide +kernel)
set_option maxRecDepth 20000 in
theorem gX8_overTime_X8_in : GoodIn wsX8_overTime (va_wsS RX8 42 yX8_in wsX8_in) := goodIn_app (goodIn_of _ (by decide +kernel)) ggX8_overTime_X8_in
set_option maxRecDepth 20000 in
theorem ggX8_overTime_X8_firstAt : GoodIn wsX8_overTime wsX8_firstAt := goodIn_r _ [37, 2, 38, 39, 40, 6, 41, 42, 43, 44, 45, 27, 28, 29, 30, 31, 32, 33, 12, 13, 14, 46, 47, 48, 49, 50, 51, 52, 53, 54, 55, 56, 57, 58, 59, 60, 61, 62, 63, 64, 65, 66, 67] (by decide +kernel) (by decide +kernel)
set_option maxRecDepth 20000 in
theorem gX8_overTime_X8_firstAt : GoodIn wsX8_overTime (wsV RX8 130 RX8 yX8_firstAt wsX8_firstAt) := goodIn_app (goodIn_of _ (by decide +kernel)) ggX8_overTime_X8_firstAt
set_option maxRecDepth 20000 in
theorem ggX8_overTime_X8_valueAt : GoodIn wsX8_overTime wsX8_valueAt := goodIn_r _ [53, 27, 28, 29, 6, 30, 2, 31, 32, 33, 54, 55, 56, 57, 58, 59, 60, 61, 62, 63, 64, 65, 66, 67] (by decide +kernel) (by decide +kernel)
set_option maxRecDepth 20000 in
theorem gX8_overTime_X8_valueAt : GoodIn wsX8_overTime (wsV RX8 117 RX8 yX8_valueAt wsX8_valueAt) := goodIn_app (goodIn_of _ (by decide +kernel)) ggX8_overTime_X8_valueAt
theorem dX8_overTime_0 : decode cX8_overTime 0 = .ok (.aload_n 0, 1) := by decide +kernel
theorem dX8_overTime_1 : decode cX8_overTime 1 = .ok (.iconst 0, 1) := by decide +kernel
theorem dX8_overTime_2 : decode cX8_overTime 2 = .ok (.putfield 31, 3) := by decide +kernel
theorem dX8_overTime_5 : decode cX8_overTime 5 = .ok (.iload_n 1, 1) := by decide +kernel
theorem dX8_overTime_6 : decode cX8_overTime 6 = .ok (.iload_n 2, 1) := by decide +kernel
theorem dX8_overTime_7 : decode cX8_overTime 7 = .ok (.iload_n 3, 1) := by decide +kernel
theorem dX8_overTime_8 : decode cX8_overTime 8 = .ok (.invokestatic 158, 3) := by decide +kernel
theorem dX8_overTime_11 : decode cX8_overTime 11 = .ok (.ifCond .ne 10, 3) := by decide +kernel
theorem dX8_overTime_14 : decode cX8_overTime 14 = .ok (.aload_n 0, 1) := by decide +kernel
theorem dX8_overTime_15 : decode cX8_overTime 15 = .ok (.iconst 1, 1) := by decide +kernel
theorem dX8_overTime_16 : decode cX8_overTime 16 = .ok (.invokevirtual 90, 3) := by decide +kernel
theorem dX8_overTime_19 : decode cX8_overTime 19 = .ok (.i2l, 1) := by decide +kernel
theorem dX8_overTime_20 : decode cX8_overTime 20 = .ok (.lreturn, 1) := by decide +kernel
theorem dX8_overTime_21 : decode cX8_overTime 21 = .ok (.iconst 0, 1) := by decide +kernel
theorem dX8_overTime_22 : decode cX8_overTime 22 = .ok (.istore 5, 2) := by decide +kernel
theorem dX8_overTime_24 : decode cX8_overTime 24 = .ok (.iconst 0, 1) := by decide +kernel
theorem dX8_overTime_25 : decode cX8_overTime 25 = .ok (.istore 6, 2) := by decide +kernel
theorem dX8_overTime_27 : decode cX8_overTime 27 = .ok (.iconst (-1), 1) := by decide +kernel
theorem dX8_overTime_28 : decode cX8_overTime 28 = .ok (.istore 7, 2) := by decide +kernel
theorem dX8_overTime_30 : decode cX8_overTime 30 = .ok (.iload 7, 2) := by decide +kernel
theorem dX8_overTime_32 : decode cX8_overTime 32 = .ok (.iconst 2, 1) := by decide +kernel
theorem dX8_overTime_33 : decode cX8_overTime 33 = .ok (.aload_n 0, 1) := by decide +kernel
theorem dX8_overTime_34 : decode cX8_overTime 34 = .ok (.getfield 7, 3) := by decide +kernel
theorem dX8_overTime_37 : decode cX8_overTime 37 = .ok (.iconst 0, 1) := by decide +kernel
theorem dX8_overTime_38 : decode cX8_overTime 38 = .ok (.iaload, 1) := by decide +kernel
theorem dX8_overTime_39 : decode cX8_overTime 39 = .ok (.imul, 1) := by decide +kernel
theorem dX8_overTime_40 : decode cX8_overTime 40 = .ok (.if_icmp .ge 111, 3) := by decide +kernel
theorem dX8_overTime_43 : decode cX8_overTime 43 = .ok (.iload 7, 2) := by decide +kernel
theorem dX8_overTime_45 : decode cX8_overTime 45 = .ok (.ifCond .ge 7, 3) := by decide +kernel
theorem dX8_overTime_48 : decode cX8_overTime 48 = .ok (.iload_n 2, 1) := by decide +kernel
theorem dX8_overTime_49 : decode cX8_overTime 49 = .ok (.goto 9, 3) := by decide +kernel
theorem dX8_overTime_52 : decode cX8_overTime 52 = .ok (.aload_n 0, 1) := by decide +kernel
theorem dX8_overTime_53 : decode cX8_overTime 53 = .ok (.iload 7, 2) := by decide +kernel
theorem dX8_overTime_55 : decode cX8_overTime 55 = .ok (.invokevirtual 155, 3) := by decide +kernel
theorem dX8_overTime_58 : decode cX8_overTime 58 = .ok (.istore 8, 2) := by decide +kernel
theorem dX8_overTime_60 : decode cX8_overTime 60 = .ok (.iload 8, 2) := by decide +kernel
theorem dX8_overTime_62 : decode cX8_overTime 62 = .ok (.i2l, 1) := by decide +kernel
theorem dX8_overTime_63 : decode cX8_overTime 63 = .ok (.iload_n 2, 1) := by decide +kernel
theorem dX8_overTime_64 : decode cX8_overTime 64 = .ok (.i2l, 1) := by decide +kernel
theorem dX8_overTime_65 : decode cX8_overTime 65 = .ok (.iload_n 3, 1) := by decide +kernel
theorem dX8_overTime_66 : decode cX8_overTime 66 = .ok (.i2l, 1) := by decide +kernel
theorem dX8_overTime_67 : decode cX8_overTime 67 = .ok (.invokestatic 42, 3) := by decide +kernel
theorem dX8_overTime_70 : decode cX8_overTime 70 = .ok (.ifCond .eq 13, 3) := by decide +kernel
theorem dX8_overTime_73 : decode cX8_overTime 73 = .ok (.aload_n 0, 1) := by decide +kernel
theorem dX8_overTime_74 : decode cX8_overTime 74 = .ok (.iload_n 1, 1) := by decide +kernel
theorem dX8_overTime_75 : decode cX8_overTime 75 = .ok (.iload 8, 2) := by decide +kernel
theorem dX8_overTime_77 : decode cX8_overTime 77 = .ok (.invokevirtual 130, 3) := by decide +kernel
theorem dX8_overTime_80 : decode cX8_overTime 80 = .ok (.goto 4, 3) := by decide +kernel
theorem dX8_overTime_83 : decode cX8_overTime 83 = .ok (.iconst (-1), 1) := by decide +kernel
theorem dX8_overTime_84 : decode cX8_overTime 84 = .ok (.istore 9, 2) := by decide +kernel
theorem dX8_overTime_86 : decode cX8_overTime 86 = .ok (.iload 9, 2) := by decide +kernel
theorem dX8_overTime_88 : decode cX8_overTime 88 = .ok (.iconst (-1), 1) := by decide +kernel
theorem dX8_overTime_89 : decode cX8_overTime 89 = .ok (.if_icmp .ne 7, 3) := by decide +kernel
theorem dX8_overTime_92 : decode cX8_overTime 92 = .ok (.iconst 0, 1) := by decide +kernel
theorem dX8_overTime_93 : decode cX8_overTime 93 = .ok (.goto 10, 3) := by decide +kernel
theorem dX8_overTime_96 : decode cX8_overTime 96 = .ok (.aload_n 0, 1) := by decide +kernel
theorem dX8_overTime_97 : decode cX8_overTime 97 = .ok (.iload 9, 2) := by decide +kernel
theorem dX8_overTime_99 : decode cX8_overTime 99 = .ok (.iload_n 1, 1) := by decide +kernel
theorem dX8_overTime_100 : decode cX8_overTime 100 = .ok (.invokevirtual 117, 3) := by decide +kernel
theorem dX8_overTime_103 : decode cX8_overTime 103 = .ok (.istore 10, 2) := by decide +kernel
theorem dX8_overTime_105 : decode cX8_overTime 105 = .ok (.iload 9, 2) := by decide +kernel
theorem dX8_overTime_107 : decode cX8_overTime 107 = .ok (.iconst (-1), 1) := by decide +kernel
theorem dX8_overTime_108 : decode cX8_overTime 108 = .ok (.if_icmp .eq 37, 3) := by decide +kernel
theorem dX8_overTime_111 : decode cX8_overTime 111 = .ok (.iload 5, 2) := by decide +kernel
theorem dX8_overTime_113 : decode cX8_overTime 113 = .ok (.ifCond .eq 25, 3) := by decide +kernel
theorem dX8_overTime_116 : decode cX8_overTime 116 = .ok (.iload 4, 2) := by decide +kernel
theorem dX8_overTime_118 : decode cX8_overTime 118 = .ok (.ifCond .eq 13, 3) := by decide +kernel
theorem dX8_overTime_121 : decode cX8_overTime 121 = .ok (.iload 10, 2) := by decide +kernel
theorem dX8_overTime_123 : decode cX8_overTime 123 = .ok (.iload 6, 2) := by decide +kernel
theorem dX8_overTime_125 : decode cX8_overTime 125 = .ok (.if_icmp .le 20, 3) := by decide +kernel
theorem dX8_overTime_128 : decode cX8_overTime 128 = .ok (.goto 10, 3) := by decide +kernel
theorem dX8_overTime_131 : decode cX8_overTime 131 = .ok (.iload 10, 2) := by decide +kernel
theorem dX8_overTime_133 : decode cX8_overTime 133 = .ok (.iload 6, 2) := by decide +kernel
theorem dX8_overTime_135 : decode cX8_overTime 135 = .ok (.if_icmp .ge 10, 3) := by decide +kernel
theorem dX8_overTime_138 : decode cX8_overTime 138 = .ok (.iconst 1, 1) := by decide +kernel
theorem dX8_overTime_139 : decode cX8_overTime 139 = .ok (.istore 5, 2) := by decide +kernel
theorem dX8_overTime_141 : decode cX8_overTime 141 = .ok (.iload 10, 2) := by decide +kernel
theorem dX8_overTime_143 : decode cX8_overTime 143 = .ok (.istore 6, 2) := by decide +kernel
theorem dX8_overTime_145 : decode cX8_overTime 145 = .ok (.iinc 7 1, 3) := by decide +kernel
theorem dX8_overTime_148 : decode cX8_overTime 148 = .ok (.goto (-118), 3) := by decide +kernel
theorem dX8_overTime_151 : decode cX8_overTime 151 = .ok (.iload 5, 2) := by decide +kernel
theorem dX8_overTime_153 : decode cX8_overTime 153 = .ok (.ifCond .eq 9, 3) := by decide +kernel
theorem dX8_overTime_156 : decode cX8_overTime 156 = .ok (.iload 6, 2) := by decide +kernel
theorem dX8_overTime_158 : decode cX8_overTime 158 = .ok (.i2l, 1) := by decide +kernel
theorem dX8_overTime_159 : decode cX8_overTime 159 = .ok (.goto 6, 3) := by decide +kernel
theorem dX8_overTime_162 : decode cX8_overTime 162 = .ok (.ldc2_w 133, 3) := by decide +kernel
theorem dX8_overTime_165 : decode cX8_overTime 165 = .ok (.lreturn, 1) := by decide +kernel
set_option maxRecDepth 20000 in
theorem ggX8_eventBehind_X8_event : GoodIn wsX8_eventBehind wsX8_event := goodIn_r _ [6, 7, 8, 9, 5, 10, 1, 11, 12, 13, 14, 15, 16, 17, 18, 19, 20, 21, 22, 23, 24, 25, 26, 27] (by decide +kernel) (by decide +kernel)
set_option maxRecDepth 20000 in
theorem gX8_eventBehind_X8_event : GoodIn wsX8_eventBehind (wsV RX8 155 RX8 yX8_event wsX8_event) := goodIn_app (goodIn_of _ (by decide +kernel)) ggX8_eventBehind_X8_event
theorem dX8_eventBehind_0 : decode cX8_eventBehind 0 = .ok (.sipush 16384, 3) := by decide +kernel
theorem dX8_eventBehind_3 : decode cX8_eventBehind 3 = .ok (.istore_n 2, 1) := by decide +kernel
theorem dX8_eventBehind_4 : decode cX8_eventBehind 4 = .ok (.iconst 0, 1) := by decide +kernel
theorem dX8_eventBehind_5 : decode cX8_eventBehind 5 = .ok (.istore_n 3, 1) := by decide +kernel
theorem dX8_eventBehind_6 : decode cX8_eventBehind 6 = .ok (.iload_n 3, 1) := by decide +kernel
theorem dX8_eventBehind_7 : decode cX8_eventBehind 7 = .ok (.iconst 2, 1) := by decide +kernel
theorem dX8_eventBehind_8 : decode cX8_eventBehind 8 = .ok (.aload_n 0, 1) := by decide +kernel
theorem dX8_eventBehind_9 : decode cX8_eventBehind 9 = .ok (.getfield 7, 3) := by decide +kernel
theorem dX8_eventBehind_12 : decode cX8_eventBehind 12 = .ok (.iconst 0, 1) := by decide +kernel
theorem dX8_eventBehind_13 : decode cX8_eventBehind 13 = .ok (.iaload, 1) := by decide +kernel
theorem dX8_eventBehind_14 : decode cX8_eventBehind 14 = .ok (.imul, 1) := by decide +kernel
theorem dX8_eventBehind_15 : decode cX8_eventBehind 15 = .ok (.if_icmp .ge 37, 3) := by decide +kernel
theorem dX8_eventBehind_18 : decode cX8_eventBehind 18 = .ok (.aload_n 0, 1) := by decide +kernel
theorem dX8_eventBehind_19 : decode cX8_eventBehind 19 = .ok (.iload_n 3, 1) := by decide +kernel
theorem dX8_eventBehind_20 : decode cX8_eventBehind 20 = .ok (.invokevirtual 155, 3) := by decide +kernel
theorem dX8_eventBehind_23 : decode cX8_eventBehind 23 = .ok (.iload_n 1, 1) := by decide +kernel
theorem dX8_eventBehind_24 : decode cX8_eventBehind 24 = .ok (.if_icmp .le 20, 3) := by decide +kernel
theorem dX8_eventBehind_27 : decode cX8_eventBehind 27 = .ok (.aload_n 0, 1) := by decide +kernel
theorem dX8_eventBehind_28 : decode cX8_eventBehind 28 = .ok (.iload_n 3, 1) := by decide +kernel
theorem dX8_eventBehind_29 : decode cX8_eventBehind 29 = .ok (.invokevirtual 155, 3) := by decide +kernel
theorem dX8_eventBehind_32 : decode cX8_eventBehind 32 = .ok (.iload_n 2, 1) := by decide +kernel
theorem dX8_eventBehind_33 : decode cX8_eventBehind 33 = .ok (.if_icmp .ge 11, 3) := by decide +kernel
theorem dX8_eventBehind_36 : decode cX8_eventBehind 36 = .ok (.aload_n 0, 1) := by decide +kernel
theorem dX8_eventBehind_37 : decode cX8_eventBehind 37 = .ok (.iload_n 3, 1) := by decide +kernel
theorem dX8_eventBehind_38 : decode cX8_eventBehind 38 = .ok (.invokevirtual 155, 3) := by decide +kernel
theorem dX8_eventBehind_41 : decode cX8_eventBehind 41 = .ok (.goto 4, 3) := by decide +kernel
theorem dX8_eventBehind_44 : decode cX8_eventBehind 44 = .ok (.iload_n 2, 1) := by decide +kernel
theorem dX8_eventBehind_45 : decode cX8_eventBehind 45 = .ok (.istore_n 2, 1) := by decide +kernel
theorem dX8_eventBehind_46 : decode cX8_eventBehind 46 = .ok (.iinc 3 1, 3) := by decide +kernel
theorem dX8_eventBehind_49 : decode cX8_eventBehind 49 = .ok (.goto (-43), 3) := by decide +kernel
theorem dX8_eventBehind_52 : decode cX8_eventBehind 52 = .ok (.iload_n 2, 1) := by decide +kernel
theorem dX8_eventBehind_53 : decode cX8_eventBehind 53 = .ok (.ireturn, 1) := by decide +kernel
set_option maxRecDepth 20000 in
theorem ggX8_leads_X8_isSegment : GoodIn wsX8_leads wsX8_isSegment := goodIn_r _ [6, 7, 8, 9, 5, 10, 54, 55, 56, 57, 58, 59, 60, 61, 62, 63, 64, 65, 66, 67] (by decide +kernel) (by decide +kernel)
set_option maxRecDepth 20000 in
theorem gX8_leads_X8_isSegment : GoodIn wsX8_leads (wsV RX8 94 RX8 yX8_isSegment wsX8_isSegment) := goodIn_app (goodIn_of _ (by decide +kernel)) ggX8_leads_X8_isSegment
set_option maxRecDepth 20000 in
theorem ggX8_leads_X8_fails : GoodIn wsX8_leads wsX8_fails := goodIn_r _ [14, 1, 54, 55, 56, 57, 58, 59, 60, 61, 62, 63, 64, 65, 66, 67] (by decide +kernel) (by decide +kernel)
set_option maxRecDepth 20000 in
theorem gX8_leads_X8_fails : GoodIn wsX8_leads (wsV RX8 90 RX8 yX8_fails wsX8_fails) := goodIn_app (goodIn_of _ (by decide +kernel)) ggX8_leads_X8_fails
set_option maxRecDepth 20000 in
theorem ggX8_leads_X8_isPosition : GoodIn wsX8_leads wsX8_isPosition := goodIn_r _ [17, 18, 8, 9, 5, 10] (by decide +kernel) (by decide +kernel)
set_option maxRecDepth 20000 in
theorem gX8_leads_X8_isPosition : GoodIn wsX8_leads (va_wsS RX8 65 yX8_isPosition wsX8_isPosition) := goodIn_app (goodIn_of _ (by decide +kernel)) ggX8_leads_X8_isPosition
set_option maxRecDepth 20000 in
theorem ggX8_leads_X8_of : GoodIn wsX8_leads wsX8_of := goodIn_r _ [22, 7, 23, 24, 5, 25, 54, 55, 56, 57, 58, 59, 60, 61, 62, 63, 64, 65, 66, 67] (by decide +kernel) (by decide +kernel)
set_option maxRecDepth 20000 in
theorem gX8_leads_X8_of : GoodIn wsX8_leads (wsV RX8 58 RX8 yX8_of wsX8_of) := goodIn_app (goodIn_of _ (by decide +kernel)) ggX8_leads_X8_of
set_option maxRecDepth 20000 in
theorem ggX8_leads_X8_eventBehind : GoodIn wsX8_leads wsX8_eventBehind := goodIn_r _ [29, 7, 30, 31, 32, 5, 33, 19, 20, 21, 22, 23, 24, 25, 54, 55, 56, 57, 58, 59, 60, 61, 62, 63, 64, 65, 66, 67] (by decide +kernel) (by decide +kernel)
set_option maxRecDepth 20000 in
theorem gX8_leads_X8_eventBehind : GoodIn wsX8_leads (wsV RX8 167 RX8 yX8_eventBehind wsX8_eventBehind) := goodIn_app (goodIn_of _ (by decide +kernel)) ggX8_leads_X8_eventBehind
set_option maxRecDepth 20000 in
theorem ggX8_leads_X8_firstAt : GoodIn wsX8_leads wsX8_firstAt := goodIn_r _ [37, 7, 38, 39, 40, 5, 41, 42, 43, 44, 45, 19, 20, 21, 22, 23, 24, 25, 8, 9, 10, 46, 47, 48, 49, 50, 51, 52, 53, 54, 55, 56, 57, 58, 59, 60, 61, 62, 63, 64, 65, 66, 67] (by decide +kernel) (by decide +kernel)
set_option maxRecDepth 20000 in
theorem gX8_leads_X8_firstAt : GoodIn wsX8_leads (wsV RX8 130 RX8 yX8_firstAt wsX8_firstAt) := goodIn_app (goodIn_of _ (by decide +kernel)) ggX8_leads_X8_firstAt
theorem dX8_leads_0 : decode cX8_leads 0 = .ok (.aload_n 0, 1) := by decide +kernel
theorem dX8_leads_1 : decode cX8_leads 1 = .ok (.iconst 0, 1) := by decide +kernel
theorem dX8_leads_2 : decode cX8_leads 2 = .ok (.putfield 31, 3) := by decide +kernel
theorem dX8_leads_5 : decode cX8_leads 5 = .ok (.aload_n 0, 1) := by decide +kernel
theorem dX8_leads_6 : decode cX8_leads 6 = .ok (.iload_n 1, 1) := by decide +kernel
theorem dX8_leads_7 : decode cX8_leads 7 = .ok (.invokevirtual 94, 3) := by decide +kernel
theorem dX8_leads_10 : decode cX8_leads 10 = .ok (.ifCond .ne 9, 3) := by decide +kernel
theorem dX8_leads_13 : decode cX8_leads 13 = .ok (.aload_n 0, 1) := by decide +kernel
theorem dX8_leads_14 : decode cX8_leads 14 = .ok (.iconst 1, 1) := by decide +kernel
theorem dX8_leads_15 : decode cX8_leads 15 = .ok (.invokevirtual 90, 3) := by decide +kernel
theorem dX8_leads_18 : decode cX8_leads 18 = .ok (.ireturn, 1) := by decide +kernel
theorem dX8_leads_19 : decode cX8_leads 19 = .ok (.iload_n 2, 1) := by decide +kernel
theorem dX8_leads_20 : decode cX8_leads 20 = .ok (.invokestatic 65, 3) := by decide +kernel
theorem dX8_leads_23 : decode cX8_leads 23 = .ok (.ifCond .ne 9, 3) := by decide +kernel
theorem dX8_leads_26 : decode cX8_leads 26 = .ok (.aload_n 0, 1) := by decide +kernel
theorem dX8_leads_27 : decode cX8_leads 27 = .ok (.iconst 2, 1) := by decide +kernel
theorem dX8_leads_28 : decode cX8_leads 28 = .ok (.invokevirtual 90, 3) := by decide +kernel
theorem dX8_leads_31 : decode cX8_leads 31 = .ok (.ireturn, 1) := by decide +kernel
theorem dX8_leads_32 : decode cX8_leads 32 = .ok (.iconst 0, 1) := by decide +kernel
theorem dX8_leads_33 : decode cX8_leads 33 = .ok (.istore_n 3, 1) := by decide +kernel
theorem dX8_leads_34 : decode cX8_leads 34 = .ok (.aload_n 0, 1) := by decide +kernel
theorem dX8_leads_35 : decode cX8_leads 35 = .ok (.iload_n 1, 1) := by decide +kernel
theorem dX8_leads_36 : decode cX8_leads 36 = .ok (.iconst 4, 1) := by decide +kernel
theorem dX8_leads_37 : decode cX8_leads 37 = .ok (.invokevirtual 58, 3) := by decide +kernel
theorem dX8_leads_40 : decode cX8_leads 40 = .ok (.istore 4, 2) := by decide +kernel
theorem dX8_leads_42 : decode cX8_leads 42 = .ok (.iload 4, 2) := by decide +kernel
theorem dX8_leads_44 : decode cX8_leads 44 = .ok (.aload_n 0, 1) := by decide +kernel
theorem dX8_leads_45 : decode cX8_leads 45 = .ok (.iload_n 1, 1) := by decide +kernel
theorem dX8_leads_46 : decode cX8_leads 46 = .ok (.iconst 5, 1) := by decide +kernel
theorem dX8_leads_47 : decode cX8_leads 47 = .ok (.invokevirtual 58, 3) := by decide +kernel
theorem dX8_leads_50 : decode cX8_leads 50 = .ok (.if_icmp .ge 41, 3) := by decide +kernel
theorem dX8_leads_53 : decode cX8_leads 53 = .ok (.aload_n 0, 1) := by decide +kernel
theorem dX8_leads_54 : decode cX8_leads 54 = .ok (.iload 4, 2) := by decide +kernel
theorem dX8_leads_56 : decode cX8_leads 56 = .ok (.invokevirtual 167, 3) := by decide +kernel
theorem dX8_leads_59 : decode cX8_leads 59 = .ok (.istore 5, 2) := by decide +kernel
theorem dX8_leads_61 : decode cX8_leads 61 = .ok (.iload_n 3, 1) := by decide +kernel
theorem dX8_leads_62 : decode cX8_leads 62 = .ok (.aload_n 0, 1) := by decide +kernel
theorem dX8_leads_63 : decode cX8_leads 63 = .ok (.iload_n 2, 1) := by decide +kernel
theorem dX8_leads_64 : decode cX8_leads 64 = .ok (.iload 4, 2) := by decide +kernel
theorem dX8_leads_66 : decode cX8_leads 66 = .ok (.invokevirtual 130, 3) := by decide +kernel
theorem dX8_leads_69 : decode cX8_leads 69 = .ok (.iload_n 1, 1) := by decide +kernel
theorem dX8_leads_70 : decode cX8_leads 70 = .ok (.if_icmp .ne 11, 3) := by decide +kernel
theorem dX8_leads_73 : decode cX8_leads 73 = .ok (.iload 5, 2) := by decide +kernel
theorem dX8_leads_75 : decode cX8_leads 75 = .ok (.iload 4, 2) := by decide +kernel
theorem dX8_leads_77 : decode cX8_leads 77 = .ok (.isub, 1) := by decide +kernel
theorem dX8_leads_78 : decode cX8_leads 78 = .ok (.goto 4, 3) := by decide +kernel
theorem dX8_leads_81 : decode cX8_leads 81 = .ok (.iconst 0, 1) := by decide +kernel
theorem dX8_leads_82 : decode cX8_leads 82 = .ok (.iadd, 1) := by decide +kernel
theorem dX8_leads_83 : decode cX8_leads 83 = .ok (.istore_n 3, 1) := by decide +kernel
theorem dX8_leads_84 : decode cX8_leads 84 = .ok (.iload 5, 2) := by decide +kernel
theorem dX8_leads_86 : decode cX8_leads 86 = .ok (.istore 4, 2) := by decide +kernel
theorem dX8_leads_88 : decode cX8_leads 88 = .ok (.goto (-46), 3) := by decide +kernel
theorem dX8_leads_91 : decode cX8_leads 91 = .ok (.iload_n 3, 1) := by decide +kernel
theorem dX8_leads_92 : decode cX8_leads 92 = .ok (.ireturn, 1) := by decide +kernel
theorem dX8_lengthAt_0 : decode cX8_lengthAt 0 = .ok (.iconst 1, 1) := by decide +kernel
theorem dX8_lengthAt_1 : decode cX8_lengthAt 1 = .ok (.istore_n 2, 1) := by decide +kernel
theorem dX8_lengthAt_2 : decode cX8_lengthAt 2 = .ok (.iload_n 0, 1) := by decide +kernel
theorem dX8_lengthAt_3 : decode cX8_lengthAt 3 = .ok (.iconst 2, 1) := by decide +kernel
theorem dX8_lengthAt_4 : decode cX8_lengthAt 4 = .ok (.iload_n 2, 1) := by decide +kernel
theorem dX8_lengthAt_5 : decode cX8_lengthAt 5 = .ok (.imul, 1) := by decide +kernel
theorem dX8_lengthAt_6 : decode cX8_lengthAt 6 = .ok (.irem, 1) := by decide +kernel
theorem dX8_lengthAt_7 : decode cX8_lengthAt 7 = .ok (.ifCond .ne 19, 3) := by decide +kernel
theorem dX8_lengthAt_10 : decode cX8_lengthAt 10 = .ok (.iload_n 0, 1) := by decide +kernel
theorem dX8_lengthAt_11 : decode cX8_lengthAt 11 = .ok (.iconst 2, 1) := by decide +kernel
theorem dX8_lengthAt_12 : decode cX8_lengthAt 12 = .ok (.iload_n 2, 1) := by decide +kernel
theorem dX8_lengthAt_13 : decode cX8_lengthAt 13 = .ok (.imul, 1) := by decide +kernel
theorem dX8_lengthAt_14 : decode cX8_lengthAt 14 = .ok (.iadd, 1) := by decide +kernel
theorem dX8_lengthAt_15 : decode cX8_lengthAt 15 = .ok (.iload_n 1, 1) := by decide +kernel
theorem dX8_lengthAt_16 : decode cX8_lengthAt 16 = .ok (.if_icmp .gt 10, 3) := by decide +kernel
theorem dX8_lengthAt_19 : decode cX8_lengthAt 19 = .ok (.iload_n 2, 1) := by decide +kernel
theorem dX8_lengthAt_20 : decode cX8_lengthAt 20 = .ok (.iconst 2, 1) := by decide +kernel
theorem dX8_lengthAt_21 : decode cX8_lengthAt 21 = .ok (.imul, 1) := by decide +kernel
theorem dX8_lengthAt_22 : decode cX8_lengthAt 22 = .ok (.istore_n 2, 1) := by decide +kernel
theorem dX8_lengthAt_23 : decode cX8_lengthAt 23 = .ok (.goto (-21), 3) := by decide +kernel
theorem dX8_lengthAt_26 : decode cX8_lengthAt 26 = .ok (.iload_n 2, 1) := by decide +kernel
theorem dX8_lengthAt_27 : decode cX8_lengthAt 27 = .ok (.ireturn, 1) := by decide +kernel
set_option maxRecDepth 20000 in
theorem ggX8_intervalCount_X8_of : GoodIn wsX8_intervalCount wsX8_of := goodIn_r _ [5, 6, 7, 8, 4, 9, 13, 14, 15, 16, 17, 18, 19, 20, 21, 22, 23, 24, 25, 26] (by decide +kernel) (by decide +kernel)
set_option maxRecDepth 20000 in
theorem gX8_intervalCount_X8_of : GoodIn wsX8_intervalCount (wsV RX8 58 RX8 yX8_of wsX8_of) := goodIn_app (goodIn_of _ (by decide +kernel)) ggX8_intervalCount_X8_of
set_option maxRecDepth 20000 in
theorem ggX8_intervalCount_X8_lengthAt : GoodIn wsX8_intervalCount wsX8_lengthAt := goodIn_r _ [12] (by decide +kernel) (by decide +kernel)
set_option maxRecDepth 20000 in
theorem gX8_intervalCount_X8_lengthAt : GoodIn wsX8_intervalCount (va_wsS RX8 170 yX8_lengthAt wsX8_lengthAt) := goodIn_app (goodIn_of _ (by decide +kernel)) ggX8_intervalCount_X8_lengthAt
theorem dX8_intervalCount_0 : decode cX8_intervalCount 0 = .ok (.iconst 0, 1) := by decide +kernel
theorem dX8_intervalCount_1 : decode cX8_intervalCount 1 = .ok (.istore_n 2, 1) := by decide +kernel
theorem dX8_intervalCount_2 : decode cX8_intervalCount 2 = .ok (.aload_n 0, 1) := by decide +kernel
theorem dX8_intervalCount_3 : decode cX8_intervalCount 3 = .ok (.iload_n 1, 1) := by decide +kernel
theorem dX8_intervalCount_4 : decode cX8_intervalCount 4 = .ok (.iconst 4, 1) := by decide +kernel
theorem dX8_intervalCount_5 : decode cX8_intervalCount 5 = .ok (.invokevirtual 58, 3) := by decide +kernel
theorem dX8_intervalCount_8 : decode cX8_intervalCount 8 = .ok (.istore_n 3, 1) := by decide +kernel
theorem dX8_intervalCount_9 : decode cX8_intervalCount 9 = .ok (.iload_n 3, 1) := by decide +kernel
theorem dX8_intervalCount_10 : decode cX8_intervalCount 10 = .ok (.aload_n 0, 1) := by decide +kernel
theorem dX8_intervalCount_11 : decode cX8_intervalCount 11 = .ok (.iload_n 1, 1) := by decide +kernel
theorem dX8_intervalCount_12 : decode cX8_intervalCount 12 = .ok (.iconst 5, 1) := by decide +kernel
theorem dX8_intervalCount_13 : decode cX8_intervalCount 13 = .ok (.invokevirtual 58, 3) := by decide +kernel
theorem dX8_intervalCount_16 : decode cX8_intervalCount 16 = .ok (.if_icmp .ge 22, 3) := by decide +kernel
theorem dX8_intervalCount_19 : decode cX8_intervalCount 19 = .ok (.iload_n 3, 1) := by decide +kernel
theorem dX8_intervalCount_20 : decode cX8_intervalCount 20 = .ok (.iload_n 3, 1) := by decide +kernel
theorem dX8_intervalCount_21 : decode cX8_intervalCount 21 = .ok (.aload_n 0, 1) := by decide +kernel
theorem dX8_intervalCount_22 : decode cX8_intervalCount 22 = .ok (.iload_n 1, 1) := by decide +kernel
theorem dX8_intervalCount_23 : decode cX8_intervalCount 23 = .ok (.iconst 5, 1) := by decide +kernel
theorem dX8_intervalCount_24 : decode cX8_intervalCount 24 = .ok (.invokevirtual 58, 3) := by decide +kernel
theorem dX8_intervalCount_27 : decode cX8_intervalCount 27 = .ok (.invokestatic 170, 3) := by decide +kernel
theorem dX8_intervalCount_30 : decode cX8_intervalCount 30 = .ok (.iadd, 1) := by decide +kernel
theorem dX8_intervalCount_31 : decode cX8_intervalCount 31 = .ok (.istore_n 3, 1) := by decide +kernel
theorem dX8_intervalCount_32 : decode cX8_intervalCount 32 = .ok (.iinc 2 1, 3) := by decide +kernel
theorem dX8_intervalCount_35 : decode cX8_intervalCount 35 = .ok (.goto (-26), 3) := by decide +kernel
theorem dX8_intervalCount_38 : decode cX8_intervalCount 38 = .ok (.iload_n 2, 1) := by decide +kernel
theorem dX8_intervalCount_39 : decode cX8_intervalCount 39 = .ok (.ireturn, 1) := by decide +kernel
set_option maxRecDepth 20000 in
theorem ggX8_intervals_X8_isSegment : GoodIn wsX8_intervals wsX8_isSegment := goodIn_r _ [6, 7, 8, 9, 5, 10, 29, 30, 31, 32, 33, 34, 35, 36, 37, 38, 39, 40, 41, 42] (by decide +kernel) (by decide +kernel)
set_option maxRecDepth 20000 in
theorem gX8_intervals_X8_isSegment : GoodIn wsX8_intervals (wsV RX8 94 RX8 yX8_isSegment wsX8_isSegment) := goodIn_app (goodIn_of _ (by decide +kernel)) ggX8_intervals_X8_isSegment
set_option maxRecDepth 20000 in
theorem ggX8_intervals_X8_intervalCount : GoodIn wsX8_intervals wsX8_intervalCount := goodIn_r _ [14, 15, 16, 17, 5, 18, 7, 19, 20, 21, 22, 23, 24, 29, 30, 31, 32, 33, 34, 35, 36, 37, 38, 39, 40, 41, 42] (by decide +kernel) (by decide +kernel)
set_option maxRecDepth 20000 in
theorem gX8_intervals_X8_intervalCount : GoodIn wsX8_intervals (wsV RX8 173 RX8 yX8_intervalCount wsX8_intervalCount) := goodIn_app (goodIn_of _ (by decide +kernel)) ggX8_intervals_X8_intervalCount
set_option maxRecDepth 20000 in
theorem ggX8_intervals_X8_fails : GoodIn wsX8_intervals wsX8_fails := goodIn_r _ [28, 1, 29, 30, 31, 32, 33, 34, 35, 36, 37, 38, 39, 40, 41, 42] (by decide +kernel) (by decide +kernel)
set_option maxRecDepth 20000 in
theorem gX8_intervals_X8_fails : GoodIn wsX8_intervals (wsV RX8 90 RX8 yX8_fails wsX8_fails) := goodIn_app (goodIn_of _ (by decide +kernel)) ggX8_intervals_X8_fails
theorem dX8_intervals_0 : decode cX8_intervals 0 = .ok (.aload_n 0, 1) := by decide +kernel
theorem dX8_intervals_1 : decode cX8_intervals 1 = .ok (.iconst 0, 1) := by decide +kernel
theorem dX8_intervals_2 : decode cX8_intervals 2 = .ok (.putfield 31, 3) := by decide +kernel
theorem dX8_intervals_5 : decode cX8_intervals 5 = .ok (.aload_n 0, 1) := by decide +kernel
theorem dX8_intervals_6 : decode cX8_intervals 6 = .ok (.iload_n 1, 1) := by decide +kernel
theorem dX8_intervals_7 : decode cX8_intervals 7 = .ok (.invokevirtual 94, 3) := by decide +kernel
theorem dX8_intervals_10 : decode cX8_intervals 10 = .ok (.ifCond .eq 11, 3) := by decide +kernel
theorem dX8_intervals_13 : decode cX8_intervals 13 = .ok (.aload_n 0, 1) := by decide +kernel
theorem dX8_intervals_14 : decode cX8_intervals 14 = .ok (.iload_n 1, 1) := by decide +kernel
theorem dX8_intervals_15 : decode cX8_intervals 15 = .ok (.invokevirtual 173, 3) := by decide +kernel
theorem dX8_intervals_18 : decode cX8_intervals 18 = .ok (.goto 8, 3) := by decide +kernel
theorem dX8_intervals_21 : decode cX8_intervals 21 = .ok (.aload_n 0, 1) := by decide +kernel
theorem dX8_intervals_22 : decode cX8_intervals 22 = .ok (.iconst 1, 1) := by decide +kernel
theorem dX8_intervals_23 : decode cX8_intervals 23 = .ok (.invokevirtual 90, 3) := by decide +kernel
theorem dX8_intervals_26 : decode cX8_intervals 26 = .ok (.ireturn, 1) := by decide +kernel
set_option maxRecDepth 20000 in
theorem ggX8_interval_X8_isSegment : GoodIn wsX8_interval wsX8_isSegment := goodIn_r _ [6, 7, 8, 9, 5, 10, 29, 30, 31, 32, 33, 34, 35, 36, 37, 38, 39, 40, 41, 42] (by decide +kernel) (by decide +kernel)
set_option maxRecDepth 20000 in
theorem gX8_interval_X8_isSegment : GoodIn wsX8_interval (wsV RX8 94 RX8 yX8_isSegment wsX8_isSegment) := goodIn_app (goodIn_of _ (by decide +kernel)) ggX8_interval_X8_isSegment
set_option maxRecDepth 20000 in
theorem ggX8_interval_X8_intervalCount : GoodIn wsX8_interval wsX8_intervalCount := goodIn_r _ [14, 15, 16, 17, 5, 18, 7, 19, 20, 21, 22, 23, 24, 29, 30, 31, 32, 33, 34, 35, 36, 37, 38, 39, 40, 41, 42] (by decide +kernel) (by decide +kernel)
set_option maxRecDepth 20000 in
theorem gX8_interval_X8_intervalCount : GoodIn wsX8_interval (wsV RX8 173 RX8 yX8_intervalCount wsX8_intervalCount) := goodIn_app (goodIn_of _ (by decide +kernel)) ggX8_interval_X8_intervalCount
set_option maxRecDepth 20000 in
theorem ggX8_interval_X8_in : GoodIn wsX8_interval wsX8_in := goodIn_r _ [10] (by decide +kernel) (by decide +kernel)
set_option maxRecDepth 20000 in
theorem gX8_interval_X8_in : GoodIn wsX8_interval (va_wsS RX8 42 yX8_in wsX8_in) := goodIn_app (goodIn_of _ (by decide +kernel)) ggX8_interval_X8_in
set_option maxRecDepth 20000 in
theorem ggX8_interval_X8_fails : GoodIn wsX8_interval wsX8_fails := goodIn_r _ [28, 1, 29, 30, 31, 32, 33, 34, 35, 36, 37, 38, 39, 40, 41, 42] (by decide +kernel) (by decide +kernel)
set_option maxRecDepth 20000 in
theorem gX8_interval_X8_fails : GoodIn wsX8_interval (wsV RX8 90 RX8 yX8_fails wsX8_fails) := goodIn_app (goodIn_of _ (by decide +kernel)) ggX8_interval_X8_fails
set_option maxRecDepth 20000 in
theorem ggX8_interval_X8_of : GoodIn wsX8_interval wsX8_of := goodIn_r _ [18, 7, 19, 20, 5, 21, 29, 30, 31, 32, 33, 34, 35, 36, 37, 38, 39, 40, 41, 42] (by decide +kernel) (by decide +kernel)
set_option maxRecDepth 20000 in
theorem gX8_interval_X8_of : GoodIn wsX8_interval (wsV RX8 58 RX8 yX8_of wsX8_of) := goodIn_app (goodIn_of _ (by decide +kernel)) ggX8_interval_X8_of
set_option maxRecDepth 20000 in
theorem ggX8_interval_X8_lengthAt : GoodIn wsX8_interval wsX8_lengthAt := goodIn_r _ [24] (by decide +kernel) (by decide +kernel)
set_option maxRecDepth 20000 in
theorem gX8_interval_X8_lengthAt : GoodIn wsX8_interval (va_wsS RX8 170 yX8_lengthAt wsX8_lengthAt) := goodIn_app (goodIn_of _ (by decide +kernel)) ggX8_interval_X8_lengthAt
theorem dX8_interval_0 : decode cX8_interval 0 = .ok (.aload_n 0, 1) := by decide +kernel
theorem dX8_interval_1 : decode cX8_interval 1 = .ok (.iconst 0, 1) := by decide +kernel
theorem dX8_interval_2 : decode cX8_interval 2 = .ok (.putfield 31, 3) := by decide +kernel
theorem dX8_interval_5 : decode cX8_interval 5 = .ok (.aload_n 0, 1) := by decide +kernel
theorem dX8_interval_6 : decode cX8_interval 6 = .ok (.iload_n 1, 1) := by decide +kernel
theorem dX8_interval_7 : decode cX8_interval 7 = .ok (.invokevirtual 94, 3) := by decide +kernel
theorem dX8_interval_10 : decode cX8_interval 10 = .ok (.ifCond .eq 20, 3) := by decide +kernel
theorem dX8_interval_13 : decode cX8_interval 13 = .ok (.iload_n 2, 1) := by decide +kernel
theorem dX8_interval_14 : decode cX8_interval 14 = .ok (.i2l, 1) := by decide +kernel
theorem dX8_interval_15 : decode cX8_interval 15 = .ok (.lconst 0, 1) := by decide +kernel
theorem dX8_interval_16 : decode cX8_interval 16 = .ok (.aload_n 0, 1) := by decide +kernel
theorem dX8_interval_17 : decode cX8_interval 17 = .ok (.iload_n 1, 1) := by decide +kernel
theorem dX8_interval_18 : decode cX8_interval 18 = .ok (.invokevirtual 173, 3) := by decide +kernel
theorem dX8_interval_21 : decode cX8_interval 21 = .ok (.iconst 1, 1) := by decide +kernel
theorem dX8_interval_22 : decode cX8_interval 22 = .ok (.isub, 1) := by decide +kernel
theorem dX8_interval_23 : decode cX8_interval 23 = .ok (.i2l, 1) := by decide +kernel
theorem dX8_interval_24 : decode cX8_interval 24 = .ok (.invokestatic 42, 3) := by decide +kernel
theorem dX8_interval_27 : decode cX8_interval 27 = .ok (.ifCond .ne 9, 3) := by decide +kernel
theorem dX8_interval_30 : decode cX8_interval 30 = .ok (.aload_n 0, 1) := by decide +kernel
theorem dX8_interval_31 : decode cX8_interval 31 = .ok (.iconst 1, 1) := by decide +kernel
theorem dX8_interval_32 : decode cX8_interval 32 = .ok (.invokevirtual 90, 3) := by decide +kernel
theorem dX8_interval_35 : decode cX8_interval 35 = .ok (.ireturn, 1) := by decide +kernel
theorem dX8_interval_36 : decode cX8_interval 36 = .ok (.aload_n 0, 1) := by decide +kernel
theorem dX8_interval_37 : decode cX8_interval 37 = .ok (.iload_n 1, 1) := by decide +kernel
theorem dX8_interval_38 : decode cX8_interval 38 = .ok (.iconst 4, 1) := by decide +kernel
theorem dX8_interval_39 : decode cX8_interval 39 = .ok (.invokevirtual 58, 3) := by decide +kernel
theorem dX8_interval_42 : decode cX8_interval 42 = .ok (.istore 4, 2) := by decide +kernel
theorem dX8_interval_44 : decode cX8_interval 44 = .ok (.iload 4, 2) := by decide +kernel
theorem dX8_interval_46 : decode cX8_interval 46 = .ok (.aload_n 0, 1) := by decide +kernel
theorem dX8_interval_47 : decode cX8_interval 47 = .ok (.iload_n 1, 1) := by decide +kernel
theorem dX8_interval_48 : decode cX8_interval 48 = .ok (.iconst 5, 1) := by decide +kernel
theorem dX8_interval_49 : decode cX8_interval 49 = .ok (.invokevirtual 58, 3) := by decide +kernel
theorem dX8_interval_52 : decode cX8_interval 52 = .ok (.invokestatic 170, 3) := by decide +kernel
theorem dX8_interval_55 : decode cX8_interval 55 = .ok (.istore 5, 2) := by decide +kernel
theorem dX8_interval_57 : decode cX8_interval 57 = .ok (.iconst 0, 1) := by decide +kernel
theorem dX8_interval_58 : decode cX8_interval 58 = .ok (.istore 6, 2) := by decide +kernel
theorem dX8_interval_60 : decode cX8_interval 60 = .ok (.iload 6, 2) := by decide +kernel
theorem dX8_interval_62 : decode cX8_interval 62 = .ok (.iload_n 2, 1) := by decide +kernel
theorem dX8_interval_63 : decode cX8_interval 63 = .ok (.if_icmp .ge 29, 3) := by decide +kernel
theorem dX8_interval_66 : decode cX8_interval 66 = .ok (.iload 4, 2) := by decide +kernel
theorem dX8_interval_68 : decode cX8_interval 68 = .ok (.iload 5, 2) := by decide +kernel
theorem dX8_interval_70 : decode cX8_interval 70 = .ok (.iadd, 1) := by decide +kernel
theorem dX8_interval_71 : decode cX8_interval 71 = .ok (.istore 4, 2) := by decide +kernel
theorem dX8_interval_73 : decode cX8_interval 73 = .ok (.iload 4, 2) := by decide +kernel
theorem dX8_interval_75 : decode cX8_interval 75 = .ok (.aload_n 0, 1) := by decide +kernel
theorem dX8_interval_76 : decode cX8_interval 76 = .ok (.iload_n 1, 1) := by decide +kernel
theorem dX8_interval_77 : decode cX8_interval 77 = .ok (.iconst 5, 1) := by decide +kernel
theorem dX8_interval_78 : decode cX8_interval 78 = .ok (.invokevirtual 58, 3) := by decide +kernel
theorem dX8_interval_81 : decode cX8_interval 81 = .ok (.invokestatic 170, 3) := by decide +kernel
theorem dX8_interval_84 : decode cX8_interval 84 = .ok (.istore 5, 2) := by decide +kernel
theorem dX8_interval_86 : decode cX8_interval 86 = .ok (.iinc 6 1, 3) := by decide +kernel
theorem dX8_interval_89 : decode cX8_interval 89 = .ok (.goto (-29), 3) := by decide +kernel
theorem dX8_interval_92 : decode cX8_interval 92 = .ok (.iload_n 3, 1) := by decide +kernel
theorem dX8_interval_93 : decode cX8_interval 93 = .ok (.ifCond .eq 8, 3) := by decide +kernel
theorem dX8_interval_96 : decode cX8_interval 96 = .ok (.iload 5, 2) := by decide +kernel
theorem dX8_interval_98 : decode cX8_interval 98 = .ok (.goto 5, 3) := by decide +kernel
theorem dX8_interval_101 : decode cX8_interval 101 = .ok (.iload 4, 2) := by decide +kernel
theorem dX8_interval_103 : decode cX8_interval 103 = .ok (.ireturn, 1) := by decide +kernel
set_option maxRecDepth 20000 in
theorem ggX8_isHolder_X8_of : GoodIn wsX8_isHolder wsX8_of := goodIn_r _ [5, 6, 7, 8, 4, 9, 13, 14, 15, 16, 17, 18, 19, 20, 21, 22, 23, 24, 25, 26] (by decide +kernel) (by decide +kernel)
set_option maxRecDepth 20000 in
theorem gX8_isHolder_X8_of : GoodIn wsX8_isHolder (wsV RX8 58 RX8 yX8_of wsX8_of) := goodIn_app (goodIn_of _ (by decide +kernel)) ggX8_isHolder_X8_of
set_option maxRecDepth 20000 in
theorem ggX8_isHolder_X8_lengthAt : GoodIn wsX8_isHolder wsX8_lengthAt := goodIn_r _ [12] (by decide +kernel) (by decide +kernel)
set_option maxRecDepth 20000 in
theorem gX8_isHolder_X8_lengthAt : GoodIn wsX8_isHolder (va_wsS RX8 170 yX8_lengthAt wsX8_lengthAt) := goodIn_app (goodIn_of _ (by decide +kernel)) ggX8_isHolder_X8_lengthAt
theorem dX8_isHolder_0 : decode cX8_isHolder 0 = .ok (.aload_n 0, 1) := by decide +kernel
theorem dX8_isHolder_1 : decode cX8_isHolder 1 = .ok (.iload_n 1, 1) := by decide +kernel
theorem dX8_isHolder_2 : decode cX8_isHolder 2 = .ok (.iconst 4, 1) := by decide +kernel
theorem dX8_isHolder_3 : decode cX8_isHolder 3 = .ok (.invokevirtual 58, 3) := by decide +kernel
theorem dX8_isHolder_6 : decode cX8_isHolder 6 = .ok (.istore 4, 2) := by decide +kernel
theorem dX8_isHolder_8 : decode cX8_isHolder 8 = .ok (.iload 4, 2) := by decide +kernel
theorem dX8_isHolder_10 : decode cX8_isHolder 10 = .ok (.aload_n 0, 1) := by decide +kernel
theorem dX8_isHolder_11 : decode cX8_isHolder 11 = .ok (.iload_n 1, 1) := by decide +kernel
theorem dX8_isHolder_12 : decode cX8_isHolder 12 = .ok (.iconst 5, 1) := by decide +kernel
theorem dX8_isHolder_13 : decode cX8_isHolder 13 = .ok (.invokevirtual 58, 3) := by decide +kernel
theorem dX8_isHolder_16 : decode cX8_isHolder 16 = .ok (.if_icmp .ge 28, 3) := by decide +kernel
theorem dX8_isHolder_19 : decode cX8_isHolder 19 = .ok (.iload 4, 2) := by decide +kernel
theorem dX8_isHolder_21 : decode cX8_isHolder 21 = .ok (.iload_n 2, 1) := by decide +kernel
theorem dX8_isHolder_22 : decode cX8_isHolder 22 = .ok (.if_icmp .ge 22, 3) := by decide +kernel
theorem dX8_isHolder_25 : decode cX8_isHolder 25 = .ok (.iload 4, 2) := by decide +kernel
theorem dX8_isHolder_27 : decode cX8_isHolder 27 = .ok (.iload 4, 2) := by decide +kernel
theorem dX8_isHolder_29 : decode cX8_isHolder 29 = .ok (.aload_n 0, 1) := by decide +kernel
theorem dX8_isHolder_30 : decode cX8_isHolder 30 = .ok (.iload_n 1, 1) := by decide +kernel
theorem dX8_isHolder_31 : decode cX8_isHolder 31 = .ok (.iconst 5, 1) := by decide +kernel
theorem dX8_isHolder_32 : decode cX8_isHolder 32 = .ok (.invokevirtual 58, 3) := by decide +kernel
theorem dX8_isHolder_35 : decode cX8_isHolder 35 = .ok (.invokestatic 170, 3) := by decide +kernel
theorem dX8_isHolder_38 : decode cX8_isHolder 38 = .ok (.iadd, 1) := by decide +kernel
theorem dX8_isHolder_39 : decode cX8_isHolder 39 = .ok (.istore 4, 2) := by decide +kernel
theorem dX8_isHolder_41 : decode cX8_isHolder 41 = .ok (.goto (-33), 3) := by decide +kernel
theorem dX8_isHolder_44 : decode cX8_isHolder 44 = .ok (.iload 4, 2) := by decide +kernel
theorem dX8_isHolder_46 : decode cX8_isHolder 46 = .ok (.aload_n 0, 1) := by decide +kernel
theorem dX8_isHolder_47 : decode cX8_isHolder 47 = .ok (.iload_n 1, 1) := by decide +kernel
theorem dX8_isHolder_48 : decode cX8_isHolder 48 = .ok (.iconst 5, 1) := by decide +kernel
theorem dX8_isHolder_49 : decode cX8_isHolder 49 = .ok (.invokevirtual 58, 3) := by decide +kernel
theorem dX8_isHolder_52 : decode cX8_isHolder 52 = .ok (.if_icmp .ge 28, 3) := by decide +kernel
theorem dX8_isHolder_55 : decode cX8_isHolder 55 = .ok (.iload 4, 2) := by decide +kernel
theorem dX8_isHolder_57 : decode cX8_isHolder 57 = .ok (.iload_n 2, 1) := by decide +kernel
theorem dX8_isHolder_58 : decode cX8_isHolder 58 = .ok (.if_icmp .ne 22, 3) := by decide +kernel
theorem dX8_isHolder_61 : decode cX8_isHolder 61 = .ok (.iload 4, 2) := by decide +kernel
theorem dX8_isHolder_63 : decode cX8_isHolder 63 = .ok (.aload_n 0, 1) := by decide +kernel
theorem dX8_isHolder_64 : decode cX8_isHolder 64 = .ok (.iload_n 1, 1) := by decide +kernel
theorem dX8_isHolder_65 : decode cX8_isHolder 65 = .ok (.iconst 5, 1) := by decide +kernel
theorem dX8_isHolder_66 : decode cX8_isHolder 66 = .ok (.invokevirtual 58, 3) := by decide +kernel
theorem dX8_isHolder_69 : decode cX8_isHolder 69 = .ok (.invokestatic 170, 3) := by decide +kernel
theorem dX8_isHolder_72 : decode cX8_isHolder 72 = .ok (.iload_n 3, 1) := by decide +kernel
theorem dX8_isHolder_73 : decode cX8_isHolder 73 = .ok (.if_icmp .ne 7, 3) := by decide +kernel
theorem dX8_isHolder_76 : decode cX8_isHolder 76 = .ok (.iconst 1, 1) := by decide +kernel
theorem dX8_isHolder_77 : decode cX8_isHolder 77 = .ok (.goto 4, 3) := by decide +kernel
theorem dX8_isHolder_80 : decode cX8_isHolder 80 = .ok (.iconst 0, 1) := by decide +kernel
theorem dX8_isHolder_81 : decode cX8_isHolder 81 = .ok (.ireturn, 1) := by decide +kernel
set_option maxRecDepth 20000 in
theorem ggX8_holders_X8_in : GoodIn wsX8_holders wsX8_in := goodIn_r _ [7] (by decide +kernel) (by decide +kernel)
set_option maxRecDepth 20000 in
theorem gX8_holders_X8_in : GoodIn wsX8_holders (va_wsS RX8 42 yX8_in wsX8_in) := goodIn_app (goodIn_of _ (by decide +kernel)) ggX8_holders_X8_in
set_option maxRecDepth 20000 in
theorem ggX8_holders_X8_fails : GoodIn wsX8_holders wsX8_fails := goodIn_r _ [11, 1, 26, 27, 28, 29, 30, 31, 32, 33, 34, 35, 36, 37, 38, 39] (by decide +kernel) (by decide +kernel)
set_option maxRecDepth 20000 in
theorem gX8_holders_X8_fails : GoodIn wsX8_holders (wsV RX8 90 RX8 yX8_fails wsX8_fails) := goodIn_app (goodIn_of _ (by decide +kernel)) ggX8_holders_X8_fails
set_option maxRecDepth 20000 in
theorem ggX8_holders_X8_isHolder : GoodIn wsX8_holders wsX8_isHolder := goodIn_r _ [15, 16, 17, 18, 6, 19, 3, 20, 21, 22, 23, 24, 25, 26, 27, 28, 29, 30, 31, 32, 33, 34, 35, 36, 37, 38, 39] (by decide +kernel) (by decide +kernel)
set_option maxRecDepth 20000 in
theorem gX8_holders_X8_isHolder : GoodIn wsX8_holders (wsV RX8 176 RX8 yX8_isHolder wsX8_isHolder) := goodIn_app (goodIn_of _ (by decide +kernel)) ggX8_holders_X8_isHolder
theorem dX8_holders_0 : decode cX8_holders 0 = .ok (.aload_n 0, 1) := by decide +kernel
theorem dX8_holders_1 : decode cX8_holders 1 = .ok (.iconst 0, 1) := by decide +kernel
theorem dX8_holders_2 : decode cX8_holders 2 = .ok (.putfield 31, 3) := by decide +kernel
theorem dX8_holders_5 : decode cX8_holders 5 = .ok (.iload_n 2, 1) := by decide +kernel
theorem dX8_holders_6 : decode cX8_holders 6 = .ok (.i2l, 1) := by decide +kernel
theorem dX8_holders_7 : decode cX8_holders 7 = .ok (.lconst 1, 1) := by decide +kernel
theorem dX8_holders_8 : decode cX8_holders 8 = .ok (.ldc2_w 48, 3) := by decide +kernel
theorem dX8_holders_11 : decode cX8_holders 11 = .ok (.invokestatic 42, 3) := by decide +kernel
theorem dX8_holders_14 : decode cX8_holders 14 = .ok (.ifCond .eq 30, 3) := by decide +kernel
theorem dX8_holders_17 : decode cX8_holders 17 = .ok (.iload_n 2, 1) := by decide +kernel
theorem dX8_holders_18 : decode cX8_holders 18 = .ok (.iload_n 2, 1) := by decide +kernel
theorem dX8_holders_19 : decode cX8_holders 19 = .ok (.iconst 1, 1) := by decide +kernel
theorem dX8_holders_20 : decode cX8_holders 20 = .ok (.isub, 1) := by decide +kernel
theorem dX8_holders_21 : decode cX8_holders 21 = .ok (.iand, 1) := by decide +kernel
theorem dX8_holders_22 : decode cX8_holders 22 = .ok (.ifCond .ne 22, 3) := by decide +kernel
theorem dX8_holders_25 : decode cX8_holders 25 = .ok (.iload_n 1, 1) := by decide +kernel
theorem dX8_holders_26 : decode cX8_holders 26 = .ok (.i2l, 1) := by decide +kernel
theorem dX8_holders_27 : decode cX8_holders 27 = .ok (.lconst 0, 1) := by decide +kernel
theorem dX8_holders_28 : decode cX8_holders 28 = .ok (.sipush 16384, 3) := by decide +kernel
theorem dX8_holders_31 : decode cX8_holders 31 = .ok (.iload_n 2, 1) := by decide +kernel
theorem dX8_holders_32 : decode cX8_holders 32 = .ok (.isub, 1) := by decide +kernel
theorem dX8_holders_33 : decode cX8_holders 33 = .ok (.i2l, 1) := by decide +kernel
theorem dX8_holders_34 : decode cX8_holders 34 = .ok (.invokestatic 42, 3) := by decide +kernel
theorem dX8_holders_37 : decode cX8_holders 37 = .ok (.ifCond .eq 7, 3) := by decide +kernel
theorem dX8_holders_40 : decode cX8_holders 40 = .ok (.iconst 1, 1) := by decide +kernel
theorem dX8_holders_41 : decode cX8_holders 41 = .ok (.goto 4, 3) := by decide +kernel
theorem dX8_holders_44 : decode cX8_holders 44 = .ok (.iconst 0, 1) := by decide +kernel
theorem dX8_holders_45 : decode cX8_holders 45 = .ok (.istore_n 3, 1) := by decide +kernel
theorem dX8_holders_46 : decode cX8_holders 46 = .ok (.iload_n 3, 1) := by decide +kernel
theorem dX8_holders_47 : decode cX8_holders 47 = .ok (.ifCond .eq 9, 3) := by decide +kernel
theorem dX8_holders_50 : decode cX8_holders 50 = .ok (.iload_n 1, 1) := by decide +kernel
theorem dX8_holders_51 : decode cX8_holders 51 = .ok (.iload_n 2, 1) := by decide +kernel
theorem dX8_holders_52 : decode cX8_holders 52 = .ok (.irem, 1) := by decide +kernel
theorem dX8_holders_53 : decode cX8_holders 53 = .ok (.ifCond .eq 9, 3) := by decide +kernel
theorem dX8_holders_56 : decode cX8_holders 56 = .ok (.aload_n 0, 1) := by decide +kernel
theorem dX8_holders_57 : decode cX8_holders 57 = .ok (.iconst 1, 1) := by decide +kernel
theorem dX8_holders_58 : decode cX8_holders 58 = .ok (.invokevirtual 90, 3) := by decide +kernel
theorem dX8_holders_61 : decode cX8_holders 61 = .ok (.ireturn, 1) := by decide +kernel
theorem dX8_holders_62 : decode cX8_holders 62 = .ok (.iconst 0, 1) := by decide +kernel
theorem dX8_holders_63 : decode cX8_holders 63 = .ok (.istore 4, 2) := by decide +kernel
theorem dX8_holders_65 : decode cX8_holders 65 = .ok (.iconst 0, 1) := by decide +kernel
theorem dX8_holders_66 : decode cX8_holders 66 = .ok (.istore 5, 2) := by decide +kernel
theorem dX8_holders_68 : decode cX8_holders 68 = .ok (.iload 5, 2) := by decide +kernel
theorem dX8_holders_70 : decode cX8_holders 70 = .ok (.aload_n 0, 1) := by decide +kernel
theorem dX8_holders_71 : decode cX8_holders 71 = .ok (.getfield 7, 3) := by decide +kernel
theorem dX8_holders_74 : decode cX8_holders 74 = .ok (.iconst 0, 1) := by decide +kernel
theorem dX8_holders_75 : decode cX8_holders 75 = .ok (.iaload, 1) := by decide +kernel
theorem dX8_holders_76 : decode cX8_holders 76 = .ok (.if_icmp .ge 30, 3) := by decide +kernel
theorem dX8_holders_79 : decode cX8_holders 79 = .ok (.iload 4, 2) := by decide +kernel
theorem dX8_holders_81 : decode cX8_holders 81 = .ok (.aload_n 0, 1) := by decide +kernel
theorem dX8_holders_82 : decode cX8_holders 82 = .ok (.iload 5, 2) := by decide +kernel
theorem dX8_holders_84 : decode cX8_holders 84 = .ok (.iload_n 1, 1) := by decide +kernel
theorem dX8_holders_85 : decode cX8_holders 85 = .ok (.iload_n 2, 1) := by decide +kernel
theorem dX8_holders_86 : decode cX8_holders 86 = .ok (.invokevirtual 176, 3) := by decide +kernel
theorem dX8_holders_89 : decode cX8_holders 89 = .ok (.ifCond .eq 7, 3) := by decide +kernel
theorem dX8_holders_92 : decode cX8_holders 92 = .ok (.iconst 1, 1) := by decide +kernel
theorem dX8_holders_93 : decode cX8_holders 93 = .ok (.goto 4, 3) := by decide +kernel
theorem dX8_holders_96 : decode cX8_holders 96 = .ok (.iconst 0, 1) := by decide +kernel
theorem dX8_holders_97 : decode cX8_holders 97 = .ok (.iadd, 1) := by decide +kernel
theorem dX8_holders_98 : decode cX8_holders 98 = .ok (.istore 4, 2) := by decide +kernel
theorem dX8_holders_100 : decode cX8_holders 100 = .ok (.iinc 5 1, 3) := by decide +kernel
theorem dX8_holders_103 : decode cX8_holders 103 = .ok (.goto (-35), 3) := by decide +kernel
theorem dX8_holders_106 : decode cX8_holders 106 = .ok (.iload 4, 2) := by decide +kernel
theorem dX8_holders_108 : decode cX8_holders 108 = .ok (.ireturn, 1) := by decide +kernel
theorem dX8_query_0 : decode cX8_query 0 = .ok (.sipush 243, 3) := by decide +kernel
theorem dX8_query_3 : decode cX8_query 3 = .ok (.bipush 6, 2) := by decide +kernel
theorem dX8_query_5 : decode cX8_query 5 = .ok (.iload_n 0, 1) := by decide +kernel
theorem dX8_query_6 : decode cX8_query 6 = .ok (.imul, 1) := by decide +kernel
theorem dX8_query_7 : decode cX8_query 7 = .ok (.iadd, 1) := by decide +kernel
theorem dX8_query_8 : decode cX8_query 8 = .ok (.ireturn, 1) := by decide +kernel
set_option maxRecDepth 20000 in
theorem ggX8_whyNotCollect_X8_isPlace : GoodIn wsX8_whyNotCollect wsX8_isPlace := goodIn_r _ [5, 6, 7, 4, 8, 9, 10, 11, 12, 13, 14, 15, 16] (by decide +kernel) (by decide +kernel)
set_option maxRecDepth 20000 in
theorem gX8_whyNotCollect_X8_isPlace : GoodIn wsX8_whyNotCollect (va_wsS RX8 127 yX8_isPlace wsX8_isPlace) := goodIn_app (goodIn_of _ (by decide +kernel)) ggX8_whyNotCollect_X8_isPlace
theorem dX8_whyNotCollect_0 : decode cX8_whyNotCollect 0 = .ok (.iload_n 1, 1) := by decide +kernel
theorem dX8_whyNotCollect_1 : decode cX8_whyNotCollect 1 = .ok (.iload_n 2, 1) := by decide +kernel
theorem dX8_whyNotCollect_2 : decode cX8_whyNotCollect 2 = .ok (.invokestatic 127, 3) := by decide +kernel
theorem dX8_whyNotCollect_5 : decode cX8_whyNotCollect 5 = .ok (.ifCond .ne 7, 3) := by decide +kernel
theorem dX8_whyNotCollect_8 : decode cX8_whyNotCollect 8 = .ok (.iconst 1, 1) := by decide +kernel
theorem dX8_whyNotCollect_9 : decode cX8_whyNotCollect 9 = .ok (.goto 21, 3) := by decide +kernel
theorem dX8_whyNotCollect_12 : decode cX8_whyNotCollect 12 = .ok (.aload_n 0, 1) := by decide +kernel
theorem dX8_whyNotCollect_13 : decode cX8_whyNotCollect 13 = .ok (.getfield 7, 3) := by decide +kernel
theorem dX8_whyNotCollect_16 : decode cX8_whyNotCollect 16 = .ok (.sipush 242, 3) := by decide +kernel
theorem dX8_whyNotCollect_19 : decode cX8_whyNotCollect 19 = .ok (.iaload, 1) := by decide +kernel
theorem dX8_whyNotCollect_20 : decode cX8_whyNotCollect 20 = .ok (.bipush 30, 2) := by decide +kernel
theorem dX8_whyNotCollect_22 : decode cX8_whyNotCollect 22 = .ok (.if_icmp .ne 7, 3) := by decide +kernel
theorem dX8_whyNotCollect_25 : decode cX8_whyNotCollect 25 = .ok (.iconst 2, 1) := by decide +kernel
theorem dX8_whyNotCollect_26 : decode cX8_whyNotCollect 26 = .ok (.goto 4, 3) := by decide +kernel
theorem dX8_whyNotCollect_29 : decode cX8_whyNotCollect 29 = .ok (.iconst 0, 1) := by decide +kernel
theorem dX8_whyNotCollect_30 : decode cX8_whyNotCollect 30 = .ok (.ireturn, 1) := by decide +kernel
set_option maxRecDepth 20000 in
theorem ggX8_collectNow_X8_query : GoodIn wsX8_collectNow wsX8_query := goodIn_r _ [5] (by decide +kernel) (by decide +kernel)
set_option maxRecDepth 20000 in
theorem gX8_collectNow_X8_query : GoodIn wsX8_collectNow (va_wsS RX8 179 yX8_query wsX8_query) := goodIn_app (goodIn_of _ (by decide +kernel)) ggX8_collectNow_X8_query
theorem dX8_collectNow_0 : decode cX8_collectNow 0 = .ok (.aload_n 0, 1) := by decide +kernel
theorem dX8_collectNow_1 : decode cX8_collectNow 1 = .ok (.getfield 7, 3) := by decide +kernel
theorem dX8_collectNow_4 : decode cX8_collectNow 4 = .ok (.sipush 242, 3) := by decide +kernel
theorem dX8_collectNow_7 : decode cX8_collectNow 7 = .ok (.iaload, 1) := by decide +kernel
theorem dX8_collectNow_8 : decode cX8_collectNow 8 = .ok (.invokestatic 179, 3) := by decide +kernel
theorem dX8_collectNow_11 : decode cX8_collectNow 11 = .ok (.istore_n 3, 1) := by decide +kernel
theorem dX8_collectNow_12 : decode cX8_collectNow 12 = .ok (.aload_n 0, 1) := by decide +kernel
theorem dX8_collectNow_13 : decode cX8_collectNow 13 = .ok (.getfield 7, 3) := by decide +kernel
theorem dX8_collectNow_16 : decode cX8_collectNow 16 = .ok (.iload_n 3, 1) := by decide +kernel
theorem dX8_collectNow_17 : decode cX8_collectNow 17 = .ok (.iload_n 1, 1) := by decide +kernel
theorem dX8_collectNow_18 : decode cX8_collectNow 18 = .ok (.iastore, 1) := by decide +kernel
theorem dX8_collectNow_19 : decode cX8_collectNow 19 = .ok (.aload_n 0, 1) := by decide +kernel
theorem dX8_collectNow_20 : decode cX8_collectNow 20 = .ok (.getfield 7, 3) := by decide +kernel
theorem dX8_collectNow_23 : decode cX8_collectNow 23 = .ok (.iload_n 3, 1) := by decide +kernel
theorem dX8_collectNow_24 : decode cX8_collectNow 24 = .ok (.iconst 1, 1) := by decide +kernel
theorem dX8_collectNow_25 : decode cX8_collectNow 25 = .ok (.iadd, 1) := by decide +kernel
theorem dX8_collectNow_26 : decode cX8_collectNow 26 = .ok (.iload_n 2, 1) := by decide +kernel
theorem dX8_collectNow_27 : decode cX8_collectNow 27 = .ok (.iastore, 1) := by decide +kernel
theorem dX8_collectNow_28 : decode cX8_collectNow 28 = .ok (.iconst 2, 1) := by decide +kernel
theorem dX8_collectNow_29 : decode cX8_collectNow 29 = .ok (.istore 4, 2) := by decide +kernel
theorem dX8_collectNow_31 : decode cX8_collectNow 31 = .ok (.iload 4, 2) := by decide +kernel
theorem dX8_collectNow_33 : decode cX8_collectNow 33 = .ok (.bipush 6, 2) := by decide +kernel
theorem dX8_collectNow_35 : decode cX8_collectNow 35 = .ok (.if_icmp .ge 19, 3) := by decide +kernel
theorem dX8_collectNow_38 : decode cX8_collectNow 38 = .ok (.aload_n 0, 1) := by decide +kernel
theorem dX8_collectNow_39 : decode cX8_collectNow 39 = .ok (.getfield 7, 3) := by decide +kernel
theorem dX8_collectNow_42 : decode cX8_collectNow 42 = .ok (.iload_n 3, 1) := by decide +kernel
theorem dX8_collectNow_43 : decode cX8_collectNow 43 = .ok (.iload 4, 2) := by decide +kernel
theorem dX8_collectNow_45 : decode cX8_collectNow 45 = .ok (.iadd, 1) := by decide +kernel
theorem dX8_collectNow_46 : decode cX8_collectNow 46 = .ok (.iconst 0, 1) := by decide +kernel
theorem dX8_collectNow_47 : decode cX8_collectNow 47 = .ok (.iastore, 1) := by decide +kernel
theorem dX8_collectNow_48 : decode cX8_collectNow 48 = .ok (.iinc 4 1, 3) := by decide +kernel
theorem dX8_collectNow_51 : decode cX8_collectNow 51 = .ok (.goto (-20), 3) := by decide +kernel
theorem dX8_collectNow_54 : decode cX8_collectNow 54 = .ok (.aload_n 0, 1) := by decide +kernel
theorem dX8_collectNow_55 : decode cX8_collectNow 55 = .ok (.getfield 7, 3) := by decide +kernel
theorem dX8_collectNow_58 : decode cX8_collectNow 58 = .ok (.sipush 242, 3) := by decide +kernel
theorem dX8_collectNow_61 : decode cX8_collectNow 61 = .ok (.dup2, 1) := by decide +kernel
theorem dX8_collectNow_62 : decode cX8_collectNow 62 = .ok (.iaload, 1) := by decide +kernel
theorem dX8_collectNow_63 : decode cX8_collectNow 63 = .ok (.iconst 1, 1) := by decide +kernel
theorem dX8_collectNow_64 : decode cX8_collectNow 64 = .ok (.iadd, 1) := by decide +kernel
theorem dX8_collectNow_65 : decode cX8_collectNow 65 = .ok (.iastore, 1) := by decide +kernel
theorem dX8_collectNow_66 : decode cX8_collectNow 66 = .ok (.aload_n 0, 1) := by decide +kernel
theorem dX8_collectNow_67 : decode cX8_collectNow 67 = .ok (.getfield 7, 3) := by decide +kernel
theorem dX8_collectNow_70 : decode cX8_collectNow 70 = .ok (.sipush 242, 3) := by decide +kernel
theorem dX8_collectNow_73 : decode cX8_collectNow 73 = .ok (.iaload, 1) := by decide +kernel
theorem dX8_collectNow_74 : decode cX8_collectNow 74 = .ok (.iconst 1, 1) := by decide +kernel
theorem dX8_collectNow_75 : decode cX8_collectNow 75 = .ok (.isub, 1) := by decide +kernel
theorem dX8_collectNow_76 : decode cX8_collectNow 76 = .ok (.ireturn, 1) := by decide +kernel
set_option maxRecDepth 20000 in
theorem ggX8_collect_X8_whyNotCollect : GoodIn wsX8_collect wsX8_whyNotCollect := goodIn_r _ [6, 7, 8, 9, 5, 10, 11, 12, 13, 14, 15, 16, 17, 18, 19, 20, 21, 35, 36, 37, 38, 39, 40, 41, 42, 43, 44, 45, 46, 47, 48] (by decide +kernel) (by decide +kernel)
set_option maxRecDepth 20000 in
theorem gX8_collect_X8_whyNotCollect : GoodIn wsX8_collect (wsV RX8 182 RX8 yX8_whyNotCollect wsX8_whyNotCollect) := goodIn_app (goodIn_of _ (by decide +kernel)) ggX8_collect_X8_whyNotCollect
set_option maxRecDepth 20000 in
theorem ggX8_collect_X8_keep : GoodIn wsX8_collect wsX8_keep := goodIn_r _ [25, 26, 27, 7, 35, 36, 37, 38, 39, 40, 41, 42, 43, 44, 45, 46, 47, 48] (by decide +kernel) (by decide +kernel)
set_option maxRecDepth 20000 in
theorem gX8_collect_X8_keep : GoodIn wsX8_collect (wsV RX8 77 RX8 yX8_keep wsX8_keep) := goodIn_app (goodIn_of _ (by decide +kernel)) ggX8_collect_X8_keep
set_option maxRecDepth 20000 in
theorem ggX8_collect_X8_collectNow : GoodIn wsX8_collect wsX8_collectNow := goodIn_r _ [31, 7, 32, 33, 5, 34, 35, 36, 37, 38, 39, 40, 41, 42, 43, 44, 45, 46, 47, 48] (by decide +kernel) (by decide +kernel)
set_option maxRecDepth 20000 in
theorem gX8_collect_X8_collectNow : GoodIn wsX8_collect (wsV RX8 185 RX8 yX8_collectNow wsX8_collectNow) := goodIn_app (goodIn_of _ (by decide +kernel)) ggX8_collect_X8_collectNow
theorem dX8_collect_0 : decode cX8_collect 0 = .ok (.aload_n 0, 1) := by decide +kernel
theorem dX8_collect_1 : decode cX8_collect 1 = .ok (.aload_n 0, 1) := by decide +kernel
theorem dX8_collect_2 : decode cX8_collect 2 = .ok (.iload_n 1, 1) := by decide +kernel
theorem dX8_collect_3 : decode cX8_collect 3 = .ok (.iload_n 2, 1) := by decide +kernel
theorem dX8_collect_4 : decode cX8_collect 4 = .ok (.invokevirtual 182, 3) := by decide +kernel
theorem dX8_collect_7 : decode cX8_collect 7 = .ok (.putfield 31, 3) := by decide +kernel
theorem dX8_collect_10 : decode cX8_collect 10 = .ok (.aload_n 0, 1) := by decide +kernel
theorem dX8_collect_11 : decode cX8_collect 11 = .ok (.getfield 31, 3) := by decide +kernel
theorem dX8_collect_14 : decode cX8_collect 14 = .ok (.ifCond .eq 5, 3) := by decide +kernel
theorem dX8_collect_17 : decode cX8_collect 17 = .ok (.iconst 0, 1) := by decide +kernel
theorem dX8_collect_18 : decode cX8_collect 18 = .ok (.ireturn, 1) := by decide +kernel
theorem dX8_collect_19 : decode cX8_collect 19 = .ok (.aload_n 0, 1) := by decide +kernel
theorem dX8_collect_20 : decode cX8_collect 20 = .ok (.invokevirtual 77, 3) := by decide +kernel
theorem dX8_collect_23 : decode cX8_collect 23 = .ok (.aload_n 0, 1) := by decide +kernel
theorem dX8_collect_24 : decode cX8_collect 24 = .ok (.iload_n 1, 1) := by decide +kernel
theorem dX8_collect_25 : decode cX8_collect 25 = .ok (.iload_n 2, 1) := by decide +kernel
theorem dX8_collect_26 : decode cX8_collect 26 = .ok (.invokevirtual 185, 3) := by decide +kernel
theorem dX8_collect_29 : decode cX8_collect 29 = .ok (.ireturn, 1) := by decide +kernel
set_option maxRecDepth 20000 in
theorem ggX8_solveNow_X8_query : GoodIn wsX8_solveNow wsX8_query := goodIn_r _ [5] (by decide +kernel) (by decide +kernel)
set_option maxRecDepth 20000 in
theorem gX8_solveNow_X8_query : GoodIn wsX8_solveNow (va_wsS RX8 179 yX8_query wsX8_query) := goodIn_app (goodIn_of _ (by decide +kernel)) ggX8_solveNow_X8_query
set_option maxRecDepth 20000 in
theorem ggX8_solveNow_X8_firstAt : GoodIn wsX8_solveNow wsX8_firstAt := goodIn_r _ [9, 1, 10, 11, 12, 4, 13, 14, 15, 16, 17, 18, 19, 20, 21, 22, 23, 24, 25, 26, 27, 28, 29, 30, 31, 32, 33, 34, 35, 36, 37, 38, 39, 40, 41, 42, 43, 44, 45, 46, 47, 48, 49] (by decide +kernel) (by decide +kernel)
set_option maxRecDepth 20000 in
theorem gX8_solveNow_X8_firstAt : GoodIn wsX8_solveNow (wsV RX8 130 RX8 yX8_firstAt wsX8_firstAt) := goodIn_app (goodIn_of _ (by decide +kernel)) ggX8_solveNow_X8_firstAt
set_option maxRecDepth 20000 in
theorem ggX8_solveNow_X8_isThere : GoodIn wsX8_solveNow wsX8_isThere := goodIn_r _ [13, 14, 15, 16, 4, 17, 18, 19, 20, 21, 1, 22, 23, 24, 25, 26, 27, 36, 37, 38, 39, 40, 41, 42, 43, 44, 45, 46, 47, 48, 49] (by decide +kernel) (by decide +kernel)
set_option maxRecDepth 20000 in
theorem gX8_solveNow_X8_isThere : GoodIn wsX8_solveNow (wsV RX8 120 RX8 yX8_isThere wsX8_isThere) := goodIn_app (goodIn_of _ (by decide +kernel)) ggX8_solveNow_X8_isThere
set_option maxRecDepth 20000 in
theorem ggX8_solveNow_X8_valueAt : GoodIn wsX8_solveNow wsX8_valueAt := goodIn_r _ [35, 18, 19, 20, 4, 21, 1, 22, 23, 24, 36, 37, 38, 39, 40, 41, 42, 43, 44, 45, 46, 47, 48, 49] (by decide +kernel) (by decide +kernel)
set_option maxRecDepth 20000 in
theorem gX8_solveNow_X8_valueAt : GoodIn wsX8_solveNow (wsV RX8 117 RX8 yX8_valueAt wsX8_valueAt) := goodIn_app (goodIn_of _ (by decide +kernel)) ggX8_solveNow_X8_valueAt
theorem dX8_solveNow_0 : decode cX8_solveNow 0 = .ok (.iconst 0, 1) := by decide +kernel
theorem dX8_solveNow_1 : decode cX8_solveNow 1 = .ok (.istore_n 1, 1) := by decide +kernel
theorem dX8_solveNow_2 : decode cX8_solveNow 2 = .ok (.iconst 0, 1) := by decide +kernel
theorem dX8_solveNow_3 : decode cX8_solveNow 3 = .ok (.istore_n 2, 1) := by decide +kernel
theorem dX8_solveNow_4 : decode cX8_solveNow 4 = .ok (.iload_n 2, 1) := by decide +kernel
theorem dX8_solveNow_5 : decode cX8_solveNow 5 = .ok (.aload_n 0, 1) := by decide +kernel
theorem dX8_solveNow_6 : decode cX8_solveNow 6 = .ok (.getfield 7, 3) := by decide +kernel
theorem dX8_solveNow_9 : decode cX8_solveNow 9 = .ok (.sipush 242, 3) := by decide +kernel
theorem dX8_solveNow_12 : decode cX8_solveNow 12 = .ok (.iaload, 1) := by decide +kernel
theorem dX8_solveNow_13 : decode cX8_solveNow 13 = .ok (.if_icmp .ge 162, 3) := by decide +kernel
theorem dX8_solveNow_16 : decode cX8_solveNow 16 = .ok (.iload_n 2, 1) := by decide +kernel
theorem dX8_solveNow_17 : decode cX8_solveNow 17 = .ok (.invokestatic 179, 3) := by decide +kernel
theorem dX8_solveNow_20 : decode cX8_solveNow 20 = .ok (.istore_n 3, 1) := by decide +kernel
theorem dX8_solveNow_21 : decode cX8_solveNow 21 = .ok (.aload_n 0, 1) := by decide +kernel
theorem dX8_solveNow_22 : decode cX8_solveNow 22 = .ok (.aload_n 0, 1) := by decide +kernel
theorem dX8_solveNow_23 : decode cX8_solveNow 23 = .ok (.getfield 7, 3) := by decide +kernel
theorem dX8_solveNow_26 : decode cX8_solveNow 26 = .ok (.iload_n 3, 1) := by decide +kernel
theorem dX8_solveNow_27 : decode cX8_solveNow 27 = .ok (.iaload, 1) := by decide +kernel
theorem dX8_solveNow_28 : decode cX8_solveNow 28 = .ok (.aload_n 0, 1) := by decide +kernel
theorem dX8_solveNow_29 : decode cX8_solveNow 29 = .ok (.getfield 7, 3) := by decide +kernel
theorem dX8_solveNow_32 : decode cX8_solveNow 32 = .ok (.iload_n 3, 1) := by decide +kernel
theorem dX8_solveNow_33 : decode cX8_solveNow 33 = .ok (.iconst 1, 1) := by decide +kernel
theorem dX8_solveNow_34 : decode cX8_solveNow 34 = .ok (.iadd, 1) := by decide +kernel
theorem dX8_solveNow_35 : decode cX8_solveNow 35 = .ok (.iaload, 1) := by decide +kernel
theorem dX8_solveNow_36 : decode cX8_solveNow 36 = .ok (.invokevirtual 130, 3) := by decide +kernel
theorem dX8_solveNow_39 : decode cX8_solveNow 39 = .ok (.istore 4, 2) := by decide +kernel
theorem dX8_solveNow_41 : decode cX8_solveNow 41 = .ok (.iconst 0, 1) := by decide +kernel
theorem dX8_solveNow_42 : decode cX8_solveNow 42 = .ok (.istore 5, 2) := by decide +kernel
theorem dX8_solveNow_44 : decode cX8_solveNow 44 = .ok (.iconst 0, 1) := by decide +kernel
theorem dX8_solveNow_45 : decode cX8_solveNow 45 = .ok (.istore 6, 2) := by decide +kernel
theorem dX8_solveNow_47 : decode cX8_solveNow 47 = .ok (.iload 6, 2) := by decide +kernel
theorem dX8_solveNow_49 : decode cX8_solveNow 49 = .ok (.aload_n 0, 1) := by decide +kernel
theorem dX8_solveNow_50 : decode cX8_solveNow 50 = .ok (.getfield 7, 3) := by decide +kernel
theorem dX8_solveNow_53 : decode cX8_solveNow 53 = .ok (.iconst 0, 1) := by decide +kernel
theorem dX8_solveNow_54 : decode cX8_solveNow 54 = .ok (.iaload, 1) := by decide +kernel
theorem dX8_solveNow_55 : decode cX8_solveNow 55 = .ok (.if_icmp .ge 42, 3) := by decide +kernel
theorem dX8_solveNow_58 : decode cX8_solveNow 58 = .ok (.iload 5, 2) := by decide +kernel
theorem dX8_solveNow_60 : decode cX8_solveNow 60 = .ok (.aload_n 0, 1) := by decide +kernel
theorem dX8_solveNow_61 : decode cX8_solveNow 61 = .ok (.iload 6, 2) := by decide +kernel
theorem dX8_solveNow_63 : decode cX8_solveNow 63 = .ok (.aload_n 0, 1) := by decide +kernel
theorem dX8_solveNow_64 : decode cX8_solveNow 64 = .ok (.getfield 7, 3) := by decide +kernel
theorem dX8_solveNow_67 : decode cX8_solveNow 67 = .ok (.iload_n 3, 1) := by decide +kernel
theorem dX8_solveNow_68 : decode cX8_solveNow 68 = .ok (.iaload, 1) := by decide +kernel
theorem dX8_solveNow_69 : decode cX8_solveNow 69 = .ok (.aload_n 0, 1) := by decide +kernel
theorem dX8_solveNow_70 : decode cX8_solveNow 70 = .ok (.getfield 7, 3) := by decide +kernel
theorem dX8_solveNow_73 : decode cX8_solveNow 73 = .ok (.iload_n 3, 1) := by decide +kernel
theorem dX8_solveNow_74 : decode cX8_solveNow 74 = .ok (.iconst 1, 1) := by decide +kernel
theorem dX8_solveNow_75 : decode cX8_solveNow 75 = .ok (.iadd, 1) := by decide +kernel
theorem dX8_solveNow_76 : decode cX8_solveNow 76 = .ok (.iaload, 1) := by decide +kernel
theorem dX8_solveNow_77 : decode cX8_solveNow 77 = .ok (.invokevirtual 120, 3) := by decide +kernel
theorem dX8_solveNow_80 : decode cX8_solveNow 80 = .ok (.ifCond .eq 7, 3) := by decide +kernel
theorem dX8_solveNow_83 : decode cX8_solveNow 83 = .ok (.iconst 1, 1) := by decide +kernel
theorem dX8_solveNow_84 : decode cX8_solveNow 84 = .ok (.goto 4, 3) := by decide +kernel
theorem dX8_solveNow_87 : decode cX8_solveNow 87 = .ok (.iconst 0, 1) := by decide +kernel
theorem dX8_solveNow_88 : decode cX8_solveNow 88 = .ok (.iadd, 1) := by decide +kernel
theorem dX8_solveNow_89 : decode cX8_solveNow 89 = .ok (.istore 5, 2) := by decide +kernel
theorem dX8_solveNow_91 : decode cX8_solveNow 91 = .ok (.iinc 6 1, 3) := by decide +kernel
theorem dX8_solveNow_94 : decode cX8_solveNow 94 = .ok (.goto (-47), 3) := by decide +kernel
theorem dX8_solveNow_97 : decode cX8_solveNow 97 = .ok (.aload_n 0, 1) := by decide +kernel
theorem dX8_solveNow_98 : decode cX8_solveNow 98 = .ok (.getfield 7, 3) := by decide +kernel
theorem dX8_solveNow_101 : decode cX8_solveNow 101 = .ok (.iload_n 3, 1) := by decide +kernel
theorem dX8_solveNow_102 : decode cX8_solveNow 102 = .ok (.iconst 2, 1) := by decide +kernel
theorem dX8_solveNow_103 : decode cX8_solveNow 103 = .ok (.iadd, 1) := by decide +kernel
theorem dX8_solveNow_104 : decode cX8_solveNow 104 = .ok (.iconst 1, 1) := by decide +kernel
theorem dX8_solveNow_105 : decode cX8_solveNow 105 = .ok (.iastore, 1) := by decide +kernel
theorem dX8_solveNow_106 : decode cX8_solveNow 106 = .ok (.aload_n 0, 1) := by decide +kernel
theorem dX8_solveNow_107 : decode cX8_solveNow 107 = .ok (.getfield 7, 3) := by decide +kernel
theorem dX8_solveNow_110 : decode cX8_solveNow 110 = .ok (.iload_n 3, 1) := by decide +kernel
theorem dX8_solveNow_111 : decode cX8_solveNow 111 = .ok (.iconst 3, 1) := by decide +kernel
theorem dX8_solveNow_112 : decode cX8_solveNow 112 = .ok (.iadd, 1) := by decide +kernel
theorem dX8_solveNow_113 : decode cX8_solveNow 113 = .ok (.iload 4, 2) := by decide +kernel
theorem dX8_solveNow_115 : decode cX8_solveNow 115 = .ok (.iconst (-1), 1) := by decide +kernel
theorem dX8_solveNow_116 : decode cX8_solveNow 116 = .ok (.if_icmp .ne 7, 3) := by decide +kernel
theorem dX8_solveNow_119 : decode cX8_solveNow 119 = .ok (.iconst 0, 1) := by decide +kernel
theorem dX8_solveNow_120 : decode cX8_solveNow 120 = .ok (.goto 15, 3) := by decide +kernel
theorem dX8_solveNow_123 : decode cX8_solveNow 123 = .ok (.aload_n 0, 1) := by decide +kernel
theorem dX8_solveNow_124 : decode cX8_solveNow 124 = .ok (.iload 4, 2) := by decide +kernel
theorem dX8_solveNow_126 : decode cX8_solveNow 126 = .ok (.aload_n 0, 1) := by decide +kernel
theorem dX8_solveNow_127 : decode cX8_solveNow 127 = .ok (.getfield 7, 3) := by decide +kernel
theorem dX8_solveNow_130 : decode cX8_solveNow 130 = .ok (.iload_n 3, 1) := by decide +kernel
theorem dX8_solveNow_131 : decode cX8_solveNow 131 = .ok (.iaload, 1) := by decide +kernel
theorem dX8_solveNow_132 : decode cX8_solveNow 132 = .ok (.invokevirtual 117, 3) := by decide +kernel
theorem dX8_solveNow_135 : decode cX8_solveNow 135 = .ok (.iastore, 1) := by decide +kernel
theorem dX8_solveNow_136 : decode cX8_solveNow 136 = .ok (.aload_n 0, 1) := by decide +kernel
theorem dX8_solveNow_137 : decode cX8_solveNow 137 = .ok (.getfield 7, 3) := by decide +kernel
theorem dX8_solveNow_140 : decode cX8_solveNow 140 = .ok (.iload_n 3, 1) := by decide +kernel
theorem dX8_solveNow_141 : decode cX8_solveNow 141 = .ok (.iconst 4, 1) := by decide +kernel
theorem dX8_solveNow_142 : decode cX8_solveNow 142 = .ok (.iadd, 1) := by decide +kernel
theorem dX8_solveNow_143 : decode cX8_solveNow 143 = .ok (.iload 4, 2) := by decide +kernel
theorem dX8_solveNow_145 : decode cX8_solveNow 145 = .ok (.iastore, 1) := by decide +kernel
theorem dX8_solveNow_146 : decode cX8_solveNow 146 = .ok (.aload_n 0, 1) := by decide +kernel
theorem dX8_solveNow_147 : decode cX8_solveNow 147 = .ok (.getfield 7, 3) := by decide +kernel
theorem dX8_solveNow_150 : decode cX8_solveNow 150 = .ok (.iload_n 3, 1) := by decide +kernel
theorem dX8_solveNow_151 : decode cX8_solveNow 151 = .ok (.iconst 5, 1) := by decide +kernel
theorem dX8_solveNow_152 : decode cX8_solveNow 152 = .ok (.iadd, 1) := by decide +kernel
theorem dX8_solveNow_153 : decode cX8_solveNow 153 = .ok (.iload 5, 2) := by decide +kernel
theorem dX8_solveNow_155 : decode cX8_solveNow 155 = .ok (.iastore, 1) := by decide +kernel
theorem dX8_solveNow_156 : decode cX8_solveNow 156 = .ok (.iload_n 1, 1) := by decide +kernel
theorem dX8_solveNow_157 : decode cX8_solveNow 157 = .ok (.iload 5, 2) := by decide +kernel
theorem dX8_solveNow_159 : decode cX8_solveNow 159 = .ok (.ifCond .le 7, 3) := by decide +kernel
theorem dX8_solveNow_162 : decode cX8_solveNow 162 = .ok (.iconst 1, 1) := by decide +kernel
theorem dX8_solveNow_163 : decode cX8_solveNow 163 = .ok (.goto 4, 3) := by decide +kernel
theorem dX8_solveNow_166 : decode cX8_solveNow 166 = .ok (.iconst 0, 1) := by decide +kernel
theorem dX8_solveNow_167 : decode cX8_solveNow 167 = .ok (.iadd, 1) := by decide +kernel
theorem dX8_solveNow_168 : decode cX8_solveNow 168 = .ok (.istore_n 1, 1) := by decide +kernel
theorem dX8_solveNow_169 : decode cX8_solveNow 169 = .ok (.iinc 2 1, 3) := by decide +kernel
theorem dX8_solveNow_172 : decode cX8_solveNow 172 = .ok (.goto (-168), 3) := by decide +kernel
theorem dX8_solveNow_175 : decode cX8_solveNow 175 = .ok (.iload_n 1, 1) := by decide +kernel
theorem dX8_solveNow_176 : decode cX8_solveNow 176 = .ok (.ireturn, 1) := by decide +kernel
set_option maxRecDepth 20000 in
theorem ggX8_solve_X8_keep : GoodIn wsX8_solve wsX8_keep := goodIn_r _ [6, 7, 8, 9, 47, 48, 49, 50, 51, 52, 53, 54, 55, 56, 57, 58, 59, 60] (by decide +kernel) (by decide +kernel)
set_option maxRecDepth 20000 in
theorem gX8_solve_X8_keep : GoodIn wsX8_solve (wsV RX8 77 RX8 yX8_keep wsX8_keep) := goodIn_app (goodIn_of _ (by decide +kernel)) ggX8_solve_X8_keep
set_option maxRecDepth 20000 in
theorem ggX8_solve_X8_solveNow : GoodIn wsX8_solve wsX8_solveNow := goodIn_r _ [13, 9, 14, 15, 5, 16, 17, 18, 19, 20, 21, 22, 23, 24, 25, 26, 27, 28, 29, 30, 31, 32, 33, 34, 35, 36, 37, 38, 39, 40, 41, 42, 43, 44, 45, 46, 47, 48, 49, 50, 51, 52, 53, 54, 55, 56, 57, 58, 59, 60] (by decide +kernel) (by decide +kernel)
set_option maxRecDepth 20000 in
theorem gX8_solve_X8_solveNow : GoodIn wsX8_solve (wsV RX8 188 RX8 yX8_solveNow wsX8_solveNow) := goodIn_app (goodIn_of _ (by decide +kernel)) ggX8_solve_X8_solveNow
theorem dX8_solve_0 : decode cX8_solve 0 = .ok (.aload_n 0, 1) := by decide +kernel
theorem dX8_solve_1 : decode cX8_solve 1 = .ok (.iconst 0, 1) := by decide +kernel
theorem dX8_solve_2 : decode cX8_solve 2 = .ok (.putfield 31, 3) := by decide +kernel
theorem dX8_solve_5 : decode cX8_solve 5 = .ok (.aload_n 0, 1) := by decide +kernel
theorem dX8_solve_6 : decode cX8_solve 6 = .ok (.invokevirtual 77, 3) := by decide +kernel
theorem dX8_solve_9 : decode cX8_solve 9 = .ok (.aload_n 0, 1) := by decide +kernel
theorem dX8_solve_10 : decode cX8_solve 10 = .ok (.invokevirtual 188, 3) := by decide +kernel
theorem dX8_solve_13 : decode cX8_solve 13 = .ok (.ireturn, 1) := by decide +kernel
set_option maxRecDepth 20000 in
theorem ggX8_answerOf_X8_query : GoodIn wsX8_answerOf wsX8_query := goodIn_r _ [6] (by decide +kernel) (by decide +kernel)
set_option maxRecDepth 20000 in
theorem gX8_answerOf_X8_query : GoodIn wsX8_answerOf (va_wsS RX8 179 yX8_query wsX8_query) := goodIn_app (goodIn_of _ (by decide +kernel)) ggX8_answerOf_X8_query
theorem dX8_answerOf_0 : decode cX8_answerOf 0 = .ok (.iload_n 1, 1) := by decide +kernel
theorem dX8_answerOf_1 : decode cX8_answerOf 1 = .ok (.invokestatic 179, 3) := by decide +kernel
theorem dX8_answerOf_4 : decode cX8_answerOf 4 = .ok (.istore_n 3, 1) := by decide +kernel
theorem dX8_answerOf_5 : decode cX8_answerOf 5 = .ok (.iload_n 2, 1) := by decide +kernel
theorem dX8_answerOf_6 : decode cX8_answerOf 6 = .ok (.ifCond .ne 21, 3) := by decide +kernel
theorem dX8_answerOf_9 : decode cX8_answerOf 9 = .ok (.aload_n 0, 1) := by decide +kernel
theorem dX8_answerOf_10 : decode cX8_answerOf 10 = .ok (.getfield 7, 3) := by decide +kernel
theorem dX8_answerOf_13 : decode cX8_answerOf 13 = .ok (.iload_n 3, 1) := by decide +kernel
theorem dX8_answerOf_14 : decode cX8_answerOf 14 = .ok (.iconst 4, 1) := by decide +kernel
