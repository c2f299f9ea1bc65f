theorem dX6_crossing_109 : decode cX6_crossing 109 = .ok (.istore 9, 2) := by decide +kernel
theorem dX6_crossing_111 : decode cX6_crossing 111 = .ok (.iload 9, 2) := by decide +kernel
theorem dX6_crossing_113 : decode cX6_crossing 113 = .ok (.iload 6, 2) := by decide +kernel
theorem dX6_crossing_115 : decode cX6_crossing 115 = .ok (.if_icmp .gt 8, 3) := by decide +kernel
theorem dX6_crossing_118 : decode cX6_crossing 118 = .ok (.iload 9, 2) := by decide +kernel
theorem dX6_crossing_120 : decode cX6_crossing 120 = .ok (.goto 4, 3) := by decide +kernel
theorem dX6_crossing_123 : decode cX6_crossing 123 = .ok (.iconst (-1), 1) := by decide +kernel
theorem dX6_crossing_124 : decode cX6_crossing 124 = .ok (.ireturn, 1) := by decide +kernel
set_option maxRecDepth 20000 in
theorem ggX6_lastLed_X6_value : GoodIn wsX6_lastLed wsX6_value := goodIn_r _ [6, 7, 23, 24, 25] (by decide +kernel) (by decide +kernel)
set_option maxRecDepth 20000 in
theorem gX6_lastLed_X6_value : GoodIn wsX6_lastLed (wsV RX6 41 RX6 yX6_value wsX6_value) := goodIn_app (goodIn_of _ (by decide +kernel)) ggX6_lastLed_X6_value
set_option maxRecDepth 20000 in
theorem ggX6_lastLed_X6_isLive : GoodIn wsX6_lastLed wsX6_isLive := goodIn_r _ [11, 2, 3, 4, 5, 6, 7, 23, 24, 25] (by decide +kernel) (by decide +kernel)
set_option maxRecDepth 20000 in
theorem gX6_lastLed_X6_isLive : GoodIn wsX6_lastLed (wsV RX6 48 RX6 yX6_isLive wsX6_isLive) := goodIn_app (goodIn_of _ (by decide +kernel)) ggX6_lastLed_X6_isLive
set_option maxRecDepth 20000 in
theorem ggX6_lastLed_X6_crossing : GoodIn wsX6_lastLed wsX6_crossing := goodIn_r _ [15, 16, 17, 18, 19, 20, 21, 22, 2, 3, 4, 5, 6, 7, 23, 24, 25] (by decide +kernel) (by decide +kernel)
set_option maxRecDepth 20000 in
theorem gX6_lastLed_X6_crossing : GoodIn wsX6_lastLed (wsV RX6 62 RX6 yX6_crossing wsX6_crossing) := goodIn_app (goodIn_of _ (by decide +kernel)) ggX6_lastLed_X6_crossing
theorem dX6_lastLed_0 : decode cX6_lastLed 0 = .ok (.iload_n 1, 1) := by decide +kernel
theorem dX6_lastLed_1 : decode cX6_lastLed 1 = .ok (.iconst (-1), 1) := by decide +kernel
theorem dX6_lastLed_2 : decode cX6_lastLed 2 = .ok (.if_icmp .ne 9, 3) := by decide +kernel
theorem dX6_lastLed_5 : decode cX6_lastLed 5 = .ok (.sipush 255, 3) := by decide +kernel
theorem dX6_lastLed_8 : decode cX6_lastLed 8 = .ok (.goto 9, 3) := by decide +kernel
theorem dX6_lastLed_11 : decode cX6_lastLed 11 = .ok (.aload_n 0, 1) := by decide +kernel
theorem dX6_lastLed_12 : decode cX6_lastLed 12 = .ok (.iload_n 1, 1) := by decide +kernel
theorem dX6_lastLed_13 : decode cX6_lastLed 13 = .ok (.iconst 3, 1) := by decide +kernel
theorem dX6_lastLed_14 : decode cX6_lastLed 14 = .ok (.invokevirtual 41, 3) := by decide +kernel
theorem dX6_lastLed_17 : decode cX6_lastLed 17 = .ok (.istore 4, 2) := by decide +kernel
theorem dX6_lastLed_19 : decode cX6_lastLed 19 = .ok (.iconst 0, 1) := by decide +kernel
theorem dX6_lastLed_20 : decode cX6_lastLed 20 = .ok (.istore 5, 2) := by decide +kernel
theorem dX6_lastLed_22 : decode cX6_lastLed 22 = .ok (.iload 5, 2) := by decide +kernel
theorem dX6_lastLed_24 : decode cX6_lastLed 24 = .ok (.aload_n 0, 1) := by decide +kernel
theorem dX6_lastLed_25 : decode cX6_lastLed 25 = .ok (.getfield 19, 3) := by decide +kernel
theorem dX6_lastLed_28 : decode cX6_lastLed 28 = .ok (.if_icmp .ge 82, 3) := by decide +kernel
theorem dX6_lastLed_31 : decode cX6_lastLed 31 = .ok (.iload 5, 2) := by decide +kernel
theorem dX6_lastLed_33 : decode cX6_lastLed 33 = .ok (.iload_n 1, 1) := by decide +kernel
theorem dX6_lastLed_34 : decode cX6_lastLed 34 = .ok (.if_icmp .eq 70, 3) := by decide +kernel
theorem dX6_lastLed_37 : decode cX6_lastLed 37 = .ok (.aload_n 0, 1) := by decide +kernel
theorem dX6_lastLed_38 : decode cX6_lastLed 38 = .ok (.iload 5, 2) := by decide +kernel
theorem dX6_lastLed_40 : decode cX6_lastLed 40 = .ok (.iload_n 3, 1) := by decide +kernel
theorem dX6_lastLed_41 : decode cX6_lastLed 41 = .ok (.invokevirtual 48, 3) := by decide +kernel
theorem dX6_lastLed_44 : decode cX6_lastLed 44 = .ok (.ifCond .eq 60, 3) := by decide +kernel
theorem dX6_lastLed_47 : decode cX6_lastLed 47 = .ok (.iload_n 1, 1) := by decide +kernel
theorem dX6_lastLed_48 : decode cX6_lastLed 48 = .ok (.iconst (-1), 1) := by decide +kernel
theorem dX6_lastLed_49 : decode cX6_lastLed 49 = .ok (.if_icmp .ne 13, 3) := by decide +kernel
theorem dX6_lastLed_52 : decode cX6_lastLed 52 = .ok (.aload_n 0, 1) := by decide +kernel
theorem dX6_lastLed_53 : decode cX6_lastLed 53 = .ok (.iload 5, 2) := by decide +kernel
theorem dX6_lastLed_55 : decode cX6_lastLed 55 = .ok (.iconst 2, 1) := by decide +kernel
theorem dX6_lastLed_56 : decode cX6_lastLed 56 = .ok (.invokevirtual 41, 3) := by decide +kernel
theorem dX6_lastLed_59 : decode cX6_lastLed 59 = .ok (.goto 24, 3) := by decide +kernel
theorem dX6_lastLed_62 : decode cX6_lastLed 62 = .ok (.aload_n 0, 1) := by decide +kernel
theorem dX6_lastLed_63 : decode cX6_lastLed 63 = .ok (.iload_n 1, 1) := by decide +kernel
theorem dX6_lastLed_64 : decode cX6_lastLed 64 = .ok (.iload 5, 2) := by decide +kernel
theorem dX6_lastLed_66 : decode cX6_lastLed 66 = .ok (.iload_n 2, 1) := by decide +kernel
theorem dX6_lastLed_67 : decode cX6_lastLed 67 = .ok (.iconst 1, 1) := by decide +kernel
theorem dX6_lastLed_68 : decode cX6_lastLed 68 = .ok (.iadd, 1) := by decide +kernel
theorem dX6_lastLed_69 : decode cX6_lastLed 69 = .ok (.iload 5, 2) := by decide +kernel
theorem dX6_lastLed_71 : decode cX6_lastLed 71 = .ok (.iload_n 1, 1) := by decide +kernel
theorem dX6_lastLed_72 : decode cX6_lastLed 72 = .ok (.if_icmp .ge 7, 3) := by decide +kernel
theorem dX6_lastLed_75 : decode cX6_lastLed 75 = .ok (.iconst 1, 1) := by decide +kernel
theorem dX6_lastLed_76 : decode cX6_lastLed 76 = .ok (.goto 4, 3) := by decide +kernel
theorem dX6_lastLed_79 : decode cX6_lastLed 79 = .ok (.iconst 0, 1) := by decide +kernel
theorem dX6_lastLed_80 : decode cX6_lastLed 80 = .ok (.invokevirtual 62, 3) := by decide +kernel
theorem dX6_lastLed_83 : decode cX6_lastLed 83 = .ok (.istore 6, 2) := by decide +kernel
theorem dX6_lastLed_85 : decode cX6_lastLed 85 = .ok (.iload 6, 2) := by decide +kernel
theorem dX6_lastLed_87 : decode cX6_lastLed 87 = .ok (.iload_n 2, 1) := by decide +kernel
theorem dX6_lastLed_88 : decode cX6_lastLed 88 = .ok (.if_icmp .le 16, 3) := by decide +kernel
theorem dX6_lastLed_91 : decode cX6_lastLed 91 = .ok (.iload 6, 2) := by decide +kernel
theorem dX6_lastLed_93 : decode cX6_lastLed 93 = .ok (.iload 4, 2) := by decide +kernel
theorem dX6_lastLed_95 : decode cX6_lastLed 95 = .ok (.if_icmp .gt 9, 3) := by decide +kernel
theorem dX6_lastLed_98 : decode cX6_lastLed 98 = .ok (.iload 6, 2) := by decide +kernel
theorem dX6_lastLed_100 : decode cX6_lastLed 100 = .ok (.iconst 1, 1) := by decide +kernel
theorem dX6_lastLed_101 : decode cX6_lastLed 101 = .ok (.isub, 1) := by decide +kernel
theorem dX6_lastLed_102 : decode cX6_lastLed 102 = .ok (.istore 4, 2) := by decide +kernel
theorem dX6_lastLed_104 : decode cX6_lastLed 104 = .ok (.iinc 5 1, 3) := by decide +kernel
theorem dX6_lastLed_107 : decode cX6_lastLed 107 = .ok (.goto (-85), 3) := by decide +kernel
theorem dX6_lastLed_110 : decode cX6_lastLed 110 = .ok (.iload 4, 2) := by decide +kernel
theorem dX6_lastLed_112 : decode cX6_lastLed 112 = .ok (.ireturn, 1) := by decide +kernel
set_option maxRecDepth 20000 in
theorem ggX6_nextTurn_X6_covers : GoodIn wsX6_nextTurn wsX6_covers := goodIn_r _ [6, 7, 8, 9, 5, 10, 11, 12, 13, 14] (by decide +kernel) (by decide +kernel)
set_option maxRecDepth 20000 in
theorem gX6_nextTurn_X6_covers : GoodIn wsX6_nextTurn (wsV RX6 44 RX6 yX6_covers wsX6_covers) := goodIn_app (goodIn_of _ (by decide +kernel)) ggX6_nextTurn_X6_covers
set_option maxRecDepth 20000 in
theorem ggX6_nextTurn_X6_value : GoodIn wsX6_nextTurn wsX6_value := goodIn_r _ [10, 11, 12, 13, 14] (by decide +kernel) (by decide +kernel)
set_option maxRecDepth 20000 in
theorem gX6_nextTurn_X6_value : GoodIn wsX6_nextTurn (wsV RX6 41 RX6 yX6_value wsX6_value) := goodIn_app (goodIn_of _ (by decide +kernel)) ggX6_nextTurn_X6_value
theorem dX6_nextTurn_0 : decode cX6_nextTurn 0 = .ok (.sipush 16385, 3) := by decide +kernel
theorem dX6_nextTurn_3 : decode cX6_nextTurn 3 = .ok (.istore_n 3, 1) := by decide +kernel
theorem dX6_nextTurn_4 : decode cX6_nextTurn 4 = .ok (.iconst 0, 1) := by decide +kernel
theorem dX6_nextTurn_5 : decode cX6_nextTurn 5 = .ok (.istore 4, 2) := by decide +kernel
theorem dX6_nextTurn_7 : decode cX6_nextTurn 7 = .ok (.iload 4, 2) := by decide +kernel
theorem dX6_nextTurn_9 : decode cX6_nextTurn 9 = .ok (.aload_n 0, 1) := by decide +kernel
theorem dX6_nextTurn_10 : decode cX6_nextTurn 10 = .ok (.getfield 19, 3) := by decide +kernel
theorem dX6_nextTurn_13 : decode cX6_nextTurn 13 = .ok (.if_icmp .ge 67, 3) := by decide +kernel
theorem dX6_nextTurn_16 : decode cX6_nextTurn 16 = .ok (.aload_n 0, 1) := by decide +kernel
theorem dX6_nextTurn_17 : decode cX6_nextTurn 17 = .ok (.iload 4, 2) := by decide +kernel
theorem dX6_nextTurn_19 : decode cX6_nextTurn 19 = .ok (.iload_n 1, 1) := by decide +kernel
theorem dX6_nextTurn_20 : decode cX6_nextTurn 20 = .ok (.invokevirtual 44, 3) := by decide +kernel
theorem dX6_nextTurn_23 : decode cX6_nextTurn 23 = .ok (.ifCond .eq 51, 3) := by decide +kernel
theorem dX6_nextTurn_26 : decode cX6_nextTurn 26 = .ok (.aload_n 0, 1) := by decide +kernel
theorem dX6_nextTurn_27 : decode cX6_nextTurn 27 = .ok (.iload 4, 2) := by decide +kernel
theorem dX6_nextTurn_29 : decode cX6_nextTurn 29 = .ok (.iconst 4, 1) := by decide +kernel
theorem dX6_nextTurn_30 : decode cX6_nextTurn 30 = .ok (.invokevirtual 41, 3) := by decide +kernel
theorem dX6_nextTurn_33 : decode cX6_nextTurn 33 = .ok (.istore 5, 2) := by decide +kernel
theorem dX6_nextTurn_35 : decode cX6_nextTurn 35 = .ok (.aload_n 0, 1) := by decide +kernel
theorem dX6_nextTurn_36 : decode cX6_nextTurn 36 = .ok (.iload 4, 2) := by decide +kernel
theorem dX6_nextTurn_38 : decode cX6_nextTurn 38 = .ok (.iconst 5, 1) := by decide +kernel
theorem dX6_nextTurn_39 : decode cX6_nextTurn 39 = .ok (.invokevirtual 41, 3) := by decide +kernel
theorem dX6_nextTurn_42 : decode cX6_nextTurn 42 = .ok (.istore 6, 2) := by decide +kernel
theorem dX6_nextTurn_44 : decode cX6_nextTurn 44 = .ok (.iload 5, 2) := by decide +kernel
theorem dX6_nextTurn_46 : decode cX6_nextTurn 46 = .ok (.iload_n 2, 1) := by decide +kernel
theorem dX6_nextTurn_47 : decode cX6_nextTurn 47 = .ok (.if_icmp .le 12, 3) := by decide +kernel
theorem dX6_nextTurn_50 : decode cX6_nextTurn 50 = .ok (.iload 5, 2) := by decide +kernel
theorem dX6_nextTurn_52 : decode cX6_nextTurn 52 = .ok (.iload_n 3, 1) := by decide +kernel
theorem dX6_nextTurn_53 : decode cX6_nextTurn 53 = .ok (.if_icmp .ge 6, 3) := by decide +kernel
theorem dX6_nextTurn_56 : decode cX6_nextTurn 56 = .ok (.iload 5, 2) := by decide +kernel
theorem dX6_nextTurn_58 : decode cX6_nextTurn 58 = .ok (.istore_n 3, 1) := by decide +kernel
theorem dX6_nextTurn_59 : decode cX6_nextTurn 59 = .ok (.iload 6, 2) := by decide +kernel
theorem dX6_nextTurn_61 : decode cX6_nextTurn 61 = .ok (.iload_n 2, 1) := by decide +kernel
theorem dX6_nextTurn_62 : decode cX6_nextTurn 62 = .ok (.if_icmp .le 12, 3) := by decide +kernel
theorem dX6_nextTurn_65 : decode cX6_nextTurn 65 = .ok (.iload 6, 2) := by decide +kernel
theorem dX6_nextTurn_67 : decode cX6_nextTurn 67 = .ok (.iload_n 3, 1) := by decide +kernel
theorem dX6_nextTurn_68 : decode cX6_nextTurn 68 = .ok (.if_icmp .ge 6, 3) := by decide +kernel
theorem dX6_nextTurn_71 : decode cX6_nextTurn 71 = .ok (.iload 6, 2) := by decide +kernel
theorem dX6_nextTurn_73 : decode cX6_nextTurn 73 = .ok (.istore_n 3, 1) := by decide +kernel
theorem dX6_nextTurn_74 : decode cX6_nextTurn 74 = .ok (.iinc 4 1, 3) := by decide +kernel
theorem dX6_nextTurn_77 : decode cX6_nextTurn 77 = .ok (.goto (-70), 3) := by decide +kernel
theorem dX6_nextTurn_80 : decode cX6_nextTurn 80 = .ok (.iload_n 3, 1) := by decide +kernel
theorem dX6_nextTurn_81 : decode cX6_nextTurn 81 = .ok (.ireturn, 1) := by decide +kernel
set_option maxRecDepth 20000 in
theorem ggX6_changeAfter_X6_firstAt : GoodIn wsX6_changeAfter wsX6_firstAt := goodIn_r _ [5, 6, 7, 8, 9, 4, 10, 11, 12, 13, 14, 15, 16, 17, 18, 19, 20, 21, 22, 23, 24, 25, 26, 27, 32, 33, 34] (by decide +kernel) (by decide +kernel)
set_option maxRecDepth 20000 in
theorem gX6_changeAfter_X6_firstAt : GoodIn wsX6_changeAfter (wsV RX6 66 RX6 yX6_firstAt wsX6_firstAt) := goodIn_app (goodIn_of _ (by decide +kernel)) ggX6_changeAfter_X6_firstAt
set_option maxRecDepth 20000 in
theorem ggX6_changeAfter_X6_nextTurn : GoodIn wsX6_changeAfter wsX6_nextTurn := goodIn_r _ [31, 6, 11, 12, 13, 4, 14, 15, 16, 17, 18, 19, 32, 33, 34] (by decide +kernel) (by decide +kernel)
set_option maxRecDepth 20000 in
theorem gX6_changeAfter_X6_nextTurn : GoodIn wsX6_changeAfter (wsV RX6 69 RX6 yX6_nextTurn wsX6_nextTurn) := goodIn_app (goodIn_of _ (by decide +kernel)) ggX6_changeAfter_X6_nextTurn
theorem dX6_changeAfter_0 : decode cX6_changeAfter 0 = .ok (.aload_n 0, 1) := by decide +kernel
theorem dX6_changeAfter_1 : decode cX6_changeAfter 1 = .ok (.iload_n 1, 1) := by decide +kernel
theorem dX6_changeAfter_2 : decode cX6_changeAfter 2 = .ok (.iload_n 2, 1) := by decide +kernel
theorem dX6_changeAfter_3 : decode cX6_changeAfter 3 = .ok (.invokevirtual 66, 3) := by decide +kernel
theorem dX6_changeAfter_6 : decode cX6_changeAfter 6 = .ok (.istore_n 3, 1) := by decide +kernel
theorem dX6_changeAfter_7 : decode cX6_changeAfter 7 = .ok (.aload_n 0, 1) := by decide +kernel
theorem dX6_changeAfter_8 : decode cX6_changeAfter 8 = .ok (.iload_n 1, 1) := by decide +kernel
theorem dX6_changeAfter_9 : decode cX6_changeAfter 9 = .ok (.iload_n 2, 1) := by decide +kernel
theorem dX6_changeAfter_10 : decode cX6_changeAfter 10 = .ok (.invokevirtual 69, 3) := by decide +kernel
theorem dX6_changeAfter_13 : decode cX6_changeAfter 13 = .ok (.istore 4, 2) := by decide +kernel
theorem dX6_changeAfter_15 : decode cX6_changeAfter 15 = .ok (.iconst 0, 1) := by decide +kernel
theorem dX6_changeAfter_16 : decode cX6_changeAfter 16 = .ok (.istore 5, 2) := by decide +kernel
theorem dX6_changeAfter_18 : decode cX6_changeAfter 18 = .ok (.iload 5, 2) := by decide +kernel
theorem dX6_changeAfter_20 : decode cX6_changeAfter 20 = .ok (.sipush 16384, 3) := by decide +kernel
theorem dX6_changeAfter_23 : decode cX6_changeAfter 23 = .ok (.if_icmp .gt 40, 3) := by decide +kernel
theorem dX6_changeAfter_26 : decode cX6_changeAfter 26 = .ok (.iload 4, 2) := by decide +kernel
theorem dX6_changeAfter_28 : decode cX6_changeAfter 28 = .ok (.sipush 16384, 3) := by decide +kernel
theorem dX6_changeAfter_31 : decode cX6_changeAfter 31 = .ok (.if_icmp .gt 32, 3) := by decide +kernel
theorem dX6_changeAfter_34 : decode cX6_changeAfter 34 = .ok (.aload_n 0, 1) := by decide +kernel
theorem dX6_changeAfter_35 : decode cX6_changeAfter 35 = .ok (.iload_n 1, 1) := by decide +kernel
theorem dX6_changeAfter_36 : decode cX6_changeAfter 36 = .ok (.iload 4, 2) := by decide +kernel
theorem dX6_changeAfter_38 : decode cX6_changeAfter 38 = .ok (.invokevirtual 66, 3) := by decide +kernel
theorem dX6_changeAfter_41 : decode cX6_changeAfter 41 = .ok (.iload_n 3, 1) := by decide +kernel
theorem dX6_changeAfter_42 : decode cX6_changeAfter 42 = .ok (.if_icmp .eq 6, 3) := by decide +kernel
theorem dX6_changeAfter_45 : decode cX6_changeAfter 45 = .ok (.iload 4, 2) := by decide +kernel
theorem dX6_changeAfter_47 : decode cX6_changeAfter 47 = .ok (.ireturn, 1) := by decide +kernel
theorem dX6_changeAfter_48 : decode cX6_changeAfter 48 = .ok (.aload_n 0, 1) := by decide +kernel
theorem dX6_changeAfter_49 : decode cX6_changeAfter 49 = .ok (.iload_n 1, 1) := by decide +kernel
theorem dX6_changeAfter_50 : decode cX6_changeAfter 50 = .ok (.iload 4, 2) := by decide +kernel
theorem dX6_changeAfter_52 : decode cX6_changeAfter 52 = .ok (.invokevirtual 69, 3) := by decide +kernel
theorem dX6_changeAfter_55 : decode cX6_changeAfter 55 = .ok (.istore 4, 2) := by decide +kernel
theorem dX6_changeAfter_57 : decode cX6_changeAfter 57 = .ok (.iinc 5 1, 3) := by decide +kernel
theorem dX6_changeAfter_60 : decode cX6_changeAfter 60 = .ok (.goto (-42), 3) := by decide +kernel
theorem dX6_changeAfter_63 : decode cX6_changeAfter 63 = .ok (.iconst (-1), 1) := by decide +kernel
theorem dX6_changeAfter_64 : decode cX6_changeAfter 64 = .ok (.ireturn, 1) := by decide +kernel
set_option maxRecDepth 20000 in
theorem ggX6_countChanges_X6_changeAfter : GoodIn wsX6_countChanges wsX6_changeAfter := goodIn_r _ [5, 6, 7, 8, 4, 9, 10, 11, 12, 13, 14, 15, 16, 17, 18, 19, 20, 21, 22, 23, 24, 25, 26, 27, 28, 29, 30, 31, 32, 33, 34, 35, 36, 37, 38] (by decide +kernel) (by decide +kernel)
set_option maxRecDepth 20000 in
theorem gX6_countChanges_X6_changeAfter : GoodIn wsX6_countChanges (wsV RX6 72 RX6 yX6_changeAfter wsX6_changeAfter) := goodIn_app (goodIn_of _ (by decide +kernel)) ggX6_countChanges_X6_changeAfter
theorem dX6_countChanges_0 : decode cX6_countChanges 0 = .ok (.aload_n 0, 1) := by decide +kernel
theorem dX6_countChanges_1 : decode cX6_countChanges 1 = .ok (.iload_n 1, 1) := by decide +kernel
theorem dX6_countChanges_2 : decode cX6_countChanges 2 = .ok (.iload_n 2, 1) := by decide +kernel
theorem dX6_countChanges_3 : decode cX6_countChanges 3 = .ok (.invokevirtual 72, 3) := by decide +kernel
theorem dX6_countChanges_6 : decode cX6_countChanges 6 = .ok (.istore 4, 2) := by decide +kernel
theorem dX6_countChanges_8 : decode cX6_countChanges 8 = .ok (.iconst 0, 1) := by decide +kernel
theorem dX6_countChanges_9 : decode cX6_countChanges 9 = .ok (.istore 5, 2) := by decide +kernel
theorem dX6_countChanges_11 : decode cX6_countChanges 11 = .ok (.iload 5, 2) := by decide +kernel
theorem dX6_countChanges_13 : decode cX6_countChanges 13 = .ok (.sipush 16384, 3) := by decide +kernel
theorem dX6_countChanges_16 : decode cX6_countChanges 16 = .ok (.if_icmp .gt 30, 3) := by decide +kernel
theorem dX6_countChanges_19 : decode cX6_countChanges 19 = .ok (.iload 4, 2) := by decide +kernel
theorem dX6_countChanges_21 : decode cX6_countChanges 21 = .ok (.iconst (-1), 1) := by decide +kernel
theorem dX6_countChanges_22 : decode cX6_countChanges 22 = .ok (.if_icmp .eq 24, 3) := by decide +kernel
theorem dX6_countChanges_25 : decode cX6_countChanges 25 = .ok (.iload 4, 2) := by decide +kernel
theorem dX6_countChanges_27 : decode cX6_countChanges 27 = .ok (.iload_n 3, 1) := by decide +kernel
theorem dX6_countChanges_28 : decode cX6_countChanges 28 = .ok (.if_icmp .gt 18, 3) := by decide +kernel
theorem dX6_countChanges_31 : decode cX6_countChanges 31 = .ok (.iinc 5 1, 3) := by decide +kernel
theorem dX6_countChanges_34 : decode cX6_countChanges 34 = .ok (.aload_n 0, 1) := by decide +kernel
theorem dX6_countChanges_35 : decode cX6_countChanges 35 = .ok (.iload_n 1, 1) := by decide +kernel
theorem dX6_countChanges_36 : decode cX6_countChanges 36 = .ok (.iload 4, 2) := by decide +kernel
theorem dX6_countChanges_38 : decode cX6_countChanges 38 = .ok (.invokevirtual 72, 3) := by decide +kernel
theorem dX6_countChanges_41 : decode cX6_countChanges 41 = .ok (.istore 4, 2) := by decide +kernel
theorem dX6_countChanges_43 : decode cX6_countChanges 43 = .ok (.goto (-32), 3) := by decide +kernel
theorem dX6_countChanges_46 : decode cX6_countChanges 46 = .ok (.iload 5, 2) := by decide +kernel
theorem dX6_countChanges_48 : decode cX6_countChanges 48 = .ok (.ireturn, 1) := by decide +kernel
set_option maxRecDepth 20000 in
theorem ggX6_extremeMinimum_X6_firstAt : GoodIn wsX6_extremeMinimum wsX6_firstAt := goodIn_r _ [6, 7, 8, 9, 10, 5, 11, 12, 13, 14, 15, 16, 17, 18, 19, 20, 21, 22, 23, 24, 25, 26, 27, 28, 33, 34, 35] (by decide +kernel) (by decide +kernel)
set_option maxRecDepth 20000 in
theorem gX6_extremeMinimum_X6_firstAt : GoodIn wsX6_extremeMinimum (wsV RX6 66 RX6 yX6_firstAt wsX6_firstAt) := goodIn_app (goodIn_of _ (by decide +kernel)) ggX6_extremeMinimum_X6_firstAt
set_option maxRecDepth 20000 in
theorem ggX6_extremeMinimum_X6_height : GoodIn wsX6_extremeMinimum wsX6_height := goodIn_r _ [28, 16, 17, 18, 5, 19, 20, 33, 34, 35] (by decide +kernel) (by decide +kernel)
set_option maxRecDepth 20000 in
theorem gX6_extremeMinimum_X6_height : GoodIn wsX6_extremeMinimum (wsV RX6 55 RX6 yX6_height wsX6_height) := goodIn_app (goodIn_of _ (by decide +kernel)) ggX6_extremeMinimum_X6_height
set_option maxRecDepth 20000 in
theorem ggX6_extremeMinimum_X6_nextTurn : GoodIn wsX6_extremeMinimum wsX6_nextTurn := goodIn_r _ [32, 7, 12, 13, 14, 5, 15, 16, 17, 18, 19, 20, 33, 34, 35] (by decide +kernel) (by decide +kernel)
set_option maxRecDepth 20000 in
theorem gX6_extremeMinimum_X6_nextTurn : GoodIn wsX6_extremeMinimum (wsV RX6 69 RX6 yX6_nextTurn wsX6_nextTurn) := goodIn_app (goodIn_of _ (by decide +kernel)) ggX6_extremeMinimum_X6_nextTurn
theorem dX6_extremeMinimum_0 : decode cX6_extremeMinimum 0 = .ok (.ldc2_w 77, 3) := by decide +kernel
theorem dX6_extremeMinimum_3 : decode cX6_extremeMinimum 3 = .ok (.lstore 5, 2) := by decide +kernel
theorem dX6_extremeMinimum_5 : decode cX6_extremeMinimum 5 = .ok (.iload_n 2, 1) := by decide +kernel
theorem dX6_extremeMinimum_6 : decode cX6_extremeMinimum 6 = .ok (.istore 7, 2) := by decide +kernel
theorem dX6_extremeMinimum_8 : decode cX6_extremeMinimum 8 = .ok (.iconst 0, 1) := by decide +kernel
theorem dX6_extremeMinimum_9 : decode cX6_extremeMinimum 9 = .ok (.istore 8, 2) := by decide +kernel
theorem dX6_extremeMinimum_11 : decode cX6_extremeMinimum 11 = .ok (.iload 8, 2) := by decide +kernel
theorem dX6_extremeMinimum_13 : decode cX6_extremeMinimum 13 = .ok (.sipush 16384, 3) := by decide +kernel
theorem dX6_extremeMinimum_16 : decode cX6_extremeMinimum 16 = .ok (.if_icmp .gt 86, 3) := by decide +kernel
theorem dX6_extremeMinimum_19 : decode cX6_extremeMinimum 19 = .ok (.iload 7, 2) := by decide +kernel
theorem dX6_extremeMinimum_21 : decode cX6_extremeMinimum 21 = .ok (.iload_n 3, 1) := by decide +kernel
theorem dX6_extremeMinimum_22 : decode cX6_extremeMinimum 22 = .ok (.if_icmp .gt 80, 3) := by decide +kernel
theorem dX6_extremeMinimum_25 : decode cX6_extremeMinimum 25 = .ok (.aload_n 0, 1) := by decide +kernel
theorem dX6_extremeMinimum_26 : decode cX6_extremeMinimum 26 = .ok (.iload_n 1, 1) := by decide +kernel
theorem dX6_extremeMinimum_27 : decode cX6_extremeMinimum 27 = .ok (.iload 7, 2) := by decide +kernel
theorem dX6_extremeMinimum_29 : decode cX6_extremeMinimum 29 = .ok (.invokevirtual 66, 3) := by decide +kernel
theorem dX6_extremeMinimum_32 : decode cX6_extremeMinimum 32 = .ok (.istore 9, 2) := by decide +kernel
theorem dX6_extremeMinimum_34 : decode cX6_extremeMinimum 34 = .ok (.iload 9, 2) := by decide +kernel
theorem dX6_extremeMinimum_36 : decode cX6_extremeMinimum 36 = .ok (.iconst (-1), 1) := by decide +kernel
theorem dX6_extremeMinimum_37 : decode cX6_extremeMinimum 37 = .ok (.if_icmp .eq 50, 3) := by decide +kernel
theorem dX6_extremeMinimum_40 : decode cX6_extremeMinimum 40 = .ok (.aload_n 0, 1) := by decide +kernel
theorem dX6_extremeMinimum_41 : decode cX6_extremeMinimum 41 = .ok (.iload 9, 2) := by decide +kernel
theorem dX6_extremeMinimum_43 : decode cX6_extremeMinimum 43 = .ok (.iload_n 1, 1) := by decide +kernel
theorem dX6_extremeMinimum_44 : decode cX6_extremeMinimum 44 = .ok (.invokevirtual 55, 3) := by decide +kernel
theorem dX6_extremeMinimum_47 : decode cX6_extremeMinimum 47 = .ok (.i2l, 1) := by decide +kernel
theorem dX6_extremeMinimum_48 : decode cX6_extremeMinimum 48 = .ok (.lstore 10, 2) := by decide +kernel
theorem dX6_extremeMinimum_50 : decode cX6_extremeMinimum 50 = .ok (.lload 5, 2) := by decide +kernel
theorem dX6_extremeMinimum_52 : decode cX6_extremeMinimum 52 = .ok (.ldc2_w 77, 3) := by decide +kernel
theorem dX6_extremeMinimum_55 : decode cX6_extremeMinimum 55 = .ok (.lcmp, 1) := by decide +kernel
theorem dX6_extremeMinimum_56 : decode cX6_extremeMinimum 56 = .ok (.ifCond .eq 27, 3) := by decide +kernel
theorem dX6_extremeMinimum_59 : decode cX6_extremeMinimum 59 = .ok (.iload 4, 2) := by decide +kernel
theorem dX6_extremeMinimum_61 : decode cX6_extremeMinimum 61 = .ok (.ifCond .eq 14, 3) := by decide +kernel
theorem dX6_extremeMinimum_64 : decode cX6_extremeMinimum 64 = .ok (.lload 10, 2) := by decide +kernel
theorem dX6_extremeMinimum_66 : decode cX6_extremeMinimum 66 = .ok (.lload 5, 2) := by decide +kernel
theorem dX6_extremeMinimum_68 : decode cX6_extremeMinimum 68 = .ok (.lcmp, 1) := by decide +kernel
theorem dX6_extremeMinimum_69 : decode cX6_extremeMinimum 69 = .ok (.ifCond .le 18, 3) := by decide +kernel
theorem dX6_extremeMinimum_72 : decode cX6_extremeMinimum 72 = .ok (.goto 11, 3) := by decide +kernel
theorem dX6_extremeMinimum_75 : decode cX6_extremeMinimum 75 = .ok (.lload 10, 2) := by decide +kernel
theorem dX6_extremeMinimum_77 : decode cX6_extremeMinimum 77 = .ok (.lload 5, 2) := by decide +kernel
theorem dX6_extremeMinimum_79 : decode cX6_extremeMinimum 79 = .ok (.lcmp, 1) := by decide +kernel
theorem dX6_extremeMinimum_80 : decode cX6_extremeMinimum 80 = .ok (.ifCond .ge 7, 3) := by decide +kernel
theorem dX6_extremeMinimum_83 : decode cX6_extremeMinimum 83 = .ok (.lload 10, 2) := by decide +kernel
theorem dX6_extremeMinimum_85 : decode cX6_extremeMinimum 85 = .ok (.lstore 5, 2) := by decide +kernel
theorem dX6_extremeMinimum_87 : decode cX6_extremeMinimum 87 = .ok (.aload_n 0, 1) := by decide +kernel
theorem dX6_extremeMinimum_88 : decode cX6_extremeMinimum 88 = .ok (.iload_n 1, 1) := by decide +kernel
theorem dX6_extremeMinimum_89 : decode cX6_extremeMinimum 89 = .ok (.iload 7, 2) := by decide +kernel
theorem dX6_extremeMinimum_91 : decode cX6_extremeMinimum 91 = .ok (.invokevirtual 69, 3) := by decide +kernel
theorem dX6_extremeMinimum_94 : decode cX6_extremeMinimum 94 = .ok (.istore 7, 2) := by decide +kernel
theorem dX6_extremeMinimum_96 : decode cX6_extremeMinimum 96 = .ok (.iinc 8 1, 3) := by decide +kernel
theorem dX6_extremeMinimum_99 : decode cX6_extremeMinimum 99 = .ok (.goto (-88), 3) := by decide +kernel
theorem dX6_extremeMinimum_102 : decode cX6_extremeMinimum 102 = .ok (.lload 5, 2) := by decide +kernel
theorem dX6_extremeMinimum_104 : decode cX6_extremeMinimum 104 = .ok (.lreturn, 1) := by decide +kernel
set_option maxRecDepth 20000 in
theorem ggX6_ticksLed_X6_value : GoodIn wsX6_ticksLed wsX6_value := goodIn_r _ [9, 10, 36, 37, 38] (by decide +kernel) (by decide +kernel)
set_option maxRecDepth 20000 in
theorem gX6_ticksLed_X6_value : GoodIn wsX6_ticksLed (wsV RX6 41 RX6 yX6_value wsX6_value) := goodIn_app (goodIn_of _ (by decide +kernel)) ggX6_ticksLed_X6_value
set_option maxRecDepth 20000 in
theorem ggX6_ticksLed_X6_nextTurn : GoodIn wsX6_ticksLed wsX6_nextTurn := goodIn_r _ [14, 15, 16, 17, 18, 8, 19, 5, 6, 7, 9, 10, 36, 37, 38] (by decide +kernel) (by decide +kernel)
set_option maxRecDepth 20000 in
theorem gX6_ticksLed_X6_nextTurn : GoodIn wsX6_ticksLed (wsV RX6 69 RX6 yX6_nextTurn wsX6_nextTurn) := goodIn_app (goodIn_of _ (by decide +kernel)) ggX6_ticksLed_X6_nextTurn
set_option maxRecDepth 20000 in
theorem ggX6_ticksLed_X6_firstAt : GoodIn wsX6_ticksLed wsX6_firstAt := goodIn_r _ [23, 15, 24, 25, 26, 8, 27, 16, 17, 18, 19, 5, 6, 7, 9, 10, 28, 29, 30, 31, 32, 33, 34, 35, 36, 37, 38] (by decide +kernel) (by decide +kernel)
set_option maxRecDepth 20000 in
theorem gX6_ticksLed_X6_firstAt : GoodIn wsX6_ticksLed (wsV RX6 66 RX6 yX6_firstAt wsX6_firstAt) := goodIn_app (goodIn_of _ (by decide +kernel)) ggX6_ticksLed_X6_firstAt
theorem dX6_ticksLed_0 : decode cX6_ticksLed 0 = .ok (.aload_n 0, 1) := by decide +kernel
theorem dX6_ticksLed_1 : decode cX6_ticksLed 1 = .ok (.iload_n 1, 1) := by decide +kernel
theorem dX6_ticksLed_2 : decode cX6_ticksLed 2 = .ok (.iconst 5, 1) := by decide +kernel
theorem dX6_ticksLed_3 : decode cX6_ticksLed 3 = .ok (.invokevirtual 41, 3) := by decide +kernel
theorem dX6_ticksLed_6 : decode cX6_ticksLed 6 = .ok (.istore_n 3, 1) := by decide +kernel
theorem dX6_ticksLed_7 : decode cX6_ticksLed 7 = .ok (.aload_n 0, 1) := by decide +kernel
theorem dX6_ticksLed_8 : decode cX6_ticksLed 8 = .ok (.iload_n 1, 1) := by decide +kernel
theorem dX6_ticksLed_9 : decode cX6_ticksLed 9 = .ok (.iconst 4, 1) := by decide +kernel
theorem dX6_ticksLed_10 : decode cX6_ticksLed 10 = .ok (.invokevirtual 41, 3) := by decide +kernel
theorem dX6_ticksLed_13 : decode cX6_ticksLed 13 = .ok (.istore 4, 2) := by decide +kernel
theorem dX6_ticksLed_15 : decode cX6_ticksLed 15 = .ok (.iconst 0, 1) := by decide +kernel
theorem dX6_ticksLed_16 : decode cX6_ticksLed 16 = .ok (.istore 5, 2) := by decide +kernel
theorem dX6_ticksLed_18 : decode cX6_ticksLed 18 = .ok (.iconst 0, 1) := by decide +kernel
theorem dX6_ticksLed_19 : decode cX6_ticksLed 19 = .ok (.istore 6, 2) := by decide +kernel
theorem dX6_ticksLed_21 : decode cX6_ticksLed 21 = .ok (.iload 6, 2) := by decide +kernel
theorem dX6_ticksLed_23 : decode cX6_ticksLed 23 = .ok (.sipush 16384, 3) := by decide +kernel
theorem dX6_ticksLed_26 : decode cX6_ticksLed 26 = .ok (.if_icmp .gt 53, 3) := by decide +kernel
theorem dX6_ticksLed_29 : decode cX6_ticksLed 29 = .ok (.iload 4, 2) := by decide +kernel
theorem dX6_ticksLed_31 : decode cX6_ticksLed 31 = .ok (.iload_n 3, 1) := by decide +kernel
theorem dX6_ticksLed_32 : decode cX6_ticksLed 32 = .ok (.if_icmp .ge 47, 3) := by decide +kernel
theorem dX6_ticksLed_35 : decode cX6_ticksLed 35 = .ok (.aload_n 0, 1) := by decide +kernel
theorem dX6_ticksLed_36 : decode cX6_ticksLed 36 = .ok (.iload_n 2, 1) := by decide +kernel
theorem dX6_ticksLed_37 : decode cX6_ticksLed 37 = .ok (.iload 4, 2) := by decide +kernel
theorem dX6_ticksLed_39 : decode cX6_ticksLed 39 = .ok (.invokevirtual 69, 3) := by decide +kernel
theorem dX6_ticksLed_42 : decode cX6_ticksLed 42 = .ok (.iload_n 3, 1) := by decide +kernel
theorem dX6_ticksLed_43 : decode cX6_ticksLed 43 = .ok (.invokestatic 22, 3) := by decide +kernel
theorem dX6_ticksLed_46 : decode cX6_ticksLed 46 = .ok (.istore 7, 2) := by decide +kernel
theorem dX6_ticksLed_48 : decode cX6_ticksLed 48 = .ok (.aload_n 0, 1) := by decide +kernel
theorem dX6_ticksLed_49 : decode cX6_ticksLed 49 = .ok (.iload_n 2, 1) := by decide +kernel
theorem dX6_ticksLed_50 : decode cX6_ticksLed 50 = .ok (.iload 4, 2) := by decide +kernel
theorem dX6_ticksLed_52 : decode cX6_ticksLed 52 = .ok (.invokevirtual 66, 3) := by decide +kernel
theorem dX6_ticksLed_55 : decode cX6_ticksLed 55 = .ok (.iload_n 1, 1) := by decide +kernel
theorem dX6_ticksLed_56 : decode cX6_ticksLed 56 = .ok (.if_icmp .ne 13, 3) := by decide +kernel
theorem dX6_ticksLed_59 : decode cX6_ticksLed 59 = .ok (.iload 5, 2) := by decide +kernel
theorem dX6_ticksLed_61 : decode cX6_ticksLed 61 = .ok (.iload 7, 2) := by decide +kernel
theorem dX6_ticksLed_63 : decode cX6_ticksLed 63 = .ok (.iload 4, 2) := by decide +kernel
theorem dX6_ticksLed_65 : decode cX6_ticksLed 65 = .ok (.isub, 1) := by decide +kernel
theorem dX6_ticksLed_66 : decode cX6_ticksLed 66 = .ok (.iadd, 1) := by decide +kernel
theorem dX6_ticksLed_67 : decode cX6_ticksLed 67 = .ok (.istore 5, 2) := by decide +kernel
theorem dX6_ticksLed_69 : decode cX6_ticksLed 69 = .ok (.iload 7, 2) := by decide +kernel
theorem dX6_ticksLed_71 : decode cX6_ticksLed 71 = .ok (.istore 4, 2) := by decide +kernel
theorem dX6_ticksLed_73 : decode cX6_ticksLed 73 = .ok (.iinc 6 1, 3) := by decide +kernel
theorem dX6_ticksLed_76 : decode cX6_ticksLed 76 = .ok (.goto (-55), 3) := by decide +kernel
theorem dX6_ticksLed_79 : decode cX6_ticksLed 79 = .ok (.iload 5, 2) := by decide +kernel
theorem dX6_ticksLed_81 : decode cX6_ticksLed 81 = .ok (.ireturn, 1) := by decide +kernel
set_option maxRecDepth 20000 in
theorem ggX6_mixedInto_X7_mixed : GoodIn wsX6_mixedInto wsX7_mixed := goodIn_r _ [5, 6] (by decide +kernel) (by decide +kernel)
set_option maxRecDepth 20000 in
theorem gX6_mixedInto_X7_mixed_n79 : GoodIn wsX6_mixedInto (wsX7_mixed) := ggX6_mixedInto_X7_mixed
set_option maxRecDepth 20000 in
theorem ggX6_mixedInto_X6_value : GoodIn wsX6_mixedInto wsX6_value := goodIn_r _ [11, 12, 13, 14, 15] (by decide +kernel) (by decide +kernel)
set_option maxRecDepth 20000 in
theorem gX6_mixedInto_X6_value : GoodIn wsX6_mixedInto (wsV RX6 41 RX6 yX6_value wsX6_value) := goodIn_app (goodIn_of _ (by decide +kernel)) ggX6_mixedInto_X6_value
theorem dX6_mixedInto_0 : decode cX6_mixedInto 0 = .ok (.lload_n 1, 1) := by decide +kernel
theorem dX6_mixedInto_1 : decode cX6_mixedInto 1 = .ok (.aload_n 0, 1) := by decide +kernel
theorem dX6_mixedInto_2 : decode cX6_mixedInto 2 = .ok (.getfield 15, 3) := by decide +kernel
theorem dX6_mixedInto_5 : decode cX6_mixedInto 5 = .ok (.i2l, 1) := by decide +kernel
theorem dX6_mixedInto_6 : decode cX6_mixedInto 6 = .ok (.invokestatic 79, 3) := by decide +kernel
theorem dX6_mixedInto_9 : decode cX6_mixedInto 9 = .ok (.lstore_n 1, 1) := by decide +kernel
theorem dX6_mixedInto_10 : decode cX6_mixedInto 10 = .ok (.lload_n 1, 1) := by decide +kernel
theorem dX6_mixedInto_11 : decode cX6_mixedInto 11 = .ok (.aload_n 0, 1) := by decide +kernel
theorem dX6_mixedInto_12 : decode cX6_mixedInto 12 = .ok (.getfield 19, 3) := by decide +kernel
theorem dX6_mixedInto_15 : decode cX6_mixedInto 15 = .ok (.i2l, 1) := by decide +kernel
theorem dX6_mixedInto_16 : decode cX6_mixedInto 16 = .ok (.invokestatic 79, 3) := by decide +kernel
theorem dX6_mixedInto_19 : decode cX6_mixedInto 19 = .ok (.lstore_n 1, 1) := by decide +kernel
theorem dX6_mixedInto_20 : decode cX6_mixedInto 20 = .ok (.iconst 0, 1) := by decide +kernel
theorem dX6_mixedInto_21 : decode cX6_mixedInto 21 = .ok (.istore_n 3, 1) := by decide +kernel
theorem dX6_mixedInto_22 : decode cX6_mixedInto 22 = .ok (.iload_n 3, 1) := by decide +kernel
theorem dX6_mixedInto_23 : decode cX6_mixedInto 23 = .ok (.aload_n 0, 1) := by decide +kernel
theorem dX6_mixedInto_24 : decode cX6_mixedInto 24 = .ok (.getfield 19, 3) := by decide +kernel
theorem dX6_mixedInto_27 : decode cX6_mixedInto 27 = .ok (.if_icmp .ge 38, 3) := by decide +kernel
theorem dX6_mixedInto_30 : decode cX6_mixedInto 30 = .ok (.iconst 0, 1) := by decide +kernel
theorem dX6_mixedInto_31 : decode cX6_mixedInto 31 = .ok (.istore 4, 2) := by decide +kernel
theorem dX6_mixedInto_33 : decode cX6_mixedInto 33 = .ok (.iload 4, 2) := by decide +kernel
theorem dX6_mixedInto_35 : decode cX6_mixedInto 35 = .ok (.bipush 6, 2) := by decide +kernel
theorem dX6_mixedInto_37 : decode cX6_mixedInto 37 = .ok (.if_icmp .ge 22, 3) := by decide +kernel
theorem dX6_mixedInto_40 : decode cX6_mixedInto 40 = .ok (.lload_n 1, 1) := by decide +kernel
theorem dX6_mixedInto_41 : decode cX6_mixedInto 41 = .ok (.aload_n 0, 1) := by decide +kernel
theorem dX6_mixedInto_42 : decode cX6_mixedInto 42 = .ok (.iload_n 3, 1) := by decide +kernel
theorem dX6_mixedInto_43 : decode cX6_mixedInto 43 = .ok (.iload 4, 2) := by decide +kernel
theorem dX6_mixedInto_45 : decode cX6_mixedInto 45 = .ok (.invokevirtual 41, 3) := by decide +kernel
theorem dX6_mixedInto_48 : decode cX6_mixedInto 48 = .ok (.i2l, 1) := by decide +kernel
theorem dX6_mixedInto_49 : decode cX6_mixedInto 49 = .ok (.invokestatic 79, 3) := by decide +kernel
theorem dX6_mixedInto_52 : decode cX6_mixedInto 52 = .ok (.lstore_n 1, 1) := by decide +kernel
theorem dX6_mixedInto_53 : decode cX6_mixedInto 53 = .ok (.iinc 4 1, 3) := by decide +kernel
theorem dX6_mixedInto_56 : decode cX6_mixedInto 56 = .ok (.goto (-23), 3) := by decide +kernel
theorem dX6_mixedInto_59 : decode cX6_mixedInto 59 = .ok (.iinc 3 1, 3) := by decide +kernel
theorem dX6_mixedInto_62 : decode cX6_mixedInto 62 = .ok (.goto (-40), 3) := by decide +kernel
theorem dX6_mixedInto_65 : decode cX6_mixedInto 65 = .ok (.lload_n 1, 1) := by decide +kernel
theorem dX6_mixedInto_66 : decode cX6_mixedInto 66 = .ok (.lreturn, 1) := by decide +kernel
set_option maxRecDepth 20000 in
theorem ggX7_init_X5_init : GoodIn wsX7_init wsX5_init := goodIn_r _ [22, 23, 2, 3, 24, 25, 26, 27, 28, 29, 30, 31, 32, 33, 34, 35, 36, 37, 38, 39, 40, 41, 42, 43, 82, 83, 84, 63, 64, 65, 66, 85, 86] (by decide +kernel) (by decide +kernel)
set_option maxRecDepth 20000 in
theorem gX7_init_X5_init : GoodIn wsX7_init (wsX5_init) := ggX7_init_X5_init
set_option maxRecDepth 20000 in
theorem ggX7_init_X2_init : GoodIn wsX7_init wsX2_init := goodIn_r _ [46, 47, 2, 3, 48, 49, 5, 6, 50, 21, 22, 23, 24, 25, 26, 27, 28, 29, 30, 31, 32, 33, 34, 35, 36, 37, 38, 39, 40, 41, 42, 43, 71, 72, 73, 63, 64, 65, 66, 82, 83, 84, 85, 86] (by decide +kernel) (by decide +kernel)
set_option maxRecDepth 20000 in
theorem gX7_init_X2_init : GoodIn wsX7_init (wsX2_init) := ggX7_init_X2_init
set_option maxRecDepth 20000 in
theorem ggX7_init_X4_init : GoodIn wsX7_init wsX4_init := goodIn_r _ [53, 54, 2, 3, 37, 55, 56, 74, 75, 76, 77, 78] (by decide +kernel) (by decide +kernel)
set_option maxRecDepth 20000 in
theorem gX7_init_X4_init : GoodIn wsX7_init (wsX4_init) := ggX7_init_X4_init
set_option maxRecDepth 20000 in
theorem ggX7_init_X1_init : GoodIn wsX7_init wsX1_init := goodIn_r _ [59, 60, 2, 3, 37, 61, 62, 79, 80, 81] (by decide +kernel) (by decide +kernel)
set_option maxRecDepth 20000 in
theorem gX7_init_X1_init : GoodIn wsX7_init (wsX1_init) := ggX7_init_X1_init
theorem dX7_init_0 : decode cX7_init 0 = .ok (.aload_n 0, 1) := by decide +kernel
theorem dX7_init_1 : decode cX7_init 1 = .ok (.invokespecial 1, 3) := by decide +kernel
theorem dX7_init_4 : decode cX7_init 4 = .ok (.aload_n 0, 1) := by decide +kernel
theorem dX7_init_5 : decode cX7_init 5 = .ok (.new 7, 3) := by decide +kernel
theorem dX7_init_8 : decode cX7_init 8 = .ok (.dup, 1) := by decide +kernel
theorem dX7_init_9 : decode cX7_init 9 = .ok (.invokespecial 9, 3) := by decide +kernel
theorem dX7_init_12 : decode cX7_init 12 = .ok (.putfield 10, 3) := by decide +kernel
theorem dX7_init_15 : decode cX7_init 15 = .ok (.aload_n 0, 1) := by decide +kernel
theorem dX7_init_16 : decode cX7_init 16 = .ok (.new 16, 3) := by decide +kernel
theorem dX7_init_19 : decode cX7_init 19 = .ok (.dup, 1) := by decide +kernel
theorem dX7_init_20 : decode cX7_init 20 = .ok (.invokespecial 18, 3) := by decide +kernel
theorem dX7_init_23 : decode cX7_init 23 = .ok (.putfield 19, 3) := by decide +kernel
theorem dX7_init_26 : decode cX7_init 26 = .ok (.aload_n 0, 1) := by decide +kernel
theorem dX7_init_27 : decode cX7_init 27 = .ok (.new 23, 3) := by decide +kernel
theorem dX7_init_30 : decode cX7_init 30 = .ok (.dup, 1) := by decide +kernel
theorem dX7_init_31 : decode cX7_init 31 = .ok (.invokespecial 25, 3) := by decide +kernel
theorem dX7_init_34 : decode cX7_init 34 = .ok (.putfield 26, 3) := by decide +kernel
theorem dX7_init_37 : decode cX7_init 37 = .ok (.aload_n 0, 1) := by decide +kernel
theorem dX7_init_38 : decode cX7_init 38 = .ok (.new 30, 3) := by decide +kernel
theorem dX7_init_41 : decode cX7_init 41 = .ok (.dup, 1) := by decide +kernel
theorem dX7_init_42 : decode cX7_init 42 = .ok (.invokespecial 32, 3) := by decide +kernel
theorem dX7_init_45 : decode cX7_init 45 = .ok (.putfield 33, 3) := by decide +kernel
theorem dX7_init_48 : decode cX7_init 48 = .ok (.return_, 1) := by decide +kernel
set_option maxRecDepth 20000 in
theorem ggX7_add_X2_keep : GoodIn wsX7_add wsX2_keep := goodIn_r _ [7, 8, 9, 10, 6, 11, 12, 13, 14, 15, 16, 17, 18, 19, 20, 21, 22, 23, 24, 25, 26, 27, 28, 29, 30, 31, 32, 33, 34, 35, 36, 37, 38, 39, 40, 41, 42, 43, 44, 45, 46, 47, 48, 49, 50, 51, 52, 53, 54, 55, 56, 103, 104, 105, 106, 107, 108, 109, 110, 111, 112, 113, 114] (by decide +kernel) (by decide +kernel)
set_option maxRecDepth 20000 in
theorem gX7_add_X2_keep : GoodIn wsX7_add (wsV RX7 37 RX2 yX2_keep wsX2_keep) := goodIn_app (goodIn_of _ (by decide +kernel)) ggX7_add_X2_keep
set_option maxRecDepth 20000 in
theorem ggX7_add_X5_tryAdd : GoodIn wsX7_add wsX5_tryAdd := goodIn_r _ [60, 24, 61, 62, 63, 22, 64, 65, 66, 67, 68, 69, 70, 71, 72, 73, 74, 75, 31, 76, 34, 77, 78, 79, 80, 81, 82, 83, 84, 42, 106, 107, 108, 109, 110, 111, 112] (by decide +kernel) (by decide +kernel)
set_option maxRecDepth 20000 in
theorem gX7_add_X5_tryAdd : GoodIn wsX7_add (wsV RX7 41 RX5 yX5_tryAdd wsX5_tryAdd) := goodIn_app (goodIn_of _ (by decide +kernel)) ggX7_add_X5_tryAdd
set_option maxRecDepth 20000 in
theorem ggX7_add_X7_confirmed : GoodIn wsX7_add wsX7_confirmed := goodIn_ca (goodIn_ca (goodIn_ca (goodIn_r _ [88, 89, 90, 91, 92, 93, 94, 1, 95, 96, 97, 6, 98, 14, 13, 99, 100, 101, 102, 103, 104, 105] (by decide +kernel) (by decide +kernel)) (goodIn_sub (fun _ h => List.mem_cons_of_mem _ (List.mem_append_left _ (List.mem_append_left _ (List.mem_append_right _ h)))) (by decide +kernel))) (goodIn_sub (fun _ h => List.mem_cons_of_mem _ (List.mem_append_left _ (List.mem_append_right _ h))) (by decide +kernel))) (goodIn_sub (fun _ h => List.mem_cons_of_mem _ (List.mem_append_right _ h)) (by decide +kernel))
set_option maxRecDepth 20000 in
theorem gX7_add_X7_confirmed : GoodIn wsX7_add (wsV RX7 45 RX7 yX7_confirmed wsX7_confirmed) := goodIn_app (goodIn_of _ (by decide +kernel)) ggX7_add_X7_confirmed
theorem dX7_add_0 : decode cX7_add 0 = .ok (.aload_n 0, 1) := by decide +kernel
theorem dX7_add_1 : decode cX7_add 1 = .ok (.getfield 19, 3) := by decide +kernel
theorem dX7_add_4 : decode cX7_add 4 = .ok (.aload_n 0, 1) := by decide +kernel
theorem dX7_add_5 : decode cX7_add 5 = .ok (.getfield 10, 3) := by decide +kernel
theorem dX7_add_8 : decode cX7_add 8 = .ok (.invokevirtual 37, 3) := by decide +kernel
theorem dX7_add_11 : decode cX7_add 11 = .ok (.aload_n 0, 1) := by decide +kernel
theorem dX7_add_12 : decode cX7_add 12 = .ok (.aload_n 0, 1) := by decide +kernel
theorem dX7_add_13 : decode cX7_add 13 = .ok (.getfield 10, 3) := by decide +kernel
theorem dX7_add_16 : decode cX7_add 16 = .ok (.iload_n 1, 1) := by decide +kernel
theorem dX7_add_17 : decode cX7_add 17 = .ok (.iload_n 2, 1) := by decide +kernel
theorem dX7_add_18 : decode cX7_add 18 = .ok (.iload_n 3, 1) := by decide +kernel
theorem dX7_add_19 : decode cX7_add 19 = .ok (.iload 4, 2) := by decide +kernel
theorem dX7_add_21 : decode cX7_add 21 = .ok (.invokevirtual 41, 3) := by decide +kernel
theorem dX7_add_24 : decode cX7_add 24 = .ok (.invokevirtual 45, 3) := by decide +kernel
theorem dX7_add_27 : decode cX7_add 27 = .ok (.ireturn, 1) := by decide +kernel
set_option maxRecDepth 20000 in
theorem ggX7_addThrough_X2_keep : GoodIn wsX7_addThrough wsX2_keep := goodIn_r _ [7, 8, 9, 10, 6, 11, 12, 13, 14, 15, 16, 17, 18, 19, 20, 21, 22, 23, 24, 25, 26, 27, 28, 29, 30, 31, 32, 33, 34, 35, 36, 37, 38, 39, 40, 41, 42, 43, 44, 45, 46, 47, 48, 49, 50, 51, 52, 53, 54, 55, 56, 102, 103, 104, 105, 106, 107, 108, 109, 110, 111, 112, 113] (by decide +kernel) (by decide +kernel)
set_option maxRecDepth 20000 in
theorem gX7_addThrough_X2_keep : GoodIn wsX7_addThrough (wsV RX7 37 RX2 yX2_keep wsX2_keep) := goodIn_app (goodIn_of _ (by decide +kernel)) ggX7_addThrough_X2_keep
set_option maxRecDepth 20000 in
theorem ggX7_addThrough_X5_tryAddThrough : GoodIn wsX7_addThrough wsX5_tryAddThrough := goodIn_r _ [60, 24, 61, 62, 63, 64, 65, 22, 66, 67, 68, 69, 70, 71, 72, 73, 74, 31, 75, 34, 76, 77, 78, 79, 80, 81, 82, 83, 42, 105, 106, 107, 108, 109, 110, 111] (by decide +kernel) (by decide +kernel)
set_option maxRecDepth 20000 in
theorem gX7_addThrough_X5_tryAddThrough : GoodIn wsX7_addThrough (wsV RX7 49 RX5 yX5_tryAddThrough wsX5_tryAddThrough) := goodIn_app (goodIn_of _ (by decide +kernel)) ggX7_addThrough_X5_tryAddThrough
set_option maxRecDepth 20000 in
theorem ggX7_addThrough_X7_confirmed : GoodIn wsX7_addThrough wsX7_confirmed := goodIn_ca (goodIn_ca (goodIn_ca (goodIn_r _ [87, 88, 89, 90, 91, 92, 93, 1, 94, 95, 96, 6, 97, 14, 13, 98, 99, 100, 101, 102, 103, 104] (by decide +kernel) (by decide +kernel)) (goodIn_sub (fun _ h => List.mem_cons_of_mem _ (List.mem_append_left _ (List.mem_append_left _ (List.mem_append_right _ h)))) (by decide +kernel))) (goodIn_sub (fun _ h => List.mem_cons_of_mem _ (List.mem_append_left _ (List.mem_append_right _ h))) (by decide +kernel))) (goodIn_sub (fun _ h => List.mem_cons_of_mem _ (List.mem_append_right _ h)) (by decide +kernel))
set_option maxRecDepth 20000 in
theorem gX7_addThrough_X7_confirmed : GoodIn wsX7_addThrough (wsV RX7 45 RX7 yX7_confirmed wsX7_confirmed) := goodIn_app (goodIn_of _ (by decide +kernel)) ggX7_addThrough_X7_confirmed
theorem dX7_addThrough_0 : decode cX7_addThrough 0 = .ok (.aload_n 0, 1) := by decide +kernel
theorem dX7_addThrough_1 : decode cX7_addThrough 1 = .ok (.getfield 19, 3) := by decide +kernel
theorem dX7_addThrough_4 : decode cX7_addThrough 4 = .ok (.aload_n 0, 1) := by decide +kernel
theorem dX7_addThrough_5 : decode cX7_addThrough 5 = .ok (.getfield 10, 3) := by decide +kernel
theorem dX7_addThrough_8 : decode cX7_addThrough 8 = .ok (.invokevirtual 37, 3) := by decide +kernel
theorem dX7_addThrough_11 : decode cX7_addThrough 11 = .ok (.aload_n 0, 1) := by decide +kernel
theorem dX7_addThrough_12 : decode cX7_addThrough 12 = .ok (.aload_n 0, 1) := by decide +kernel
theorem dX7_addThrough_13 : decode cX7_addThrough 13 = .ok (.getfield 10, 3) := by decide +kernel
theorem dX7_addThrough_16 : decode cX7_addThrough 16 = .ok (.iload_n 1, 1) := by decide +kernel
theorem dX7_addThrough_17 : decode cX7_addThrough 17 = .ok (.iload_n 2, 1) := by decide +kernel
theorem dX7_addThrough_18 : decode cX7_addThrough 18 = .ok (.iload_n 3, 1) := by decide +kernel
theorem dX7_addThrough_19 : decode cX7_addThrough 19 = .ok (.iload 4, 2) := by decide +kernel
theorem dX7_addThrough_21 : decode cX7_addThrough 21 = .ok (.iload 5, 2) := by decide +kernel
theorem dX7_addThrough_23 : decode cX7_addThrough 23 = .ok (.iload 6, 2) := by decide +kernel
theorem dX7_addThrough_25 : decode cX7_addThrough 25 = .ok (.invokevirtual 49, 3) := by decide +kernel
theorem dX7_addThrough_28 : decode cX7_addThrough 28 = .ok (.invokevirtual 45, 3) := by decide +kernel
theorem dX7_addThrough_31 : decode cX7_addThrough 31 = .ok (.ireturn, 1) := by decide +kernel
set_option maxRecDepth 20000 in
theorem ggX7_end_X2_keep : GoodIn wsX7_end wsX2_keep := goodIn_r _ [7, 8, 9, 10, 6, 11, 12, 13, 14, 15, 16, 17, 18, 19, 20, 21, 22, 23, 24, 25, 26, 27, 28, 29, 30, 31, 32, 33, 34, 35, 36, 37, 38, 39, 40, 41, 42, 43, 44, 45, 46, 47, 48, 49, 50, 51, 52, 53, 54, 55, 56, 98, 99, 100, 101, 102, 103, 104, 105, 106, 107, 108, 109] (by decide +kernel) (by decide +kernel)
set_option maxRecDepth 20000 in
theorem gX7_end_X2_keep : GoodIn wsX7_end (wsV RX7 37 RX2 yX2_keep wsX2_keep) := goodIn_app (goodIn_of _ (by decide +kernel)) ggX7_end_X2_keep
set_option maxRecDepth 20000 in
theorem ggX7_end_X5_tryEnd : GoodIn wsX7_end wsX5_tryEnd := goodIn_r _ [60, 24, 61, 62, 63, 64, 31, 65, 34, 66, 67, 68, 69, 70, 71, 72, 73, 42, 74, 75, 76, 77, 78, 101, 102, 103, 104, 105, 106, 107] (by decide +kernel) (by decide +kernel)
set_option maxRecDepth 20000 in
theorem gX7_end_X5_tryEnd : GoodIn wsX7_end (wsV RX7 53 RX5 yX5_tryEnd wsX5_tryEnd) := goodIn_app (goodIn_of _ (by decide +kernel)) ggX7_end_X5_tryEnd
set_option maxRecDepth 20000 in
theorem ggX7_end_X7_confirmed : GoodIn wsX7_end wsX7_confirmed := goodIn_ca (goodIn_ca (goodIn_ca (goodIn_r _ [83, 84, 85, 86, 87, 88, 89, 1, 90, 91, 92, 6, 93, 14, 13, 94, 95, 96, 97, 98, 99, 100] (by decide +kernel) (by decide +kernel)) (goodIn_sub (fun _ h => List.mem_cons_of_mem _ (List.mem_append_left _ (List.mem_append_left _ (List.mem_append_right _ h)))) (by decide +kernel))) (goodIn_sub (fun _ h => List.mem_cons_of_mem _ (List.mem_append_left _ (List.mem_append_right _ h))) (by decide +kernel))) (goodIn_sub (fun _ h => List.mem_cons_of_mem _ (List.mem_append_right _ h)) (by decide +kernel))
set_option maxRecDepth 20000 in
theorem gX7_end_X7_confirmed : GoodIn wsX7_end (wsV RX7 45 RX7 yX7_confirmed wsX7_confirmed) := goodIn_app (goodIn_of _ (by decide +kernel)) ggX7_end_X7_confirmed
theorem dX7_end_0 : decode cX7_end 0 = .ok (.aload_n 0, 1) := by decide +kernel
theorem dX7_end_1 : decode cX7_end 1 = .ok (.getfield 19, 3) := by decide +kernel
theorem dX7_end_4 : decode cX7_end 4 = .ok (.aload_n 0, 1) := by decide +kernel
theorem dX7_end_5 : decode cX7_end 5 = .ok (.getfield 10, 3) := by decide +kernel
theorem dX7_end_8 : decode cX7_end 8 = .ok (.invokevirtual 37, 3) := by decide +kernel
theorem dX7_end_11 : decode cX7_end 11 = .ok (.aload_n 0, 1) := by decide +kernel
theorem dX7_end_12 : decode cX7_end 12 = .ok (.aload_n 0, 1) := by decide +kernel
theorem dX7_end_13 : decode cX7_end 13 = .ok (.getfield 10, 3) := by decide +kernel
theorem dX7_end_16 : decode cX7_end 16 = .ok (.iload_n 1, 1) := by decide +kernel
theorem dX7_end_17 : decode cX7_end 17 = .ok (.invokevirtual 53, 3) := by decide +kernel
theorem dX7_end_20 : decode cX7_end 20 = .ok (.invokevirtual 45, 3) := by decide +kernel
theorem dX7_end_23 : decode cX7_end 23 = .ok (.ireturn, 1) := by decide +kernel
set_option maxRecDepth 20000 in
theorem ggX7_lift_X2_keep : GoodIn wsX7_lift wsX2_keep := goodIn_r _ [7, 8, 9, 10, 6, 11, 12, 13, 14, 15, 16, 17, 18, 19, 20, 21, 22, 23, 24, 25, 26, 27, 28, 29, 30, 31, 32, 33, 34, 35, 36, 37, 38, 39, 40, 41, 42, 43, 44, 45, 46, 47, 48, 49, 50, 51, 52, 53, 54, 55, 56, 114, 115, 116, 117, 118, 119, 120, 121, 122, 123, 124, 125] (by decide +kernel) (by decide +kernel)
set_option maxRecDepth 20000 in
theorem gX7_lift_X2_keep : GoodIn wsX7_lift (wsV RX7 37 RX2 yX2_keep wsX2_keep) := goodIn_app (goodIn_of _ (by decide +kernel)) ggX7_lift_X2_keep
set_option maxRecDepth 20000 in
theorem ggX7_lift_X5_tryLift : GoodIn wsX7_lift wsX5_tryLift := goodIn_r _ [60, 24, 61, 62, 63, 64, 31, 65, 34, 66, 67, 22, 68, 69, 70, 71, 72, 73, 74, 75, 76, 77, 42, 78, 79, 80, 81, 82, 83, 84, 85, 86, 87, 88, 89, 90, 91, 92, 93, 94, 95, 117, 118, 119, 120, 121, 122, 123] (by decide +kernel) (by decide +kernel)
set_option maxRecDepth 20000 in
theorem gX7_lift_X5_tryLift : GoodIn wsX7_lift (wsV RX7 56 RX5 yX5_tryLift wsX5_tryLift) := goodIn_app (goodIn_of _ (by decide +kernel)) ggX7_lift_X5_tryLift
set_option maxRecDepth 20000 in
theorem ggX7_lift_X7_confirmed : GoodIn wsX7_lift wsX7_confirmed := goodIn_ca (goodIn_ca (goodIn_ca (goodIn_r _ [99, 100, 101, 102, 103, 104, 105, 1, 106, 107, 108, 6, 109, 14, 13, 110, 111, 112, 113, 114, 115, 116] (by decide +kernel) (by decide +kernel)) (goodIn_sub (fun _ h => List.mem_cons_of_mem _ (List.mem_append_left _ (List.mem_append_left _ (List.mem_append_right _ h)))) (by decide +kernel))) (goodIn_sub (fun _ h => List.mem_cons_of_mem _ (List.mem_append_left _ (List.mem_append_right _ h))) (by decide +kernel))) (goodIn_sub (fun _ h => List.mem_cons_of_mem _ (List.mem_append_right _ h)) (by decide +kernel))
set_option maxRecDepth 20000 in
theorem gX7_lift_X7_confirmed : GoodIn wsX7_lift (wsV RX7 45 RX7 yX7_confirmed wsX7_confirmed) := goodIn_app (goodIn_of _ (by decide +kernel)) ggX7_lift_X7_confirmed
theorem dX7_lift_0 : decode cX7_lift 0 = .ok (.aload_n 0, 1) := by decide +kernel
theorem dX7_lift_1 : decode cX7_lift 1 = .ok (.getfield 19, 3) := by decide +kernel
theorem dX7_lift_4 : decode cX7_lift 4 = .ok (.aload_n 0, 1) := by decide +kernel
theorem dX7_lift_5 : decode cX7_lift 5 = .ok (.getfield 10, 3) := by decide +kernel
theorem dX7_lift_8 : decode cX7_lift 8 = .ok (.invokevirtual 37, 3) := by decide +kernel
theorem dX7_lift_11 : decode cX7_lift 11 = .ok (.aload_n 0, 1) := by decide +kernel
theorem dX7_lift_12 : decode cX7_lift 12 = .ok (.aload_n 0, 1) := by decide +kernel
theorem dX7_lift_13 : decode cX7_lift 13 = .ok (.getfield 10, 3) := by decide +kernel
theorem dX7_lift_16 : decode cX7_lift 16 = .ok (.iload_n 1, 1) := by decide +kernel
theorem dX7_lift_17 : decode cX7_lift 17 = .ok (.iload_n 2, 1) := by decide +kernel
theorem dX7_lift_18 : decode cX7_lift 18 = .ok (.invokevirtual 56, 3) := by decide +kernel
theorem dX7_lift_21 : decode cX7_lift 21 = .ok (.invokevirtual 45, 3) := by decide +kernel
theorem dX7_lift_24 : decode cX7_lift 24 = .ok (.ireturn, 1) := by decide +kernel
set_option maxRecDepth 20000 in
theorem ggX7_pass_X2_keep : GoodIn wsX7_pass wsX2_keep := goodIn_r _ [7, 8, 9, 10, 6, 11, 12, 13, 14, 15, 16, 17, 18, 19, 20, 21, 22, 23, 24, 25, 26, 27, 28, 29, 30, 31, 32, 33, 34, 35, 36, 37, 38, 39, 40, 41, 42, 43, 44, 45, 46, 47, 48, 49, 50, 51, 52, 53, 54, 55, 56, 83, 84, 85, 86, 87, 88, 89, 90, 91, 92, 93, 94] (by decide +kernel) (by decide +kernel)
set_option maxRecDepth 20000 in
theorem gX7_pass_X2_keep : GoodIn wsX7_pass (wsV RX7 37 RX2 yX2_keep wsX2_keep) := goodIn_app (goodIn_of _ (by decide +kernel)) ggX7_pass_X2_keep
set_option maxRecDepth 20000 in
theorem ggX7_pass_X5_tryPass : GoodIn wsX7_pass wsX5_tryPass := goodIn_r _ [60, 24, 61, 62, 63, 64, 86, 87, 88, 89, 90, 91, 92] (by decide +kernel) (by decide +kernel)
set_option maxRecDepth 20000 in
theorem gX7_pass_X5_tryPass : GoodIn wsX7_pass (wsV RX7 60 RX5 yX5_tryPass wsX5_tryPass) := goodIn_app (goodIn_of _ (by decide +kernel)) ggX7_pass_X5_tryPass
set_option maxRecDepth 20000 in
theorem ggX7_pass_X7_confirmed : GoodIn wsX7_pass wsX7_confirmed := goodIn_ca (goodIn_ca (goodIn_ca (goodIn_r _ [68, 69, 70, 71, 72, 73, 74, 1, 75, 76, 77, 6, 78, 14, 13, 79, 80, 81, 82, 83, 84, 85] (by decide +kernel) (by decide +kernel)) (goodIn_sub (fun _ h => List.mem_cons_of_mem _ (List.mem_append_left _ (List.mem_append_left _ (List.mem_append_right _ h)))) (by decide +kernel))) (goodIn_sub (fun _ h => List.mem_cons_of_mem _ (List.mem_append_left _ (List.mem_append_right _ h))) (by decide +kernel))) (goodIn_sub (fun _ h => List.mem_cons_of_mem _ (List.mem_append_right _ h)) (by decide +kernel))
set_option maxRecDepth 20000 in
theorem gX7_pass_X7_confirmed : GoodIn wsX7_pass (wsV RX7 45 RX7 yX7_confirmed wsX7_confirmed) := goodIn_app (goodIn_of _ (by decide +kernel)) ggX7_pass_X7_confirmed
theorem dX7_pass_0 : decode cX7_pass 0 = .ok (.aload_n 0, 1) := by decide +kernel
theorem dX7_pass_1 : decode cX7_pass 1 = .ok (.getfield 19, 3) := by decide +kernel
theorem dX7_pass_4 : decode cX7_pass 4 = .ok (.aload_n 0, 1) := by decide +kernel
theorem dX7_pass_5 : decode cX7_pass 5 = .ok (.getfield 10, 3) := by decide +kernel
theorem dX7_pass_8 : decode cX7_pass 8 = .ok (.invokevirtual 37, 3) := by decide +kernel
theorem dX7_pass_11 : decode cX7_pass 11 = .ok (.aload_n 0, 1) := by decide +kernel
theorem dX7_pass_12 : decode cX7_pass 12 = .ok (.aload_n 0, 1) := by decide +kernel
theorem dX7_pass_13 : decode cX7_pass 13 = .ok (.getfield 10, 3) := by decide +kernel
theorem dX7_pass_16 : decode cX7_pass 16 = .ok (.iload_n 1, 1) := by decide +kernel
theorem dX7_pass_17 : decode cX7_pass 17 = .ok (.invokevirtual 60, 3) := by decide +kernel
theorem dX7_pass_20 : decode cX7_pass 20 = .ok (.invokevirtual 45, 3) := by decide +kernel
theorem dX7_pass_23 : decode cX7_pass 23 = .ok (.ireturn, 1) := by decide +kernel
theorem dX7_now_0 : decode cX7_now 0 = .ok (.aload_n 0, 1) := by decide +kernel
theorem dX7_now_1 : decode cX7_now 1 = .ok (.getfield 10, 3) := by decide +kernel
theorem dX7_now_4 : decode cX7_now 4 = .ok (.getfield 63, 3) := by decide +kernel
theorem dX7_now_7 : decode cX7_now 7 = .ok (.getfield 67, 3) := by decide +kernel
theorem dX7_now_10 : decode cX7_now 10 = .ok (.ireturn, 1) := by decide +kernel
theorem dX7_segments_0 : decode cX7_segments 0 = .ok (.aload_n 0, 1) := by decide +kernel
theorem dX7_segments_1 : decode cX7_segments 1 = .ok (.getfield 10, 3) := by decide +kernel
theorem dX7_segments_4 : decode cX7_segments 4 = .ok (.getfield 63, 3) := by decide +kernel
theorem dX7_segments_7 : decode cX7_segments 7 = .ok (.getfield 73, 3) := by decide +kernel
theorem dX7_segments_10 : decode cX7_segments 10 = .ok (.ireturn, 1) := by decide +kernel
set_option maxRecDepth 20000 in
theorem ggX7_segment_X7_requireSegment : GoodIn wsX7_segment wsX7_requireSegment := goodIn_ca (goodIn_r _ [7, 8, 9, 1, 2, 10, 11, 12, 13, 14, 15, 29, 30, 31, 32, 33, 34, 35, 36, 37, 38, 39] (by decide +kernel) (by decide +kernel)) (goodIn_sub (fun _ h => List.mem_cons_of_mem _ (List.mem_append_left _ (List.mem_append_right _ h))) (by decide +kernel))
set_option maxRecDepth 20000 in
theorem gX7_segment_X7_requireSegment : GoodIn wsX7_segment (wsV RX7 76 RX7 yX7_requireSegment wsX7_requireSegment) := goodIn_app (goodIn_of _ (by decide +kernel)) ggX7_segment_X7_requireSegment
set_option maxRecDepth 20000 in
theorem ggX7_segment_X7_requireBetween : GoodIn wsX7_segment wsX7_requireBetween := goodIn_ca (goodIn_r _ [18, 19, 20, 21, 22, 6, 23] (by decide +kernel) (by decide +kernel)) (goodIn_sub (fun _ h => List.mem_cons_of_mem _ (List.mem_append_right _ h)) (by decide +kernel))
set_option maxRecDepth 20000 in
theorem gX7_segment_X7_requireBetween : GoodIn wsX7_segment (va_wsS RX7 80 yX7_requireBetween wsX7_requireBetween) := goodIn_app (goodIn_of _ (by decide +kernel)) ggX7_segment_X7_requireBetween
set_option maxRecDepth 20000 in
theorem ggX7_segment_X6_value : GoodIn wsX7_segment wsX6_value := goodIn_r _ [27, 28, 37, 38, 39] (by decide +kernel) (by decide +kernel)
set_option maxRecDepth 20000 in
theorem gX7_segment_X6_value : GoodIn wsX7_segment (wsV RX7 84 RX6 yX6_value wsX6_value) := goodIn_app (goodIn_of _ (by decide +kernel)) ggX7_segment_X6_value
theorem dX7_segment_0 : decode cX7_segment 0 = .ok (.aload_n 0, 1) := by decide +kernel
theorem dX7_segment_1 : decode cX7_segment 1 = .ok (.iload_n 1, 1) := by decide +kernel
theorem dX7_segment_2 : decode cX7_segment 2 = .ok (.invokevirtual 76, 3) := by decide +kernel
theorem dX7_segment_5 : decode cX7_segment 5 = .ok (.iload_n 2, 1) := by decide +kernel
theorem dX7_segment_6 : decode cX7_segment 6 = .ok (.iconst 0, 1) := by decide +kernel
theorem dX7_segment_7 : decode cX7_segment 7 = .ok (.iconst 5, 1) := by decide +kernel
theorem dX7_segment_8 : decode cX7_segment 8 = .ok (.invokestatic 80, 3) := by decide +kernel
theorem dX7_segment_11 : decode cX7_segment 11 = .ok (.aload_n 0, 1) := by decide +kernel
theorem dX7_segment_12 : decode cX7_segment 12 = .ok (.getfield 10, 3) := by decide +kernel
theorem dX7_segment_15 : decode cX7_segment 15 = .ok (.getfield 63, 3) := by decide +kernel
theorem dX7_segment_18 : decode cX7_segment 18 = .ok (.iload_n 1, 1) := by decide +kernel
theorem dX7_segment_19 : decode cX7_segment 19 = .ok (.iload_n 2, 1) := by decide +kernel
theorem dX7_segment_20 : decode cX7_segment 20 = .ok (.invokevirtual 84, 3) := by decide +kernel
theorem dX7_segment_23 : decode cX7_segment 23 = .ok (.ireturn, 1) := by decide +kernel
set_option maxRecDepth 20000 in
theorem ggX7_minimum_X7_requirePlace : GoodIn wsX7_minimum wsX7_requirePlace := goodIn_ca (goodIn_r _ [7, 8, 9, 6, 10, 11, 12, 13, 14, 15] (by decide +kernel) (by decide +kernel)) (goodIn_sub (fun _ h => List.mem_cons_of_mem _ (List.mem_append_right _ h)) (by decide +kernel))
set_option maxRecDepth 20000 in
theorem gX7_minimum_X7_requirePlace : GoodIn wsX7_minimum (va_wsS RX7 87 yX7_requirePlace wsX7_requirePlace) := goodIn_app (goodIn_of _ (by decide +kernel)) ggX7_minimum_X7_requirePlace
set_option maxRecDepth 20000 in
theorem ggX7_minimum_X6_firstAt : GoodIn wsX7_minimum wsX6_firstAt := goodIn_r _ [20, 21, 22, 23, 24, 19, 25, 26, 27, 28, 29, 30, 31, 32, 33, 34, 35, 36, 37, 38, 39, 40, 41, 42, 52, 53, 54] (by decide +kernel) (by decide +kernel)
set_option maxRecDepth 20000 in
theorem gX7_minimum_X6_firstAt : GoodIn wsX7_minimum (wsV RX7 91 RX6 yX6_firstAt wsX6_firstAt) := goodIn_app (goodIn_of _ (by decide +kernel)) ggX7_minimum_X6_firstAt
set_option maxRecDepth 20000 in
theorem ggX7_minimum_X6_height : GoodIn wsX7_minimum wsX6_height := goodIn_r _ [42, 30, 31, 32, 19, 33, 34, 52, 53, 54] (by decide +kernel) (by decide +kernel)
set_option maxRecDepth 20000 in
theorem gX7_minimum_X6_height : GoodIn wsX7_minimum (wsV RX7 98 RX6 yX6_height wsX6_height) := goodIn_app (goodIn_of _ (by decide +kernel)) ggX7_minimum_X6_height
theorem dX7_minimum_0 : decode cX7_minimum 0 = .ok (.iload_n 1, 1) := by decide +kernel
theorem dX7_minimum_1 : decode cX7_minimum 1 = .ok (.iload_n 2, 1) := by decide +kernel
theorem dX7_minimum_2 : decode cX7_minimum 2 = .ok (.invokestatic 87, 3) := by decide +kernel
theorem dX7_minimum_5 : decode cX7_minimum 5 = .ok (.aload_n 0, 1) := by decide +kernel
theorem dX7_minimum_6 : decode cX7_minimum 6 = .ok (.getfield 10, 3) := by decide +kernel
theorem dX7_minimum_9 : decode cX7_minimum 9 = .ok (.getfield 63, 3) := by decide +kernel
theorem dX7_minimum_12 : decode cX7_minimum 12 = .ok (.astore_n 3, 1) := by decide +kernel
theorem dX7_minimum_13 : decode cX7_minimum 13 = .ok (.aload_n 3, 1) := by decide +kernel
theorem dX7_minimum_14 : decode cX7_minimum 14 = .ok (.iload_n 1, 1) := by decide +kernel
theorem dX7_minimum_15 : decode cX7_minimum 15 = .ok (.iload_n 2, 1) := by decide +kernel
theorem dX7_minimum_16 : decode cX7_minimum 16 = .ok (.invokevirtual 91, 3) := by decide +kernel
theorem dX7_minimum_19 : decode cX7_minimum 19 = .ok (.istore 4, 2) := by decide +kernel
theorem dX7_minimum_21 : decode cX7_minimum 21 = .ok (.iload 4, 2) := by decide +kernel
theorem dX7_minimum_23 : decode cX7_minimum 23 = .ok (.iconst (-1), 1) := by decide +kernel
theorem dX7_minimum_24 : decode cX7_minimum 24 = .ok (.if_icmp .ne 9, 3) := by decide +kernel
theorem dX7_minimum_27 : decode cX7_minimum 27 = .ok (.ldc2_w 96, 3) := by decide +kernel
theorem dX7_minimum_30 : decode cX7_minimum 30 = .ok (.goto 11, 3) := by decide +kernel
theorem dX7_minimum_33 : decode cX7_minimum 33 = .ok (.aload_n 3, 1) := by decide +kernel
theorem dX7_minimum_34 : decode cX7_minimum 34 = .ok (.iload 4, 2) := by decide +kernel
theorem dX7_minimum_36 : decode cX7_minimum 36 = .ok (.iload_n 1, 1) := by decide +kernel
theorem dX7_minimum_37 : decode cX7_minimum 37 = .ok (.invokevirtual 98, 3) := by decide +kernel
theorem dX7_minimum_40 : decode cX7_minimum 40 = .ok (.i2l, 1) := by decide +kernel
theorem dX7_minimum_41 : decode cX7_minimum 41 = .ok (.lreturn, 1) := by decide +kernel
set_option maxRecDepth 20000 in
theorem ggX7_ranked_X7_requirePlace : GoodIn wsX7_ranked wsX7_requirePlace := goodIn_ca (goodIn_r _ [8, 9, 10, 7, 11, 1, 2, 12, 13, 14] (by decide +kernel) (by decide +kernel)) (goodIn_sub (fun _ h => List.mem_cons_of_mem _ (List.mem_append_right _ h)) (by decide +kernel))
set_option maxRecDepth 20000 in
theorem gX7_ranked_X7_requirePlace : GoodIn wsX7_ranked (va_wsS RX7 87 yX7_requirePlace wsX7_requirePlace) := goodIn_app (goodIn_of _ (by decide +kernel)) ggX7_ranked_X7_requirePlace
set_option maxRecDepth 20000 in
theorem ggX7_ranked_X6_atPlace : GoodIn wsX7_ranked wsX6_atPlace := goodIn_r _ [19, 20, 21, 22, 23, 18, 24, 25, 26, 27, 28, 29, 30, 31, 32, 33, 34, 35, 36, 37, 38, 39, 40, 41, 42, 43, 44, 45, 54, 55, 56] (by decide +kernel) (by decide +kernel)
set_option maxRecDepth 20000 in
theorem gX7_ranked_X6_atPlace : GoodIn wsX7_ranked (wsV RX7 108 RX6 yX6_atPlace wsX6_atPlace) := goodIn_app (goodIn_of _ (by decide +kernel)) ggX7_ranked_X6_atPlace
theorem dX7_ranked_0 : decode cX7_ranked 0 = .ok (.iload_n 1, 1) := by decide +kernel
theorem dX7_ranked_1 : decode cX7_ranked 1 = .ok (.iload_n 2, 1) := by decide +kernel
theorem dX7_ranked_2 : decode cX7_ranked 2 = .ok (.invokestatic 87, 3) := by decide +kernel
theorem dX7_ranked_5 : decode cX7_ranked 5 = .ok (.iload_n 3, 1) := by decide +kernel
theorem dX7_ranked_6 : decode cX7_ranked 6 = .ok (.ifCond .ge 13, 3) := by decide +kernel
theorem dX7_ranked_9 : decode cX7_ranked 9 = .ok (.new 101, 3) := by decide +kernel
theorem dX7_ranked_12 : decode cX7_ranked 12 = .ok (.dup, 1) := by decide +kernel
theorem dX7_ranked_13 : decode cX7_ranked 13 = .ok (.ldc 103, 2) := by decide +kernel
theorem dX7_ranked_15 : decode cX7_ranked 15 = .ok (.invokespecial 105, 3) := by decide +kernel
theorem dX7_ranked_18 : decode cX7_ranked 18 = .ok (.athrow, 1) := by decide +kernel
theorem dX7_ranked_19 : decode cX7_ranked 19 = .ok (.aload_n 0, 1) := by decide +kernel
theorem dX7_ranked_20 : decode cX7_ranked 20 = .ok (.getfield 10, 3) := by decide +kernel
theorem dX7_ranked_23 : decode cX7_ranked 23 = .ok (.getfield 63, 3) := by decide +kernel
theorem dX7_ranked_26 : decode cX7_ranked 26 = .ok (.iload_n 1, 1) := by decide +kernel
theorem dX7_ranked_27 : decode cX7_ranked 27 = .ok (.iload_n 2, 1) := by decide +kernel
theorem dX7_ranked_28 : decode cX7_ranked 28 = .ok (.iload_n 3, 1) := by decide +kernel
theorem dX7_ranked_29 : decode cX7_ranked 29 = .ok (.invokevirtual 108, 3) := by decide +kernel
theorem dX7_ranked_32 : decode cX7_ranked 32 = .ok (.ireturn, 1) := by decide +kernel
set_option maxRecDepth 20000 in
theorem ggX7_below_X7_requirePlace : GoodIn wsX7_below wsX7_requirePlace := goodIn_ca (goodIn_r _ [6, 7, 8, 5, 9, 10, 11, 12, 13, 14] (by decide +kernel) (by decide +kernel)) (goodIn_sub (fun _ h => List.mem_cons_of_mem _ (List.mem_append_right _ h)) (by decide +kernel))
set_option maxRecDepth 20000 in
theorem gX7_below_X7_requirePlace : GoodIn wsX7_below (va_wsS RX7 87 yX7_requirePlace wsX7_requirePlace) := goodIn_app (goodIn_of _ (by decide +kernel)) ggX7_below_X7_requirePlace
set_option maxRecDepth 20000 in
theorem ggX7_below_X6_countBelow : GoodIn wsX7_below wsX6_countBelow := goodIn_r _ [19, 20, 21, 22, 23, 18, 24, 25, 26, 27, 28, 29, 30, 31, 32, 33, 34, 35, 36, 37, 38, 39, 40, 41, 50, 51, 52] (by decide +kernel) (by decide +kernel)
set_option maxRecDepth 20000 in
theorem gX7_below_X6_countBelow : GoodIn wsX7_below (wsV RX7 112 RX6 yX6_countBelow wsX6_countBelow) := goodIn_app (goodIn_of _ (by decide +kernel)) ggX7_below_X6_countBelow
theorem dX7_below_0 : decode cX7_below 0 = .ok (.iload_n 1, 1) := by decide +kernel
theorem dX7_below_1 : decode cX7_below 1 = .ok (.iload_n 2, 1) := by decide +kernel
theorem dX7_below_2 : decode cX7_below 2 = .ok (.invokestatic 87, 3) := by decide +kernel
theorem dX7_below_5 : decode cX7_below 5 = .ok (.aload_n 0, 1) := by decide +kernel
theorem dX7_below_6 : decode cX7_below 6 = .ok (.getfield 10, 3) := by decide +kernel
theorem dX7_below_9 : decode cX7_below 9 = .ok (.getfield 63, 3) := by decide +kernel
theorem dX7_below_12 : decode cX7_below 12 = .ok (.iload_n 1, 1) := by decide +kernel
theorem dX7_below_13 : decode cX7_below 13 = .ok (.iload_n 2, 1) := by decide +kernel
theorem dX7_below_14 : decode cX7_below 14 = .ok (.lload_n 3, 1) := by decide +kernel
theorem dX7_below_15 : decode cX7_below 15 = .ok (.invokevirtual 112, 3) := by decide +kernel
theorem dX7_below_18 : decode cX7_below 18 = .ok (.ireturn, 1) := by decide +kernel
set_option maxRecDepth 20000 in
theorem ggX7_overtakes_X7_requireSegment : GoodIn wsX7_overtakes wsX7_requireSegment := goodIn_ca (goodIn_r _ [7, 8, 9, 1, 2, 10, 11, 12, 13, 14, 15, 32, 33, 34, 35, 36, 37, 38, 39, 40, 41, 42] (by decide +kernel) (by decide +kernel)) (goodIn_sub (fun _ h => List.mem_cons_of_mem _ (List.mem_append_right _ h)) (by decide +kernel))
set_option maxRecDepth 20000 in
theorem gX7_overtakes_X7_requireSegment : GoodIn wsX7_overtakes (wsV RX7 76 RX7 yX7_requireSegment wsX7_requireSegment) := goodIn_app (goodIn_of _ (by decide +kernel)) ggX7_overtakes_X7_requireSegment
set_option maxRecDepth 20000 in
theorem ggX7_overtakes_X6_crossing : GoodIn wsX7_overtakes wsX6_crossing := goodIn_r _ [19, 20, 21, 22, 23, 24, 25, 26, 27, 28, 29, 13, 30, 31, 40, 41, 42] (by decide +kernel) (by decide +kernel)
set_option maxRecDepth 20000 in
theorem gX7_overtakes_X6_crossing : GoodIn wsX7_overtakes (wsV RX7 116 RX6 yX6_crossing wsX6_crossing) := goodIn_app (goodIn_of _ (by decide +kernel)) ggX7_overtakes_X6_crossing
theorem dX7_overtakes_0 : decode cX7_overtakes 0 = .ok (.aload_n 0, 1) := by decide +kernel
theorem dX7_overtakes_1 : decode cX7_overtakes 1 = .ok (.iload_n 1, 1) := by decide +kernel
theorem dX7_overtakes_2 : decode cX7_overtakes 2 = .ok (.invokevirtual 76, 3) := by decide +kernel
theorem dX7_overtakes_5 : decode cX7_overtakes 5 = .ok (.aload_n 0, 1) := by decide +kernel
theorem dX7_overtakes_6 : decode cX7_overtakes 6 = .ok (.iload_n 2, 1) := by decide +kernel
theorem dX7_overtakes_7 : decode cX7_overtakes 7 = .ok (.invokevirtual 76, 3) := by decide +kernel
theorem dX7_overtakes_10 : decode cX7_overtakes 10 = .ok (.aload_n 0, 1) := by decide +kernel
theorem dX7_overtakes_11 : decode cX7_overtakes 11 = .ok (.getfield 10, 3) := by decide +kernel
theorem dX7_overtakes_14 : decode cX7_overtakes 14 = .ok (.getfield 63, 3) := by decide +kernel
theorem dX7_overtakes_17 : decode cX7_overtakes 17 = .ok (.iload_n 1, 1) := by decide +kernel
theorem dX7_overtakes_18 : decode cX7_overtakes 18 = .ok (.iload_n 2, 1) := by decide +kernel
theorem dX7_overtakes_19 : decode cX7_overtakes 19 = .ok (.iconst 0, 1) := by decide +kernel
theorem dX7_overtakes_20 : decode cX7_overtakes 20 = .ok (.iconst 0, 1) := by decide +kernel
theorem dX7_overtakes_21 : decode cX7_overtakes 21 = .ok (.invokevirtual 116, 3) := by decide +kernel
theorem dX7_overtakes_24 : decode cX7_overtakes 24 = .ok (.ireturn, 1) := by decide +kernel
set_option maxRecDepth 20000 in
theorem ggX7_pieces_X7_buildEnvelope : GoodIn wsX7_pieces wsX7_buildEnvelope := goodIn_ca (goodIn_r _ [7, 1, 8, 9, 10, 11, 6, 12, 13, 14, 15, 16, 17, 18, 19, 20, 21, 22, 23, 24, 25, 26, 27, 28, 29, 30, 31, 32, 33, 34, 35, 36, 37, 38, 39, 40, 41, 42, 43, 44, 45, 46, 47, 48, 49, 50, 51, 52, 53, 54, 55, 56, 57, 58, 59, 60, 61, 62, 63, 64, 65, 66, 67, 68, 69, 70, 71, 75, 76, 77, 78, 72, 73, 74, 79, 80, 81] (by decide +kernel) (by decide +kernel)) (goodIn_sub (fun _ h => List.mem_cons_of_mem _ (List.mem_append_right _ h)) (by decide +kernel))
set_option maxRecDepth 20000 in
theorem gX7_pieces_X7_buildEnvelope : GoodIn wsX7_pieces (wsV RX7 119 RX7 yX7_buildEnvelope wsX7_buildEnvelope) := goodIn_app (goodIn_of _ (by decide +kernel)) ggX7_pieces_X7_buildEnvelope
theorem dX7_pieces_0 : decode cX7_pieces 0 = .ok (.aload_n 0, 1) := by decide +kernel
theorem dX7_pieces_1 : decode cX7_pieces 1 = .ok (.iload_n 1, 1) := by decide +kernel
theorem dX7_pieces_2 : decode cX7_pieces 2 = .ok (.invokevirtual 119, 3) := by decide +kernel
theorem dX7_pieces_5 : decode cX7_pieces 5 = .ok (.aload_n 0, 1) := by decide +kernel
theorem dX7_pieces_6 : decode cX7_pieces 6 = .ok (.getfield 33, 3) := by decide +kernel
theorem dX7_pieces_9 : decode cX7_pieces 9 = .ok (.getfield 122, 3) := by decide +kernel
theorem dX7_pieces_12 : decode cX7_pieces 12 = .ok (.ireturn, 1) := by decide +kernel
set_option maxRecDepth 20000 in
theorem ggX7_piece_X7_requireBetween : GoodIn wsX7_piece wsX7_requireBetween := goodIn_ca (goodIn_r _ [8, 9, 10, 11, 12, 7, 13] (by decide +kernel) (by decide +kernel)) (goodIn_sub (fun _ h => List.mem_cons_of_mem _ (List.mem_append_right _ h)) (by decide +kernel))
set_option maxRecDepth 20000 in
theorem gX7_piece_X7_requireBetween : GoodIn wsX7_piece (va_wsS RX7 80 yX7_requireBetween wsX7_requireBetween) := goodIn_app (goodIn_of _ (by decide +kernel)) ggX7_piece_X7_requireBetween
set_option maxRecDepth 20000 in
theorem ggX7_piece_X7_buildEnvelope : GoodIn wsX7_piece wsX7_buildEnvelope := goodIn_ca (goodIn_r _ [17, 3, 18, 19, 5, 6, 7, 8, 9, 10, 11, 12, 13, 20, 21, 22, 23, 24, 25, 26, 27, 28, 29, 30, 31, 32, 33, 34, 35, 36, 37, 38, 39, 40, 41, 42, 43, 44, 45, 46, 47, 48, 49, 50, 51, 52, 53, 54, 55, 56, 57, 58, 59, 60, 61, 62, 63, 64, 65, 66, 67, 68, 69, 86, 87, 88, 89, 93, 94, 95, 96, 90, 91, 92, 97, 98, 99] (by decide +kernel) (by decide +kernel)) (goodIn_sub (fun _ h => List.mem_cons_of_mem _ (List.mem_append_right _ h)) (by decide +kernel))
set_option maxRecDepth 20000 in
theorem gX7_piece_X7_buildEnvelope : GoodIn wsX7_piece (wsV RX7 119 RX7 yX7_buildEnvelope wsX7_buildEnvelope) := goodIn_app (goodIn_of _ (by decide +kernel)) ggX7_piece_X7_buildEnvelope
set_option maxRecDepth 20000 in
theorem ggX7_piece_X1_value : GoodIn wsX7_piece wsX1_value := goodIn_r _ [73, 74, 75, 76, 23, 77, 78, 79, 80, 81, 27, 82, 83, 84, 85, 26, 90, 91, 92] (by decide +kernel) (by decide +kernel)
set_option maxRecDepth 20000 in
theorem gX7_piece_X1_value : GoodIn wsX7_piece (wsV RX7 128 RX1 yX1_value wsX1_value) := goodIn_app (goodIn_of _ (by decide +kernel)) ggX7_piece_X1_value
theorem dX7_piece_0 : decode cX7_piece 0 = .ok (.iload_n 3, 1) := by decide +kernel
theorem dX7_piece_1 : decode cX7_piece 1 = .ok (.iconst 0, 1) := by decide +kernel
theorem dX7_piece_2 : decode cX7_piece 2 = .ok (.iconst 2, 1) := by decide +kernel
theorem dX7_piece_3 : decode cX7_piece 3 = .ok (.invokestatic 80, 3) := by decide +kernel
theorem dX7_piece_6 : decode cX7_piece 6 = .ok (.aload_n 0, 1) := by decide +kernel
theorem dX7_piece_7 : decode cX7_piece 7 = .ok (.iload_n 1, 1) := by decide +kernel
theorem dX7_piece_8 : decode cX7_piece 8 = .ok (.invokevirtual 119, 3) := by decide +kernel
theorem dX7_piece_11 : decode cX7_piece 11 = .ok (.iload_n 2, 1) := by decide +kernel
theorem dX7_piece_12 : decode cX7_piece 12 = .ok (.ifCond .lt 14, 3) := by decide +kernel
theorem dX7_piece_15 : decode cX7_piece 15 = .ok (.iload_n 2, 1) := by decide +kernel
theorem dX7_piece_16 : decode cX7_piece 16 = .ok (.aload_n 0, 1) := by decide +kernel
theorem dX7_piece_17 : decode cX7_piece 17 = .ok (.getfield 33, 3) := by decide +kernel
theorem dX7_piece_20 : decode cX7_piece 20 = .ok (.getfield 122, 3) := by decide +kernel
theorem dX7_piece_23 : decode cX7_piece 23 = .ok (.if_icmp .lt 13, 3) := by decide +kernel
theorem dX7_piece_26 : decode cX7_piece 26 = .ok (.new 123, 3) := by decide +kernel
theorem dX7_piece_29 : decode cX7_piece 29 = .ok (.dup, 1) := by decide +kernel
theorem dX7_piece_30 : decode cX7_piece 30 = .ok (.ldc 125, 2) := by decide +kernel
theorem dX7_piece_32 : decode cX7_piece 32 = .ok (.invokespecial 127, 3) := by decide +kernel
theorem dX7_piece_35 : decode cX7_piece 35 = .ok (.athrow, 1) := by decide +kernel
theorem dX7_piece_36 : decode cX7_piece 36 = .ok (.aload_n 0, 1) := by decide +kernel
theorem dX7_piece_37 : decode cX7_piece 37 = .ok (.getfield 33, 3) := by decide +kernel
theorem dX7_piece_40 : decode cX7_piece 40 = .ok (.iload_n 2, 1) := by decide +kernel
theorem dX7_piece_41 : decode cX7_piece 41 = .ok (.iload_n 3, 1) := by decide +kernel
theorem dX7_piece_42 : decode cX7_piece 42 = .ok (.invokevirtual 128, 3) := by decide +kernel
theorem dX7_piece_45 : decode cX7_piece 45 = .ok (.ireturn, 1) := by decide +kernel
set_option maxRecDepth 20000 in
theorem ggX7_sum_X7_requireBetween : GoodIn wsX7_sum wsX7_requireBetween := goodIn_ca (goodIn_r _ [7, 8, 9, 10, 11, 6, 12] (by decide +kernel) (by decide +kernel)) (goodIn_sub (fun _ h => List.mem_cons_of_mem _ (List.mem_append_right _ h)) (by decide +kernel))
set_option maxRecDepth 20000 in
theorem gX7_sum_X7_requireBetween : GoodIn wsX7_sum (va_wsS RX7 80 yX7_requireBetween wsX7_requireBetween) := goodIn_app (goodIn_of _ (by decide +kernel)) ggX7_sum_X7_requireBetween
set_option maxRecDepth 20000 in
theorem ggX7_sum_X7_buildEnvelope : GoodIn wsX7_sum wsX7_buildEnvelope := goodIn_ca (goodIn_r _ [16, 1, 2, 3, 4, 5, 6, 7, 8, 9, 10, 11, 12, 17, 18, 19, 20, 21, 22, 23, 24, 25, 26, 27, 28, 29, 30, 31, 32, 33, 34, 35, 36, 37, 38, 39, 40, 41, 42, 43, 44, 45, 46, 47, 48, 49, 50, 51, 52, 53, 54, 55, 56, 57, 58, 59, 60, 61, 62, 63, 64, 65, 66, 87, 88, 89, 90, 91, 92, 93, 94, 95, 96, 97, 98, 99, 100] (by decide +kernel) (by decide +kernel)) (goodIn_sub (fun _ h => List.mem_cons_of_mem _ (List.mem_append_right _ h)) (by decide +kernel))
set_option maxRecDepth 20000 in
theorem gX7_sum_X7_buildEnvelope : GoodIn wsX7_sum (wsV RX7 119 RX7 yX7_buildEnvelope wsX7_buildEnvelope) := goodIn_app (goodIn_of _ (by decide +kernel)) ggX7_sum_X7_buildEnvelope
set_option maxRecDepth 20000 in
theorem ggX7_sum_X1_sumBetween : GoodIn wsX7_sum wsX1_sumBetween := goodIn_r _ [70, 22, 71, 61, 62, 63, 72, 65, 66, 73, 74, 75, 76, 20, 77, 78, 79, 80, 81, 24, 82, 83, 84, 85, 23, 86, 49, 50, 28, 51, 39, 40, 41, 42, 43, 95, 96, 97, 98, 99, 100] (by decide +kernel) (by decide +kernel)
set_option maxRecDepth 20000 in
theorem gX7_sum_X1_sumBetween : GoodIn wsX7_sum (wsV RX7 129 RX1 yX1_sumBetween wsX1_sumBetween) := goodIn_app (goodIn_of _ (by decide +kernel)) ggX7_sum_X1_sumBetween
theorem dX7_sum_0 : decode cX7_sum 0 = .ok (.iload_n 3, 1) := by decide +kernel
theorem dX7_sum_1 : decode cX7_sum 1 = .ok (.iconst 0, 1) := by decide +kernel
theorem dX7_sum_2 : decode cX7_sum 2 = .ok (.sipush 255, 3) := by decide +kernel
theorem dX7_sum_5 : decode cX7_sum 5 = .ok (.invokestatic 80, 3) := by decide +kernel
theorem dX7_sum_8 : decode cX7_sum 8 = .ok (.iload_n 2, 1) := by decide +kernel
theorem dX7_sum_9 : decode cX7_sum 9 = .ok (.iconst 0, 1) := by decide +kernel
theorem dX7_sum_10 : decode cX7_sum 10 = .ok (.iload_n 3, 1) := by decide +kernel
theorem dX7_sum_11 : decode cX7_sum 11 = .ok (.invokestatic 80, 3) := by decide +kernel
theorem dX7_sum_14 : decode cX7_sum 14 = .ok (.aload_n 0, 1) := by decide +kernel
theorem dX7_sum_15 : decode cX7_sum 15 = .ok (.iload_n 1, 1) := by decide +kernel
theorem dX7_sum_16 : decode cX7_sum 16 = .ok (.invokevirtual 119, 3) := by decide +kernel
theorem dX7_sum_19 : decode cX7_sum 19 = .ok (.aload_n 0, 1) := by decide +kernel
theorem dX7_sum_20 : decode cX7_sum 20 = .ok (.getfield 33, 3) := by decide +kernel
theorem dX7_sum_23 : decode cX7_sum 23 = .ok (.aload_n 0, 1) := by decide +kernel
theorem dX7_sum_24 : decode cX7_sum 24 = .ok (.getfield 10, 3) := by decide +kernel
theorem dX7_sum_27 : decode cX7_sum 27 = .ok (.getfield 63, 3) := by decide +kernel
theorem dX7_sum_30 : decode cX7_sum 30 = .ok (.iload_n 2, 1) := by decide +kernel
theorem dX7_sum_31 : decode cX7_sum 31 = .ok (.iload_n 3, 1) := by decide +kernel
theorem dX7_sum_32 : decode cX7_sum 32 = .ok (.invokevirtual 129, 3) := by decide +kernel
theorem dX7_sum_35 : decode cX7_sum 35 = .ok (.lreturn, 1) := by decide +kernel
set_option maxRecDepth 20000 in
theorem ggX7_visible_X7_requireSegment : GoodIn wsX7_visible wsX7_requireSegment := goodIn_ca (goodIn_r _ [6, 7, 8, 9, 10, 11, 12, 13, 14, 15, 16, 93, 94, 95, 96, 97, 98, 99, 100, 101, 102, 103] (by decide +kernel) (by decide +kernel)) (goodIn_sub (fun _ h => List.mem_cons_of_mem _ (List.mem_append_left _ (List.mem_append_right _ h))) (by decide +kernel))
set_option maxRecDepth 20000 in
theorem gX7_visible_X7_requireSegment : GoodIn wsX7_visible (wsV RX7 76 RX7 yX7_requireSegment wsX7_requireSegment) := goodIn_app (goodIn_of _ (by decide +kernel)) ggX7_visible_X7_requireSegment
set_option maxRecDepth 20000 in
theorem ggX7_visible_X7_buildEnvelope : GoodIn wsX7_visible wsX7_buildEnvelope := goodIn_ca (goodIn_r _ [20, 1, 9, 10, 21, 22, 5, 23, 24, 25, 26, 27, 28, 29, 30, 31, 32, 33, 34, 35, 36, 37, 38, 39, 14, 40, 16, 41, 42, 43, 44, 45, 46, 47, 48, 49, 50, 51, 52, 53, 54, 55, 56, 57, 58, 59, 60, 61, 62, 63, 64, 65, 66, 67, 68, 69, 70, 71, 72, 73, 74, 75, 76, 93, 94, 95, 96, 97, 98, 99, 100, 104, 105, 106, 101, 102, 103] (by decide +kernel) (by decide +kernel)) (goodIn_sub (fun _ h => List.mem_cons_of_mem _ (List.mem_append_right _ h)) (by decide +kernel))
set_option maxRecDepth 20000 in
theorem gX7_visible_X7_buildEnvelope : GoodIn wsX7_visible (wsV RX7 119 RX7 yX7_buildEnvelope wsX7_buildEnvelope) := goodIn_app (goodIn_of _ (by decide +kernel)) ggX7_visible_X7_buildEnvelope
set_option maxRecDepth 20000 in
theorem ggX7_visible_X1_positionsOf : GoodIn wsX7_visible wsX1_positionsOf := goodIn_r _ [80, 34, 81, 82, 83, 32, 84, 35, 85, 86, 87, 88, 36, 89, 90, 91, 92, 104, 105, 106] (by decide +kernel) (by decide +kernel)
set_option maxRecDepth 20000 in
theorem gX7_visible_X1_positionsOf : GoodIn wsX7_visible (wsV RX7 133 RX1 yX1_positionsOf wsX1_positionsOf) := goodIn_app (goodIn_of _ (by decide +kernel)) ggX7_visible_X1_positionsOf
theorem dX7_visible_0 : decode cX7_visible 0 = .ok (.aload_n 0, 1) := by decide +kernel
theorem dX7_visible_1 : decode cX7_visible 1 = .ok (.iload_n 1, 1) := by decide +kernel
theorem dX7_visible_2 : decode cX7_visible 2 = .ok (.invokevirtual 76, 3) := by decide +kernel
theorem dX7_visible_5 : decode cX7_visible 5 = .ok (.aload_n 0, 1) := by decide +kernel
theorem dX7_visible_6 : decode cX7_visible 6 = .ok (.iload_n 2, 1) := by decide +kernel
theorem dX7_visible_7 : decode cX7_visible 7 = .ok (.invokevirtual 119, 3) := by decide +kernel
theorem dX7_visible_10 : decode cX7_visible 10 = .ok (.aload_n 0, 1) := by decide +kernel
theorem dX7_visible_11 : decode cX7_visible 11 = .ok (.getfield 33, 3) := by decide +kernel
theorem dX7_visible_14 : decode cX7_visible 14 = .ok (.iload_n 1, 1) := by decide +kernel
theorem dX7_visible_15 : decode cX7_visible 15 = .ok (.invokevirtual 133, 3) := by decide +kernel
theorem dX7_visible_18 : decode cX7_visible 18 = .ok (.ireturn, 1) := by decide +kernel
set_option maxRecDepth 20000 in
theorem ggX7_hidden_X7_buildEnvelope : GoodIn wsX7_hidden wsX7_buildEnvelope := goodIn_ca (goodIn_r _ [9, 4, 1, 2, 10, 11, 8, 12, 13, 14, 15, 16, 17, 18, 19, 20, 21, 22, 23, 24, 25, 26, 27, 28, 29, 30, 31, 32, 33, 34, 35, 36, 37, 38, 39, 40, 41, 42, 43, 44, 45, 46, 47, 48, 49, 50, 51, 52, 53, 54, 55, 56, 57, 58, 59, 60, 61, 62, 63, 64, 65, 66, 67, 85, 86, 87, 88, 89, 90, 91, 92, 96, 97, 98, 93, 94, 95] (by decide +kernel) (by decide +kernel)) (goodIn_sub (fun _ h => List.mem_cons_of_mem _ (List.mem_append_right _ h)) (by decide +kernel))
set_option maxRecDepth 20000 in
theorem gX7_hidden_X7_buildEnvelope : GoodIn wsX7_hidden (wsV RX7 119 RX7 yX7_buildEnvelope wsX7_buildEnvelope) := goodIn_app (goodIn_of _ (by decide +kernel)) ggX7_hidden_X7_buildEnvelope
set_option maxRecDepth 20000 in
theorem ggX7_hidden_X6_isLive : GoodIn wsX7_hidden wsX6_isLive := goodIn_r _ [48, 40, 41, 42, 29, 43, 44, 93, 94, 95] (by decide +kernel) (by decide +kernel)
set_option maxRecDepth 20000 in
theorem gX7_hidden_X6_isLive : GoodIn wsX7_hidden (wsV RX7 136 RX6 yX6_isLive wsX6_isLive) := goodIn_app (goodIn_of _ (by decide +kernel)) ggX7_hidden_X6_isLive
set_option maxRecDepth 20000 in
theorem ggX7_hidden_X1_positionsOf : GoodIn wsX7_hidden wsX1_positionsOf := goodIn_r _ [72, 23, 73, 74, 75, 21, 76, 24, 77, 78, 79, 80, 25, 81, 82, 83, 84, 96, 97, 98] (by decide +kernel) (by decide +kernel)
set_option maxRecDepth 20000 in
theorem gX7_hidden_X1_positionsOf : GoodIn wsX7_hidden (wsV RX7 133 RX1 yX1_positionsOf wsX1_positionsOf) := goodIn_app (goodIn_of _ (by decide +kernel)) ggX7_hidden_X1_positionsOf
theorem dX7_hidden_0 : decode cX7_hidden 0 = .ok (.aload_n 0, 1) := by decide +kernel
theorem dX7_hidden_1 : decode cX7_hidden 1 = .ok (.iload_n 1, 1) := by decide +kernel
theorem dX7_hidden_2 : decode cX7_hidden 2 = .ok (.invokevirtual 119, 3) := by decide +kernel
theorem dX7_hidden_5 : decode cX7_hidden 5 = .ok (.aload_n 0, 1) := by decide +kernel
theorem dX7_hidden_6 : decode cX7_hidden 6 = .ok (.getfield 10, 3) := by decide +kernel
theorem dX7_hidden_9 : decode cX7_hidden 9 = .ok (.getfield 63, 3) := by decide +kernel
theorem dX7_hidden_12 : decode cX7_hidden 12 = .ok (.astore_n 2, 1) := by decide +kernel
theorem dX7_hidden_13 : decode cX7_hidden 13 = .ok (.iconst 0, 1) := by decide +kernel
theorem dX7_hidden_14 : decode cX7_hidden 14 = .ok (.istore_n 3, 1) := by decide +kernel
theorem dX7_hidden_15 : decode cX7_hidden 15 = .ok (.iconst 0, 1) := by decide +kernel
theorem dX7_hidden_16 : decode cX7_hidden 16 = .ok (.istore 4, 2) := by decide +kernel
theorem dX7_hidden_18 : decode cX7_hidden 18 = .ok (.iload 4, 2) := by decide +kernel
theorem dX7_hidden_20 : decode cX7_hidden 20 = .ok (.aload_n 2, 1) := by decide +kernel
theorem dX7_hidden_21 : decode cX7_hidden 21 = .ok (.getfield 73, 3) := by decide +kernel
theorem dX7_hidden_24 : decode cX7_hidden 24 = .ok (.if_icmp .ge 34, 3) := by decide +kernel
theorem dX7_hidden_27 : decode cX7_hidden 27 = .ok (.aload_n 2, 1) := by decide +kernel
theorem dX7_hidden_28 : decode cX7_hidden 28 = .ok (.iload 4, 2) := by decide +kernel
theorem dX7_hidden_30 : decode cX7_hidden 30 = .ok (.iload_n 1, 1) := by decide +kernel
theorem dX7_hidden_31 : decode cX7_hidden 31 = .ok (.invokevirtual 136, 3) := by decide +kernel
theorem dX7_hidden_34 : decode cX7_hidden 34 = .ok (.ifCond .eq 18, 3) := by decide +kernel
theorem dX7_hidden_37 : decode cX7_hidden 37 = .ok (.aload_n 0, 1) := by decide +kernel
theorem dX7_hidden_38 : decode cX7_hidden 38 = .ok (.getfield 33, 3) := by decide +kernel
theorem dX7_hidden_41 : decode cX7_hidden 41 = .ok (.iload 4, 2) := by decide +kernel
theorem dX7_hidden_43 : decode cX7_hidden 43 = .ok (.invokevirtual 133, 3) := by decide +kernel
theorem dX7_hidden_46 : decode cX7_hidden 46 = .ok (.ifCond .ne 6, 3) := by decide +kernel
theorem dX7_hidden_49 : decode cX7_hidden 49 = .ok (.iinc 3 1, 3) := by decide +kernel
theorem dX7_hidden_52 : decode cX7_hidden 52 = .ok (.iinc 4 1, 3) := by decide +kernel
theorem dX7_hidden_55 : decode cX7_hidden 55 = .ok (.goto (-37), 3) := by decide +kernel
theorem dX7_hidden_58 : decode cX7_hidden 58 = .ok (.iload_n 3, 1) := by decide +kernel
theorem dX7_hidden_59 : decode cX7_hidden 59 = .ok (.ireturn, 1) := by decide +kernel
set_option maxRecDepth 20000 in
theorem ggX7_extreme_X7_buildEnvelope : GoodIn wsX7_extreme wsX7_buildEnvelope := goodIn_ca (goodIn_r _ [8, 1, 2, 3, 9, 10, 7, 11, 12, 13, 14, 15, 16, 17, 18, 19, 20, 21, 22, 23, 24, 25, 26, 27, 28, 29, 30, 31, 32, 33, 34, 35, 36, 37, 38, 39, 40, 41, 42, 43, 44, 45, 46, 47, 48, 49, 50, 51, 52, 53, 54, 55, 56, 57, 58, 59, 60, 61, 62, 63, 64, 65, 66, 85, 86, 87, 88, 89, 90, 91, 92, 93, 94, 95, 96, 97, 98] (by decide +kernel) (by decide +kernel)) (goodIn_sub (fun _ h => List.mem_cons_of_mem _ (List.mem_append_right _ h)) (by decide +kernel))
set_option maxRecDepth 20000 in
theorem gX7_extreme_X7_buildEnvelope : GoodIn wsX7_extreme (wsV RX7 119 RX7 yX7_buildEnvelope wsX7_buildEnvelope) := goodIn_app (goodIn_of _ (by decide +kernel)) ggX7_extreme_X7_buildEnvelope
set_option maxRecDepth 20000 in
theorem ggX7_extreme_X1_extremePosition : GoodIn wsX7_extreme wsX1_extremePosition := goodIn_r _ [70, 22, 71, 72, 73, 20, 74, 23, 75, 40, 41, 28, 42, 43, 76, 77, 78, 79, 24, 80, 81, 82, 83, 84, 49, 50, 51, 39, 93, 94, 95, 96, 97, 98] (by decide +kernel) (by decide +kernel)
set_option maxRecDepth 20000 in
theorem gX7_extreme_X1_extremePosition : GoodIn wsX7_extreme (wsV RX7 140 RX1 yX1_extremePosition wsX1_extremePosition) := goodIn_app (goodIn_of _ (by decide +kernel)) ggX7_extreme_X1_extremePosition
theorem dX7_extreme_0 : decode cX7_extreme 0 = .ok (.aload_n 0, 1) := by decide +kernel
theorem dX7_extreme_1 : decode cX7_extreme 1 = .ok (.iload_n 1, 1) := by decide +kernel
theorem dX7_extreme_2 : decode cX7_extreme 2 = .ok (.invokevirtual 119, 3) := by decide +kernel
theorem dX7_extreme_5 : decode cX7_extreme 5 = .ok (.aload_n 0, 1) := by decide +kernel
theorem dX7_extreme_6 : decode cX7_extreme 6 = .ok (.getfield 33, 3) := by decide +kernel
theorem dX7_extreme_9 : decode cX7_extreme 9 = .ok (.aload_n 0, 1) := by decide +kernel
theorem dX7_extreme_10 : decode cX7_extreme 10 = .ok (.getfield 10, 3) := by decide +kernel
theorem dX7_extreme_13 : decode cX7_extreme 13 = .ok (.getfield 63, 3) := by decide +kernel
theorem dX7_extreme_16 : decode cX7_extreme 16 = .ok (.iload_n 2, 1) := by decide +kernel
theorem dX7_extreme_17 : decode cX7_extreme 17 = .ok (.invokevirtual 140, 3) := by decide +kernel
theorem dX7_extreme_20 : decode cX7_extreme 20 = .ok (.ireturn, 1) := by decide +kernel
set_option maxRecDepth 20000 in
theorem ggX7_changes_X7_requireSpan : GoodIn wsX7_changes wsX7_requireSpan := goodIn_ca (goodIn_r _ [6, 7, 8, 5, 9, 10, 11, 12, 13, 14] (by decide +kernel) (by decide +kernel)) (goodIn_sub (fun _ h => List.mem_cons_of_mem _ (List.mem_append_right _ h)) (by decide +kernel))
set_option maxRecDepth 20000 in
theorem gX7_changes_X7_requireSpan : GoodIn wsX7_changes (va_wsS RX7 144 yX7_requireSpan wsX7_requireSpan) := goodIn_app (goodIn_of _ (by decide +kernel)) ggX7_changes_X7_requireSpan
set_option maxRecDepth 20000 in
theorem ggX7_changes_X6_countChanges : GoodIn wsX7_changes wsX6_countChanges := goodIn_r _ [19, 20, 21, 22, 18, 23, 24, 25, 26, 27, 28, 29, 30, 31, 32, 33, 34, 35, 36, 37, 38, 39, 40, 41, 42, 43, 44, 45, 46, 47, 48, 49, 50, 51, 52, 53, 62, 63, 64] (by decide +kernel) (by decide +kernel)
set_option maxRecDepth 20000 in
theorem gX7_changes_X6_countChanges : GoodIn wsX7_changes (wsV RX7 147 RX6 yX6_countChanges wsX6_countChanges) := goodIn_app (goodIn_of _ (by decide +kernel)) ggX7_changes_X6_countChanges
theorem dX7_changes_0 : decode cX7_changes 0 = .ok (.iload_n 1, 1) := by decide +kernel
theorem dX7_changes_1 : decode cX7_changes 1 = .ok (.iload_n 2, 1) := by decide +kernel
theorem dX7_changes_2 : decode cX7_changes 2 = .ok (.iload_n 3, 1) := by decide +kernel
theorem dX7_changes_3 : decode cX7_changes 3 = .ok (.invokestatic 144, 3) := by decide +kernel
theorem dX7_changes_6 : decode cX7_changes 6 = .ok (.aload_n 0, 1) := by decide +kernel
theorem dX7_changes_7 : decode cX7_changes 7 = .ok (.getfield 10, 3) := by decide +kernel
theorem dX7_changes_10 : decode cX7_changes 10 = .ok (.getfield 63, 3) := by decide +kernel
theorem dX7_changes_13 : decode cX7_changes 13 = .ok (.iload_n 1, 1) := by decide +kernel
theorem dX7_changes_14 : decode cX7_changes 14 = .ok (.iload_n 2, 1) := by decide +kernel
theorem dX7_changes_15 : decode cX7_changes 15 = .ok (.iload_n 3, 1) := by decide +kernel
theorem dX7_changes_16 : decode cX7_changes 16 = .ok (.invokevirtual 147, 3) := by decide +kernel
theorem dX7_changes_19 : decode cX7_changes 19 = .ok (.ireturn, 1) := by decide +kernel
set_option maxRecDepth 20000 in
theorem ggX7_nextChange_X7_requirePlace : GoodIn wsX7_nextChange wsX7_requirePlace := goodIn_ca (goodIn_r _ [6, 7, 8, 5, 9, 10, 11, 12, 13, 14] (by decide +kernel) (by decide +kernel)) (goodIn_sub (fun _ h => List.mem_cons_of_mem _ (List.mem_append_right _ h)) (by decide +kernel))
set_option maxRecDepth 20000 in
theorem gX7_nextChange_X7_requirePlace : GoodIn wsX7_nextChange (va_wsS RX7 87 yX7_requirePlace wsX7_requirePlace) := goodIn_app (goodIn_of _ (by decide +kernel)) ggX7_nextChange_X7_requirePlace
set_option maxRecDepth 20000 in
theorem ggX7_nextChange_X6_changeAfter : GoodIn wsX7_nextChange wsX6_changeAfter := goodIn_r _ [19, 20, 21, 22, 18, 23, 24, 25, 26, 27, 28, 29, 30, 31, 32, 33, 34, 35, 36, 37, 38, 39, 40, 41, 42, 43, 44, 45, 46, 47, 48, 49, 58, 59, 60] (by decide +kernel) (by decide +kernel)
set_option maxRecDepth 20000 in
theorem gX7_nextChange_X6_changeAfter : GoodIn wsX7_nextChange (wsV RX7 150 RX6 yX6_changeAfter wsX6_changeAfter) := goodIn_app (goodIn_of _ (by decide +kernel)) ggX7_nextChange_X6_changeAfter
theorem dX7_nextChange_0 : decode cX7_nextChange 0 = .ok (.iload_n 1, 1) := by decide +kernel
theorem dX7_nextChange_1 : decode cX7_nextChange 1 = .ok (.iload_n 2, 1) := by decide +kernel
theorem dX7_nextChange_2 : decode cX7_nextChange 2 = .ok (.invokestatic 87, 3) := by decide +kernel
theorem dX7_nextChange_5 : decode cX7_nextChange 5 = .ok (.aload_n 0, 1) := by decide +kernel
theorem dX7_nextChange_6 : decode cX7_nextChange 6 = .ok (.getfield 10, 3) := by decide +kernel
theorem dX7_nextChange_9 : decode cX7_nextChange 9 = .ok (.getfield 63, 3) := by decide +kernel
theorem dX7_nextChange_12 : decode cX7_nextChange 12 = .ok (.iload_n 1, 1) := by decide +kernel
theorem dX7_nextChange_13 : decode cX7_nextChange 13 = .ok (.iload_n 2, 1) := by decide +kernel
theorem dX7_nextChange_14 : decode cX7_nextChange 14 = .ok (.invokevirtual 150, 3) := by decide +kernel
theorem dX7_nextChange_17 : decode cX7_nextChange 17 = .ok (.ireturn, 1) := by decide +kernel
set_option maxRecDepth 20000 in
theorem ggX7_overTime_X7_requireSpan : GoodIn wsX7_overTime wsX7_requireSpan := goodIn_ca (goodIn_r _ [6, 7, 8, 5, 9, 10, 11, 12, 13, 14] (by decide +kernel) (by decide +kernel)) (goodIn_sub (fun _ h => List.mem_cons_of_mem _ (List.mem_append_right _ h)) (by decide +kernel))
set_option maxRecDepth 20000 in
theorem gX7_overTime_X7_requireSpan : GoodIn wsX7_overTime (va_wsS RX7 144 yX7_requireSpan wsX7_requireSpan) := goodIn_app (goodIn_of _ (by decide +kernel)) ggX7_overTime_X7_requireSpan
set_option maxRecDepth 20000 in
theorem ggX7_overTime_X6_extremeMinimum : GoodIn wsX7_overTime wsX6_extremeMinimum := goodIn_r _ [19, 20, 21, 22, 23, 18, 24, 25, 26, 27, 28, 29, 30, 31, 32, 33, 34, 35, 36, 37, 38, 39, 40, 41, 42, 43, 44, 45, 46, 47, 48, 49, 50, 59, 60, 61] (by decide +kernel) (by decide +kernel)
set_option maxRecDepth 20000 in
theorem gX7_overTime_X6_extremeMinimum : GoodIn wsX7_overTime (wsV RX7 153 RX6 yX6_extremeMinimum wsX6_extremeMinimum) := goodIn_app (goodIn_of _ (by decide +kernel)) ggX7_overTime_X6_extremeMinimum
theorem dX7_overTime_0 : decode cX7_overTime 0 = .ok (.iload_n 1, 1) := by decide +kernel
theorem dX7_overTime_1 : decode cX7_overTime 1 = .ok (.iload_n 2, 1) := by decide +kernel
theorem dX7_overTime_2 : decode cX7_overTime 2 = .ok (.iload_n 3, 1) := by decide +kernel
theorem dX7_overTime_3 : decode cX7_overTime 3 = .ok (.invokestatic 144, 3) := by decide +kernel
theorem dX7_overTime_6 : decode cX7_overTime 6 = .ok (.aload_n 0, 1) := by decide +kernel
theorem dX7_overTime_7 : decode cX7_overTime 7 = .ok (.getfield 10, 3) := by decide +kernel
theorem dX7_overTime_10 : decode cX7_overTime 10 = .ok (.getfield 63, 3) := by decide +kernel
theorem dX7_overTime_13 : decode cX7_overTime 13 = .ok (.iload_n 1, 1) := by decide +kernel
theorem dX7_overTime_14 : decode cX7_overTime 14 = .ok (.iload_n 2, 1) := by decide +kernel
theorem dX7_overTime_15 : decode cX7_overTime 15 = .ok (.iload_n 3, 1) := by decide +kernel
theorem dX7_overTime_16 : decode cX7_overTime 16 = .ok (.iload 4, 2) := by decide +kernel
theorem dX7_overTime_18 : decode cX7_overTime 18 = .ok (.invokevirtual 153, 3) := by decide +kernel
theorem dX7_overTime_21 : decode cX7_overTime 21 = .ok (.lreturn, 1) := by decide +kernel
set_option maxRecDepth 20000 in
theorem ggX7_leads_X7_requireSegment : GoodIn wsX7_leads wsX7_requireSegment := goodIn_ca (goodIn_r _ [7, 8, 9, 1, 2, 10, 11, 12, 13, 14, 15, 61, 62, 63, 64, 65, 66, 67, 68, 69, 70, 71] (by decide +kernel) (by decide +kernel)) (goodIn_sub (fun _ h => List.mem_cons_of_mem _ (List.mem_append_left _ (List.mem_append_right _ h))) (by decide +kernel))
set_option maxRecDepth 20000 in
theorem gX7_leads_X7_requireSegment : GoodIn wsX7_leads (wsV RX7 76 RX7 yX7_requireSegment wsX7_requireSegment) := goodIn_app (goodIn_of _ (by decide +kernel)) ggX7_leads_X7_requireSegment
set_option maxRecDepth 20000 in
theorem ggX7_leads_X7_requireBetween : GoodIn wsX7_leads wsX7_requireBetween := goodIn_ca (goodIn_r _ [18, 19, 20, 21, 22, 6, 23] (by decide +kernel) (by decide +kernel)) (goodIn_sub (fun _ h => List.mem_cons_of_mem _ (List.mem_append_right _ h)) (by decide +kernel))
set_option maxRecDepth 20000 in
theorem gX7_leads_X7_requireBetween : GoodIn wsX7_leads (va_wsS RX7 80 yX7_requireBetween wsX7_requireBetween) := goodIn_app (goodIn_of _ (by decide +kernel)) ggX7_leads_X7_requireBetween
set_option maxRecDepth 20000 in
theorem ggX7_leads_X6_ticksLed : GoodIn wsX7_leads wsX6_ticksLed := goodIn_r _ [27, 28, 29, 30, 31, 32, 33, 34, 13, 35, 36, 37, 38, 39, 40, 15, 41, 42, 43, 44, 45, 46, 47, 48, 49, 50, 51, 52, 53, 54, 55, 56, 57, 58, 59, 60, 69, 70, 71] (by decide +kernel) (by decide +kernel)
set_option maxRecDepth 20000 in
theorem gX7_leads_X6_ticksLed : GoodIn wsX7_leads (wsV RX7 157 RX6 yX6_ticksLed wsX6_ticksLed) := goodIn_app (goodIn_of _ (by decide +kernel)) ggX7_leads_X6_ticksLed
theorem dX7_leads_0 : decode cX7_leads 0 = .ok (.aload_n 0, 1) := by decide +kernel
theorem dX7_leads_1 : decode cX7_leads 1 = .ok (.iload_n 1, 1) := by decide +kernel
theorem dX7_leads_2 : decode cX7_leads 2 = .ok (.invokevirtual 76, 3) := by decide +kernel
theorem dX7_leads_5 : decode cX7_leads 5 = .ok (.iload_n 2, 1) := by decide +kernel
theorem dX7_leads_6 : decode cX7_leads 6 = .ok (.iconst 0, 1) := by decide +kernel
theorem dX7_leads_7 : decode cX7_leads 7 = .ok (.sipush 255, 3) := by decide +kernel
theorem dX7_leads_10 : decode cX7_leads 10 = .ok (.invokestatic 80, 3) := by decide +kernel
theorem dX7_leads_13 : decode cX7_leads 13 = .ok (.aload_n 0, 1) := by decide +kernel
theorem dX7_leads_14 : decode cX7_leads 14 = .ok (.getfield 10, 3) := by decide +kernel
theorem dX7_leads_17 : decode cX7_leads 17 = .ok (.getfield 63, 3) := by decide +kernel
theorem dX7_leads_20 : decode cX7_leads 20 = .ok (.iload_n 1, 1) := by decide +kernel
theorem dX7_leads_21 : decode cX7_leads 21 = .ok (.iload_n 2, 1) := by decide +kernel
theorem dX7_leads_22 : decode cX7_leads 22 = .ok (.invokevirtual 157, 3) := by decide +kernel
theorem dX7_leads_25 : decode cX7_leads 25 = .ok (.ireturn, 1) := by decide +kernel
set_option maxRecDepth 20000 in
theorem ggX7_intervals_X7_requireSegment : GoodIn wsX7_intervals wsX7_requireSegment := goodIn_ca (goodIn_r _ [7, 8, 9, 1, 2, 10, 11, 12, 13, 14, 15, 28, 29, 30, 31, 32, 33, 34, 35, 36, 37, 38] (by decide +kernel) (by decide +kernel)) (goodIn_sub (fun _ h => List.mem_cons_of_mem _ (List.mem_append_right _ h)) (by decide +kernel))
set_option maxRecDepth 20000 in
theorem gX7_intervals_X7_requireSegment : GoodIn wsX7_intervals (wsV RX7 76 RX7 yX7_requireSegment wsX7_requireSegment) := goodIn_app (goodIn_of _ (by decide +kernel)) ggX7_intervals_X7_requireSegment
set_option maxRecDepth 20000 in
theorem ggX7_intervals_X6_value : GoodIn wsX7_intervals wsX6_value := goodIn_r _ [19, 20, 36, 37, 38] (by decide +kernel) (by decide +kernel)
set_option maxRecDepth 20000 in
theorem gX7_intervals_X6_value : GoodIn wsX7_intervals (wsV RX7 84 RX6 yX6_value wsX6_value) := goodIn_app (goodIn_of _ (by decide +kernel)) ggX7_intervals_X6_value
set_option maxRecDepth 20000 in
theorem ggX7_intervals_X0_count : GoodIn wsX7_intervals wsX0_count := goodIn_r _ [24, 25, 26, 23, 27] (by decide +kernel) (by decide +kernel)
set_option maxRecDepth 20000 in
theorem gX7_intervals_X0_count : GoodIn wsX7_intervals (va_wsS RX7 160 yX0_count wsX0_count) := goodIn_app (goodIn_of _ (by decide +kernel)) ggX7_intervals_X0_count
theorem dX7_intervals_0 : decode cX7_intervals 0 = .ok (.aload_n 0, 1) := by decide +kernel
theorem dX7_intervals_1 : decode cX7_intervals 1 = .ok (.iload_n 1, 1) := by decide +kernel
theorem dX7_intervals_2 : decode cX7_intervals 2 = .ok (.invokevirtual 76, 3) := by decide +kernel
theorem dX7_intervals_5 : decode cX7_intervals 5 = .ok (.aload_n 0, 1) := by decide +kernel
theorem dX7_intervals_6 : decode cX7_intervals 6 = .ok (.getfield 10, 3) := by decide +kernel
theorem dX7_intervals_9 : decode cX7_intervals 9 = .ok (.getfield 63, 3) := by decide +kernel
theorem dX7_intervals_12 : decode cX7_intervals 12 = .ok (.astore_n 2, 1) := by decide +kernel
theorem dX7_intervals_13 : decode cX7_intervals 13 = .ok (.aload_n 2, 1) := by decide +kernel
theorem dX7_intervals_14 : decode cX7_intervals 14 = .ok (.iload_n 1, 1) := by decide +kernel
theorem dX7_intervals_15 : decode cX7_intervals 15 = .ok (.iconst 4, 1) := by decide +kernel
theorem dX7_intervals_16 : decode cX7_intervals 16 = .ok (.invokevirtual 84, 3) := by decide +kernel
theorem dX7_intervals_19 : decode cX7_intervals 19 = .ok (.aload_n 2, 1) := by decide +kernel
theorem dX7_intervals_20 : decode cX7_intervals 20 = .ok (.iload_n 1, 1) := by decide +kernel
theorem dX7_intervals_21 : decode cX7_intervals 21 = .ok (.iconst 5, 1) := by decide +kernel
theorem dX7_intervals_22 : decode cX7_intervals 22 = .ok (.invokevirtual 84, 3) := by decide +kernel
theorem dX7_intervals_25 : decode cX7_intervals 25 = .ok (.invokestatic 160, 3) := by decide +kernel
theorem dX7_intervals_28 : decode cX7_intervals 28 = .ok (.ireturn, 1) := by decide +kernel
set_option maxRecDepth 20000 in
theorem ggX7_interval_X7_requireSegment : GoodIn wsX7_interval wsX7_requireSegment := goodIn_ca (goodIn_r _ [9, 1, 2, 3, 4, 10, 11, 12, 13, 14, 15, 29, 30, 31, 32, 33, 34, 35, 36, 37, 38, 39] (by decide +kernel) (by decide +kernel)) (goodIn_sub (fun _ h => List.mem_cons_of_mem _ (List.mem_append_right _ h)) (by decide +kernel))
set_option maxRecDepth 20000 in
theorem gX7_interval_X7_requireSegment : GoodIn wsX7_interval (wsV RX7 76 RX7 yX7_requireSegment wsX7_requireSegment) := goodIn_app (goodIn_of _ (by decide +kernel)) ggX7_interval_X7_requireSegment
set_option maxRecDepth 20000 in
theorem ggX7_interval_X6_value : GoodIn wsX7_interval wsX6_value := goodIn_r _ [19, 20, 37, 38, 39] (by decide +kernel) (by decide +kernel)
set_option maxRecDepth 20000 in
theorem gX7_interval_X6_value : GoodIn wsX7_interval (wsV RX7 84 RX6 yX6_value wsX6_value) := goodIn_app (goodIn_of _ (by decide +kernel)) ggX7_interval_X6_value
set_option maxRecDepth 20000 in
theorem ggX7_interval_X0_firstTick : GoodIn wsX7_interval wsX0_firstTick := goodIn_r _ [24, 25, 26, 23, 27] (by decide +kernel) (by decide +kernel)
set_option maxRecDepth 20000 in
theorem gX7_interval_X0_firstTick : GoodIn wsX7_interval (va_wsS RX7 165 yX0_firstTick wsX0_firstTick) := goodIn_app (goodIn_of _ (by decide +kernel)) ggX7_interval_X0_firstTick
set_option maxRecDepth 20000 in
theorem ggX7_interval_X0_largest : GoodIn wsX7_interval wsX0_largest := goodIn_r _ [27] (by decide +kernel) (by decide +kernel)
set_option maxRecDepth 20000 in
theorem gX7_interval_X0_largest : GoodIn wsX7_interval (va_wsS RX7 170 yX0_largest wsX0_largest) := goodIn_app (goodIn_of _ (by decide +kernel)) ggX7_interval_X0_largest
theorem dX7_interval_0 : decode cX7_interval 0 = .ok (.aload_n 0, 1) := by decide +kernel
theorem dX7_interval_1 : decode cX7_interval 1 = .ok (.iload_n 1, 1) := by decide +kernel
theorem dX7_interval_2 : decode cX7_interval 2 = .ok (.invokevirtual 76, 3) := by decide +kernel
theorem dX7_interval_5 : decode cX7_interval 5 = .ok (.aload_n 0, 1) := by decide +kernel
theorem dX7_interval_6 : decode cX7_interval 6 = .ok (.getfield 10, 3) := by decide +kernel
theorem dX7_interval_9 : decode cX7_interval 9 = .ok (.getfield 63, 3) := by decide +kernel
theorem dX7_interval_12 : decode cX7_interval 12 = .ok (.astore 4, 2) := by decide +kernel
theorem dX7_interval_14 : decode cX7_interval 14 = .ok (.aload 4, 2) := by decide +kernel
theorem dX7_interval_16 : decode cX7_interval 16 = .ok (.iload_n 1, 1) := by decide +kernel
theorem dX7_interval_17 : decode cX7_interval 17 = .ok (.iconst 5, 1) := by decide +kernel
theorem dX7_interval_18 : decode cX7_interval 18 = .ok (.invokevirtual 84, 3) := by decide +kernel
theorem dX7_interval_21 : decode cX7_interval 21 = .ok (.istore 5, 2) := by decide +kernel
theorem dX7_interval_23 : decode cX7_interval 23 = .ok (.aload 4, 2) := by decide +kernel
theorem dX7_interval_25 : decode cX7_interval 25 = .ok (.iload_n 1, 1) := by decide +kernel
theorem dX7_interval_26 : decode cX7_interval 26 = .ok (.iconst 4, 1) := by decide +kernel
theorem dX7_interval_27 : decode cX7_interval 27 = .ok (.invokevirtual 84, 3) := by decide +kernel
theorem dX7_interval_30 : decode cX7_interval 30 = .ok (.iload 5, 2) := by decide +kernel
theorem dX7_interval_32 : decode cX7_interval 32 = .ok (.iload_n 2, 1) := by decide +kernel
theorem dX7_interval_33 : decode cX7_interval 33 = .ok (.invokestatic 165, 3) := by decide +kernel
theorem dX7_interval_36 : decode cX7_interval 36 = .ok (.istore 6, 2) := by decide +kernel
theorem dX7_interval_38 : decode cX7_interval 38 = .ok (.iload 6, 2) := by decide +kernel
theorem dX7_interval_40 : decode cX7_interval 40 = .ok (.iconst (-1), 1) := by decide +kernel
theorem dX7_interval_41 : decode cX7_interval 41 = .ok (.if_icmp .ne 13, 3) := by decide +kernel
theorem dX7_interval_44 : decode cX7_interval 44 = .ok (.new 123, 3) := by decide +kernel
theorem dX7_interval_47 : decode cX7_interval 47 = .ok (.dup, 1) := by decide +kernel
theorem dX7_interval_48 : decode cX7_interval 48 = .ok (.ldc 168, 2) := by decide +kernel
theorem dX7_interval_50 : decode cX7_interval 50 = .ok (.invokespecial 127, 3) := by decide +kernel
theorem dX7_interval_53 : decode cX7_interval 53 = .ok (.athrow, 1) := by decide +kernel
theorem dX7_interval_54 : decode cX7_interval 54 = .ok (.iload_n 3, 1) := by decide +kernel
theorem dX7_interval_55 : decode cX7_interval 55 = .ok (.ifCond .eq 13, 3) := by decide +kernel
theorem dX7_interval_58 : decode cX7_interval 58 = .ok (.iload 6, 2) := by decide +kernel
theorem dX7_interval_60 : decode cX7_interval 60 = .ok (.iload 5, 2) := by decide +kernel
theorem dX7_interval_62 : decode cX7_interval 62 = .ok (.invokestatic 170, 3) := by decide +kernel
theorem dX7_interval_65 : decode cX7_interval 65 = .ok (.goto 5, 3) := by decide +kernel
theorem dX7_interval_68 : decode cX7_interval 68 = .ok (.iload 6, 2) := by decide +kernel
theorem dX7_interval_70 : decode cX7_interval 70 = .ok (.ireturn, 1) := by decide +kernel
set_option maxRecDepth 20000 in
theorem ggX7_holders_X0_isInterval : GoodIn wsX7_holders wsX0_isInterval := goodIn_r _ [9, 10, 11, 12] (by decide +kernel) (by decide +kernel)
set_option maxRecDepth 20000 in
theorem gX7_holders_X0_isInterval : GoodIn wsX7_holders (va_wsS RX7 173 yX0_isInterval wsX0_isInterval) := goodIn_app (goodIn_of _ (by decide +kernel)) ggX7_holders_X0_isInterval
set_option maxRecDepth 20000 in
theorem ggX7_holders_X6_value : GoodIn wsX7_holders wsX6_value := goodIn_r _ [17, 18, 30, 31, 32] (by decide +kernel) (by decide +kernel)
set_option maxRecDepth 20000 in
theorem gX7_holders_X6_value : GoodIn wsX7_holders (wsV RX7 84 RX6 yX6_value wsX6_value) := goodIn_app (goodIn_of _ (by decide +kernel)) ggX7_holders_X6_value
set_option maxRecDepth 20000 in
theorem ggX7_holders_X0_holds : GoodIn wsX7_holders wsX0_holds := goodIn_r _ [21] (by decide +kernel) (by decide +kernel)
set_option maxRecDepth 20000 in
theorem gX7_holders_X0_holds : GoodIn wsX7_holders (va_wsS RX7 178 yX0_holds wsX0_holds) := goodIn_app (goodIn_of _ (by decide +kernel)) ggX7_holders_X0_holds
theorem dX7_holders_0 : decode cX7_holders 0 = .ok (.iload_n 1, 1) := by decide +kernel
theorem dX7_holders_1 : decode cX7_holders 1 = .ok (.iload_n 2, 1) := by decide +kernel
theorem dX7_holders_2 : decode cX7_holders 2 = .ok (.invokestatic 173, 3) := by decide +kernel
theorem dX7_holders_5 : decode cX7_holders 5 = .ok (.ifCond .ne 13, 3) := by decide +kernel
theorem dX7_holders_8 : decode cX7_holders 8 = .ok (.new 101, 3) := by decide +kernel
theorem dX7_holders_11 : decode cX7_holders 11 = .ok (.dup, 1) := by decide +kernel
theorem dX7_holders_12 : decode cX7_holders 12 = .ok (.ldc 176, 2) := by decide +kernel
theorem dX7_holders_14 : decode cX7_holders 14 = .ok (.invokespecial 105, 3) := by decide +kernel
theorem dX7_holders_17 : decode cX7_holders 17 = .ok (.athrow, 1) := by decide +kernel
theorem dX7_holders_18 : decode cX7_holders 18 = .ok (.aload_n 0, 1) := by decide +kernel
theorem dX7_holders_19 : decode cX7_holders 19 = .ok (.getfield 10, 3) := by decide +kernel
theorem dX7_holders_22 : decode cX7_holders 22 = .ok (.getfield 63, 3) := by decide +kernel
theorem dX7_holders_25 : decode cX7_holders 25 = .ok (.astore_n 3, 1) := by decide +kernel
theorem dX7_holders_26 : decode cX7_holders 26 = .ok (.iconst 0, 1) := by decide +kernel
theorem dX7_holders_27 : decode cX7_holders 27 = .ok (.istore 4, 2) := by decide +kernel
theorem dX7_holders_29 : decode cX7_holders 29 = .ok (.iconst 0, 1) := by decide +kernel
theorem dX7_holders_30 : decode cX7_holders 30 = .ok (.istore 5, 2) := by decide +kernel
theorem dX7_holders_32 : decode cX7_holders 32 = .ok (.iload 5, 2) := by decide +kernel
theorem dX7_holders_34 : decode cX7_holders 34 = .ok (.aload_n 3, 1) := by decide +kernel
theorem dX7_holders_35 : decode cX7_holders 35 = .ok (.getfield 73, 3) := by decide +kernel
theorem dX7_holders_38 : decode cX7_holders 38 = .ok (.if_icmp .ge 34, 3) := by decide +kernel
theorem dX7_holders_41 : decode cX7_holders 41 = .ok (.aload_n 3, 1) := by decide +kernel
theorem dX7_holders_42 : decode cX7_holders 42 = .ok (.iload 5, 2) := by decide +kernel
theorem dX7_holders_44 : decode cX7_holders 44 = .ok (.iconst 4, 1) := by decide +kernel
theorem dX7_holders_45 : decode cX7_holders 45 = .ok (.invokevirtual 84, 3) := by decide +kernel
theorem dX7_holders_48 : decode cX7_holders 48 = .ok (.aload_n 3, 1) := by decide +kernel
theorem dX7_holders_49 : decode cX7_holders 49 = .ok (.iload 5, 2) := by decide +kernel
theorem dX7_holders_51 : decode cX7_holders 51 = .ok (.iconst 5, 1) := by decide +kernel
theorem dX7_holders_52 : decode cX7_holders 52 = .ok (.invokevirtual 84, 3) := by decide +kernel
theorem dX7_holders_55 : decode cX7_holders 55 = .ok (.iload_n 1, 1) := by decide +kernel
theorem dX7_holders_56 : decode cX7_holders 56 = .ok (.iload_n 2, 1) := by decide +kernel
theorem dX7_holders_57 : decode cX7_holders 57 = .ok (.invokestatic 178, 3) := by decide +kernel
theorem dX7_holders_60 : decode cX7_holders 60 = .ok (.ifCond .eq 6, 3) := by decide +kernel
theorem dX7_holders_63 : decode cX7_holders 63 = .ok (.iinc 4 1, 3) := by decide +kernel
theorem dX7_holders_66 : decode cX7_holders 66 = .ok (.iinc 5 1, 3) := by decide +kernel
theorem dX7_holders_69 : decode cX7_holders 69 = .ok (.goto (-37), 3) := by decide +kernel
theorem dX7_holders_72 : decode cX7_holders 72 = .ok (.iload 4, 2) := by decide +kernel
theorem dX7_holders_74 : decode cX7_holders 74 = .ok (.ireturn, 1) := by decide +kernel
set_option maxRecDepth 20000 in
theorem ggX7_collect_X2_keep : GoodIn wsX7_collect wsX2_keep := goodIn_r _ [7, 8, 9, 10, 6, 11, 12, 13, 14, 15, 16, 17, 18, 19, 20, 21, 22, 23, 24, 25, 26, 27, 28, 29, 30, 31, 32, 33, 34, 35, 36, 37, 38, 39, 40, 41, 42, 43, 44, 45, 46, 47, 48, 49, 50, 51, 52, 53, 54, 55, 56, 94, 95, 96, 97, 98, 99, 100, 101, 102, 103, 104, 105] (by decide +kernel) (by decide +kernel)
set_option maxRecDepth 20000 in
theorem gX7_collect_X2_keep : GoodIn wsX7_collect (wsV RX7 37 RX2 yX2_keep wsX2_keep) := goodIn_app (goodIn_of _ (by decide +kernel)) ggX7_collect_X2_keep
set_option maxRecDepth 20000 in
theorem ggX7_collect_X5_tryCollect : GoodIn wsX7_collect wsX5_tryCollect := goodIn_r _ [60, 25, 61, 62, 63, 64, 65, 66, 50, 67, 52, 68, 69, 70, 71, 72, 73, 74, 75, 55, 97, 98, 99, 100, 104, 105] (by decide +kernel) (by decide +kernel)
set_option maxRecDepth 20000 in
theorem gX7_collect_X5_tryCollect : GoodIn wsX7_collect (wsV RX7 182 RX5 yX5_tryCollect wsX5_tryCollect) := goodIn_app (goodIn_of _ (by decide +kernel)) ggX7_collect_X5_tryCollect
set_option maxRecDepth 20000 in
theorem ggX7_collect_X7_confirmed : GoodIn wsX7_collect wsX7_confirmed := goodIn_ca (goodIn_ca (goodIn_ca (goodIn_r _ [79, 80, 81, 82, 83, 84, 85, 1, 86, 87, 88, 6, 89, 14, 13, 90, 91, 92, 93, 94, 95, 96] (by decide +kernel) (by decide +kernel)) (goodIn_sub (fun _ h => List.mem_cons_of_mem _ (List.mem_append_left _ (List.mem_append_left _ (List.mem_append_right _ h)))) (by decide +kernel))) (goodIn_sub (fun _ h => List.mem_cons_of_mem _ (List.mem_append_left _ (List.mem_append_right _ h))) (by decide +kernel))) (goodIn_sub (fun _ h => List.mem_cons_of_mem _ (List.mem_append_right _ h)) (by decide +kernel))
set_option maxRecDepth 20000 in
theorem gX7_collect_X7_confirmed : GoodIn wsX7_collect (wsV RX7 45 RX7 yX7_confirmed wsX7_confirmed) := goodIn_app (goodIn_of _ (by decide +kernel)) ggX7_collect_X7_confirmed
theorem dX7_collect_0 : decode cX7_collect 0 = .ok (.aload_n 0, 1) := by decide +kernel
theorem dX7_collect_1 : decode cX7_collect 1 = .ok (.getfield 19, 3) := by decide +kernel
theorem dX7_collect_4 : decode cX7_collect 4 = .ok (.aload_n 0, 1) := by decide +kernel
theorem dX7_collect_5 : decode cX7_collect 5 = .ok (.getfield 10, 3) := by decide +kernel
theorem dX7_collect_8 : decode cX7_collect 8 = .ok (.invokevirtual 37, 3) := by decide +kernel
theorem dX7_collect_11 : decode cX7_collect 11 = .ok (.aload_n 0, 1) := by decide +kernel
theorem dX7_collect_12 : decode cX7_collect 12 = .ok (.aload_n 0, 1) := by decide +kernel
theorem dX7_collect_13 : decode cX7_collect 13 = .ok (.getfield 10, 3) := by decide +kernel
theorem dX7_collect_16 : decode cX7_collect 16 = .ok (.iload_n 1, 1) := by decide +kernel
theorem dX7_collect_17 : decode cX7_collect 17 = .ok (.iload_n 2, 1) := by decide +kernel
theorem dX7_collect_18 : decode cX7_collect 18 = .ok (.invokevirtual 182, 3) := by decide +kernel
theorem dX7_collect_21 : decode cX7_collect 21 = .ok (.invokevirtual 45, 3) := by decide +kernel
theorem dX7_collect_24 : decode cX7_collect 24 = .ok (.ireturn, 1) := by decide +kernel
set_option maxRecDepth 20000 in
theorem ggX7_solve_X2_keep : GoodIn wsX7_solve wsX2_keep := goodIn_r _ [9, 10, 11, 12, 8, 13, 14, 15, 16, 17, 18, 19, 20, 21, 22, 23, 24, 25, 26, 27, 28, 29, 30, 31, 32, 33, 34, 35, 36, 37, 38, 39, 40, 41, 42, 43, 44, 45, 46, 47, 48, 49, 50, 51, 52, 53, 54, 55, 56, 57, 58, 124, 125, 126, 120, 121, 122, 123, 127, 128, 129, 130, 131] (by decide +kernel) (by decide +kernel)
set_option maxRecDepth 20000 in
theorem gX7_solve_X2_keep : GoodIn wsX7_solve (wsV RX7 37 RX2 yX2_keep wsX2_keep) := goodIn_app (goodIn_of _ (by decide +kernel)) ggX7_solve_X2_keep
set_option maxRecDepth 20000 in
theorem ggX7_solve_X3_answerAll : GoodIn wsX7_solve wsX3_answerAll := goodIn_r _ [62, 54, 63, 64, 65, 66, 52, 67, 57, 68, 69, 70, 33, 71, 36, 72, 73, 74, 75, 76, 77, 78, 79, 80, 81, 82, 83, 44, 84, 85, 86, 87, 88, 89, 90, 91, 92, 93, 94, 95, 96, 97, 98, 99, 100, 130, 131, 127, 128, 129] (by decide +kernel) (by decide +kernel)
set_option maxRecDepth 20000 in
theorem gX7_solve_X3_answerAll : GoodIn wsX7_solve (wsV RX7 189 RX3 yX3_answerAll wsX3_answerAll) := goodIn_app (goodIn_of _ (by decide +kernel)) ggX7_solve_X3_answerAll
set_option maxRecDepth 20000 in
theorem ggX7_solve_X7_confirmed : GoodIn wsX7_solve wsX7_confirmed := goodIn_ca (goodIn_ca (goodIn_ca (goodIn_r _ [105, 106, 107, 108, 109, 110, 111, 1, 112, 113, 114, 8, 115, 16, 15, 116, 117, 118, 119, 124, 125, 126] (by decide +kernel) (by decide +kernel)) (goodIn_sub (fun _ h => List.mem_cons_of_mem _ (List.mem_append_left _ (List.mem_append_left _ (List.mem_append_right _ h)))) (by decide +kernel))) (goodIn_sub (fun _ h => List.mem_cons_of_mem _ (List.mem_append_left _ (List.mem_append_right _ h))) (by decide +kernel))) (goodIn_sub (fun _ h => List.mem_cons_of_mem _ (List.mem_append_right _ h)) (by decide +kernel))
set_option maxRecDepth 20000 in
theorem gX7_solve_X7_confirmed : GoodIn wsX7_solve (wsV RX7 45 RX7 yX7_confirmed wsX7_confirmed) := goodIn_app (goodIn_of _ (by decide +kernel)) ggX7_solve_X7_confirmed
theorem dX7_solve_0 : decode cX7_solve 0 = .ok (.aload_n 0, 1) := by decide +kernel
theorem dX7_solve_1 : decode cX7_solve 1 = .ok (.getfield 19, 3) := by decide +kernel
theorem dX7_solve_4 : decode cX7_solve 4 = .ok (.aload_n 0, 1) := by decide +kernel
theorem dX7_solve_5 : decode cX7_solve 5 = .ok (.getfield 10, 3) := by decide +kernel
theorem dX7_solve_8 : decode cX7_solve 8 = .ok (.invokevirtual 37, 3) := by decide +kernel
theorem dX7_solve_11 : decode cX7_solve 11 = .ok (.aload_n 0, 1) := by decide +kernel
theorem dX7_solve_12 : decode cX7_solve 12 = .ok (.aload_n 0, 1) := by decide +kernel
theorem dX7_solve_13 : decode cX7_solve 13 = .ok (.getfield 10, 3) := by decide +kernel
theorem dX7_solve_16 : decode cX7_solve 16 = .ok (.getfield 185, 3) := by decide +kernel
theorem dX7_solve_19 : decode cX7_solve 19 = .ok (.aload_n 0, 1) := by decide +kernel
theorem dX7_solve_20 : decode cX7_solve 20 = .ok (.getfield 10, 3) := by decide +kernel
theorem dX7_solve_23 : decode cX7_solve 23 = .ok (.getfield 63, 3) := by decide +kernel
theorem dX7_solve_26 : decode cX7_solve 26 = .ok (.invokevirtual 189, 3) := by decide +kernel
theorem dX7_solve_29 : decode cX7_solve 29 = .ok (.invokevirtual 45, 3) := by decide +kernel
theorem dX7_solve_32 : decode cX7_solve 32 = .ok (.ireturn, 1) := by decide +kernel
set_option maxRecDepth 20000 in
theorem ggX7_answer_X7_requireBetween : GoodIn wsX7_answer wsX7_requireBetween := goodIn_ca (goodIn_r _ [11, 12, 13, 14, 15, 10, 16] (by decide +kernel) (by decide +kernel)) (goodIn_sub (fun _ h => List.mem_cons_of_mem _ (List.mem_append_right _ h)) (by decide +kernel))
set_option maxRecDepth 20000 in
theorem gX7_answer_X7_requireBetween : GoodIn wsX7_answer (va_wsS RX7 80 yX7_requireBetween wsX7_requireBetween) := goodIn_app (goodIn_of _ (by decide +kernel)) ggX7_answer_X7_requireBetween
set_option maxRecDepth 20000 in
theorem ggX7_answer_X3_isAnswered : GoodIn wsX7_answer wsX3_isAnswered := goodIn_r _ [21, 22, 23, 24, 20, 25, 26, 40, 41] (by decide +kernel) (by decide +kernel)
set_option maxRecDepth 20000 in
theorem gX7_answer_X3_isAnswered : GoodIn wsX7_answer (wsV RX7 198 RX3 yX3_isAnswered wsX3_isAnswered) := goodIn_app (goodIn_of _ (by decide +kernel)) ggX7_answer_X3_isAnswered
set_option maxRecDepth 20000 in
theorem ggX7_answer_X3_answerValue : GoodIn wsX7_answer wsX3_answerValue := goodIn_r _ [30, 31, 22, 23, 24, 20, 25, 26, 40, 41] (by decide +kernel) (by decide +kernel)
set_option maxRecDepth 20000 in
theorem gX7_answer_X3_answerValue : GoodIn wsX7_answer (wsV RX7 207 RX3 yX3_answerValue wsX3_answerValue) := goodIn_app (goodIn_of _ (by decide +kernel)) ggX7_answer_X3_answerValue
theorem dX7_answer_0 : decode cX7_answer 0 = .ok (.aload_n 0, 1) := by decide +kernel
theorem dX7_answer_1 : decode cX7_answer 1 = .ok (.getfield 10, 3) := by decide +kernel
theorem dX7_answer_4 : decode cX7_answer 4 = .ok (.getfield 185, 3) := by decide +kernel
theorem dX7_answer_7 : decode cX7_answer 7 = .ok (.astore_n 3, 1) := by decide +kernel
theorem dX7_answer_8 : decode cX7_answer 8 = .ok (.iload_n 1, 1) := by decide +kernel
theorem dX7_answer_9 : decode cX7_answer 9 = .ok (.ifCond .lt 11, 3) := by decide +kernel
theorem dX7_answer_12 : decode cX7_answer 12 = .ok (.iload_n 1, 1) := by decide +kernel
theorem dX7_answer_13 : decode cX7_answer 13 = .ok (.aload_n 3, 1) := by decide +kernel
theorem dX7_answer_14 : decode cX7_answer 14 = .ok (.getfield 195, 3) := by decide +kernel
theorem dX7_answer_17 : decode cX7_answer 17 = .ok (.if_icmp .lt 13, 3) := by decide +kernel
theorem dX7_answer_20 : decode cX7_answer 20 = .ok (.new 123, 3) := by decide +kernel
theorem dX7_answer_23 : decode cX7_answer 23 = .ok (.dup, 1) := by decide +kernel
theorem dX7_answer_24 : decode cX7_answer 24 = .ok (.ldc 196, 2) := by decide +kernel
theorem dX7_answer_26 : decode cX7_answer 26 = .ok (.invokespecial 127, 3) := by decide +kernel
theorem dX7_answer_29 : decode cX7_answer 29 = .ok (.athrow, 1) := by decide +kernel
theorem dX7_answer_30 : decode cX7_answer 30 = .ok (.iload_n 2, 1) := by decide +kernel
theorem dX7_answer_31 : decode cX7_answer 31 = .ok (.iconst 0, 1) := by decide +kernel
theorem dX7_answer_32 : decode cX7_answer 32 = .ok (.iconst 2, 1) := by decide +kernel
theorem dX7_answer_33 : decode cX7_answer 33 = .ok (.invokestatic 80, 3) := by decide +kernel
theorem dX7_answer_36 : decode cX7_answer 36 = .ok (.aload_n 3, 1) := by decide +kernel
theorem dX7_answer_37 : decode cX7_answer 37 = .ok (.iload_n 1, 1) := by decide +kernel
theorem dX7_answer_38 : decode cX7_answer 38 = .ok (.invokevirtual 198, 3) := by decide +kernel
theorem dX7_answer_41 : decode cX7_answer 41 = .ok (.ifCond .ne 13, 3) := by decide +kernel
theorem dX7_answer_44 : decode cX7_answer 44 = .ok (.new 202, 3) := by decide +kernel
theorem dX7_answer_47 : decode cX7_answer 47 = .ok (.dup, 1) := by decide +kernel
theorem dX7_answer_48 : decode cX7_answer 48 = .ok (.ldc 204, 2) := by decide +kernel
theorem dX7_answer_50 : decode cX7_answer 50 = .ok (.invokespecial 206, 3) := by decide +kernel
theorem dX7_answer_53 : decode cX7_answer 53 = .ok (.athrow, 1) := by decide +kernel
theorem dX7_answer_54 : decode cX7_answer 54 = .ok (.aload_n 3, 1) := by decide +kernel
theorem dX7_answer_55 : decode cX7_answer 55 = .ok (.iload_n 1, 1) := by decide +kernel
theorem dX7_answer_56 : decode cX7_answer 56 = .ok (.iload_n 2, 1) := by decide +kernel
theorem dX7_answer_57 : decode cX7_answer 57 = .ok (.invokevirtual 207, 3) := by decide +kernel
theorem dX7_answer_60 : decode cX7_answer 60 = .ok (.lreturn, 1) := by decide +kernel
set_option maxRecDepth 20000 in
theorem ggX7_forget_X2_keep : GoodIn wsX7_forget wsX2_keep := goodIn_r _ [8, 9, 10, 11, 7, 12, 13, 14, 15, 16, 17, 18, 19, 20, 21, 22, 23, 24, 25, 26, 27, 28, 29, 30, 31, 32, 33, 34, 35, 36, 37, 38, 39, 40, 41, 42, 43, 44, 45, 46, 47, 48, 49, 50, 51, 52, 53, 54, 55, 56, 57, 85, 86, 87, 81, 82, 83, 84, 88, 89, 90, 91, 92] (by decide +kernel) (by decide +kernel)
set_option maxRecDepth 20000 in
theorem gX7_forget_X2_keep : GoodIn wsX7_forget (wsV RX7 37 RX2 yX2_keep wsX2_keep) := goodIn_app (goodIn_of _ (by decide +kernel)) ggX7_forget_X2_keep
set_option maxRecDepth 20000 in
theorem ggX7_forget_X3_removeAll : GoodIn wsX7_forget wsX3_removeAll := goodIn_r _ [61, 53, 91, 92] (by decide +kernel) (by decide +kernel)
set_option maxRecDepth 20000 in
theorem gX7_forget_X3_removeAll : GoodIn wsX7_forget (wsV RX7 211 RX3 yX3_removeAll wsX3_removeAll) := goodIn_app (goodIn_of _ (by decide +kernel)) ggX7_forget_X3_removeAll
set_option maxRecDepth 20000 in
theorem ggX7_forget_X7_confirmed : GoodIn wsX7_forget wsX7_confirmed := goodIn_ca (goodIn_ca (goodIn_ca (goodIn_r _ [66, 67, 68, 69, 70, 71, 72, 1, 73, 74, 75, 7, 76, 15, 14, 77, 78, 79, 80, 85, 86, 87] (by decide +kernel) (by decide +kernel)) (goodIn_sub (fun _ h => List.mem_cons_of_mem _ (List.mem_append_left _ (List.mem_append_left _ (List.mem_append_right _ h)))) (by decide +kernel))) (goodIn_sub (fun _ h => List.mem_cons_of_mem _ (List.mem_append_left _ (List.mem_append_right _ h))) (by decide +kernel))) (goodIn_sub (fun _ h => List.mem_cons_of_mem _ (List.mem_append_right _ h)) (by decide +kernel))
set_option maxRecDepth 20000 in
theorem gX7_forget_X7_confirmed : GoodIn wsX7_forget (wsV RX7 45 RX7 yX7_confirmed wsX7_confirmed) := goodIn_app (goodIn_of _ (by decide +kernel)) ggX7_forget_X7_confirmed
theorem dX7_forget_0 : decode cX7_forget 0 = .ok (.aload_n 0, 1) := by decide +kernel
theorem dX7_forget_1 : decode cX7_forget 1 = .ok (.getfield 19, 3) := by decide +kernel
theorem dX7_forget_4 : decode cX7_forget 4 = .ok (.aload_n 0, 1) := by decide +kernel
theorem dX7_forget_5 : decode cX7_forget 5 = .ok (.getfield 10, 3) := by decide +kernel
theorem dX7_forget_8 : decode cX7_forget 8 = .ok (.invokevirtual 37, 3) := by decide +kernel
theorem dX7_forget_11 : decode cX7_forget 11 = .ok (.aload_n 0, 1) := by decide +kernel
theorem dX7_forget_12 : decode cX7_forget 12 = .ok (.aload_n 0, 1) := by decide +kernel
theorem dX7_forget_13 : decode cX7_forget 13 = .ok (.getfield 10, 3) := by decide +kernel
theorem dX7_forget_16 : decode cX7_forget 16 = .ok (.getfield 185, 3) := by decide +kernel
theorem dX7_forget_19 : decode cX7_forget 19 = .ok (.invokevirtual 211, 3) := by decide +kernel
theorem dX7_forget_22 : decode cX7_forget 22 = .ok (.invokevirtual 45, 3) := by decide +kernel
theorem dX7_forget_25 : decode cX7_forget 25 = .ok (.ireturn, 1) := by decide +kernel
set_option maxRecDepth 20000 in
theorem ggX7_mark_X2_keep : GoodIn wsX7_mark wsX2_keep := goodIn_r _ [7, 8, 9, 10, 6, 11, 12, 13, 14, 15, 16, 17, 18, 19, 20, 21, 22, 23, 24, 25, 26, 27, 28, 29, 30, 31, 32, 33, 34, 35, 36, 37, 38, 39, 40, 41, 42, 43, 44, 45, 46, 47, 48, 49, 50, 51, 52, 53, 54, 55, 56, 80, 81, 82, 83, 84, 85, 86, 87, 88, 89, 90, 91] (by decide +kernel) (by decide +kernel)
set_option maxRecDepth 20000 in
theorem gX7_mark_X2_keep : GoodIn wsX7_mark (wsV RX7 37 RX2 yX2_keep wsX2_keep) := goodIn_app (goodIn_of _ (by decide +kernel)) ggX7_mark_X2_keep
set_option maxRecDepth 20000 in
theorem ggX7_mark_X5_tryMark : GoodIn wsX7_mark wsX5_tryMark := goodIn_r _ [60, 26, 27, 24, 28, 29, 30, 31, 32, 33, 34, 35, 36, 37, 38, 39, 40, 41, 42, 43, 44, 45, 46, 83, 84, 85, 86, 87, 88, 89] (by decide +kernel) (by decide +kernel)
set_option maxRecDepth 20000 in
theorem gX7_mark_X5_tryMark : GoodIn wsX7_mark (wsV RX7 215 RX5 yX5_tryMark wsX5_tryMark) := goodIn_app (goodIn_of _ (by decide +kernel)) ggX7_mark_X5_tryMark
set_option maxRecDepth 20000 in
theorem ggX7_mark_X7_confirmed : GoodIn wsX7_mark wsX7_confirmed := goodIn_ca (goodIn_ca (goodIn_ca (goodIn_r _ [65, 66, 67, 68, 69, 70, 71, 1, 72, 73, 74, 6, 75, 14, 13, 76, 77, 78, 79, 80, 81, 82] (by decide +kernel) (by decide +kernel)) (goodIn_sub (fun _ h => List.mem_cons_of_mem _ (List.mem_append_left _ (List.mem_append_left _ (List.mem_append_right _ h)))) (by decide +kernel))) (goodIn_sub (fun _ h => List.mem_cons_of_mem _ (List.mem_append_left _ (List.mem_append_right _ h))) (by decide +kernel))) (goodIn_sub (fun _ h => List.mem_cons_of_mem _ (List.mem_append_right _ h)) (by decide +kernel))
set_option maxRecDepth 20000 in
theorem gX7_mark_X7_confirmed : GoodIn wsX7_mark (wsV RX7 45 RX7 yX7_confirmed wsX7_confirmed) := goodIn_app (goodIn_of _ (by decide +kernel)) ggX7_mark_X7_confirmed
theorem dX7_mark_0 : decode cX7_mark 0 = .ok (.aload_n 0, 1) := by decide +kernel
theorem dX7_mark_1 : decode cX7_mark 1 = .ok (.getfield 19, 3) := by decide +kernel
theorem dX7_mark_4 : decode cX7_mark 4 = .ok (.aload_n 0, 1) := by decide +kernel
theorem dX7_mark_5 : decode cX7_mark 5 = .ok (.getfield 10, 3) := by decide +kernel
theorem dX7_mark_8 : decode cX7_mark 8 = .ok (.invokevirtual 37, 3) := by decide +kernel
theorem dX7_mark_11 : decode cX7_mark 11 = .ok (.aload_n 0, 1) := by decide +kernel
theorem dX7_mark_12 : decode cX7_mark 12 = .ok (.aload_n 0, 1) := by decide +kernel
theorem dX7_mark_13 : decode cX7_mark 13 = .ok (.getfield 10, 3) := by decide +kernel
theorem dX7_mark_16 : decode cX7_mark 16 = .ok (.invokevirtual 215, 3) := by decide +kernel
theorem dX7_mark_19 : decode cX7_mark 19 = .ok (.invokevirtual 45, 3) := by decide +kernel
theorem dX7_mark_22 : decode cX7_mark 22 = .ok (.ireturn, 1) := by decide +kernel
set_option maxRecDepth 20000 in
theorem ggX7_rollBack_X2_keep : GoodIn wsX7_rollBack wsX2_keep := goodIn_r _ [7, 8, 9, 10, 6, 11, 12, 13, 14, 15, 16, 17, 18, 19, 20, 21, 22, 23, 24, 25, 26, 27, 28, 29, 30, 31, 32, 33, 34, 35, 36, 37, 38, 39, 40, 41, 42, 43, 44, 45, 46, 47, 48, 49, 50, 51, 52, 53, 54, 55, 56, 80, 81, 82, 83, 84, 85, 86, 87, 88, 89, 90, 91] (by decide +kernel) (by decide +kernel)
set_option maxRecDepth 20000 in
theorem gX7_rollBack_X2_keep : GoodIn wsX7_rollBack (wsV RX7 37 RX2 yX2_keep wsX2_keep) := goodIn_app (goodIn_of _ (by decide +kernel)) ggX7_rollBack_X2_keep
set_option maxRecDepth 20000 in
theorem ggX7_rollBack_X5_tryRollBack : GoodIn wsX7_rollBack wsX5_tryRollBack := goodIn_r _ [60, 26, 24, 27, 28, 29, 30, 31, 32, 33, 34, 35, 36, 37, 38, 39, 40, 41, 42, 43, 44, 45, 46, 83, 84, 85, 86, 87, 88, 89] (by decide +kernel) (by decide +kernel)
set_option maxRecDepth 20000 in
theorem gX7_rollBack_X5_tryRollBack : GoodIn wsX7_rollBack (wsV RX7 218 RX5 yX5_tryRollBack wsX5_tryRollBack) := goodIn_app (goodIn_of _ (by decide +kernel)) ggX7_rollBack_X5_tryRollBack
set_option maxRecDepth 20000 in
theorem ggX7_rollBack_X7_confirmed : GoodIn wsX7_rollBack wsX7_confirmed := goodIn_ca (goodIn_ca (goodIn_ca (goodIn_r _ [65, 66, 67, 68, 69, 70, 71, 1, 72, 73, 74, 6, 75, 14, 13, 76, 77, 78, 79, 80, 81, 82] (by decide +kernel) (by decide +kernel)) (goodIn_sub (fun _ h => List.mem_cons_of_mem _ (List.mem_append_left _ (List.mem_append_left _ (List.mem_append_right _ h)))) (by decide +kernel))) (goodIn_sub (fun _ h => List.mem_cons_of_mem _ (List.mem_append_left _ (List.mem_append_right _ h))) (by decide +kernel))) (goodIn_sub (fun _ h => List.mem_cons_of_mem _ (List.mem_append_right _ h)) (by decide +kernel))
set_option maxRecDepth 20000 in
theorem gX7_rollBack_X7_confirmed : GoodIn wsX7_rollBack (wsV RX7 45 RX7 yX7_confirmed wsX7_confirmed) := goodIn_app (goodIn_of _ (by decide +kernel)) ggX7_rollBack_X7_confirmed
theorem dX7_rollBack_0 : decode cX7_rollBack 0 = .ok (.aload_n 0, 1) := by decide +kernel
theorem dX7_rollBack_1 : decode cX7_rollBack 1 = .ok (.getfield 19, 3) := by decide +kernel
theorem dX7_rollBack_4 : decode cX7_rollBack 4 = .ok (.aload_n 0, 1) := by decide +kernel
theorem dX7_rollBack_5 : decode cX7_rollBack 5 = .ok (.getfield 10, 3) := by decide +kernel
theorem dX7_rollBack_8 : decode cX7_rollBack 8 = .ok (.invokevirtual 37, 3) := by decide +kernel
theorem dX7_rollBack_11 : decode cX7_rollBack 11 = .ok (.aload_n 0, 1) := by decide +kernel
theorem dX7_rollBack_12 : decode cX7_rollBack 12 = .ok (.aload_n 0, 1) := by decide +kernel
theorem dX7_rollBack_13 : decode cX7_rollBack 13 = .ok (.getfield 10, 3) := by decide +kernel
theorem dX7_rollBack_16 : decode cX7_rollBack 16 = .ok (.invokevirtual 218, 3) := by decide +kernel
theorem dX7_rollBack_19 : decode cX7_rollBack 19 = .ok (.invokevirtual 45, 3) := by decide +kernel
theorem dX7_rollBack_22 : decode cX7_rollBack 22 = .ok (.ireturn, 1) := by decide +kernel
set_option maxRecDepth 20000 in
theorem ggX7_append_X7_requireBetween : GoodIn wsX7_append wsX7_requireBetween := goodIn_ca (goodIn_r _ [8, 9, 10, 11, 12, 7, 13] (by decide +kernel) (by decide +kernel)) (goodIn_sub (fun _ h => List.mem_cons_of_mem _ (List.mem_append_right _ h)) (by decide +kernel))
set_option maxRecDepth 20000 in
theorem gX7_append_X7_requireBetween : GoodIn wsX7_append (va_wsS RX7 80 yX7_requireBetween wsX7_requireBetween) := goodIn_app (goodIn_of _ (by decide +kernel)) ggX7_append_X7_requireBetween
set_option maxRecDepth 20000 in
theorem ggX7_append_X4_put : GoodIn wsX7_append wsX4_put := goodIn_r _ [18, 19, 20, 25, 26, 27, 28, 29] (by decide +kernel) (by decide +kernel)
set_option maxRecDepth 20000 in
theorem gX7_append_X4_put : GoodIn wsX7_append (wsV RX7 226 RX4 yX4_put wsX4_put) := goodIn_app (goodIn_of _ (by decide +kernel)) ggX7_append_X4_put
theorem dX7_append_0 : decode cX7_append 0 = .ok (.iload_n 1, 1) := by decide +kernel
theorem dX7_append_1 : decode cX7_append 1 = .ok (.iconst 0, 1) := by decide +kernel
theorem dX7_append_2 : decode cX7_append 2 = .ok (.bipush 127, 2) := by decide +kernel
theorem dX7_append_4 : decode cX7_append 4 = .ok (.invokestatic 80, 3) := by decide +kernel
theorem dX7_append_7 : decode cX7_append 7 = .ok (.aload_n 0, 1) := by decide +kernel
theorem dX7_append_8 : decode cX7_append 8 = .ok (.getfield 26, 3) := by decide +kernel
theorem dX7_append_11 : decode cX7_append 11 = .ok (.getfield 221, 3) := by decide +kernel
theorem dX7_append_14 : decode cX7_append 14 = .ok (.bipush 120, 2) := by decide +kernel
theorem dX7_append_16 : decode cX7_append 16 = .ok (.if_icmp .lt 13, 3) := by decide +kernel
theorem dX7_append_19 : decode cX7_append 19 = .ok (.new 202, 3) := by decide +kernel
theorem dX7_append_22 : decode cX7_append 22 = .ok (.dup, 1) := by decide +kernel
theorem dX7_append_23 : decode cX7_append 23 = .ok (.ldc 224, 2) := by decide +kernel
theorem dX7_append_25 : decode cX7_append 25 = .ok (.invokespecial 206, 3) := by decide +kernel
theorem dX7_append_28 : decode cX7_append 28 = .ok (.athrow, 1) := by decide +kernel
theorem dX7_append_29 : decode cX7_append 29 = .ok (.aload_n 0, 1) := by decide +kernel
theorem dX7_append_30 : decode cX7_append 30 = .ok (.getfield 26, 3) := by decide +kernel
theorem dX7_append_33 : decode cX7_append 33 = .ok (.iload_n 1, 1) := by decide +kernel
theorem dX7_append_34 : decode cX7_append 34 = .ok (.invokevirtual 226, 3) := by decide +kernel
theorem dX7_append_37 : decode cX7_append 37 = .ok (.ireturn, 1) := by decide +kernel
set_option maxRecDepth 20000 in
theorem ggX7_clearText_X4_wipe : GoodIn wsX7_clearText wsX4_wipe := goodIn_r _ [6, 7, 12, 13, 14, 15, 16] (by decide +kernel) (by decide +kernel)
set_option maxRecDepth 20000 in
theorem gX7_clearText_X4_wipe : GoodIn wsX7_clearText (wsV RX7 229 RX4 yX4_wipe wsX4_wipe) := goodIn_app (goodIn_of _ (by decide +kernel)) ggX7_clearText_X4_wipe
theorem dX7_clearText_0 : decode cX7_clearText 0 = .ok (.aload_n 0, 1) := by decide +kernel
theorem dX7_clearText_1 : decode cX7_clearText 1 = .ok (.getfield 26, 3) := by decide +kernel
theorem dX7_clearText_4 : decode cX7_clearText 4 = .ok (.invokevirtual 229, 3) := by decide +kernel
theorem dX7_clearText_7 : decode cX7_clearText 7 = .ok (.ireturn, 1) := by decide +kernel
set_option maxRecDepth 20000 in
theorem ggX7_carryOut_X4_syntaxError : GoodIn wsX7_carryOut wsX4_syntaxError := goodIn_r _ [8, 9, 10, 11, 12, 13, 7, 14, 15, 16, 17, 18, 19, 20, 21, 22, 23, 24, 25, 26, 27, 28, 29, 30, 31, 32, 33, 34, 35, 36, 37, 38, 39, 217, 218, 219, 220, 221] (by decide +kernel) (by decide +kernel)
set_option maxRecDepth 20000 in
theorem gX7_carryOut_X4_syntaxError : GoodIn wsX7_carryOut (wsV RX7 232 RX4 yX4_syntaxError wsX4_syntaxError) := goodIn_app (goodIn_of _ (by decide +kernel)) ggX7_carryOut_X4_syntaxError
set_option maxRecDepth 20000 in
theorem ggX7_carryOut_X2_keep : GoodIn wsX7_carryOut wsX2_keep := goodIn_r _ [44, 45, 46, 47, 43, 48, 49, 50, 51, 52, 53, 54, 55, 56, 57, 58, 59, 60, 61, 62, 63, 64, 65, 66, 67, 68, 69, 70, 71, 72, 73, 74, 75, 76, 77, 78, 79, 80, 81, 82, 83, 84, 85, 86, 87, 88, 89, 90, 91, 92, 93, 222, 223, 224, 225, 226, 227, 228, 229, 230, 231, 232, 233] (by decide +kernel) (by decide +kernel)
set_option maxRecDepth 20000 in
theorem gX7_carryOut_X2_keep : GoodIn wsX7_carryOut (wsV RX7 37 RX2 yX2_keep wsX2_keep) := goodIn_app (goodIn_of _ (by decide +kernel)) ggX7_carryOut_X2_keep
set_option maxRecDepth 20000 in
theorem ggX7_carryOut_X4_restart : GoodIn wsX7_carryOut wsX4_restart := goodIn_r _ [14, 9, 217, 218, 219, 220, 221] (by decide +kernel) (by decide +kernel)
set_option maxRecDepth 20000 in
theorem gX7_carryOut_X4_restart : GoodIn wsX7_carryOut (wsV RX7 235 RX4 yX4_restart wsX4_restart) := goodIn_app (goodIn_of _ (by decide +kernel)) ggX7_carryOut_X4_restart
set_option maxRecDepth 20000 in
theorem ggX7_carryOut_X4_readCommand : GoodIn wsX7_carryOut wsX4_readCommand := goodIn_r _ [18, 19, 9, 20, 21, 22, 7, 23, 10, 24, 25, 26, 27, 28, 29, 30, 31, 32, 33, 34, 35, 36, 37, 38, 39, 217, 218, 219, 220, 221] (by decide +kernel) (by decide +kernel)
set_option maxRecDepth 20000 in
theorem gX7_carryOut_X4_readCommand : GoodIn wsX7_carryOut (wsV RX7 238 RX4 yX4_readCommand wsX4_readCommand) := goodIn_app (goodIn_of _ (by decide +kernel)) ggX7_carryOut_X4_readCommand
set_option maxRecDepth 20000 in
theorem ggX7_carryOut_X7_perform : GoodIn wsX7_carryOut wsX7_perform := goodIn_r _ [99, 1, 100, 3, 101, 102, 103, 104, 105, 7, 106, 32, 107, 108, 109, 59, 110, 61, 111, 112, 113, 114, 37, 38, 39, 115, 116, 117, 118, 119, 120, 121, 122, 68, 123, 71, 124, 125, 126, 127, 128, 129, 130, 131, 79, 132, 133, 134, 135, 136, 137, 138, 139, 140, 141, 142, 143, 144, 145, 146, 147, 148, 149, 150, 151, 152, 153, 154, 155, 156, 157, 158, 159, 160, 161, 62, 162, 163, 164, 87, 165, 89, 166, 167, 168, 169, 170, 171, 172, 173, 92, 174, 175, 176, 177, 178, 179, 180, 181, 182, 183, 184, 185, 186, 187, 188, 189, 190, 191, 192, 193, 194, 195, 196, 197, 198, 199, 200, 201, 202, 203, 204, 213, 214, 215, 216, 217, 218, 219, 220, 221, 225, 226, 227, 228, 229, 230, 231, 232, 233] (by decide +kernel) (by decide +kernel)
set_option maxRecDepth 20000 in
theorem gX7_carryOut_X7_perform : GoodIn wsX7_carryOut (wsV RX7 242 RX7 yX7_perform wsX7_perform) := goodIn_app (goodIn_of _ (by decide +kernel)) ggX7_carryOut_X7_perform
set_option maxRecDepth 20000 in
theorem ggX7_carryOut_X2_bringBack : GoodIn wsX7_carryOut wsX2_bringBack := goodIn_r _ [208, 45, 46, 47, 43, 48, 49, 50, 51, 52, 53, 54, 55, 56, 57, 58, 59, 60, 61, 62, 63, 64, 65, 66, 67, 68, 69, 70, 71, 72, 73, 74, 75, 76, 77, 78, 79, 80, 81, 82, 83, 84, 85, 86, 87, 88, 89, 90, 91, 92, 93, 222, 223, 224, 225, 226, 227, 228, 229, 230, 231, 232, 233] (by decide +kernel) (by decide +kernel)
set_option maxRecDepth 20000 in
theorem gX7_carryOut_X2_bringBack : GoodIn wsX7_carryOut (wsV RX7 245 RX2 yX2_bringBack wsX2_bringBack) := goodIn_app (goodIn_of _ (by decide +kernel)) ggX7_carryOut_X2_bringBack
set_option maxRecDepth 20000 in
theorem ggX7_carryOut_X2_confirm : GoodIn wsX7_carryOut wsX2_confirm := goodIn_r _ [212, 51, 50, 222, 223, 224] (by decide +kernel) (by decide +kernel)
set_option maxRecDepth 20000 in
theorem gX7_carryOut_X2_confirm : GoodIn wsX7_carryOut (wsV RX7 248 RX2 yX2_confirm wsX2_confirm) := goodIn_app (goodIn_of _ (by decide +kernel)) ggX7_carryOut_X2_confirm
theorem dX7_carryOut_0 : decode cX7_carryOut 0 = .ok (.aload_n 0, 1) := by decide +kernel
theorem dX7_carryOut_1 : decode cX7_carryOut 1 = .ok (.getfield 26, 3) := by decide +kernel
theorem dX7_carryOut_4 : decode cX7_carryOut 4 = .ok (.invokevirtual 232, 3) := by decide +kernel
theorem dX7_carryOut_7 : decode cX7_carryOut 7 = .ok (.istore_n 1, 1) := by decide +kernel
theorem dX7_carryOut_8 : decode cX7_carryOut 8 = .ok (.iload_n 1, 1) := by decide +kernel
theorem dX7_carryOut_9 : decode cX7_carryOut 9 = .ok (.iconst (-1), 1) := by decide +kernel
theorem dX7_carryOut_10 : decode cX7_carryOut 10 = .ok (.if_icmp .eq 8, 3) := by decide +kernel
theorem dX7_carryOut_13 : decode cX7_carryOut 13 = .ok (.bipush (-10), 2) := by decide +kernel
theorem dX7_carryOut_15 : decode cX7_carryOut 15 = .ok (.iload_n 1, 1) := by decide +kernel
theorem dX7_carryOut_16 : decode cX7_carryOut 16 = .ok (.isub, 1) := by decide +kernel
theorem dX7_carryOut_17 : decode cX7_carryOut 17 = .ok (.ireturn, 1) := by decide +kernel
theorem dX7_carryOut_18 : decode cX7_carryOut 18 = .ok (.aload_n 0, 1) := by decide +kernel
theorem dX7_carryOut_19 : decode cX7_carryOut 19 = .ok (.getfield 19, 3) := by decide +kernel
theorem dX7_carryOut_22 : decode cX7_carryOut 22 = .ok (.aload_n 0, 1) := by decide +kernel
theorem dX7_carryOut_23 : decode cX7_carryOut 23 = .ok (.getfield 10, 3) := by decide +kernel
theorem dX7_carryOut_26 : decode cX7_carryOut 26 = .ok (.invokevirtual 37, 3) := by decide +kernel
theorem dX7_carryOut_29 : decode cX7_carryOut 29 = .ok (.aload_n 0, 1) := by decide +kernel
theorem dX7_carryOut_30 : decode cX7_carryOut 30 = .ok (.getfield 26, 3) := by decide +kernel
theorem dX7_carryOut_33 : decode cX7_carryOut 33 = .ok (.invokevirtual 235, 3) := by decide +kernel
theorem dX7_carryOut_36 : decode cX7_carryOut 36 = .ok (.iconst 0, 1) := by decide +kernel
theorem dX7_carryOut_37 : decode cX7_carryOut 37 = .ok (.istore_n 2, 1) := by decide +kernel
theorem dX7_carryOut_38 : decode cX7_carryOut 38 = .ok (.iload_n 2, 1) := by decide +kernel
theorem dX7_carryOut_39 : decode cX7_carryOut 39 = .ok (.bipush 120, 2) := by decide +kernel
theorem dX7_carryOut_41 : decode cX7_carryOut 41 = .ok (.if_icmp .ge 43, 3) := by decide +kernel
theorem dX7_carryOut_44 : decode cX7_carryOut 44 = .ok (.aload_n 0, 1) := by decide +kernel
theorem dX7_carryOut_45 : decode cX7_carryOut 45 = .ok (.getfield 26, 3) := by decide +kernel
theorem dX7_carryOut_48 : decode cX7_carryOut 48 = .ok (.invokevirtual 238, 3) := by decide +kernel
theorem dX7_carryOut_51 : decode cX7_carryOut 51 = .ok (.ifCond .eq 33, 3) := by decide +kernel
theorem dX7_carryOut_54 : decode cX7_carryOut 54 = .ok (.aload_n 0, 1) := by decide +kernel
theorem dX7_carryOut_55 : decode cX7_carryOut 55 = .ok (.invokevirtual 242, 3) := by decide +kernel
theorem dX7_carryOut_58 : decode cX7_carryOut 58 = .ok (.ifCond .ge 20, 3) := by decide +kernel
theorem dX7_carryOut_61 : decode cX7_carryOut 61 = .ok (.aload_n 0, 1) := by decide +kernel
theorem dX7_carryOut_62 : decode cX7_carryOut 62 = .ok (.getfield 19, 3) := by decide +kernel
theorem dX7_carryOut_65 : decode cX7_carryOut 65 = .ok (.aload_n 0, 1) := by decide +kernel
theorem dX7_carryOut_66 : decode cX7_carryOut 66 = .ok (.getfield 10, 3) := by decide +kernel
theorem dX7_carryOut_69 : decode cX7_carryOut 69 = .ok (.invokevirtual 245, 3) := by decide +kernel
theorem dX7_carryOut_72 : decode cX7_carryOut 72 = .ok (.sipush (-1000), 3) := by decide +kernel
theorem dX7_carryOut_75 : decode cX7_carryOut 75 = .ok (.iload_n 2, 1) := by decide +kernel
theorem dX7_carryOut_76 : decode cX7_carryOut 76 = .ok (.isub, 1) := by decide +kernel
theorem dX7_carryOut_77 : decode cX7_carryOut 77 = .ok (.ireturn, 1) := by decide +kernel
theorem dX7_carryOut_78 : decode cX7_carryOut 78 = .ok (.iinc 2 1, 3) := by decide +kernel
theorem dX7_carryOut_81 : decode cX7_carryOut 81 = .ok (.goto (-43), 3) := by decide +kernel
theorem dX7_carryOut_84 : decode cX7_carryOut 84 = .ok (.aload_n 0, 1) := by decide +kernel
theorem dX7_carryOut_85 : decode cX7_carryOut 85 = .ok (.getfield 19, 3) := by decide +kernel
theorem dX7_carryOut_88 : decode cX7_carryOut 88 = .ok (.invokevirtual 248, 3) := by decide +kernel
theorem dX7_carryOut_91 : decode cX7_carryOut 91 = .ok (.iload_n 2, 1) := by decide +kernel
theorem dX7_carryOut_92 : decode cX7_carryOut 92 = .ok (.ireturn, 1) := by decide +kernel
set_option maxRecDepth 20000 in
theorem ggX7_undo_X2_takeBack : GoodIn wsX7_undo wsX2_takeBack := goodIn_r _ [10, 11, 12, 13, 14, 9, 15, 16, 17, 18, 19, 20, 21, 22, 23, 24, 25, 26, 27, 28, 29, 30, 31, 32, 33, 34, 35, 36, 37, 38, 39, 40, 41, 42, 43, 44, 45, 46, 47, 48, 49, 50, 51, 52, 53, 54, 55, 56, 57, 58, 59, 60, 61, 62, 63, 68, 69, 70, 71, 72, 73, 74, 75, 76, 77, 78, 79] (by decide +kernel) (by decide +kernel)
set_option maxRecDepth 20000 in
theorem gX7_undo_X2_takeBack : GoodIn wsX7_undo (wsV RX7 256 RX2 yX2_takeBack wsX2_takeBack) := goodIn_app (goodIn_of _ (by decide +kernel)) ggX7_undo_X2_takeBack
theorem dX7_undo_0 : decode cX7_undo 0 = .ok (.aload_n 0, 1) := by decide +kernel
theorem dX7_undo_1 : decode cX7_undo 1 = .ok (.getfield 19, 3) := by decide +kernel
theorem dX7_undo_4 : decode cX7_undo 4 = .ok (.getfield 251, 3) := by decide +kernel
theorem dX7_undo_7 : decode cX7_undo 7 = .ok (.ifCond .gt 13, 3) := by decide +kernel
theorem dX7_undo_10 : decode cX7_undo 10 = .ok (.new 202, 3) := by decide +kernel
theorem dX7_undo_13 : decode cX7_undo 13 = .ok (.dup, 1) := by decide +kernel
theorem dX7_undo_14 : decode cX7_undo 14 = .ok (.ldc 254, 2) := by decide +kernel
theorem dX7_undo_16 : decode cX7_undo 16 = .ok (.invokespecial 206, 3) := by decide +kernel
theorem dX7_undo_19 : decode cX7_undo 19 = .ok (.athrow, 1) := by decide +kernel
theorem dX7_undo_20 : decode cX7_undo 20 = .ok (.aload_n 0, 1) := by decide +kernel
theorem dX7_undo_21 : decode cX7_undo 21 = .ok (.getfield 19, 3) := by decide +kernel
theorem dX7_undo_24 : decode cX7_undo 24 = .ok (.aload_n 0, 1) := by decide +kernel
theorem dX7_undo_25 : decode cX7_undo 25 = .ok (.getfield 10, 3) := by decide +kernel
theorem dX7_undo_28 : decode cX7_undo 28 = .ok (.invokevirtual 256, 3) := by decide +kernel
theorem dX7_undo_31 : decode cX7_undo 31 = .ok (.ireturn, 1) := by decide +kernel
set_option maxRecDepth 20000 in
theorem ggX7_digest_X7_mixed : GoodIn wsX7_digest wsX7_mixed := goodIn_r _ [15, 16] (by decide +kernel) (by decide +kernel)
set_option maxRecDepth 20000 in
theorem gX7_digest_X7_mixed : GoodIn wsX7_digest (va_wsS RX7 262 yX7_mixed wsX7_mixed) := goodIn_app (goodIn_of _ (by decide +kernel)) ggX7_digest_X7_mixed
set_option maxRecDepth 20000 in
theorem ggX7_digest_X6_mixedInto : GoodIn wsX7_digest wsX6_mixedInto := goodIn_r _ [21, 22, 23, 13, 14, 15, 16, 24, 25, 26, 20, 27, 28, 133, 134, 135] (by decide +kernel) (by decide +kernel)
set_option maxRecDepth 20000 in
theorem gX7_digest_X6_mixedInto : GoodIn wsX7_digest (wsV RX7 266 RX6 yX6_mixedInto wsX6_mixedInto) := goodIn_app (goodIn_of _ (by decide +kernel)) ggX7_digest_X6_mixedInto
set_option maxRecDepth 20000 in
theorem ggX7_digest_X3_mixedInto : GoodIn wsX7_digest wsX3_mixedInto := goodIn_r _ [33, 34, 13, 14, 15, 16, 35, 36, 37, 32, 38, 39, 40, 41, 42, 43, 44, 45, 46, 47, 48, 139, 140] (by decide +kernel) (by decide +kernel)
set_option maxRecDepth 20000 in
theorem gX7_digest_X3_mixedInto : GoodIn wsX7_digest (wsV RX7 270 RX3 yX3_mixedInto wsX3_mixedInto) := goodIn_app (goodIn_of _ (by decide +kernel)) ggX7_digest_X3_mixedInto
set_option maxRecDepth 20000 in
theorem ggX7_digest_X1_build : GoodIn wsX7_digest wsX1_build := goodIn_r _ [53, 54, 55, 56, 57, 58, 59, 20, 60, 23, 61, 62, 63, 64, 65, 66, 67, 68, 24, 25, 26, 27, 28, 69, 70, 71, 72, 73, 74, 75, 76, 77, 78, 79, 80, 81, 82, 83, 84, 85, 86, 87, 88, 89, 90, 91, 141, 142, 143, 133, 134, 135] (by decide +kernel) (by decide +kernel)
set_option maxRecDepth 20000 in
theorem gX7_digest_X1_build : GoodIn wsX7_digest (wsV RX7 274 RX1 yX1_build wsX1_build) := goodIn_app (goodIn_of _ (by decide +kernel)) ggX7_digest_X1_build
set_option maxRecDepth 20000 in
theorem ggX7_digest_X1_mixedInto : GoodIn wsX7_digest wsX1_mixedInto := goodIn_r _ [95, 54, 13, 14, 15, 16, 96, 97, 98, 52, 99, 100, 101, 102, 103, 104, 105, 106, 107, 56, 108, 109, 110, 111, 55, 141, 142, 143] (by decide +kernel) (by decide +kernel)
set_option maxRecDepth 20000 in
theorem gX7_digest_X1_mixedInto : GoodIn wsX7_digest (wsV RX7 278 RX1 yX1_mixedInto wsX1_mixedInto) := goodIn_app (goodIn_of _ (by decide +kernel)) ggX7_digest_X1_mixedInto
set_option maxRecDepth 20000 in
theorem ggX7_digest_X1_sumBetween : GoodIn wsX7_digest wsX1_sumBetween := goodIn_r _ [115, 54, 116, 86, 87, 88, 117, 90, 91, 118, 100, 101, 102, 52, 103, 104, 105, 106, 107, 56, 108, 109, 110, 111, 55, 119, 74, 75, 20, 76, 24, 25, 26, 27, 28, 141, 142, 143, 133, 134, 135] (by decide +kernel) (by decide +kernel)
set_option maxRecDepth 20000 in
theorem gX7_digest_X1_sumBetween : GoodIn wsX7_digest (wsV RX7 129 RX1 yX1_sumBetween wsX1_sumBetween) := goodIn_app (goodIn_of _ (by decide +kernel)) ggX7_digest_X1_sumBetween
theorem dX7_digest_0 : decode cX7_digest 0 = .ok (.aload_n 0, 1) := by decide +kernel
theorem dX7_digest_1 : decode cX7_digest 1 = .ok (.getfield 10, 3) := by decide +kernel
theorem dX7_digest_4 : decode cX7_digest 4 = .ok (.getfield 63, 3) := by decide +kernel
theorem dX7_digest_7 : decode cX7_digest 7 = .ok (.astore_n 1, 1) := by decide +kernel
theorem dX7_digest_8 : decode cX7_digest 8 = .ok (.ldc2_w 260, 3) := by decide +kernel
theorem dX7_digest_11 : decode cX7_digest 11 = .ok (.aload_n 0, 1) := by decide +kernel
theorem dX7_digest_12 : decode cX7_digest 12 = .ok (.getfield 26, 3) := by decide +kernel
theorem dX7_digest_15 : decode cX7_digest 15 = .ok (.getfield 221, 3) := by decide +kernel
theorem dX7_digest_18 : decode cX7_digest 18 = .ok (.i2l, 1) := by decide +kernel
theorem dX7_digest_19 : decode cX7_digest 19 = .ok (.invokestatic 262, 3) := by decide +kernel
theorem dX7_digest_22 : decode cX7_digest 22 = .ok (.lstore_n 2, 1) := by decide +kernel
theorem dX7_digest_23 : decode cX7_digest 23 = .ok (.aload_n 1, 1) := by decide +kernel
theorem dX7_digest_24 : decode cX7_digest 24 = .ok (.lload_n 2, 1) := by decide +kernel
theorem dX7_digest_25 : decode cX7_digest 25 = .ok (.invokevirtual 266, 3) := by decide +kernel
theorem dX7_digest_28 : decode cX7_digest 28 = .ok (.lstore_n 2, 1) := by decide +kernel
theorem dX7_digest_29 : decode cX7_digest 29 = .ok (.aload_n 0, 1) := by decide +kernel
theorem dX7_digest_30 : decode cX7_digest 30 = .ok (.getfield 10, 3) := by decide +kernel
theorem dX7_digest_33 : decode cX7_digest 33 = .ok (.getfield 185, 3) := by decide +kernel
theorem dX7_digest_36 : decode cX7_digest 36 = .ok (.lload_n 2, 1) := by decide +kernel
theorem dX7_digest_37 : decode cX7_digest 37 = .ok (.invokevirtual 270, 3) := by decide +kernel
theorem dX7_digest_40 : decode cX7_digest 40 = .ok (.lstore_n 2, 1) := by decide +kernel
theorem dX7_digest_41 : decode cX7_digest 41 = .ok (.lload_n 2, 1) := by decide +kernel
theorem dX7_digest_42 : decode cX7_digest 42 = .ok (.aload_n 0, 1) := by decide +kernel
theorem dX7_digest_43 : decode cX7_digest 43 = .ok (.getfield 10, 3) := by decide +kernel
theorem dX7_digest_46 : decode cX7_digest 46 = .ok (.getfield 271, 3) := by decide +kernel
theorem dX7_digest_49 : decode cX7_digest 49 = .ok (.i2l, 1) := by decide +kernel
theorem dX7_digest_50 : decode cX7_digest 50 = .ok (.invokestatic 262, 3) := by decide +kernel
theorem dX7_digest_53 : decode cX7_digest 53 = .ok (.lstore_n 2, 1) := by decide +kernel
theorem dX7_digest_54 : decode cX7_digest 54 = .ok (.aload_n 0, 1) := by decide +kernel
theorem dX7_digest_55 : decode cX7_digest 55 = .ok (.getfield 33, 3) := by decide +kernel
theorem dX7_digest_58 : decode cX7_digest 58 = .ok (.aload_n 1, 1) := by decide +kernel
theorem dX7_digest_59 : decode cX7_digest 59 = .ok (.aload_n 1, 1) := by decide +kernel
theorem dX7_digest_60 : decode cX7_digest 60 = .ok (.getfield 67, 3) := by decide +kernel
theorem dX7_digest_63 : decode cX7_digest 63 = .ok (.invokevirtual 274, 3) := by decide +kernel
theorem dX7_digest_66 : decode cX7_digest 66 = .ok (.aload_n 0, 1) := by decide +kernel
theorem dX7_digest_67 : decode cX7_digest 67 = .ok (.getfield 33, 3) := by decide +kernel
theorem dX7_digest_70 : decode cX7_digest 70 = .ok (.lload_n 2, 1) := by decide +kernel
theorem dX7_digest_71 : decode cX7_digest 71 = .ok (.invokevirtual 278, 3) := by decide +kernel
theorem dX7_digest_74 : decode cX7_digest 74 = .ok (.lstore_n 2, 1) := by decide +kernel
theorem dX7_digest_75 : decode cX7_digest 75 = .ok (.lload_n 2, 1) := by decide +kernel
theorem dX7_digest_76 : decode cX7_digest 76 = .ok (.aload_n 0, 1) := by decide +kernel
theorem dX7_digest_77 : decode cX7_digest 77 = .ok (.getfield 33, 3) := by decide +kernel
theorem dX7_digest_80 : decode cX7_digest 80 = .ok (.aload_n 1, 1) := by decide +kernel
theorem dX7_digest_81 : decode cX7_digest 81 = .ok (.iconst 0, 1) := by decide +kernel
theorem dX7_digest_82 : decode cX7_digest 82 = .ok (.sipush 255, 3) := by decide +kernel
theorem dX7_digest_85 : decode cX7_digest 85 = .ok (.invokevirtual 129, 3) := by decide +kernel
theorem dX7_digest_88 : decode cX7_digest 88 = .ok (.invokestatic 262, 3) := by decide +kernel
theorem dX7_digest_91 : decode cX7_digest 91 = .ok (.lstore_n 2, 1) := by decide +kernel
theorem dX7_digest_92 : decode cX7_digest 92 = .ok (.lload_n 2, 1) := by decide +kernel
theorem dX7_digest_93 : decode cX7_digest 93 = .ok (.aload_n 0, 1) := by decide +kernel
theorem dX7_digest_94 : decode cX7_digest 94 = .ok (.getfield 19, 3) := by decide +kernel
theorem dX7_digest_97 : decode cX7_digest 97 = .ok (.getfield 251, 3) := by decide +kernel
theorem dX7_digest_100 : decode cX7_digest 100 = .ok (.i2l, 1) := by decide +kernel
theorem dX7_digest_101 : decode cX7_digest 101 = .ok (.invokestatic 262, 3) := by decide +kernel
theorem dX7_digest_104 : decode cX7_digest 104 = .ok (.lreturn, 1) := by decide +kernel
set_option maxRecDepth 20000 in
theorem ggX7_confirmed_X2_confirm : GoodIn wsX7_confirmed wsX2_confirm := goodIn_r _ [12, 13, 14, 19, 20, 21] (by decide +kernel) (by decide +kernel)
set_option maxRecDepth 20000 in
theorem gX7_confirmed_X2_confirm : GoodIn wsX7_confirmed (wsV RX7 248 RX2 yX2_confirm wsX2_confirm) := goodIn_app (goodIn_of _ (by decide +kernel)) ggX7_confirmed_X2_confirm
theorem dX7_confirmed_0 : decode cX7_confirmed 0 = .ok (.iload_n 1, 1) := by decide +kernel
theorem dX7_confirmed_1 : decode cX7_confirmed 1 = .ok (.iconst (-1), 1) := by decide +kernel
theorem dX7_confirmed_2 : decode cX7_confirmed 2 = .ok (.if_icmp .ne 14, 3) := by decide +kernel
theorem dX7_confirmed_5 : decode cX7_confirmed 5 = .ok (.new 123, 3) := by decide +kernel
theorem dX7_confirmed_8 : decode cX7_confirmed 8 = .ok (.dup, 1) := by decide +kernel
theorem dX7_confirmed_9 : decode cX7_confirmed 9 = .ok (.ldc_w 279, 3) := by decide +kernel
theorem dX7_confirmed_12 : decode cX7_confirmed 12 = .ok (.invokespecial 127, 3) := by decide +kernel
theorem dX7_confirmed_15 : decode cX7_confirmed 15 = .ok (.athrow, 1) := by decide +kernel
theorem dX7_confirmed_16 : decode cX7_confirmed 16 = .ok (.iload_n 1, 1) := by decide +kernel
theorem dX7_confirmed_17 : decode cX7_confirmed 17 = .ok (.bipush (-2), 2) := by decide +kernel
theorem dX7_confirmed_19 : decode cX7_confirmed 19 = .ok (.if_icmp .ne 14, 3) := by decide +kernel
theorem dX7_confirmed_22 : decode cX7_confirmed 22 = .ok (.new 101, 3) := by decide +kernel
theorem dX7_confirmed_25 : decode cX7_confirmed 25 = .ok (.dup, 1) := by decide +kernel
theorem dX7_confirmed_26 : decode cX7_confirmed 26 = .ok (.ldc_w 281, 3) := by decide +kernel
theorem dX7_confirmed_29 : decode cX7_confirmed 29 = .ok (.invokespecial 105, 3) := by decide +kernel
theorem dX7_confirmed_32 : decode cX7_confirmed 32 = .ok (.athrow, 1) := by decide +kernel
theorem dX7_confirmed_33 : decode cX7_confirmed 33 = .ok (.iload_n 1, 1) := by decide +kernel
theorem dX7_confirmed_34 : decode cX7_confirmed 34 = .ok (.ifCond .ge 14, 3) := by decide +kernel
theorem dX7_confirmed_37 : decode cX7_confirmed 37 = .ok (.new 202, 3) := by decide +kernel
theorem dX7_confirmed_40 : decode cX7_confirmed 40 = .ok (.dup, 1) := by decide +kernel
theorem dX7_confirmed_41 : decode cX7_confirmed 41 = .ok (.ldc_w 283, 3) := by decide +kernel
theorem dX7_confirmed_44 : decode cX7_confirmed 44 = .ok (.invokespecial 206, 3) := by decide +kernel
theorem dX7_confirmed_47 : decode cX7_confirmed 47 = .ok (.athrow, 1) := by decide +kernel
theorem dX7_confirmed_48 : decode cX7_confirmed 48 = .ok (.aload_n 0, 1) := by decide +kernel
theorem dX7_confirmed_49 : decode cX7_confirmed 49 = .ok (.getfield 19, 3) := by decide +kernel
theorem dX7_confirmed_52 : decode cX7_confirmed 52 = .ok (.invokevirtual 248, 3) := by decide +kernel
theorem dX7_confirmed_55 : decode cX7_confirmed 55 = .ok (.iload_n 1, 1) := by decide +kernel
theorem dX7_confirmed_56 : decode cX7_confirmed 56 = .ok (.ireturn, 1) := by decide +kernel
set_option maxRecDepth 20000 in
theorem ggX7_perform_X4_number : GoodIn wsX7_perform wsX4_number := goodIn_r _ [10, 11, 126, 127, 128, 129, 130] (by decide +kernel) (by decide +kernel)
set_option maxRecDepth 20000 in
theorem gX7_perform_X4_number : GoodIn wsX7_perform (wsV RX7 288 RX4 yX4_number wsX4_number) := goodIn_app (goodIn_of _ (by decide +kernel)) ggX7_perform_X4_number
set_option maxRecDepth 20000 in
theorem ggX7_perform_X5_tryAdd : GoodIn wsX7_perform wsX5_tryAdd := goodIn_r _ [16, 17, 18, 19, 20, 15, 21, 22, 23, 24, 25, 26, 27, 28, 29, 30, 31, 32, 33, 34, 35, 36, 37, 38, 39, 40, 41, 42, 43, 44, 131, 132, 133, 134, 135, 136, 137] (by decide +kernel) (by decide +kernel)
set_option maxRecDepth 20000 in
theorem gX7_perform_X5_tryAdd : GoodIn wsX7_perform (wsV RX7 41 RX5 yX5_tryAdd wsX5_tryAdd) := goodIn_app (goodIn_of _ (by decide +kernel)) ggX7_perform_X5_tryAdd
set_option maxRecDepth 20000 in
theorem ggX7_perform_X5_tryEnd : GoodIn wsX7_perform wsX5_tryEnd := goodIn_r _ [48, 17, 18, 49, 50, 51, 33, 52, 35, 53, 54, 55, 56, 57, 58, 59, 60, 44, 61, 41, 42, 43, 62, 131, 132, 133, 134, 135, 136, 137] (by decide +kernel) (by decide +kernel)
set_option maxRecDepth 20000 in
theorem gX7_perform_X5_tryEnd : GoodIn wsX7_perform (wsV RX7 53 RX5 yX5_tryEnd wsX5_tryEnd) := goodIn_app (goodIn_of _ (by decide +kernel)) ggX7_perform_X5_tryEnd
set_option maxRecDepth 20000 in
theorem ggX7_perform_X5_tryPass : GoodIn wsX7_perform wsX5_tryPass := goodIn_r _ [66, 17, 18, 22, 23, 24, 131, 132, 133, 134, 135, 136, 137] (by decide +kernel) (by decide +kernel)
set_option maxRecDepth 20000 in
theorem gX7_perform_X5_tryPass : GoodIn wsX7_perform (wsV RX7 60 RX5 yX5_tryPass wsX5_tryPass) := goodIn_app (goodIn_of _ (by decide +kernel)) ggX7_perform_X5_tryPass
set_option maxRecDepth 20000 in
theorem ggX7_perform_X5_tryLift : GoodIn wsX7_perform wsX5_tryLift := goodIn_r _ [70, 17, 18, 49, 50, 51, 33, 52, 35, 25, 26, 15, 27, 28, 29, 22, 23, 24, 62, 58, 59, 60, 44, 53, 54, 55, 56, 57, 30, 31, 32, 34, 61, 41, 42, 43, 36, 37, 38, 39, 40, 131, 132, 133, 134, 135, 136, 137] (by decide +kernel) (by decide +kernel)
set_option maxRecDepth 20000 in
theorem gX7_perform_X5_tryLift : GoodIn wsX7_perform (wsV RX7 56 RX5 yX5_tryLift wsX5_tryLift) := goodIn_app (goodIn_of _ (by decide +kernel)) ggX7_perform_X5_tryLift
set_option maxRecDepth 20000 in
theorem ggX7_perform_X5_tryCollect : GoodIn wsX7_perform wsX5_tryCollect := goodIn_r _ [74, 75, 22, 23, 24, 76, 77, 78, 79, 80, 81, 82, 83, 84, 85, 86, 87, 88, 89, 90, 131, 132, 133, 134, 138, 139] (by decide +kernel) (by decide +kernel)
set_option maxRecDepth 20000 in
theorem gX7_perform_X5_tryCollect : GoodIn wsX7_perform (wsV RX7 182 RX5 yX5_tryCollect wsX5_tryCollect) := goodIn_app (goodIn_of _ (by decide +kernel)) ggX7_perform_X5_tryCollect
set_option maxRecDepth 20000 in
theorem ggX7_perform_X3_answerAll : GoodIn wsX7_perform wsX3_answerAll := goodIn_r _ [94, 81, 95, 96, 97, 98, 79, 99, 90, 100, 101, 102, 33, 103, 35, 104, 105, 106, 107, 108, 109, 110, 111, 57, 58, 59, 60, 44, 112, 54, 55, 56, 113, 114, 115, 116, 86, 87, 88, 89, 117, 118, 119, 120, 121, 138, 139, 135, 136, 137] (by decide +kernel) (by decide +kernel)
set_option maxRecDepth 20000 in
theorem gX7_perform_X3_answerAll : GoodIn wsX7_perform (wsV RX7 189 RX3 yX3_answerAll wsX3_answerAll) := goodIn_app (goodIn_of _ (by decide +kernel)) ggX7_perform_X3_answerAll
theorem dX7_perform_0 : decode cX7_perform 0 = .ok (.aload_n 0, 1) := by decide +kernel
theorem dX7_perform_1 : decode cX7_perform 1 = .ok (.getfield 26, 3) := by decide +kernel
theorem dX7_perform_4 : decode cX7_perform 4 = .ok (.getfield 285, 3) := by decide +kernel
theorem dX7_perform_7 : decode cX7_perform 7 = .ok (.lookupswitch 169 #[(97, 49), (101, 89), (109, 121), (113, 145), (116, 105)], 49) := by decide +kernel
theorem dX7_perform_56 : decode cX7_perform 56 = .ok (.aload_n 0, 1) := by decide +kernel
theorem dX7_perform_57 : decode cX7_perform 57 = .ok (.getfield 10, 3) := by decide +kernel
theorem dX7_perform_60 : decode cX7_perform 60 = .ok (.aload_n 0, 1) := by decide +kernel
theorem dX7_perform_61 : decode cX7_perform 61 = .ok (.getfield 26, 3) := by decide +kernel
theorem dX7_perform_64 : decode cX7_perform 64 = .ok (.iconst 0, 1) := by decide +kernel
theorem dX7_perform_65 : decode cX7_perform 65 = .ok (.invokevirtual 288, 3) := by decide +kernel
theorem dX7_perform_68 : decode cX7_perform 68 = .ok (.aload_n 0, 1) := by decide +kernel
theorem dX7_perform_69 : decode cX7_perform 69 = .ok (.getfield 26, 3) := by decide +kernel
theorem dX7_perform_72 : decode cX7_perform 72 = .ok (.iconst 1, 1) := by decide +kernel
theorem dX7_perform_73 : decode cX7_perform 73 = .ok (.invokevirtual 288, 3) := by decide +kernel
theorem dX7_perform_76 : decode cX7_perform 76 = .ok (.aload_n 0, 1) := by decide +kernel
theorem dX7_perform_77 : decode cX7_perform 77 = .ok (.getfield 26, 3) := by decide +kernel
theorem dX7_perform_80 : decode cX7_perform 80 = .ok (.iconst 2, 1) := by decide +kernel
theorem dX7_perform_81 : decode cX7_perform 81 = .ok (.invokevirtual 288, 3) := by decide +kernel
theorem dX7_perform_84 : decode cX7_perform 84 = .ok (.aload_n 0, 1) := by decide +kernel
theorem dX7_perform_85 : decode cX7_perform 85 = .ok (.getfield 26, 3) := by decide +kernel
theorem dX7_perform_88 : decode cX7_perform 88 = .ok (.iconst 3, 1) := by decide +kernel
theorem dX7_perform_89 : decode cX7_perform 89 = .ok (.invokevirtual 288, 3) := by decide +kernel
theorem dX7_perform_92 : decode cX7_perform 92 = .ok (.invokevirtual 41, 3) := by decide +kernel
theorem dX7_perform_95 : decode cX7_perform 95 = .ok (.ireturn, 1) := by decide +kernel
theorem dX7_perform_96 : decode cX7_perform 96 = .ok (.aload_n 0, 1) := by decide +kernel
theorem dX7_perform_97 : decode cX7_perform 97 = .ok (.getfield 10, 3) := by decide +kernel
theorem dX7_perform_100 : decode cX7_perform 100 = .ok (.aload_n 0, 1) := by decide +kernel
theorem dX7_perform_101 : decode cX7_perform 101 = .ok (.getfield 26, 3) := by decide +kernel
theorem dX7_perform_104 : decode cX7_perform 104 = .ok (.iconst 0, 1) := by decide +kernel
theorem dX7_perform_105 : decode cX7_perform 105 = .ok (.invokevirtual 288, 3) := by decide +kernel
theorem dX7_perform_108 : decode cX7_perform 108 = .ok (.invokevirtual 53, 3) := by decide +kernel
theorem dX7_perform_111 : decode cX7_perform 111 = .ok (.ireturn, 1) := by decide +kernel
theorem dX7_perform_112 : decode cX7_perform 112 = .ok (.aload_n 0, 1) := by decide +kernel
theorem dX7_perform_113 : decode cX7_perform 113 = .ok (.getfield 10, 3) := by decide +kernel
theorem dX7_perform_116 : decode cX7_perform 116 = .ok (.aload_n 0, 1) := by decide +kernel
theorem dX7_perform_117 : decode cX7_perform 117 = .ok (.getfield 26, 3) := by decide +kernel
theorem dX7_perform_120 : decode cX7_perform 120 = .ok (.iconst 0, 1) := by decide +kernel
theorem dX7_perform_121 : decode cX7_perform 121 = .ok (.invokevirtual 288, 3) := by decide +kernel
theorem dX7_perform_124 : decode cX7_perform 124 = .ok (.invokevirtual 60, 3) := by decide +kernel
theorem dX7_perform_127 : decode cX7_perform 127 = .ok (.ireturn, 1) := by decide +kernel
theorem dX7_perform_128 : decode cX7_perform 128 = .ok (.aload_n 0, 1) := by decide +kernel
theorem dX7_perform_129 : decode cX7_perform 129 = .ok (.getfield 10, 3) := by decide +kernel
theorem dX7_perform_132 : decode cX7_perform 132 = .ok (.aload_n 0, 1) := by decide +kernel
theorem dX7_perform_133 : decode cX7_perform 133 = .ok (.getfield 26, 3) := by decide +kernel
theorem dX7_perform_136 : decode cX7_perform 136 = .ok (.iconst 0, 1) := by decide +kernel
theorem dX7_perform_137 : decode cX7_perform 137 = .ok (.invokevirtual 288, 3) := by decide +kernel
theorem dX7_perform_140 : decode cX7_perform 140 = .ok (.aload_n 0, 1) := by decide +kernel
theorem dX7_perform_141 : decode cX7_perform 141 = .ok (.getfield 26, 3) := by decide +kernel
theorem dX7_perform_144 : decode cX7_perform 144 = .ok (.iconst 1, 1) := by decide +kernel
theorem dX7_perform_145 : decode cX7_perform 145 = .ok (.invokevirtual 288, 3) := by decide +kernel
theorem dX7_perform_148 : decode cX7_perform 148 = .ok (.invokevirtual 56, 3) := by decide +kernel
theorem dX7_perform_151 : decode cX7_perform 151 = .ok (.ireturn, 1) := by decide +kernel
theorem dX7_perform_152 : decode cX7_perform 152 = .ok (.aload_n 0, 1) := by decide +kernel
theorem dX7_perform_153 : decode cX7_perform 153 = .ok (.getfield 10, 3) := by decide +kernel
theorem dX7_perform_156 : decode cX7_perform 156 = .ok (.aload_n 0, 1) := by decide +kernel
theorem dX7_perform_157 : decode cX7_perform 157 = .ok (.getfield 26, 3) := by decide +kernel
theorem dX7_perform_160 : decode cX7_perform 160 = .ok (.iconst 0, 1) := by decide +kernel
theorem dX7_perform_161 : decode cX7_perform 161 = .ok (.invokevirtual 288, 3) := by decide +kernel
theorem dX7_perform_164 : decode cX7_perform 164 = .ok (.aload_n 0, 1) := by decide +kernel
theorem dX7_perform_165 : decode cX7_perform 165 = .ok (.getfield 26, 3) := by decide +kernel
theorem dX7_perform_168 : decode cX7_perform 168 = .ok (.iconst 1, 1) := by decide +kernel
theorem dX7_perform_169 : decode cX7_perform 169 = .ok (.invokevirtual 288, 3) := by decide +kernel
theorem dX7_perform_172 : decode cX7_perform 172 = .ok (.invokevirtual 182, 3) := by decide +kernel
theorem dX7_perform_175 : decode cX7_perform 175 = .ok (.ireturn, 1) := by decide +kernel
theorem dX7_perform_176 : decode cX7_perform 176 = .ok (.aload_n 0, 1) := by decide +kernel
theorem dX7_perform_177 : decode cX7_perform 177 = .ok (.getfield 10, 3) := by decide +kernel
theorem dX7_perform_180 : decode cX7_perform 180 = .ok (.getfield 185, 3) := by decide +kernel
theorem dX7_perform_183 : decode cX7_perform 183 = .ok (.aload_n 0, 1) := by decide +kernel
theorem dX7_perform_184 : decode cX7_perform 184 = .ok (.getfield 10, 3) := by decide +kernel
theorem dX7_perform_187 : decode cX7_perform 187 = .ok (.getfield 63, 3) := by decide +kernel
theorem dX7_perform_190 : decode cX7_perform 190 = .ok (.invokevirtual 189, 3) := by decide +kernel
theorem dX7_perform_193 : decode cX7_perform 193 = .ok (.ireturn, 1) := by decide +kernel
set_option maxRecDepth 20000 in
theorem ggX7_buildEnvelope_X7_requireBetween : GoodIn wsX7_buildEnvelope wsX7_requireBetween := goodIn_ca (goodIn_r _ [7, 8, 9, 10, 11, 6, 12] (by decide +kernel) (by decide +kernel)) (goodIn_sub (fun _ h => List.mem_cons_of_mem _ (List.mem_append_right _ h)) (by decide +kernel))
set_option maxRecDepth 20000 in
theorem gX7_buildEnvelope_X7_requireBetween : GoodIn wsX7_buildEnvelope (va_wsS RX7 80 yX7_requireBetween wsX7_requireBetween) := goodIn_app (goodIn_of _ (by decide +kernel)) ggX7_buildEnvelope_X7_requireBetween
set_option maxRecDepth 20000 in
theorem ggX7_buildEnvelope_X1_build : GoodIn wsX7_buildEnvelope wsX1_build := goodIn_r _ [17, 18, 19, 20, 21, 22, 23, 24, 25, 26, 27, 28, 29, 30, 31, 32, 33, 34, 35, 36, 37, 38, 39, 40, 41, 42, 43, 44, 45, 46, 47, 48, 49, 50, 51, 52, 53, 54, 55, 56, 57, 58, 59, 60, 61, 62, 71, 72, 73, 74, 75, 76] (by decide +kernel) (by decide +kernel)
set_option maxRecDepth 20000 in
theorem gX7_buildEnvelope_X1_build : GoodIn wsX7_buildEnvelope (wsV RX7 274 RX1 yX1_build wsX1_build) := goodIn_app (goodIn_of _ (by decide +kernel)) ggX7_buildEnvelope_X1_build
theorem dX7_buildEnvelope_0 : decode cX7_buildEnvelope 0 = .ok (.iload_n 1, 1) := by decide +kernel
theorem dX7_buildEnvelope_1 : decode cX7_buildEnvelope 1 = .ok (.iconst 0, 1) := by decide +kernel
theorem dX7_buildEnvelope_2 : decode cX7_buildEnvelope 2 = .ok (.sipush 16384, 3) := by decide +kernel
theorem dX7_buildEnvelope_5 : decode cX7_buildEnvelope 5 = .ok (.invokestatic 80, 3) := by decide +kernel
theorem dX7_buildEnvelope_8 : decode cX7_buildEnvelope 8 = .ok (.aload_n 0, 1) := by decide +kernel
theorem dX7_buildEnvelope_9 : decode cX7_buildEnvelope 9 = .ok (.getfield 33, 3) := by decide +kernel
theorem dX7_buildEnvelope_12 : decode cX7_buildEnvelope 12 = .ok (.aload_n 0, 1) := by decide +kernel
theorem dX7_buildEnvelope_13 : decode cX7_buildEnvelope 13 = .ok (.getfield 10, 3) := by decide +kernel
theorem dX7_buildEnvelope_16 : decode cX7_buildEnvelope 16 = .ok (.getfield 63, 3) := by decide +kernel
theorem dX7_buildEnvelope_19 : decode cX7_buildEnvelope 19 = .ok (.iload_n 1, 1) := by decide +kernel
theorem dX7_buildEnvelope_20 : decode cX7_buildEnvelope 20 = .ok (.invokevirtual 274, 3) := by decide +kernel
theorem dX7_buildEnvelope_23 : decode cX7_buildEnvelope 23 = .ok (.return_, 1) := by decide +kernel
set_option maxRecDepth 20000 in
theorem ggX7_requireSegment_X6_has : GoodIn wsX7_requireSegment wsX6_has := goodIn_r _ [9, 10, 19, 20, 21] (by decide +kernel) (by decide +kernel)
set_option maxRecDepth 20000 in
theorem gX7_requireSegment_X6_has : GoodIn wsX7_requireSegment (wsV RX7 291 RX6 yX6_has wsX6_has) := goodIn_app (goodIn_of _ (by decide +kernel)) ggX7_requireSegment_X6_has
theorem dX7_requireSegment_0 : decode cX7_requireSegment 0 = .ok (.aload_n 0, 1) := by decide +kernel
theorem dX7_requireSegment_1 : decode cX7_requireSegment 1 = .ok (.getfield 10, 3) := by decide +kernel
theorem dX7_requireSegment_4 : decode cX7_requireSegment 4 = .ok (.getfield 63, 3) := by decide +kernel
theorem dX7_requireSegment_7 : decode cX7_requireSegment 7 = .ok (.iload_n 1, 1) := by decide +kernel
theorem dX7_requireSegment_8 : decode cX7_requireSegment 8 = .ok (.invokevirtual 291, 3) := by decide +kernel
theorem dX7_requireSegment_11 : decode cX7_requireSegment 11 = .ok (.ifCond .ne 14, 3) := by decide +kernel
theorem dX7_requireSegment_14 : decode cX7_requireSegment 14 = .ok (.new 123, 3) := by decide +kernel
theorem dX7_requireSegment_17 : decode cX7_requireSegment 17 = .ok (.dup, 1) := by decide +kernel
theorem dX7_requireSegment_18 : decode cX7_requireSegment 18 = .ok (.ldc_w 279, 3) := by decide +kernel
theorem dX7_requireSegment_21 : decode cX7_requireSegment 21 = .ok (.invokespecial 127, 3) := by decide +kernel
theorem dX7_requireSegment_24 : decode cX7_requireSegment 24 = .ok (.athrow, 1) := by decide +kernel
theorem dX7_requireSegment_25 : decode cX7_requireSegment 25 = .ok (.return_, 1) := by decide +kernel
set_option maxRecDepth 20000 in
theorem ggX7_requirePlace_X7_requireBetween : GoodIn wsX7_requirePlace wsX7_requireBetween := goodIn_ca (goodIn_r _ [4, 5, 6, 7, 8, 3, 9] (by decide +kernel) (by decide +kernel)) (goodIn_sub (fun _ h => List.mem_cons_of_mem _ (List.mem_append_right _ h)) (by decide +kernel))
set_option maxRecDepth 20000 in
theorem gX7_requirePlace_X7_requireBetween : GoodIn wsX7_requirePlace (va_wsS RX7 80 yX7_requireBetween wsX7_requireBetween) := goodIn_app (goodIn_of _ (by decide +kernel)) ggX7_requirePlace_X7_requireBetween
theorem dX7_requirePlace_0 : decode cX7_requirePlace 0 = .ok (.iload_n 0, 1) := by decide +kernel
theorem dX7_requirePlace_1 : decode cX7_requirePlace 1 = .ok (.iconst 0, 1) := by decide +kernel
theorem dX7_requirePlace_2 : decode cX7_requirePlace 2 = .ok (.sipush 255, 3) := by decide +kernel
theorem dX7_requirePlace_5 : decode cX7_requirePlace 5 = .ok (.invokestatic 80, 3) := by decide +kernel
theorem dX7_requirePlace_8 : decode cX7_requirePlace 8 = .ok (.iload_n 1, 1) := by decide +kernel
theorem dX7_requirePlace_9 : decode cX7_requirePlace 9 = .ok (.iconst 0, 1) := by decide +kernel
theorem dX7_requirePlace_10 : decode cX7_requirePlace 10 = .ok (.sipush 16384, 3) := by decide +kernel
theorem dX7_requirePlace_13 : decode cX7_requirePlace 13 = .ok (.invokestatic 80, 3) := by decide +kernel
theorem dX7_requirePlace_16 : decode cX7_requirePlace 16 = .ok (.return_, 1) := by decide +kernel
set_option maxRecDepth 20000 in
theorem ggX7_requireSpan_X7_requireBetween : GoodIn wsX7_requireSpan wsX7_requireBetween := goodIn_ca (goodIn_r _ [4, 5, 6, 7, 8, 3, 9] (by decide +kernel) (by decide +kernel)) (goodIn_sub (fun _ h => List.mem_cons_of_mem _ (List.mem_append_right _ h)) (by decide +kernel))
set_option maxRecDepth 20000 in
theorem gX7_requireSpan_X7_requireBetween : GoodIn wsX7_requireSpan (va_wsS RX7 80 yX7_requireBetween wsX7_requireBetween) := goodIn_app (goodIn_of _ (by decide +kernel)) ggX7_requireSpan_X7_requireBetween
theorem dX7_requireSpan_0 : decode cX7_requireSpan 0 = .ok (.iload_n 0, 1) := by decide +kernel
theorem dX7_requireSpan_1 : decode cX7_requireSpan 1 = .ok (.iconst 0, 1) := by decide +kernel
theorem dX7_requireSpan_2 : decode cX7_requireSpan 2 = .ok (.sipush 255, 3) := by decide +kernel
theorem dX7_requireSpan_5 : decode cX7_requireSpan 5 = .ok (.invokestatic 80, 3) := by decide +kernel
theorem dX7_requireSpan_8 : decode cX7_requireSpan 8 = .ok (.iload_n 2, 1) := by decide +kernel
theorem dX7_requireSpan_9 : decode cX7_requireSpan 9 = .ok (.iconst 0, 1) := by decide +kernel
theorem dX7_requireSpan_10 : decode cX7_requireSpan 10 = .ok (.sipush 16384, 3) := by decide +kernel
theorem dX7_requireSpan_13 : decode cX7_requireSpan 13 = .ok (.invokestatic 80, 3) := by decide +kernel
theorem dX7_requireSpan_16 : decode cX7_requireSpan 16 = .ok (.iload_n 1, 1) := by decide +kernel
theorem dX7_requireSpan_17 : decode cX7_requireSpan 17 = .ok (.iconst 0, 1) := by decide +kernel
theorem dX7_requireSpan_18 : decode cX7_requireSpan 18 = .ok (.iload_n 2, 1) := by decide +kernel
theorem dX7_requireSpan_19 : decode cX7_requireSpan 19 = .ok (.invokestatic 80, 3) := by decide +kernel
theorem dX7_requireSpan_22 : decode cX7_requireSpan 22 = .ok (.return_, 1) := by decide +kernel
set_option maxRecDepth 20000 in
theorem ggX7_requireBetween_X7_isBetween : GoodIn wsX7_requireBetween wsX7_isBetween := goodIn_r _ [6] (by decide +kernel) (by decide +kernel)
set_option maxRecDepth 20000 in
theorem gX7_requireBetween_X7_isBetween : GoodIn wsX7_requireBetween (va_wsS RX7 294 yX7_isBetween wsX7_isBetween) := goodIn_app (goodIn_of _ (by decide +kernel)) ggX7_requireBetween_X7_isBetween
theorem dX7_requireBetween_0 : decode cX7_requireBetween 0 = .ok (.iload_n 0, 1) := by decide +kernel
theorem dX7_requireBetween_1 : decode cX7_requireBetween 1 = .ok (.iload_n 1, 1) := by decide +kernel
theorem dX7_requireBetween_2 : decode cX7_requireBetween 2 = .ok (.iload_n 2, 1) := by decide +kernel
theorem dX7_requireBetween_3 : decode cX7_requireBetween 3 = .ok (.invokestatic 294, 3) := by decide +kernel
theorem dX7_requireBetween_6 : decode cX7_requireBetween 6 = .ok (.ifCond .ne 14, 3) := by decide +kernel
theorem dX7_requireBetween_9 : decode cX7_requireBetween 9 = .ok (.new 101, 3) := by decide +kernel
theorem dX7_requireBetween_12 : decode cX7_requireBetween 12 = .ok (.dup, 1) := by decide +kernel
theorem dX7_requireBetween_13 : decode cX7_requireBetween 13 = .ok (.ldc_w 281, 3) := by decide +kernel
theorem dX7_requireBetween_16 : decode cX7_requireBetween 16 = .ok (.invokespecial 105, 3) := by decide +kernel
theorem dX7_requireBetween_19 : decode cX7_requireBetween 19 = .ok (.athrow, 1) := by decide +kernel
theorem dX7_requireBetween_20 : decode cX7_requireBetween 20 = .ok (.return_, 1) := by decide +kernel
theorem dX7_isBetween_0 : decode cX7_isBetween 0 = .ok (.iload_n 1, 1) := by decide +kernel
theorem dX7_isBetween_1 : decode cX7_isBetween 1 = .ok (.iload_n 0, 1) := by decide +kernel
theorem dX7_isBetween_2 : decode cX7_isBetween 2 = .ok (.if_icmp .gt 12, 3) := by decide +kernel
theorem dX7_isBetween_5 : decode cX7_isBetween 5 = .ok (.iload_n 0, 1) := by decide +kernel
theorem dX7_isBetween_6 : decode cX7_isBetween 6 = .ok (.iload_n 2, 1) := by decide +kernel
theorem dX7_isBetween_7 : decode cX7_isBetween 7 = .ok (.if_icmp .gt 7, 3) := by decide +kernel
theorem dX7_isBetween_10 : decode cX7_isBetween 10 = .ok (.iconst 1, 1) := by decide +kernel
theorem dX7_isBetween_11 : decode cX7_isBetween 11 = .ok (.goto 4, 3) := by decide +kernel
theorem dX7_isBetween_14 : decode cX7_isBetween 14 = .ok (.iconst 0, 1) := by decide +kernel
theorem dX7_isBetween_15 : decode cX7_isBetween 15 = .ok (.ireturn, 1) := by decide +kernel
theorem dX7_mixed_0 : decode cX7_mixed 0 = .ok (.ldc2_w 298, 3) := by decide +kernel
theorem dX7_mixed_3 : decode cX7_mixed 3 = .ok (.lload_n 0, 1) := by decide +kernel
theorem dX7_mixed_4 : decode cX7_mixed 4 = .ok (.lmul, 1) := by decide +kernel
theorem dX7_mixed_5 : decode cX7_mixed 5 = .ok (.lload_n 2, 1) := by decide +kernel
theorem dX7_mixed_6 : decode cX7_mixed 6 = .ok (.ladd, 1) := by decide +kernel
theorem dX7_mixed_7 : decode cX7_mixed 7 = .ok (.lreturn, 1) := by decide +kernel
theorem dX8_init_0 : decode cX8_init 0 = .ok (.aload_n 0, 1) := by decide +kernel
theorem dX8_init_1 : decode cX8_init 1 = .ok (.invokespecial 1, 3) := by decide +kernel
theorem dX8_init_4 : decode cX8_init 4 = .ok (.aload_n 0, 1) := by decide +kernel
theorem dX8_init_5 : decode cX8_init 5 = .ok (.sipush 1634, 3) := by decide +kernel
theorem dX8_init_8 : decode cX8_init 8 = .ok (.newarray .int, 2) := by decide +kernel
theorem dX8_init_10 : decode cX8_init 10 = .ok (.putfield 7, 3) := by decide +kernel
theorem dX8_init_13 : decode cX8_init 13 = .ok (.aload_n 0, 1) := by decide +kernel
theorem dX8_init_14 : decode cX8_init 14 = .ok (.sipush 6536, 3) := by decide +kernel
theorem dX8_init_17 : decode cX8_init 17 = .ok (.newarray .int, 2) := by decide +kernel
theorem dX8_init_19 : decode cX8_init 19 = .ok (.putfield 13, 3) := by decide +kernel
theorem dX8_init_22 : decode cX8_init 22 = .ok (.aload_n 0, 1) := by decide +kernel
theorem dX8_init_23 : decode cX8_init 23 = .ok (.bipush 120, 2) := by decide +kernel
theorem dX8_init_25 : decode cX8_init 25 = .ok (.newarray .int, 2) := by decide +kernel
theorem dX8_init_27 : decode cX8_init 27 = .ok (.putfield 16, 3) := by decide +kernel
theorem dX8_init_30 : decode cX8_init 30 = .ok (.aload_n 0, 1) := by decide +kernel
theorem dX8_init_31 : decode cX8_init 31 = .ok (.sipush 768, 3) := by decide +kernel
theorem dX8_init_34 : decode cX8_init 34 = .ok (.newarray .int, 2) := by decide +kernel
theorem dX8_init_36 : decode cX8_init 36 = .ok (.putfield 19, 3) := by decide +kernel
theorem dX8_init_39 : decode cX8_init 39 = .ok (.aload_n 0, 1) := by decide +kernel
theorem dX8_init_40 : decode cX8_init 40 = .ok (.bipush 60, 2) := by decide +kernel
theorem dX8_init_42 : decode cX8_init 42 = .ok (.newarray .int, 2) := by decide +kernel
theorem dX8_init_44 : decode cX8_init 44 = .ok (.putfield 22, 3) := by decide +kernel
theorem dX8_init_47 : decode cX8_init 47 = .ok (.aload_n 0, 1) := by decide +kernel
theorem dX8_init_48 : decode cX8_init 48 = .ok (.sipush 240, 3) := by decide +kernel
theorem dX8_init_51 : decode cX8_init 51 = .ok (.newarray .int, 2) := by decide +kernel
theorem dX8_init_53 : decode cX8_init 53 = .ok (.putfield 25, 3) := by decide +kernel
theorem dX8_init_56 : decode cX8_init 56 = .ok (.aload_n 0, 1) := by decide +kernel
theorem dX8_init_57 : decode cX8_init 57 = .ok (.sipush 1634, 3) := by decide +kernel
theorem dX8_init_60 : decode cX8_init 60 = .ok (.newarray .int, 2) := by decide +kernel
theorem dX8_init_62 : decode cX8_init 62 = .ok (.putfield 28, 3) := by decide +kernel
theorem dX8_init_65 : decode cX8_init 65 = .ok (.return_, 1) := by decide +kernel
theorem dX8_thrown_0 : decode cX8_thrown 0 = .ok (.aload_n 0, 1) := by decide +kernel
theorem dX8_thrown_1 : decode cX8_thrown 1 = .ok (.getfield 31, 3) := by decide +kernel
theorem dX8_thrown_4 : decode cX8_thrown 4 = .ok (.ireturn, 1) := by decide +kernel
theorem dX8_fails_0 : decode cX8_fails 0 = .ok (.aload_n 0, 1) := by decide +kernel
theorem dX8_fails_1 : decode cX8_fails 1 = .ok (.iload_n 1, 1) := by decide +kernel
theorem dX8_fails_2 : decode cX8_fails 2 = .ok (.putfield 31, 3) := by decide +kernel
theorem dX8_fails_5 : decode cX8_fails 5 = .ok (.iconst 0, 1) := by decide +kernel
theorem dX8_fails_6 : decode cX8_fails 6 = .ok (.ireturn, 1) := by decide +kernel
theorem dX8_in_0 : decode cX8_in 0 = .ok (.lload_n 0, 1) := by decide +kernel
theorem dX8_in_1 : decode cX8_in 1 = .ok (.lload_n 2, 1) := by decide +kernel
theorem dX8_in_2 : decode cX8_in 2 = .ok (.lcmp, 1) := by decide +kernel
theorem dX8_in_3 : decode cX8_in 3 = .ok (.ifCond .lt 14, 3) := by decide +kernel
theorem dX8_in_6 : decode cX8_in 6 = .ok (.lload_n 0, 1) := by decide +kernel
theorem dX8_in_7 : decode cX8_in 7 = .ok (.lload 4, 2) := by decide +kernel
theorem dX8_in_9 : decode cX8_in 9 = .ok (.lcmp, 1) := by decide +kernel
theorem dX8_in_10 : decode cX8_in 10 = .ok (.ifCond .gt 7, 3) := by decide +kernel
theorem dX8_in_13 : decode cX8_in 13 = .ok (.iconst 1, 1) := by decide +kernel
theorem dX8_in_14 : decode cX8_in 14 = .ok (.goto 4, 3) := by decide +kernel
theorem dX8_in_17 : decode cX8_in 17 = .ok (.iconst 0, 1) := by decide +kernel
theorem dX8_in_18 : decode cX8_in 18 = .ok (.ireturn, 1) := by decide +kernel
theorem dX8_keep_0 : decode cX8_keep 0 = .ok (.aload_n 0, 1) := by decide +kernel
theorem dX8_keep_1 : decode cX8_keep 1 = .ok (.getfield 35, 3) := by decide +kernel
theorem dX8_keep_4 : decode cX8_keep 4 = .ok (.iconst 4, 1) := by decide +kernel
theorem dX8_keep_5 : decode cX8_keep 5 = .ok (.if_icmp .ne 44, 3) := by decide +kernel
theorem dX8_keep_8 : decode cX8_keep 8 = .ok (.iconst 0, 1) := by decide +kernel
theorem dX8_keep_9 : decode cX8_keep 9 = .ok (.istore_n 1, 1) := by decide +kernel
theorem dX8_keep_10 : decode cX8_keep 10 = .ok (.iload_n 1, 1) := by decide +kernel
theorem dX8_keep_11 : decode cX8_keep 11 = .ok (.sipush 4902, 3) := by decide +kernel
theorem dX8_keep_14 : decode cX8_keep 14 = .ok (.if_icmp .ge 25, 3) := by decide +kernel
theorem dX8_keep_17 : decode cX8_keep 17 = .ok (.aload_n 0, 1) := by decide +kernel
theorem dX8_keep_18 : decode cX8_keep 18 = .ok (.getfield 13, 3) := by decide +kernel
theorem dX8_keep_21 : decode cX8_keep 21 = .ok (.iload_n 1, 1) := by decide +kernel
theorem dX8_keep_22 : decode cX8_keep 22 = .ok (.aload_n 0, 1) := by decide +kernel
theorem dX8_keep_23 : decode cX8_keep 23 = .ok (.getfield 13, 3) := by decide +kernel
theorem dX8_keep_26 : decode cX8_keep 26 = .ok (.iload_n 1, 1) := by decide +kernel
theorem dX8_keep_27 : decode cX8_keep 27 = .ok (.sipush 1634, 3) := by decide +kernel
theorem dX8_keep_30 : decode cX8_keep 30 = .ok (.iadd, 1) := by decide +kernel
theorem dX8_keep_31 : decode cX8_keep 31 = .ok (.iaload, 1) := by decide +kernel
theorem dX8_keep_32 : decode cX8_keep 32 = .ok (.iastore, 1) := by decide +kernel
theorem dX8_keep_33 : decode cX8_keep 33 = .ok (.iinc 1 1, 3) := by decide +kernel
theorem dX8_keep_36 : decode cX8_keep 36 = .ok (.goto (-26), 3) := by decide +kernel
theorem dX8_keep_39 : decode cX8_keep 39 = .ok (.aload_n 0, 1) := by decide +kernel
theorem dX8_keep_40 : decode cX8_keep 40 = .ok (.dup, 1) := by decide +kernel
theorem dX8_keep_41 : decode cX8_keep 41 = .ok (.getfield 35, 3) := by decide +kernel
theorem dX8_keep_44 : decode cX8_keep 44 = .ok (.iconst 1, 1) := by decide +kernel
theorem dX8_keep_45 : decode cX8_keep 45 = .ok (.isub, 1) := by decide +kernel
theorem dX8_keep_46 : decode cX8_keep 46 = .ok (.putfield 35, 3) := by decide +kernel
theorem dX8_keep_49 : decode cX8_keep 49 = .ok (.iconst 0, 1) := by decide +kernel
theorem dX8_keep_50 : decode cX8_keep 50 = .ok (.istore_n 1, 1) := by decide +kernel
theorem dX8_keep_51 : decode cX8_keep 51 = .ok (.iload_n 1, 1) := by decide +kernel
theorem dX8_keep_52 : decode cX8_keep 52 = .ok (.sipush 1634, 3) := by decide +kernel
theorem dX8_keep_55 : decode cX8_keep 55 = .ok (.if_icmp .ge 30, 3) := by decide +kernel
theorem dX8_keep_58 : decode cX8_keep 58 = .ok (.aload_n 0, 1) := by decide +kernel
theorem dX8_keep_59 : decode cX8_keep 59 = .ok (.getfield 13, 3) := by decide +kernel
theorem dX8_keep_62 : decode cX8_keep 62 = .ok (.sipush 1634, 3) := by decide +kernel
theorem dX8_keep_65 : decode cX8_keep 65 = .ok (.aload_n 0, 1) := by decide +kernel
theorem dX8_keep_66 : decode cX8_keep 66 = .ok (.getfield 35, 3) := by decide +kernel
theorem dX8_keep_69 : decode cX8_keep 69 = .ok (.imul, 1) := by decide +kernel
theorem dX8_keep_70 : decode cX8_keep 70 = .ok (.iload_n 1, 1) := by decide +kernel
theorem dX8_keep_71 : decode cX8_keep 71 = .ok (.iadd, 1) := by decide +kernel
theorem dX8_keep_72 : decode cX8_keep 72 = .ok (.aload_n 0, 1) := by decide +kernel
theorem dX8_keep_73 : decode cX8_keep 73 = .ok (.getfield 7, 3) := by decide +kernel
theorem dX8_keep_76 : decode cX8_keep 76 = .ok (.iload_n 1, 1) := by decide +kernel
theorem dX8_keep_77 : decode cX8_keep 77 = .ok (.iaload, 1) := by decide +kernel
theorem dX8_keep_78 : decode cX8_keep 78 = .ok (.iastore, 1) := by decide +kernel
theorem dX8_keep_79 : decode cX8_keep 79 = .ok (.iinc 1 1, 3) := by decide +kernel
theorem dX8_keep_82 : decode cX8_keep 82 = .ok (.goto (-31), 3) := by decide +kernel
theorem dX8_keep_85 : decode cX8_keep 85 = .ok (.aload_n 0, 1) := by decide +kernel
theorem dX8_keep_86 : decode cX8_keep 86 = .ok (.dup, 1) := by decide +kernel
theorem dX8_keep_87 : decode cX8_keep 87 = .ok (.getfield 35, 3) := by decide +kernel
theorem dX8_keep_90 : decode cX8_keep 90 = .ok (.iconst 1, 1) := by decide +kernel
theorem dX8_keep_91 : decode cX8_keep 91 = .ok (.iadd, 1) := by decide +kernel
theorem dX8_keep_92 : decode cX8_keep 92 = .ok (.putfield 35, 3) := by decide +kernel
theorem dX8_keep_95 : decode cX8_keep 95 = .ok (.return_, 1) := by decide +kernel
theorem dX8_cell_0 : decode cX8_cell 0 = .ok (.iconst 2, 1) := by decide +kernel
theorem dX8_cell_1 : decode cX8_cell 1 = .ok (.bipush 6, 2) := by decide +kernel
theorem dX8_cell_3 : decode cX8_cell 3 = .ok (.iload_n 0, 1) := by decide +kernel
theorem dX8_cell_4 : decode cX8_cell 4 = .ok (.imul, 1) := by decide +kernel
theorem dX8_cell_5 : decode cX8_cell 5 = .ok (.iadd, 1) := by decide +kernel
theorem dX8_cell_6 : decode cX8_cell 6 = .ok (.iload_n 1, 1) := by decide +kernel
theorem dX8_cell_7 : decode cX8_cell 7 = .ok (.iadd, 1) := by decide +kernel
theorem dX8_cell_8 : decode cX8_cell 8 = .ok (.ireturn, 1) := by decide +kernel
set_option maxRecDepth 20000 in
theorem ggX8_of_X8_cell : GoodIn wsX8_of wsX8_cell := goodIn_r _ [5] (by decide +kernel) (by decide +kernel)
set_option maxRecDepth 20000 in
theorem gX8_of_X8_cell : GoodIn wsX8_of (va_wsS RX8 38 yX8_cell wsX8_cell) := goodIn_app (goodIn_of _ (by decide +kernel)) ggX8_of_X8_cell
theorem dX8_of_0 : decode cX8_of 0 = .ok (.aload_n 0, 1) := by decide +kernel
theorem dX8_of_1 : decode cX8_of 1 = .ok (.getfield 7, 3) := by decide +kernel
theorem dX8_of_4 : decode cX8_of 4 = .ok (.iload_n 1, 1) := by decide +kernel
theorem dX8_of_5 : decode cX8_of 5 = .ok (.iload_n 2, 1) := by decide +kernel
theorem dX8_of_6 : decode cX8_of 6 = .ok (.invokestatic 38, 3) := by decide +kernel
theorem dX8_of_9 : decode cX8_of 9 = .ok (.iaload, 1) := by decide +kernel
theorem dX8_of_10 : decode cX8_of 10 = .ok (.ireturn, 1) := by decide +kernel
set_option maxRecDepth 20000 in
theorem ggX8_isSegment_X8_in : GoodIn wsX8_isSegment wsX8_in := goodIn_r _ [5] (by decide +kernel) (by decide +kernel)
set_option maxRecDepth 20000 in
theorem gX8_isSegment_X8_in : GoodIn wsX8_isSegment (va_wsS RX8 42 yX8_in wsX8_in) := goodIn_app (goodIn_of _ (by decide +kernel)) ggX8_isSegment_X8_in
theorem dX8_isSegment_0 : decode cX8_isSegment 0 = .ok (.iload_n 1, 1) := by decide +kernel
theorem dX8_isSegment_1 : decode cX8_isSegment 1 = .ok (.i2l, 1) := by decide +kernel
theorem dX8_isSegment_2 : decode cX8_isSegment 2 = .ok (.lconst 0, 1) := by decide +kernel
theorem dX8_isSegment_3 : decode cX8_isSegment 3 = .ok (.aload_n 0, 1) := by decide +kernel
theorem dX8_isSegment_4 : decode cX8_isSegment 4 = .ok (.getfield 7, 3) := by decide +kernel
theorem dX8_isSegment_7 : decode cX8_isSegment 7 = .ok (.iconst 0, 1) := by decide +kernel
theorem dX8_isSegment_8 : decode cX8_isSegment 8 = .ok (.iaload, 1) := by decide +kernel
theorem dX8_isSegment_9 : decode cX8_isSegment 9 = .ok (.iconst 1, 1) := by decide +kernel
theorem dX8_isSegment_10 : decode cX8_isSegment 10 = .ok (.isub, 1) := by decide +kernel
theorem dX8_isSegment_11 : decode cX8_isSegment 11 = .ok (.i2l, 1) := by decide +kernel
theorem dX8_isSegment_12 : decode cX8_isSegment 12 = .ok (.invokestatic 42, 3) := by decide +kernel
theorem dX8_isSegment_15 : decode cX8_isSegment 15 = .ok (.ireturn, 1) := by decide +kernel
set_option maxRecDepth 20000 in
theorem ggX8_isPosition_X8_in : GoodIn wsX8_isPosition wsX8_in := goodIn_r _ [5] (by decide +kernel) (by decide +kernel)
set_option maxRecDepth 20000 in
theorem gX8_isPosition_X8_in : GoodIn wsX8_isPosition (va_wsS RX8 42 yX8_in wsX8_in) := goodIn_app (goodIn_of _ (by decide +kernel)) ggX8_isPosition_X8_in
theorem dX8_isPosition_0 : decode cX8_isPosition 0 = .ok (.iload_n 0, 1) := by decide +kernel
theorem dX8_isPosition_1 : decode cX8_isPosition 1 = .ok (.i2l, 1) := by decide +kernel
theorem dX8_isPosition_2 : decode cX8_isPosition 2 = .ok (.lconst 0, 1) := by decide +kernel
theorem dX8_isPosition_3 : decode cX8_isPosition 3 = .ok (.ldc2_w 46, 3) := by decide +kernel
theorem dX8_isPosition_6 : decode cX8_isPosition 6 = .ok (.invokestatic 42, 3) := by decide +kernel
theorem dX8_isPosition_9 : decode cX8_isPosition 9 = .ok (.ireturn, 1) := by decide +kernel
set_option maxRecDepth 20000 in
theorem ggX8_isTick_X8_in : GoodIn wsX8_isTick wsX8_in := goodIn_r _ [5] (by decide +kernel) (by decide +kernel)
set_option maxRecDepth 20000 in
theorem gX8_isTick_X8_in : GoodIn wsX8_isTick (va_wsS RX8 42 yX8_in wsX8_in) := goodIn_app (goodIn_of _ (by decide +kernel)) ggX8_isTick_X8_in
theorem dX8_isTick_0 : decode cX8_isTick 0 = .ok (.iload_n 0, 1) := by decide +kernel
theorem dX8_isTick_1 : decode cX8_isTick 1 = .ok (.i2l, 1) := by decide +kernel
theorem dX8_isTick_2 : decode cX8_isTick 2 = .ok (.lconst 0, 1) := by decide +kernel
theorem dX8_isTick_3 : decode cX8_isTick 3 = .ok (.ldc2_w 48, 3) := by decide +kernel
theorem dX8_isTick_6 : decode cX8_isTick 6 = .ok (.invokestatic 42, 3) := by decide +kernel
theorem dX8_isTick_9 : decode cX8_isTick 9 = .ok (.ireturn, 1) := by decide +kernel
set_option maxRecDepth 20000 in
theorem ggX8_isLine_X8_in : GoodIn wsX8_isLine wsX8_in := goodIn_r _ [8] (by decide +kernel) (by decide +kernel)
set_option maxRecDepth 20000 in
theorem gX8_isLine_X8_in : GoodIn wsX8_isLine (va_wsS RX8 42 yX8_in wsX8_in) := goodIn_app (goodIn_of _ (by decide +kernel)) ggX8_isLine_X8_in
theorem dX8_isLine_0 : decode cX8_isLine 0 = .ok (.iload_n 0, 1) := by decide +kernel
theorem dX8_isLine_1 : decode cX8_isLine 1 = .ok (.i2l, 1) := by decide +kernel
theorem dX8_isLine_2 : decode cX8_isLine 2 = .ok (.ldc2_w 50, 3) := by decide +kernel
theorem dX8_isLine_5 : decode cX8_isLine 5 = .ok (.ldc2_w 52, 3) := by decide +kernel
theorem dX8_isLine_8 : decode cX8_isLine 8 = .ok (.invokestatic 42, 3) := by decide +kernel
theorem dX8_isLine_11 : decode cX8_isLine 11 = .ok (.ifCond .eq 21, 3) := by decide +kernel
theorem dX8_isLine_14 : decode cX8_isLine 14 = .ok (.iload_n 1, 1) := by decide +kernel
theorem dX8_isLine_15 : decode cX8_isLine 15 = .ok (.i2l, 1) := by decide +kernel
theorem dX8_isLine_16 : decode cX8_isLine 16 = .ok (.ldc2_w 54, 3) := by decide +kernel
theorem dX8_isLine_19 : decode cX8_isLine 19 = .ok (.ldc2_w 56, 3) := by decide +kernel
theorem dX8_isLine_22 : decode cX8_isLine 22 = .ok (.invokestatic 42, 3) := by decide +kernel
theorem dX8_isLine_25 : decode cX8_isLine 25 = .ok (.ifCond .eq 7, 3) := by decide +kernel
theorem dX8_isLine_28 : decode cX8_isLine 28 = .ok (.iconst 1, 1) := by decide +kernel
theorem dX8_isLine_29 : decode cX8_isLine 29 = .ok (.goto 4, 3) := by decide +kernel
theorem dX8_isLine_32 : decode cX8_isLine 32 = .ok (.iconst 0, 1) := by decide +kernel
theorem dX8_isLine_33 : decode cX8_isLine 33 = .ok (.ireturn, 1) := by decide +kernel
set_option maxRecDepth 20000 in
theorem ggX8_put_X8_cell : GoodIn wsX8_put wsX8_cell := goodIn_r _ [5] (by decide +kernel) (by decide +kernel)
set_option maxRecDepth 20000 in
theorem gX8_put_X8_cell : GoodIn wsX8_put (va_wsS RX8 38 yX8_cell wsX8_cell) := goodIn_app (goodIn_of _ (by decide +kernel)) ggX8_put_X8_cell
theorem dX8_put_0 : decode cX8_put 0 = .ok (.aload_n 0, 1) := by decide +kernel
theorem dX8_put_1 : decode cX8_put 1 = .ok (.getfield 7, 3) := by decide +kernel
theorem dX8_put_4 : decode cX8_put 4 = .ok (.iconst 0, 1) := by decide +kernel
theorem dX8_put_5 : decode cX8_put 5 = .ok (.iaload, 1) := by decide +kernel
theorem dX8_put_6 : decode cX8_put 6 = .ok (.iconst 0, 1) := by decide +kernel
theorem dX8_put_7 : decode cX8_put 7 = .ok (.invokestatic 38, 3) := by decide +kernel
theorem dX8_put_10 : decode cX8_put 10 = .ok (.istore 7, 2) := by decide +kernel
theorem dX8_put_12 : decode cX8_put 12 = .ok (.aload_n 0, 1) := by decide +kernel
theorem dX8_put_13 : decode cX8_put 13 = .ok (.getfield 7, 3) := by decide +kernel
theorem dX8_put_16 : decode cX8_put 16 = .ok (.iload 7, 2) := by decide +kernel
theorem dX8_put_18 : decode cX8_put 18 = .ok (.iload_n 1, 1) := by decide +kernel
theorem dX8_put_19 : decode cX8_put 19 = .ok (.iastore, 1) := by decide +kernel
theorem dX8_put_20 : decode cX8_put 20 = .ok (.aload_n 0, 1) := by decide +kernel
theorem dX8_put_21 : decode cX8_put 21 = .ok (.getfield 7, 3) := by decide +kernel
theorem dX8_put_24 : decode cX8_put 24 = .ok (.iload 7, 2) := by decide +kernel
theorem dX8_put_26 : decode cX8_put 26 = .ok (.iconst 1, 1) := by decide +kernel
theorem dX8_put_27 : decode cX8_put 27 = .ok (.iadd, 1) := by decide +kernel
theorem dX8_put_28 : decode cX8_put 28 = .ok (.iload_n 2, 1) := by decide +kernel
theorem dX8_put_29 : decode cX8_put 29 = .ok (.iastore, 1) := by decide +kernel
theorem dX8_put_30 : decode cX8_put 30 = .ok (.aload_n 0, 1) := by decide +kernel
theorem dX8_put_31 : decode cX8_put 31 = .ok (.getfield 7, 3) := by decide +kernel
theorem dX8_put_34 : decode cX8_put 34 = .ok (.iload 7, 2) := by decide +kernel
theorem dX8_put_36 : decode cX8_put 36 = .ok (.iconst 2, 1) := by decide +kernel
theorem dX8_put_37 : decode cX8_put 37 = .ok (.iadd, 1) := by decide +kernel
theorem dX8_put_38 : decode cX8_put 38 = .ok (.iload_n 3, 1) := by decide +kernel
theorem dX8_put_39 : decode cX8_put 39 = .ok (.iastore, 1) := by decide +kernel
theorem dX8_put_40 : decode cX8_put 40 = .ok (.aload_n 0, 1) := by decide +kernel
theorem dX8_put_41 : decode cX8_put 41 = .ok (.getfield 7, 3) := by decide +kernel
theorem dX8_put_44 : decode cX8_put 44 = .ok (.iload 7, 2) := by decide +kernel
theorem dX8_put_46 : decode cX8_put 46 = .ok (.iconst 3, 1) := by decide +kernel
theorem dX8_put_47 : decode cX8_put 47 = .ok (.iadd, 1) := by decide +kernel
theorem dX8_put_48 : decode cX8_put 48 = .ok (.iload 4, 2) := by decide +kernel
theorem dX8_put_50 : decode cX8_put 50 = .ok (.iastore, 1) := by decide +kernel
theorem dX8_put_51 : decode cX8_put 51 = .ok (.aload_n 0, 1) := by decide +kernel
theorem dX8_put_52 : decode cX8_put 52 = .ok (.getfield 7, 3) := by decide +kernel
theorem dX8_put_55 : decode cX8_put 55 = .ok (.iload 7, 2) := by decide +kernel
theorem dX8_put_57 : decode cX8_put 57 = .ok (.iconst 4, 1) := by decide +kernel
theorem dX8_put_58 : decode cX8_put 58 = .ok (.iadd, 1) := by decide +kernel
theorem dX8_put_59 : decode cX8_put 59 = .ok (.iload 5, 2) := by decide +kernel
theorem dX8_put_61 : decode cX8_put 61 = .ok (.iastore, 1) := by decide +kernel
theorem dX8_put_62 : decode cX8_put 62 = .ok (.aload_n 0, 1) := by decide +kernel
theorem dX8_put_63 : decode cX8_put 63 = .ok (.getfield 7, 3) := by decide +kernel
theorem dX8_put_66 : decode cX8_put 66 = .ok (.iload 7, 2) := by decide +kernel
theorem dX8_put_68 : decode cX8_put 68 = .ok (.iconst 5, 1) := by decide +kernel
theorem dX8_put_69 : decode cX8_put 69 = .ok (.iadd, 1) := by decide +kernel
theorem dX8_put_70 : decode cX8_put 70 = .ok (.iload 6, 2) := by decide +kernel
theorem dX8_put_72 : decode cX8_put 72 = .ok (.iastore, 1) := by decide +kernel
theorem dX8_put_73 : decode cX8_put 73 = .ok (.aload_n 0, 1) := by decide +kernel
theorem dX8_put_74 : decode cX8_put 74 = .ok (.getfield 7, 3) := by decide +kernel
theorem dX8_put_77 : decode cX8_put 77 = .ok (.iconst 0, 1) := by decide +kernel
theorem dX8_put_78 : decode cX8_put 78 = .ok (.dup2, 1) := by decide +kernel
theorem dX8_put_79 : decode cX8_put 79 = .ok (.iaload, 1) := by decide +kernel
theorem dX8_put_80 : decode cX8_put 80 = .ok (.iconst 1, 1) := by decide +kernel
theorem dX8_put_81 : decode cX8_put 81 = .ok (.iadd, 1) := by decide +kernel
theorem dX8_put_82 : decode cX8_put 82 = .ok (.iastore, 1) := by decide +kernel
theorem dX8_put_83 : decode cX8_put 83 = .ok (.aload_n 0, 1) := by decide +kernel
theorem dX8_put_84 : decode cX8_put 84 = .ok (.getfield 7, 3) := by decide +kernel
theorem dX8_put_87 : decode cX8_put 87 = .ok (.iconst 0, 1) := by decide +kernel
theorem dX8_put_88 : decode cX8_put 88 = .ok (.iaload, 1) := by decide +kernel
theorem dX8_put_89 : decode cX8_put 89 = .ok (.iconst 1, 1) := by decide +kernel
theorem dX8_put_90 : decode cX8_put 90 = .ok (.isub, 1) := by decide +kernel
theorem dX8_put_91 : decode cX8_put 91 = .ok (.ireturn, 1) := by decide +kernel
set_option maxRecDepth 20000 in
theorem ggX8_isLive_X8_of : GoodIn wsX8_isLive wsX8_of := goodIn_r _ [5, 6, 7, 8, 4, 9, 10, 11, 12, 13, 14, 15, 16, 17, 18, 19, 20, 21, 22, 23] (by decide +kernel) (by decide +kernel)
set_option maxRecDepth 20000 in
theorem gX8_isLive_X8_of : GoodIn wsX8_isLive (wsV RX8 58 RX8 yX8_of wsX8_of) := goodIn_app (goodIn_of _ (by decide +kernel)) ggX8_isLive_X8_of
theorem dX8_isLive_0 : decode cX8_isLive 0 = .ok (.aload_n 0, 1) := by decide +kernel
theorem dX8_isLive_1 : decode cX8_isLive 1 = .ok (.iload_n 1, 1) := by decide +kernel
theorem dX8_isLive_2 : decode cX8_isLive 2 = .ok (.iconst 4, 1) := by decide +kernel
theorem dX8_isLive_3 : decode cX8_isLive 3 = .ok (.invokevirtual 58, 3) := by decide +kernel
theorem dX8_isLive_6 : decode cX8_isLive 6 = .ok (.iload_n 2, 1) := by decide +kernel
theorem dX8_isLive_7 : decode cX8_isLive 7 = .ok (.if_icmp .gt 17, 3) := by decide +kernel
theorem dX8_isLive_10 : decode cX8_isLive 10 = .ok (.iload_n 2, 1) := by decide +kernel
theorem dX8_isLive_11 : decode cX8_isLive 11 = .ok (.aload_n 0, 1) := by decide +kernel
theorem dX8_isLive_12 : decode cX8_isLive 12 = .ok (.iload_n 1, 1) := by decide +kernel
theorem dX8_isLive_13 : decode cX8_isLive 13 = .ok (.iconst 5, 1) := by decide +kernel
theorem dX8_isLive_14 : decode cX8_isLive 14 = .ok (.invokevirtual 58, 3) := by decide +kernel
theorem dX8_isLive_17 : decode cX8_isLive 17 = .ok (.if_icmp .ge 7, 3) := by decide +kernel
theorem dX8_isLive_20 : decode cX8_isLive 20 = .ok (.iconst 1, 1) := by decide +kernel
theorem dX8_isLive_21 : decode cX8_isLive 21 = .ok (.goto 4, 3) := by decide +kernel
theorem dX8_isLive_24 : decode cX8_isLive 24 = .ok (.iconst 0, 1) := by decide +kernel
theorem dX8_isLive_25 : decode cX8_isLive 25 = .ok (.ireturn, 1) := by decide +kernel
theorem dX8_isFull_0 : decode cX8_isFull 0 = .ok (.aload_n 0, 1) := by decide +kernel
theorem dX8_isFull_1 : decode cX8_isFull 1 = .ok (.getfield 7, 3) := by decide +kernel
theorem dX8_isFull_4 : decode cX8_isFull 4 = .ok (.iconst 0, 1) := by decide +kernel
theorem dX8_isFull_5 : decode cX8_isFull 5 = .ok (.iaload, 1) := by decide +kernel
theorem dX8_isFull_6 : decode cX8_isFull 6 = .ok (.bipush 40, 2) := by decide +kernel
theorem dX8_isFull_8 : decode cX8_isFull 8 = .ok (.if_icmp .ne 7, 3) := by decide +kernel
theorem dX8_isFull_11 : decode cX8_isFull 11 = .ok (.iconst 1, 1) := by decide +kernel
theorem dX8_isFull_12 : decode cX8_isFull 12 = .ok (.goto 4, 3) := by decide +kernel
theorem dX8_isFull_15 : decode cX8_isFull 15 = .ok (.iconst 0, 1) := by decide +kernel
theorem dX8_isFull_16 : decode cX8_isFull 16 = .ok (.ireturn, 1) := by decide +kernel
set_option maxRecDepth 20000 in
theorem ggX8_whyNotAdd_X8_isLine : GoodIn wsX8_whyNotAdd wsX8_isLine := goodIn_r _ [4, 5, 6, 7, 8, 9, 10, 3, 11] (by decide +kernel) (by decide +kernel)
set_option maxRecDepth 20000 in
theorem gX8_whyNotAdd_X8_isLine : GoodIn wsX8_whyNotAdd (va_wsS RX8 61 yX8_isLine wsX8_isLine) := goodIn_app (goodIn_of _ (by decide +kernel)) ggX8_whyNotAdd_X8_isLine
set_option maxRecDepth 20000 in
theorem ggX8_whyNotAdd_X8_isPosition : GoodIn wsX8_whyNotAdd wsX8_isPosition := goodIn_r _ [14, 15, 9, 10, 3, 11] (by decide +kernel) (by decide +kernel)
set_option maxRecDepth 20000 in
theorem gX8_whyNotAdd_X8_isPosition : GoodIn wsX8_whyNotAdd (va_wsS RX8 65 yX8_isPosition wsX8_isPosition) := goodIn_app (goodIn_of _ (by decide +kernel)) ggX8_whyNotAdd_X8_isPosition
set_option maxRecDepth 20000 in
theorem ggX8_whyNotAdd_X8_isFull : GoodIn wsX8_whyNotAdd wsX8_isFull := goodIn_r _ [19, 20, 21, 22, 23, 24, 25, 26, 27, 28, 29, 30, 31, 32, 33, 34] (by decide +kernel) (by decide +kernel)
set_option maxRecDepth 20000 in
theorem gX8_whyNotAdd_X8_isFull : GoodIn wsX8_whyNotAdd (wsV RX8 69 RX8 yX8_isFull wsX8_isFull) := goodIn_app (goodIn_of _ (by decide +kernel)) ggX8_whyNotAdd_X8_isFull
theorem dX8_whyNotAdd_0 : decode cX8_whyNotAdd 0 = .ok (.iload_n 1, 1) := by decide +kernel
theorem dX8_whyNotAdd_1 : decode cX8_whyNotAdd 1 = .ok (.iload_n 2, 1) := by decide +kernel
theorem dX8_whyNotAdd_2 : decode cX8_whyNotAdd 2 = .ok (.invokestatic 61, 3) := by decide +kernel
theorem dX8_whyNotAdd_5 : decode cX8_whyNotAdd 5 = .ok (.ifCond .eq 28, 3) := by decide +kernel
theorem dX8_whyNotAdd_8 : decode cX8_whyNotAdd 8 = .ok (.iload_n 3, 1) := by decide +kernel
theorem dX8_whyNotAdd_9 : decode cX8_whyNotAdd 9 = .ok (.invokestatic 65, 3) := by decide +kernel
theorem dX8_whyNotAdd_12 : decode cX8_whyNotAdd 12 = .ok (.ifCond .eq 21, 3) := by decide +kernel
theorem dX8_whyNotAdd_15 : decode cX8_whyNotAdd 15 = .ok (.iload 4, 2) := by decide +kernel
theorem dX8_whyNotAdd_17 : decode cX8_whyNotAdd 17 = .ok (.invokestatic 65, 3) := by decide +kernel
theorem dX8_whyNotAdd_20 : decode cX8_whyNotAdd 20 = .ok (.ifCond .eq 13, 3) := by decide +kernel
theorem dX8_whyNotAdd_23 : decode cX8_whyNotAdd 23 = .ok (.iload_n 3, 1) := by decide +kernel
theorem dX8_whyNotAdd_24 : decode cX8_whyNotAdd 24 = .ok (.iload 4, 2) := by decide +kernel
theorem dX8_whyNotAdd_26 : decode cX8_whyNotAdd 26 = .ok (.if_icmp .gt 7, 3) := by decide +kernel
theorem dX8_whyNotAdd_29 : decode cX8_whyNotAdd 29 = .ok (.iconst 1, 1) := by decide +kernel
theorem dX8_whyNotAdd_30 : decode cX8_whyNotAdd 30 = .ok (.goto 4, 3) := by decide +kernel
theorem dX8_whyNotAdd_33 : decode cX8_whyNotAdd 33 = .ok (.iconst 0, 1) := by decide +kernel
theorem dX8_whyNotAdd_34 : decode cX8_whyNotAdd 34 = .ok (.istore 5, 2) := by decide +kernel
theorem dX8_whyNotAdd_36 : decode cX8_whyNotAdd 36 = .ok (.iload 5, 2) := by decide +kernel
theorem dX8_whyNotAdd_38 : decode cX8_whyNotAdd 38 = .ok (.ifCond .ne 7, 3) := by decide +kernel
theorem dX8_whyNotAdd_41 : decode cX8_whyNotAdd 41 = .ok (.iconst 1, 1) := by decide +kernel
theorem dX8_whyNotAdd_42 : decode cX8_whyNotAdd 42 = .ok (.goto 15, 3) := by decide +kernel
theorem dX8_whyNotAdd_45 : decode cX8_whyNotAdd 45 = .ok (.aload_n 0, 1) := by decide +kernel
theorem dX8_whyNotAdd_46 : decode cX8_whyNotAdd 46 = .ok (.invokevirtual 69, 3) := by decide +kernel
theorem dX8_whyNotAdd_49 : decode cX8_whyNotAdd 49 = .ok (.ifCond .eq 7, 3) := by decide +kernel
theorem dX8_whyNotAdd_52 : decode cX8_whyNotAdd 52 = .ok (.iconst 2, 1) := by decide +kernel
theorem dX8_whyNotAdd_53 : decode cX8_whyNotAdd 53 = .ok (.goto 4, 3) := by decide +kernel
theorem dX8_whyNotAdd_56 : decode cX8_whyNotAdd 56 = .ok (.iconst 0, 1) := by decide +kernel
theorem dX8_whyNotAdd_57 : decode cX8_whyNotAdd 57 = .ok (.ireturn, 1) := by decide +kernel
set_option maxRecDepth 20000 in
theorem ggX8_add_X8_whyNotAdd : GoodIn wsX8_add wsX8_whyNotAdd := goodIn_r _ [7, 8, 9, 6, 10, 11, 12, 13, 14, 15, 16, 17, 18, 19, 20, 21, 22, 23, 24, 25, 2, 39, 40, 41, 42, 43, 44, 45, 46, 47, 48, 49, 50, 51, 52] (by decide +kernel) (by decide +kernel)
set_option maxRecDepth 20000 in
theorem gX8_add_X8_whyNotAdd : GoodIn wsX8_add (wsV RX8 73 RX8 yX8_whyNotAdd wsX8_whyNotAdd) := goodIn_app (goodIn_of _ (by decide +kernel)) ggX8_add_X8_whyNotAdd
set_option maxRecDepth 20000 in
theorem ggX8_add_X8_keep : GoodIn wsX8_add wsX8_keep := goodIn_r _ [29, 30, 31, 2, 39, 40, 41, 42, 43, 44, 45, 46, 47, 48, 49, 50, 51, 52] (by decide +kernel) (by decide +kernel)
set_option maxRecDepth 20000 in
theorem gX8_add_X8_keep : GoodIn wsX8_add (wsV RX8 77 RX8 yX8_keep wsX8_keep) := goodIn_app (goodIn_of _ (by decide +kernel)) ggX8_add_X8_keep
set_option maxRecDepth 20000 in
theorem ggX8_add_X8_put : GoodIn wsX8_add wsX8_put := goodIn_r _ [35, 2, 36, 37, 6, 38, 39, 40, 41, 42, 43, 44, 45, 46, 47, 48, 49, 50, 51, 52] (by decide +kernel) (by decide +kernel)
set_option maxRecDepth 20000 in
theorem gX8_add_X8_put : GoodIn wsX8_add (wsV RX8 80 RX8 yX8_put wsX8_put) := goodIn_app (goodIn_of _ (by decide +kernel)) ggX8_add_X8_put
theorem dX8_add_0 : decode cX8_add 0 = .ok (.aload_n 0, 1) := by decide +kernel
theorem dX8_add_1 : decode cX8_add 1 = .ok (.aload_n 0, 1) := by decide +kernel
theorem dX8_add_2 : decode cX8_add 2 = .ok (.iload_n 1, 1) := by decide +kernel
theorem dX8_add_3 : decode cX8_add 3 = .ok (.iload_n 2, 1) := by decide +kernel
theorem dX8_add_4 : decode cX8_add 4 = .ok (.iload_n 3, 1) := by decide +kernel
theorem dX8_add_5 : decode cX8_add 5 = .ok (.iload 4, 2) := by decide +kernel
theorem dX8_add_7 : decode cX8_add 7 = .ok (.invokevirtual 73, 3) := by decide +kernel
theorem dX8_add_10 : decode cX8_add 10 = .ok (.putfield 31, 3) := by decide +kernel
theorem dX8_add_13 : decode cX8_add 13 = .ok (.aload_n 0, 1) := by decide +kernel
theorem dX8_add_14 : decode cX8_add 14 = .ok (.getfield 31, 3) := by decide +kernel
theorem dX8_add_17 : decode cX8_add 17 = .ok (.ifCond .eq 5, 3) := by decide +kernel
theorem dX8_add_20 : decode cX8_add 20 = .ok (.iconst 0, 1) := by decide +kernel
theorem dX8_add_21 : decode cX8_add 21 = .ok (.ireturn, 1) := by decide +kernel
theorem dX8_add_22 : decode cX8_add 22 = .ok (.aload_n 0, 1) := by decide +kernel
theorem dX8_add_23 : decode cX8_add 23 = .ok (.invokevirtual 77, 3) := by decide +kernel
theorem dX8_add_26 : decode cX8_add 26 = .ok (.aload_n 0, 1) := by decide +kernel
theorem dX8_add_27 : decode cX8_add 27 = .ok (.iload_n 1, 1) := by decide +kernel
theorem dX8_add_28 : decode cX8_add 28 = .ok (.iload_n 2, 1) := by decide +kernel
theorem dX8_add_29 : decode cX8_add 29 = .ok (.iload_n 3, 1) := by decide +kernel
theorem dX8_add_30 : decode cX8_add 30 = .ok (.iload 4, 2) := by decide +kernel
theorem dX8_add_32 : decode cX8_add 32 = .ok (.aload_n 0, 1) := by decide +kernel
theorem dX8_add_33 : decode cX8_add 33 = .ok (.getfield 7, 3) := by decide +kernel
theorem dX8_add_36 : decode cX8_add 36 = .ok (.iconst 1, 1) := by decide +kernel
theorem dX8_add_37 : decode cX8_add 37 = .ok (.iaload, 1) := by decide +kernel
theorem dX8_add_38 : decode cX8_add 38 = .ok (.sipush 16384, 3) := by decide +kernel
theorem dX8_add_41 : decode cX8_add 41 = .ok (.invokevirtual 80, 3) := by decide +kernel
theorem dX8_add_44 : decode cX8_add 44 = .ok (.ireturn, 1) := by decide +kernel
set_option maxRecDepth 20000 in
theorem ggX8_isValue_X8_in : GoodIn wsX8_isValue wsX8_in := goodIn_r _ [6] (by decide +kernel) (by decide +kernel)
set_option maxRecDepth 20000 in
theorem gX8_isValue_X8_in : GoodIn wsX8_isValue (va_wsS RX8 42 yX8_in wsX8_in) := goodIn_app (goodIn_of _ (by decide +kernel)) ggX8_isValue_X8_in
theorem dX8_isValue_0 : decode cX8_isValue 0 = .ok (.iload_n 0, 1) := by decide +kernel
theorem dX8_isValue_1 : decode cX8_isValue 1 = .ok (.i2l, 1) := by decide +kernel
theorem dX8_isValue_2 : decode cX8_isValue 2 = .ok (.ldc2_w 54, 3) := by decide +kernel
theorem dX8_isValue_5 : decode cX8_isValue 5 = .ok (.ldc2_w 56, 3) := by decide +kernel
theorem dX8_isValue_8 : decode cX8_isValue 8 = .ok (.invokestatic 42, 3) := by decide +kernel
theorem dX8_isValue_11 : decode cX8_isValue 11 = .ok (.ireturn, 1) := by decide +kernel
set_option maxRecDepth 20000 in
theorem ggX8_addThrough_X8_isPosition : GoodIn wsX8_addThrough wsX8_isPosition := goodIn_r _ [5, 6, 7, 8, 4, 9] (by decide +kernel) (by decide +kernel)
set_option maxRecDepth 20000 in
theorem gX8_addThrough_X8_isPosition : GoodIn wsX8_addThrough (va_wsS RX8 65 yX8_isPosition wsX8_isPosition) := goodIn_app (goodIn_of _ (by decide +kernel)) ggX8_addThrough_X8_isPosition
set_option maxRecDepth 20000 in
theorem ggX8_addThrough_X8_isValue : GoodIn wsX8_addThrough wsX8_isValue := goodIn_r _ [12, 13, 14, 7, 8, 4, 9] (by decide +kernel) (by decide +kernel)
set_option maxRecDepth 20000 in
theorem gX8_addThrough_X8_isValue : GoodIn wsX8_addThrough (va_wsS RX8 84 yX8_isValue wsX8_isValue) := goodIn_app (goodIn_of _ (by decide +kernel)) ggX8_addThrough_X8_isValue
set_option maxRecDepth 20000 in
theorem ggX8_addThrough_X8_isTick : GoodIn wsX8_addThrough wsX8_isTick := goodIn_r _ [17, 18, 7, 8, 4, 9] (by decide +kernel) (by decide +kernel)
set_option maxRecDepth 20000 in
theorem gX8_addThrough_X8_isTick : GoodIn wsX8_addThrough (va_wsS RX8 87 yX8_isTick wsX8_isTick) := goodIn_app (goodIn_of _ (by decide +kernel)) ggX8_addThrough_X8_isTick
set_option maxRecDepth 20000 in
theorem ggX8_addThrough_X8_fails : GoodIn wsX8_addThrough wsX8_fails := goodIn_r _ [22, 1, 46, 47, 48, 49, 50, 51, 52, 53, 54, 55, 56, 57, 58, 59] (by decide +kernel) (by decide +kernel)
set_option maxRecDepth 20000 in
theorem gX8_addThrough_X8_fails : GoodIn wsX8_addThrough (wsV RX8 90 RX8 yX8_fails wsX8_fails) := goodIn_app (goodIn_of _ (by decide +kernel)) ggX8_addThrough_X8_fails
set_option maxRecDepth 20000 in
theorem ggX8_addThrough_X8_isLine : GoodIn wsX8_addThrough wsX8_isLine := goodIn_r _ [25, 26, 27, 13, 14, 7, 8, 4, 9] (by decide +kernel) (by decide +kernel)
set_option maxRecDepth 20000 in
theorem gX8_addThrough_X8_isLine : GoodIn wsX8_addThrough (va_wsS RX8 61 yX8_isLine wsX8_isLine) := goodIn_app (goodIn_of _ (by decide +kernel)) ggX8_addThrough_X8_isLine
set_option maxRecDepth 20000 in
theorem ggX8_addThrough_X8_isFull : GoodIn wsX8_addThrough wsX8_isFull := goodIn_r _ [31, 32, 46, 47, 48, 49, 50, 51, 52, 53, 54, 55, 56, 57, 58, 59] (by decide +kernel) (by decide +kernel)
set_option maxRecDepth 20000 in
theorem gX8_addThrough_X8_isFull : GoodIn wsX8_addThrough (wsV RX8 69 RX8 yX8_isFull wsX8_isFull) := goodIn_app (goodIn_of _ (by decide +kernel)) ggX8_addThrough_X8_isFull
set_option maxRecDepth 20000 in
theorem ggX8_addThrough_X8_keep : GoodIn wsX8_addThrough wsX8_keep := goodIn_r _ [36, 37, 38, 32, 46, 47, 48, 49, 50, 51, 52, 53, 54, 55, 56, 57, 58, 59] (by decide +kernel) (by decide +kernel)
set_option maxRecDepth 20000 in
theorem gX8_addThrough_X8_keep : GoodIn wsX8_addThrough (wsV RX8 77 RX8 yX8_keep wsX8_keep) := goodIn_app (goodIn_of _ (by decide +kernel)) ggX8_addThrough_X8_keep
set_option maxRecDepth 20000 in
theorem ggX8_addThrough_X8_put : GoodIn wsX8_addThrough wsX8_put := goodIn_r _ [42, 32, 43, 44, 4, 45, 46, 47, 48, 49, 50, 51, 52, 53, 54, 55, 56, 57, 58, 59] (by decide +kernel) (by decide +kernel)
set_option maxRecDepth 20000 in
theorem gX8_addThrough_X8_put : GoodIn wsX8_addThrough (wsV RX8 80 RX8 yX8_put wsX8_put) := goodIn_app (goodIn_of _ (by decide +kernel)) ggX8_addThrough_X8_put
theorem dX8_addThrough_0 : decode cX8_addThrough 0 = .ok (.aload_n 0, 1) := by decide +kernel
theorem dX8_addThrough_1 : decode cX8_addThrough 1 = .ok (.iconst 0, 1) := by decide +kernel
theorem dX8_addThrough_2 : decode cX8_addThrough 2 = .ok (.putfield 31, 3) := by decide +kernel
theorem dX8_addThrough_5 : decode cX8_addThrough 5 = .ok (.iload_n 1, 1) := by decide +kernel
theorem dX8_addThrough_6 : decode cX8_addThrough 6 = .ok (.invokestatic 65, 3) := by decide +kernel
theorem dX8_addThrough_9 : decode cX8_addThrough 9 = .ok (.ifCond .eq 57, 3) := by decide +kernel
theorem dX8_addThrough_12 : decode cX8_addThrough 12 = .ok (.iload_n 3, 1) := by decide +kernel
theorem dX8_addThrough_13 : decode cX8_addThrough 13 = .ok (.invokestatic 65, 3) := by decide +kernel
theorem dX8_addThrough_16 : decode cX8_addThrough 16 = .ok (.ifCond .eq 50, 3) := by decide +kernel
theorem dX8_addThrough_19 : decode cX8_addThrough 19 = .ok (.iload_n 1, 1) := by decide +kernel
theorem dX8_addThrough_20 : decode cX8_addThrough 20 = .ok (.iload_n 3, 1) := by decide +kernel
theorem dX8_addThrough_21 : decode cX8_addThrough 21 = .ok (.if_icmp .gt 45, 3) := by decide +kernel
theorem dX8_addThrough_24 : decode cX8_addThrough 24 = .ok (.iload_n 2, 1) := by decide +kernel
theorem dX8_addThrough_25 : decode cX8_addThrough 25 = .ok (.invokestatic 84, 3) := by decide +kernel
theorem dX8_addThrough_28 : decode cX8_addThrough 28 = .ok (.ifCond .eq 38, 3) := by decide +kernel
theorem dX8_addThrough_31 : decode cX8_addThrough 31 = .ok (.iload 4, 2) := by decide +kernel
theorem dX8_addThrough_33 : decode cX8_addThrough 33 = .ok (.invokestatic 84, 3) := by decide +kernel
theorem dX8_addThrough_36 : decode cX8_addThrough 36 = .ok (.ifCond .eq 30, 3) := by decide +kernel
theorem dX8_addThrough_39 : decode cX8_addThrough 39 = .ok (.iload 5, 2) := by decide +kernel
theorem dX8_addThrough_41 : decode cX8_addThrough 41 = .ok (.invokestatic 87, 3) := by decide +kernel
theorem dX8_addThrough_44 : decode cX8_addThrough 44 = .ok (.ifCond .eq 22, 3) := by decide +kernel
theorem dX8_addThrough_47 : decode cX8_addThrough 47 = .ok (.iload 6, 2) := by decide +kernel
theorem dX8_addThrough_49 : decode cX8_addThrough 49 = .ok (.invokestatic 87, 3) := by decide +kernel
theorem dX8_addThrough_52 : decode cX8_addThrough 52 = .ok (.ifCond .eq 14, 3) := by decide +kernel
theorem dX8_addThrough_55 : decode cX8_addThrough 55 = .ok (.iload 5, 2) := by decide +kernel
theorem dX8_addThrough_57 : decode cX8_addThrough 57 = .ok (.iload 6, 2) := by decide +kernel
theorem dX8_addThrough_59 : decode cX8_addThrough 59 = .ok (.if_icmp .gt 7, 3) := by decide +kernel
theorem dX8_addThrough_62 : decode cX8_addThrough 62 = .ok (.iconst 1, 1) := by decide +kernel
theorem dX8_addThrough_63 : decode cX8_addThrough 63 = .ok (.goto 4, 3) := by decide +kernel
theorem dX8_addThrough_66 : decode cX8_addThrough 66 = .ok (.iconst 0, 1) := by decide +kernel
theorem dX8_addThrough_67 : decode cX8_addThrough 67 = .ok (.istore 7, 2) := by decide +kernel
theorem dX8_addThrough_69 : decode cX8_addThrough 69 = .ok (.iload 7, 2) := by decide +kernel
theorem dX8_addThrough_71 : decode cX8_addThrough 71 = .ok (.ifCond .eq 30, 3) := by decide +kernel
theorem dX8_addThrough_74 : decode cX8_addThrough 74 = .ok (.iload_n 1, 1) := by decide +kernel
theorem dX8_addThrough_75 : decode cX8_addThrough 75 = .ok (.iload_n 3, 1) := by decide +kernel
theorem dX8_addThrough_76 : decode cX8_addThrough 76 = .ok (.if_icmp .ne 9, 3) := by decide +kernel
theorem dX8_addThrough_79 : decode cX8_addThrough 79 = .ok (.iload_n 2, 1) := by decide +kernel
theorem dX8_addThrough_80 : decode cX8_addThrough 80 = .ok (.iload 4, 2) := by decide +kernel
theorem dX8_addThrough_82 : decode cX8_addThrough 82 = .ok (.if_icmp .ne 19, 3) := by decide +kernel
theorem dX8_addThrough_85 : decode cX8_addThrough 85 = .ok (.iload_n 1, 1) := by decide +kernel
theorem dX8_addThrough_86 : decode cX8_addThrough 86 = .ok (.iload_n 3, 1) := by decide +kernel
theorem dX8_addThrough_87 : decode cX8_addThrough 87 = .ok (.if_icmp .ge 20, 3) := by decide +kernel
theorem dX8_addThrough_90 : decode cX8_addThrough 90 = .ok (.iload 4, 2) := by decide +kernel
theorem dX8_addThrough_92 : decode cX8_addThrough 92 = .ok (.iload_n 2, 1) := by decide +kernel
theorem dX8_addThrough_93 : decode cX8_addThrough 93 = .ok (.isub, 1) := by decide +kernel
theorem dX8_addThrough_94 : decode cX8_addThrough 94 = .ok (.iload_n 3, 1) := by decide +kernel
theorem dX8_addThrough_95 : decode cX8_addThrough 95 = .ok (.iload_n 1, 1) := by decide +kernel
theorem dX8_addThrough_96 : decode cX8_addThrough 96 = .ok (.isub, 1) := by decide +kernel
theorem dX8_addThrough_97 : decode cX8_addThrough 97 = .ok (.irem, 1) := by decide +kernel
theorem dX8_addThrough_98 : decode cX8_addThrough 98 = .ok (.ifCond .eq 9, 3) := by decide +kernel
theorem dX8_addThrough_101 : decode cX8_addThrough 101 = .ok (.aload_n 0, 1) := by decide +kernel
theorem dX8_addThrough_102 : decode cX8_addThrough 102 = .ok (.iconst 1, 1) := by decide +kernel
theorem dX8_addThrough_103 : decode cX8_addThrough 103 = .ok (.invokevirtual 90, 3) := by decide +kernel
theorem dX8_addThrough_106 : decode cX8_addThrough 106 = .ok (.ireturn, 1) := by decide +kernel
theorem dX8_addThrough_107 : decode cX8_addThrough 107 = .ok (.iload_n 1, 1) := by decide +kernel
theorem dX8_addThrough_108 : decode cX8_addThrough 108 = .ok (.iload_n 3, 1) := by decide +kernel
theorem dX8_addThrough_109 : decode cX8_addThrough 109 = .ok (.if_icmp .ne 7, 3) := by decide +kernel
theorem dX8_addThrough_112 : decode cX8_addThrough 112 = .ok (.iconst 0, 1) := by decide +kernel
theorem dX8_addThrough_113 : decode cX8_addThrough 113 = .ok (.goto 11, 3) := by decide +kernel
theorem dX8_addThrough_116 : decode cX8_addThrough 116 = .ok (.iload 4, 2) := by decide +kernel
theorem dX8_addThrough_118 : decode cX8_addThrough 118 = .ok (.iload_n 2, 1) := by decide +kernel
theorem dX8_addThrough_119 : decode cX8_addThrough 119 = .ok (.isub, 1) := by decide +kernel
theorem dX8_addThrough_120 : decode cX8_addThrough 120 = .ok (.iload_n 3, 1) := by decide +kernel
theorem dX8_addThrough_121 : decode cX8_addThrough 121 = .ok (.iload_n 1, 1) := by decide +kernel
theorem dX8_addThrough_122 : decode cX8_addThrough 122 = .ok (.isub, 1) := by decide +kernel
theorem dX8_addThrough_123 : decode cX8_addThrough 123 = .ok (.idiv, 1) := by decide +kernel
theorem dX8_addThrough_124 : decode cX8_addThrough 124 = .ok (.istore 8, 2) := by decide +kernel
theorem dX8_addThrough_126 : decode cX8_addThrough 126 = .ok (.iload 8, 2) := by decide +kernel
theorem dX8_addThrough_128 : decode cX8_addThrough 128 = .ok (.iload_n 2, 1) := by decide +kernel
theorem dX8_addThrough_129 : decode cX8_addThrough 129 = .ok (.iload 8, 2) := by decide +kernel
theorem dX8_addThrough_131 : decode cX8_addThrough 131 = .ok (.iload_n 1, 1) := by decide +kernel
theorem dX8_addThrough_132 : decode cX8_addThrough 132 = .ok (.imul, 1) := by decide +kernel
theorem dX8_addThrough_133 : decode cX8_addThrough 133 = .ok (.isub, 1) := by decide +kernel
theorem dX8_addThrough_134 : decode cX8_addThrough 134 = .ok (.invokestatic 61, 3) := by decide +kernel
theorem dX8_addThrough_137 : decode cX8_addThrough 137 = .ok (.ifCond .ne 9, 3) := by decide +kernel
theorem dX8_addThrough_140 : decode cX8_addThrough 140 = .ok (.aload_n 0, 1) := by decide +kernel
theorem dX8_addThrough_141 : decode cX8_addThrough 141 = .ok (.iconst 1, 1) := by decide +kernel
theorem dX8_addThrough_142 : decode cX8_addThrough 142 = .ok (.invokevirtual 90, 3) := by decide +kernel
theorem dX8_addThrough_145 : decode cX8_addThrough 145 = .ok (.ireturn, 1) := by decide +kernel
theorem dX8_addThrough_146 : decode cX8_addThrough 146 = .ok (.aload_n 0, 1) := by decide +kernel
theorem dX8_addThrough_147 : decode cX8_addThrough 147 = .ok (.invokevirtual 69, 3) := by decide +kernel
theorem dX8_addThrough_150 : decode cX8_addThrough 150 = .ok (.ifCond .eq 9, 3) := by decide +kernel
theorem dX8_addThrough_153 : decode cX8_addThrough 153 = .ok (.aload_n 0, 1) := by decide +kernel
theorem dX8_addThrough_154 : decode cX8_addThrough 154 = .ok (.iconst 2, 1) := by decide +kernel
theorem dX8_addThrough_155 : decode cX8_addThrough 155 = .ok (.invokevirtual 90, 3) := by decide +kernel
theorem dX8_addThrough_158 : decode cX8_addThrough 158 = .ok (.ireturn, 1) := by decide +kernel
theorem dX8_addThrough_159 : decode cX8_addThrough 159 = .ok (.aload_n 0, 1) := by decide +kernel
theorem dX8_addThrough_160 : decode cX8_addThrough 160 = .ok (.invokevirtual 77, 3) := by decide +kernel
theorem dX8_addThrough_163 : decode cX8_addThrough 163 = .ok (.aload_n 0, 1) := by decide +kernel
theorem dX8_addThrough_164 : decode cX8_addThrough 164 = .ok (.iload 8, 2) := by decide +kernel
theorem dX8_addThrough_166 : decode cX8_addThrough 166 = .ok (.iload_n 2, 1) := by decide +kernel
theorem dX8_addThrough_167 : decode cX8_addThrough 167 = .ok (.iload 8, 2) := by decide +kernel
theorem dX8_addThrough_169 : decode cX8_addThrough 169 = .ok (.iload_n 1, 1) := by decide +kernel
theorem dX8_addThrough_170 : decode cX8_addThrough 170 = .ok (.imul, 1) := by decide +kernel
theorem dX8_addThrough_171 : decode cX8_addThrough 171 = .ok (.isub, 1) := by decide +kernel
theorem dX8_addThrough_172 : decode cX8_addThrough 172 = .ok (.iload_n 1, 1) := by decide +kernel
theorem dX8_addThrough_173 : decode cX8_addThrough 173 = .ok (.iload_n 3, 1) := by decide +kernel
theorem dX8_addThrough_174 : decode cX8_addThrough 174 = .ok (.iload 5, 2) := by decide +kernel
theorem dX8_addThrough_176 : decode cX8_addThrough 176 = .ok (.iload 6, 2) := by decide +kernel
theorem dX8_addThrough_178 : decode cX8_addThrough 178 = .ok (.invokevirtual 80, 3) := by decide +kernel
theorem dX8_addThrough_181 : decode cX8_addThrough 181 = .ok (.ireturn, 1) := by decide +kernel
set_option maxRecDepth 20000 in
theorem ggX8_whyNotEnd_X8_isSegment : GoodIn wsX8_whyNotEnd wsX8_isSegment := goodIn_r _ [6, 1, 7, 8, 5, 9, 21, 22, 23, 24, 25, 26, 27, 28, 29, 30, 31, 32, 33, 34] (by decide +kernel) (by decide +kernel)
set_option maxRecDepth 20000 in
theorem gX8_whyNotEnd_X8_isSegment : GoodIn wsX8_whyNotEnd (wsV RX8 94 RX8 yX8_isSegment wsX8_isSegment) := goodIn_app (goodIn_of _ (by decide +kernel)) ggX8_whyNotEnd_X8_isSegment
set_option maxRecDepth 20000 in
theorem ggX8_whyNotEnd_X8_isLive : GoodIn wsX8_whyNotEnd wsX8_isLive := goodIn_r _ [13, 14, 15, 16, 5, 17, 1, 18, 19, 20, 21, 22, 23, 24, 25, 26, 27, 28, 29, 30, 31, 32, 33, 34] (by decide +kernel) (by decide +kernel)
set_option maxRecDepth 20000 in
theorem gX8_whyNotEnd_X8_isLive : GoodIn wsX8_whyNotEnd (wsV RX8 97 RX8 yX8_isLive wsX8_isLive) := goodIn_app (goodIn_of _ (by decide +kernel)) ggX8_whyNotEnd_X8_isLive
theorem dX8_whyNotEnd_0 : decode cX8_whyNotEnd 0 = .ok (.aload_n 0, 1) := by decide +kernel
theorem dX8_whyNotEnd_1 : decode cX8_whyNotEnd 1 = .ok (.iload_n 1, 1) := by decide +kernel
theorem dX8_whyNotEnd_2 : decode cX8_whyNotEnd 2 = .ok (.invokevirtual 94, 3) := by decide +kernel
theorem dX8_whyNotEnd_5 : decode cX8_whyNotEnd 5 = .ok (.ifCond .ne 7, 3) := by decide +kernel
theorem dX8_whyNotEnd_8 : decode cX8_whyNotEnd 8 = .ok (.iconst 1, 1) := by decide +kernel
theorem dX8_whyNotEnd_9 : decode cX8_whyNotEnd 9 = .ok (.goto 22, 3) := by decide +kernel
theorem dX8_whyNotEnd_12 : decode cX8_whyNotEnd 12 = .ok (.aload_n 0, 1) := by decide +kernel
theorem dX8_whyNotEnd_13 : decode cX8_whyNotEnd 13 = .ok (.iload_n 1, 1) := by decide +kernel
theorem dX8_whyNotEnd_14 : decode cX8_whyNotEnd 14 = .ok (.aload_n 0, 1) := by decide +kernel
theorem dX8_whyNotEnd_15 : decode cX8_whyNotEnd 15 = .ok (.getfield 7, 3) := by decide +kernel
theorem dX8_whyNotEnd_18 : decode cX8_whyNotEnd 18 = .ok (.iconst 1, 1) := by decide +kernel
theorem dX8_whyNotEnd_19 : decode cX8_whyNotEnd 19 = .ok (.iaload, 1) := by decide +kernel
theorem dX8_whyNotEnd_20 : decode cX8_whyNotEnd 20 = .ok (.invokevirtual 97, 3) := by decide +kernel
theorem dX8_whyNotEnd_23 : decode cX8_whyNotEnd 23 = .ok (.ifCond .eq 7, 3) := by decide +kernel
theorem dX8_whyNotEnd_26 : decode cX8_whyNotEnd 26 = .ok (.iconst 0, 1) := by decide +kernel
theorem dX8_whyNotEnd_27 : decode cX8_whyNotEnd 27 = .ok (.goto 4, 3) := by decide +kernel
theorem dX8_whyNotEnd_30 : decode cX8_whyNotEnd 30 = .ok (.iconst 2, 1) := by decide +kernel
theorem dX8_whyNotEnd_31 : decode cX8_whyNotEnd 31 = .ok (.ireturn, 1) := by decide +kernel
set_option maxRecDepth 20000 in
theorem ggX8_endNow_X8_cell : GoodIn wsX8_endNow wsX8_cell := goodIn_r _ [5] (by decide +kernel) (by decide +kernel)
set_option maxRecDepth 20000 in
theorem gX8_endNow_X8_cell : GoodIn wsX8_endNow (va_wsS RX8 38 yX8_cell wsX8_cell) := goodIn_app (goodIn_of _ (by decide +kernel)) ggX8_endNow_X8_cell
set_option maxRecDepth 20000 in
theorem ggX8_endNow_X8_of : GoodIn wsX8_endNow wsX8_of := goodIn_r _ [9, 1, 2, 3, 4, 5, 10, 11, 12, 13, 14, 15, 16, 17, 18, 19, 20, 21, 22, 23] (by decide +kernel) (by decide +kernel)
set_option maxRecDepth 20000 in
theorem gX8_endNow_X8_of : GoodIn wsX8_endNow (wsV RX8 58 RX8 yX8_of wsX8_of) := goodIn_app (goodIn_of _ (by decide +kernel)) ggX8_endNow_X8_of
theorem dX8_endNow_0 : decode cX8_endNow 0 = .ok (.aload_n 0, 1) := by decide +kernel
theorem dX8_endNow_1 : decode cX8_endNow 1 = .ok (.getfield 7, 3) := by decide +kernel
theorem dX8_endNow_4 : decode cX8_endNow 4 = .ok (.iload_n 1, 1) := by decide +kernel
theorem dX8_endNow_5 : decode cX8_endNow 5 = .ok (.iconst 5, 1) := by decide +kernel
theorem dX8_endNow_6 : decode cX8_endNow 6 = .ok (.invokestatic 38, 3) := by decide +kernel
theorem dX8_endNow_9 : decode cX8_endNow 9 = .ok (.aload_n 0, 1) := by decide +kernel
theorem dX8_endNow_10 : decode cX8_endNow 10 = .ok (.getfield 7, 3) := by decide +kernel
theorem dX8_endNow_13 : decode cX8_endNow 13 = .ok (.iconst 1, 1) := by decide +kernel
