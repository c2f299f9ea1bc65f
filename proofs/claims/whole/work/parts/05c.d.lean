theorem dX8_below_23 : decode cX8_below 23 = .ok (.istore 6, 2) := by decide +kernel
theorem dX8_below_25 : decode cX8_below 25 = .ok (.iload 6, 2) := by decide +kernel
theorem dX8_below_27 : decode cX8_below 27 = .ok (.aload_n 0, 1) := by decide +kernel
theorem dX8_below_28 : decode cX8_below 28 = .ok (.getfield 7, 3) := by decide +kernel
theorem dX8_below_31 : decode cX8_below 31 = .ok (.iconst 0, 1) := by decide +kernel
theorem dX8_below_32 : decode cX8_below 32 = .ok (.iaload, 1) := by decide +kernel
theorem dX8_below_33 : decode cX8_below 33 = .ok (.if_icmp .ge 43, 3) := by decide +kernel
theorem dX8_below_36 : decode cX8_below 36 = .ok (.iload 5, 2) := by decide +kernel
theorem dX8_below_38 : decode cX8_below 38 = .ok (.aload_n 0, 1) := by decide +kernel
theorem dX8_below_39 : decode cX8_below 39 = .ok (.iload 6, 2) := by decide +kernel
theorem dX8_below_41 : decode cX8_below 41 = .ok (.iload_n 1, 1) := by decide +kernel
theorem dX8_below_42 : decode cX8_below 42 = .ok (.iload_n 2, 1) := by decide +kernel
theorem dX8_below_43 : decode cX8_below 43 = .ok (.invokevirtual 120, 3) := by decide +kernel
theorem dX8_below_46 : decode cX8_below 46 = .ok (.ifCond .eq 20, 3) := by decide +kernel
theorem dX8_below_49 : decode cX8_below 49 = .ok (.aload_n 0, 1) := by decide +kernel
theorem dX8_below_50 : decode cX8_below 50 = .ok (.iload 6, 2) := by decide +kernel
theorem dX8_below_52 : decode cX8_below 52 = .ok (.iload_n 1, 1) := by decide +kernel
theorem dX8_below_53 : decode cX8_below 53 = .ok (.invokevirtual 117, 3) := by decide +kernel
theorem dX8_below_56 : decode cX8_below 56 = .ok (.i2l, 1) := by decide +kernel
theorem dX8_below_57 : decode cX8_below 57 = .ok (.lload_n 3, 1) := by decide +kernel
theorem dX8_below_58 : decode cX8_below 58 = .ok (.lcmp, 1) := by decide +kernel
theorem dX8_below_59 : decode cX8_below 59 = .ok (.ifCond .ge 7, 3) := by decide +kernel
theorem dX8_below_62 : decode cX8_below 62 = .ok (.iconst 1, 1) := by decide +kernel
theorem dX8_below_63 : decode cX8_below 63 = .ok (.goto 4, 3) := by decide +kernel
theorem dX8_below_66 : decode cX8_below 66 = .ok (.iconst 0, 1) := by decide +kernel
theorem dX8_below_67 : decode cX8_below 67 = .ok (.iadd, 1) := by decide +kernel
theorem dX8_below_68 : decode cX8_below 68 = .ok (.istore 5, 2) := by decide +kernel
theorem dX8_below_70 : decode cX8_below 70 = .ok (.iinc 6 1, 3) := by decide +kernel
theorem dX8_below_73 : decode cX8_below 73 = .ok (.goto (-48), 3) := by decide +kernel
theorem dX8_below_76 : decode cX8_below 76 = .ok (.iload 5, 2) := by decide +kernel
theorem dX8_below_78 : decode cX8_below 78 = .ok (.ireturn, 1) := by decide +kernel
set_option maxRecDepth 20000 in
theorem ggX8_overtakes_X8_isSegment : GoodIn wsX8_overtakes wsX8_isSegment := goodIn_r _ [6, 7, 8, 9, 5, 10, 26, 27, 28, 29, 30, 31, 32, 33, 34, 35, 36, 37, 38, 39] (by decide +kernel) (by decide +kernel)
set_option maxRecDepth 20000 in
theorem gX8_overtakes_X8_isSegment : GoodIn wsX8_overtakes (wsV RX8 94 RX8 yX8_isSegment wsX8_isSegment) := goodIn_app (goodIn_of _ (by decide +kernel)) ggX8_overtakes_X8_isSegment
set_option maxRecDepth 20000 in
theorem ggX8_overtakes_X8_fails : GoodIn wsX8_overtakes wsX8_fails := goodIn_r _ [14, 1, 26, 27, 28, 29, 30, 31, 32, 33, 34, 35, 36, 37, 38, 39] (by decide +kernel) (by decide +kernel)
set_option maxRecDepth 20000 in
theorem gX8_overtakes_X8_fails : GoodIn wsX8_overtakes (wsV RX8 90 RX8 yX8_fails wsX8_fails) := goodIn_app (goodIn_of _ (by decide +kernel)) ggX8_overtakes_X8_fails
set_option maxRecDepth 20000 in
theorem ggX8_overtakes_X8_of : GoodIn wsX8_overtakes wsX8_of := goodIn_r _ [18, 7, 19, 20, 5, 21, 26, 27, 28, 29, 30, 31, 32, 33, 34, 35, 36, 37, 38, 39] (by decide +kernel) (by decide +kernel)
set_option maxRecDepth 20000 in
theorem gX8_overtakes_X8_of : GoodIn wsX8_overtakes (wsV RX8 58 RX8 yX8_of wsX8_of) := goodIn_app (goodIn_of _ (by decide +kernel)) ggX8_overtakes_X8_of
set_option maxRecDepth 20000 in
theorem ggX8_overtakes_X8_in : GoodIn wsX8_overtakes wsX8_in := goodIn_r _ [10] (by decide +kernel) (by decide +kernel)
set_option maxRecDepth 20000 in
theorem gX8_overtakes_X8_in : GoodIn wsX8_overtakes (va_wsS RX8 42 yX8_in wsX8_in) := goodIn_app (goodIn_of _ (by decide +kernel)) ggX8_overtakes_X8_in
set_option maxRecDepth 20000 in
theorem ggX8_overtakes_X8_valueAt : GoodIn wsX8_overtakes wsX8_valueAt := goodIn_r _ [25, 15, 16, 17, 5, 18, 7, 19, 20, 21, 26, 27, 28, 29, 30, 31, 32, 33, 34, 35, 36, 37, 38, 39] (by decide +kernel) (by decide +kernel)
set_option maxRecDepth 20000 in
theorem gX8_overtakes_X8_valueAt : GoodIn wsX8_overtakes (wsV RX8 117 RX8 yX8_valueAt wsX8_valueAt) := goodIn_app (goodIn_of _ (by decide +kernel)) ggX8_overtakes_X8_valueAt
theorem dX8_overtakes_0 : decode cX8_overtakes 0 = .ok (.aload_n 0, 1) := by decide +kernel
theorem dX8_overtakes_1 : decode cX8_overtakes 1 = .ok (.iconst 0, 1) := by decide +kernel
theorem dX8_overtakes_2 : decode cX8_overtakes 2 = .ok (.putfield 31, 3) := by decide +kernel
theorem dX8_overtakes_5 : decode cX8_overtakes 5 = .ok (.aload_n 0, 1) := by decide +kernel
theorem dX8_overtakes_6 : decode cX8_overtakes 6 = .ok (.iload_n 1, 1) := by decide +kernel
theorem dX8_overtakes_7 : decode cX8_overtakes 7 = .ok (.invokevirtual 94, 3) := by decide +kernel
theorem dX8_overtakes_10 : decode cX8_overtakes 10 = .ok (.ifCond .eq 11, 3) := by decide +kernel
theorem dX8_overtakes_13 : decode cX8_overtakes 13 = .ok (.aload_n 0, 1) := by decide +kernel
theorem dX8_overtakes_14 : decode cX8_overtakes 14 = .ok (.iload_n 2, 1) := by decide +kernel
theorem dX8_overtakes_15 : decode cX8_overtakes 15 = .ok (.invokevirtual 94, 3) := by decide +kernel
theorem dX8_overtakes_18 : decode cX8_overtakes 18 = .ok (.ifCond .ne 9, 3) := by decide +kernel
theorem dX8_overtakes_21 : decode cX8_overtakes 21 = .ok (.aload_n 0, 1) := by decide +kernel
theorem dX8_overtakes_22 : decode cX8_overtakes 22 = .ok (.iconst 1, 1) := by decide +kernel
theorem dX8_overtakes_23 : decode cX8_overtakes 23 = .ok (.invokevirtual 90, 3) := by decide +kernel
theorem dX8_overtakes_26 : decode cX8_overtakes 26 = .ok (.ireturn, 1) := by decide +kernel
theorem dX8_overtakes_27 : decode cX8_overtakes 27 = .ok (.iconst 0, 1) := by decide +kernel
theorem dX8_overtakes_28 : decode cX8_overtakes 28 = .ok (.istore_n 3, 1) := by decide +kernel
theorem dX8_overtakes_29 : decode cX8_overtakes 29 = .ok (.iload_n 3, 1) := by decide +kernel
theorem dX8_overtakes_30 : decode cX8_overtakes 30 = .ok (.sipush 255, 3) := by decide +kernel
theorem dX8_overtakes_33 : decode cX8_overtakes 33 = .ok (.if_icmp .gt 82, 3) := by decide +kernel
theorem dX8_overtakes_36 : decode cX8_overtakes 36 = .ok (.iload_n 3, 1) := by decide +kernel
theorem dX8_overtakes_37 : decode cX8_overtakes 37 = .ok (.i2l, 1) := by decide +kernel
theorem dX8_overtakes_38 : decode cX8_overtakes 38 = .ok (.aload_n 0, 1) := by decide +kernel
theorem dX8_overtakes_39 : decode cX8_overtakes 39 = .ok (.iload_n 1, 1) := by decide +kernel
theorem dX8_overtakes_40 : decode cX8_overtakes 40 = .ok (.iconst 2, 1) := by decide +kernel
theorem dX8_overtakes_41 : decode cX8_overtakes 41 = .ok (.invokevirtual 58, 3) := by decide +kernel
theorem dX8_overtakes_44 : decode cX8_overtakes 44 = .ok (.i2l, 1) := by decide +kernel
theorem dX8_overtakes_45 : decode cX8_overtakes 45 = .ok (.aload_n 0, 1) := by decide +kernel
theorem dX8_overtakes_46 : decode cX8_overtakes 46 = .ok (.iload_n 1, 1) := by decide +kernel
theorem dX8_overtakes_47 : decode cX8_overtakes 47 = .ok (.iconst 3, 1) := by decide +kernel
theorem dX8_overtakes_48 : decode cX8_overtakes 48 = .ok (.invokevirtual 58, 3) := by decide +kernel
theorem dX8_overtakes_51 : decode cX8_overtakes 51 = .ok (.i2l, 1) := by decide +kernel
theorem dX8_overtakes_52 : decode cX8_overtakes 52 = .ok (.invokestatic 42, 3) := by decide +kernel
theorem dX8_overtakes_55 : decode cX8_overtakes 55 = .ok (.ifCond .eq 29, 3) := by decide +kernel
theorem dX8_overtakes_58 : decode cX8_overtakes 58 = .ok (.iload_n 3, 1) := by decide +kernel
theorem dX8_overtakes_59 : decode cX8_overtakes 59 = .ok (.i2l, 1) := by decide +kernel
theorem dX8_overtakes_60 : decode cX8_overtakes 60 = .ok (.aload_n 0, 1) := by decide +kernel
theorem dX8_overtakes_61 : decode cX8_overtakes 61 = .ok (.iload_n 2, 1) := by decide +kernel
theorem dX8_overtakes_62 : decode cX8_overtakes 62 = .ok (.iconst 2, 1) := by decide +kernel
theorem dX8_overtakes_63 : decode cX8_overtakes 63 = .ok (.invokevirtual 58, 3) := by decide +kernel
theorem dX8_overtakes_66 : decode cX8_overtakes 66 = .ok (.i2l, 1) := by decide +kernel
theorem dX8_overtakes_67 : decode cX8_overtakes 67 = .ok (.aload_n 0, 1) := by decide +kernel
theorem dX8_overtakes_68 : decode cX8_overtakes 68 = .ok (.iload_n 2, 1) := by decide +kernel
theorem dX8_overtakes_69 : decode cX8_overtakes 69 = .ok (.iconst 3, 1) := by decide +kernel
theorem dX8_overtakes_70 : decode cX8_overtakes 70 = .ok (.invokevirtual 58, 3) := by decide +kernel
theorem dX8_overtakes_73 : decode cX8_overtakes 73 = .ok (.i2l, 1) := by decide +kernel
theorem dX8_overtakes_74 : decode cX8_overtakes 74 = .ok (.invokestatic 42, 3) := by decide +kernel
theorem dX8_overtakes_77 : decode cX8_overtakes 77 = .ok (.ifCond .eq 7, 3) := by decide +kernel
theorem dX8_overtakes_80 : decode cX8_overtakes 80 = .ok (.iconst 1, 1) := by decide +kernel
theorem dX8_overtakes_81 : decode cX8_overtakes 81 = .ok (.goto 4, 3) := by decide +kernel
theorem dX8_overtakes_84 : decode cX8_overtakes 84 = .ok (.iconst 0, 1) := by decide +kernel
theorem dX8_overtakes_85 : decode cX8_overtakes 85 = .ok (.istore 4, 2) := by decide +kernel
theorem dX8_overtakes_87 : decode cX8_overtakes 87 = .ok (.iload 4, 2) := by decide +kernel
theorem dX8_overtakes_89 : decode cX8_overtakes 89 = .ok (.ifCond .eq 20, 3) := by decide +kernel
theorem dX8_overtakes_92 : decode cX8_overtakes 92 = .ok (.aload_n 0, 1) := by decide +kernel
theorem dX8_overtakes_93 : decode cX8_overtakes 93 = .ok (.iload_n 2, 1) := by decide +kernel
theorem dX8_overtakes_94 : decode cX8_overtakes 94 = .ok (.iload_n 3, 1) := by decide +kernel
theorem dX8_overtakes_95 : decode cX8_overtakes 95 = .ok (.invokevirtual 117, 3) := by decide +kernel
theorem dX8_overtakes_98 : decode cX8_overtakes 98 = .ok (.aload_n 0, 1) := by decide +kernel
theorem dX8_overtakes_99 : decode cX8_overtakes 99 = .ok (.iload_n 1, 1) := by decide +kernel
theorem dX8_overtakes_100 : decode cX8_overtakes 100 = .ok (.iload_n 3, 1) := by decide +kernel
theorem dX8_overtakes_101 : decode cX8_overtakes 101 = .ok (.invokevirtual 117, 3) := by decide +kernel
theorem dX8_overtakes_104 : decode cX8_overtakes 104 = .ok (.if_icmp .ge 5, 3) := by decide +kernel
theorem dX8_overtakes_107 : decode cX8_overtakes 107 = .ok (.iload_n 3, 1) := by decide +kernel
theorem dX8_overtakes_108 : decode cX8_overtakes 108 = .ok (.ireturn, 1) := by decide +kernel
theorem dX8_overtakes_109 : decode cX8_overtakes 109 = .ok (.iinc 3 1, 3) := by decide +kernel
theorem dX8_overtakes_112 : decode cX8_overtakes 112 = .ok (.goto (-83), 3) := by decide +kernel
theorem dX8_overtakes_115 : decode cX8_overtakes 115 = .ok (.iconst (-1), 1) := by decide +kernel
theorem dX8_overtakes_116 : decode cX8_overtakes 116 = .ok (.ireturn, 1) := by decide +kernel
set_option maxRecDepth 20000 in
theorem ggX8_layPieces_X8_firstAt : GoodIn wsX8_layPieces wsX8_firstAt := goodIn_r _ [7, 8, 9, 10, 11, 6, 12, 13, 14, 15, 16, 17, 18, 19, 20, 21, 22, 23, 24, 25, 26, 27, 28, 29, 30, 31, 32, 33, 34, 35, 36, 37, 38, 39, 40, 41, 42, 43, 44, 45, 46, 47, 48] (by decide +kernel) (by decide +kernel)
set_option maxRecDepth 20000 in
theorem gX8_layPieces_X8_firstAt : GoodIn wsX8_layPieces (wsV RX8 130 RX8 yX8_firstAt wsX8_firstAt) := goodIn_app (goodIn_of _ (by decide +kernel)) ggX8_layPieces_X8_firstAt
theorem dX8_layPieces_0 : decode cX8_layPieces 0 = .ok (.aload_n 0, 1) := by decide +kernel
theorem dX8_layPieces_1 : decode cX8_layPieces 1 = .ok (.iconst 0, 1) := by decide +kernel
theorem dX8_layPieces_2 : decode cX8_layPieces 2 = .ok (.putfield 139, 3) := by decide +kernel
theorem dX8_layPieces_5 : decode cX8_layPieces 5 = .ok (.iconst 0, 1) := by decide +kernel
theorem dX8_layPieces_6 : decode cX8_layPieces 6 = .ok (.istore_n 2, 1) := by decide +kernel
theorem dX8_layPieces_7 : decode cX8_layPieces 7 = .ok (.iload_n 2, 1) := by decide +kernel
theorem dX8_layPieces_8 : decode cX8_layPieces 8 = .ok (.sipush 255, 3) := by decide +kernel
theorem dX8_layPieces_11 : decode cX8_layPieces 11 = .ok (.if_icmp .gt 99, 3) := by decide +kernel
theorem dX8_layPieces_14 : decode cX8_layPieces 14 = .ok (.aload_n 0, 1) := by decide +kernel
theorem dX8_layPieces_15 : decode cX8_layPieces 15 = .ok (.iload_n 2, 1) := by decide +kernel
theorem dX8_layPieces_16 : decode cX8_layPieces 16 = .ok (.iload_n 1, 1) := by decide +kernel
theorem dX8_layPieces_17 : decode cX8_layPieces 17 = .ok (.invokevirtual 130, 3) := by decide +kernel
theorem dX8_layPieces_20 : decode cX8_layPieces 20 = .ok (.istore_n 3, 1) := by decide +kernel
theorem dX8_layPieces_21 : decode cX8_layPieces 21 = .ok (.iconst 3, 1) := by decide +kernel
theorem dX8_layPieces_22 : decode cX8_layPieces 22 = .ok (.aload_n 0, 1) := by decide +kernel
theorem dX8_layPieces_23 : decode cX8_layPieces 23 = .ok (.getfield 139, 3) := by decide +kernel
theorem dX8_layPieces_26 : decode cX8_layPieces 26 = .ok (.iconst 1, 1) := by decide +kernel
theorem dX8_layPieces_27 : decode cX8_layPieces 27 = .ok (.isub, 1) := by decide +kernel
theorem dX8_layPieces_28 : decode cX8_layPieces 28 = .ok (.imul, 1) := by decide +kernel
theorem dX8_layPieces_29 : decode cX8_layPieces 29 = .ok (.istore 4, 2) := by decide +kernel
theorem dX8_layPieces_31 : decode cX8_layPieces 31 = .ok (.aload_n 0, 1) := by decide +kernel
theorem dX8_layPieces_32 : decode cX8_layPieces 32 = .ok (.getfield 139, 3) := by decide +kernel
theorem dX8_layPieces_35 : decode cX8_layPieces 35 = .ok (.ifCond .le 29, 3) := by decide +kernel
theorem dX8_layPieces_38 : decode cX8_layPieces 38 = .ok (.aload_n 0, 1) := by decide +kernel
theorem dX8_layPieces_39 : decode cX8_layPieces 39 = .ok (.getfield 19, 3) := by decide +kernel
theorem dX8_layPieces_42 : decode cX8_layPieces 42 = .ok (.iload 4, 2) := by decide +kernel
theorem dX8_layPieces_44 : decode cX8_layPieces 44 = .ok (.iconst 2, 1) := by decide +kernel
theorem dX8_layPieces_45 : decode cX8_layPieces 45 = .ok (.iadd, 1) := by decide +kernel
theorem dX8_layPieces_46 : decode cX8_layPieces 46 = .ok (.iaload, 1) := by decide +kernel
theorem dX8_layPieces_47 : decode cX8_layPieces 47 = .ok (.iload_n 3, 1) := by decide +kernel
theorem dX8_layPieces_48 : decode cX8_layPieces 48 = .ok (.if_icmp .ne 16, 3) := by decide +kernel
theorem dX8_layPieces_51 : decode cX8_layPieces 51 = .ok (.aload_n 0, 1) := by decide +kernel
theorem dX8_layPieces_52 : decode cX8_layPieces 52 = .ok (.getfield 19, 3) := by decide +kernel
theorem dX8_layPieces_55 : decode cX8_layPieces 55 = .ok (.iload 4, 2) := by decide +kernel
theorem dX8_layPieces_57 : decode cX8_layPieces 57 = .ok (.iconst 1, 1) := by decide +kernel
theorem dX8_layPieces_58 : decode cX8_layPieces 58 = .ok (.iadd, 1) := by decide +kernel
theorem dX8_layPieces_59 : decode cX8_layPieces 59 = .ok (.iload_n 2, 1) := by decide +kernel
theorem dX8_layPieces_60 : decode cX8_layPieces 60 = .ok (.iastore, 1) := by decide +kernel
theorem dX8_layPieces_61 : decode cX8_layPieces 61 = .ok (.goto 43, 3) := by decide +kernel
theorem dX8_layPieces_64 : decode cX8_layPieces 64 = .ok (.aload_n 0, 1) := by decide +kernel
theorem dX8_layPieces_65 : decode cX8_layPieces 65 = .ok (.getfield 19, 3) := by decide +kernel
theorem dX8_layPieces_68 : decode cX8_layPieces 68 = .ok (.iload 4, 2) := by decide +kernel
theorem dX8_layPieces_70 : decode cX8_layPieces 70 = .ok (.iconst 3, 1) := by decide +kernel
theorem dX8_layPieces_71 : decode cX8_layPieces 71 = .ok (.iadd, 1) := by decide +kernel
theorem dX8_layPieces_72 : decode cX8_layPieces 72 = .ok (.iload_n 2, 1) := by decide +kernel
theorem dX8_layPieces_73 : decode cX8_layPieces 73 = .ok (.iastore, 1) := by decide +kernel
theorem dX8_layPieces_74 : decode cX8_layPieces 74 = .ok (.aload_n 0, 1) := by decide +kernel
theorem dX8_layPieces_75 : decode cX8_layPieces 75 = .ok (.getfield 19, 3) := by decide +kernel
theorem dX8_layPieces_78 : decode cX8_layPieces 78 = .ok (.iload 4, 2) := by decide +kernel
theorem dX8_layPieces_80 : decode cX8_layPieces 80 = .ok (.iconst 4, 1) := by decide +kernel
theorem dX8_layPieces_81 : decode cX8_layPieces 81 = .ok (.iadd, 1) := by decide +kernel
theorem dX8_layPieces_82 : decode cX8_layPieces 82 = .ok (.iload_n 2, 1) := by decide +kernel
theorem dX8_layPieces_83 : decode cX8_layPieces 83 = .ok (.iastore, 1) := by decide +kernel
theorem dX8_layPieces_84 : decode cX8_layPieces 84 = .ok (.aload_n 0, 1) := by decide +kernel
theorem dX8_layPieces_85 : decode cX8_layPieces 85 = .ok (.getfield 19, 3) := by decide +kernel
theorem dX8_layPieces_88 : decode cX8_layPieces 88 = .ok (.iload 4, 2) := by decide +kernel
theorem dX8_layPieces_90 : decode cX8_layPieces 90 = .ok (.iconst 5, 1) := by decide +kernel
theorem dX8_layPieces_91 : decode cX8_layPieces 91 = .ok (.iadd, 1) := by decide +kernel
theorem dX8_layPieces_92 : decode cX8_layPieces 92 = .ok (.iload_n 3, 1) := by decide +kernel
theorem dX8_layPieces_93 : decode cX8_layPieces 93 = .ok (.iastore, 1) := by decide +kernel
theorem dX8_layPieces_94 : decode cX8_layPieces 94 = .ok (.aload_n 0, 1) := by decide +kernel
theorem dX8_layPieces_95 : decode cX8_layPieces 95 = .ok (.dup, 1) := by decide +kernel
theorem dX8_layPieces_96 : decode cX8_layPieces 96 = .ok (.getfield 139, 3) := by decide +kernel
theorem dX8_layPieces_99 : decode cX8_layPieces 99 = .ok (.iconst 1, 1) := by decide +kernel
theorem dX8_layPieces_100 : decode cX8_layPieces 100 = .ok (.iadd, 1) := by decide +kernel
theorem dX8_layPieces_101 : decode cX8_layPieces 101 = .ok (.putfield 139, 3) := by decide +kernel
theorem dX8_layPieces_104 : decode cX8_layPieces 104 = .ok (.iinc 2 1, 3) := by decide +kernel
theorem dX8_layPieces_107 : decode cX8_layPieces 107 = .ok (.goto (-100), 3) := by decide +kernel
theorem dX8_layPieces_110 : decode cX8_layPieces 110 = .ok (.return_, 1) := by decide +kernel
set_option maxRecDepth 20000 in
theorem ggX8_pieces_X8_isTick : GoodIn wsX8_pieces wsX8_isTick := goodIn_r _ [6, 7, 8, 9, 5, 10] (by decide +kernel) (by decide +kernel)
set_option maxRecDepth 20000 in
theorem gX8_pieces_X8_isTick : GoodIn wsX8_pieces (va_wsS RX8 87 yX8_isTick wsX8_isTick) := goodIn_app (goodIn_of _ (by decide +kernel)) ggX8_pieces_X8_isTick
set_option maxRecDepth 20000 in
theorem ggX8_pieces_X8_fails : GoodIn wsX8_pieces wsX8_fails := goodIn_r _ [14, 1, 48, 49, 50, 51, 52, 53, 54, 55, 56, 57, 58, 59, 60, 61] (by decide +kernel) (by decide +kernel)
set_option maxRecDepth 20000 in
theorem gX8_pieces_X8_fails : GoodIn wsX8_pieces (wsV RX8 90 RX8 yX8_fails wsX8_fails) := goodIn_app (goodIn_of _ (by decide +kernel)) ggX8_pieces_X8_fails
set_option maxRecDepth 20000 in
theorem ggX8_pieces_X8_layPieces : GoodIn wsX8_pieces wsX8_layPieces := goodIn_r _ [18, 2, 19, 20, 21, 22, 5, 23, 24, 25, 26, 27, 28, 29, 30, 31, 32, 33, 34, 35, 36, 37, 38, 39, 8, 9, 10, 40, 41, 42, 43, 44, 45, 46, 47, 48, 49, 50, 51, 52, 53, 54, 55, 56, 57, 58, 59, 60, 61] (by decide +kernel) (by decide +kernel)
set_option maxRecDepth 20000 in
theorem gX8_pieces_X8_layPieces : GoodIn wsX8_pieces (wsV RX8 142 RX8 yX8_layPieces wsX8_layPieces) := goodIn_app (goodIn_of _ (by decide +kernel)) ggX8_pieces_X8_layPieces
theorem dX8_pieces_0 : decode cX8_pieces 0 = .ok (.aload_n 0, 1) := by decide +kernel
theorem dX8_pieces_1 : decode cX8_pieces 1 = .ok (.iconst 0, 1) := by decide +kernel
theorem dX8_pieces_2 : decode cX8_pieces 2 = .ok (.putfield 31, 3) := by decide +kernel
theorem dX8_pieces_5 : decode cX8_pieces 5 = .ok (.iload_n 1, 1) := by decide +kernel
theorem dX8_pieces_6 : decode cX8_pieces 6 = .ok (.invokestatic 87, 3) := by decide +kernel
theorem dX8_pieces_9 : decode cX8_pieces 9 = .ok (.ifCond .ne 9, 3) := by decide +kernel
theorem dX8_pieces_12 : decode cX8_pieces 12 = .ok (.aload_n 0, 1) := by decide +kernel
theorem dX8_pieces_13 : decode cX8_pieces 13 = .ok (.iconst 1, 1) := by decide +kernel
theorem dX8_pieces_14 : decode cX8_pieces 14 = .ok (.invokevirtual 90, 3) := by decide +kernel
theorem dX8_pieces_17 : decode cX8_pieces 17 = .ok (.ireturn, 1) := by decide +kernel
theorem dX8_pieces_18 : decode cX8_pieces 18 = .ok (.aload_n 0, 1) := by decide +kernel
theorem dX8_pieces_19 : decode cX8_pieces 19 = .ok (.iload_n 1, 1) := by decide +kernel
theorem dX8_pieces_20 : decode cX8_pieces 20 = .ok (.invokevirtual 142, 3) := by decide +kernel
theorem dX8_pieces_23 : decode cX8_pieces 23 = .ok (.aload_n 0, 1) := by decide +kernel
theorem dX8_pieces_24 : decode cX8_pieces 24 = .ok (.getfield 139, 3) := by decide +kernel
theorem dX8_pieces_27 : decode cX8_pieces 27 = .ok (.ireturn, 1) := by decide +kernel
set_option maxRecDepth 20000 in
theorem ggX8_piece_X8_isTick : GoodIn wsX8_piece wsX8_isTick := goodIn_r _ [8, 9, 10, 11, 7, 12] (by decide +kernel) (by decide +kernel)
set_option maxRecDepth 20000 in
theorem gX8_piece_X8_isTick : GoodIn wsX8_piece (va_wsS RX8 87 yX8_isTick wsX8_isTick) := goodIn_app (goodIn_of _ (by decide +kernel)) ggX8_piece_X8_isTick
set_option maxRecDepth 20000 in
theorem ggX8_piece_X8_in : GoodIn wsX8_piece wsX8_in := goodIn_r _ [12] (by decide +kernel) (by decide +kernel)
set_option maxRecDepth 20000 in
theorem gX8_piece_X8_in : GoodIn wsX8_piece (va_wsS RX8 42 yX8_in wsX8_in) := goodIn_app (goodIn_of _ (by decide +kernel)) ggX8_piece_X8_in
set_option maxRecDepth 20000 in
theorem ggX8_piece_X8_fails : GoodIn wsX8_piece wsX8_fails := goodIn_r _ [16, 1, 49, 50, 51, 52, 53, 54, 55, 56, 57, 58, 59, 60, 61, 62] (by decide +kernel) (by decide +kernel)
set_option maxRecDepth 20000 in
theorem gX8_piece_X8_fails : GoodIn wsX8_piece (wsV RX8 90 RX8 yX8_fails wsX8_fails) := goodIn_app (goodIn_of _ (by decide +kernel)) ggX8_piece_X8_fails
set_option maxRecDepth 20000 in
theorem ggX8_piece_X8_layPieces : GoodIn wsX8_piece wsX8_layPieces := goodIn_r _ [20, 3, 4, 21, 22, 23, 7, 24, 25, 26, 27, 28, 29, 30, 31, 32, 33, 34, 35, 36, 37, 38, 39, 40, 10, 11, 12, 41, 42, 43, 44, 45, 46, 47, 48, 49, 50, 51, 52, 53, 54, 55, 56, 57, 58, 59, 60, 61, 62] (by decide +kernel) (by decide +kernel)
set_option maxRecDepth 20000 in
theorem gX8_piece_X8_layPieces : GoodIn wsX8_piece (wsV RX8 142 RX8 yX8_layPieces wsX8_layPieces) := goodIn_app (goodIn_of _ (by decide +kernel)) ggX8_piece_X8_layPieces
theorem dX8_piece_0 : decode cX8_piece 0 = .ok (.aload_n 0, 1) := by decide +kernel
theorem dX8_piece_1 : decode cX8_piece 1 = .ok (.iconst 0, 1) := by decide +kernel
theorem dX8_piece_2 : decode cX8_piece 2 = .ok (.putfield 31, 3) := by decide +kernel
theorem dX8_piece_5 : decode cX8_piece 5 = .ok (.iload_n 1, 1) := by decide +kernel
theorem dX8_piece_6 : decode cX8_piece 6 = .ok (.invokestatic 87, 3) := by decide +kernel
theorem dX8_piece_9 : decode cX8_piece 9 = .ok (.ifCond .eq 15, 3) := by decide +kernel
theorem dX8_piece_12 : decode cX8_piece 12 = .ok (.iload_n 3, 1) := by decide +kernel
theorem dX8_piece_13 : decode cX8_piece 13 = .ok (.i2l, 1) := by decide +kernel
theorem dX8_piece_14 : decode cX8_piece 14 = .ok (.lconst 0, 1) := by decide +kernel
theorem dX8_piece_15 : decode cX8_piece 15 = .ok (.ldc2_w 146, 3) := by decide +kernel
theorem dX8_piece_18 : decode cX8_piece 18 = .ok (.invokestatic 42, 3) := by decide +kernel
theorem dX8_piece_21 : decode cX8_piece 21 = .ok (.ifCond .ne 9, 3) := by decide +kernel
theorem dX8_piece_24 : decode cX8_piece 24 = .ok (.aload_n 0, 1) := by decide +kernel
theorem dX8_piece_25 : decode cX8_piece 25 = .ok (.iconst 1, 1) := by decide +kernel
theorem dX8_piece_26 : decode cX8_piece 26 = .ok (.invokevirtual 90, 3) := by decide +kernel
theorem dX8_piece_29 : decode cX8_piece 29 = .ok (.ireturn, 1) := by decide +kernel
theorem dX8_piece_30 : decode cX8_piece 30 = .ok (.aload_n 0, 1) := by decide +kernel
theorem dX8_piece_31 : decode cX8_piece 31 = .ok (.iload_n 1, 1) := by decide +kernel
theorem dX8_piece_32 : decode cX8_piece 32 = .ok (.invokevirtual 142, 3) := by decide +kernel
theorem dX8_piece_35 : decode cX8_piece 35 = .ok (.iload_n 2, 1) := by decide +kernel
theorem dX8_piece_36 : decode cX8_piece 36 = .ok (.i2l, 1) := by decide +kernel
theorem dX8_piece_37 : decode cX8_piece 37 = .ok (.lconst 0, 1) := by decide +kernel
theorem dX8_piece_38 : decode cX8_piece 38 = .ok (.aload_n 0, 1) := by decide +kernel
theorem dX8_piece_39 : decode cX8_piece 39 = .ok (.getfield 139, 3) := by decide +kernel
theorem dX8_piece_42 : decode cX8_piece 42 = .ok (.iconst 1, 1) := by decide +kernel
theorem dX8_piece_43 : decode cX8_piece 43 = .ok (.isub, 1) := by decide +kernel
theorem dX8_piece_44 : decode cX8_piece 44 = .ok (.i2l, 1) := by decide +kernel
theorem dX8_piece_45 : decode cX8_piece 45 = .ok (.invokestatic 42, 3) := by decide +kernel
theorem dX8_piece_48 : decode cX8_piece 48 = .ok (.ifCond .eq 16, 3) := by decide +kernel
theorem dX8_piece_51 : decode cX8_piece 51 = .ok (.aload_n 0, 1) := by decide +kernel
theorem dX8_piece_52 : decode cX8_piece 52 = .ok (.getfield 19, 3) := by decide +kernel
theorem dX8_piece_55 : decode cX8_piece 55 = .ok (.iconst 3, 1) := by decide +kernel
theorem dX8_piece_56 : decode cX8_piece 56 = .ok (.iload_n 2, 1) := by decide +kernel
theorem dX8_piece_57 : decode cX8_piece 57 = .ok (.imul, 1) := by decide +kernel
theorem dX8_piece_58 : decode cX8_piece 58 = .ok (.iload_n 3, 1) := by decide +kernel
theorem dX8_piece_59 : decode cX8_piece 59 = .ok (.iadd, 1) := by decide +kernel
theorem dX8_piece_60 : decode cX8_piece 60 = .ok (.iaload, 1) := by decide +kernel
theorem dX8_piece_61 : decode cX8_piece 61 = .ok (.goto 8, 3) := by decide +kernel
theorem dX8_piece_64 : decode cX8_piece 64 = .ok (.aload_n 0, 1) := by decide +kernel
theorem dX8_piece_65 : decode cX8_piece 65 = .ok (.iconst 2, 1) := by decide +kernel
theorem dX8_piece_66 : decode cX8_piece 66 = .ok (.invokevirtual 90, 3) := by decide +kernel
theorem dX8_piece_69 : decode cX8_piece 69 = .ok (.ireturn, 1) := by decide +kernel
set_option maxRecDepth 20000 in
theorem ggX8_sumOf_X8_firstAt : GoodIn wsX8_sumOf wsX8_firstAt := goodIn_r _ [5, 6, 7, 8, 9, 4, 10, 11, 12, 13, 14, 15, 16, 17, 18, 19, 20, 21, 22, 23, 24, 25, 26, 27, 28, 29, 30, 31, 32, 33, 34, 35, 36, 37, 38, 39, 40, 41, 42, 43, 44, 45, 46] (by decide +kernel) (by decide +kernel)
set_option maxRecDepth 20000 in
theorem gX8_sumOf_X8_firstAt : GoodIn wsX8_sumOf (wsV RX8 130 RX8 yX8_firstAt wsX8_firstAt) := goodIn_app (goodIn_of _ (by decide +kernel)) ggX8_sumOf_X8_firstAt
set_option maxRecDepth 20000 in
theorem ggX8_sumOf_X8_valueAt : GoodIn wsX8_sumOf wsX8_valueAt := goodIn_r _ [32, 15, 16, 17, 4, 18, 6, 19, 20, 21, 33, 34, 35, 36, 37, 38, 39, 40, 41, 42, 43, 44, 45, 46] (by decide +kernel) (by decide +kernel)
set_option maxRecDepth 20000 in
theorem gX8_sumOf_X8_valueAt : GoodIn wsX8_sumOf (wsV RX8 117 RX8 yX8_valueAt wsX8_valueAt) := goodIn_app (goodIn_of _ (by decide +kernel)) ggX8_sumOf_X8_valueAt
theorem dX8_sumOf_0 : decode cX8_sumOf 0 = .ok (.lconst 0, 1) := by decide +kernel
theorem dX8_sumOf_1 : decode cX8_sumOf 1 = .ok (.lstore 4, 2) := by decide +kernel
theorem dX8_sumOf_3 : decode cX8_sumOf 3 = .ok (.iload_n 2, 1) := by decide +kernel
theorem dX8_sumOf_4 : decode cX8_sumOf 4 = .ok (.istore 6, 2) := by decide +kernel
theorem dX8_sumOf_6 : decode cX8_sumOf 6 = .ok (.iload 6, 2) := by decide +kernel
theorem dX8_sumOf_8 : decode cX8_sumOf 8 = .ok (.iload_n 3, 1) := by decide +kernel
theorem dX8_sumOf_9 : decode cX8_sumOf 9 = .ok (.if_icmp .gt 42, 3) := by decide +kernel
theorem dX8_sumOf_12 : decode cX8_sumOf 12 = .ok (.aload_n 0, 1) := by decide +kernel
theorem dX8_sumOf_13 : decode cX8_sumOf 13 = .ok (.iload 6, 2) := by decide +kernel
theorem dX8_sumOf_15 : decode cX8_sumOf 15 = .ok (.iload_n 1, 1) := by decide +kernel
theorem dX8_sumOf_16 : decode cX8_sumOf 16 = .ok (.invokevirtual 130, 3) := by decide +kernel
theorem dX8_sumOf_19 : decode cX8_sumOf 19 = .ok (.istore 7, 2) := by decide +kernel
theorem dX8_sumOf_21 : decode cX8_sumOf 21 = .ok (.lload 4, 2) := by decide +kernel
theorem dX8_sumOf_23 : decode cX8_sumOf 23 = .ok (.iload 7, 2) := by decide +kernel
theorem dX8_sumOf_25 : decode cX8_sumOf 25 = .ok (.iconst (-1), 1) := by decide +kernel
theorem dX8_sumOf_26 : decode cX8_sumOf 26 = .ok (.if_icmp .ne 7, 3) := by decide +kernel
theorem dX8_sumOf_29 : decode cX8_sumOf 29 = .ok (.lconst 0, 1) := by decide +kernel
theorem dX8_sumOf_30 : decode cX8_sumOf 30 = .ok (.goto 12, 3) := by decide +kernel
theorem dX8_sumOf_33 : decode cX8_sumOf 33 = .ok (.aload_n 0, 1) := by decide +kernel
theorem dX8_sumOf_34 : decode cX8_sumOf 34 = .ok (.iload 7, 2) := by decide +kernel
theorem dX8_sumOf_36 : decode cX8_sumOf 36 = .ok (.iload 6, 2) := by decide +kernel
theorem dX8_sumOf_38 : decode cX8_sumOf 38 = .ok (.invokevirtual 117, 3) := by decide +kernel
theorem dX8_sumOf_41 : decode cX8_sumOf 41 = .ok (.i2l, 1) := by decide +kernel
theorem dX8_sumOf_42 : decode cX8_sumOf 42 = .ok (.ladd, 1) := by decide +kernel
theorem dX8_sumOf_43 : decode cX8_sumOf 43 = .ok (.lstore 4, 2) := by decide +kernel
theorem dX8_sumOf_45 : decode cX8_sumOf 45 = .ok (.iinc 6 1, 3) := by decide +kernel
theorem dX8_sumOf_48 : decode cX8_sumOf 48 = .ok (.goto (-42), 3) := by decide +kernel
theorem dX8_sumOf_51 : decode cX8_sumOf 51 = .ok (.lload 4, 2) := by decide +kernel
theorem dX8_sumOf_53 : decode cX8_sumOf 53 = .ok (.lreturn, 1) := by decide +kernel
set_option maxRecDepth 20000 in
theorem ggX8_sum_X8_isTick : GoodIn wsX8_sum wsX8_isTick := goodIn_r _ [5, 6, 7, 8, 4, 9] (by decide +kernel) (by decide +kernel)
set_option maxRecDepth 20000 in
theorem gX8_sum_X8_isTick : GoodIn wsX8_sum (va_wsS RX8 87 yX8_isTick wsX8_isTick) := goodIn_app (goodIn_of _ (by decide +kernel)) ggX8_sum_X8_isTick
set_option maxRecDepth 20000 in
theorem ggX8_sum_X8_isPosition : GoodIn wsX8_sum wsX8_isPosition := goodIn_r _ [12, 13, 7, 8, 4, 9] (by decide +kernel) (by decide +kernel)
set_option maxRecDepth 20000 in
theorem gX8_sum_X8_isPosition : GoodIn wsX8_sum (va_wsS RX8 65 yX8_isPosition wsX8_isPosition) := goodIn_app (goodIn_of _ (by decide +kernel)) ggX8_sum_X8_isPosition
set_option maxRecDepth 20000 in
theorem ggX8_sum_X8_sumOf : GoodIn wsX8_sum wsX8_sumOf := goodIn_r _ [17, 18, 19, 20, 4, 21, 22, 23, 24, 25, 26, 27, 28, 29, 30, 31, 32, 33, 34, 35, 36, 37, 7, 8, 9, 38, 39, 40, 41, 42, 43, 44, 45, 50, 51, 52, 53, 54, 55, 56, 57, 58, 59, 60, 61, 62, 63] (by decide +kernel) (by decide +kernel)
set_option maxRecDepth 20000 in
theorem gX8_sum_X8_sumOf : GoodIn wsX8_sum (wsV RX8 148 RX8 yX8_sumOf wsX8_sumOf) := goodIn_app (goodIn_of _ (by decide +kernel)) ggX8_sum_X8_sumOf
set_option maxRecDepth 20000 in
theorem ggX8_sum_X8_fails : GoodIn wsX8_sum wsX8_fails := goodIn_r _ [49, 1, 50, 51, 52, 53, 54, 55, 56, 57, 58, 59, 60, 61, 62, 63] (by decide +kernel) (by decide +kernel)
set_option maxRecDepth 20000 in
theorem gX8_sum_X8_fails : GoodIn wsX8_sum (wsV RX8 90 RX8 yX8_fails wsX8_fails) := goodIn_app (goodIn_of _ (by decide +kernel)) ggX8_sum_X8_fails
theorem dX8_sum_0 : decode cX8_sum 0 = .ok (.aload_n 0, 1) := by decide +kernel
theorem dX8_sum_1 : decode cX8_sum 1 = .ok (.iconst 0, 1) := by decide +kernel
theorem dX8_sum_2 : decode cX8_sum 2 = .ok (.putfield 31, 3) := by decide +kernel
theorem dX8_sum_5 : decode cX8_sum 5 = .ok (.iload_n 1, 1) := by decide +kernel
theorem dX8_sum_6 : decode cX8_sum 6 = .ok (.invokestatic 87, 3) := by decide +kernel
theorem dX8_sum_9 : decode cX8_sum 9 = .ok (.ifCond .eq 32, 3) := by decide +kernel
theorem dX8_sum_12 : decode cX8_sum 12 = .ok (.iload_n 2, 1) := by decide +kernel
theorem dX8_sum_13 : decode cX8_sum 13 = .ok (.invokestatic 65, 3) := by decide +kernel
theorem dX8_sum_16 : decode cX8_sum 16 = .ok (.ifCond .eq 25, 3) := by decide +kernel
theorem dX8_sum_19 : decode cX8_sum 19 = .ok (.iload_n 3, 1) := by decide +kernel
theorem dX8_sum_20 : decode cX8_sum 20 = .ok (.invokestatic 65, 3) := by decide +kernel
theorem dX8_sum_23 : decode cX8_sum 23 = .ok (.ifCond .eq 18, 3) := by decide +kernel
theorem dX8_sum_26 : decode cX8_sum 26 = .ok (.iload_n 2, 1) := by decide +kernel
theorem dX8_sum_27 : decode cX8_sum 27 = .ok (.iload_n 3, 1) := by decide +kernel
theorem dX8_sum_28 : decode cX8_sum 28 = .ok (.if_icmp .gt 13, 3) := by decide +kernel
theorem dX8_sum_31 : decode cX8_sum 31 = .ok (.aload_n 0, 1) := by decide +kernel
theorem dX8_sum_32 : decode cX8_sum 32 = .ok (.iload_n 1, 1) := by decide +kernel
theorem dX8_sum_33 : decode cX8_sum 33 = .ok (.iload_n 2, 1) := by decide +kernel
theorem dX8_sum_34 : decode cX8_sum 34 = .ok (.iload_n 3, 1) := by decide +kernel
theorem dX8_sum_35 : decode cX8_sum 35 = .ok (.invokevirtual 148, 3) := by decide +kernel
theorem dX8_sum_38 : decode cX8_sum 38 = .ok (.goto 9, 3) := by decide +kernel
theorem dX8_sum_41 : decode cX8_sum 41 = .ok (.aload_n 0, 1) := by decide +kernel
theorem dX8_sum_42 : decode cX8_sum 42 = .ok (.iconst 1, 1) := by decide +kernel
theorem dX8_sum_43 : decode cX8_sum 43 = .ok (.invokevirtual 90, 3) := by decide +kernel
theorem dX8_sum_46 : decode cX8_sum 46 = .ok (.i2l, 1) := by decide +kernel
theorem dX8_sum_47 : decode cX8_sum 47 = .ok (.lreturn, 1) := by decide +kernel
set_option maxRecDepth 20000 in
theorem ggX8_visibleAt_X8_firstAt : GoodIn wsX8_visibleAt wsX8_firstAt := goodIn_r _ [5, 6, 7, 8, 9, 4, 10, 11, 12, 13, 14, 15, 16, 17, 18, 19, 20, 21, 22, 23, 24, 25, 26, 27, 28, 29, 30, 31, 32, 33, 34, 35, 36, 37, 38, 39, 40, 41, 42, 43, 44, 45, 46] (by decide +kernel) (by decide +kernel)
set_option maxRecDepth 20000 in
theorem gX8_visibleAt_X8_firstAt : GoodIn wsX8_visibleAt (wsV RX8 130 RX8 yX8_firstAt wsX8_firstAt) := goodIn_app (goodIn_of _ (by decide +kernel)) ggX8_visibleAt_X8_firstAt
theorem dX8_visibleAt_0 : decode cX8_visibleAt 0 = .ok (.iconst 0, 1) := by decide +kernel
theorem dX8_visibleAt_1 : decode cX8_visibleAt 1 = .ok (.istore_n 3, 1) := by decide +kernel
theorem dX8_visibleAt_2 : decode cX8_visibleAt 2 = .ok (.iconst 0, 1) := by decide +kernel
theorem dX8_visibleAt_3 : decode cX8_visibleAt 3 = .ok (.istore 4, 2) := by decide +kernel
theorem dX8_visibleAt_5 : decode cX8_visibleAt 5 = .ok (.iload 4, 2) := by decide +kernel
theorem dX8_visibleAt_7 : decode cX8_visibleAt 7 = .ok (.sipush 255, 3) := by decide +kernel
theorem dX8_visibleAt_10 : decode cX8_visibleAt 10 = .ok (.if_icmp .gt 28, 3) := by decide +kernel
theorem dX8_visibleAt_13 : decode cX8_visibleAt 13 = .ok (.iload_n 3, 1) := by decide +kernel
theorem dX8_visibleAt_14 : decode cX8_visibleAt 14 = .ok (.aload_n 0, 1) := by decide +kernel
theorem dX8_visibleAt_15 : decode cX8_visibleAt 15 = .ok (.iload 4, 2) := by decide +kernel
theorem dX8_visibleAt_17 : decode cX8_visibleAt 17 = .ok (.iload_n 2, 1) := by decide +kernel
theorem dX8_visibleAt_18 : decode cX8_visibleAt 18 = .ok (.invokevirtual 130, 3) := by decide +kernel
theorem dX8_visibleAt_21 : decode cX8_visibleAt 21 = .ok (.iload_n 1, 1) := by decide +kernel
theorem dX8_visibleAt_22 : decode cX8_visibleAt 22 = .ok (.if_icmp .ne 7, 3) := by decide +kernel
theorem dX8_visibleAt_25 : decode cX8_visibleAt 25 = .ok (.iconst 1, 1) := by decide +kernel
theorem dX8_visibleAt_26 : decode cX8_visibleAt 26 = .ok (.goto 4, 3) := by decide +kernel
theorem dX8_visibleAt_29 : decode cX8_visibleAt 29 = .ok (.iconst 0, 1) := by decide +kernel
theorem dX8_visibleAt_30 : decode cX8_visibleAt 30 = .ok (.iadd, 1) := by decide +kernel
theorem dX8_visibleAt_31 : decode cX8_visibleAt 31 = .ok (.istore_n 3, 1) := by decide +kernel
theorem dX8_visibleAt_32 : decode cX8_visibleAt 32 = .ok (.iinc 4 1, 3) := by decide +kernel
theorem dX8_visibleAt_35 : decode cX8_visibleAt 35 = .ok (.goto (-30), 3) := by decide +kernel
theorem dX8_visibleAt_38 : decode cX8_visibleAt 38 = .ok (.iload_n 3, 1) := by decide +kernel
theorem dX8_visibleAt_39 : decode cX8_visibleAt 39 = .ok (.ireturn, 1) := by decide +kernel
set_option maxRecDepth 20000 in
theorem ggX8_visible_X8_isSegment : GoodIn wsX8_visible wsX8_isSegment := goodIn_r _ [6, 7, 8, 9, 5, 10, 50, 51, 52, 53, 54, 55, 56, 57, 58, 59, 60, 61, 62, 63] (by decide +kernel) (by decide +kernel)
set_option maxRecDepth 20000 in
theorem gX8_visible_X8_isSegment : GoodIn wsX8_visible (wsV RX8 94 RX8 yX8_isSegment wsX8_isSegment) := goodIn_app (goodIn_of _ (by decide +kernel)) ggX8_visible_X8_isSegment
set_option maxRecDepth 20000 in
theorem ggX8_visible_X8_fails : GoodIn wsX8_visible wsX8_fails := goodIn_r _ [14, 1, 50, 51, 52, 53, 54, 55, 56, 57, 58, 59, 60, 61, 62, 63] (by decide +kernel) (by decide +kernel)
set_option maxRecDepth 20000 in
theorem gX8_visible_X8_fails : GoodIn wsX8_visible (wsV RX8 90 RX8 yX8_fails wsX8_fails) := goodIn_app (goodIn_of _ (by decide +kernel)) ggX8_visible_X8_fails
set_option maxRecDepth 20000 in
theorem ggX8_visible_X8_isTick : GoodIn wsX8_visible wsX8_isTick := goodIn_r _ [17, 18, 8, 9, 5, 10] (by decide +kernel) (by decide +kernel)
set_option maxRecDepth 20000 in
theorem gX8_visible_X8_isTick : GoodIn wsX8_visible (va_wsS RX8 87 yX8_isTick wsX8_isTick) := goodIn_app (goodIn_of _ (by decide +kernel)) ggX8_visible_X8_isTick
set_option maxRecDepth 20000 in
theorem ggX8_visible_X8_visibleAt : GoodIn wsX8_visible wsX8_visibleAt := goodIn_r _ [22, 23, 24, 25, 5, 26, 7, 27, 28, 29, 30, 31, 32, 33, 34, 35, 36, 37, 38, 39, 40, 41, 8, 9, 10, 42, 43, 44, 45, 46, 47, 48, 49, 50, 51, 52, 53, 54, 55, 56, 57, 58, 59, 60, 61, 62, 63] (by decide +kernel) (by decide +kernel)
set_option maxRecDepth 20000 in
theorem gX8_visible_X8_visibleAt : GoodIn wsX8_visible (wsV RX8 152 RX8 yX8_visibleAt wsX8_visibleAt) := goodIn_app (goodIn_of _ (by decide +kernel)) ggX8_visible_X8_visibleAt
theorem dX8_visible_0 : decode cX8_visible 0 = .ok (.aload_n 0, 1) := by decide +kernel
theorem dX8_visible_1 : decode cX8_visible 1 = .ok (.iconst 0, 1) := by decide +kernel
theorem dX8_visible_2 : decode cX8_visible 2 = .ok (.putfield 31, 3) := by decide +kernel
theorem dX8_visible_5 : decode cX8_visible 5 = .ok (.aload_n 0, 1) := by decide +kernel
theorem dX8_visible_6 : decode cX8_visible 6 = .ok (.iload_n 1, 1) := by decide +kernel
theorem dX8_visible_7 : decode cX8_visible 7 = .ok (.invokevirtual 94, 3) := by decide +kernel
theorem dX8_visible_10 : decode cX8_visible 10 = .ok (.ifCond .ne 9, 3) := by decide +kernel
theorem dX8_visible_13 : decode cX8_visible 13 = .ok (.aload_n 0, 1) := by decide +kernel
theorem dX8_visible_14 : decode cX8_visible 14 = .ok (.iconst 1, 1) := by decide +kernel
theorem dX8_visible_15 : decode cX8_visible 15 = .ok (.invokevirtual 90, 3) := by decide +kernel
theorem dX8_visible_18 : decode cX8_visible 18 = .ok (.ireturn, 1) := by decide +kernel
theorem dX8_visible_19 : decode cX8_visible 19 = .ok (.iload_n 2, 1) := by decide +kernel
theorem dX8_visible_20 : decode cX8_visible 20 = .ok (.invokestatic 87, 3) := by decide +kernel
theorem dX8_visible_23 : decode cX8_visible 23 = .ok (.ifCond .eq 12, 3) := by decide +kernel
theorem dX8_visible_26 : decode cX8_visible 26 = .ok (.aload_n 0, 1) := by decide +kernel
theorem dX8_visible_27 : decode cX8_visible 27 = .ok (.iload_n 1, 1) := by decide +kernel
theorem dX8_visible_28 : decode cX8_visible 28 = .ok (.iload_n 2, 1) := by decide +kernel
theorem dX8_visible_29 : decode cX8_visible 29 = .ok (.invokevirtual 152, 3) := by decide +kernel
theorem dX8_visible_32 : decode cX8_visible 32 = .ok (.goto 8, 3) := by decide +kernel
theorem dX8_visible_35 : decode cX8_visible 35 = .ok (.aload_n 0, 1) := by decide +kernel
theorem dX8_visible_36 : decode cX8_visible 36 = .ok (.iconst 2, 1) := by decide +kernel
theorem dX8_visible_37 : decode cX8_visible 37 = .ok (.invokevirtual 90, 3) := by decide +kernel
theorem dX8_visible_40 : decode cX8_visible 40 = .ok (.ireturn, 1) := by decide +kernel
set_option maxRecDepth 20000 in
theorem ggX8_hidden_X8_isTick : GoodIn wsX8_hidden wsX8_isTick := goodIn_r _ [8, 9, 10, 11, 7, 12] (by decide +kernel) (by decide +kernel)
set_option maxRecDepth 20000 in
theorem gX8_hidden_X8_isTick : GoodIn wsX8_hidden (va_wsS RX8 87 yX8_isTick wsX8_isTick) := goodIn_app (goodIn_of _ (by decide +kernel)) ggX8_hidden_X8_isTick
set_option maxRecDepth 20000 in
theorem ggX8_hidden_X8_fails : GoodIn wsX8_hidden wsX8_fails := goodIn_r _ [16, 1, 48, 49, 50, 51, 52, 53, 54, 55, 56, 57, 58, 59, 60, 61] (by decide +kernel) (by decide +kernel)
set_option maxRecDepth 20000 in
theorem gX8_hidden_X8_fails : GoodIn wsX8_hidden (wsV RX8 90 RX8 yX8_fails wsX8_fails) := goodIn_app (goodIn_of _ (by decide +kernel)) ggX8_hidden_X8_fails
set_option maxRecDepth 20000 in
theorem ggX8_hidden_X8_layPieces : GoodIn wsX8_hidden wsX8_layPieces := goodIn_r _ [20, 3, 4, 21, 22, 23, 7, 24, 2, 25, 26, 27, 28, 29, 30, 31, 32, 33, 34, 35, 36, 37, 38, 39, 10, 11, 12, 40, 41, 42, 43, 44, 45, 46, 47, 48, 49, 50, 51, 52, 53, 54, 55, 56, 57, 58, 59, 60, 61] (by decide +kernel) (by decide +kernel)
set_option maxRecDepth 20000 in
theorem gX8_hidden_X8_layPieces : GoodIn wsX8_hidden (wsV RX8 142 RX8 yX8_layPieces wsX8_layPieces) := goodIn_app (goodIn_of _ (by decide +kernel)) ggX8_hidden_X8_layPieces
set_option maxRecDepth 20000 in
theorem ggX8_hidden_X8_isLive : GoodIn wsX8_hidden wsX8_isLive := goodIn_r _ [32, 33, 34, 35, 7, 36, 2, 37, 38, 39, 48, 49, 50, 51, 52, 53, 54, 55, 56, 57, 58, 59, 60, 61] (by decide +kernel) (by decide +kernel)
set_option maxRecDepth 20000 in
theorem gX8_hidden_X8_isLive : GoodIn wsX8_hidden (wsV RX8 97 RX8 yX8_isLive wsX8_isLive) := goodIn_app (goodIn_of _ (by decide +kernel)) ggX8_hidden_X8_isLive
theorem dX8_hidden_0 : decode cX8_hidden 0 = .ok (.aload_n 0, 1) := by decide +kernel
theorem dX8_hidden_1 : decode cX8_hidden 1 = .ok (.iconst 0, 1) := by decide +kernel
theorem dX8_hidden_2 : decode cX8_hidden 2 = .ok (.putfield 31, 3) := by decide +kernel
theorem dX8_hidden_5 : decode cX8_hidden 5 = .ok (.iload_n 1, 1) := by decide +kernel
theorem dX8_hidden_6 : decode cX8_hidden 6 = .ok (.invokestatic 87, 3) := by decide +kernel
theorem dX8_hidden_9 : decode cX8_hidden 9 = .ok (.ifCond .ne 9, 3) := by decide +kernel
theorem dX8_hidden_12 : decode cX8_hidden 12 = .ok (.aload_n 0, 1) := by decide +kernel
theorem dX8_hidden_13 : decode cX8_hidden 13 = .ok (.iconst 1, 1) := by decide +kernel
theorem dX8_hidden_14 : decode cX8_hidden 14 = .ok (.invokevirtual 90, 3) := by decide +kernel
theorem dX8_hidden_17 : decode cX8_hidden 17 = .ok (.ireturn, 1) := by decide +kernel
theorem dX8_hidden_18 : decode cX8_hidden 18 = .ok (.aload_n 0, 1) := by decide +kernel
theorem dX8_hidden_19 : decode cX8_hidden 19 = .ok (.iload_n 1, 1) := by decide +kernel
theorem dX8_hidden_20 : decode cX8_hidden 20 = .ok (.invokevirtual 142, 3) := by decide +kernel
theorem dX8_hidden_23 : decode cX8_hidden 23 = .ok (.iconst 0, 1) := by decide +kernel
theorem dX8_hidden_24 : decode cX8_hidden 24 = .ok (.istore_n 2, 1) := by decide +kernel
theorem dX8_hidden_25 : decode cX8_hidden 25 = .ok (.iconst 0, 1) := by decide +kernel
theorem dX8_hidden_26 : decode cX8_hidden 26 = .ok (.istore_n 3, 1) := by decide +kernel
theorem dX8_hidden_27 : decode cX8_hidden 27 = .ok (.iload_n 3, 1) := by decide +kernel
theorem dX8_hidden_28 : decode cX8_hidden 28 = .ok (.aload_n 0, 1) := by decide +kernel
theorem dX8_hidden_29 : decode cX8_hidden 29 = .ok (.getfield 7, 3) := by decide +kernel
theorem dX8_hidden_32 : decode cX8_hidden 32 = .ok (.iconst 0, 1) := by decide +kernel
theorem dX8_hidden_33 : decode cX8_hidden 33 = .ok (.iaload, 1) := by decide +kernel
theorem dX8_hidden_34 : decode cX8_hidden 34 = .ok (.if_icmp .ge 75, 3) := by decide +kernel
theorem dX8_hidden_37 : decode cX8_hidden 37 = .ok (.aload_n 0, 1) := by decide +kernel
theorem dX8_hidden_38 : decode cX8_hidden 38 = .ok (.iload_n 3, 1) := by decide +kernel
theorem dX8_hidden_39 : decode cX8_hidden 39 = .ok (.iload_n 1, 1) := by decide +kernel
theorem dX8_hidden_40 : decode cX8_hidden 40 = .ok (.invokevirtual 97, 3) := by decide +kernel
theorem dX8_hidden_43 : decode cX8_hidden 43 = .ok (.istore 4, 2) := by decide +kernel
theorem dX8_hidden_45 : decode cX8_hidden 45 = .ok (.iconst 0, 1) := by decide +kernel
theorem dX8_hidden_46 : decode cX8_hidden 46 = .ok (.istore 5, 2) := by decide +kernel
theorem dX8_hidden_48 : decode cX8_hidden 48 = .ok (.iload 5, 2) := by decide +kernel
theorem dX8_hidden_50 : decode cX8_hidden 50 = .ok (.aload_n 0, 1) := by decide +kernel
theorem dX8_hidden_51 : decode cX8_hidden 51 = .ok (.getfield 139, 3) := by decide +kernel
theorem dX8_hidden_54 : decode cX8_hidden 54 = .ok (.if_icmp .ge 36, 3) := by decide +kernel
theorem dX8_hidden_57 : decode cX8_hidden 57 = .ok (.iload 4, 2) := by decide +kernel
theorem dX8_hidden_59 : decode cX8_hidden 59 = .ok (.ifCond .eq 22, 3) := by decide +kernel
theorem dX8_hidden_62 : decode cX8_hidden 62 = .ok (.aload_n 0, 1) := by decide +kernel
theorem dX8_hidden_63 : decode cX8_hidden 63 = .ok (.getfield 19, 3) := by decide +kernel
theorem dX8_hidden_66 : decode cX8_hidden 66 = .ok (.iconst 3, 1) := by decide +kernel
theorem dX8_hidden_67 : decode cX8_hidden 67 = .ok (.iload 5, 2) := by decide +kernel
theorem dX8_hidden_69 : decode cX8_hidden 69 = .ok (.imul, 1) := by decide +kernel
theorem dX8_hidden_70 : decode cX8_hidden 70 = .ok (.iconst 2, 1) := by decide +kernel
theorem dX8_hidden_71 : decode cX8_hidden 71 = .ok (.iadd, 1) := by decide +kernel
theorem dX8_hidden_72 : decode cX8_hidden 72 = .ok (.iaload, 1) := by decide +kernel
theorem dX8_hidden_73 : decode cX8_hidden 73 = .ok (.iload_n 3, 1) := by decide +kernel
theorem dX8_hidden_74 : decode cX8_hidden 74 = .ok (.if_icmp .eq 7, 3) := by decide +kernel
theorem dX8_hidden_77 : decode cX8_hidden 77 = .ok (.iconst 1, 1) := by decide +kernel
theorem dX8_hidden_78 : decode cX8_hidden 78 = .ok (.goto 4, 3) := by decide +kernel
theorem dX8_hidden_81 : decode cX8_hidden 81 = .ok (.iconst 0, 1) := by decide +kernel
theorem dX8_hidden_82 : decode cX8_hidden 82 = .ok (.istore 4, 2) := by decide +kernel
theorem dX8_hidden_84 : decode cX8_hidden 84 = .ok (.iinc 5 1, 3) := by decide +kernel
theorem dX8_hidden_87 : decode cX8_hidden 87 = .ok (.goto (-39), 3) := by decide +kernel
theorem dX8_hidden_90 : decode cX8_hidden 90 = .ok (.iload_n 2, 1) := by decide +kernel
theorem dX8_hidden_91 : decode cX8_hidden 91 = .ok (.iload 4, 2) := by decide +kernel
theorem dX8_hidden_93 : decode cX8_hidden 93 = .ok (.ifCond .eq 7, 3) := by decide +kernel
theorem dX8_hidden_96 : decode cX8_hidden 96 = .ok (.iconst 1, 1) := by decide +kernel
theorem dX8_hidden_97 : decode cX8_hidden 97 = .ok (.goto 4, 3) := by decide +kernel
theorem dX8_hidden_100 : decode cX8_hidden 100 = .ok (.iconst 0, 1) := by decide +kernel
theorem dX8_hidden_101 : decode cX8_hidden 101 = .ok (.iadd, 1) := by decide +kernel
theorem dX8_hidden_102 : decode cX8_hidden 102 = .ok (.istore_n 2, 1) := by decide +kernel
theorem dX8_hidden_103 : decode cX8_hidden 103 = .ok (.iinc 3 1, 3) := by decide +kernel
theorem dX8_hidden_106 : decode cX8_hidden 106 = .ok (.goto (-79), 3) := by decide +kernel
theorem dX8_hidden_109 : decode cX8_hidden 109 = .ok (.iload_n 2, 1) := by decide +kernel
theorem dX8_hidden_110 : decode cX8_hidden 110 = .ok (.ireturn, 1) := by decide +kernel
set_option maxRecDepth 20000 in
theorem ggX8_extreme_X8_isTick : GoodIn wsX8_extreme wsX8_isTick := goodIn_r _ [5, 6, 7, 8, 4, 9] (by decide +kernel) (by decide +kernel)
set_option maxRecDepth 20000 in
theorem gX8_extreme_X8_isTick : GoodIn wsX8_extreme (va_wsS RX8 87 yX8_isTick wsX8_isTick) := goodIn_app (goodIn_of _ (by decide +kernel)) ggX8_extreme_X8_isTick
set_option maxRecDepth 20000 in
theorem ggX8_extreme_X8_fails : GoodIn wsX8_extreme wsX8_fails := goodIn_r _ [13, 1, 42, 43, 44, 45, 46, 47, 48, 49, 50, 51, 52, 53, 54, 55] (by decide +kernel) (by decide +kernel)
set_option maxRecDepth 20000 in
theorem gX8_extreme_X8_fails : GoodIn wsX8_extreme (wsV RX8 90 RX8 yX8_fails wsX8_fails) := goodIn_app (goodIn_of _ (by decide +kernel)) ggX8_extreme_X8_fails
set_option maxRecDepth 20000 in
theorem ggX8_extreme_X8_firstAt : GoodIn wsX8_extreme wsX8_firstAt := goodIn_r _ [17, 18, 19, 20, 21, 4, 22, 23, 24, 25, 26, 27, 28, 29, 30, 31, 32, 33, 7, 8, 9, 34, 35, 36, 37, 38, 39, 40, 41, 42, 43, 44, 45, 46, 47, 48, 49, 50, 51, 52, 53, 54, 55] (by decide +kernel) (by decide +kernel)
set_option maxRecDepth 20000 in
theorem gX8_extreme_X8_firstAt : GoodIn wsX8_extreme (wsV RX8 130 RX8 yX8_firstAt wsX8_firstAt) := goodIn_app (goodIn_of _ (by decide +kernel)) ggX8_extreme_X8_firstAt
set_option maxRecDepth 20000 in
theorem ggX8_extreme_X8_valueAt : GoodIn wsX8_extreme wsX8_valueAt := goodIn_r _ [41, 27, 28, 29, 4, 30, 18, 31, 32, 33, 42, 43, 44, 45, 46, 47, 48, 49, 50, 51, 52, 53, 54, 55] (by decide +kernel) (by decide +kernel)
set_option maxRecDepth 20000 in
theorem gX8_extreme_X8_valueAt : GoodIn wsX8_extreme (wsV RX8 117 RX8 yX8_valueAt wsX8_valueAt) := goodIn_app (goodIn_of _ (by decide +kernel)) ggX8_extreme_X8_valueAt
theorem dX8_extreme_0 : decode cX8_extreme 0 = .ok (.aload_n 0, 1) := by decide +kernel
theorem dX8_extreme_1 : decode cX8_extreme 1 = .ok (.iconst 0, 1) := by decide +kernel
theorem dX8_extreme_2 : decode cX8_extreme 2 = .ok (.putfield 31, 3) := by decide +kernel
theorem dX8_extreme_5 : decode cX8_extreme 5 = .ok (.iload_n 1, 1) := by decide +kernel
theorem dX8_extreme_6 : decode cX8_extreme 6 = .ok (.invokestatic 87, 3) := by decide +kernel
theorem dX8_extreme_9 : decode cX8_extreme 9 = .ok (.ifCond .ne 9, 3) := by decide +kernel
theorem dX8_extreme_12 : decode cX8_extreme 12 = .ok (.aload_n 0, 1) := by decide +kernel
theorem dX8_extreme_13 : decode cX8_extreme 13 = .ok (.iconst 1, 1) := by decide +kernel
theorem dX8_extreme_14 : decode cX8_extreme 14 = .ok (.invokevirtual 90, 3) := by decide +kernel
theorem dX8_extreme_17 : decode cX8_extreme 17 = .ok (.ireturn, 1) := by decide +kernel
theorem dX8_extreme_18 : decode cX8_extreme 18 = .ok (.iconst (-1), 1) := by decide +kernel
theorem dX8_extreme_19 : decode cX8_extreme 19 = .ok (.istore_n 3, 1) := by decide +kernel
theorem dX8_extreme_20 : decode cX8_extreme 20 = .ok (.iconst 0, 1) := by decide +kernel
theorem dX8_extreme_21 : decode cX8_extreme 21 = .ok (.istore 4, 2) := by decide +kernel
theorem dX8_extreme_23 : decode cX8_extreme 23 = .ok (.iconst 0, 1) := by decide +kernel
theorem dX8_extreme_24 : decode cX8_extreme 24 = .ok (.istore 5, 2) := by decide +kernel
theorem dX8_extreme_26 : decode cX8_extreme 26 = .ok (.iload 5, 2) := by decide +kernel
theorem dX8_extreme_28 : decode cX8_extreme 28 = .ok (.sipush 255, 3) := by decide +kernel
theorem dX8_extreme_31 : decode cX8_extreme 31 = .ok (.if_icmp .gt 77, 3) := by decide +kernel
theorem dX8_extreme_34 : decode cX8_extreme 34 = .ok (.aload_n 0, 1) := by decide +kernel
theorem dX8_extreme_35 : decode cX8_extreme 35 = .ok (.iload 5, 2) := by decide +kernel
theorem dX8_extreme_37 : decode cX8_extreme 37 = .ok (.iload_n 1, 1) := by decide +kernel
theorem dX8_extreme_38 : decode cX8_extreme 38 = .ok (.invokevirtual 130, 3) := by decide +kernel
theorem dX8_extreme_41 : decode cX8_extreme 41 = .ok (.istore 6, 2) := by decide +kernel
theorem dX8_extreme_43 : decode cX8_extreme 43 = .ok (.iload 6, 2) := by decide +kernel
theorem dX8_extreme_45 : decode cX8_extreme 45 = .ok (.iconst (-1), 1) := by decide +kernel
theorem dX8_extreme_46 : decode cX8_extreme 46 = .ok (.if_icmp .ne 7, 3) := by decide +kernel
theorem dX8_extreme_49 : decode cX8_extreme 49 = .ok (.iconst 0, 1) := by decide +kernel
theorem dX8_extreme_50 : decode cX8_extreme 50 = .ok (.goto 11, 3) := by decide +kernel
theorem dX8_extreme_53 : decode cX8_extreme 53 = .ok (.aload_n 0, 1) := by decide +kernel
theorem dX8_extreme_54 : decode cX8_extreme 54 = .ok (.iload 6, 2) := by decide +kernel
theorem dX8_extreme_56 : decode cX8_extreme 56 = .ok (.iload 5, 2) := by decide +kernel
theorem dX8_extreme_58 : decode cX8_extreme 58 = .ok (.invokevirtual 117, 3) := by decide +kernel
theorem dX8_extreme_61 : decode cX8_extreme 61 = .ok (.istore 7, 2) := by decide +kernel
theorem dX8_extreme_63 : decode cX8_extreme 63 = .ok (.iload 6, 2) := by decide +kernel
theorem dX8_extreme_65 : decode cX8_extreme 65 = .ok (.iconst (-1), 1) := by decide +kernel
theorem dX8_extreme_66 : decode cX8_extreme 66 = .ok (.if_icmp .eq 36, 3) := by decide +kernel
theorem dX8_extreme_69 : decode cX8_extreme 69 = .ok (.iload_n 3, 1) := by decide +kernel
theorem dX8_extreme_70 : decode cX8_extreme 70 = .ok (.iconst (-1), 1) := by decide +kernel
theorem dX8_extreme_71 : decode cX8_extreme 71 = .ok (.if_icmp .eq 24, 3) := by decide +kernel
theorem dX8_extreme_74 : decode cX8_extreme 74 = .ok (.iload_n 2, 1) := by decide +kernel
theorem dX8_extreme_75 : decode cX8_extreme 75 = .ok (.ifCond .eq 13, 3) := by decide +kernel
theorem dX8_extreme_78 : decode cX8_extreme 78 = .ok (.iload 7, 2) := by decide +kernel
theorem dX8_extreme_80 : decode cX8_extreme 80 = .ok (.iload 4, 2) := by decide +kernel
theorem dX8_extreme_82 : decode cX8_extreme 82 = .ok (.if_icmp .le 20, 3) := by decide +kernel
theorem dX8_extreme_85 : decode cX8_extreme 85 = .ok (.goto 10, 3) := by decide +kernel
theorem dX8_extreme_88 : decode cX8_extreme 88 = .ok (.iload 7, 2) := by decide +kernel
theorem dX8_extreme_90 : decode cX8_extreme 90 = .ok (.iload 4, 2) := by decide +kernel
theorem dX8_extreme_92 : decode cX8_extreme 92 = .ok (.if_icmp .ge 10, 3) := by decide +kernel
theorem dX8_extreme_95 : decode cX8_extreme 95 = .ok (.iload 5, 2) := by decide +kernel
theorem dX8_extreme_97 : decode cX8_extreme 97 = .ok (.istore_n 3, 1) := by decide +kernel
theorem dX8_extreme_98 : decode cX8_extreme 98 = .ok (.iload 7, 2) := by decide +kernel
theorem dX8_extreme_100 : decode cX8_extreme 100 = .ok (.istore 4, 2) := by decide +kernel
theorem dX8_extreme_102 : decode cX8_extreme 102 = .ok (.iinc 5 1, 3) := by decide +kernel
theorem dX8_extreme_105 : decode cX8_extreme 105 = .ok (.goto (-79), 3) := by decide +kernel
theorem dX8_extreme_108 : decode cX8_extreme 108 = .ok (.iload_n 3, 1) := by decide +kernel
theorem dX8_extreme_109 : decode cX8_extreme 109 = .ok (.ireturn, 1) := by decide +kernel
set_option maxRecDepth 20000 in
theorem ggX8_event_X8_of : GoodIn wsX8_event wsX8_of := goodIn_r _ [5, 6, 7, 8, 4, 9, 10, 11, 12, 13, 14, 15, 16, 17, 18, 19, 20, 21, 22, 23] (by decide +kernel) (by decide +kernel)
set_option maxRecDepth 20000 in
theorem gX8_event_X8_of : GoodIn wsX8_event (wsV RX8 58 RX8 yX8_of wsX8_of) := goodIn_app (goodIn_of _ (by decide +kernel)) ggX8_event_X8_of
theorem dX8_event_0 : decode cX8_event 0 = .ok (.aload_n 0, 1) := by decide +kernel
theorem dX8_event_1 : decode cX8_event 1 = .ok (.iload_n 1, 1) := by decide +kernel
theorem dX8_event_2 : decode cX8_event 2 = .ok (.iconst 2, 1) := by decide +kernel
theorem dX8_event_3 : decode cX8_event 3 = .ok (.idiv, 1) := by decide +kernel
theorem dX8_event_4 : decode cX8_event 4 = .ok (.iload_n 1, 1) := by decide +kernel
theorem dX8_event_5 : decode cX8_event 5 = .ok (.iconst 2, 1) := by decide +kernel
theorem dX8_event_6 : decode cX8_event 6 = .ok (.irem, 1) := by decide +kernel
theorem dX8_event_7 : decode cX8_event 7 = .ok (.ifCond .ne 7, 3) := by decide +kernel
theorem dX8_event_10 : decode cX8_event 10 = .ok (.iconst 4, 1) := by decide +kernel
theorem dX8_event_11 : decode cX8_event 11 = .ok (.goto 4, 3) := by decide +kernel
theorem dX8_event_14 : decode cX8_event 14 = .ok (.iconst 5, 1) := by decide +kernel
theorem dX8_event_15 : decode cX8_event 15 = .ok (.invokevirtual 58, 3) := by decide +kernel
theorem dX8_event_18 : decode cX8_event 18 = .ok (.ireturn, 1) := by decide +kernel
set_option maxRecDepth 20000 in
theorem ggX8_isNew_X8_event : GoodIn wsX8_isNew wsX8_event := goodIn_r _ [5, 6, 7, 8, 4, 9, 10, 11, 12, 13, 14, 15, 16, 17, 18, 19, 20, 21, 22, 23, 24, 25, 26, 27] (by decide +kernel) (by decide +kernel)
set_option maxRecDepth 20000 in
theorem gX8_isNew_X8_event : GoodIn wsX8_isNew (wsV RX8 155 RX8 yX8_event wsX8_event) := goodIn_app (goodIn_of _ (by decide +kernel)) ggX8_isNew_X8_event
theorem dX8_isNew_0 : decode cX8_isNew 0 = .ok (.iconst 1, 1) := by decide +kernel
theorem dX8_isNew_1 : decode cX8_isNew 1 = .ok (.istore_n 2, 1) := by decide +kernel
theorem dX8_isNew_2 : decode cX8_isNew 2 = .ok (.iconst 0, 1) := by decide +kernel
theorem dX8_isNew_3 : decode cX8_isNew 3 = .ok (.istore_n 3, 1) := by decide +kernel
theorem dX8_isNew_4 : decode cX8_isNew 4 = .ok (.iload_n 3, 1) := by decide +kernel
theorem dX8_isNew_5 : decode cX8_isNew 5 = .ok (.iload_n 1, 1) := by decide +kernel
theorem dX8_isNew_6 : decode cX8_isNew 6 = .ok (.if_icmp .ge 32, 3) := by decide +kernel
theorem dX8_isNew_9 : decode cX8_isNew 9 = .ok (.iload_n 2, 1) := by decide +kernel
theorem dX8_isNew_10 : decode cX8_isNew 10 = .ok (.ifCond .eq 20, 3) := by decide +kernel
theorem dX8_isNew_13 : decode cX8_isNew 13 = .ok (.aload_n 0, 1) := by decide +kernel
theorem dX8_isNew_14 : decode cX8_isNew 14 = .ok (.iload_n 3, 1) := by decide +kernel
theorem dX8_isNew_15 : decode cX8_isNew 15 = .ok (.invokevirtual 155, 3) := by decide +kernel
theorem dX8_isNew_18 : decode cX8_isNew 18 = .ok (.aload_n 0, 1) := by decide +kernel
theorem dX8_isNew_19 : decode cX8_isNew 19 = .ok (.iload_n 1, 1) := by decide +kernel
theorem dX8_isNew_20 : decode cX8_isNew 20 = .ok (.invokevirtual 155, 3) := by decide +kernel
theorem dX8_isNew_23 : decode cX8_isNew 23 = .ok (.if_icmp .eq 7, 3) := by decide +kernel
theorem dX8_isNew_26 : decode cX8_isNew 26 = .ok (.iconst 1, 1) := by decide +kernel
theorem dX8_isNew_27 : decode cX8_isNew 27 = .ok (.goto 4, 3) := by decide +kernel
theorem dX8_isNew_30 : decode cX8_isNew 30 = .ok (.iconst 0, 1) := by decide +kernel
theorem dX8_isNew_31 : decode cX8_isNew 31 = .ok (.istore_n 2, 1) := by decide +kernel
theorem dX8_isNew_32 : decode cX8_isNew 32 = .ok (.iinc 3 1, 3) := by decide +kernel
theorem dX8_isNew_35 : decode cX8_isNew 35 = .ok (.goto (-31), 3) := by decide +kernel
theorem dX8_isNew_38 : decode cX8_isNew 38 = .ok (.iload_n 2, 1) := by decide +kernel
theorem dX8_isNew_39 : decode cX8_isNew 39 = .ok (.ireturn, 1) := by decide +kernel
set_option maxRecDepth 20000 in
theorem ggX8_isChange_X8_firstAt : GoodIn wsX8_isChange wsX8_firstAt := goodIn_r _ [5, 6, 7, 8, 9, 4, 10, 11, 12, 13, 14, 15, 16, 17, 18, 19, 20, 21, 22, 23, 24, 25, 26, 27, 28, 29, 30, 31, 32, 33, 34, 35, 36, 37, 38, 39, 40, 41, 42, 43, 44, 45, 46] (by decide +kernel) (by decide +kernel)
set_option maxRecDepth 20000 in
theorem gX8_isChange_X8_firstAt : GoodIn wsX8_isChange (wsV RX8 130 RX8 yX8_firstAt wsX8_firstAt) := goodIn_app (goodIn_of _ (by decide +kernel)) ggX8_isChange_X8_firstAt
theorem dX8_isChange_0 : decode cX8_isChange 0 = .ok (.aload_n 0, 1) := by decide +kernel
theorem dX8_isChange_1 : decode cX8_isChange 1 = .ok (.iload_n 1, 1) := by decide +kernel
theorem dX8_isChange_2 : decode cX8_isChange 2 = .ok (.iload_n 2, 1) := by decide +kernel
theorem dX8_isChange_3 : decode cX8_isChange 3 = .ok (.invokevirtual 130, 3) := by decide +kernel
theorem dX8_isChange_6 : decode cX8_isChange 6 = .ok (.aload_n 0, 1) := by decide +kernel
theorem dX8_isChange_7 : decode cX8_isChange 7 = .ok (.iload_n 1, 1) := by decide +kernel
theorem dX8_isChange_8 : decode cX8_isChange 8 = .ok (.iload_n 2, 1) := by decide +kernel
theorem dX8_isChange_9 : decode cX8_isChange 9 = .ok (.iconst 1, 1) := by decide +kernel
theorem dX8_isChange_10 : decode cX8_isChange 10 = .ok (.isub, 1) := by decide +kernel
theorem dX8_isChange_11 : decode cX8_isChange 11 = .ok (.invokevirtual 130, 3) := by decide +kernel
theorem dX8_isChange_14 : decode cX8_isChange 14 = .ok (.if_icmp .eq 7, 3) := by decide +kernel
theorem dX8_isChange_17 : decode cX8_isChange 17 = .ok (.iconst 1, 1) := by decide +kernel
theorem dX8_isChange_18 : decode cX8_isChange 18 = .ok (.goto 4, 3) := by decide +kernel
theorem dX8_isChange_21 : decode cX8_isChange 21 = .ok (.iconst 0, 1) := by decide +kernel
theorem dX8_isChange_22 : decode cX8_isChange 22 = .ok (.ireturn, 1) := by decide +kernel
set_option maxRecDepth 20000 in
theorem ggX8_isRange_X8_isPosition : GoodIn wsX8_isRange wsX8_isPosition := goodIn_r _ [4, 5, 6, 7, 3, 8] (by decide +kernel) (by decide +kernel)
set_option maxRecDepth 20000 in
theorem gX8_isRange_X8_isPosition : GoodIn wsX8_isRange (va_wsS RX8 65 yX8_isPosition wsX8_isPosition) := goodIn_app (goodIn_of _ (by decide +kernel)) ggX8_isRange_X8_isPosition
set_option maxRecDepth 20000 in
theorem ggX8_isRange_X8_isTick : GoodIn wsX8_isRange wsX8_isTick := goodIn_r _ [11, 12, 6, 7, 3, 8] (by decide +kernel) (by decide +kernel)
set_option maxRecDepth 20000 in
theorem gX8_isRange_X8_isTick : GoodIn wsX8_isRange (va_wsS RX8 87 yX8_isTick wsX8_isTick) := goodIn_app (goodIn_of _ (by decide +kernel)) ggX8_isRange_X8_isTick
theorem dX8_isRange_0 : decode cX8_isRange 0 = .ok (.iload_n 0, 1) := by decide +kernel
theorem dX8_isRange_1 : decode cX8_isRange 1 = .ok (.invokestatic 65, 3) := by decide +kernel
theorem dX8_isRange_4 : decode cX8_isRange 4 = .ok (.ifCond .eq 26, 3) := by decide +kernel
theorem dX8_isRange_7 : decode cX8_isRange 7 = .ok (.iload_n 1, 1) := by decide +kernel
theorem dX8_isRange_8 : decode cX8_isRange 8 = .ok (.invokestatic 87, 3) := by decide +kernel
theorem dX8_isRange_11 : decode cX8_isRange 11 = .ok (.ifCond .eq 19, 3) := by decide +kernel
theorem dX8_isRange_14 : decode cX8_isRange 14 = .ok (.iload_n 2, 1) := by decide +kernel
theorem dX8_isRange_15 : decode cX8_isRange 15 = .ok (.invokestatic 87, 3) := by decide +kernel
theorem dX8_isRange_18 : decode cX8_isRange 18 = .ok (.ifCond .eq 12, 3) := by decide +kernel
theorem dX8_isRange_21 : decode cX8_isRange 21 = .ok (.iload_n 1, 1) := by decide +kernel
theorem dX8_isRange_22 : decode cX8_isRange 22 = .ok (.iload_n 2, 1) := by decide +kernel
theorem dX8_isRange_23 : decode cX8_isRange 23 = .ok (.if_icmp .gt 7, 3) := by decide +kernel
theorem dX8_isRange_26 : decode cX8_isRange 26 = .ok (.iconst 1, 1) := by decide +kernel
theorem dX8_isRange_27 : decode cX8_isRange 27 = .ok (.goto 4, 3) := by decide +kernel
theorem dX8_isRange_30 : decode cX8_isRange 30 = .ok (.iconst 0, 1) := by decide +kernel
theorem dX8_isRange_31 : decode cX8_isRange 31 = .ok (.ireturn, 1) := by decide +kernel
set_option maxRecDepth 20000 in
theorem ggX8_changes_X8_isRange : GoodIn wsX8_changes wsX8_isRange := goodIn_r _ [6, 7, 8, 5, 9, 10, 11, 12, 13, 14, 15, 16, 17] (by decide +kernel) (by decide +kernel)
set_option maxRecDepth 20000 in
theorem gX8_changes_X8_isRange : GoodIn wsX8_changes (va_wsS RX8 158 yX8_isRange wsX8_isRange) := goodIn_app (goodIn_of _ (by decide +kernel)) ggX8_changes_X8_isRange
set_option maxRecDepth 20000 in
theorem ggX8_changes_X8_fails : GoodIn wsX8_changes wsX8_fails := goodIn_r _ [21, 1, 61, 62, 63, 64, 65, 66, 67, 68, 69, 70, 71, 72, 73, 74] (by decide +kernel) (by decide +kernel)
set_option maxRecDepth 20000 in
theorem gX8_changes_X8_fails : GoodIn wsX8_changes (wsV RX8 90 RX8 yX8_fails wsX8_fails) := goodIn_app (goodIn_of _ (by decide +kernel)) ggX8_changes_X8_fails
set_option maxRecDepth 20000 in
theorem ggX8_changes_X8_event : GoodIn wsX8_changes wsX8_event := goodIn_r _ [25, 26, 27, 28, 5, 29, 2, 30, 31, 32, 61, 62, 63, 64, 65, 66, 67, 68, 69, 70, 71, 72, 73, 74] (by decide +kernel) (by decide +kernel)
set_option maxRecDepth 20000 in
theorem gX8_changes_X8_event : GoodIn wsX8_changes (wsV RX8 155 RX8 yX8_event wsX8_event) := goodIn_app (goodIn_of _ (by decide +kernel)) ggX8_changes_X8_event
set_option maxRecDepth 20000 in
theorem ggX8_changes_X8_in : GoodIn wsX8_changes wsX8_in := goodIn_r _ [13] (by decide +kernel) (by decide +kernel)
set_option maxRecDepth 20000 in
theorem gX8_changes_X8_in : GoodIn wsX8_changes (va_wsS RX8 42 yX8_in wsX8_in) := goodIn_app (goodIn_of _ (by decide +kernel)) ggX8_changes_X8_in
set_option maxRecDepth 20000 in
theorem ggX8_changes_X8_isNew : GoodIn wsX8_changes wsX8_isNew := goodIn_r _ [36, 22, 23, 24, 5, 25, 26, 27, 28, 29, 2, 30, 31, 32, 61, 62, 63, 64, 65, 66, 67, 68, 69, 70, 71, 72, 73, 74] (by decide +kernel) (by decide +kernel)
set_option maxRecDepth 20000 in
theorem gX8_changes_X8_isNew : GoodIn wsX8_changes (wsV RX8 161 RX8 yX8_isNew wsX8_isNew) := goodIn_app (goodIn_of _ (by decide +kernel)) ggX8_changes_X8_isNew
set_option maxRecDepth 20000 in
theorem ggX8_changes_X8_isChange : GoodIn wsX8_changes wsX8_isChange := goodIn_r _ [40, 41, 42, 43, 5, 44, 2, 45, 46, 47, 48, 49, 50, 51, 52, 26, 27, 28, 29, 30, 31, 32, 11, 12, 13, 53, 54, 55, 56, 57, 58, 59, 60, 61, 62, 63, 64, 65, 66, 67, 68, 69, 70, 71, 72, 73, 74] (by decide +kernel) (by decide +kernel)
set_option maxRecDepth 20000 in
theorem gX8_changes_X8_isChange : GoodIn wsX8_changes (wsV RX8 164 RX8 yX8_isChange wsX8_isChange) := goodIn_app (goodIn_of _ (by decide +kernel)) ggX8_changes_X8_isChange
theorem dX8_changes_0 : decode cX8_changes 0 = .ok (.aload_n 0, 1) := by decide +kernel
theorem dX8_changes_1 : decode cX8_changes 1 = .ok (.iconst 0, 1) := by decide +kernel
theorem dX8_changes_2 : decode cX8_changes 2 = .ok (.putfield 31, 3) := by decide +kernel
theorem dX8_changes_5 : decode cX8_changes 5 = .ok (.iload_n 1, 1) := by decide +kernel
theorem dX8_changes_6 : decode cX8_changes 6 = .ok (.iload_n 2, 1) := by decide +kernel
theorem dX8_changes_7 : decode cX8_changes 7 = .ok (.iload_n 3, 1) := by decide +kernel
theorem dX8_changes_8 : decode cX8_changes 8 = .ok (.invokestatic 158, 3) := by decide +kernel
theorem dX8_changes_11 : decode cX8_changes 11 = .ok (.ifCond .ne 9, 3) := by decide +kernel
theorem dX8_changes_14 : decode cX8_changes 14 = .ok (.aload_n 0, 1) := by decide +kernel
theorem dX8_changes_15 : decode cX8_changes 15 = .ok (.iconst 1, 1) := by decide +kernel
theorem dX8_changes_16 : decode cX8_changes 16 = .ok (.invokevirtual 90, 3) := by decide +kernel
theorem dX8_changes_19 : decode cX8_changes 19 = .ok (.ireturn, 1) := by decide +kernel
theorem dX8_changes_20 : decode cX8_changes 20 = .ok (.iconst 0, 1) := by decide +kernel
theorem dX8_changes_21 : decode cX8_changes 21 = .ok (.istore 4, 2) := by decide +kernel
theorem dX8_changes_23 : decode cX8_changes 23 = .ok (.iconst 0, 1) := by decide +kernel
theorem dX8_changes_24 : decode cX8_changes 24 = .ok (.istore 5, 2) := by decide +kernel
theorem dX8_changes_26 : decode cX8_changes 26 = .ok (.iload 5, 2) := by decide +kernel
theorem dX8_changes_28 : decode cX8_changes 28 = .ok (.iconst 2, 1) := by decide +kernel
theorem dX8_changes_29 : decode cX8_changes 29 = .ok (.aload_n 0, 1) := by decide +kernel
theorem dX8_changes_30 : decode cX8_changes 30 = .ok (.getfield 7, 3) := by decide +kernel
theorem dX8_changes_33 : decode cX8_changes 33 = .ok (.iconst 0, 1) := by decide +kernel
theorem dX8_changes_34 : decode cX8_changes 34 = .ok (.iaload, 1) := by decide +kernel
theorem dX8_changes_35 : decode cX8_changes 35 = .ok (.imul, 1) := by decide +kernel
theorem dX8_changes_36 : decode cX8_changes 36 = .ok (.if_icmp .ge 61, 3) := by decide +kernel
theorem dX8_changes_39 : decode cX8_changes 39 = .ok (.iload 4, 2) := by decide +kernel
theorem dX8_changes_41 : decode cX8_changes 41 = .ok (.aload_n 0, 1) := by decide +kernel
theorem dX8_changes_42 : decode cX8_changes 42 = .ok (.iload 5, 2) := by decide +kernel
theorem dX8_changes_44 : decode cX8_changes 44 = .ok (.invokevirtual 155, 3) := by decide +kernel
theorem dX8_changes_47 : decode cX8_changes 47 = .ok (.i2l, 1) := by decide +kernel
theorem dX8_changes_48 : decode cX8_changes 48 = .ok (.iload_n 2, 1) := by decide +kernel
theorem dX8_changes_49 : decode cX8_changes 49 = .ok (.iconst 1, 1) := by decide +kernel
theorem dX8_changes_50 : decode cX8_changes 50 = .ok (.iadd, 1) := by decide +kernel
theorem dX8_changes_51 : decode cX8_changes 51 = .ok (.i2l, 1) := by decide +kernel
theorem dX8_changes_52 : decode cX8_changes 52 = .ok (.iload_n 3, 1) := by decide +kernel
theorem dX8_changes_53 : decode cX8_changes 53 = .ok (.i2l, 1) := by decide +kernel
theorem dX8_changes_54 : decode cX8_changes 54 = .ok (.invokestatic 42, 3) := by decide +kernel
theorem dX8_changes_57 : decode cX8_changes 57 = .ok (.ifCond .eq 30, 3) := by decide +kernel
theorem dX8_changes_60 : decode cX8_changes 60 = .ok (.aload_n 0, 1) := by decide +kernel
theorem dX8_changes_61 : decode cX8_changes 61 = .ok (.iload 5, 2) := by decide +kernel
theorem dX8_changes_63 : decode cX8_changes 63 = .ok (.invokevirtual 161, 3) := by decide +kernel
theorem dX8_changes_66 : decode cX8_changes 66 = .ok (.ifCond .eq 21, 3) := by decide +kernel
theorem dX8_changes_69 : decode cX8_changes 69 = .ok (.aload_n 0, 1) := by decide +kernel
theorem dX8_changes_70 : decode cX8_changes 70 = .ok (.iload_n 1, 1) := by decide +kernel
theorem dX8_changes_71 : decode cX8_changes 71 = .ok (.aload_n 0, 1) := by decide +kernel
theorem dX8_changes_72 : decode cX8_changes 72 = .ok (.iload 5, 2) := by decide +kernel
theorem dX8_changes_74 : decode cX8_changes 74 = .ok (.invokevirtual 155, 3) := by decide +kernel
theorem dX8_changes_77 : decode cX8_changes 77 = .ok (.invokevirtual 164, 3) := by decide +kernel
theorem dX8_changes_80 : decode cX8_changes 80 = .ok (.ifCond .eq 7, 3) := by decide +kernel
theorem dX8_changes_83 : decode cX8_changes 83 = .ok (.iconst 1, 1) := by decide +kernel
theorem dX8_changes_84 : decode cX8_changes 84 = .ok (.goto 4, 3) := by decide +kernel
theorem dX8_changes_87 : decode cX8_changes 87 = .ok (.iconst 0, 1) := by decide +kernel
theorem dX8_changes_88 : decode cX8_changes 88 = .ok (.iadd, 1) := by decide +kernel
theorem dX8_changes_89 : decode cX8_changes 89 = .ok (.istore 4, 2) := by decide +kernel
theorem dX8_changes_91 : decode cX8_changes 91 = .ok (.iinc 5 1, 3) := by decide +kernel
theorem dX8_changes_94 : decode cX8_changes 94 = .ok (.goto (-68), 3) := by decide +kernel
theorem dX8_changes_97 : decode cX8_changes 97 = .ok (.iload 4, 2) := by decide +kernel
theorem dX8_changes_99 : decode cX8_changes 99 = .ok (.ireturn, 1) := by decide +kernel
set_option maxRecDepth 20000 in
theorem ggX8_nextChange_X8_isPlace : GoodIn wsX8_nextChange wsX8_isPlace := goodIn_r _ [6, 7, 8, 5, 9, 10, 11, 12, 13, 14, 15, 16, 17] (by decide +kernel) (by decide +kernel)
set_option maxRecDepth 20000 in
theorem gX8_nextChange_X8_isPlace : GoodIn wsX8_nextChange (va_wsS RX8 127 yX8_isPlace wsX8_isPlace) := goodIn_app (goodIn_of _ (by decide +kernel)) ggX8_nextChange_X8_isPlace
set_option maxRecDepth 20000 in
theorem ggX8_nextChange_X8_fails : GoodIn wsX8_nextChange wsX8_fails := goodIn_r _ [21, 1, 57, 58, 59, 60, 61, 62, 63, 64, 65, 66, 67, 68, 69, 70] (by decide +kernel) (by decide +kernel)
set_option maxRecDepth 20000 in
theorem gX8_nextChange_X8_fails : GoodIn wsX8_nextChange (wsV RX8 90 RX8 yX8_fails wsX8_fails) := goodIn_app (goodIn_of _ (by decide +kernel)) ggX8_nextChange_X8_fails
set_option maxRecDepth 20000 in
theorem ggX8_nextChange_X8_event : GoodIn wsX8_nextChange wsX8_event := goodIn_r _ [25, 26, 27, 28, 5, 29, 2, 30, 31, 32, 57, 58, 59, 60, 61, 62, 63, 64, 65, 66, 67, 68, 69, 70] (by decide +kernel) (by decide +kernel)
set_option maxRecDepth 20000 in
theorem gX8_nextChange_X8_event : GoodIn wsX8_nextChange (wsV RX8 155 RX8 yX8_event wsX8_event) := goodIn_app (goodIn_of _ (by decide +kernel)) ggX8_nextChange_X8_event
set_option maxRecDepth 20000 in
theorem ggX8_nextChange_X8_isChange : GoodIn wsX8_nextChange wsX8_isChange := goodIn_r _ [36, 37, 38, 39, 5, 40, 2, 41, 42, 43, 44, 45, 46, 47, 48, 26, 27, 28, 29, 30, 31, 32, 11, 12, 13, 49, 50, 51, 52, 53, 54, 55, 56, 57, 58, 59, 60, 61, 62, 63, 64, 65, 66, 67, 68, 69, 70] (by decide +kernel) (by decide +kernel)
set_option maxRecDepth 20000 in
theorem gX8_nextChange_X8_isChange : GoodIn wsX8_nextChange (wsV RX8 164 RX8 yX8_isChange wsX8_isChange) := goodIn_app (goodIn_of _ (by decide +kernel)) ggX8_nextChange_X8_isChange
theorem dX8_nextChange_0 : decode cX8_nextChange 0 = .ok (.aload_n 0, 1) := by decide +kernel
theorem dX8_nextChange_1 : decode cX8_nextChange 1 = .ok (.iconst 0, 1) := by decide +kernel
theorem dX8_nextChange_2 : decode cX8_nextChange 2 = .ok (.putfield 31, 3) := by decide +kernel
theorem dX8_nextChange_5 : decode cX8_nextChange 5 = .ok (.iload_n 1, 1) := by decide +kernel
theorem dX8_nextChange_6 : decode cX8_nextChange 6 = .ok (.iload_n 2, 1) := by decide +kernel
theorem dX8_nextChange_7 : decode cX8_nextChange 7 = .ok (.invokestatic 127, 3) := by decide +kernel
theorem dX8_nextChange_10 : decode cX8_nextChange 10 = .ok (.ifCond .ne 9, 3) := by decide +kernel
theorem dX8_nextChange_13 : decode cX8_nextChange 13 = .ok (.aload_n 0, 1) := by decide +kernel
theorem dX8_nextChange_14 : decode cX8_nextChange 14 = .ok (.iconst 1, 1) := by decide +kernel
theorem dX8_nextChange_15 : decode cX8_nextChange 15 = .ok (.invokevirtual 90, 3) := by decide +kernel
theorem dX8_nextChange_18 : decode cX8_nextChange 18 = .ok (.ireturn, 1) := by decide +kernel
theorem dX8_nextChange_19 : decode cX8_nextChange 19 = .ok (.iconst (-1), 1) := by decide +kernel
theorem dX8_nextChange_20 : decode cX8_nextChange 20 = .ok (.istore_n 3, 1) := by decide +kernel
theorem dX8_nextChange_21 : decode cX8_nextChange 21 = .ok (.iconst 0, 1) := by decide +kernel
theorem dX8_nextChange_22 : decode cX8_nextChange 22 = .ok (.istore 4, 2) := by decide +kernel
theorem dX8_nextChange_24 : decode cX8_nextChange 24 = .ok (.iload 4, 2) := by decide +kernel
theorem dX8_nextChange_26 : decode cX8_nextChange 26 = .ok (.iconst 2, 1) := by decide +kernel
theorem dX8_nextChange_27 : decode cX8_nextChange 27 = .ok (.aload_n 0, 1) := by decide +kernel
theorem dX8_nextChange_28 : decode cX8_nextChange 28 = .ok (.getfield 7, 3) := by decide +kernel
theorem dX8_nextChange_31 : decode cX8_nextChange 31 = .ok (.iconst 0, 1) := by decide +kernel
theorem dX8_nextChange_32 : decode cX8_nextChange 32 = .ok (.iaload, 1) := by decide +kernel
theorem dX8_nextChange_33 : decode cX8_nextChange 33 = .ok (.imul, 1) := by decide +kernel
theorem dX8_nextChange_34 : decode cX8_nextChange 34 = .ok (.if_icmp .ge 71, 3) := by decide +kernel
theorem dX8_nextChange_37 : decode cX8_nextChange 37 = .ok (.aload_n 0, 1) := by decide +kernel
theorem dX8_nextChange_38 : decode cX8_nextChange 38 = .ok (.iload 4, 2) := by decide +kernel
theorem dX8_nextChange_40 : decode cX8_nextChange 40 = .ok (.invokevirtual 155, 3) := by decide +kernel
theorem dX8_nextChange_43 : decode cX8_nextChange 43 = .ok (.iload_n 2, 1) := by decide +kernel
theorem dX8_nextChange_44 : decode cX8_nextChange 44 = .ok (.if_icmp .le 22, 3) := by decide +kernel
theorem dX8_nextChange_47 : decode cX8_nextChange 47 = .ok (.iload_n 3, 1) := by decide +kernel
theorem dX8_nextChange_48 : decode cX8_nextChange 48 = .ok (.iconst (-1), 1) := by decide +kernel
theorem dX8_nextChange_49 : decode cX8_nextChange 49 = .ok (.if_icmp .eq 13, 3) := by decide +kernel
theorem dX8_nextChange_52 : decode cX8_nextChange 52 = .ok (.aload_n 0, 1) := by decide +kernel
theorem dX8_nextChange_53 : decode cX8_nextChange 53 = .ok (.iload 4, 2) := by decide +kernel
theorem dX8_nextChange_55 : decode cX8_nextChange 55 = .ok (.invokevirtual 155, 3) := by decide +kernel
theorem dX8_nextChange_58 : decode cX8_nextChange 58 = .ok (.iload_n 3, 1) := by decide +kernel
theorem dX8_nextChange_59 : decode cX8_nextChange 59 = .ok (.if_icmp .ge 7, 3) := by decide +kernel
theorem dX8_nextChange_62 : decode cX8_nextChange 62 = .ok (.iconst 1, 1) := by decide +kernel
theorem dX8_nextChange_63 : decode cX8_nextChange 63 = .ok (.goto 4, 3) := by decide +kernel
theorem dX8_nextChange_66 : decode cX8_nextChange 66 = .ok (.iconst 0, 1) := by decide +kernel
theorem dX8_nextChange_67 : decode cX8_nextChange 67 = .ok (.istore 5, 2) := by decide +kernel
theorem dX8_nextChange_69 : decode cX8_nextChange 69 = .ok (.iload 5, 2) := by decide +kernel
theorem dX8_nextChange_71 : decode cX8_nextChange 71 = .ok (.ifCond .eq 26, 3) := by decide +kernel
theorem dX8_nextChange_74 : decode cX8_nextChange 74 = .ok (.aload_n 0, 1) := by decide +kernel
theorem dX8_nextChange_75 : decode cX8_nextChange 75 = .ok (.iload_n 1, 1) := by decide +kernel
theorem dX8_nextChange_76 : decode cX8_nextChange 76 = .ok (.aload_n 0, 1) := by decide +kernel
theorem dX8_nextChange_77 : decode cX8_nextChange 77 = .ok (.iload 4, 2) := by decide +kernel
theorem dX8_nextChange_79 : decode cX8_nextChange 79 = .ok (.invokevirtual 155, 3) := by decide +kernel
theorem dX8_nextChange_82 : decode cX8_nextChange 82 = .ok (.invokevirtual 164, 3) := by decide +kernel
theorem dX8_nextChange_85 : decode cX8_nextChange 85 = .ok (.ifCond .eq 12, 3) := by decide +kernel
theorem dX8_nextChange_88 : decode cX8_nextChange 88 = .ok (.aload_n 0, 1) := by decide +kernel
theorem dX8_nextChange_89 : decode cX8_nextChange 89 = .ok (.iload 4, 2) := by decide +kernel
theorem dX8_nextChange_91 : decode cX8_nextChange 91 = .ok (.invokevirtual 155, 3) := by decide +kernel
theorem dX8_nextChange_94 : decode cX8_nextChange 94 = .ok (.goto 4, 3) := by decide +kernel
theorem dX8_nextChange_97 : decode cX8_nextChange 97 = .ok (.iload_n 3, 1) := by decide +kernel
theorem dX8_nextChange_98 : decode cX8_nextChange 98 = .ok (.istore_n 3, 1) := by decide +kernel
theorem dX8_nextChange_99 : decode cX8_nextChange 99 = .ok (.iinc 4 1, 3) := by decide +kernel
theorem dX8_nextChange_102 : decode cX8_nextChange 102 = .ok (.goto (-78), 3) := by decide +kernel
theorem dX8_nextChange_105 : decode cX8_nextChange 105 = .ok (.iload_n 3, 1) := by decide +kernel
theorem dX8_nextChange_106 : decode cX8_nextChange 106 = .ok (.ireturn, 1) := by decide +kernel
set_option maxRecDepth 20000 in
theorem ggX8_overTime_X8_isRange : GoodIn wsX8_overTime wsX8_isRange := goodIn_r _ [7, 8, 9, 6, 10, 11, 12, 13, 14, 15, 16, 17, 18] (by decide +kernel) (by decide +kernel)
set_option maxRecDepth 20000 in
theorem gX8_overTime_X8_isRange : GoodIn wsX8_overTime (va_wsS RX8 158 yX8_isRange wsX8_isRange) := goodIn_app (goodIn_of _ (by decide +kernel)) ggX8_overTime_X8_isRange
set_option maxRecDepth 20000 in
theorem ggX8_overTime_X8_fails : GoodIn wsX8_overTime wsX8_fails := goodIn_r _ [22, 1, 54, 55, 56, 57, 58, 59, 60, 61, 62, 63, 64, 65, 66, 67] (by decide +kernel) (by decide +kernel)
set_option maxRecDepth 20000 in
theorem gX8_overTime_X8_fails : GoodIn wsX8_overTime (wsV RX8 90 RX8 yX8_fails wsX8_fails) := goodIn_app (goodIn_of _ (by decide +kernel)) ggX8_overTime_X8_fails
set_option maxRecDepth 20000 in
theorem ggX8_overTime_X8_event : GoodIn wsX8_overTime wsX8_event := goodIn_r _ [26, 27, 28, 29, 6, 30, 2, 31, 32, 33, 54, 55, 56, 57, 58, 59, 60, 61, 62, 63, 64, 65, 66, 67] (by decide +kernel) (by decide +kernel)
set_option maxRecDepth 20000 in
theorem gX8_overTime_X8_event : GoodIn wsX8_overTime (wsV RX8 155 RX8 yX8_event wsX8_event) := goodIn_app (goodIn_of _ (by decide +kernel)) ggX8_overTime_X8_event
set_option maxRecDepth 20000 in
theorem ggX8_overTime_X8_in : GoodIn wsX8_overTime wsX8_in := goodIn_r _ [14] (by decide +kernel) (by decide +kernel)
set_option maxRecDepth 20000 in
theorem gX8_overTime_X8_in : GoodIn wsX8_overTime (va_wsS RX8 42 yX8_in wsX8_in) := goodIn_app (goodIn_of _ (by decide +kernel)) ggX8_overTime_X8_in
set_option maxRecDepth 20000 in
theorem ggX8_overTime_X8_firstAt : GoodIn wsX8_overTime wsX8_firstAt := goodIn_r _ [37, 2, 38, 39, 40, 6, 41, 42, 43, 44, 45, 27, 28, 29, 30, 31, 32, 33, 12, 13, 14, 46, 47, 48, 49, 50, 51, 52, 53, 54, 55, 56, 57, 58, 59, 60, 61, 62, 63, 64, 65, 66, 67] (by decide +kernel) (by decide +kernel)
set_option maxRecDepth 20000 in
theorem gX8_overTime_X8_firstAt : GoodIn wsX8_overTime (wsV RX8 130 RX8 yX8_firstAt wsX8_firstAt) := goodIn_app (goodIn_of _ (by decide +kernel)) ggX8_overTime_X8_firstAt
set_option maxRecDepth 20000 in
theorem ggX8_overTime_X8_valueAt : GoodIn wsX8_overTime wsX8_valueAt := goodIn_r _ [53, 27, 28, 29, 6, 30, 2, 31, 32, 33, 54, 55, 56, 57, 58, 59, 60, 61, 62, 63, 64, 65, 66, 67] (by decide +kernel) (by decide +kernel)
set_option maxRecDepth 20000 in
theorem gX8_overTime_X8_valueAt : GoodIn wsX8_overTime (wsV RX8 117 RX8 yX8_valueAt wsX8_valueAt) := goodIn_app (goodIn_of _ (by decide +kernel)) ggX8_overTime_X8_valueAt
theorem dX8_overTime_0 : decode cX8_overTime 0 = .ok (.aload_n 0, 1) := by decide +kernel
theorem dX8_overTime_1 : decode cX8_overTime 1 = .ok (.iconst 0, 1) := by decide +kernel
theorem dX8_overTime_2 : decode cX8_overTime 2 = .ok (.putfield 31, 3) := by decide +kernel
theorem dX8_overTime_5 : decode cX8_overTime 5 = .ok (.iload_n 1, 1) := by decide +kernel
theorem dX8_overTime_6 : decode cX8_overTime 6 = .ok (.iload_n 2, 1) := by decide +kernel
theorem dX8_overTime_7 : decode cX8_overTime 7 = .ok (.iload_n 3, 1) := by decide +kernel
theorem dX8_overTime_8 : decode cX8_overTime 8 = .ok (.invokestatic 158, 3) := by decide +kernel
theorem dX8_overTime_11 : decode cX8_overTime 11 = .ok (.ifCond .ne 10, 3) := by decide +kernel
theorem dX8_overTime_14 : decode cX8_overTime 14 = .ok (.aload_n 0, 1) := by decide +kernel
theorem dX8_overTime_15 : decode cX8_overTime 15 = .ok (.iconst 1, 1) := by decide +kernel
theorem dX8_overTime_16 : decode cX8_overTime 16 = .ok (.invokevirtual 90, 3) := by decide +kernel
theorem dX8_overTime_19 : decode cX8_overTime 19 = .ok (.i2l, 1) := by decide +kernel
theorem dX8_overTime_20 : decode cX8_overTime 20 = .ok (.lreturn, 1) := by decide +kernel
theorem dX8_overTime_21 : decode cX8_overTime 21 = .ok (.iconst 0, 1) := by decide +kernel
theorem dX8_overTime_22 : decode cX8_overTime 22 = .ok (.istore 5, 2) := by decide +kernel
theorem dX8_overTime_24 : decode cX8_overTime 24 = .ok (.iconst 0, 1) := by decide +kernel
theorem dX8_overTime_25 : decode cX8_overTime 25 = .ok (.istore 6, 2) := by decide +kernel
theorem dX8_overTime_27 : decode cX8_overTime 27 = .ok (.iconst (-1), 1) := by decide +kernel
theorem dX8_overTime_28 : decode cX8_overTime 28 = .ok (.istore 7, 2) := by decide +kernel
theorem dX8_overTime_30 : decode cX8_overTime 30 = .ok (.iload 7, 2) := by decide +kernel
theorem dX8_overTime_32 : decode cX8_overTime 32 = .ok (.iconst 2, 1) := by decide +kernel
theorem dX8_overTime_33 : decode cX8_overTime 33 = .ok (.aload_n 0, 1) := by decide +kernel
theorem dX8_overTime_34 : decode cX8_overTime 34 = .ok (.getfield 7, 3) := by decide +kernel
theorem dX8_overTime_37 : decode cX8_overTime 37 = .ok (.iconst 0, 1) := by decide +kernel
theorem dX8_overTime_38 : decode cX8_overTime 38 = .ok (.iaload, 1) := by decide +kernel
theorem dX8_overTime_39 : decode cX8_overTime 39 = .ok (.imul, 1) := by decide +kernel
theorem dX8_overTime_40 : decode cX8_overTime 40 = .ok (.if_icmp .ge 111, 3) := by decide +kernel
theorem dX8_overTime_43 : decode cX8_overTime 43 = .ok (.iload 7, 2) := by decide +kernel
theorem dX8_overTime_45 : decode cX8_overTime 45 = .ok (.ifCond .ge 7, 3) := by decide +kernel
theorem dX8_overTime_48 : decode cX8_overTime 48 = .ok (.iload_n 2, 1) := by decide +kernel
theorem dX8_overTime_49 : decode cX8_overTime 49 = .ok (.goto 9, 3) := by decide +kernel
theorem dX8_overTime_52 : decode cX8_overTime 52 = .ok (.aload_n 0, 1) := by decide +kernel
theorem dX8_overTime_53 : decode cX8_overTime 53 = .ok (.iload 7, 2) := by decide +kernel
theorem dX8_overTime_55 : decode cX8_overTime 55 = .ok (.invokevirtual 155, 3) := by decide +kernel
theorem dX8_overTime_58 : decode cX8_overTime 58 = .ok (.istore 8, 2) := by decide +kernel
theorem dX8_overTime_60 : decode cX8_overTime 60 = .ok (.iload 8, 2) := by decide +kernel
theorem dX8_overTime_62 : decode cX8_overTime 62 = .ok (.i2l, 1) := by decide +kernel
theorem dX8_overTime_63 : decode cX8_overTime 63 = .ok (.iload_n 2, 1) := by decide +kernel
theorem dX8_overTime_64 : decode cX8_overTime 64 = .ok (.i2l, 1) := by decide +kernel
theorem dX8_overTime_65 : decode cX8_overTime 65 = .ok (.iload_n 3, 1) := by decide +kernel
theorem dX8_overTime_66 : decode cX8_overTime 66 = .ok (.i2l, 1) := by decide +kernel
theorem dX8_overTime_67 : decode cX8_overTime 67 = .ok (.invokestatic 42, 3) := by decide +kernel
theorem dX8_overTime_70 : decode cX8_overTime 70 = .ok (.ifCond .eq 13, 3) := by decide +kernel
theorem dX8_overTime_73 : decode cX8_overTime 73 = .ok (.aload_n 0, 1) := by decide +kernel
theorem dX8_overTime_74 : decode cX8_overTime 74 = .ok (.iload_n 1, 1) := by decide +kernel
theorem dX8_overTime_75 : decode cX8_overTime 75 = .ok (.iload 8, 2) := by decide +kernel
theorem dX8_overTime_77 : decode cX8_overTime 77 = .ok (.invokevirtual 130, 3) := by decide +kernel
theorem dX8_overTime_80 : decode cX8_overTime 80 = .ok (.goto 4, 3) := by decide +kernel
theorem dX8_overTime_83 : decode cX8_overTime 83 = .ok (.iconst (-1), 1) := by decide +kernel
theorem dX8_overTime_84 : decode cX8_overTime 84 = .ok (.istore 9, 2) := by decide +kernel
theorem dX8_overTime_86 : decode cX8_overTime 86 = .ok (.iload 9, 2) := by decide +kernel
theorem dX8_overTime_88 : decode cX8_overTime 88 = .ok (.iconst (-1), 1) := by decide +kernel
theorem dX8_overTime_89 : decode cX8_overTime 89 = .ok (.if_icmp .ne 7, 3) := by decide +kernel
theorem dX8_overTime_92 : decode cX8_overTime 92 = .ok (.iconst 0, 1) := by decide +kernel
theorem dX8_overTime_93 : decode cX8_overTime 93 = .ok (.goto 10, 3) := by decide +kernel
theorem dX8_overTime_96 : decode cX8_overTime 96 = .ok (.aload_n 0, 1) := by decide +kernel
theorem dX8_overTime_97 : decode cX8_overTime 97 = .ok (.iload 9, 2) := by decide +kernel
theorem dX8_overTime_99 : decode cX8_overTime 99 = .ok (.iload_n 1, 1) := by decide +kernel
theorem dX8_overTime_100 : decode cX8_overTime 100 = .ok (.invokevirtual 117, 3) := by decide +kernel
theorem dX8_overTime_103 : decode cX8_overTime 103 = .ok (.istore 10, 2) := by decide +kernel
theorem dX8_overTime_105 : decode cX8_overTime 105 = .ok (.iload 9, 2) := by decide +kernel
theorem dX8_overTime_107 : decode cX8_overTime 107 = .ok (.iconst (-1), 1) := by decide +kernel
theorem dX8_overTime_108 : decode cX8_overTime 108 = .ok (.if_icmp .eq 37, 3) := by decide +kernel
theorem dX8_overTime_111 : decode cX8_overTime 111 = .ok (.iload 5, 2) := by decide +kernel
theorem dX8_overTime_113 : decode cX8_overTime 113 = .ok (.ifCond .eq 25, 3) := by decide +kernel
theorem dX8_overTime_116 : decode cX8_overTime 116 = .ok (.iload 4, 2) := by decide +kernel
theorem dX8_overTime_118 : decode cX8_overTime 118 = .ok (.ifCond .eq 13, 3) := by decide +kernel
theorem dX8_overTime_121 : decode cX8_overTime 121 = .ok (.iload 10, 2) := by decide +kernel
theorem dX8_overTime_123 : decode cX8_overTime 123 = .ok (.iload 6, 2) := by decide +kernel
theorem dX8_overTime_125 : decode cX8_overTime 125 = .ok (.if_icmp .le 20, 3) := by decide +kernel
theorem dX8_overTime_128 : decode cX8_overTime 128 = .ok (.goto 10, 3) := by decide +kernel
theorem dX8_overTime_131 : decode cX8_overTime 131 = .ok (.iload 10, 2) := by decide +kernel
theorem dX8_overTime_133 : decode cX8_overTime 133 = .ok (.iload 6, 2) := by decide +kernel
theorem dX8_overTime_135 : decode cX8_overTime 135 = .ok (.if_icmp .ge 10, 3) := by decide +kernel
theorem dX8_overTime_138 : decode cX8_overTime 138 = .ok (.iconst 1, 1) := by decide +kernel
theorem dX8_overTime_139 : decode cX8_overTime 139 = .ok (.istore 5, 2) := by decide +kernel
theorem dX8_overTime_141 : decode cX8_overTime 141 = .ok (.iload 10, 2) := by decide +kernel
theorem dX8_overTime_143 : decode cX8_overTime 143 = .ok (.istore 6, 2) := by decide +kernel
theorem dX8_overTime_145 : decode cX8_overTime 145 = .ok (.iinc 7 1, 3) := by decide +kernel
theorem dX8_overTime_148 : decode cX8_overTime 148 = .ok (.goto (-118), 3) := by decide +kernel
theorem dX8_overTime_151 : decode cX8_overTime 151 = .ok (.iload 5, 2) := by decide +kernel
theorem dX8_overTime_153 : decode cX8_overTime 153 = .ok (.ifCond .eq 9, 3) := by decide +kernel
theorem dX8_overTime_156 : decode cX8_overTime 156 = .ok (.iload 6, 2) := by decide +kernel
theorem dX8_overTime_158 : decode cX8_overTime 158 = .ok (.i2l, 1) := by decide +kernel
theorem dX8_overTime_159 : decode cX8_overTime 159 = .ok (.goto 6, 3) := by decide +kernel
theorem dX8_overTime_162 : decode cX8_overTime 162 = .ok (.ldc2_w 133, 3) := by decide +kernel
theorem dX8_overTime_165 : decode cX8_overTime 165 = .ok (.lreturn, 1) := by decide +kernel
set_option maxRecDepth 20000 in
theorem ggX8_eventBehind_X8_event : GoodIn wsX8_eventBehind wsX8_event := goodIn_r _ [6, 7, 8, 9, 5, 10, 1, 11, 12, 13, 14, 15, 16, 17, 18, 19, 20, 21, 22, 23, 24, 25, 26, 27] (by decide +kernel) (by decide +kernel)
set_option maxRecDepth 20000 in
theorem gX8_eventBehind_X8_event : GoodIn wsX8_eventBehind (wsV RX8 155 RX8 yX8_event wsX8_event) := goodIn_app (goodIn_of _ (by decide +kernel)) ggX8_eventBehind_X8_event
theorem dX8_eventBehind_0 : decode cX8_eventBehind 0 = .ok (.sipush 16384, 3) := by decide +kernel
theorem dX8_eventBehind_3 : decode cX8_eventBehind 3 = .ok (.istore_n 2, 1) := by decide +kernel
theorem dX8_eventBehind_4 : decode cX8_eventBehind 4 = .ok (.iconst 0, 1) := by decide +kernel
theorem dX8_eventBehind_5 : decode cX8_eventBehind 5 = .ok (.istore_n 3, 1) := by decide +kernel
theorem dX8_eventBehind_6 : decode cX8_eventBehind 6 = .ok (.iload_n 3, 1) := by decide +kernel
theorem dX8_eventBehind_7 : decode cX8_eventBehind 7 = .ok (.iconst 2, 1) := by decide +kernel
theorem dX8_eventBehind_8 : decode cX8_eventBehind 8 = .ok (.aload_n 0, 1) := by decide +kernel
theorem dX8_eventBehind_9 : decode cX8_eventBehind 9 = .ok (.getfield 7, 3) := by decide +kernel
theorem dX8_eventBehind_12 : decode cX8_eventBehind 12 = .ok (.iconst 0, 1) := by decide +kernel
theorem dX8_eventBehind_13 : decode cX8_eventBehind 13 = .ok (.iaload, 1) := by decide +kernel
theorem dX8_eventBehind_14 : decode cX8_eventBehind 14 = .ok (.imul, 1) := by decide +kernel
theorem dX8_eventBehind_15 : decode cX8_eventBehind 15 = .ok (.if_icmp .ge 37, 3) := by decide +kernel
theorem dX8_eventBehind_18 : decode cX8_eventBehind 18 = .ok (.aload_n 0, 1) := by decide +kernel
theorem dX8_eventBehind_19 : decode cX8_eventBehind 19 = .ok (.iload_n 3, 1) := by decide +kernel
theorem dX8_eventBehind_20 : decode cX8_eventBehind 20 = .ok (.invokevirtual 155, 3) := by decide +kernel
theorem dX8_eventBehind_23 : decode cX8_eventBehind 23 = .ok (.iload_n 1, 1) := by decide +kernel
theorem dX8_eventBehind_24 : decode cX8_eventBehind 24 = .ok (.if_icmp .le 20, 3) := by decide +kernel
theorem dX8_eventBehind_27 : decode cX8_eventBehind 27 = .ok (.aload_n 0, 1) := by decide +kernel
theorem dX8_eventBehind_28 : decode cX8_eventBehind 28 = .ok (.iload_n 3, 1) := by decide +kernel
theorem dX8_eventBehind_29 : decode cX8_eventBehind 29 = .ok (.invokevirtual 155, 3) := by decide +kernel
theorem dX8_eventBehind_32 : decode cX8_eventBehind 32 = .ok (.iload_n 2, 1) := by decide +kernel
theorem dX8_eventBehind_33 : decode cX8_eventBehind 33 = .ok (.if_icmp .ge 11, 3) := by decide +kernel
theorem dX8_eventBehind_36 : decode cX8_eventBehind 36 = .ok (.aload_n 0, 1) := by decide +kernel
theorem dX8_eventBehind_37 : decode cX8_eventBehind 37 = .ok (.iload_n 3, 1) := by decide +kernel
theorem dX8_eventBehind_38 : decode cX8_eventBehind 38 = .ok (.invokevirtual 155, 3) := by decide +kernel
theorem dX8_eventBehind_41 : decode cX8_eventBehind 41 = .ok (.goto 4, 3) := by decide +kernel
theorem dX8_eventBehind_44 : decode cX8_eventBehind 44 = .ok (.iload_n 2, 1) := by decide +kernel
theorem dX8_eventBehind_45 : decode cX8_eventBehind 45 = .ok (.istore_n 2, 1) := by decide +kernel
theorem dX8_eventBehind_46 : decode cX8_eventBehind 46 = .ok (.iinc 3 1, 3) := by decide +kernel
theorem dX8_eventBehind_49 : decode cX8_eventBehind 49 = .ok (.goto (-43), 3) := by decide +kernel
theorem dX8_eventBehind_52 : decode cX8_eventBehind 52 = .ok (.iload_n 2, 1) := by decide +kernel
theorem dX8_eventBehind_53 : decode cX8_eventBehind 53 = .ok (.ireturn, 1) := by decide +kernel
set_option maxRecDepth 20000 in
theorem ggX8_leads_X8_isSegment : GoodIn wsX8_leads wsX8_isSegment := goodIn_r _ [6, 7, 8, 9, 5, 10, 54, 55, 56, 57, 58, 59, 60, 61, 62, 63, 64, 65, 66, 67] (by decide +kernel) (by decide +kernel)
set_option maxRecDepth 20000 in
theorem gX8_leads_X8_isSegment : GoodIn wsX8_leads (wsV RX8 94 RX8 yX8_isSegment wsX8_isSegment) := goodIn_app (goodIn_of _ (by decide +kernel)) ggX8_leads_X8_isSegment
set_option maxRecDepth 20000 in
theorem ggX8_leads_X8_fails : GoodIn wsX8_leads wsX8_fails := goodIn_r _ [14, 1, 54, 55, 56, 57, 58, 59, 60, 61, 62, 63, 64, 65, 66, 67] (by decide +kernel) (by decide +kernel)
set_option maxRecDepth 20000 in
theorem gX8_leads_X8_fails : GoodIn wsX8_leads (wsV RX8 90 RX8 yX8_fails wsX8_fails) := goodIn_app (goodIn_of _ (by decide +kernel)) ggX8_leads_X8_fails
set_option maxRecDepth 20000 in
theorem ggX8_leads_X8_isPosition : GoodIn wsX8_leads wsX8_isPosition := goodIn_r _ [17, 18, 8, 9, 5, 10] (by decide +kernel) (by decide +kernel)
set_option maxRecDepth 20000 in
theorem gX8_leads_X8_isPosition : GoodIn wsX8_leads (va_wsS RX8 65 yX8_isPosition wsX8_isPosition) := goodIn_app (goodIn_of _ (by decide +kernel)) ggX8_leads_X8_isPosition
set_option maxRecDepth 20000 in
theorem ggX8_leads_X8_of : GoodIn wsX8_leads wsX8_of := goodIn_r _ [22, 7, 23, 24, 5, 25, 54, 55, 56, 57, 58, 59, 60, 61, 62, 63, 64, 65, 66, 67] (by decide +kernel) (by decide +kernel)
set_option maxRecDepth 20000 in
theorem gX8_leads_X8_of : GoodIn wsX8_leads (wsV RX8 58 RX8 yX8_of wsX8_of) := goodIn_app (goodIn_of _ (by decide +kernel)) ggX8_leads_X8_of
set_option maxRecDepth 20000 in
theorem ggX8_leads_X8_eventBehind : GoodIn wsX8_leads wsX8_eventBehind := goodIn_r _ [29, 7, 30, 31, 32, 5, 33, 19, 20, 21, 22, 23, 24, 25, 54, 55, 56, 57, 58, 59, 60, 61, 62, 63, 64, 65, 66, 67] (by decide +kernel) (by decide +kernel)
set_option maxRecDepth 20000 in
theorem gX8_leads_X8_eventBehind : GoodIn wsX8_leads (wsV RX8 167 RX8 yX8_eventBehind wsX8_eventBehind) := goodIn_app (goodIn_of _ (by decide +kernel)) ggX8_leads_X8_eventBehind
set_option maxRecDepth 20000 in
theorem ggX8_leads_X8_firstAt : GoodIn wsX8_leads wsX8_firstAt := goodIn_r _ [37, 7, 38, 39, 40, 5, 41, 42, 43, 44, 45, 19, 20, 21, 22, 23, 24, 25, 8, 9, 10, 46, 47, 48, 49, 50, 51, 52, 53, 54, 55, 56, 57, 58, 59, 60, 61, 62, 63, 64, 65, 66, 67] (by decide +kernel) (by decide +kernel)
set_option maxRecDepth 20000 in
theorem gX8_leads_X8_firstAt : GoodIn wsX8_leads (wsV RX8 130 RX8 yX8_firstAt wsX8_firstAt) := goodIn_app (goodIn_of _ (by decide +kernel)) ggX8_leads_X8_firstAt
theorem dX8_leads_0 : decode cX8_leads 0 = .ok (.aload_n 0, 1) := by decide +kernel
theorem dX8_leads_1 : decode cX8_leads 1 = .ok (.iconst 0, 1) := by decide +kernel
theorem dX8_leads_2 : decode cX8_leads 2 = .ok (.putfield 31, 3) := by decide +kernel
theorem dX8_leads_5 : decode cX8_leads 5 = .ok (.aload_n 0, 1) := by decide +kernel
theorem dX8_leads_6 : decode cX8_leads 6 = .ok (.iload_n 1, 1) := by decide +kernel
theorem dX8_leads_7 : decode cX8_leads 7 = .ok (.invokevirtual 94, 3) := by decide +kernel
theorem dX8_leads_10 : decode cX8_leads 10 = .ok (.ifCond .ne 9, 3) := by decide +kernel
theorem dX8_leads_13 : decode cX8_leads 13 = .ok (.aload_n 0, 1) := by decide +kernel
theorem dX8_leads_14 : decode cX8_leads 14 = .ok (.iconst 1, 1) := by decide +kernel
theorem dX8_leads_15 : decode cX8_leads 15 = .ok (.invokevirtual 90, 3) := by decide +kernel
theorem dX8_leads_18 : decode cX8_leads 18 = .ok (.ireturn, 1) := by decide +kernel
theorem dX8_leads_19 : decode cX8_leads 19 = .ok (.iload_n 2, 1) := by decide +kernel
theorem dX8_leads_20 : decode cX8_leads 20 = .ok (.invokestatic 65, 3) := by decide +kernel
theorem dX8_leads_23 : decode cX8_leads 23 = .ok (.ifCond .ne 9, 3) := by decide +kernel
theorem dX8_leads_26 : decode cX8_leads 26 = .ok (.aload_n 0, 1) := by decide +kernel
theorem dX8_leads_27 : decode cX8_leads 27 = .ok (.iconst 2, 1) := by decide +kernel
theorem dX8_leads_28 : decode cX8_leads 28 = .ok (.invokevirtual 90, 3) := by decide +kernel
theorem dX8_leads_31 : decode cX8_leads 31 = .ok (.ireturn, 1) := by decide +kernel
theorem dX8_leads_32 : decode cX8_leads 32 = .ok (.iconst 0, 1) := by decide +kernel
theorem dX8_leads_33 : decode cX8_leads 33 = .ok (.istore_n 3, 1) := by decide +kernel
theorem dX8_leads_34 : decode cX8_leads 34 = .ok (.aload_n 0, 1) := by decide +kernel
theorem dX8_leads_35 : decode cX8_leads 35 = .ok (.iload_n 1, 1) := by decide +kernel
theorem dX8_leads_36 : decode cX8_leads 36 = .ok (.iconst 4, 1) := by decide +kernel
theorem dX8_leads_37 : decode cX8_leads 37 = .ok (.invokevirtual 58, 3) := by decide +kernel
theorem dX8_leads_40 : decode cX8_leads 40 = .ok (.istore 4, 2) := by decide +kernel
theorem dX8_leads_42 : decode cX8_leads 42 = .ok (.iload 4, 2) := by decide +kernel
theorem dX8_leads_44 : decode cX8_leads 44 = .ok (.aload_n 0, 1) := by decide +kernel
theorem dX8_leads_45 : decode cX8_leads 45 = .ok (.iload_n 1, 1) := by decide +kernel
theorem dX8_leads_46 : decode cX8_leads 46 = .ok (.iconst 5, 1) := by decide +kernel
theorem dX8_leads_47 : decode cX8_leads 47 = .ok (.invokevirtual 58, 3) := by decide +kernel
theorem dX8_leads_50 : decode cX8_leads 50 = .ok (.if_icmp .ge 41, 3) := by decide +kernel
theorem dX8_leads_53 : decode cX8_leads 53 = .ok (.aload_n 0, 1) := by decide +kernel
theorem dX8_leads_54 : decode cX8_leads 54 = .ok (.iload 4, 2) := by decide +kernel
theorem dX8_leads_56 : decode cX8_leads 56 = .ok (.invokevirtual 167, 3) := by decide +kernel
theorem dX8_leads_59 : decode cX8_leads 59 = .ok (.istore 5, 2) := by decide +kernel
theorem dX8_leads_61 : decode cX8_leads 61 = .ok (.iload_n 3, 1) := by decide +kernel
theorem dX8_leads_62 : decode cX8_leads 62 = .ok (.aload_n 0, 1) := by decide +kernel
theorem dX8_leads_63 : decode cX8_leads 63 = .ok (.iload_n 2, 1) := by decide +kernel
theorem dX8_leads_64 : decode cX8_leads 64 = .ok (.iload 4, 2) := by decide +kernel
theorem dX8_leads_66 : decode cX8_leads 66 = .ok (.invokevirtual 130, 3) := by decide +kernel
theorem dX8_leads_69 : decode cX8_leads 69 = .ok (.iload_n 1, 1) := by decide +kernel
theorem dX8_leads_70 : decode cX8_leads 70 = .ok (.if_icmp .ne 11, 3) := by decide +kernel
theorem dX8_leads_73 : decode cX8_leads 73 = .ok (.iload 5, 2) := by decide +kernel
theorem dX8_leads_75 : decode cX8_leads 75 = .ok (.iload 4, 2) := by decide +kernel
theorem dX8_leads_77 : decode cX8_leads 77 = .ok (.isub, 1) := by decide +kernel
theorem dX8_leads_78 : decode cX8_leads 78 = .ok (.goto 4, 3) := by decide +kernel
theorem dX8_leads_81 : decode cX8_leads 81 = .ok (.iconst 0, 1) := by decide +kernel
theorem dX8_leads_82 : decode cX8_leads 82 = .ok (.iadd, 1) := by decide +kernel
theorem dX8_leads_83 : decode cX8_leads 83 = .ok (.istore_n 3, 1) := by decide +kernel
theorem dX8_leads_84 : decode cX8_leads 84 = .ok (.iload 5, 2) := by decide +kernel
theorem dX8_leads_86 : decode cX8_leads 86 = .ok (.istore 4, 2) := by decide +kernel
theorem dX8_leads_88 : decode cX8_leads 88 = .ok (.goto (-46), 3) := by decide +kernel
theorem dX8_leads_91 : decode cX8_leads 91 = .ok (.iload_n 3, 1) := by decide +kernel
theorem dX8_leads_92 : decode cX8_leads 92 = .ok (.ireturn, 1) := by decide +kernel
theorem dX8_lengthAt_0 : decode cX8_lengthAt 0 = .ok (.iconst 1, 1) := by decide +kernel
theorem dX8_lengthAt_1 : decode cX8_lengthAt 1 = .ok (.istore_n 2, 1) := by decide +kernel
theorem dX8_lengthAt_2 : decode cX8_lengthAt 2 = .ok (.iload_n 0, 1) := by decide +kernel
theorem dX8_lengthAt_3 : decode cX8_lengthAt 3 = .ok (.iconst 2, 1) := by decide +kernel
theorem dX8_lengthAt_4 : decode cX8_lengthAt 4 = .ok (.iload_n 2, 1) := by decide +kernel
theorem dX8_lengthAt_5 : decode cX8_lengthAt 5 = .ok (.imul, 1) := by decide +kernel
theorem dX8_lengthAt_6 : decode cX8_lengthAt 6 = .ok (.irem, 1) := by decide +kernel
theorem dX8_lengthAt_7 : decode cX8_lengthAt 7 = .ok (.ifCond .ne 19, 3) := by decide +kernel
theorem dX8_lengthAt_10 : decode cX8_lengthAt 10 = .ok (.iload_n 0, 1) := by decide +kernel
theorem dX8_lengthAt_11 : decode cX8_lengthAt 11 = .ok (.iconst 2, 1) := by decide +kernel
theorem dX8_lengthAt_12 : decode cX8_lengthAt 12 = .ok (.iload_n 2, 1) := by decide +kernel
theorem dX8_lengthAt_13 : decode cX8_lengthAt 13 = .ok (.imul, 1) := by decide +kernel
theorem dX8_lengthAt_14 : decode cX8_lengthAt 14 = .ok (.iadd, 1) := by decide +kernel
theorem dX8_lengthAt_15 : decode cX8_lengthAt 15 = .ok (.iload_n 1, 1) := by decide +kernel
theorem dX8_lengthAt_16 : decode cX8_lengthAt 16 = .ok (.if_icmp .gt 10, 3) := by decide +kernel
theorem dX8_lengthAt_19 : decode cX8_lengthAt 19 = .ok (.iload_n 2, 1) := by decide +kernel
theorem dX8_lengthAt_20 : decode cX8_lengthAt 20 = .ok (.iconst 2, 1) := by decide +kernel
theorem dX8_lengthAt_21 : decode cX8_lengthAt 21 = .ok (.imul, 1) := by decide +kernel
theorem dX8_lengthAt_22 : decode cX8_lengthAt 22 = .ok (.istore_n 2, 1) := by decide +kernel
theorem dX8_lengthAt_23 : decode cX8_lengthAt 23 = .ok (.goto (-21), 3) := by decide +kernel
theorem dX8_lengthAt_26 : decode cX8_lengthAt 26 = .ok (.iload_n 2, 1) := by decide +kernel
theorem dX8_lengthAt_27 : decode cX8_lengthAt 27 = .ok (.ireturn, 1) := by decide +kernel
set_option maxRecDepth 20000 in
theorem ggX8_intervalCount_X8_of : GoodIn wsX8_intervalCount wsX8_of := goodIn_r _ [5, 6, 7, 8, 4, 9, 13, 14, 15, 16, 17, 18, 19, 20, 21, 22, 23, 24, 25, 26] (by decide +kernel) (by decide +kernel)
set_option maxRecDepth 20000 in
theorem gX8_intervalCount_X8_of : GoodIn wsX8_intervalCount (wsV RX8 58 RX8 yX8_of wsX8_of) := goodIn_app (goodIn_of _ (by decide +kernel)) ggX8_intervalCount_X8_of
set_option maxRecDepth 20000 in
theorem ggX8_intervalCount_X8_lengthAt : GoodIn wsX8_intervalCount wsX8_lengthAt := goodIn_r _ [12] (by decide +kernel) (by decide +kernel)
set_option maxRecDepth 20000 in
theorem gX8_intervalCount_X8_lengthAt : GoodIn wsX8_intervalCount (va_wsS RX8 170 yX8_lengthAt wsX8_lengthAt) := goodIn_app (goodIn_of _ (by decide +kernel)) ggX8_intervalCount_X8_lengthAt
theorem dX8_intervalCount_0 : decode cX8_intervalCount 0 = .ok (.iconst 0, 1) := by decide +kernel
theorem dX8_intervalCount_1 : decode cX8_intervalCount 1 = .ok (.istore_n 2, 1) := by decide +kernel
theorem dX8_intervalCount_2 : decode cX8_intervalCount 2 = .ok (.aload_n 0, 1) := by decide +kernel
theorem dX8_intervalCount_3 : decode cX8_intervalCount 3 = .ok (.iload_n 1, 1) := by decide +kernel
theorem dX8_intervalCount_4 : decode cX8_intervalCount 4 = .ok (.iconst 4, 1) := by decide +kernel
theorem dX8_intervalCount_5 : decode cX8_intervalCount 5 = .ok (.invokevirtual 58, 3) := by decide +kernel
theorem dX8_intervalCount_8 : decode cX8_intervalCount 8 = .ok (.istore_n 3, 1) := by decide +kernel
theorem dX8_intervalCount_9 : decode cX8_intervalCount 9 = .ok (.iload_n 3, 1) := by decide +kernel
theorem dX8_intervalCount_10 : decode cX8_intervalCount 10 = .ok (.aload_n 0, 1) := by decide +kernel
theorem dX8_intervalCount_11 : decode cX8_intervalCount 11 = .ok (.iload_n 1, 1) := by decide +kernel
theorem dX8_intervalCount_12 : decode cX8_intervalCount 12 = .ok (.iconst 5, 1) := by decide +kernel
theorem dX8_intervalCount_13 : decode cX8_intervalCount 13 = .ok (.invokevirtual 58, 3) := by decide +kernel
theorem dX8_intervalCount_16 : decode cX8_intervalCount 16 = .ok (.if_icmp .ge 22, 3) := by decide +kernel
theorem dX8_intervalCount_19 : decode cX8_intervalCount 19 = .ok (.iload_n 3, 1) := by decide +kernel
theorem dX8_intervalCount_20 : decode cX8_intervalCount 20 = .ok (.iload_n 3, 1) := by decide +kernel
theorem dX8_intervalCount_21 : decode cX8_intervalCount 21 = .ok (.aload_n 0, 1) := by decide +kernel
theorem dX8_intervalCount_22 : decode cX8_intervalCount 22 = .ok (.iload_n 1, 1) := by decide +kernel
theorem dX8_intervalCount_23 : decode cX8_intervalCount 23 = .ok (.iconst 5, 1) := by decide +kernel
theorem dX8_intervalCount_24 : decode cX8_intervalCount 24 = .ok (.invokevirtual 58, 3) := by decide +kernel
theorem dX8_intervalCount_27 : decode cX8_intervalCount 27 = .ok (.invokestatic 170, 3) := by decide +kernel
theorem dX8_intervalCount_30 : decode cX8_intervalCount 30 = .ok (.iadd, 1) := by decide +kernel
theorem dX8_intervalCount_31 : decode cX8_intervalCount 31 = .ok (.istore_n 3, 1) := by decide +kernel
theorem dX8_intervalCount_32 : decode cX8_intervalCount 32 = .ok (.iinc 2 1, 3) := by decide +kernel
theorem dX8_intervalCount_35 : decode cX8_intervalCount 35 = .ok (.goto (-26), 3) := by decide +kernel
theorem dX8_intervalCount_38 : decode cX8_intervalCount 38 = .ok (.iload_n 2, 1) := by decide +kernel
theorem dX8_intervalCount_39 : decode cX8_intervalCount 39 = .ok (.ireturn, 1) := by decide +kernel
set_option maxRecDepth 20000 in
theorem ggX8_intervals_X8_isSegment : GoodIn wsX8_intervals wsX8_isSegment := goodIn_r _ [6, 7, 8, 9, 5, 10, 29, 30, 31, 32, 33, 34, 35, 36, 37, 38, 39, 40, 41, 42] (by decide +kernel) (by decide +kernel)
set_option maxRecDepth 20000 in
theorem gX8_intervals_X8_isSegment : GoodIn wsX8_intervals (wsV RX8 94 RX8 yX8_isSegment wsX8_isSegment) := goodIn_app (goodIn_of _ (by decide +kernel)) ggX8_intervals_X8_isSegment
set_option maxRecDepth 20000 in
theorem ggX8_intervals_X8_intervalCount : GoodIn wsX8_intervals wsX8_intervalCount := goodIn_r _ [14, 15, 16, 17, 5, 18, 7, 19, 20, 21, 22, 23, 24, 29, 30, 31, 32, 33, 34, 35, 36, 37, 38, 39, 40, 41, 42] (by decide +kernel) (by decide +kernel)
set_option maxRecDepth 20000 in
theorem gX8_intervals_X8_intervalCount : GoodIn wsX8_intervals (wsV RX8 173 RX8 yX8_intervalCount wsX8_intervalCount) := goodIn_app (goodIn_of _ (by decide +kernel)) ggX8_intervals_X8_intervalCount
set_option maxRecDepth 20000 in
theorem ggX8_intervals_X8_fails : GoodIn wsX8_intervals wsX8_fails := goodIn_r _ [28, 1, 29, 30, 31, 32, 33, 34, 35, 36, 37, 38, 39, 40, 41, 42] (by decide +kernel) (by decide +kernel)
set_option maxRecDepth 20000 in
theorem gX8_intervals_X8_fails : GoodIn wsX8_intervals (wsV RX8 90 RX8 yX8_fails wsX8_fails) := goodIn_app (goodIn_of _ (by decide +kernel)) ggX8_intervals_X8_fails
theorem dX8_intervals_0 : decode cX8_intervals 0 = .ok (.aload_n 0, 1) := by decide +kernel
theorem dX8_intervals_1 : decode cX8_intervals 1 = .ok (.iconst 0, 1) := by decide +kernel
theorem dX8_intervals_2 : decode cX8_intervals 2 = .ok (.putfield 31, 3) := by decide +kernel
theorem dX8_intervals_5 : decode cX8_intervals 5 = .ok (.aload_n 0, 1) := by decide +kernel
theorem dX8_intervals_6 : decode cX8_intervals 6 = .ok (.iload_n 1, 1) := by decide +kernel
theorem dX8_intervals_7 : decode cX8_intervals 7 = .ok (.invokevirtual 94, 3) := by decide +kernel
theorem dX8_intervals_10 : decode cX8_intervals 10 = .ok (.ifCond .eq 11, 3) := by decide +kernel
theorem dX8_intervals_13 : decode cX8_intervals 13 = .ok (.aload_n 0, 1) := by decide +kernel
theorem dX8_intervals_14 : decode cX8_intervals 14 = .ok (.iload_n 1, 1) := by decide +kernel
theorem dX8_intervals_15 : decode cX8_intervals 15 = .ok (.invokevirtual 173, 3) := by decide +kernel
theorem dX8_intervals_18 : decode cX8_intervals 18 = .ok (.goto 8, 3) := by decide +kernel
theorem dX8_intervals_21 : decode cX8_intervals 21 = .ok (.aload_n 0, 1) := by decide +kernel
theorem dX8_intervals_22 : decode cX8_intervals 22 = .ok (.iconst 1, 1) := by decide +kernel
theorem dX8_intervals_23 : decode cX8_intervals 23 = .ok (.invokevirtual 90, 3) := by decide +kernel
theorem dX8_intervals_26 : decode cX8_intervals 26 = .ok (.ireturn, 1) := by decide +kernel
set_option maxRecDepth 20000 in
theorem ggX8_interval_X8_isSegment : GoodIn wsX8_interval wsX8_isSegment := goodIn_r _ [6, 7, 8, 9, 5, 10, 29, 30, 31, 32, 33, 34, 35, 36, 37, 38, 39, 40, 41, 42] (by decide +kernel) (by decide +kernel)
set_option maxRecDepth 20000 in
theorem gX8_interval_X8_isSegment : GoodIn wsX8_interval (wsV RX8 94 RX8 yX8_isSegment wsX8_isSegment) := goodIn_app (goodIn_of _ (by decide +kernel)) ggX8_interval_X8_isSegment
set_option maxRecDepth 20000 in
theorem ggX8_interval_X8_intervalCount : GoodIn wsX8_interval wsX8_intervalCount := goodIn_r _ [14, 15, 16, 17, 5, 18, 7, 19, 20, 21, 22, 23, 24, 29, 30, 31, 32, 33, 34, 35, 36, 37, 38, 39, 40, 41, 42] (by decide +kernel) (by decide +kernel)
set_option maxRecDepth 20000 in
theorem gX8_interval_X8_intervalCount : GoodIn wsX8_interval (wsV RX8 173 RX8 yX8_intervalCount wsX8_intervalCount) := goodIn_app (goodIn_of _ (by decide +kernel)) ggX8_interval_X8_intervalCount
set_option maxRecDepth 20000 in
theorem ggX8_interval_X8_in : GoodIn wsX8_interval wsX8_in := goodIn_r _ [10] (by decide +kernel) (by decide +kernel)
set_option maxRecDepth 20000 in
theorem gX8_interval_X8_in : GoodIn wsX8_interval (va_wsS RX8 42 yX8_in wsX8_in) := goodIn_app (goodIn_of _ (by decide +kernel)) ggX8_interval_X8_in
set_option maxRecDepth 20000 in
theorem ggX8_interval_X8_fails : GoodIn wsX8_interval wsX8_fails := goodIn_r _ [28, 1, 29, 30, 31, 32, 33, 34, 35, 36, 37, 38, 39, 40, 41, 42] (by decide +kernel) (by decide +kernel)
set_option maxRecDepth 20000 in
theorem gX8_interval_X8_fails : GoodIn wsX8_interval (wsV RX8 90 RX8 yX8_fails wsX8_fails) := goodIn_app (goodIn_of _ (by decide +kernel)) ggX8_interval_X8_fails
set_option maxRecDepth 20000 in
theorem ggX8_interval_X8_of : GoodIn wsX8_interval wsX8_of := goodIn_r _ [18, 7, 19, 20, 5, 21, 29, 30, 31, 32, 33, 34, 35, 36, 37, 38, 39, 40, 41, 42] (by decide +kernel) (by decide +kernel)
set_option maxRecDepth 20000 in
theorem gX8_interval_X8_of : GoodIn wsX8_interval (wsV RX8 58 RX8 yX8_of wsX8_of) := goodIn_app (goodIn_of _ (by decide +kernel)) ggX8_interval_X8_of
set_option maxRecDepth 20000 in
theorem ggX8_interval_X8_lengthAt : GoodIn wsX8_interval wsX8_lengthAt := goodIn_r _ [24] (by decide +kernel) (by decide +kernel)
set_option maxRecDepth 20000 in
theorem gX8_interval_X8_lengthAt : GoodIn wsX8_interval (va_wsS RX8 170 yX8_lengthAt wsX8_lengthAt) := goodIn_app (goodIn_of _ (by decide +kernel)) ggX8_interval_X8_lengthAt
theorem dX8_interval_0 : decode cX8_interval 0 = .ok (.aload_n 0, 1) := by decide +kernel
theorem dX8_interval_1 : decode cX8_interval 1 = .ok (.iconst 0, 1) := by decide +kernel
theorem dX8_interval_2 : decode cX8_interval 2 = .ok (.putfield 31, 3) := by decide +kernel
theorem dX8_interval_5 : decode cX8_interval 5 = .ok (.aload_n 0, 1) := by decide +kernel
theorem dX8_interval_6 : decode cX8_interval 6 = .ok (.iload_n 1, 1) := by decide +kernel
theorem dX8_interval_7 : decode cX8_interval 7 = .ok (.invokevirtual 94, 3) := by decide +kernel
theorem dX8_interval_10 : decode cX8_interval 10 = .ok (.ifCond .eq 20, 3) := by decide +kernel
theorem dX8_interval_13 : decode cX8_interval 13 = .ok (.iload_n 2, 1) := by decide +kernel
theorem dX8_interval_14 : decode cX8_interval 14 = .ok (.i2l, 1) := by decide +kernel
theorem dX8_interval_15 : decode cX8_interval 15 = .ok (.lconst 0, 1) := by decide +kernel
theorem dX8_interval_16 : decode cX8_interval 16 = .ok (.aload_n 0, 1) := by decide +kernel
theorem dX8_interval_17 : decode cX8_interval 17 = .ok (.iload_n 1, 1) := by decide +kernel
theorem dX8_interval_18 : decode cX8_interval 18 = .ok (.invokevirtual 173, 3) := by decide +kernel
theorem dX8_interval_21 : decode cX8_interval 21 = .ok (.iconst 1, 1) := by decide +kernel
theorem dX8_interval_22 : decode cX8_interval 22 = .ok (.isub, 1) := by decide +kernel
theorem dX8_interval_23 : decode cX8_interval 23 = .ok (.i2l, 1) := by decide +kernel
theorem dX8_interval_24 : decode cX8_interval 24 = .ok (.invokestatic 42, 3) := by decide +kernel
theorem dX8_interval_27 : decode cX8_interval 27 = .ok (.ifCond .ne 9, 3) := by decide +kernel
theorem dX8_interval_30 : decode cX8_interval 30 = .ok (.aload_n 0, 1) := by decide +kernel
theorem dX8_interval_31 : decode cX8_interval 31 = .ok (.iconst 1, 1) := by decide +kernel
theorem dX8_interval_32 : decode cX8_interval 32 = .ok (.invokevirtual 90, 3) := by decide +kernel
theorem dX8_interval_35 : decode cX8_interval 35 = .ok (.ireturn, 1) := by decide +kernel
theorem dX8_interval_36 : decode cX8_interval 36 = .ok (.aload_n 0, 1) := by decide +kernel
theorem dX8_interval_37 : decode cX8_interval 37 = .ok (.iload_n 1, 1) := by decide +kernel
theorem dX8_interval_38 : decode cX8_interval 38 = .ok (.iconst 4, 1) := by decide +kernel
theorem dX8_interval_39 : decode cX8_interval 39 = .ok (.invokevirtual 58, 3) := by decide +kernel
theorem dX8_interval_42 : decode cX8_interval 42 = .ok (.istore 4, 2) := by decide +kernel
theorem dX8_interval_44 : decode cX8_interval 44 = .ok (.iload 4, 2) := by decide +kernel
theorem dX8_interval_46 : decode cX8_interval 46 = .ok (.aload_n 0, 1) := by decide +kernel
theorem dX8_interval_47 : decode cX8_interval 47 = .ok (.iload_n 1, 1) := by decide +kernel
theorem dX8_interval_48 : decode cX8_interval 48 = .ok (.iconst 5, 1) := by decide +kernel
theorem dX8_interval_49 : decode cX8_interval 49 = .ok (.invokevirtual 58, 3) := by decide +kernel
theorem dX8_interval_52 : decode cX8_interval 52 = .ok (.invokestatic 170, 3) := by decide +kernel
theorem dX8_interval_55 : decode cX8_interval 55 = .ok (.istore 5, 2) := by decide +kernel
theorem dX8_interval_57 : decode cX8_interval 57 = .ok (.iconst 0, 1) := by decide +kernel
theorem dX8_interval_58 : decode cX8_interval 58 = .ok (.istore 6, 2) := by decide +kernel
theorem dX8_interval_60 : decode cX8_interval 60 = .ok (.iload 6, 2) := by decide +kernel
theorem dX8_interval_62 : decode cX8_interval 62 = .ok (.iload_n 2, 1) := by decide +kernel
theorem dX8_interval_63 : decode cX8_interval 63 = .ok (.if_icmp .ge 29, 3) := by decide +kernel
theorem dX8_interval_66 : decode cX8_interval 66 = .ok (.iload 4, 2) := by decide +kernel
theorem dX8_interval_68 : decode cX8_interval 68 = .ok (.iload 5, 2) := by decide +kernel
theorem dX8_interval_70 : decode cX8_interval 70 = .ok (.iadd, 1) := by decide +kernel
theorem dX8_interval_71 : decode cX8_interval 71 = .ok (.istore 4, 2) := by decide +kernel
theorem dX8_interval_73 : decode cX8_interval 73 = .ok (.iload 4, 2) := by decide +kernel
theorem dX8_interval_75 : decode cX8_interval 75 = .ok (.aload_n 0, 1) := by decide +kernel
theorem dX8_interval_76 : decode cX8_interval 76 = .ok (.iload_n 1, 1) := by decide +kernel
theorem dX8_interval_77 : decode cX8_interval 77 = .ok (.iconst 5, 1) := by decide +kernel
theorem dX8_interval_78 : decode cX8_interval 78 = .ok (.invokevirtual 58, 3) := by decide +kernel
theorem dX8_interval_81 : decode cX8_interval 81 = .ok (.invokestatic 170, 3) := by decide +kernel
theorem dX8_interval_84 : decode cX8_interval 84 = .ok (.istore 5, 2) := by decide +kernel
theorem dX8_interval_86 : decode cX8_interval 86 = .ok (.iinc 6 1, 3) := by decide +kernel
theorem dX8_interval_89 : decode cX8_interval 89 = .ok (.goto (-29), 3) := by decide +kernel
theorem dX8_interval_92 : decode cX8_interval 92 = .ok (.iload_n 3, 1) := by decide +kernel
theorem dX8_interval_93 : decode cX8_interval 93 = .ok (.ifCond .eq 8, 3) := by decide +kernel
theorem dX8_interval_96 : decode cX8_interval 96 = .ok (.iload 5, 2) := by decide +kernel
theorem dX8_interval_98 : decode cX8_interval 98 = .ok (.goto 5, 3) := by decide +kernel
theorem dX8_interval_101 : decode cX8_interval 101 = .ok (.iload 4, 2) := by decide +kernel
theorem dX8_interval_103 : decode cX8_interval 103 = .ok (.ireturn, 1) := by decide +kernel
set_option maxRecDepth 20000 in
theorem ggX8_isHolder_X8_of : GoodIn wsX8_isHolder wsX8_of := goodIn_r _ [5, 6, 7, 8, 4, 9, 13, 14, 15, 16, 17, 18, 19, 20, 21, 22, 23, 24, 25, 26] (by decide +kernel) (by decide +kernel)
set_option maxRecDepth 20000 in
theorem gX8_isHolder_X8_of : GoodIn wsX8_isHolder (wsV RX8 58 RX8 yX8_of wsX8_of) := goodIn_app (goodIn_of _ (by decide +kernel)) ggX8_isHolder_X8_of
set_option maxRecDepth 20000 in
theorem ggX8_isHolder_X8_lengthAt : GoodIn wsX8_isHolder wsX8_lengthAt := goodIn_r _ [12] (by decide +kernel) (by decide +kernel)
set_option maxRecDepth 20000 in
theorem gX8_isHolder_X8_lengthAt : GoodIn wsX8_isHolder (va_wsS RX8 170 yX8_lengthAt wsX8_lengthAt) := goodIn_app (goodIn_of _ (by decide +kernel)) ggX8_isHolder_X8_lengthAt
theorem dX8_isHolder_0 : decode cX8_isHolder 0 = .ok (.aload_n 0, 1) := by decide +kernel
theorem dX8_isHolder_1 : decode cX8_isHolder 1 = .ok (.iload_n 1, 1) := by decide +kernel
theorem dX8_isHolder_2 : decode cX8_isHolder 2 = .ok (.iconst 4, 1) := by decide +kernel
theorem dX8_isHolder_3 : decode cX8_isHolder 3 = .ok (.invokevirtual 58, 3) := by decide +kernel
theorem dX8_isHolder_6 : decode cX8_isHolder 6 = .ok (.istore 4, 2) := by decide +kernel
theorem dX8_isHolder_8 : decode cX8_isHolder 8 = .ok (.iload 4, 2) := by decide +kernel
theorem dX8_isHolder_10 : decode cX8_isHolder 10 = .ok (.aload_n 0, 1) := by decide +kernel
theorem dX8_isHolder_11 : decode cX8_isHolder 11 = .ok (.iload_n 1, 1) := by decide +kernel
theorem dX8_isHolder_12 : decode cX8_isHolder 12 = .ok (.iconst 5, 1) := by decide +kernel
theorem dX8_isHolder_13 : decode cX8_isHolder 13 = .ok (.invokevirtual 58, 3) := by decide +kernel
theorem dX8_isHolder_16 : decode cX8_isHolder 16 = .ok (.if_icmp .ge 28, 3) := by decide +kernel
theorem dX8_isHolder_19 : decode cX8_isHolder 19 = .ok (.iload 4, 2) := by decide +kernel
theorem dX8_isHolder_21 : decode cX8_isHolder 21 = .ok (.iload_n 2, 1) := by decide +kernel
theorem dX8_isHolder_22 : decode cX8_isHolder 22 = .ok (.if_icmp .ge 22, 3) := by decide +kernel
theorem dX8_isHolder_25 : decode cX8_isHolder 25 = .ok (.iload 4, 2) := by decide +kernel
theorem dX8_isHolder_27 : decode cX8_isHolder 27 = .ok (.iload 4, 2) := by decide +kernel
theorem dX8_isHolder_29 : decode cX8_isHolder 29 = .ok (.aload_n 0, 1) := by decide +kernel
theorem dX8_isHolder_30 : decode cX8_isHolder 30 = .ok (.iload_n 1, 1) := by decide +kernel
theorem dX8_isHolder_31 : decode cX8_isHolder 31 = .ok (.iconst 5, 1) := by decide +kernel
theorem dX8_isHolder_32 : decode cX8_isHolder 32 = .ok (.invokevirtual 58, 3) := by decide +kernel
theorem dX8_isHolder_35 : decode cX8_isHolder 35 = .ok (.invokestatic 170, 3) := by decide +kernel
theorem dX8_isHolder_38 : decode cX8_isHolder 38 = .ok (.iadd, 1) := by decide +kernel
theorem dX8_isHolder_39 : decode cX8_isHolder 39 = .ok (.istore 4, 2) := by decide +kernel
theorem dX8_isHolder_41 : decode cX8_isHolder 41 = .ok (.goto (-33), 3) := by decide +kernel
theorem dX8_isHolder_44 : decode cX8_isHolder 44 = .ok (.iload 4, 2) := by decide +kernel
theorem dX8_isHolder_46 : decode cX8_isHolder 46 = .ok (.aload_n 0, 1) := by decide +kernel
theorem dX8_isHolder_47 : decode cX8_isHolder 47 = .ok (.iload_n 1, 1) := by decide +kernel
theorem dX8_isHolder_48 : decode cX8_isHolder 48 = .ok (.iconst 5, 1) := by decide +kernel
theorem dX8_isHolder_49 : decode cX8_isHolder 49 = .ok (.invokevirtual 58, 3) := by decide +kernel
theorem dX8_isHolder_52 : decode cX8_isHolder 52 = .ok (.if_icmp .ge 28, 3) := by decide +kernel
theorem dX8_isHolder_55 : decode cX8_isHolder 55 = .ok (.iload 4, 2) := by decide +kernel
theorem dX8_isHolder_57 : decode cX8_isHolder 57 = .ok (.iload_n 2, 1) := by decide +kernel
theorem dX8_isHolder_58 : decode cX8_isHolder 58 = .ok (.if_icmp .ne 22, 3) := by decide +kernel
theorem dX8_isHolder_61 : decode cX8_isHolder 61 = .ok (.iload 4, 2) := by decide +kernel
theorem dX8_isHolder_63 : decode cX8_isHolder 63 = .ok (.aload_n 0, 1) := by decide +kernel
theorem dX8_isHolder_64 : decode cX8_isHolder 64 = .ok (.iload_n 1, 1) := by decide +kernel
theorem dX8_isHolder_65 : decode cX8_isHolder 65 = .ok (.iconst 5, 1) := by decide +kernel
theorem dX8_isHolder_66 : decode cX8_isHolder 66 = .ok (.invokevirtual 58, 3) := by decide +kernel
theorem dX8_isHolder_69 : decode cX8_isHolder 69 = .ok (.invokestatic 170, 3) := by decide +kernel
theorem dX8_isHolder_72 : decode cX8_isHolder 72 = .ok (.iload_n 3, 1) := by decide +kernel
theorem dX8_isHolder_73 : decode cX8_isHolder 73 = .ok (.if_icmp .ne 7, 3) := by decide +kernel
theorem dX8_isHolder_76 : decode cX8_isHolder 76 = .ok (.iconst 1, 1) := by decide +kernel
theorem dX8_isHolder_77 : decode cX8_isHolder 77 = .ok (.goto 4, 3) := by decide +kernel
theorem dX8_isHolder_80 : decode cX8_isHolder 80 = .ok (.iconst 0, 1) := by decide +kernel
theorem dX8_isHolder_81 : decode cX8_isHolder 81 = .ok (.ireturn, 1) := by decide +kernel
set_option maxRecDepth 20000 in
theorem ggX8_holders_X8_in : GoodIn wsX8_holders wsX8_in := goodIn_r _ [7] (by decide +kernel) (by decide +kernel)
set_option maxRecDepth 20000 in
theorem gX8_holders_X8_in : GoodIn wsX8_holders (va_wsS RX8 42 yX8_in wsX8_in) := goodIn_app (goodIn_of _ (by decide +kernel)) ggX8_holders_X8_in
set_option maxRecDepth 20000 in
theorem ggX8_holders_X8_fails : GoodIn wsX8_holders wsX8_fails := goodIn_r _ [11, 1, 26, 27, 28, 29, 30, 31, 32, 33, 34, 35, 36, 37, 38, 39] (by decide +kernel) (by decide +kernel)
set_option maxRecDepth 20000 in
theorem gX8_holders_X8_fails : GoodIn wsX8_holders (wsV RX8 90 RX8 yX8_fails wsX8_fails) := goodIn_app (goodIn_of _ (by decide +kernel)) ggX8_holders_X8_fails
set_option maxRecDepth 20000 in
theorem ggX8_holders_X8_isHolder : GoodIn wsX8_holders wsX8_isHolder := goodIn_r _ [15, 16, 17, 18, 6, 19, 3, 20, 21, 22, 23, 24, 25, 26, 27, 28, 29, 30, 31, 32, 33, 34, 35, 36, 37, 38, 39] (by decide +kernel) (by decide +kernel)
set_option maxRecDepth 20000 in
theorem gX8_holders_X8_isHolder : GoodIn wsX8_holders (wsV RX8 176 RX8 yX8_isHolder wsX8_isHolder) := goodIn_app (goodIn_of _ (by decide +kernel)) ggX8_holders_X8_isHolder
theorem dX8_holders_0 : decode cX8_holders 0 = .ok (.aload_n 0, 1) := by decide +kernel
theorem dX8_holders_1 : decode cX8_holders 1 = .ok (.iconst 0, 1) := by decide +kernel
theorem dX8_holders_2 : decode cX8_holders 2 = .ok (.putfield 31, 3) := by decide +kernel
theorem dX8_holders_5 : decode cX8_holders 5 = .ok (.iload_n 2, 1) := by decide +kernel
theorem dX8_holders_6 : decode cX8_holders 6 = .ok (.i2l, 1) := by decide +kernel
theorem dX8_holders_7 : decode cX8_holders 7 = .ok (.lconst 1, 1) := by decide +kernel
theorem dX8_holders_8 : decode cX8_holders 8 = .ok (.ldc2_w 48, 3) := by decide +kernel
theorem dX8_holders_11 : decode cX8_holders 11 = .ok (.invokestatic 42, 3) := by decide +kernel
theorem dX8_holders_14 : decode cX8_holders 14 = .ok (.ifCond .eq 30, 3) := by decide +kernel
theorem dX8_holders_17 : decode cX8_holders 17 = .ok (.iload_n 2, 1) := by decide +kernel
theorem dX8_holders_18 : decode cX8_holders 18 = .ok (.iload_n 2, 1) := by decide +kernel
theorem dX8_holders_19 : decode cX8_holders 19 = .ok (.iconst 1, 1) := by decide +kernel
theorem dX8_holders_20 : decode cX8_holders 20 = .ok (.isub, 1) := by decide +kernel
theorem dX8_holders_21 : decode cX8_holders 21 = .ok (.iand, 1) := by decide +kernel
theorem dX8_holders_22 : decode cX8_holders 22 = .ok (.ifCond .ne 22, 3) := by decide +kernel
theorem dX8_holders_25 : decode cX8_holders 25 = .ok (.iload_n 1, 1) := by decide +kernel
theorem dX8_holders_26 : decode cX8_holders 26 = .ok (.i2l, 1) := by decide +kernel
theorem dX8_holders_27 : decode cX8_holders 27 = .ok (.lconst 0, 1) := by decide +kernel
theorem dX8_holders_28 : decode cX8_holders 28 = .ok (.sipush 16384, 3) := by decide +kernel
theorem dX8_holders_31 : decode cX8_holders 31 = .ok (.iload_n 2, 1) := by decide +kernel
theorem dX8_holders_32 : decode cX8_holders 32 = .ok (.isub, 1) := by decide +kernel
theorem dX8_holders_33 : decode cX8_holders 33 = .ok (.i2l, 1) := by decide +kernel
theorem dX8_holders_34 : decode cX8_holders 34 = .ok (.invokestatic 42, 3) := by decide +kernel
theorem dX8_holders_37 : decode cX8_holders 37 = .ok (.ifCond .eq 7, 3) := by decide +kernel
theorem dX8_holders_40 : decode cX8_holders 40 = .ok (.iconst 1, 1) := by decide +kernel
theorem dX8_holders_41 : decode cX8_holders 41 = .ok (.goto 4, 3) := by decide +kernel
theorem dX8_holders_44 : decode cX8_holders 44 = .ok (.iconst 0, 1) := by decide +kernel
theorem dX8_holders_45 : decode cX8_holders 45 = .ok (.istore_n 3, 1) := by decide +kernel
theorem dX8_holders_46 : decode cX8_holders 46 = .ok (.iload_n 3, 1) := by decide +kernel
theorem dX8_holders_47 : decode cX8_holders 47 = .ok (.ifCond .eq 9, 3) := by decide +kernel
theorem dX8_holders_50 : decode cX8_holders 50 = .ok (.iload_n 1, 1) := by decide +kernel
theorem dX8_holders_51 : decode cX8_holders 51 = .ok (.iload_n 2, 1) := by decide +kernel
theorem dX8_holders_52 : decode cX8_holders 52 = .ok (.irem, 1) := by decide +kernel
theorem dX8_holders_53 : decode cX8_holders 53 = .ok (.ifCond .eq 9, 3) := by decide +kernel
theorem dX8_holders_56 : decode cX8_holders 56 = .ok (.aload_n 0, 1) := by decide +kernel
theorem dX8_holders_57 : decode cX8_holders 57 = .ok (.iconst 1, 1) := by decide +kernel
theorem dX8_holders_58 : decode cX8_holders 58 = .ok (.invokevirtual 90, 3) := by decide +kernel
theorem dX8_holders_61 : decode cX8_holders 61 = .ok (.ireturn, 1) := by decide +kernel
theorem dX8_holders_62 : decode cX8_holders 62 = .ok (.iconst 0, 1) := by decide +kernel
theorem dX8_holders_63 : decode cX8_holders 63 = .ok (.istore 4, 2) := by decide +kernel
theorem dX8_holders_65 : decode cX8_holders 65 = .ok (.iconst 0, 1) := by decide +kernel
theorem dX8_holders_66 : decode cX8_holders 66 = .ok (.istore 5, 2) := by decide +kernel
theorem dX8_holders_68 : decode cX8_holders 68 = .ok (.iload 5, 2) := by decide +kernel
theorem dX8_holders_70 : decode cX8_holders 70 = .ok (.aload_n 0, 1) := by decide +kernel
theorem dX8_holders_71 : decode cX8_holders 71 = .ok (.getfield 7, 3) := by decide +kernel
theorem dX8_holders_74 : decode cX8_holders 74 = .ok (.iconst 0, 1) := by decide +kernel
theorem dX8_holders_75 : decode cX8_holders 75 = .ok (.iaload, 1) := by decide +kernel
theorem dX8_holders_76 : decode cX8_holders 76 = .ok (.if_icmp .ge 30, 3) := by decide +kernel
theorem dX8_holders_79 : decode cX8_holders 79 = .ok (.iload 4, 2) := by decide +kernel
theorem dX8_holders_81 : decode cX8_holders 81 = .ok (.aload_n 0, 1) := by decide +kernel
theorem dX8_holders_82 : decode cX8_holders 82 = .ok (.iload 5, 2) := by decide +kernel
theorem dX8_holders_84 : decode cX8_holders 84 = .ok (.iload_n 1, 1) := by decide +kernel
theorem dX8_holders_85 : decode cX8_holders 85 = .ok (.iload_n 2, 1) := by decide +kernel
theorem dX8_holders_86 : decode cX8_holders 86 = .ok (.invokevirtual 176, 3) := by decide +kernel
theorem dX8_holders_89 : decode cX8_holders 89 = .ok (.ifCond .eq 7, 3) := by decide +kernel
theorem dX8_holders_92 : decode cX8_holders 92 = .ok (.iconst 1, 1) := by decide +kernel
theorem dX8_holders_93 : decode cX8_holders 93 = .ok (.goto 4, 3) := by decide +kernel
theorem dX8_holders_96 : decode cX8_holders 96 = .ok (.iconst 0, 1) := by decide +kernel
theorem dX8_holders_97 : decode cX8_holders 97 = .ok (.iadd, 1) := by decide +kernel
theorem dX8_holders_98 : decode cX8_holders 98 = .ok (.istore 4, 2) := by decide +kernel
theorem dX8_holders_100 : decode cX8_holders 100 = .ok (.iinc 5 1, 3) := by decide +kernel
theorem dX8_holders_103 : decode cX8_holders 103 = .ok (.goto (-35), 3) := by decide +kernel
theorem dX8_holders_106 : decode cX8_holders 106 = .ok (.iload 4, 2) := by decide +kernel
theorem dX8_holders_108 : decode cX8_holders 108 = .ok (.ireturn, 1) := by decide +kernel
theorem dX8_query_0 : decode cX8_query 0 = .ok (.sipush 243, 3) := by decide +kernel
theorem dX8_query_3 : decode cX8_query 3 = .ok (.bipush 6, 2) := by decide +kernel
theorem dX8_query_5 : decode cX8_query 5 = .ok (.iload_n 0, 1) := by decide +kernel
theorem dX8_query_6 : decode cX8_query 6 = .ok (.imul, 1) := by decide +kernel
theorem dX8_query_7 : decode cX8_query 7 = .ok (.iadd, 1) := by decide +kernel
theorem dX8_query_8 : decode cX8_query 8 = .ok (.ireturn, 1) := by decide +kernel
set_option maxRecDepth 20000 in
theorem ggX8_whyNotCollect_X8_isPlace : GoodIn wsX8_whyNotCollect wsX8_isPlace := goodIn_r _ [5, 6, 7, 4, 8, 9, 10, 11, 12, 13, 14, 15, 16] (by decide +kernel) (by decide +kernel)
set_option maxRecDepth 20000 in
theorem gX8_whyNotCollect_X8_isPlace : GoodIn wsX8_whyNotCollect (va_wsS RX8 127 yX8_isPlace wsX8_isPlace) := goodIn_app (goodIn_of _ (by decide +kernel)) ggX8_whyNotCollect_X8_isPlace
theorem dX8_whyNotCollect_0 : decode cX8_whyNotCollect 0 = .ok (.iload_n 1, 1) := by decide +kernel
theorem dX8_whyNotCollect_1 : decode cX8_whyNotCollect 1 = .ok (.iload_n 2, 1) := by decide +kernel
theorem dX8_whyNotCollect_2 : decode cX8_whyNotCollect 2 = .ok (.invokestatic 127, 3) := by decide +kernel
theorem dX8_whyNotCollect_5 : decode cX8_whyNotCollect 5 = .ok (.ifCond .ne 7, 3) := by decide +kernel
theorem dX8_whyNotCollect_8 : decode cX8_whyNotCollect 8 = .ok (.iconst 1, 1) := by decide +kernel
theorem dX8_whyNotCollect_9 : decode cX8_whyNotCollect 9 = .ok (.goto 21, 3) := by decide +kernel
theorem dX8_whyNotCollect_12 : decode cX8_whyNotCollect 12 = .ok (.aload_n 0, 1) := by decide +kernel
theorem dX8_whyNotCollect_13 : decode cX8_whyNotCollect 13 = .ok (.getfield 7, 3) := by decide +kernel
theorem dX8_whyNotCollect_16 : decode cX8_whyNotCollect 16 = .ok (.sipush 242, 3) := by decide +kernel
theorem dX8_whyNotCollect_19 : decode cX8_whyNotCollect 19 = .ok (.iaload, 1) := by decide +kernel
theorem dX8_whyNotCollect_20 : decode cX8_whyNotCollect 20 = .ok (.bipush 30, 2) := by decide +kernel
theorem dX8_whyNotCollect_22 : decode cX8_whyNotCollect 22 = .ok (.if_icmp .ne 7, 3) := by decide +kernel
theorem dX8_whyNotCollect_25 : decode cX8_whyNotCollect 25 = .ok (.iconst 2, 1) := by decide +kernel
theorem dX8_whyNotCollect_26 : decode cX8_whyNotCollect 26 = .ok (.goto 4, 3) := by decide +kernel
theorem dX8_whyNotCollect_29 : decode cX8_whyNotCollect 29 = .ok (.iconst 0, 1) := by decide +kernel
theorem dX8_whyNotCollect_30 : decode cX8_whyNotCollect 30 = .ok (.ireturn, 1) := by decide +kernel
set_option maxRecDepth 20000 in
theorem ggX8_collectNow_X8_query : GoodIn wsX8_collectNow wsX8_query := goodIn_r _ [5] (by decide +kernel) (by decide +kernel)
set_option maxRecDepth 20000 in
theorem gX8_collectNow_X8_query : GoodIn wsX8_collectNow (va_wsS RX8 179 yX8_query wsX8_query) := goodIn_app (goodIn_of _ (by decide +kernel)) ggX8_collectNow_X8_query
theorem dX8_collectNow_0 : decode cX8_collectNow 0 = .ok (.aload_n 0, 1) := by decide +kernel
theorem dX8_collectNow_1 : decode cX8_collectNow 1 = .ok (.getfield 7, 3) := by decide +kernel
theorem dX8_collectNow_4 : decode cX8_collectNow 4 = .ok (.sipush 242, 3) := by decide +kernel
theorem dX8_collectNow_7 : decode cX8_collectNow 7 = .ok (.iaload, 1) := by decide +kernel
theorem dX8_collectNow_8 : decode cX8_collectNow 8 = .ok (.invokestatic 179, 3) := by decide +kernel
theorem dX8_collectNow_11 : decode cX8_collectNow 11 = .ok (.istore_n 3, 1) := by decide +kernel
theorem dX8_collectNow_12 : decode cX8_collectNow 12 = .ok (.aload_n 0, 1) := by decide +kernel
theorem dX8_collectNow_13 : decode cX8_collectNow 13 = .ok (.getfield 7, 3) := by decide +kernel
theorem dX8_collectNow_16 : decode cX8_collectNow 16 = .ok (.iload_n 3, 1) := by decide +kernel
theorem dX8_collectNow_17 : decode cX8_collectNow 17 = .ok (.iload_n 1, 1) := by decide +kernel
theorem dX8_collectNow_18 : decode cX8_collectNow 18 = .ok (.iastore, 1) := by decide +kernel
theorem dX8_collectNow_19 : decode cX8_collectNow 19 = .ok (.aload_n 0, 1) := by decide +kernel
theorem dX8_collectNow_20 : decode cX8_collectNow 20 = .ok (.getfield 7, 3) := by decide +kernel
theorem dX8_collectNow_23 : decode cX8_collectNow 23 = .ok (.iload_n 3, 1) := by decide +kernel
theorem dX8_collectNow_24 : decode cX8_collectNow 24 = .ok (.iconst 1, 1) := by decide +kernel
theorem dX8_collectNow_25 : decode cX8_collectNow 25 = .ok (.iadd, 1) := by decide +kernel
theorem dX8_collectNow_26 : decode cX8_collectNow 26 = .ok (.iload_n 2, 1) := by decide +kernel
theorem dX8_collectNow_27 : decode cX8_collectNow 27 = .ok (.iastore, 1) := by decide +kernel
theorem dX8_collectNow_28 : decode cX8_collectNow 28 = .ok (.iconst 2, 1) := by decide +kernel
theorem dX8_collectNow_29 : decode cX8_collectNow 29 = .ok (.istore 4, 2) := by decide +kernel
theorem dX8_collectNow_31 : decode cX8_collectNow 31 = .ok (.iload 4, 2) := by decide +kernel
theorem dX8_collectNow_33 : decode cX8_collectNow 33 = .ok (.bipush 6, 2) := by decide +kernel
theorem dX8_collectNow_35 : decode cX8_collectNow 35 = .ok (.if_icmp .ge 19, 3) := by decide +kernel
theorem dX8_collectNow_38 : decode cX8_collectNow 38 = .ok (.aload_n 0, 1) := by decide +kernel
theorem dX8_collectNow_39 : decode cX8_collectNow 39 = .ok (.getfield 7, 3) := by decide +kernel
theorem dX8_collectNow_42 : decode cX8_collectNow 42 = .ok (.iload_n 3, 1) := by decide +kernel
theorem dX8_collectNow_43 : decode cX8_collectNow 43 = .ok (.iload 4, 2) := by decide +kernel
theorem dX8_collectNow_45 : decode cX8_collectNow 45 = .ok (.iadd, 1) := by decide +kernel
theorem dX8_collectNow_46 : decode cX8_collectNow 46 = .ok (.iconst 0, 1) := by decide +kernel
theorem dX8_collectNow_47 : decode cX8_collectNow 47 = .ok (.iastore, 1) := by decide +kernel
theorem dX8_collectNow_48 : decode cX8_collectNow 48 = .ok (.iinc 4 1, 3) := by decide +kernel
theorem dX8_collectNow_51 : decode cX8_collectNow 51 = .ok (.goto (-20), 3) := by decide +kernel
theorem dX8_collectNow_54 : decode cX8_collectNow 54 = .ok (.aload_n 0, 1) := by decide +kernel
theorem dX8_collectNow_55 : decode cX8_collectNow 55 = .ok (.getfield 7, 3) := by decide +kernel
theorem dX8_collectNow_58 : decode cX8_collectNow 58 = .ok (.sipush 242, 3) := by decide +kernel
theorem dX8_collectNow_61 : decode cX8_collectNow 61 = .ok (.dup2, 1) := by decide +kernel
theorem dX8_collectNow_62 : decode cX8_collectNow 62 = .ok (.iaload, 1) := by decide +kernel
theorem dX8_collectNow_63 : decode cX8_collectNow 63 = .ok (.iconst 1, 1) := by decide +kernel
theorem dX8_collectNow_64 : decode cX8_collectNow 64 = .ok (.iadd, 1) := by decide +kernel
theorem dX8_collectNow_65 : decode cX8_collectNow 65 = .ok (.iastore, 1) := by decide +kernel
theorem dX8_collectNow_66 : decode cX8_collectNow 66 = .ok (.aload_n 0, 1) := by decide +kernel
theorem dX8_collectNow_67 : decode cX8_collectNow 67 = .ok (.getfield 7, 3) := by decide +kernel
theorem dX8_collectNow_70 : decode cX8_collectNow 70 = .ok (.sipush 242, 3) := by decide +kernel
theorem dX8_collectNow_73 : decode cX8_collectNow 73 = .ok (.iaload, 1) := by decide +kernel
theorem dX8_collectNow_74 : decode cX8_collectNow 74 = .ok (.iconst 1, 1) := by decide +kernel
theorem dX8_collectNow_75 : decode cX8_collectNow 75 = .ok (.isub, 1) := by decide +kernel
theorem dX8_collectNow_76 : decode cX8_collectNow 76 = .ok (.ireturn, 1) := by decide +kernel
set_option maxRecDepth 20000 in
theorem ggX8_collect_X8_whyNotCollect : GoodIn wsX8_collect wsX8_whyNotCollect := goodIn_r _ [6, 7, 8, 9, 5, 10, 11, 12, 13, 14, 15, 16, 17, 18, 19, 20, 21, 35, 36, 37, 38, 39, 40, 41, 42, 43, 44, 45, 46, 47, 48] (by decide +kernel) (by decide +kernel)
set_option maxRecDepth 20000 in
theorem gX8_collect_X8_whyNotCollect : GoodIn wsX8_collect (wsV RX8 182 RX8 yX8_whyNotCollect wsX8_whyNotCollect) := goodIn_app (goodIn_of _ (by decide +kernel)) ggX8_collect_X8_whyNotCollect
set_option maxRecDepth 20000 in
theorem ggX8_collect_X8_keep : GoodIn wsX8_collect wsX8_keep := goodIn_r _ [25, 26, 27, 7, 35, 36, 37, 38, 39, 40, 41, 42, 43, 44, 45, 46, 47, 48] (by decide +kernel) (by decide +kernel)
set_option maxRecDepth 20000 in
theorem gX8_collect_X8_keep : GoodIn wsX8_collect (wsV RX8 77 RX8 yX8_keep wsX8_keep) := goodIn_app (goodIn_of _ (by decide +kernel)) ggX8_collect_X8_keep
set_option maxRecDepth 20000 in
theorem ggX8_collect_X8_collectNow : GoodIn wsX8_collect wsX8_collectNow := goodIn_r _ [31, 7, 32, 33, 5, 34, 35, 36, 37, 38, 39, 40, 41, 42, 43, 44, 45, 46, 47, 48] (by decide +kernel) (by decide +kernel)
set_option maxRecDepth 20000 in
theorem gX8_collect_X8_collectNow : GoodIn wsX8_collect (wsV RX8 185 RX8 yX8_collectNow wsX8_collectNow) := goodIn_app (goodIn_of _ (by decide +kernel)) ggX8_collect_X8_collectNow
theorem dX8_collect_0 : decode cX8_collect 0 = .ok (.aload_n 0, 1) := by decide +kernel
theorem dX8_collect_1 : decode cX8_collect 1 = .ok (.aload_n 0, 1) := by decide +kernel
theorem dX8_collect_2 : decode cX8_collect 2 = .ok (.iload_n 1, 1) := by decide +kernel
theorem dX8_collect_3 : decode cX8_collect 3 = .ok (.iload_n 2, 1) := by decide +kernel
theorem dX8_collect_4 : decode cX8_collect 4 = .ok (.invokevirtual 182, 3) := by decide +kernel
theorem dX8_collect_7 : decode cX8_collect 7 = .ok (.putfield 31, 3) := by decide +kernel
theorem dX8_collect_10 : decode cX8_collect 10 = .ok (.aload_n 0, 1) := by decide +kernel
theorem dX8_collect_11 : decode cX8_collect 11 = .ok (.getfield 31, 3) := by decide +kernel
theorem dX8_collect_14 : decode cX8_collect 14 = .ok (.ifCond .eq 5, 3) := by decide +kernel
theorem dX8_collect_17 : decode cX8_collect 17 = .ok (.iconst 0, 1) := by decide +kernel
theorem dX8_collect_18 : decode cX8_collect 18 = .ok (.ireturn, 1) := by decide +kernel
theorem dX8_collect_19 : decode cX8_collect 19 = .ok (.aload_n 0, 1) := by decide +kernel
theorem dX8_collect_20 : decode cX8_collect 20 = .ok (.invokevirtual 77, 3) := by decide +kernel
theorem dX8_collect_23 : decode cX8_collect 23 = .ok (.aload_n 0, 1) := by decide +kernel
theorem dX8_collect_24 : decode cX8_collect 24 = .ok (.iload_n 1, 1) := by decide +kernel
theorem dX8_collect_25 : decode cX8_collect 25 = .ok (.iload_n 2, 1) := by decide +kernel
theorem dX8_collect_26 : decode cX8_collect 26 = .ok (.invokevirtual 185, 3) := by decide +kernel
theorem dX8_collect_29 : decode cX8_collect 29 = .ok (.ireturn, 1) := by decide +kernel
set_option maxRecDepth 20000 in
theorem ggX8_solveNow_X8_query : GoodIn wsX8_solveNow wsX8_query := goodIn_r _ [5] (by decide +kernel) (by decide +kernel)
set_option maxRecDepth 20000 in
theorem gX8_solveNow_X8_query : GoodIn wsX8_solveNow (va_wsS RX8 179 yX8_query wsX8_query) := goodIn_app (goodIn_of _ (by decide +kernel)) ggX8_solveNow_X8_query
set_option maxRecDepth 20000 in
theorem ggX8_solveNow_X8_firstAt : GoodIn wsX8_solveNow wsX8_firstAt := goodIn_r _ [9, 1, 10, 11, 12, 4, 13, 14, 15, 16, 17, 18, 19, 20, 21, 22, 23, 24, 25, 26, 27, 28, 29, 30, 31, 32, 33, 34, 35, 36, 37, 38, 39, 40, 41, 42, 43, 44, 45, 46, 47, 48, 49] (by decide +kernel) (by decide +kernel)
set_option maxRecDepth 20000 in
theorem gX8_solveNow_X8_firstAt : GoodIn wsX8_solveNow (wsV RX8 130 RX8 yX8_firstAt wsX8_firstAt) := goodIn_app (goodIn_of _ (by decide +kernel)) ggX8_solveNow_X8_firstAt
set_option maxRecDepth 20000 in
theorem ggX8_solveNow_X8_isThere : GoodIn wsX8_solveNow wsX8_isThere := goodIn_r _ [13, 14, 15, 16, 4, 17, 18, 19, 20, 21, 1, 22, 23, 24, 25, 26, 27, 36, 37, 38, 39, 40, 41, 42, 43, 44, 45, 46, 47, 48, 49] (by decide +kernel) (by decide +kernel)
set_option maxRecDepth 20000 in
theorem gX8_solveNow_X8_isThere : GoodIn wsX8_solveNow (wsV RX8 120 RX8 yX8_isThere wsX8_isThere) := goodIn_app (goodIn_of _ (by decide +kernel)) ggX8_solveNow_X8_isThere
set_option maxRecDepth 20000 in
theorem ggX8_solveNow_X8_valueAt : GoodIn wsX8_solveNow wsX8_valueAt := goodIn_r _ [35, 18, 19, 20, 4, 21, 1, 22, 23, 24, 36, 37, 38, 39, 40, 41, 42, 43, 44, 45, 46, 47, 48, 49] (by decide +kernel) (by decide +kernel)
set_option maxRecDepth 20000 in
theorem gX8_solveNow_X8_valueAt : GoodIn wsX8_solveNow (wsV RX8 117 RX8 yX8_valueAt wsX8_valueAt) := goodIn_app (goodIn_of _ (by decide +kernel)) ggX8_solveNow_X8_valueAt
theorem dX8_solveNow_0 : decode cX8_solveNow 0 = .ok (.iconst 0, 1) := by decide +kernel
theorem dX8_solveNow_1 : decode cX8_solveNow 1 = .ok (.istore_n 1, 1) := by decide +kernel
theorem dX8_solveNow_2 : decode cX8_solveNow 2 = .ok (.iconst 0, 1) := by decide +kernel
theorem dX8_solveNow_3 : decode cX8_solveNow 3 = .ok (.istore_n 2, 1) := by decide +kernel
theorem dX8_solveNow_4 : decode cX8_solveNow 4 = .ok (.iload_n 2, 1) := by decide +kernel
theorem dX8_solveNow_5 : decode cX8_solveNow 5 = .ok (.aload_n 0, 1) := by decide +kernel
theorem dX8_solveNow_6 : decode cX8_solveNow 6 = .ok (.getfield 7, 3) := by decide +kernel
theorem dX8_solveNow_9 : decode cX8_solveNow 9 = .ok (.sipush 242, 3) := by decide +kernel
theorem dX8_solveNow_12 : decode cX8_solveNow 12 = .ok (.iaload, 1) := by decide +kernel
theorem dX8_solveNow_13 : decode cX8_solveNow 13 = .ok (.if_icmp .ge 162, 3) := by decide +kernel
theorem dX8_solveNow_16 : decode cX8_solveNow 16 = .ok (.iload_n 2, 1) := by decide +kernel
theorem dX8_solveNow_17 : decode cX8_solveNow 17 = .ok (.invokestatic 179, 3) := by decide +kernel
theorem dX8_solveNow_20 : decode cX8_solveNow 20 = .ok (.istore_n 3, 1) := by decide +kernel
theorem dX8_solveNow_21 : decode cX8_solveNow 21 = .ok (.aload_n 0, 1) := by decide +kernel
theorem dX8_solveNow_22 : decode cX8_solveNow 22 = .ok (.aload_n 0, 1) := by decide +kernel
theorem dX8_solveNow_23 : decode cX8_solveNow 23 = .ok (.getfield 7, 3) := by decide +kernel
theorem dX8_solveNow_26 : decode cX8_solveNow 26 = .ok (.iload_n 3, 1) := by decide +kernel
theorem dX8_solveNow_27 : decode cX8_solveNow 27 = .ok (.iaload, 1) := by decide +kernel
theorem dX8_solveNow_28 : decode cX8_solveNow 28 = .ok (.aload_n 0, 1) := by decide +kernel
theorem dX8_solveNow_29 : decode cX8_solveNow 29 = .ok (.getfield 7, 3) := by decide +kernel
theorem dX8_solveNow_32 : decode cX8_solveNow 32 = .ok (.iload_n 3, 1) := by decide +kernel
theorem dX8_solveNow_33 : decode cX8_solveNow 33 = .ok (.iconst 1, 1) := by decide +kernel
theorem dX8_solveNow_34 : decode cX8_solveNow 34 = .ok (.iadd, 1) := by decide +kernel
theorem dX8_solveNow_35 : decode cX8_solveNow 35 = .ok (.iaload, 1) := by decide +kernel
theorem dX8_solveNow_36 : decode cX8_solveNow 36 = .ok (.invokevirtual 130, 3) := by decide +kernel
theorem dX8_solveNow_39 : decode cX8_solveNow 39 = .ok (.istore 4, 2) := by decide +kernel
theorem dX8_solveNow_41 : decode cX8_solveNow 41 = .ok (.iconst 0, 1) := by decide +kernel
theorem dX8_solveNow_42 : decode cX8_solveNow 42 = .ok (.istore 5, 2) := by decide +kernel
theorem dX8_solveNow_44 : decode cX8_solveNow 44 = .ok (.iconst 0, 1) := by decide +kernel
theorem dX8_solveNow_45 : decode cX8_solveNow 45 = .ok (.istore 6, 2) := by decide +kernel
theorem dX8_solveNow_47 : decode cX8_solveNow 47 = .ok (.iload 6, 2) := by decide +kernel
theorem dX8_solveNow_49 : decode cX8_solveNow 49 = .ok (.aload_n 0, 1) := by decide +kernel
theorem dX8_solveNow_50 : decode cX8_solveNow 50 = .ok (.getfield 7, 3) := by decide +kernel
theorem dX8_solveNow_53 : decode cX8_solveNow 53 = .ok (.iconst 0, 1) := by decide +kernel
theorem dX8_solveNow_54 : decode cX8_solveNow 54 = .ok (.iaload, 1) := by decide +kernel
theorem dX8_solveNow_55 : decode cX8_solveNow 55 = .ok (.if_icmp .ge 42, 3) := by decide +kernel
theorem dX8_solveNow_58 : decode cX8_solveNow 58 = .ok (.iload 5, 2) := by decide +kernel
theorem dX8_solveNow_60 : decode cX8_solveNow 60 = .ok (.aload_n 0, 1) := by decide +kernel
theorem dX8_solveNow_61 : decode cX8_solveNow 61 = .ok (.iload 6, 2) := by decide +kernel
theorem dX8_solveNow_63 : decode cX8_solveNow 63 = .ok (.aload_n 0, 1) := by decide +kernel
theorem dX8_solveNow_64 : decode cX8_solveNow 64 = .ok (.getfield 7, 3) := by decide +kernel
theorem dX8_solveNow_67 : decode cX8_solveNow 67 = .ok (.iload_n 3, 1) := by decide +kernel
theorem dX8_solveNow_68 : decode cX8_solveNow 68 = .ok (.iaload, 1) := by decide +kernel
theorem dX8_solveNow_69 : decode cX8_solveNow 69 = .ok (.aload_n 0, 1) := by decide +kernel
theorem dX8_solveNow_70 : decode cX8_solveNow 70 = .ok (.getfield 7, 3) := by decide +kernel
theorem dX8_solveNow_73 : decode cX8_solveNow 73 = .ok (.iload_n 3, 1) := by decide +kernel
theorem dX8_solveNow_74 : decode cX8_solveNow 74 = .ok (.iconst 1, 1) := by decide +kernel
theorem dX8_solveNow_75 : decode cX8_solveNow 75 = .ok (.iadd, 1) := by decide +kernel
theorem dX8_solveNow_76 : decode cX8_solveNow 76 = .ok (.iaload, 1) := by decide +kernel
theorem dX8_solveNow_77 : decode cX8_solveNow 77 = .ok (.invokevirtual 120, 3) := by decide +kernel
theorem dX8_solveNow_80 : decode cX8_solveNow 80 = .ok (.ifCond .eq 7, 3) := by decide +kernel
theorem dX8_solveNow_83 : decode cX8_solveNow 83 = .ok (.iconst 1, 1) := by decide +kernel
theorem dX8_solveNow_84 : decode cX8_solveNow 84 = .ok (.goto 4, 3) := by decide +kernel
theorem dX8_solveNow_87 : decode cX8_solveNow 87 = .ok (.iconst 0, 1) := by decide +kernel
theorem dX8_solveNow_88 : decode cX8_solveNow 88 = .ok (.iadd, 1) := by decide +kernel
theorem dX8_solveNow_89 : decode cX8_solveNow 89 = .ok (.istore 5, 2) := by decide +kernel
theorem dX8_solveNow_91 : decode cX8_solveNow 91 = .ok (.iinc 6 1, 3) := by decide +kernel
theorem dX8_solveNow_94 : decode cX8_solveNow 94 = .ok (.goto (-47), 3) := by decide +kernel
theorem dX8_solveNow_97 : decode cX8_solveNow 97 = .ok (.aload_n 0, 1) := by decide +kernel
theorem dX8_solveNow_98 : decode cX8_solveNow 98 = .ok (.getfield 7, 3) := by decide +kernel
theorem dX8_solveNow_101 : decode cX8_solveNow 101 = .ok (.iload_n 3, 1) := by decide +kernel
theorem dX8_solveNow_102 : decode cX8_solveNow 102 = .ok (.iconst 2, 1) := by decide +kernel
theorem dX8_solveNow_103 : decode cX8_solveNow 103 = .ok (.iadd, 1) := by decide +kernel
theorem dX8_solveNow_104 : decode cX8_solveNow 104 = .ok (.iconst 1, 1) := by decide +kernel
theorem dX8_solveNow_105 : decode cX8_solveNow 105 = .ok (.iastore, 1) := by decide +kernel
theorem dX8_solveNow_106 : decode cX8_solveNow 106 = .ok (.aload_n 0, 1) := by decide +kernel
theorem dX8_solveNow_107 : decode cX8_solveNow 107 = .ok (.getfield 7, 3) := by decide +kernel
theorem dX8_solveNow_110 : decode cX8_solveNow 110 = .ok (.iload_n 3, 1) := by decide +kernel
theorem dX8_solveNow_111 : decode cX8_solveNow 111 = .ok (.iconst 3, 1) := by decide +kernel
theorem dX8_solveNow_112 : decode cX8_solveNow 112 = .ok (.iadd, 1) := by decide +kernel
theorem dX8_solveNow_113 : decode cX8_solveNow 113 = .ok (.iload 4, 2) := by decide +kernel
theorem dX8_solveNow_115 : decode cX8_solveNow 115 = .ok (.iconst (-1), 1) := by decide +kernel
theorem dX8_solveNow_116 : decode cX8_solveNow 116 = .ok (.if_icmp .ne 7, 3) := by decide +kernel
theorem dX8_solveNow_119 : decode cX8_solveNow 119 = .ok (.iconst 0, 1) := by decide +kernel
theorem dX8_solveNow_120 : decode cX8_solveNow 120 = .ok (.goto 15, 3) := by decide +kernel
theorem dX8_solveNow_123 : decode cX8_solveNow 123 = .ok (.aload_n 0, 1) := by decide +kernel
theorem dX8_solveNow_124 : decode cX8_solveNow 124 = .ok (.iload 4, 2) := by decide +kernel
theorem dX8_solveNow_126 : decode cX8_solveNow 126 = .ok (.aload_n 0, 1) := by decide +kernel
theorem dX8_solveNow_127 : decode cX8_solveNow 127 = .ok (.getfield 7, 3) := by decide +kernel
theorem dX8_solveNow_130 : decode cX8_solveNow 130 = .ok (.iload_n 3, 1) := by decide +kernel
theorem dX8_solveNow_131 : decode cX8_solveNow 131 = .ok (.iaload, 1) := by decide +kernel
theorem dX8_solveNow_132 : decode cX8_solveNow 132 = .ok (.invokevirtual 117, 3) := by decide +kernel
theorem dX8_solveNow_135 : decode cX8_solveNow 135 = .ok (.iastore, 1) := by decide +kernel
theorem dX8_solveNow_136 : decode cX8_solveNow 136 = .ok (.aload_n 0, 1) := by decide +kernel
theorem dX8_solveNow_137 : decode cX8_solveNow 137 = .ok (.getfield 7, 3) := by decide +kernel
theorem dX8_solveNow_140 : decode cX8_solveNow 140 = .ok (.iload_n 3, 1) := by decide +kernel
theorem dX8_solveNow_141 : decode cX8_solveNow 141 = .ok (.iconst 4, 1) := by decide +kernel
theorem dX8_solveNow_142 : decode cX8_solveNow 142 = .ok (.iadd, 1) := by decide +kernel
theorem dX8_solveNow_143 : decode cX8_solveNow 143 = .ok (.iload 4, 2) := by decide +kernel
theorem dX8_solveNow_145 : decode cX8_solveNow 145 = .ok (.iastore, 1) := by decide +kernel
theorem dX8_solveNow_146 : decode cX8_solveNow 146 = .ok (.aload_n 0, 1) := by decide +kernel
theorem dX8_solveNow_147 : decode cX8_solveNow 147 = .ok (.getfield 7, 3) := by decide +kernel
theorem dX8_solveNow_150 : decode cX8_solveNow 150 = .ok (.iload_n 3, 1) := by decide +kernel
theorem dX8_solveNow_151 : decode cX8_solveNow 151 = .ok (.iconst 5, 1) := by decide +kernel
theorem dX8_solveNow_152 : decode cX8_solveNow 152 = .ok (.iadd, 1) := by decide +kernel
theorem dX8_solveNow_153 : decode cX8_solveNow 153 = .ok (.iload 5, 2) := by decide +kernel
theorem dX8_solveNow_155 : decode cX8_solveNow 155 = .ok (.iastore, 1) := by decide +kernel
theorem dX8_solveNow_156 : decode cX8_solveNow 156 = .ok (.iload_n 1, 1) := by decide +kernel
theorem dX8_solveNow_157 : decode cX8_solveNow 157 = .ok (.iload 5, 2) := by decide +kernel
theorem dX8_solveNow_159 : decode cX8_solveNow 159 = .ok (.ifCond .le 7, 3) := by decide +kernel
theorem dX8_solveNow_162 : decode cX8_solveNow 162 = .ok (.iconst 1, 1) := by decide +kernel
theorem dX8_solveNow_163 : decode cX8_solveNow 163 = .ok (.goto 4, 3) := by decide +kernel
theorem dX8_solveNow_166 : decode cX8_solveNow 166 = .ok (.iconst 0, 1) := by decide +kernel
theorem dX8_solveNow_167 : decode cX8_solveNow 167 = .ok (.iadd, 1) := by decide +kernel
theorem dX8_solveNow_168 : decode cX8_solveNow 168 = .ok (.istore_n 1, 1) := by decide +kernel
theorem dX8_solveNow_169 : decode cX8_solveNow 169 = .ok (.iinc 2 1, 3) := by decide +kernel
theorem dX8_solveNow_172 : decode cX8_solveNow 172 = .ok (.goto (-168), 3) := by decide +kernel
theorem dX8_solveNow_175 : decode cX8_solveNow 175 = .ok (.iload_n 1, 1) := by decide +kernel
theorem dX8_solveNow_176 : decode cX8_solveNow 176 = .ok (.ireturn, 1) := by decide +kernel
set_option maxRecDepth 20000 in
theorem ggX8_solve_X8_keep : GoodIn wsX8_solve wsX8_keep := goodIn_r _ [6, 7, 8, 9, 47, 48, 49, 50, 51, 52, 53, 54, 55, 56, 57, 58, 59, 60] (by decide +kernel) (by decide +kernel)
set_option maxRecDepth 20000 in
theorem gX8_solve_X8_keep : GoodIn wsX8_solve (wsV RX8 77 RX8 yX8_keep wsX8_keep) := goodIn_app (goodIn_of _ (by decide +kernel)) ggX8_solve_X8_keep
set_option maxRecDepth 20000 in
theorem ggX8_solve_X8_solveNow : GoodIn wsX8_solve wsX8_solveNow := goodIn_r _ [13, 9, 14, 15, 5, 16, 17, 18, 19, 20, 21, 22, 23, 24, 25, 26, 27, 28, 29, 30, 31, 32, 33, 34, 35, 36, 37, 38, 39, 40, 41, 42, 43, 44, 45, 46, 47, 48, 49, 50, 51, 52, 53, 54, 55, 56, 57, 58, 59, 60] (by decide +kernel) (by decide +kernel)
set_option maxRecDepth 20000 in
theorem gX8_solve_X8_solveNow : GoodIn wsX8_solve (wsV RX8 188 RX8 yX8_solveNow wsX8_solveNow) := goodIn_app (goodIn_of _ (by decide +kernel)) ggX8_solve_X8_solveNow
theorem dX8_solve_0 : decode cX8_solve 0 = .ok (.aload_n 0, 1) := by decide +kernel
theorem dX8_solve_1 : decode cX8_solve 1 = .ok (.iconst 0, 1) := by decide +kernel
theorem dX8_solve_2 : decode cX8_solve 2 = .ok (.putfield 31, 3) := by decide +kernel
theorem dX8_solve_5 : decode cX8_solve 5 = .ok (.aload_n 0, 1) := by decide +kernel
theorem dX8_solve_6 : decode cX8_solve 6 = .ok (.invokevirtual 77, 3) := by decide +kernel
theorem dX8_solve_9 : decode cX8_solve 9 = .ok (.aload_n 0, 1) := by decide +kernel
theorem dX8_solve_10 : decode cX8_solve 10 = .ok (.invokevirtual 188, 3) := by decide +kernel
theorem dX8_solve_13 : decode cX8_solve 13 = .ok (.ireturn, 1) := by decide +kernel
set_option maxRecDepth 20000 in
theorem ggX8_answerOf_X8_query : GoodIn wsX8_answerOf wsX8_query := goodIn_r _ [6] (by decide +kernel) (by decide +kernel)
set_option maxRecDepth 20000 in
theorem gX8_answerOf_X8_query : GoodIn wsX8_answerOf (va_wsS RX8 179 yX8_query wsX8_query) := goodIn_app (goodIn_of _ (by decide +kernel)) ggX8_answerOf_X8_query
theorem dX8_answerOf_0 : decode cX8_answerOf 0 = .ok (.iload_n 1, 1) := by decide +kernel
theorem dX8_answerOf_1 : decode cX8_answerOf 1 = .ok (.invokestatic 179, 3) := by decide +kernel
theorem dX8_answerOf_4 : decode cX8_answerOf 4 = .ok (.istore_n 3, 1) := by decide +kernel
theorem dX8_answerOf_5 : decode cX8_answerOf 5 = .ok (.iload_n 2, 1) := by decide +kernel
theorem dX8_answerOf_6 : decode cX8_answerOf 6 = .ok (.ifCond .ne 21, 3) := by decide +kernel
theorem dX8_answerOf_9 : decode cX8_answerOf 9 = .ok (.aload_n 0, 1) := by decide +kernel
theorem dX8_answerOf_10 : decode cX8_answerOf 10 = .ok (.getfield 7, 3) := by decide +kernel
theorem dX8_answerOf_13 : decode cX8_answerOf 13 = .ok (.iload_n 3, 1) := by decide +kernel
theorem dX8_answerOf_14 : decode cX8_answerOf 14 = .ok (.iconst 4, 1) := by decide +kernel
theorem dX8_answerOf_15 : decode cX8_answerOf 15 = .ok (.iadd, 1) := by decide +kernel
theorem dX8_answerOf_16 : decode cX8_answerOf 16 = .ok (.iaload, 1) := by decide +kernel
theorem dX8_answerOf_17 : decode cX8_answerOf 17 = .ok (.iconst (-1), 1) := by decide +kernel
theorem dX8_answerOf_18 : decode cX8_answerOf 18 = .ok (.if_icmp .ne 9, 3) := by decide +kernel
theorem dX8_answerOf_21 : decode cX8_answerOf 21 = .ok (.ldc2_w 133, 3) := by decide +kernel
theorem dX8_answerOf_24 : decode cX8_answerOf 24 = .ok (.goto 14, 3) := by decide +kernel
theorem dX8_answerOf_27 : decode cX8_answerOf 27 = .ok (.aload_n 0, 1) := by decide +kernel
theorem dX8_answerOf_28 : decode cX8_answerOf 28 = .ok (.getfield 7, 3) := by decide +kernel
theorem dX8_answerOf_31 : decode cX8_answerOf 31 = .ok (.iload_n 3, 1) := by decide +kernel
theorem dX8_answerOf_32 : decode cX8_answerOf 32 = .ok (.iconst 3, 1) := by decide +kernel
theorem dX8_answerOf_33 : decode cX8_answerOf 33 = .ok (.iadd, 1) := by decide +kernel
theorem dX8_answerOf_34 : decode cX8_answerOf 34 = .ok (.iload_n 2, 1) := by decide +kernel
theorem dX8_answerOf_35 : decode cX8_answerOf 35 = .ok (.iadd, 1) := by decide +kernel
theorem dX8_answerOf_36 : decode cX8_answerOf 36 = .ok (.iaload, 1) := by decide +kernel
theorem dX8_answerOf_37 : decode cX8_answerOf 37 = .ok (.i2l, 1) := by decide +kernel
theorem dX8_answerOf_38 : decode cX8_answerOf 38 = .ok (.lreturn, 1) := by decide +kernel
set_option maxRecDepth 20000 in
theorem ggX8_answer_X8_in : GoodIn wsX8_answer wsX8_in := goodIn_r _ [7] (by decide +kernel) (by decide +kernel)
set_option maxRecDepth 20000 in
theorem gX8_answer_X8_in : GoodIn wsX8_answer (va_wsS RX8 42 yX8_in wsX8_in) := goodIn_app (goodIn_of _ (by decide +kernel)) ggX8_answer_X8_in
set_option maxRecDepth 20000 in
theorem ggX8_answer_X8_fails : GoodIn wsX8_answer wsX8_fails := goodIn_r _ [11, 1, 20, 21, 22, 23, 24, 25, 26, 27, 28, 29, 30, 31, 32, 33] (by decide +kernel) (by decide +kernel)
set_option maxRecDepth 20000 in
theorem gX8_answer_X8_fails : GoodIn wsX8_answer (wsV RX8 90 RX8 yX8_fails wsX8_fails) := goodIn_app (goodIn_of _ (by decide +kernel)) ggX8_answer_X8_fails
set_option maxRecDepth 20000 in
theorem ggX8_answer_X8_query : GoodIn wsX8_answer wsX8_query := goodIn_r _ [14] (by decide +kernel) (by decide +kernel)
set_option maxRecDepth 20000 in
theorem gX8_answer_X8_query : GoodIn wsX8_answer (va_wsS RX8 179 yX8_query wsX8_query) := goodIn_app (goodIn_of _ (by decide +kernel)) ggX8_answer_X8_query
set_option maxRecDepth 20000 in
theorem ggX8_answer_X8_answerOf : GoodIn wsX8_answer wsX8_answerOf := goodIn_r _ [18, 2, 19, 12, 13, 6, 14, 20, 21, 22, 23, 24, 25, 26, 27, 28, 29, 30, 31, 32, 33] (by decide +kernel) (by decide +kernel)
set_option maxRecDepth 20000 in
theorem gX8_answer_X8_answerOf : GoodIn wsX8_answer (wsV RX8 192 RX8 yX8_answerOf wsX8_answerOf) := goodIn_app (goodIn_of _ (by decide +kernel)) ggX8_answer_X8_answerOf
theorem dX8_answer_0 : decode cX8_answer 0 = .ok (.aload_n 0, 1) := by decide +kernel
theorem dX8_answer_1 : decode cX8_answer 1 = .ok (.iconst 0, 1) := by decide +kernel
theorem dX8_answer_2 : decode cX8_answer 2 = .ok (.putfield 31, 3) := by decide +kernel
theorem dX8_answer_5 : decode cX8_answer 5 = .ok (.iload_n 1, 1) := by decide +kernel
theorem dX8_answer_6 : decode cX8_answer 6 = .ok (.i2l, 1) := by decide +kernel
theorem dX8_answer_7 : decode cX8_answer 7 = .ok (.lconst 0, 1) := by decide +kernel
theorem dX8_answer_8 : decode cX8_answer 8 = .ok (.aload_n 0, 1) := by decide +kernel
theorem dX8_answer_9 : decode cX8_answer 9 = .ok (.getfield 7, 3) := by decide +kernel
theorem dX8_answer_12 : decode cX8_answer 12 = .ok (.sipush 242, 3) := by decide +kernel
theorem dX8_answer_15 : decode cX8_answer 15 = .ok (.iaload, 1) := by decide +kernel
theorem dX8_answer_16 : decode cX8_answer 16 = .ok (.iconst 1, 1) := by decide +kernel
theorem dX8_answer_17 : decode cX8_answer 17 = .ok (.isub, 1) := by decide +kernel
theorem dX8_answer_18 : decode cX8_answer 18 = .ok (.i2l, 1) := by decide +kernel
theorem dX8_answer_19 : decode cX8_answer 19 = .ok (.invokestatic 42, 3) := by decide +kernel
theorem dX8_answer_22 : decode cX8_answer 22 = .ok (.ifCond .ne 10, 3) := by decide +kernel
theorem dX8_answer_25 : decode cX8_answer 25 = .ok (.aload_n 0, 1) := by decide +kernel
theorem dX8_answer_26 : decode cX8_answer 26 = .ok (.iconst 1, 1) := by decide +kernel
theorem dX8_answer_27 : decode cX8_answer 27 = .ok (.invokevirtual 90, 3) := by decide +kernel
theorem dX8_answer_30 : decode cX8_answer 30 = .ok (.i2l, 1) := by decide +kernel
theorem dX8_answer_31 : decode cX8_answer 31 = .ok (.lreturn, 1) := by decide +kernel
theorem dX8_answer_32 : decode cX8_answer 32 = .ok (.iload_n 2, 1) := by decide +kernel
theorem dX8_answer_33 : decode cX8_answer 33 = .ok (.i2l, 1) := by decide +kernel
theorem dX8_answer_34 : decode cX8_answer 34 = .ok (.lconst 0, 1) := by decide +kernel
theorem dX8_answer_35 : decode cX8_answer 35 = .ok (.ldc2_w 146, 3) := by decide +kernel
theorem dX8_answer_38 : decode cX8_answer 38 = .ok (.invokestatic 42, 3) := by decide +kernel
theorem dX8_answer_41 : decode cX8_answer 41 = .ok (.ifCond .ne 10, 3) := by decide +kernel
theorem dX8_answer_44 : decode cX8_answer 44 = .ok (.aload_n 0, 1) := by decide +kernel
theorem dX8_answer_45 : decode cX8_answer 45 = .ok (.iconst 2, 1) := by decide +kernel
theorem dX8_answer_46 : decode cX8_answer 46 = .ok (.invokevirtual 90, 3) := by decide +kernel
theorem dX8_answer_49 : decode cX8_answer 49 = .ok (.i2l, 1) := by decide +kernel
theorem dX8_answer_50 : decode cX8_answer 50 = .ok (.lreturn, 1) := by decide +kernel
theorem dX8_answer_51 : decode cX8_answer 51 = .ok (.aload_n 0, 1) := by decide +kernel
theorem dX8_answer_52 : decode cX8_answer 52 = .ok (.getfield 7, 3) := by decide +kernel
theorem dX8_answer_55 : decode cX8_answer 55 = .ok (.iload_n 1, 1) := by decide +kernel
theorem dX8_answer_56 : decode cX8_answer 56 = .ok (.invokestatic 179, 3) := by decide +kernel
theorem dX8_answer_59 : decode cX8_answer 59 = .ok (.iconst 2, 1) := by decide +kernel
theorem dX8_answer_60 : decode cX8_answer 60 = .ok (.iadd, 1) := by decide +kernel
theorem dX8_answer_61 : decode cX8_answer 61 = .ok (.iaload, 1) := by decide +kernel
theorem dX8_answer_62 : decode cX8_answer 62 = .ok (.iconst 1, 1) := by decide +kernel
theorem dX8_answer_63 : decode cX8_answer 63 = .ok (.if_icmp .ne 12, 3) := by decide +kernel
theorem dX8_answer_66 : decode cX8_answer 66 = .ok (.aload_n 0, 1) := by decide +kernel
theorem dX8_answer_67 : decode cX8_answer 67 = .ok (.iload_n 1, 1) := by decide +kernel
theorem dX8_answer_68 : decode cX8_answer 68 = .ok (.iload_n 2, 1) := by decide +kernel
theorem dX8_answer_69 : decode cX8_answer 69 = .ok (.invokevirtual 192, 3) := by decide +kernel
theorem dX8_answer_72 : decode cX8_answer 72 = .ok (.goto 9, 3) := by decide +kernel
theorem dX8_answer_75 : decode cX8_answer 75 = .ok (.aload_n 0, 1) := by decide +kernel
theorem dX8_answer_76 : decode cX8_answer 76 = .ok (.iconst 3, 1) := by decide +kernel
theorem dX8_answer_77 : decode cX8_answer 77 = .ok (.invokevirtual 90, 3) := by decide +kernel
theorem dX8_answer_80 : decode cX8_answer 80 = .ok (.i2l, 1) := by decide +kernel
theorem dX8_answer_81 : decode cX8_answer 81 = .ok (.lreturn, 1) := by decide +kernel
set_option maxRecDepth 20000 in
theorem ggX8_forget_X8_keep : GoodIn wsX8_forget wsX8_keep := goodIn_r _ [7, 8, 9, 2, 10, 11, 12, 13, 14, 15, 16, 17, 18, 19, 20, 21, 22, 23] (by decide +kernel) (by decide +kernel)
set_option maxRecDepth 20000 in
theorem gX8_forget_X8_keep : GoodIn wsX8_forget (wsV RX8 77 RX8 yX8_keep wsX8_keep) := goodIn_app (goodIn_of _ (by decide +kernel)) ggX8_forget_X8_keep
theorem dX8_forget_0 : decode cX8_forget 0 = .ok (.aload_n 0, 1) := by decide +kernel
theorem dX8_forget_1 : decode cX8_forget 1 = .ok (.iconst 0, 1) := by decide +kernel
theorem dX8_forget_2 : decode cX8_forget 2 = .ok (.putfield 31, 3) := by decide +kernel
theorem dX8_forget_5 : decode cX8_forget 5 = .ok (.aload_n 0, 1) := by decide +kernel
theorem dX8_forget_6 : decode cX8_forget 6 = .ok (.invokevirtual 77, 3) := by decide +kernel
theorem dX8_forget_9 : decode cX8_forget 9 = .ok (.aload_n 0, 1) := by decide +kernel
theorem dX8_forget_10 : decode cX8_forget 10 = .ok (.getfield 7, 3) := by decide +kernel
theorem dX8_forget_13 : decode cX8_forget 13 = .ok (.sipush 242, 3) := by decide +kernel
theorem dX8_forget_16 : decode cX8_forget 16 = .ok (.iaload, 1) := by decide +kernel
theorem dX8_forget_17 : decode cX8_forget 17 = .ok (.istore_n 1, 1) := by decide +kernel
theorem dX8_forget_18 : decode cX8_forget 18 = .ok (.aload_n 0, 1) := by decide +kernel
theorem dX8_forget_19 : decode cX8_forget 19 = .ok (.getfield 7, 3) := by decide +kernel
theorem dX8_forget_22 : decode cX8_forget 22 = .ok (.sipush 242, 3) := by decide +kernel
theorem dX8_forget_25 : decode cX8_forget 25 = .ok (.iconst 0, 1) := by decide +kernel
theorem dX8_forget_26 : decode cX8_forget 26 = .ok (.iastore, 1) := by decide +kernel
theorem dX8_forget_27 : decode cX8_forget 27 = .ok (.iload_n 1, 1) := by decide +kernel
theorem dX8_forget_28 : decode cX8_forget 28 = .ok (.ireturn, 1) := by decide +kernel
set_option maxRecDepth 20000 in
theorem ggX8_mark_X8_fails : GoodIn wsX8_mark wsX8_fails := goodIn_r _ [7, 1, 14, 15, 16, 17, 18, 19, 20, 21, 22, 23, 24, 25, 26, 27] (by decide +kernel) (by decide +kernel)
set_option maxRecDepth 20000 in
theorem gX8_mark_X8_fails : GoodIn wsX8_mark (wsV RX8 90 RX8 yX8_fails wsX8_fails) := goodIn_app (goodIn_of _ (by decide +kernel)) ggX8_mark_X8_fails
set_option maxRecDepth 20000 in
theorem ggX8_mark_X8_keep : GoodIn wsX8_mark wsX8_keep := goodIn_r _ [11, 12, 13, 2, 14, 15, 16, 17, 18, 19, 20, 21, 22, 23, 24, 25, 26, 27] (by decide +kernel) (by decide +kernel)
set_option maxRecDepth 20000 in
theorem gX8_mark_X8_keep : GoodIn wsX8_mark (wsV RX8 77 RX8 yX8_keep wsX8_keep) := goodIn_app (goodIn_of _ (by decide +kernel)) ggX8_mark_X8_keep
theorem dX8_mark_0 : decode cX8_mark 0 = .ok (.aload_n 0, 1) := by decide +kernel
theorem dX8_mark_1 : decode cX8_mark 1 = .ok (.iconst 0, 1) := by decide +kernel
theorem dX8_mark_2 : decode cX8_mark 2 = .ok (.putfield 31, 3) := by decide +kernel
theorem dX8_mark_5 : decode cX8_mark 5 = .ok (.aload_n 0, 1) := by decide +kernel
theorem dX8_mark_6 : decode cX8_mark 6 = .ok (.getfield 7, 3) := by decide +kernel
theorem dX8_mark_9 : decode cX8_mark 9 = .ok (.sipush 423, 3) := by decide +kernel
theorem dX8_mark_12 : decode cX8_mark 12 = .ok (.iaload, 1) := by decide +kernel
theorem dX8_mark_13 : decode cX8_mark 13 = .ok (.iconst 5, 1) := by decide +kernel
theorem dX8_mark_14 : decode cX8_mark 14 = .ok (.if_icmp .ne 9, 3) := by decide +kernel
theorem dX8_mark_17 : decode cX8_mark 17 = .ok (.aload_n 0, 1) := by decide +kernel
theorem dX8_mark_18 : decode cX8_mark 18 = .ok (.iconst 1, 1) := by decide +kernel
theorem dX8_mark_19 : decode cX8_mark 19 = .ok (.invokevirtual 90, 3) := by decide +kernel
theorem dX8_mark_22 : decode cX8_mark 22 = .ok (.ireturn, 1) := by decide +kernel
theorem dX8_mark_23 : decode cX8_mark 23 = .ok (.aload_n 0, 1) := by decide +kernel
theorem dX8_mark_24 : decode cX8_mark 24 = .ok (.invokevirtual 77, 3) := by decide +kernel
theorem dX8_mark_27 : decode cX8_mark 27 = .ok (.iconst 0, 1) := by decide +kernel
theorem dX8_mark_28 : decode cX8_mark 28 = .ok (.istore_n 1, 1) := by decide +kernel
theorem dX8_mark_29 : decode cX8_mark 29 = .ok (.iload_n 1, 1) := by decide +kernel
theorem dX8_mark_30 : decode cX8_mark 30 = .ok (.sipush 242, 3) := by decide +kernel
theorem dX8_mark_33 : decode cX8_mark 33 = .ok (.if_icmp .ge 38, 3) := by decide +kernel
theorem dX8_mark_36 : decode cX8_mark 36 = .ok (.aload_n 0, 1) := by decide +kernel
theorem dX8_mark_37 : decode cX8_mark 37 = .ok (.getfield 7, 3) := by decide +kernel
theorem dX8_mark_40 : decode cX8_mark 40 = .ok (.sipush 424, 3) := by decide +kernel
theorem dX8_mark_43 : decode cX8_mark 43 = .ok (.sipush 242, 3) := by decide +kernel
theorem dX8_mark_46 : decode cX8_mark 46 = .ok (.aload_n 0, 1) := by decide +kernel
theorem dX8_mark_47 : decode cX8_mark 47 = .ok (.getfield 7, 3) := by decide +kernel
theorem dX8_mark_50 : decode cX8_mark 50 = .ok (.sipush 423, 3) := by decide +kernel
theorem dX8_mark_53 : decode cX8_mark 53 = .ok (.iaload, 1) := by decide +kernel
theorem dX8_mark_54 : decode cX8_mark 54 = .ok (.imul, 1) := by decide +kernel
theorem dX8_mark_55 : decode cX8_mark 55 = .ok (.iadd, 1) := by decide +kernel
theorem dX8_mark_56 : decode cX8_mark 56 = .ok (.iload_n 1, 1) := by decide +kernel
theorem dX8_mark_57 : decode cX8_mark 57 = .ok (.iadd, 1) := by decide +kernel
theorem dX8_mark_58 : decode cX8_mark 58 = .ok (.aload_n 0, 1) := by decide +kernel
theorem dX8_mark_59 : decode cX8_mark 59 = .ok (.getfield 7, 3) := by decide +kernel
theorem dX8_mark_62 : decode cX8_mark 62 = .ok (.iload_n 1, 1) := by decide +kernel
theorem dX8_mark_63 : decode cX8_mark 63 = .ok (.iaload, 1) := by decide +kernel
theorem dX8_mark_64 : decode cX8_mark 64 = .ok (.iastore, 1) := by decide +kernel
theorem dX8_mark_65 : decode cX8_mark 65 = .ok (.iinc 1 1, 3) := by decide +kernel
theorem dX8_mark_68 : decode cX8_mark 68 = .ok (.goto (-39), 3) := by decide +kernel
theorem dX8_mark_71 : decode cX8_mark 71 = .ok (.aload_n 0, 1) := by decide +kernel
theorem dX8_mark_72 : decode cX8_mark 72 = .ok (.getfield 7, 3) := by decide +kernel
theorem dX8_mark_75 : decode cX8_mark 75 = .ok (.sipush 423, 3) := by decide +kernel
theorem dX8_mark_78 : decode cX8_mark 78 = .ok (.dup2, 1) := by decide +kernel
theorem dX8_mark_79 : decode cX8_mark 79 = .ok (.iaload, 1) := by decide +kernel
theorem dX8_mark_80 : decode cX8_mark 80 = .ok (.iconst 1, 1) := by decide +kernel
theorem dX8_mark_81 : decode cX8_mark 81 = .ok (.iadd, 1) := by decide +kernel
theorem dX8_mark_82 : decode cX8_mark 82 = .ok (.iastore, 1) := by decide +kernel
theorem dX8_mark_83 : decode cX8_mark 83 = .ok (.aload_n 0, 1) := by decide +kernel
theorem dX8_mark_84 : decode cX8_mark 84 = .ok (.getfield 7, 3) := by decide +kernel
theorem dX8_mark_87 : decode cX8_mark 87 = .ok (.sipush 423, 3) := by decide +kernel
theorem dX8_mark_90 : decode cX8_mark 90 = .ok (.iaload, 1) := by decide +kernel
theorem dX8_mark_91 : decode cX8_mark 91 = .ok (.ireturn, 1) := by decide +kernel
set_option maxRecDepth 20000 in
theorem ggX8_rollBack_X8_fails : GoodIn wsX8_rollBack wsX8_fails := goodIn_r _ [7, 1, 14, 15, 16, 17, 18, 19, 20, 21, 22, 23, 24, 25, 26, 27] (by decide +kernel) (by decide +kernel)
set_option maxRecDepth 20000 in
theorem gX8_rollBack_X8_fails : GoodIn wsX8_rollBack (wsV RX8 90 RX8 yX8_fails wsX8_fails) := goodIn_app (goodIn_of _ (by decide +kernel)) ggX8_rollBack_X8_fails
set_option maxRecDepth 20000 in
theorem ggX8_rollBack_X8_keep : GoodIn wsX8_rollBack wsX8_keep := goodIn_r _ [11, 12, 13, 2, 14, 15, 16, 17, 18, 19, 20, 21, 22, 23, 24, 25, 26, 27] (by decide +kernel) (by decide +kernel)
set_option maxRecDepth 20000 in
theorem gX8_rollBack_X8_keep : GoodIn wsX8_rollBack (wsV RX8 77 RX8 yX8_keep wsX8_keep) := goodIn_app (goodIn_of _ (by decide +kernel)) ggX8_rollBack_X8_keep
theorem dX8_rollBack_0 : decode cX8_rollBack 0 = .ok (.aload_n 0, 1) := by decide +kernel
theorem dX8_rollBack_1 : decode cX8_rollBack 1 = .ok (.iconst 0, 1) := by decide +kernel
theorem dX8_rollBack_2 : decode cX8_rollBack 2 = .ok (.putfield 31, 3) := by decide +kernel
theorem dX8_rollBack_5 : decode cX8_rollBack 5 = .ok (.aload_n 0, 1) := by decide +kernel
theorem dX8_rollBack_6 : decode cX8_rollBack 6 = .ok (.getfield 7, 3) := by decide +kernel
theorem dX8_rollBack_9 : decode cX8_rollBack 9 = .ok (.sipush 423, 3) := by decide +kernel
theorem dX8_rollBack_12 : decode cX8_rollBack 12 = .ok (.iaload, 1) := by decide +kernel
theorem dX8_rollBack_13 : decode cX8_rollBack 13 = .ok (.ifCond .ne 9, 3) := by decide +kernel
theorem dX8_rollBack_16 : decode cX8_rollBack 16 = .ok (.aload_n 0, 1) := by decide +kernel
theorem dX8_rollBack_17 : decode cX8_rollBack 17 = .ok (.iconst 1, 1) := by decide +kernel
theorem dX8_rollBack_18 : decode cX8_rollBack 18 = .ok (.invokevirtual 90, 3) := by decide +kernel
theorem dX8_rollBack_21 : decode cX8_rollBack 21 = .ok (.ireturn, 1) := by decide +kernel
theorem dX8_rollBack_22 : decode cX8_rollBack 22 = .ok (.aload_n 0, 1) := by decide +kernel
theorem dX8_rollBack_23 : decode cX8_rollBack 23 = .ok (.invokevirtual 77, 3) := by decide +kernel
theorem dX8_rollBack_26 : decode cX8_rollBack 26 = .ok (.aload_n 0, 1) := by decide +kernel
theorem dX8_rollBack_27 : decode cX8_rollBack 27 = .ok (.getfield 7, 3) := by decide +kernel
theorem dX8_rollBack_30 : decode cX8_rollBack 30 = .ok (.sipush 423, 3) := by decide +kernel
theorem dX8_rollBack_33 : decode cX8_rollBack 33 = .ok (.dup2, 1) := by decide +kernel
theorem dX8_rollBack_34 : decode cX8_rollBack 34 = .ok (.iaload, 1) := by decide +kernel
theorem dX8_rollBack_35 : decode cX8_rollBack 35 = .ok (.iconst 1, 1) := by decide +kernel
theorem dX8_rollBack_36 : decode cX8_rollBack 36 = .ok (.isub, 1) := by decide +kernel
theorem dX8_rollBack_37 : decode cX8_rollBack 37 = .ok (.iastore, 1) := by decide +kernel
theorem dX8_rollBack_38 : decode cX8_rollBack 38 = .ok (.iconst 0, 1) := by decide +kernel
theorem dX8_rollBack_39 : decode cX8_rollBack 39 = .ok (.istore_n 1, 1) := by decide +kernel
theorem dX8_rollBack_40 : decode cX8_rollBack 40 = .ok (.iload_n 1, 1) := by decide +kernel
theorem dX8_rollBack_41 : decode cX8_rollBack 41 = .ok (.sipush 242, 3) := by decide +kernel
theorem dX8_rollBack_44 : decode cX8_rollBack 44 = .ok (.if_icmp .ge 38, 3) := by decide +kernel
theorem dX8_rollBack_47 : decode cX8_rollBack 47 = .ok (.aload_n 0, 1) := by decide +kernel
theorem dX8_rollBack_48 : decode cX8_rollBack 48 = .ok (.getfield 7, 3) := by decide +kernel
theorem dX8_rollBack_51 : decode cX8_rollBack 51 = .ok (.iload_n 1, 1) := by decide +kernel
theorem dX8_rollBack_52 : decode cX8_rollBack 52 = .ok (.aload_n 0, 1) := by decide +kernel
theorem dX8_rollBack_53 : decode cX8_rollBack 53 = .ok (.getfield 7, 3) := by decide +kernel
theorem dX8_rollBack_56 : decode cX8_rollBack 56 = .ok (.sipush 424, 3) := by decide +kernel
theorem dX8_rollBack_59 : decode cX8_rollBack 59 = .ok (.sipush 242, 3) := by decide +kernel
theorem dX8_rollBack_62 : decode cX8_rollBack 62 = .ok (.aload_n 0, 1) := by decide +kernel
theorem dX8_rollBack_63 : decode cX8_rollBack 63 = .ok (.getfield 7, 3) := by decide +kernel
theorem dX8_rollBack_66 : decode cX8_rollBack 66 = .ok (.sipush 423, 3) := by decide +kernel
theorem dX8_rollBack_69 : decode cX8_rollBack 69 = .ok (.iaload, 1) := by decide +kernel
theorem dX8_rollBack_70 : decode cX8_rollBack 70 = .ok (.imul, 1) := by decide +kernel
theorem dX8_rollBack_71 : decode cX8_rollBack 71 = .ok (.iadd, 1) := by decide +kernel
theorem dX8_rollBack_72 : decode cX8_rollBack 72 = .ok (.iload_n 1, 1) := by decide +kernel
theorem dX8_rollBack_73 : decode cX8_rollBack 73 = .ok (.iadd, 1) := by decide +kernel
theorem dX8_rollBack_74 : decode cX8_rollBack 74 = .ok (.iaload, 1) := by decide +kernel
theorem dX8_rollBack_75 : decode cX8_rollBack 75 = .ok (.iastore, 1) := by decide +kernel
theorem dX8_rollBack_76 : decode cX8_rollBack 76 = .ok (.iinc 1 1, 3) := by decide +kernel
theorem dX8_rollBack_79 : decode cX8_rollBack 79 = .ok (.goto (-39), 3) := by decide +kernel
theorem dX8_rollBack_82 : decode cX8_rollBack 82 = .ok (.aload_n 0, 1) := by decide +kernel
theorem dX8_rollBack_83 : decode cX8_rollBack 83 = .ok (.getfield 7, 3) := by decide +kernel
theorem dX8_rollBack_86 : decode cX8_rollBack 86 = .ok (.sipush 423, 3) := by decide +kernel
theorem dX8_rollBack_89 : decode cX8_rollBack 89 = .ok (.iaload, 1) := by decide +kernel
theorem dX8_rollBack_90 : decode cX8_rollBack 90 = .ok (.ireturn, 1) := by decide +kernel
set_option maxRecDepth 20000 in
theorem ggX8_append_X8_in : GoodIn wsX8_append wsX8_in := goodIn_r _ [8] (by decide +kernel) (by decide +kernel)
set_option maxRecDepth 20000 in
theorem gX8_append_X8_in : GoodIn wsX8_append (va_wsS RX8 42 yX8_in wsX8_in) := goodIn_app (goodIn_of _ (by decide +kernel)) ggX8_append_X8_in
set_option maxRecDepth 20000 in
theorem ggX8_append_X8_fails : GoodIn wsX8_append wsX8_fails := goodIn_r _ [12, 1, 13, 14, 15, 16, 17, 18, 19, 20, 21, 22, 23, 24, 25, 26] (by decide +kernel) (by decide +kernel)
set_option maxRecDepth 20000 in
theorem gX8_append_X8_fails : GoodIn wsX8_append (wsV RX8 90 RX8 yX8_fails wsX8_fails) := goodIn_app (goodIn_of _ (by decide +kernel)) ggX8_append_X8_fails
theorem dX8_append_0 : decode cX8_append 0 = .ok (.aload_n 0, 1) := by decide +kernel
theorem dX8_append_1 : decode cX8_append 1 = .ok (.iconst 0, 1) := by decide +kernel
theorem dX8_append_2 : decode cX8_append 2 = .ok (.putfield 31, 3) := by decide +kernel
theorem dX8_append_5 : decode cX8_append 5 = .ok (.iload_n 1, 1) := by decide +kernel
theorem dX8_append_6 : decode cX8_append 6 = .ok (.i2l, 1) := by decide +kernel
theorem dX8_append_7 : decode cX8_append 7 = .ok (.lconst 0, 1) := by decide +kernel
theorem dX8_append_8 : decode cX8_append 8 = .ok (.ldc2_w 196, 3) := by decide +kernel
theorem dX8_append_11 : decode cX8_append 11 = .ok (.invokestatic 42, 3) := by decide +kernel
theorem dX8_append_14 : decode cX8_append 14 = .ok (.ifCond .ne 9, 3) := by decide +kernel
theorem dX8_append_17 : decode cX8_append 17 = .ok (.aload_n 0, 1) := by decide +kernel
theorem dX8_append_18 : decode cX8_append 18 = .ok (.iconst 1, 1) := by decide +kernel
theorem dX8_append_19 : decode cX8_append 19 = .ok (.invokevirtual 90, 3) := by decide +kernel
theorem dX8_append_22 : decode cX8_append 22 = .ok (.ireturn, 1) := by decide +kernel
theorem dX8_append_23 : decode cX8_append 23 = .ok (.aload_n 0, 1) := by decide +kernel
theorem dX8_append_24 : decode cX8_append 24 = .ok (.getfield 198, 3) := by decide +kernel
theorem dX8_append_27 : decode cX8_append 27 = .ok (.bipush 120, 2) := by decide +kernel
theorem dX8_append_29 : decode cX8_append 29 = .ok (.if_icmp .ne 9, 3) := by decide +kernel
theorem dX8_append_32 : decode cX8_append 32 = .ok (.aload_n 0, 1) := by decide +kernel
theorem dX8_append_33 : decode cX8_append 33 = .ok (.iconst 2, 1) := by decide +kernel
theorem dX8_append_34 : decode cX8_append 34 = .ok (.invokevirtual 90, 3) := by decide +kernel
theorem dX8_append_37 : decode cX8_append 37 = .ok (.ireturn, 1) := by decide +kernel
theorem dX8_append_38 : decode cX8_append 38 = .ok (.aload_n 0, 1) := by decide +kernel
theorem dX8_append_39 : decode cX8_append 39 = .ok (.getfield 16, 3) := by decide +kernel
theorem dX8_append_42 : decode cX8_append 42 = .ok (.aload_n 0, 1) := by decide +kernel
theorem dX8_append_43 : decode cX8_append 43 = .ok (.getfield 198, 3) := by decide +kernel
theorem dX8_append_46 : decode cX8_append 46 = .ok (.iload_n 1, 1) := by decide +kernel
theorem dX8_append_47 : decode cX8_append 47 = .ok (.iastore, 1) := by decide +kernel
theorem dX8_append_48 : decode cX8_append 48 = .ok (.aload_n 0, 1) := by decide +kernel
theorem dX8_append_49 : decode cX8_append 49 = .ok (.dup, 1) := by decide +kernel
theorem dX8_append_50 : decode cX8_append 50 = .ok (.getfield 198, 3) := by decide +kernel
theorem dX8_append_53 : decode cX8_append 53 = .ok (.iconst 1, 1) := by decide +kernel
theorem dX8_append_54 : decode cX8_append 54 = .ok (.iadd, 1) := by decide +kernel
theorem dX8_append_55 : decode cX8_append 55 = .ok (.putfield 198, 3) := by decide +kernel
theorem dX8_append_58 : decode cX8_append 58 = .ok (.aload_n 0, 1) := by decide +kernel
theorem dX8_append_59 : decode cX8_append 59 = .ok (.getfield 198, 3) := by decide +kernel
theorem dX8_append_62 : decode cX8_append 62 = .ok (.ireturn, 1) := by decide +kernel
theorem dX8_clearText_0 : decode cX8_clearText 0 = .ok (.aload_n 0, 1) := by decide +kernel
theorem dX8_clearText_1 : decode cX8_clearText 1 = .ok (.iconst 0, 1) := by decide +kernel
theorem dX8_clearText_2 : decode cX8_clearText 2 = .ok (.putfield 31, 3) := by decide +kernel
theorem dX8_clearText_5 : decode cX8_clearText 5 = .ok (.aload_n 0, 1) := by decide +kernel
theorem dX8_clearText_6 : decode cX8_clearText 6 = .ok (.getfield 198, 3) := by decide +kernel
theorem dX8_clearText_9 : decode cX8_clearText 9 = .ok (.istore_n 1, 1) := by decide +kernel
theorem dX8_clearText_10 : decode cX8_clearText 10 = .ok (.aload_n 0, 1) := by decide +kernel
theorem dX8_clearText_11 : decode cX8_clearText 11 = .ok (.iconst 0, 1) := by decide +kernel
theorem dX8_clearText_12 : decode cX8_clearText 12 = .ok (.putfield 198, 3) := by decide +kernel
theorem dX8_clearText_15 : decode cX8_clearText 15 = .ok (.iload_n 1, 1) := by decide +kernel
theorem dX8_clearText_16 : decode cX8_clearText 16 = .ok (.ireturn, 1) := by decide +kernel
theorem dX8_here_0 : decode cX8_here 0 = .ok (.aload_n 0, 1) := by decide +kernel
theorem dX8_here_1 : decode cX8_here 1 = .ok (.getfield 201, 3) := by decide +kernel
theorem dX8_here_4 : decode cX8_here 4 = .ok (.aload_n 0, 1) := by decide +kernel
theorem dX8_here_5 : decode cX8_here 5 = .ok (.getfield 198, 3) := by decide +kernel
theorem dX8_here_8 : decode cX8_here 8 = .ok (.if_icmp .ge 15, 3) := by decide +kernel
theorem dX8_here_11 : decode cX8_here 11 = .ok (.aload_n 0, 1) := by decide +kernel
theorem dX8_here_12 : decode cX8_here 12 = .ok (.getfield 16, 3) := by decide +kernel
theorem dX8_here_15 : decode cX8_here 15 = .ok (.aload_n 0, 1) := by decide +kernel
theorem dX8_here_16 : decode cX8_here 16 = .ok (.getfield 201, 3) := by decide +kernel
theorem dX8_here_19 : decode cX8_here 19 = .ok (.iaload, 1) := by decide +kernel
theorem dX8_here_20 : decode cX8_here 20 = .ok (.goto 4, 3) := by decide +kernel
theorem dX8_here_23 : decode cX8_here 23 = .ok (.iconst (-1), 1) := by decide +kernel
theorem dX8_here_24 : decode cX8_here 24 = .ok (.ireturn, 1) := by decide +kernel
set_option maxRecDepth 20000 in
theorem ggX8_takes_X8_here : GoodIn wsX8_takes wsX8_here := goodIn_r _ [6, 1, 7, 8, 9, 10, 11, 12, 13, 14, 15, 16, 17, 18, 19, 20, 21, 22] (by decide +kernel) (by decide +kernel)
set_option maxRecDepth 20000 in
theorem gX8_takes_X8_here : GoodIn wsX8_takes (wsV RX8 204 RX8 yX8_here wsX8_here) := goodIn_app (goodIn_of _ (by decide +kernel)) ggX8_takes_X8_here
theorem dX8_takes_0 : decode cX8_takes 0 = .ok (.aload_n 0, 1) := by decide +kernel
theorem dX8_takes_1 : decode cX8_takes 1 = .ok (.invokevirtual 204, 3) := by decide +kernel
theorem dX8_takes_4 : decode cX8_takes 4 = .ok (.iload_n 1, 1) := by decide +kernel
theorem dX8_takes_5 : decode cX8_takes 5 = .ok (.if_icmp .ne 7, 3) := by decide +kernel
theorem dX8_takes_8 : decode cX8_takes 8 = .ok (.iconst 1, 1) := by decide +kernel
theorem dX8_takes_9 : decode cX8_takes 9 = .ok (.goto 4, 3) := by decide +kernel
theorem dX8_takes_12 : decode cX8_takes 12 = .ok (.iconst 0, 1) := by decide +kernel
theorem dX8_takes_13 : decode cX8_takes 13 = .ok (.istore_n 2, 1) := by decide +kernel
theorem dX8_takes_14 : decode cX8_takes 14 = .ok (.aload_n 0, 1) := by decide +kernel
theorem dX8_takes_15 : decode cX8_takes 15 = .ok (.dup, 1) := by decide +kernel
theorem dX8_takes_16 : decode cX8_takes 16 = .ok (.getfield 201, 3) := by decide +kernel
theorem dX8_takes_19 : decode cX8_takes 19 = .ok (.iload_n 2, 1) := by decide +kernel
theorem dX8_takes_20 : decode cX8_takes 20 = .ok (.ifCond .eq 7, 3) := by decide +kernel
theorem dX8_takes_23 : decode cX8_takes 23 = .ok (.iconst 1, 1) := by decide +kernel
theorem dX8_takes_24 : decode cX8_takes 24 = .ok (.goto 4, 3) := by decide +kernel
theorem dX8_takes_27 : decode cX8_takes 27 = .ok (.iconst 0, 1) := by decide +kernel
theorem dX8_takes_28 : decode cX8_takes 28 = .ok (.iadd, 1) := by decide +kernel
theorem dX8_takes_29 : decode cX8_takes 29 = .ok (.putfield 201, 3) := by decide +kernel
theorem dX8_takes_32 : decode cX8_takes 32 = .ok (.iload_n 2, 1) := by decide +kernel
theorem dX8_takes_33 : decode cX8_takes 33 = .ok (.ireturn, 1) := by decide +kernel
theorem dX8_numbersOf_0 : decode cX8_numbersOf 0 = .ok (.iload_n 0, 1) := by decide +kernel
theorem dX8_numbersOf_1 : decode cX8_numbersOf 1 = .ok (.tableswitch 103 97 116 #[95, 103, 103, 103, 99, 103, 103, 103, 103, 103, 103, 103, 97, 103, 103, 103, 97, 103, 101, 99], 95) := by decide +kernel
theorem dX8_numbersOf_96 : decode cX8_numbersOf 96 = .ok (.iconst 4, 1) := by decide +kernel
theorem dX8_numbersOf_97 : decode cX8_numbersOf 97 = .ok (.ireturn, 1) := by decide +kernel
theorem dX8_numbersOf_98 : decode cX8_numbersOf 98 = .ok (.iconst 2, 1) := by decide +kernel
theorem dX8_numbersOf_99 : decode cX8_numbersOf 99 = .ok (.ireturn, 1) := by decide +kernel
theorem dX8_numbersOf_100 : decode cX8_numbersOf 100 = .ok (.iconst 1, 1) := by decide +kernel
theorem dX8_numbersOf_101 : decode cX8_numbersOf 101 = .ok (.ireturn, 1) := by decide +kernel
theorem dX8_numbersOf_102 : decode cX8_numbersOf 102 = .ok (.iconst 0, 1) := by decide +kernel
theorem dX8_numbersOf_103 : decode cX8_numbersOf 103 = .ok (.ireturn, 1) := by decide +kernel
theorem dX8_numbersOf_104 : decode cX8_numbersOf 104 = .ok (.iconst (-1), 1) := by decide +kernel
theorem dX8_numbersOf_105 : decode cX8_numbersOf 105 = .ok (.ireturn, 1) := by decide +kernel
set_option maxRecDepth 20000 in
theorem ggX8_readsNumber_X8_takes : GoodIn wsX8_readsNumber wsX8_takes := goodIn_r _ [10, 3, 11, 12, 13, 9, 14, 15, 16, 20, 21, 22, 23, 24, 25, 26, 27, 28, 29, 30, 31, 32, 33] (by decide +kernel) (by decide +kernel)
set_option maxRecDepth 20000 in
theorem gX8_readsNumber_X8_takes : GoodIn wsX8_readsNumber (wsV RX8 207 RX8 yX8_takes wsX8_takes) := goodIn_app (goodIn_of _ (by decide +kernel)) ggX8_readsNumber_X8_takes
set_option maxRecDepth 20000 in
theorem ggX8_readsNumber_X8_here : GoodIn wsX8_readsNumber wsX8_here := goodIn_r _ [14, 3, 15, 16, 20, 21, 22, 23, 24, 25, 26, 27, 28, 29, 30, 31, 32, 33] (by decide +kernel) (by decide +kernel)
set_option maxRecDepth 20000 in
theorem gX8_readsNumber_X8_here : GoodIn wsX8_readsNumber (wsV RX8 204 RX8 yX8_here wsX8_here) := goodIn_app (goodIn_of _ (by decide +kernel)) ggX8_readsNumber_X8_here
set_option maxRecDepth 20000 in
theorem ggX8_readsNumber_X8_in : GoodIn wsX8_readsNumber wsX8_in := goodIn_r _ [19] (by decide +kernel) (by decide +kernel)
set_option maxRecDepth 20000 in
theorem gX8_readsNumber_X8_in : GoodIn wsX8_readsNumber (va_wsS RX8 42 yX8_in wsX8_in) := goodIn_app (goodIn_of _ (by decide +kernel)) ggX8_readsNumber_X8_in
theorem dX8_readsNumber_0 : decode cX8_readsNumber 0 = .ok (.aload_n 0, 1) := by decide +kernel
theorem dX8_readsNumber_1 : decode cX8_readsNumber 1 = .ok (.bipush 32, 2) := by decide +kernel
theorem dX8_readsNumber_3 : decode cX8_readsNumber 3 = .ok (.invokevirtual 207, 3) := by decide +kernel
theorem dX8_readsNumber_6 : decode cX8_readsNumber 6 = .ok (.ifCond .ne 5, 3) := by decide +kernel
theorem dX8_readsNumber_9 : decode cX8_readsNumber 9 = .ok (.iconst 0, 1) := by decide +kernel
theorem dX8_readsNumber_10 : decode cX8_readsNumber 10 = .ok (.ireturn, 1) := by decide +kernel
theorem dX8_readsNumber_11 : decode cX8_readsNumber 11 = .ok (.aload_n 0, 1) := by decide +kernel
theorem dX8_readsNumber_12 : decode cX8_readsNumber 12 = .ok (.bipush 45, 2) := by decide +kernel
theorem dX8_readsNumber_14 : decode cX8_readsNumber 14 = .ok (.invokevirtual 207, 3) := by decide +kernel
theorem dX8_readsNumber_17 : decode cX8_readsNumber 17 = .ok (.istore_n 2, 1) := by decide +kernel
theorem dX8_readsNumber_18 : decode cX8_readsNumber 18 = .ok (.iconst 0, 1) := by decide +kernel
theorem dX8_readsNumber_19 : decode cX8_readsNumber 19 = .ok (.istore_n 3, 1) := by decide +kernel
theorem dX8_readsNumber_20 : decode cX8_readsNumber 20 = .ok (.iconst 0, 1) := by decide +kernel
theorem dX8_readsNumber_21 : decode cX8_readsNumber 21 = .ok (.istore 4, 2) := by decide +kernel
theorem dX8_readsNumber_23 : decode cX8_readsNumber 23 = .ok (.iload_n 3, 1) := by decide +kernel
theorem dX8_readsNumber_24 : decode cX8_readsNumber 24 = .ok (.bipush 7, 2) := by decide +kernel
theorem dX8_readsNumber_26 : decode cX8_readsNumber 26 = .ok (.if_icmp .ge 51, 3) := by decide +kernel
theorem dX8_readsNumber_29 : decode cX8_readsNumber 29 = .ok (.aload_n 0, 1) := by decide +kernel
theorem dX8_readsNumber_30 : decode cX8_readsNumber 30 = .ok (.invokevirtual 204, 3) := by decide +kernel
theorem dX8_readsNumber_33 : decode cX8_readsNumber 33 = .ok (.i2l, 1) := by decide +kernel
theorem dX8_readsNumber_34 : decode cX8_readsNumber 34 = .ok (.ldc2_w 210, 3) := by decide +kernel
theorem dX8_readsNumber_37 : decode cX8_readsNumber 37 = .ok (.ldc2_w 212, 3) := by decide +kernel
theorem dX8_readsNumber_40 : decode cX8_readsNumber 40 = .ok (.invokestatic 42, 3) := by decide +kernel
theorem dX8_readsNumber_43 : decode cX8_readsNumber 43 = .ok (.ifCond .eq 34, 3) := by decide +kernel
theorem dX8_readsNumber_46 : decode cX8_readsNumber 46 = .ok (.bipush 10, 2) := by decide +kernel
theorem dX8_readsNumber_48 : decode cX8_readsNumber 48 = .ok (.iload 4, 2) := by decide +kernel
theorem dX8_readsNumber_50 : decode cX8_readsNumber 50 = .ok (.imul, 1) := by decide +kernel
theorem dX8_readsNumber_51 : decode cX8_readsNumber 51 = .ok (.aload_n 0, 1) := by decide +kernel
theorem dX8_readsNumber_52 : decode cX8_readsNumber 52 = .ok (.invokevirtual 204, 3) := by decide +kernel
theorem dX8_readsNumber_55 : decode cX8_readsNumber 55 = .ok (.iadd, 1) := by decide +kernel
theorem dX8_readsNumber_56 : decode cX8_readsNumber 56 = .ok (.bipush 48, 2) := by decide +kernel
theorem dX8_readsNumber_58 : decode cX8_readsNumber 58 = .ok (.isub, 1) := by decide +kernel
theorem dX8_readsNumber_59 : decode cX8_readsNumber 59 = .ok (.istore 4, 2) := by decide +kernel
theorem dX8_readsNumber_61 : decode cX8_readsNumber 61 = .ok (.iinc 3 1, 3) := by decide +kernel
theorem dX8_readsNumber_64 : decode cX8_readsNumber 64 = .ok (.aload_n 0, 1) := by decide +kernel
theorem dX8_readsNumber_65 : decode cX8_readsNumber 65 = .ok (.dup, 1) := by decide +kernel
theorem dX8_readsNumber_66 : decode cX8_readsNumber 66 = .ok (.getfield 201, 3) := by decide +kernel
theorem dX8_readsNumber_69 : decode cX8_readsNumber 69 = .ok (.iconst 1, 1) := by decide +kernel
theorem dX8_readsNumber_70 : decode cX8_readsNumber 70 = .ok (.iadd, 1) := by decide +kernel
theorem dX8_readsNumber_71 : decode cX8_readsNumber 71 = .ok (.putfield 201, 3) := by decide +kernel
theorem dX8_readsNumber_74 : decode cX8_readsNumber 74 = .ok (.goto (-51), 3) := by decide +kernel
theorem dX8_readsNumber_77 : decode cX8_readsNumber 77 = .ok (.aload_n 0, 1) := by decide +kernel
theorem dX8_readsNumber_78 : decode cX8_readsNumber 78 = .ok (.getfield 25, 3) := by decide +kernel
theorem dX8_readsNumber_81 : decode cX8_readsNumber 81 = .ok (.iconst 4, 1) := by decide +kernel
theorem dX8_readsNumber_82 : decode cX8_readsNumber 82 = .ok (.aload_n 0, 1) := by decide +kernel
theorem dX8_readsNumber_83 : decode cX8_readsNumber 83 = .ok (.getfield 214, 3) := by decide +kernel
theorem dX8_readsNumber_86 : decode cX8_readsNumber 86 = .ok (.imul, 1) := by decide +kernel
theorem dX8_readsNumber_87 : decode cX8_readsNumber 87 = .ok (.iload_n 1, 1) := by decide +kernel
theorem dX8_readsNumber_88 : decode cX8_readsNumber 88 = .ok (.iadd, 1) := by decide +kernel
theorem dX8_readsNumber_89 : decode cX8_readsNumber 89 = .ok (.iload_n 2, 1) := by decide +kernel
theorem dX8_readsNumber_90 : decode cX8_readsNumber 90 = .ok (.ifCond .eq 9, 3) := by decide +kernel
theorem dX8_readsNumber_93 : decode cX8_readsNumber 93 = .ok (.iload 4, 2) := by decide +kernel
theorem dX8_readsNumber_95 : decode cX8_readsNumber 95 = .ok (.ineg, 1) := by decide +kernel
theorem dX8_readsNumber_96 : decode cX8_readsNumber 96 = .ok (.goto 5, 3) := by decide +kernel
theorem dX8_readsNumber_99 : decode cX8_readsNumber 99 = .ok (.iload 4, 2) := by decide +kernel
theorem dX8_readsNumber_101 : decode cX8_readsNumber 101 = .ok (.iastore, 1) := by decide +kernel
theorem dX8_readsNumber_102 : decode cX8_readsNumber 102 = .ok (.iload_n 3, 1) := by decide +kernel
theorem dX8_readsNumber_103 : decode cX8_readsNumber 103 = .ok (.ifCond .le 7, 3) := by decide +kernel
theorem dX8_readsNumber_106 : decode cX8_readsNumber 106 = .ok (.iconst 1, 1) := by decide +kernel
theorem dX8_readsNumber_107 : decode cX8_readsNumber 107 = .ok (.goto 4, 3) := by decide +kernel
theorem dX8_readsNumber_110 : decode cX8_readsNumber 110 = .ok (.iconst 0, 1) := by decide +kernel
theorem dX8_readsNumber_111 : decode cX8_readsNumber 111 = .ok (.ireturn, 1) := by decide +kernel
set_option maxRecDepth 20000 in
theorem ggX8_readsCommand_X8_here : GoodIn wsX8_readsCommand wsX8_here := goodIn_r _ [8, 3, 9, 10, 28, 29, 30, 31, 32, 33, 34, 35, 36, 37, 38, 39, 40, 41] (by decide +kernel) (by decide +kernel)
set_option maxRecDepth 20000 in
theorem gX8_readsCommand_X8_here : GoodIn wsX8_readsCommand (wsV RX8 204 RX8 yX8_here wsX8_here) := goodIn_app (goodIn_of _ (by decide +kernel)) ggX8_readsCommand_X8_here
set_option maxRecDepth 20000 in
theorem ggX8_readsCommand_X8_numbersOf : GoodIn wsX8_readsCommand wsX8_numbersOf := goodIn_r _ [13] (by decide +kernel) (by decide +kernel)
set_option maxRecDepth 20000 in
theorem gX8_readsCommand_X8_numbersOf : GoodIn wsX8_readsCommand (va_wsS RX8 217 yX8_numbersOf wsX8_numbersOf) := goodIn_app (goodIn_of _ (by decide +kernel)) ggX8_readsCommand_X8_numbersOf
set_option maxRecDepth 20000 in
theorem ggX8_readsCommand_X8_readsNumber : GoodIn wsX8_readsCommand wsX8_readsNumber := goodIn_r _ [17, 18, 19, 3, 20, 2, 21, 22, 23, 7, 24, 4, 5, 6, 8, 9, 10, 25, 26, 27, 28, 29, 30, 31, 32, 33, 34, 35, 36, 37, 38, 39, 40, 41] (by decide +kernel) (by decide +kernel)
set_option maxRecDepth 20000 in
theorem gX8_readsCommand_X8_readsNumber : GoodIn wsX8_readsCommand (wsV RX8 220 RX8 yX8_readsNumber wsX8_readsNumber) := goodIn_app (goodIn_of _ (by decide +kernel)) ggX8_readsCommand_X8_readsNumber
set_option maxRecDepth 20000 in
theorem ggX8_readsCommand_X8_takes : GoodIn wsX8_readsCommand wsX8_takes := goodIn_r _ [24, 3, 4, 5, 6, 7, 8, 9, 10, 28, 29, 30, 31, 32, 33, 34, 35, 36, 37, 38, 39, 40, 41] (by decide +kernel) (by decide +kernel)
set_option maxRecDepth 20000 in
theorem gX8_readsCommand_X8_takes : GoodIn wsX8_readsCommand (wsV RX8 207 RX8 yX8_takes wsX8_takes) := goodIn_app (goodIn_of _ (by decide +kernel)) ggX8_readsCommand_X8_takes
theorem dX8_readsCommand_0 : decode cX8_readsCommand 0 = .ok (.aload_n 0, 1) := by decide +kernel
theorem dX8_readsCommand_1 : decode cX8_readsCommand 1 = .ok (.invokevirtual 204, 3) := by decide +kernel
theorem dX8_readsCommand_4 : decode cX8_readsCommand 4 = .ok (.invokestatic 217, 3) := by decide +kernel
theorem dX8_readsCommand_7 : decode cX8_readsCommand 7 = .ok (.istore_n 1, 1) := by decide +kernel
theorem dX8_readsCommand_8 : decode cX8_readsCommand 8 = .ok (.iload_n 1, 1) := by decide +kernel
theorem dX8_readsCommand_9 : decode cX8_readsCommand 9 = .ok (.iconst (-1), 1) := by decide +kernel
theorem dX8_readsCommand_10 : decode cX8_readsCommand 10 = .ok (.if_icmp .ne 5, 3) := by decide +kernel
theorem dX8_readsCommand_13 : decode cX8_readsCommand 13 = .ok (.iconst 0, 1) := by decide +kernel
theorem dX8_readsCommand_14 : decode cX8_readsCommand 14 = .ok (.ireturn, 1) := by decide +kernel
theorem dX8_readsCommand_15 : decode cX8_readsCommand 15 = .ok (.aload_n 0, 1) := by decide +kernel
theorem dX8_readsCommand_16 : decode cX8_readsCommand 16 = .ok (.getfield 22, 3) := by decide +kernel
theorem dX8_readsCommand_19 : decode cX8_readsCommand 19 = .ok (.aload_n 0, 1) := by decide +kernel
theorem dX8_readsCommand_20 : decode cX8_readsCommand 20 = .ok (.getfield 214, 3) := by decide +kernel
theorem dX8_readsCommand_23 : decode cX8_readsCommand 23 = .ok (.aload_n 0, 1) := by decide +kernel
theorem dX8_readsCommand_24 : decode cX8_readsCommand 24 = .ok (.invokevirtual 204, 3) := by decide +kernel
theorem dX8_readsCommand_27 : decode cX8_readsCommand 27 = .ok (.iastore, 1) := by decide +kernel
theorem dX8_readsCommand_28 : decode cX8_readsCommand 28 = .ok (.aload_n 0, 1) := by decide +kernel
theorem dX8_readsCommand_29 : decode cX8_readsCommand 29 = .ok (.dup, 1) := by decide +kernel
theorem dX8_readsCommand_30 : decode cX8_readsCommand 30 = .ok (.getfield 201, 3) := by decide +kernel
theorem dX8_readsCommand_33 : decode cX8_readsCommand 33 = .ok (.iconst 1, 1) := by decide +kernel
theorem dX8_readsCommand_34 : decode cX8_readsCommand 34 = .ok (.iadd, 1) := by decide +kernel
theorem dX8_readsCommand_35 : decode cX8_readsCommand 35 = .ok (.putfield 201, 3) := by decide +kernel
theorem dX8_readsCommand_38 : decode cX8_readsCommand 38 = .ok (.iconst 0, 1) := by decide +kernel
theorem dX8_readsCommand_39 : decode cX8_readsCommand 39 = .ok (.istore_n 2, 1) := by decide +kernel
theorem dX8_readsCommand_40 : decode cX8_readsCommand 40 = .ok (.iload_n 2, 1) := by decide +kernel
theorem dX8_readsCommand_41 : decode cX8_readsCommand 41 = .ok (.iload_n 1, 1) := by decide +kernel
theorem dX8_readsCommand_42 : decode cX8_readsCommand 42 = .ok (.if_icmp .ge 19, 3) := by decide +kernel
theorem dX8_readsCommand_45 : decode cX8_readsCommand 45 = .ok (.aload_n 0, 1) := by decide +kernel
theorem dX8_readsCommand_46 : decode cX8_readsCommand 46 = .ok (.iload_n 2, 1) := by decide +kernel
theorem dX8_readsCommand_47 : decode cX8_readsCommand 47 = .ok (.invokevirtual 220, 3) := by decide +kernel
theorem dX8_readsCommand_50 : decode cX8_readsCommand 50 = .ok (.ifCond .ne 5, 3) := by decide +kernel
theorem dX8_readsCommand_53 : decode cX8_readsCommand 53 = .ok (.iconst 0, 1) := by decide +kernel
theorem dX8_readsCommand_54 : decode cX8_readsCommand 54 = .ok (.ireturn, 1) := by decide +kernel
theorem dX8_readsCommand_55 : decode cX8_readsCommand 55 = .ok (.iinc 2 1, 3) := by decide +kernel
theorem dX8_readsCommand_58 : decode cX8_readsCommand 58 = .ok (.goto (-18), 3) := by decide +kernel
theorem dX8_readsCommand_61 : decode cX8_readsCommand 61 = .ok (.aload_n 0, 1) := by decide +kernel
theorem dX8_readsCommand_62 : decode cX8_readsCommand 62 = .ok (.dup, 1) := by decide +kernel
theorem dX8_readsCommand_63 : decode cX8_readsCommand 63 = .ok (.getfield 214, 3) := by decide +kernel
theorem dX8_readsCommand_66 : decode cX8_readsCommand 66 = .ok (.iconst 1, 1) := by decide +kernel
theorem dX8_readsCommand_67 : decode cX8_readsCommand 67 = .ok (.iadd, 1) := by decide +kernel
theorem dX8_readsCommand_68 : decode cX8_readsCommand 68 = .ok (.putfield 214, 3) := by decide +kernel
theorem dX8_readsCommand_71 : decode cX8_readsCommand 71 = .ok (.aload_n 0, 1) := by decide +kernel
theorem dX8_readsCommand_72 : decode cX8_readsCommand 72 = .ok (.bipush 59, 2) := by decide +kernel
theorem dX8_readsCommand_74 : decode cX8_readsCommand 74 = .ok (.invokevirtual 207, 3) := by decide +kernel
theorem dX8_readsCommand_77 : decode cX8_readsCommand 77 = .ok (.ireturn, 1) := by decide +kernel
set_option maxRecDepth 20000 in
theorem ggX8_readsAll_X8_here : GoodIn wsX8_readsAll wsX8_here := goodIn_r _ [7, 1, 8, 9, 32, 33, 34, 35, 36, 37, 38, 39, 40, 41, 42, 43, 44, 45] (by decide +kernel) (by decide +kernel)
set_option maxRecDepth 20000 in
theorem gX8_readsAll_X8_here : GoodIn wsX8_readsAll (wsV RX8 204 RX8 yX8_here wsX8_here) := goodIn_app (goodIn_of _ (by decide +kernel)) ggX8_readsAll_X8_here
set_option maxRecDepth 20000 in
theorem ggX8_readsAll_X8_readsCommand : GoodIn wsX8_readsAll wsX8_readsCommand := goodIn_r _ [13, 14, 2, 1, 3, 4, 5, 6, 7, 8, 9, 15, 16, 17, 18, 19, 20, 21, 22, 23, 24, 25, 26, 27, 28, 29, 30, 31, 32, 33, 34, 35, 36, 37, 38, 39, 40, 41, 42, 43, 44, 45] (by decide +kernel) (by decide +kernel)
set_option maxRecDepth 20000 in
theorem gX8_readsAll_X8_readsCommand : GoodIn wsX8_readsAll (wsV RX8 223 RX8 yX8_readsCommand wsX8_readsCommand) := goodIn_app (goodIn_of _ (by decide +kernel)) ggX8_readsAll_X8_readsCommand
theorem dX8_readsAll_0 : decode cX8_readsAll 0 = .ok (.aload_n 0, 1) := by decide +kernel
theorem dX8_readsAll_1 : decode cX8_readsAll 1 = .ok (.iconst 0, 1) := by decide +kernel
theorem dX8_readsAll_2 : decode cX8_readsAll 2 = .ok (.putfield 201, 3) := by decide +kernel
theorem dX8_readsAll_5 : decode cX8_readsAll 5 = .ok (.aload_n 0, 1) := by decide +kernel
theorem dX8_readsAll_6 : decode cX8_readsAll 6 = .ok (.iconst 0, 1) := by decide +kernel
theorem dX8_readsAll_7 : decode cX8_readsAll 7 = .ok (.putfield 214, 3) := by decide +kernel
theorem dX8_readsAll_10 : decode cX8_readsAll 10 = .ok (.iconst 1, 1) := by decide +kernel
theorem dX8_readsAll_11 : decode cX8_readsAll 11 = .ok (.istore_n 1, 1) := by decide +kernel
theorem dX8_readsAll_12 : decode cX8_readsAll 12 = .ok (.iload_n 1, 1) := by decide +kernel
theorem dX8_readsAll_13 : decode cX8_readsAll 13 = .ok (.ifCond .eq 19, 3) := by decide +kernel
theorem dX8_readsAll_16 : decode cX8_readsAll 16 = .ok (.aload_n 0, 1) := by decide +kernel
theorem dX8_readsAll_17 : decode cX8_readsAll 17 = .ok (.invokevirtual 204, 3) := by decide +kernel
theorem dX8_readsAll_20 : decode cX8_readsAll 20 = .ok (.iconst (-1), 1) := by decide +kernel
theorem dX8_readsAll_21 : decode cX8_readsAll 21 = .ok (.if_icmp .eq 11, 3) := by decide +kernel
theorem dX8_readsAll_24 : decode cX8_readsAll 24 = .ok (.aload_n 0, 1) := by decide +kernel
theorem dX8_readsAll_25 : decode cX8_readsAll 25 = .ok (.invokevirtual 223, 3) := by decide +kernel
theorem dX8_readsAll_28 : decode cX8_readsAll 28 = .ok (.istore_n 1, 1) := by decide +kernel
theorem dX8_readsAll_29 : decode cX8_readsAll 29 = .ok (.goto (-17), 3) := by decide +kernel
theorem dX8_readsAll_32 : decode cX8_readsAll 32 = .ok (.iload_n 1, 1) := by decide +kernel
theorem dX8_readsAll_33 : decode cX8_readsAll 33 = .ok (.ireturn, 1) := by decide +kernel
set_option maxRecDepth 20000 in
theorem ggX8_whyNotDo_X8_whyNotAdd : GoodIn wsX8_whyNotDo wsX8_whyNotAdd := goodIn_r _ [7, 8, 9, 6, 10, 11, 12, 13, 14, 15, 16, 17, 18, 19, 20, 21, 22, 23, 24, 25, 26, 68, 69, 70, 71, 72, 73, 74, 75, 76, 77, 78, 79, 80, 81] (by decide +kernel) (by decide +kernel)
set_option maxRecDepth 20000 in
theorem gX8_whyNotDo_X8_whyNotAdd : GoodIn wsX8_whyNotDo (wsV RX8 73 RX8 yX8_whyNotAdd wsX8_whyNotAdd) := goodIn_app (goodIn_of _ (by decide +kernel)) ggX8_whyNotDo_X8_whyNotAdd
set_option maxRecDepth 20000 in
theorem ggX8_whyNotDo_X8_whyNotEnd : GoodIn wsX8_whyNotDo wsX8_whyNotEnd := goodIn_r _ [30, 26, 31, 32, 33, 6, 34, 15, 16, 17, 35, 36, 37, 38, 39, 40, 41, 42, 43, 44, 45, 68, 69, 70, 71, 72, 73, 74, 75, 76, 77, 78, 79, 80, 81] (by decide +kernel) (by decide +kernel)
set_option maxRecDepth 20000 in
theorem gX8_whyNotDo_X8_whyNotEnd : GoodIn wsX8_whyNotDo (wsV RX8 100 RX8 yX8_whyNotEnd wsX8_whyNotEnd) := goodIn_app (goodIn_of _ (by decide +kernel)) ggX8_whyNotDo_X8_whyNotEnd
set_option maxRecDepth 20000 in
theorem ggX8_whyNotDo_X8_whyNotPass : GoodIn wsX8_whyNotDo wsX8_whyNotPass := goodIn_r _ [49, 12, 26, 15, 16, 6, 17, 68, 69, 70, 71, 72, 73, 74, 75, 76, 77, 78, 79, 80, 81] (by decide +kernel) (by decide +kernel)
set_option maxRecDepth 20000 in
theorem gX8_whyNotDo_X8_whyNotPass : GoodIn wsX8_whyNotDo (wsV RX8 112 RX8 yX8_whyNotPass wsX8_whyNotPass) := goodIn_app (goodIn_of _ (by decide +kernel)) ggX8_whyNotDo_X8_whyNotPass
set_option maxRecDepth 20000 in
theorem ggX8_whyNotDo_X8_whyNotLift : GoodIn wsX8_whyNotDo wsX8_whyNotLift := goodIn_r _ [53, 26, 31, 32, 33, 6, 34, 15, 16, 17, 54, 55, 56, 13, 14, 39, 40, 41, 42, 43, 44, 45, 35, 36, 37, 38, 22, 23, 24, 25, 68, 69, 70, 71, 72, 73, 74, 75, 76, 77, 78, 79, 80, 81] (by decide +kernel) (by decide +kernel)
set_option maxRecDepth 20000 in
theorem gX8_whyNotDo_X8_whyNotLift : GoodIn wsX8_whyNotDo (wsV RX8 106 RX8 yX8_whyNotLift wsX8_whyNotLift) := goodIn_app (goodIn_of _ (by decide +kernel)) ggX8_whyNotDo_X8_whyNotLift
set_option maxRecDepth 20000 in
theorem ggX8_whyNotDo_X8_whyNotCollect : GoodIn wsX8_whyNotDo wsX8_whyNotCollect := goodIn_r _ [60, 26, 61, 62, 6, 63, 18, 19, 20, 21, 15, 16, 17, 64, 65, 66, 67, 68, 69, 70, 71, 72, 73, 74, 75, 76, 77, 78, 79, 80, 81] (by decide +kernel) (by decide +kernel)
set_option maxRecDepth 20000 in
theorem gX8_whyNotDo_X8_whyNotCollect : GoodIn wsX8_whyNotDo (wsV RX8 182 RX8 yX8_whyNotCollect wsX8_whyNotCollect) := goodIn_app (goodIn_of _ (by decide +kernel)) ggX8_whyNotDo_X8_whyNotCollect
theorem dX8_whyNotDo_0 : decode cX8_whyNotDo 0 = .ok (.aload_n 0, 1) := by decide +kernel
theorem dX8_whyNotDo_1 : decode cX8_whyNotDo 1 = .ok (.getfield 25, 3) := by decide +kernel
theorem dX8_whyNotDo_4 : decode cX8_whyNotDo 4 = .ok (.iconst 4, 1) := by decide +kernel
theorem dX8_whyNotDo_5 : decode cX8_whyNotDo 5 = .ok (.iload_n 1, 1) := by decide +kernel
theorem dX8_whyNotDo_6 : decode cX8_whyNotDo 6 = .ok (.imul, 1) := by decide +kernel
theorem dX8_whyNotDo_7 : decode cX8_whyNotDo 7 = .ok (.iaload, 1) := by decide +kernel
theorem dX8_whyNotDo_8 : decode cX8_whyNotDo 8 = .ok (.istore_n 2, 1) := by decide +kernel
theorem dX8_whyNotDo_9 : decode cX8_whyNotDo 9 = .ok (.aload_n 0, 1) := by decide +kernel
theorem dX8_whyNotDo_10 : decode cX8_whyNotDo 10 = .ok (.getfield 25, 3) := by decide +kernel
theorem dX8_whyNotDo_13 : decode cX8_whyNotDo 13 = .ok (.iconst 4, 1) := by decide +kernel
theorem dX8_whyNotDo_14 : decode cX8_whyNotDo 14 = .ok (.iload_n 1, 1) := by decide +kernel
theorem dX8_whyNotDo_15 : decode cX8_whyNotDo 15 = .ok (.imul, 1) := by decide +kernel
theorem dX8_whyNotDo_16 : decode cX8_whyNotDo 16 = .ok (.iconst 1, 1) := by decide +kernel
theorem dX8_whyNotDo_17 : decode cX8_whyNotDo 17 = .ok (.iadd, 1) := by decide +kernel
theorem dX8_whyNotDo_18 : decode cX8_whyNotDo 18 = .ok (.iaload, 1) := by decide +kernel
theorem dX8_whyNotDo_19 : decode cX8_whyNotDo 19 = .ok (.istore_n 3, 1) := by decide +kernel
theorem dX8_whyNotDo_20 : decode cX8_whyNotDo 20 = .ok (.aload_n 0, 1) := by decide +kernel
theorem dX8_whyNotDo_21 : decode cX8_whyNotDo 21 = .ok (.getfield 22, 3) := by decide +kernel
theorem dX8_whyNotDo_24 : decode cX8_whyNotDo 24 = .ok (.iload_n 1, 1) := by decide +kernel
theorem dX8_whyNotDo_25 : decode cX8_whyNotDo 25 = .ok (.iaload, 1) := by decide +kernel
theorem dX8_whyNotDo_26 : decode cX8_whyNotDo 26 = .ok (.lookupswitch 103 #[(97, 50), (101, 77), (109, 89), (113, 96), (116, 83)], 50) := by decide +kernel
theorem dX8_whyNotDo_76 : decode cX8_whyNotDo 76 = .ok (.aload_n 0, 1) := by decide +kernel
theorem dX8_whyNotDo_77 : decode cX8_whyNotDo 77 = .ok (.iload_n 2, 1) := by decide +kernel
theorem dX8_whyNotDo_78 : decode cX8_whyNotDo 78 = .ok (.iload_n 3, 1) := by decide +kernel
theorem dX8_whyNotDo_79 : decode cX8_whyNotDo 79 = .ok (.aload_n 0, 1) := by decide +kernel
theorem dX8_whyNotDo_80 : decode cX8_whyNotDo 80 = .ok (.getfield 25, 3) := by decide +kernel
theorem dX8_whyNotDo_83 : decode cX8_whyNotDo 83 = .ok (.iconst 4, 1) := by decide +kernel
theorem dX8_whyNotDo_84 : decode cX8_whyNotDo 84 = .ok (.iload_n 1, 1) := by decide +kernel
theorem dX8_whyNotDo_85 : decode cX8_whyNotDo 85 = .ok (.imul, 1) := by decide +kernel
theorem dX8_whyNotDo_86 : decode cX8_whyNotDo 86 = .ok (.iconst 2, 1) := by decide +kernel
theorem dX8_whyNotDo_87 : decode cX8_whyNotDo 87 = .ok (.iadd, 1) := by decide +kernel
theorem dX8_whyNotDo_88 : decode cX8_whyNotDo 88 = .ok (.iaload, 1) := by decide +kernel
theorem dX8_whyNotDo_89 : decode cX8_whyNotDo 89 = .ok (.aload_n 0, 1) := by decide +kernel
theorem dX8_whyNotDo_90 : decode cX8_whyNotDo 90 = .ok (.getfield 25, 3) := by decide +kernel
theorem dX8_whyNotDo_93 : decode cX8_whyNotDo 93 = .ok (.iconst 4, 1) := by decide +kernel
theorem dX8_whyNotDo_94 : decode cX8_whyNotDo 94 = .ok (.iload_n 1, 1) := by decide +kernel
theorem dX8_whyNotDo_95 : decode cX8_whyNotDo 95 = .ok (.imul, 1) := by decide +kernel
theorem dX8_whyNotDo_96 : decode cX8_whyNotDo 96 = .ok (.iconst 3, 1) := by decide +kernel
theorem dX8_whyNotDo_97 : decode cX8_whyNotDo 97 = .ok (.iadd, 1) := by decide +kernel
theorem dX8_whyNotDo_98 : decode cX8_whyNotDo 98 = .ok (.iaload, 1) := by decide +kernel
theorem dX8_whyNotDo_99 : decode cX8_whyNotDo 99 = .ok (.invokevirtual 73, 3) := by decide +kernel
theorem dX8_whyNotDo_102 : decode cX8_whyNotDo 102 = .ok (.ireturn, 1) := by decide +kernel
theorem dX8_whyNotDo_103 : decode cX8_whyNotDo 103 = .ok (.aload_n 0, 1) := by decide +kernel
theorem dX8_whyNotDo_104 : decode cX8_whyNotDo 104 = .ok (.iload_n 2, 1) := by decide +kernel
theorem dX8_whyNotDo_105 : decode cX8_whyNotDo 105 = .ok (.invokevirtual 100, 3) := by decide +kernel
theorem dX8_whyNotDo_108 : decode cX8_whyNotDo 108 = .ok (.ireturn, 1) := by decide +kernel
theorem dX8_whyNotDo_109 : decode cX8_whyNotDo 109 = .ok (.aload_n 0, 1) := by decide +kernel
theorem dX8_whyNotDo_110 : decode cX8_whyNotDo 110 = .ok (.iload_n 2, 1) := by decide +kernel
theorem dX8_whyNotDo_111 : decode cX8_whyNotDo 111 = .ok (.invokevirtual 112, 3) := by decide +kernel
theorem dX8_whyNotDo_114 : decode cX8_whyNotDo 114 = .ok (.ireturn, 1) := by decide +kernel
theorem dX8_whyNotDo_115 : decode cX8_whyNotDo 115 = .ok (.aload_n 0, 1) := by decide +kernel
theorem dX8_whyNotDo_116 : decode cX8_whyNotDo 116 = .ok (.iload_n 2, 1) := by decide +kernel
theorem dX8_whyNotDo_117 : decode cX8_whyNotDo 117 = .ok (.iload_n 3, 1) := by decide +kernel
theorem dX8_whyNotDo_118 : decode cX8_whyNotDo 118 = .ok (.invokevirtual 106, 3) := by decide +kernel
theorem dX8_whyNotDo_121 : decode cX8_whyNotDo 121 = .ok (.ireturn, 1) := by decide +kernel
theorem dX8_whyNotDo_122 : decode cX8_whyNotDo 122 = .ok (.aload_n 0, 1) := by decide +kernel
theorem dX8_whyNotDo_123 : decode cX8_whyNotDo 123 = .ok (.iload_n 2, 1) := by decide +kernel
theorem dX8_whyNotDo_124 : decode cX8_whyNotDo 124 = .ok (.iload_n 3, 1) := by decide +kernel
theorem dX8_whyNotDo_125 : decode cX8_whyNotDo 125 = .ok (.invokevirtual 182, 3) := by decide +kernel
theorem dX8_whyNotDo_128 : decode cX8_whyNotDo 128 = .ok (.ireturn, 1) := by decide +kernel
theorem dX8_whyNotDo_129 : decode cX8_whyNotDo 129 = .ok (.iconst 0, 1) := by decide +kernel
theorem dX8_whyNotDo_130 : decode cX8_whyNotDo 130 = .ok (.ireturn, 1) := by decide +kernel
set_option maxRecDepth 20000 in
theorem ggX8_doNow_X8_put : GoodIn wsX8_doNow wsX8_put := goodIn_r _ [8, 3, 9, 10, 7, 11, 58, 59, 60, 61, 62, 63, 64, 65, 66, 67, 68, 69, 70, 71] (by decide +kernel) (by decide +kernel)
set_option maxRecDepth 20000 in
theorem gX8_doNow_X8_put : GoodIn wsX8_doNow (wsV RX8 80 RX8 yX8_put wsX8_put) := goodIn_app (goodIn_of _ (by decide +kernel)) ggX8_doNow_X8_put
set_option maxRecDepth 20000 in
theorem ggX8_doNow_X8_endNow : GoodIn wsX8_doNow wsX8_endNow := goodIn_r _ [15, 3, 9, 10, 7, 11, 16, 17, 18, 19, 58, 59, 60, 61, 62, 63, 64, 65, 66, 67, 68, 69, 70, 71] (by decide +kernel) (by decide +kernel)
set_option maxRecDepth 20000 in
theorem gX8_doNow_X8_endNow : GoodIn wsX8_doNow (wsV RX8 103 RX8 yX8_endNow wsX8_endNow) := goodIn_app (goodIn_of _ (by decide +kernel)) ggX8_doNow_X8_endNow
set_option maxRecDepth 20000 in
theorem ggX8_doNow_X8_liftNow : GoodIn wsX8_doNow wsX8_liftNow := goodIn_r _ [23, 3, 16, 17, 18, 7, 19, 9, 10, 11, 4, 5, 6, 8, 58, 59, 60, 61, 62, 63, 64, 65, 66, 67, 68, 69, 70, 71] (by decide +kernel) (by decide +kernel)
set_option maxRecDepth 20000 in
theorem gX8_doNow_X8_liftNow : GoodIn wsX8_doNow (wsV RX8 109 RX8 yX8_liftNow wsX8_liftNow) := goodIn_app (goodIn_of _ (by decide +kernel)) ggX8_doNow_X8_liftNow
set_option maxRecDepth 20000 in
theorem ggX8_doNow_X8_collectNow : GoodIn wsX8_doNow wsX8_collectNow := goodIn_r _ [27, 3, 28, 29, 7, 30, 58, 59, 60, 61, 62, 63, 64, 65, 66, 67, 68, 69, 70, 71] (by decide +kernel) (by decide +kernel)
set_option maxRecDepth 20000 in
theorem gX8_doNow_X8_collectNow : GoodIn wsX8_doNow (wsV RX8 185 RX8 yX8_collectNow wsX8_collectNow) := goodIn_app (goodIn_of _ (by decide +kernel)) ggX8_doNow_X8_collectNow
set_option maxRecDepth 20000 in
theorem ggX8_doNow_X8_solveNow : GoodIn wsX8_doNow wsX8_solveNow := goodIn_r _ [34, 3, 28, 29, 7, 30, 35, 36, 37, 38, 39, 40, 41, 42, 43, 44, 45, 46, 16, 17, 18, 19, 9, 10, 11, 47, 48, 49, 50, 51, 52, 53, 54, 55, 56, 57, 58, 59, 60, 61, 62, 63, 64, 65, 66, 67, 68, 69, 70, 71] (by decide +kernel) (by decide +kernel)
set_option maxRecDepth 20000 in
theorem gX8_doNow_X8_solveNow : GoodIn wsX8_doNow (wsV RX8 188 RX8 yX8_solveNow wsX8_solveNow) := goodIn_app (goodIn_of _ (by decide +kernel)) ggX8_doNow_X8_solveNow
theorem dX8_doNow_0 : decode cX8_doNow 0 = .ok (.aload_n 0, 1) := by decide +kernel
theorem dX8_doNow_1 : decode cX8_doNow 1 = .ok (.getfield 25, 3) := by decide +kernel
theorem dX8_doNow_4 : decode cX8_doNow 4 = .ok (.iconst 4, 1) := by decide +kernel
theorem dX8_doNow_5 : decode cX8_doNow 5 = .ok (.iload_n 1, 1) := by decide +kernel
theorem dX8_doNow_6 : decode cX8_doNow 6 = .ok (.imul, 1) := by decide +kernel
theorem dX8_doNow_7 : decode cX8_doNow 7 = .ok (.iaload, 1) := by decide +kernel
theorem dX8_doNow_8 : decode cX8_doNow 8 = .ok (.istore_n 2, 1) := by decide +kernel
theorem dX8_doNow_9 : decode cX8_doNow 9 = .ok (.aload_n 0, 1) := by decide +kernel
theorem dX8_doNow_10 : decode cX8_doNow 10 = .ok (.getfield 25, 3) := by decide +kernel
theorem dX8_doNow_13 : decode cX8_doNow 13 = .ok (.iconst 4, 1) := by decide +kernel
theorem dX8_doNow_14 : decode cX8_doNow 14 = .ok (.iload_n 1, 1) := by decide +kernel
theorem dX8_doNow_15 : decode cX8_doNow 15 = .ok (.imul, 1) := by decide +kernel
theorem dX8_doNow_16 : decode cX8_doNow 16 = .ok (.iconst 1, 1) := by decide +kernel
theorem dX8_doNow_17 : decode cX8_doNow 17 = .ok (.iadd, 1) := by decide +kernel
theorem dX8_doNow_18 : decode cX8_doNow 18 = .ok (.iaload, 1) := by decide +kernel
theorem dX8_doNow_19 : decode cX8_doNow 19 = .ok (.istore_n 3, 1) := by decide +kernel
theorem dX8_doNow_20 : decode cX8_doNow 20 = .ok (.aload_n 0, 1) := by decide +kernel
theorem dX8_doNow_21 : decode cX8_doNow 21 = .ok (.getfield 22, 3) := by decide +kernel
theorem dX8_doNow_24 : decode cX8_doNow 24 = .ok (.iload_n 1, 1) := by decide +kernel
theorem dX8_doNow_25 : decode cX8_doNow 25 = .ok (.iaload, 1) := by decide +kernel
theorem dX8_doNow_26 : decode cX8_doNow 26 = .ok (.lookupswitch 131 #[(97, 50), (101, 89), (109, 111), (113, 121), (116, 98)], 50) := by decide +kernel
theorem dX8_doNow_76 : decode cX8_doNow 76 = .ok (.aload_n 0, 1) := by decide +kernel
theorem dX8_doNow_77 : decode cX8_doNow 77 = .ok (.iload_n 2, 1) := by decide +kernel
theorem dX8_doNow_78 : decode cX8_doNow 78 = .ok (.iload_n 3, 1) := by decide +kernel
theorem dX8_doNow_79 : decode cX8_doNow 79 = .ok (.aload_n 0, 1) := by decide +kernel
theorem dX8_doNow_80 : decode cX8_doNow 80 = .ok (.getfield 25, 3) := by decide +kernel
theorem dX8_doNow_83 : decode cX8_doNow 83 = .ok (.iconst 4, 1) := by decide +kernel
theorem dX8_doNow_84 : decode cX8_doNow 84 = .ok (.iload_n 1, 1) := by decide +kernel
theorem dX8_doNow_85 : decode cX8_doNow 85 = .ok (.imul, 1) := by decide +kernel
theorem dX8_doNow_86 : decode cX8_doNow 86 = .ok (.iconst 2, 1) := by decide +kernel
theorem dX8_doNow_87 : decode cX8_doNow 87 = .ok (.iadd, 1) := by decide +kernel
theorem dX8_doNow_88 : decode cX8_doNow 88 = .ok (.iaload, 1) := by decide +kernel
theorem dX8_doNow_89 : decode cX8_doNow 89 = .ok (.aload_n 0, 1) := by decide +kernel
theorem dX8_doNow_90 : decode cX8_doNow 90 = .ok (.getfield 25, 3) := by decide +kernel
theorem dX8_doNow_93 : decode cX8_doNow 93 = .ok (.iconst 4, 1) := by decide +kernel
theorem dX8_doNow_94 : decode cX8_doNow 94 = .ok (.iload_n 1, 1) := by decide +kernel
theorem dX8_doNow_95 : decode cX8_doNow 95 = .ok (.imul, 1) := by decide +kernel
theorem dX8_doNow_96 : decode cX8_doNow 96 = .ok (.iconst 3, 1) := by decide +kernel
theorem dX8_doNow_97 : decode cX8_doNow 97 = .ok (.iadd, 1) := by decide +kernel
theorem dX8_doNow_98 : decode cX8_doNow 98 = .ok (.iaload, 1) := by decide +kernel
theorem dX8_doNow_99 : decode cX8_doNow 99 = .ok (.aload_n 0, 1) := by decide +kernel
theorem dX8_doNow_100 : decode cX8_doNow 100 = .ok (.getfield 7, 3) := by decide +kernel
theorem dX8_doNow_103 : decode cX8_doNow 103 = .ok (.iconst 1, 1) := by decide +kernel
theorem dX8_doNow_104 : decode cX8_doNow 104 = .ok (.iaload, 1) := by decide +kernel
theorem dX8_doNow_105 : decode cX8_doNow 105 = .ok (.sipush 16384, 3) := by decide +kernel
theorem dX8_doNow_108 : decode cX8_doNow 108 = .ok (.invokevirtual 80, 3) := by decide +kernel
theorem dX8_doNow_111 : decode cX8_doNow 111 = .ok (.pop, 1) := by decide +kernel
theorem dX8_doNow_112 : decode cX8_doNow 112 = .ok (.goto 50, 3) := by decide +kernel
theorem dX8_doNow_115 : decode cX8_doNow 115 = .ok (.aload_n 0, 1) := by decide +kernel
theorem dX8_doNow_116 : decode cX8_doNow 116 = .ok (.iload_n 2, 1) := by decide +kernel
theorem dX8_doNow_117 : decode cX8_doNow 117 = .ok (.invokevirtual 103, 3) := by decide +kernel
theorem dX8_doNow_120 : decode cX8_doNow 120 = .ok (.pop, 1) := by decide +kernel
theorem dX8_doNow_121 : decode cX8_doNow 121 = .ok (.goto 41, 3) := by decide +kernel
theorem dX8_doNow_124 : decode cX8_doNow 124 = .ok (.aload_n 0, 1) := by decide +kernel
theorem dX8_doNow_125 : decode cX8_doNow 125 = .ok (.getfield 7, 3) := by decide +kernel
theorem dX8_doNow_128 : decode cX8_doNow 128 = .ok (.iconst 1, 1) := by decide +kernel
theorem dX8_doNow_129 : decode cX8_doNow 129 = .ok (.dup2, 1) := by decide +kernel
theorem dX8_doNow_130 : decode cX8_doNow 130 = .ok (.iaload, 1) := by decide +kernel
theorem dX8_doNow_131 : decode cX8_doNow 131 = .ok (.iload_n 2, 1) := by decide +kernel
theorem dX8_doNow_132 : decode cX8_doNow 132 = .ok (.iadd, 1) := by decide +kernel
theorem dX8_doNow_133 : decode cX8_doNow 133 = .ok (.iastore, 1) := by decide +kernel
theorem dX8_doNow_134 : decode cX8_doNow 134 = .ok (.goto 28, 3) := by decide +kernel
theorem dX8_doNow_137 : decode cX8_doNow 137 = .ok (.aload_n 0, 1) := by decide +kernel
theorem dX8_doNow_138 : decode cX8_doNow 138 = .ok (.iload_n 2, 1) := by decide +kernel
theorem dX8_doNow_139 : decode cX8_doNow 139 = .ok (.iload_n 3, 1) := by decide +kernel
theorem dX8_doNow_140 : decode cX8_doNow 140 = .ok (.invokevirtual 109, 3) := by decide +kernel
theorem dX8_doNow_143 : decode cX8_doNow 143 = .ok (.pop, 1) := by decide +kernel
theorem dX8_doNow_144 : decode cX8_doNow 144 = .ok (.goto 18, 3) := by decide +kernel
theorem dX8_doNow_147 : decode cX8_doNow 147 = .ok (.aload_n 0, 1) := by decide +kernel
theorem dX8_doNow_148 : decode cX8_doNow 148 = .ok (.iload_n 2, 1) := by decide +kernel
theorem dX8_doNow_149 : decode cX8_doNow 149 = .ok (.iload_n 3, 1) := by decide +kernel
theorem dX8_doNow_150 : decode cX8_doNow 150 = .ok (.invokevirtual 185, 3) := by decide +kernel
theorem dX8_doNow_153 : decode cX8_doNow 153 = .ok (.pop, 1) := by decide +kernel
theorem dX8_doNow_154 : decode cX8_doNow 154 = .ok (.goto 8, 3) := by decide +kernel
theorem dX8_doNow_157 : decode cX8_doNow 157 = .ok (.aload_n 0, 1) := by decide +kernel
theorem dX8_doNow_158 : decode cX8_doNow 158 = .ok (.invokevirtual 188, 3) := by decide +kernel
theorem dX8_doNow_161 : decode cX8_doNow 161 = .ok (.pop, 1) := by decide +kernel
theorem dX8_doNow_162 : decode cX8_doNow 162 = .ok (.return_, 1) := by decide +kernel
theorem dX8_exchange_0 : decode cX8_exchange 0 = .ok (.iconst 0, 1) := by decide +kernel
theorem dX8_exchange_1 : decode cX8_exchange 1 = .ok (.istore_n 1, 1) := by decide +kernel
theorem dX8_exchange_2 : decode cX8_exchange 2 = .ok (.iload_n 1, 1) := by decide +kernel
theorem dX8_exchange_3 : decode cX8_exchange 3 = .ok (.sipush 1634, 3) := by decide +kernel
theorem dX8_exchange_6 : decode cX8_exchange 6 = .ok (.if_icmp .ge 35, 3) := by decide +kernel
theorem dX8_exchange_9 : decode cX8_exchange 9 = .ok (.aload_n 0, 1) := by decide +kernel
theorem dX8_exchange_10 : decode cX8_exchange 10 = .ok (.getfield 7, 3) := by decide +kernel
theorem dX8_exchange_13 : decode cX8_exchange 13 = .ok (.iload_n 1, 1) := by decide +kernel
theorem dX8_exchange_14 : decode cX8_exchange 14 = .ok (.iaload, 1) := by decide +kernel
theorem dX8_exchange_15 : decode cX8_exchange 15 = .ok (.istore_n 2, 1) := by decide +kernel
theorem dX8_exchange_16 : decode cX8_exchange 16 = .ok (.aload_n 0, 1) := by decide +kernel
theorem dX8_exchange_17 : decode cX8_exchange 17 = .ok (.getfield 7, 3) := by decide +kernel
theorem dX8_exchange_20 : decode cX8_exchange 20 = .ok (.iload_n 1, 1) := by decide +kernel
theorem dX8_exchange_21 : decode cX8_exchange 21 = .ok (.aload_n 0, 1) := by decide +kernel
theorem dX8_exchange_22 : decode cX8_exchange 22 = .ok (.getfield 28, 3) := by decide +kernel
theorem dX8_exchange_25 : decode cX8_exchange 25 = .ok (.iload_n 1, 1) := by decide +kernel
theorem dX8_exchange_26 : decode cX8_exchange 26 = .ok (.iaload, 1) := by decide +kernel
theorem dX8_exchange_27 : decode cX8_exchange 27 = .ok (.iastore, 1) := by decide +kernel
theorem dX8_exchange_28 : decode cX8_exchange 28 = .ok (.aload_n 0, 1) := by decide +kernel
theorem dX8_exchange_29 : decode cX8_exchange 29 = .ok (.getfield 28, 3) := by decide +kernel
theorem dX8_exchange_32 : decode cX8_exchange 32 = .ok (.iload_n 1, 1) := by decide +kernel
theorem dX8_exchange_33 : decode cX8_exchange 33 = .ok (.iload_n 2, 1) := by decide +kernel
theorem dX8_exchange_34 : decode cX8_exchange 34 = .ok (.iastore, 1) := by decide +kernel
theorem dX8_exchange_35 : decode cX8_exchange 35 = .ok (.iinc 1 1, 3) := by decide +kernel
theorem dX8_exchange_38 : decode cX8_exchange 38 = .ok (.goto (-36), 3) := by decide +kernel
theorem dX8_exchange_41 : decode cX8_exchange 41 = .ok (.return_, 1) := by decide +kernel
set_option maxRecDepth 20000 in
theorem ggX8_carryOut_X8_readsAll : GoodIn wsX8_carryOut wsX8_readsAll := goodIn_r _ [10, 2, 5, 11, 12, 13, 9, 14, 15, 16, 17, 18, 19, 20, 21, 22, 23, 24, 25, 26, 27, 28, 29, 30, 31, 32, 33, 34, 35, 36, 37, 38, 156, 157, 158, 159, 160, 161, 162, 163, 164, 165, 166, 167, 168, 169] (by decide +kernel) (by decide +kernel)
set_option maxRecDepth 20000 in
theorem gX8_carryOut_X8_readsAll : GoodIn wsX8_carryOut (wsV RX8 226 RX8 yX8_readsAll wsX8_readsAll) := goodIn_app (goodIn_of _ (by decide +kernel)) ggX8_carryOut_X8_readsAll
set_option maxRecDepth 20000 in
theorem ggX8_carryOut_X8_whyNotDo : GoodIn wsX8_carryOut wsX8_whyNotDo := goodIn_r _ [42, 31, 21, 43, 44, 45, 9, 46, 47, 48, 49, 50, 51, 52, 53, 36, 37, 38, 54, 55, 56, 57, 58, 59, 60, 61, 4, 62, 63, 64, 65, 66, 67, 68, 69, 70, 71, 72, 73, 74, 75, 76, 77, 78, 79, 80, 81, 82, 83, 84, 85, 86, 87, 88, 89, 90, 91, 92, 93, 94, 95, 96, 97, 98, 99, 100, 101, 102, 156, 157, 158, 159, 160, 161, 162, 163, 164, 165, 166, 167, 168, 169] (by decide +kernel) (by decide +kernel)
set_option maxRecDepth 20000 in
theorem gX8_carryOut_X8_whyNotDo : GoodIn wsX8_carryOut (wsV RX8 229 RX8 yX8_whyNotDo wsX8_whyNotDo) := goodIn_app (goodIn_of _ (by decide +kernel)) ggX8_carryOut_X8_whyNotDo
set_option maxRecDepth 20000 in
theorem ggX8_carryOut_X8_exchange : GoodIn wsX8_carryOut wsX8_exchange := goodIn_r _ [106, 4, 3, 156, 157, 158, 159, 160, 161, 162, 163, 164, 165, 166, 167, 168, 169] (by decide +kernel) (by decide +kernel)
set_option maxRecDepth 20000 in
theorem gX8_carryOut_X8_exchange : GoodIn wsX8_carryOut (wsV RX8 232 RX8 yX8_exchange wsX8_exchange) := goodIn_app (goodIn_of _ (by decide +kernel)) ggX8_carryOut_X8_exchange
set_option maxRecDepth 20000 in
theorem ggX8_carryOut_X8_doNow : GoodIn wsX8_carryOut wsX8_doNow := goodIn_r _ [110, 31, 21, 4, 111, 112, 113, 9, 114, 78, 79, 80, 115, 116, 117, 118, 74, 75, 76, 77, 119, 120, 121, 122, 123, 124, 125, 126, 127, 128, 129, 130, 131, 132, 133, 134, 135, 136, 137, 138, 139, 140, 141, 70, 71, 72, 73, 36, 37, 38, 142, 143, 144, 145, 146, 147, 148, 149, 156, 157, 158, 159, 160, 161, 162, 163, 164, 165, 166, 167, 168, 169] (by decide +kernel) (by decide +kernel)
set_option maxRecDepth 20000 in
theorem gX8_carryOut_X8_doNow : GoodIn wsX8_carryOut (wsV RX8 235 RX8 yX8_doNow wsX8_doNow) := goodIn_app (goodIn_of _ (by decide +kernel)) ggX8_carryOut_X8_doNow
set_option maxRecDepth 20000 in
theorem ggX8_carryOut_X8_keep : GoodIn wsX8_carryOut wsX8_keep := goodIn_r _ [153, 154, 155, 4, 156, 157, 158, 159, 160, 161, 162, 163, 164, 165, 166, 167, 168, 169] (by decide +kernel) (by decide +kernel)
set_option maxRecDepth 20000 in
theorem gX8_carryOut_X8_keep : GoodIn wsX8_carryOut (wsV RX8 77 RX8 yX8_keep wsX8_keep) := goodIn_app (goodIn_of _ (by decide +kernel)) ggX8_carryOut_X8_keep
theorem dX8_carryOut_0 : decode cX8_carryOut 0 = .ok (.aload_n 0, 1) := by decide +kernel
theorem dX8_carryOut_1 : decode cX8_carryOut 1 = .ok (.iconst 0, 1) := by decide +kernel
theorem dX8_carryOut_2 : decode cX8_carryOut 2 = .ok (.putfield 31, 3) := by decide +kernel
theorem dX8_carryOut_5 : decode cX8_carryOut 5 = .ok (.aload_n 0, 1) := by decide +kernel
theorem dX8_carryOut_6 : decode cX8_carryOut 6 = .ok (.invokevirtual 226, 3) := by decide +kernel
theorem dX8_carryOut_9 : decode cX8_carryOut 9 = .ok (.ifCond .ne 11, 3) := by decide +kernel
theorem dX8_carryOut_12 : decode cX8_carryOut 12 = .ok (.bipush (-10), 2) := by decide +kernel
theorem dX8_carryOut_14 : decode cX8_carryOut 14 = .ok (.aload_n 0, 1) := by decide +kernel
theorem dX8_carryOut_15 : decode cX8_carryOut 15 = .ok (.getfield 201, 3) := by decide +kernel
theorem dX8_carryOut_18 : decode cX8_carryOut 18 = .ok (.isub, 1) := by decide +kernel
theorem dX8_carryOut_19 : decode cX8_carryOut 19 = .ok (.ireturn, 1) := by decide +kernel
theorem dX8_carryOut_20 : decode cX8_carryOut 20 = .ok (.iconst 0, 1) := by decide +kernel
theorem dX8_carryOut_21 : decode cX8_carryOut 21 = .ok (.istore_n 1, 1) := by decide +kernel
theorem dX8_carryOut_22 : decode cX8_carryOut 22 = .ok (.iload_n 1, 1) := by decide +kernel
theorem dX8_carryOut_23 : decode cX8_carryOut 23 = .ok (.sipush 1634, 3) := by decide +kernel
theorem dX8_carryOut_26 : decode cX8_carryOut 26 = .ok (.if_icmp .ge 21, 3) := by decide +kernel
theorem dX8_carryOut_29 : decode cX8_carryOut 29 = .ok (.aload_n 0, 1) := by decide +kernel
theorem dX8_carryOut_30 : decode cX8_carryOut 30 = .ok (.getfield 28, 3) := by decide +kernel
theorem dX8_carryOut_33 : decode cX8_carryOut 33 = .ok (.iload_n 1, 1) := by decide +kernel
theorem dX8_carryOut_34 : decode cX8_carryOut 34 = .ok (.aload_n 0, 1) := by decide +kernel
theorem dX8_carryOut_35 : decode cX8_carryOut 35 = .ok (.getfield 7, 3) := by decide +kernel
theorem dX8_carryOut_38 : decode cX8_carryOut 38 = .ok (.iload_n 1, 1) := by decide +kernel
theorem dX8_carryOut_39 : decode cX8_carryOut 39 = .ok (.iaload, 1) := by decide +kernel
theorem dX8_carryOut_40 : decode cX8_carryOut 40 = .ok (.iastore, 1) := by decide +kernel
theorem dX8_carryOut_41 : decode cX8_carryOut 41 = .ok (.iinc 1 1, 3) := by decide +kernel
theorem dX8_carryOut_44 : decode cX8_carryOut 44 = .ok (.goto (-22), 3) := by decide +kernel
theorem dX8_carryOut_47 : decode cX8_carryOut 47 = .ok (.iconst 0, 1) := by decide +kernel
theorem dX8_carryOut_48 : decode cX8_carryOut 48 = .ok (.istore_n 1, 1) := by decide +kernel
theorem dX8_carryOut_49 : decode cX8_carryOut 49 = .ok (.iload_n 1, 1) := by decide +kernel
theorem dX8_carryOut_50 : decode cX8_carryOut 50 = .ok (.aload_n 0, 1) := by decide +kernel
theorem dX8_carryOut_51 : decode cX8_carryOut 51 = .ok (.getfield 214, 3) := by decide +kernel
theorem dX8_carryOut_54 : decode cX8_carryOut 54 = .ok (.if_icmp .ge 32, 3) := by decide +kernel
theorem dX8_carryOut_57 : decode cX8_carryOut 57 = .ok (.aload_n 0, 1) := by decide +kernel
theorem dX8_carryOut_58 : decode cX8_carryOut 58 = .ok (.iload_n 1, 1) := by decide +kernel
theorem dX8_carryOut_59 : decode cX8_carryOut 59 = .ok (.invokevirtual 229, 3) := by decide +kernel
theorem dX8_carryOut_62 : decode cX8_carryOut 62 = .ok (.ifCond .eq 13, 3) := by decide +kernel
theorem dX8_carryOut_65 : decode cX8_carryOut 65 = .ok (.aload_n 0, 1) := by decide +kernel
theorem dX8_carryOut_66 : decode cX8_carryOut 66 = .ok (.invokevirtual 232, 3) := by decide +kernel
theorem dX8_carryOut_69 : decode cX8_carryOut 69 = .ok (.sipush (-1000), 3) := by decide +kernel
theorem dX8_carryOut_72 : decode cX8_carryOut 72 = .ok (.iload_n 1, 1) := by decide +kernel
theorem dX8_carryOut_73 : decode cX8_carryOut 73 = .ok (.isub, 1) := by decide +kernel
theorem dX8_carryOut_74 : decode cX8_carryOut 74 = .ok (.ireturn, 1) := by decide +kernel
theorem dX8_carryOut_75 : decode cX8_carryOut 75 = .ok (.aload_n 0, 1) := by decide +kernel
theorem dX8_carryOut_76 : decode cX8_carryOut 76 = .ok (.iload_n 1, 1) := by decide +kernel
theorem dX8_carryOut_77 : decode cX8_carryOut 77 = .ok (.invokevirtual 235, 3) := by decide +kernel
theorem dX8_carryOut_80 : decode cX8_carryOut 80 = .ok (.iinc 1 1, 3) := by decide +kernel
theorem dX8_carryOut_83 : decode cX8_carryOut 83 = .ok (.goto (-34), 3) := by decide +kernel
theorem dX8_carryOut_86 : decode cX8_carryOut 86 = .ok (.aload_n 0, 1) := by decide +kernel
theorem dX8_carryOut_87 : decode cX8_carryOut 87 = .ok (.invokevirtual 232, 3) := by decide +kernel
theorem dX8_carryOut_90 : decode cX8_carryOut 90 = .ok (.aload_n 0, 1) := by decide +kernel
theorem dX8_carryOut_91 : decode cX8_carryOut 91 = .ok (.invokevirtual 77, 3) := by decide +kernel
theorem dX8_carryOut_94 : decode cX8_carryOut 94 = .ok (.aload_n 0, 1) := by decide +kernel
theorem dX8_carryOut_95 : decode cX8_carryOut 95 = .ok (.invokevirtual 232, 3) := by decide +kernel
theorem dX8_carryOut_98 : decode cX8_carryOut 98 = .ok (.aload_n 0, 1) := by decide +kernel
theorem dX8_carryOut_99 : decode cX8_carryOut 99 = .ok (.getfield 214, 3) := by decide +kernel
theorem dX8_carryOut_102 : decode cX8_carryOut 102 = .ok (.ireturn, 1) := by decide +kernel
set_option maxRecDepth 20000 in
theorem ggX8_undo_X8_fails : GoodIn wsX8_undo wsX8_fails := goodIn_r _ [9, 1, 10, 11, 12, 13, 14, 15, 16, 17, 18, 19, 20, 21, 22, 23] (by decide +kernel) (by decide +kernel)
set_option maxRecDepth 20000 in
theorem gX8_undo_X8_fails : GoodIn wsX8_undo (wsV RX8 90 RX8 yX8_fails wsX8_fails) := goodIn_app (goodIn_of _ (by decide +kernel)) ggX8_undo_X8_fails
theorem dX8_undo_0 : decode cX8_undo 0 = .ok (.aload_n 0, 1) := by decide +kernel
theorem dX8_undo_1 : decode cX8_undo 1 = .ok (.iconst 0, 1) := by decide +kernel
theorem dX8_undo_2 : decode cX8_undo 2 = .ok (.putfield 31, 3) := by decide +kernel
theorem dX8_undo_5 : decode cX8_undo 5 = .ok (.aload_n 0, 1) := by decide +kernel
theorem dX8_undo_6 : decode cX8_undo 6 = .ok (.getfield 35, 3) := by decide +kernel
theorem dX8_undo_9 : decode cX8_undo 9 = .ok (.ifCond .ne 9, 3) := by decide +kernel
theorem dX8_undo_12 : decode cX8_undo 12 = .ok (.aload_n 0, 1) := by decide +kernel
theorem dX8_undo_13 : decode cX8_undo 13 = .ok (.iconst 1, 1) := by decide +kernel
theorem dX8_undo_14 : decode cX8_undo 14 = .ok (.invokevirtual 90, 3) := by decide +kernel
theorem dX8_undo_17 : decode cX8_undo 17 = .ok (.ireturn, 1) := by decide +kernel
theorem dX8_undo_18 : decode cX8_undo 18 = .ok (.aload_n 0, 1) := by decide +kernel
theorem dX8_undo_19 : decode cX8_undo 19 = .ok (.dup, 1) := by decide +kernel
theorem dX8_undo_20 : decode cX8_undo 20 = .ok (.getfield 35, 3) := by decide +kernel
theorem dX8_undo_23 : decode cX8_undo 23 = .ok (.iconst 1, 1) := by decide +kernel
theorem dX8_undo_24 : decode cX8_undo 24 = .ok (.isub, 1) := by decide +kernel
theorem dX8_undo_25 : decode cX8_undo 25 = .ok (.putfield 35, 3) := by decide +kernel
theorem dX8_undo_28 : decode cX8_undo 28 = .ok (.iconst 0, 1) := by decide +kernel
theorem dX8_undo_29 : decode cX8_undo 29 = .ok (.istore_n 1, 1) := by decide +kernel
theorem dX8_undo_30 : decode cX8_undo 30 = .ok (.iload_n 1, 1) := by decide +kernel
theorem dX8_undo_31 : decode cX8_undo 31 = .ok (.sipush 1634, 3) := by decide +kernel
theorem dX8_undo_34 : decode cX8_undo 34 = .ok (.if_icmp .ge 30, 3) := by decide +kernel
theorem dX8_undo_37 : decode cX8_undo 37 = .ok (.aload_n 0, 1) := by decide +kernel
theorem dX8_undo_38 : decode cX8_undo 38 = .ok (.getfield 7, 3) := by decide +kernel
theorem dX8_undo_41 : decode cX8_undo 41 = .ok (.iload_n 1, 1) := by decide +kernel
theorem dX8_undo_42 : decode cX8_undo 42 = .ok (.aload_n 0, 1) := by decide +kernel
theorem dX8_undo_43 : decode cX8_undo 43 = .ok (.getfield 13, 3) := by decide +kernel
theorem dX8_undo_46 : decode cX8_undo 46 = .ok (.sipush 1634, 3) := by decide +kernel
theorem dX8_undo_49 : decode cX8_undo 49 = .ok (.aload_n 0, 1) := by decide +kernel
theorem dX8_undo_50 : decode cX8_undo 50 = .ok (.getfield 35, 3) := by decide +kernel
theorem dX8_undo_53 : decode cX8_undo 53 = .ok (.imul, 1) := by decide +kernel
theorem dX8_undo_54 : decode cX8_undo 54 = .ok (.iload_n 1, 1) := by decide +kernel
theorem dX8_undo_55 : decode cX8_undo 55 = .ok (.iadd, 1) := by decide +kernel
theorem dX8_undo_56 : decode cX8_undo 56 = .ok (.iaload, 1) := by decide +kernel
theorem dX8_undo_57 : decode cX8_undo 57 = .ok (.iastore, 1) := by decide +kernel
theorem dX8_undo_58 : decode cX8_undo 58 = .ok (.iinc 1 1, 3) := by decide +kernel
theorem dX8_undo_61 : decode cX8_undo 61 = .ok (.goto (-31), 3) := by decide +kernel
theorem dX8_undo_64 : decode cX8_undo 64 = .ok (.aload_n 0, 1) := by decide +kernel
theorem dX8_undo_65 : decode cX8_undo 65 = .ok (.getfield 35, 3) := by decide +kernel
theorem dX8_undo_68 : decode cX8_undo 68 = .ok (.ireturn, 1) := by decide +kernel
theorem dX8_mix_0 : decode cX8_mix 0 = .ok (.aload_n 0, 1) := by decide +kernel
theorem dX8_mix_1 : decode cX8_mix 1 = .ok (.ldc2_w 238, 3) := by decide +kernel
theorem dX8_mix_4 : decode cX8_mix 4 = .ok (.aload_n 0, 1) := by decide +kernel
theorem dX8_mix_5 : decode cX8_mix 5 = .ok (.getfield 240, 3) := by decide +kernel
theorem dX8_mix_8 : decode cX8_mix 8 = .ok (.lmul, 1) := by decide +kernel
theorem dX8_mix_9 : decode cX8_mix 9 = .ok (.lload_n 1, 1) := by decide +kernel
theorem dX8_mix_10 : decode cX8_mix 10 = .ok (.ladd, 1) := by decide +kernel
theorem dX8_mix_11 : decode cX8_mix 11 = .ok (.putfield 240, 3) := by decide +kernel
theorem dX8_mix_14 : decode cX8_mix 14 = .ok (.return_, 1) := by decide +kernel
set_option maxRecDepth 20000 in
theorem ggX8_mixQuery_X8_query : GoodIn wsX8_mixQuery wsX8_query := goodIn_r _ [5] (by decide +kernel) (by decide +kernel)
set_option maxRecDepth 20000 in
theorem gX8_mixQuery_X8_query : GoodIn wsX8_mixQuery (va_wsS RX8 179 yX8_query wsX8_query) := goodIn_app (goodIn_of _ (by decide +kernel)) ggX8_mixQuery_X8_query
set_option maxRecDepth 20000 in
theorem ggX8_mixQuery_X8_mix : GoodIn wsX8_mixQuery wsX8_mix := goodIn_r _ [9, 10, 11, 17, 18, 19, 20, 21, 22, 23, 24, 25, 26, 27, 28, 29, 30] (by decide +kernel) (by decide +kernel)
set_option maxRecDepth 20000 in
theorem gX8_mixQuery_X8_mix : GoodIn wsX8_mixQuery (wsV RX8 244 RX8 yX8_mix wsX8_mix) := goodIn_app (goodIn_of _ (by decide +kernel)) ggX8_mixQuery_X8_mix
set_option maxRecDepth 20000 in
theorem ggX8_mixQuery_X8_answerOf : GoodIn wsX8_mixQuery wsX8_answerOf := goodIn_r _ [15, 1, 16, 2, 3, 4, 5, 17, 18, 19, 20, 21, 22, 23, 24, 25, 26, 27, 28, 29, 30] (by decide +kernel) (by decide +kernel)
set_option maxRecDepth 20000 in
theorem gX8_mixQuery_X8_answerOf : GoodIn wsX8_mixQuery (wsV RX8 192 RX8 yX8_answerOf wsX8_answerOf) := goodIn_app (goodIn_of _ (by decide +kernel)) ggX8_mixQuery_X8_answerOf
theorem dX8_mixQuery_0 : decode cX8_mixQuery 0 = .ok (.iload_n 1, 1) := by decide +kernel
theorem dX8_mixQuery_1 : decode cX8_mixQuery 1 = .ok (.invokestatic 179, 3) := by decide +kernel
theorem dX8_mixQuery_4 : decode cX8_mixQuery 4 = .ok (.istore_n 2, 1) := by decide +kernel
theorem dX8_mixQuery_5 : decode cX8_mixQuery 5 = .ok (.aload_n 0, 1) := by decide +kernel
theorem dX8_mixQuery_6 : decode cX8_mixQuery 6 = .ok (.aload_n 0, 1) := by decide +kernel
theorem dX8_mixQuery_7 : decode cX8_mixQuery 7 = .ok (.getfield 7, 3) := by decide +kernel
theorem dX8_mixQuery_10 : decode cX8_mixQuery 10 = .ok (.iload_n 2, 1) := by decide +kernel
theorem dX8_mixQuery_11 : decode cX8_mixQuery 11 = .ok (.iaload, 1) := by decide +kernel
theorem dX8_mixQuery_12 : decode cX8_mixQuery 12 = .ok (.i2l, 1) := by decide +kernel
theorem dX8_mixQuery_13 : decode cX8_mixQuery 13 = .ok (.invokevirtual 244, 3) := by decide +kernel
theorem dX8_mixQuery_16 : decode cX8_mixQuery 16 = .ok (.aload_n 0, 1) := by decide +kernel
theorem dX8_mixQuery_17 : decode cX8_mixQuery 17 = .ok (.aload_n 0, 1) := by decide +kernel
theorem dX8_mixQuery_18 : decode cX8_mixQuery 18 = .ok (.getfield 7, 3) := by decide +kernel
theorem dX8_mixQuery_21 : decode cX8_mixQuery 21 = .ok (.iload_n 2, 1) := by decide +kernel
theorem dX8_mixQuery_22 : decode cX8_mixQuery 22 = .ok (.iconst 1, 1) := by decide +kernel
theorem dX8_mixQuery_23 : decode cX8_mixQuery 23 = .ok (.iadd, 1) := by decide +kernel
theorem dX8_mixQuery_24 : decode cX8_mixQuery 24 = .ok (.iaload, 1) := by decide +kernel
theorem dX8_mixQuery_25 : decode cX8_mixQuery 25 = .ok (.i2l, 1) := by decide +kernel
theorem dX8_mixQuery_26 : decode cX8_mixQuery 26 = .ok (.invokevirtual 244, 3) := by decide +kernel
theorem dX8_mixQuery_29 : decode cX8_mixQuery 29 = .ok (.aload_n 0, 1) := by decide +kernel
theorem dX8_mixQuery_30 : decode cX8_mixQuery 30 = .ok (.aload_n 0, 1) := by decide +kernel
theorem dX8_mixQuery_31 : decode cX8_mixQuery 31 = .ok (.getfield 7, 3) := by decide +kernel
theorem dX8_mixQuery_34 : decode cX8_mixQuery 34 = .ok (.iload_n 2, 1) := by decide +kernel
theorem dX8_mixQuery_35 : decode cX8_mixQuery 35 = .ok (.iconst 2, 1) := by decide +kernel
theorem dX8_mixQuery_36 : decode cX8_mixQuery 36 = .ok (.iadd, 1) := by decide +kernel
theorem dX8_mixQuery_37 : decode cX8_mixQuery 37 = .ok (.iaload, 1) := by decide +kernel
theorem dX8_mixQuery_38 : decode cX8_mixQuery 38 = .ok (.i2l, 1) := by decide +kernel
theorem dX8_mixQuery_39 : decode cX8_mixQuery 39 = .ok (.invokevirtual 244, 3) := by decide +kernel
theorem dX8_mixQuery_42 : decode cX8_mixQuery 42 = .ok (.iconst 0, 1) := by decide +kernel
theorem dX8_mixQuery_43 : decode cX8_mixQuery 43 = .ok (.istore_n 3, 1) := by decide +kernel
theorem dX8_mixQuery_44 : decode cX8_mixQuery 44 = .ok (.iload_n 3, 1) := by decide +kernel
theorem dX8_mixQuery_45 : decode cX8_mixQuery 45 = .ok (.iconst 3, 1) := by decide +kernel
theorem dX8_mixQuery_46 : decode cX8_mixQuery 46 = .ok (.if_icmp .ge 31, 3) := by decide +kernel
theorem dX8_mixQuery_49 : decode cX8_mixQuery 49 = .ok (.aload_n 0, 1) := by decide +kernel
theorem dX8_mixQuery_50 : decode cX8_mixQuery 50 = .ok (.getfield 7, 3) := by decide +kernel
theorem dX8_mixQuery_53 : decode cX8_mixQuery 53 = .ok (.iload_n 2, 1) := by decide +kernel
theorem dX8_mixQuery_54 : decode cX8_mixQuery 54 = .ok (.iconst 2, 1) := by decide +kernel
theorem dX8_mixQuery_55 : decode cX8_mixQuery 55 = .ok (.iadd, 1) := by decide +kernel
theorem dX8_mixQuery_56 : decode cX8_mixQuery 56 = .ok (.iaload, 1) := by decide +kernel
theorem dX8_mixQuery_57 : decode cX8_mixQuery 57 = .ok (.iconst 1, 1) := by decide +kernel
theorem dX8_mixQuery_58 : decode cX8_mixQuery 58 = .ok (.if_icmp .ne 19, 3) := by decide +kernel
theorem dX8_mixQuery_61 : decode cX8_mixQuery 61 = .ok (.aload_n 0, 1) := by decide +kernel
theorem dX8_mixQuery_62 : decode cX8_mixQuery 62 = .ok (.aload_n 0, 1) := by decide +kernel
theorem dX8_mixQuery_63 : decode cX8_mixQuery 63 = .ok (.iload_n 1, 1) := by decide +kernel
theorem dX8_mixQuery_64 : decode cX8_mixQuery 64 = .ok (.iload_n 3, 1) := by decide +kernel
theorem dX8_mixQuery_65 : decode cX8_mixQuery 65 = .ok (.invokevirtual 192, 3) := by decide +kernel
theorem dX8_mixQuery_68 : decode cX8_mixQuery 68 = .ok (.invokevirtual 244, 3) := by decide +kernel
theorem dX8_mixQuery_71 : decode cX8_mixQuery 71 = .ok (.iinc 3 1, 3) := by decide +kernel
theorem dX8_mixQuery_74 : decode cX8_mixQuery 74 = .ok (.goto (-30), 3) := by decide +kernel
theorem dX8_mixQuery_77 : decode cX8_mixQuery 77 = .ok (.return_, 1) := by decide +kernel
set_option maxRecDepth 20000 in
theorem ggX8_digest_X8_mix : GoodIn wsX8_digest wsX8_mix := goodIn_r _ [13, 14, 3, 65, 66, 67, 68, 69, 70, 71, 72, 73, 74, 75, 76, 77, 78] (by decide +kernel) (by decide +kernel)
set_option maxRecDepth 20000 in
theorem gX8_digest_X8_mix : GoodIn wsX8_digest (wsV RX8 244 RX8 yX8_mix wsX8_mix) := goodIn_app (goodIn_of _ (by decide +kernel)) ggX8_digest_X8_mix
set_option maxRecDepth 20000 in
theorem ggX8_digest_X8_mixQuery : GoodIn wsX8_digest wsX8_mixQuery := goodIn_r _ [18, 5, 19, 20, 12, 21, 9, 10, 11, 13, 14, 3, 22, 23, 24, 25, 26, 65, 66, 67, 68, 69, 70, 71, 72, 73, 74, 75, 76, 77, 78] (by decide +kernel) (by decide +kernel)
set_option maxRecDepth 20000 in
theorem gX8_digest_X8_mixQuery : GoodIn wsX8_digest (wsV RX8 250 RX8 yX8_mixQuery wsX8_mixQuery) := goodIn_app (goodIn_of _ (by decide +kernel)) ggX8_digest_X8_mixQuery
set_option maxRecDepth 20000 in
theorem ggX8_digest_X8_layPieces : GoodIn wsX8_digest wsX8_layPieces := goodIn_r _ [30, 6, 7, 31, 32, 33, 12, 34, 5, 35, 36, 37, 38, 39, 40, 41, 42, 43, 44, 45, 46, 47, 48, 49, 50, 51, 52, 53, 54, 55, 56, 57, 58, 59, 60, 65, 66, 67, 68, 69, 70, 71, 72, 73, 74, 75, 76, 77, 78] (by decide +kernel) (by decide +kernel)
set_option maxRecDepth 20000 in
theorem gX8_digest_X8_layPieces : GoodIn wsX8_digest (wsV RX8 142 RX8 yX8_layPieces wsX8_layPieces) := goodIn_app (goodIn_of _ (by decide +kernel)) ggX8_digest_X8_layPieces
set_option maxRecDepth 20000 in
theorem ggX8_digest_X8_sumOf : GoodIn wsX8_digest wsX8_sumOf := goodIn_r _ [64, 31, 32, 33, 12, 34, 5, 35, 36, 37, 38, 39, 40, 41, 42, 43, 44, 45, 46, 47, 48, 49, 50, 51, 52, 53, 54, 55, 56, 57, 58, 59, 60, 65, 66, 67, 68, 69, 70, 71, 72, 73, 74, 75, 76, 77, 78] (by decide +kernel) (by decide +kernel)
set_option maxRecDepth 20000 in
theorem gX8_digest_X8_sumOf : GoodIn wsX8_digest (wsV RX8 148 RX8 yX8_sumOf wsX8_sumOf) := goodIn_app (goodIn_of _ (by decide +kernel)) ggX8_digest_X8_sumOf
