theorem dX8_answerOf_15 : decode cX8_answerOf 15 = .ok (.iadd, 1) := by decide +kernel
theorem dX8_answerOf_16 : decode cX8_answerOf 16 = .ok (.iaload, 1) := by decide +kernel
theorem dX8_answerOf_17 : decode cX8_answerOf 17 = .ok (.iconst (-1), 1) := by decide +kernel
theorem dX8_answerOf_18 : decode cX8_answerOf 18 = .ok (.if_icmp .ne 9, 3) := by decide +kernel
theorem dX8_answerOf_21 : decode cX8_answerOf 21 = .ok (.ldc2_w 133, 3) := by decide +kernel
theorem dX8_answerOf_24 : decode cX8_answerOf 24 = .ok (.goto 14, 3) := by decide +kernel
theorem dX8_answerOf_27 : decode cX8_answerOf 27 = .ok (.aload_n 0, 1) := by decide +kernel
theorem dX8_answerOf_28 : decode cX8_answerOf 28 = .ok (.getfield 7, 3) := by decide +kernel
theorem dX8_answerOf_31 : decode cX8_answerOf 31 = .ok (.iload_n 3, 1) := by decide +kernel
theorem dX8_answerOf_32 : decode cX8_answerOf 32 = .ok (.iconst 3, 1) := by decide +kernel
theorem dX8_answerOf_33 : decode cX8_answerOf 33 = .ok (.iadd, 1) := by decide +kernel
theorem dX8_answerOf_34 : decode cX8_answerOf 34 = .ok (.iload_n 2, 1) := by decide +kernel
theorem dX8_answerOf_35 : decode cX8_answerOf 35 = .ok (.iadd, 1) := by decide +kernel
theorem dX8_answerOf_36 : decode cX8_answerOf 36 = .ok (.iaload, 1) := by decide +kernel
theorem dX8_answerOf_37 : decode cX8_answerOf 37 = .ok (.i2l, 1) := by decide +kernel
theorem dX8_answerOf_38 : decode cX8_answerOf 38 = .ok (.lreturn, 1) := by decide +kernel
set_option maxRecDepth 20000 in
theorem ggX8_answer_X8_in : GoodIn wsX8_answer wsX8_in := goodIn_r _ [7] (by decide +kernel) (by decide +kernel)
set_option maxRecDepth 20000 in
theorem gX8_answer_X8_in : GoodIn wsX8_answer (va_wsS RX8 42 yX8_in wsX8_in) := goodIn_app (goodIn_of _ (by decide +kernel)) ggX8_answer_X8_in
set_option maxRecDepth 20000 in
theorem ggX8_answer_X8_fails : GoodIn wsX8_answer wsX8_fails := goodIn_r _ [11, 1, 20, 21, 22, 23, 24, 25, 26, 27, 28, 29, 30, 31, 32, 33] (by decide +kernel) (by decide +kernel)
set_option maxRecDepth 20000 in
theorem gX8_answer_X8_fails : GoodIn wsX8_answer (wsV RX8 90 RX8 yX8_fails wsX8_fails) := goodIn_app (goodIn_of _ (by decide +kernel)) ggX8_answer_X8_fails
set_option maxRecDepth 20000 in
theorem ggX8_answer_X8_query : GoodIn wsX8_answer wsX8_query := goodIn_r _ [14] (by decide +kernel) (by decide +kernel)
set_option maxRecDepth 20000 in
theorem gX8_answer_X8_query : GoodIn wsX8_answer (va_wsS RX8 179 yX8_query wsX8_query) := goodIn_app (goodIn_of _ (by decide +kernel)) ggX8_answer_X8_query
set_option maxRecDepth 20000 in
theorem ggX8_answer_X8_answerOf : GoodIn wsX8_answer wsX8_answerOf := goodIn_r _ [18, 2, 19, 12, 13, 6, 14, 20, 21, 22, 23, 24, 25, 26, 27, 28, 29, 30, 31, 32, 33] (by decide +kernel) (by decide +kernel)
set_option maxRecDepth 20000 in
theorem gX8_answer_X8_answerOf : GoodIn wsX8_answer (wsV RX8 192 RX8 yX8_answerOf wsX8_answerOf) := goodIn_app (goodIn_of _ (by decide +kernel)) ggX8_answer_X8_answerOf
theorem dX8_answer_0 : decode cX8_answer 0 = .ok (.aload_n 0, 1) := by decide +kernel
theorem dX8_answer_1 : decode cX8_answer 1 = .ok (.iconst 0, 1) := by decide +kernel
theorem dX8_answer_2 : decode cX8_answer 2 = .ok (.putfield 31, 3) := by decide +kernel
theorem dX8_answer_5 : decode cX8_answer 5 = .ok (.iload_n 1, 1) := by decide +kernel
theorem dX8_answer_6 : decode cX8_answer 6 = .ok (.i2l, 1) := by decide +kernel
theorem dX8_answer_7 : decode cX8_answer 7 = .ok (.lconst 0, 1) := by decide +kernel
theorem dX8_answer_8 : decode cX8_answer 8 = .ok (.aload_n 0, 1) := by decide +kernel
theorem dX8_answer_9 : decode cX8_answer 9 = .ok (.getfield 7, 3) := by decide +kernel
theorem dX8_answer_12 : decode cX8_answer 12 = .ok (.sipush 242, 3) := by decide +kernel
theorem dX8_answer_15 : decode cX8_answer 15 = .ok (.iaload, 1) := by decide +kernel
theorem dX8_answer_16 : decode cX8_answer 16 = .ok (.iconst 1, 1) := by decide +kernel
theorem dX8_answer_17 : decode cX8_answer 17 = .ok (.isub, 1) := by decide +kernel
theorem dX8_answer_18 : decode cX8_answer 18 = .ok (.i2l, 1) := by decide +kernel
theorem dX8_answer_19 : decode cX8_answer 19 = .ok (.invokestatic 42, 3) := by decide +kernel
theorem dX8_answer_22 : decode cX8_answer 22 = .ok (.ifCond .ne 10, 3) := by decide +kernel
theorem dX8_answer_25 : decode cX8_answer 25 = .ok (.aload_n 0, 1) := by decide +kernel
theorem dX8_answer_26 : decode cX8_answer 26 = .ok (.iconst 1, 1) := by decide +kernel
theorem dX8_answer_27 : decode cX8_answer 27 = .ok (.invokevirtual 90, 3) := by decide +kernel
theorem dX8_answer_30 : decode cX8_answer 30 = .ok (.i2l, 1) := by decide +kernel
theorem dX8_answer_31 : decode cX8_answer 31 = .ok (.lreturn, 1) := by decide +kernel
theorem dX8_answer_32 : decode cX8_answer 32 = .ok (.iload_n 2, 1) := by decide +kernel
theorem dX8_answer_33 : decode cX8_answer 33 = .ok (.i2l, 1) := by decide +kernel
theorem dX8_answer_34 : decode cX8_answer 34 = .ok (.lconst 0, 1) := by decide +kernel
theorem dX8_answer_35 : decode cX8_answer 35 = .ok (.ldc2_w 146, 3) := by decide +kernel
theorem dX8_answer_38 : decode cX8_answer 38 = .ok (.invokestatic 42, 3) := by decide +kernel
theorem dX8_answer_41 : decode cX8_answer 41 = .ok (.ifCond .ne 10, 3) := by decide +kernel
theorem dX8_answer_44 : decode cX8_answer 44 = .ok (.aload_n 0, 1) := by decide +kernel
theorem dX8_answer_45 : decode cX8_answer 45 = .ok (.iconst 2, 1) := by decide +kernel
theorem dX8_answer_46 : decode cX8_answer 46 = .ok (.invokevirtual 90, 3) := by decide +kernel
theorem dX8_answer_49 : decode cX8_answer 49 = .ok (.i2l, 1) := by decide +kernel
theorem dX8_answer_50 : decode cX8_answer 50 = .ok (.lreturn, 1) := by decide +kernel
theorem dX8_answer_51 : decode cX8_answer 51 = .ok (.aload_n 0, 1) := by decide +kernel
theorem dX8_answer_52 : decode cX8_answer 52 = .ok (.getfield 7, 3) := by decide +kernel
theorem dX8_answer_55 : decode cX8_answer 55 = .ok (.iload_n 1, 1) := by decide +kernel
theorem dX8_answer_56 : decode cX8_answer 56 = .ok (.invokestatic 179, 3) := by decide +kernel
theorem dX8_answer_59 : decode cX8_answer 59 = .ok (.iconst 2, 1) := by decide +kernel
theorem dX8_answer_60 : decode cX8_answer 60 = .ok (.iadd, 1) := by decide +kernel
theorem dX8_answer_61 : decode cX8_answer 61 = .ok (.iaload, 1) := by decide +kernel
theorem dX8_answer_62 : decode cX8_answer 62 = .ok (.iconst 1, 1) := by decide +kernel
theorem dX8_answer_63 : decode cX8_answer 63 = .ok (.if_icmp .ne 12, 3) := by decide +kernel
theorem dX8_answer_66 : decode cX8_answer 66 = .ok (.aload_n 0, 1) := by decide +kernel
theorem dX8_answer_67 : decode cX8_answer 67 = .ok (.iload_n 1, 1) := by decide +kernel
theorem dX8_answer_68 : decode cX8_answer 68 = .ok (.iload_n 2, 1) := by decide +kernel
theorem dX8_answer_69 : decode cX8_answer 69 = .ok (.invokevirtual 192, 3) := by decide +kernel
theorem dX8_answer_72 : decode cX8_answer 72 = .ok (.goto 9, 3) := by decide +kernel
theorem dX8_answer_75 : decode cX8_answer 75 = .ok (.aload_n 0, 1) := by decide +kernel
theorem dX8_answer_76 : decode cX8_answer 76 = .ok (.iconst 3, 1) := by decide +kernel
theorem dX8_answer_77 : decode cX8_answer 77 = .ok (.invokevirtual 90, 3) := by decide +kernel
theorem dX8_answer_80 : decode cX8_answer 80 = .ok (.i2l, 1) := by decide +kernel
theorem dX8_answer_81 : decode cX8_answer 81 = .ok (.lreturn, 1) := by decide +kernel
set_option maxRecDepth 20000 in
theorem ggX8_forget_X8_keep : GoodIn wsX8_forget wsX8_keep := goodIn_r _ [7, 8, 9, 2, 10, 11, 12, 13, 14, 15, 16, 17, 18, 19, 20, 21, 22, 23] (by decide +kernel) (by decide +kernel)
set_option maxRecDepth 20000 in
theorem gX8_forget_X8_keep : GoodIn wsX8_forget (wsV RX8 77 RX8 yX8_keep wsX8_keep) := goodIn_app (goodIn_of _ (by decide +kernel)) ggX8_forget_X8_keep
theorem dX8_forget_0 : decode cX8_forget 0 = .ok (.aload_n 0, 1) := by decide +kernel
theorem dX8_forget_1 : decode cX8_forget 1 = .ok (.iconst 0, 1) := by decide +kernel
theorem dX8_forget_2 : decode cX8_forget 2 = .ok (.putfield 31, 3) := by decide +kernel
theorem dX8_forget_5 : decode cX8_forget 5 = .ok (.aload_n 0, 1) := by decide +kernel
theorem dX8_forget_6 : decode cX8_forget 6 = .ok (.invokevirtual 77, 3) := by decide +kernel
theorem dX8_forget_9 : decode cX8_forget 9 = .ok (.aload_n 0, 1) := by decide +kernel
theorem dX8_forget_10 : decode cX8_forget 10 = .ok (.getfield 7, 3) := by decide +kernel
theorem dX8_forget_13 : decode cX8_forget 13 = .ok (.sipush 242, 3) := by decide +kernel
theorem dX8_forget_16 : decode cX8_forget 16 = .ok (.iaload, 1) := by decide +kernel
theorem dX8_forget_17 : decode cX8_forget 17 = .ok (.istore_n 1, 1) := by decide +kernel
theorem dX8_forget_18 : decode cX8_forget 18 = .ok (.aload_n 0, 1) := by decide +kernel
theorem dX8_forget_19 : decode cX8_forget 19 = .ok (.getfield 7, 3) := by decide +kernel
theorem dX8_forget_22 : decode cX8_forget 22 = .ok (.sipush 242, 3) := by decide +kernel
theorem dX8_forget_25 : decode cX8_forget 25 = .ok (.iconst 0, 1) := by decide +kernel
theorem dX8_forget_26 : decode cX8_forget 26 = .ok (.iastore, 1) := by decide +kernel
theorem dX8_forget_27 : decode cX8_forget 27 = .ok (.iload_n 1, 1) := by decide +kernel
theorem dX8_forget_28 : decode cX8_forget 28 = .ok (.ireturn, 1) := by decide +kernel
set_option maxRecDepth 20000 in
theorem ggX8_mark_X8_fails : GoodIn wsX8_mark wsX8_fails := goodIn_r _ [7, 1, 14, 15, 16, 17, 18, 19, 20, 21, 22, 23, 24, 25, 26, 27] (by decide +kernel) (by decide +kernel)
set_option maxRecDepth 20000 in
theorem gX8_mark_X8_fails : GoodIn wsX8_mark (wsV RX8 90 RX8 yX8_fails wsX8_fails) := goodIn_app (goodIn_of _ (by decide +kernel)) ggX8_mark_X8_fails
set_option maxRecDepth 20000 in
theorem ggX8_mark_X8_keep : GoodIn wsX8_mark wsX8_keep := goodIn_r _ [11, 12, 13, 2, 14, 15, 16, 17, 18, 19, 20, 21, 22, 23, 24, 25, 26, 27] (by decide +kernel) (by decide +kernel)
set_option maxRecDepth 20000 in
theorem gX8_mark_X8_keep : GoodIn wsX8_mark (wsV RX8 77 RX8 yX8_keep wsX8_keep) := goodIn_app (goodIn_of _ (by decide +kernel)) ggX8_mark_X8_keep
theorem dX8_mark_0 : decode cX8_mark 0 = .ok (.aload_n 0, 1) := by decide +kernel
theorem dX8_mark_1 : decode cX8_mark 1 = .ok (.iconst 0, 1) := by decide +kernel
theorem dX8_mark_2 : decode cX8_mark 2 = .ok (.putfield 31, 3) := by decide +kernel
theorem dX8_mark_5 : decode cX8_mark 5 = .ok (.aload_n 0, 1) := by decide +kernel
theorem dX8_mark_6 : decode cX8_mark 6 = .ok (.getfield 7, 3) := by decide +kernel
theorem dX8_mark_9 : decode cX8_mark 9 = .ok (.sipush 423, 3) := by decide +kernel
theorem dX8_mark_12 : decode cX8_mark 12 = .ok (.iaload, 1) := by decide +kernel
theorem dX8_mark_13 : decode cX8_mark 13 = .ok (.iconst 5, 1) := by decide +kernel
theorem dX8_mark_14 : decode cX8_mark 14 = .ok (.if_icmp .ne 9, 3) := by decide +kernel
theorem dX8_mark_17 : decode cX8_mark 17 = .ok (.aload_n 0, 1) := by decide +kernel
theorem dX8_mark_18 : decode cX8_mark 18 = .ok (.iconst 1, 1) := by decide +kernel
theorem dX8_mark_19 : decode cX8_mark 19 = .ok (.invokevirtual 90, 3) := by decide +kernel
theorem dX8_mark_22 : decode cX8_mark 22 = .ok (.ireturn, 1) := by decide +kernel
theorem dX8_mark_23 : decode cX8_mark 23 = .ok (.aload_n 0, 1) := by decide +kernel
theorem dX8_mark_24 : decode cX8_mark 24 = .ok (.invokevirtual 77, 3) := by decide +kernel
theorem dX8_mark_27 : decode cX8_mark 27 = .ok (.iconst 0, 1) := by decide +kernel
theorem dX8_mark_28 : decode cX8_mark 28 = .ok (.istore_n 1, 1) := by decide +kernel
theorem dX8_mark_29 : decode cX8_mark 29 = .ok (.iload_n 1, 1) := by decide +kernel
theorem dX8_mark_30 : decode cX8_mark 30 = .ok (.sipush 242, 3) := by decide +kernel
theorem dX8_mark_33 : decode cX8_mark 33 = .ok (.if_icmp .ge 38, 3) := by decide +kernel
theorem dX8_mark_36 : decode cX8_mark 36 = .ok (.aload_n 0, 1) := by decide +kernel
theorem dX8_mark_37 : decode cX8_mark 37 = .ok (.getfield 7, 3) := by decide +kernel
theorem dX8_mark_40 : decode cX8_mark 40 = .ok (.sipush 424, 3) := by decide +kernel
theorem dX8_mark_43 : decode cX8_mark 43 = .ok (.sipush 242, 3) := by decide +kernel
theorem dX8_mark_46 : decode cX8_mark 46 = .ok (.aload_n 0, 1) := by decide +kernel
theorem dX8_mark_47 : decode cX8_mark 47 = .ok (.getfield 7, 3) := by decide +kernel
theorem dX8_mark_50 : decode cX8_mark 50 = .ok (.sipush 423, 3) := by decide +kernel
theorem dX8_mark_53 : decode cX8_mark 53 = .ok (.iaload, 1) := by decide +kernel
theorem dX8_mark_54 : decode cX8_mark 54 = .ok (.imul, 1) := by decide +kernel
theorem dX8_mark_55 : decode cX8_mark 55 = .ok (.iadd, 1) := by decide +kernel
theorem dX8_mark_56 : decode cX8_mark 56 = .ok (.iload_n 1, 1) := by decide +kernel
theorem dX8_mark_57 : decode cX8_mark 57 = .ok (.iadd, 1) := by decide +kernel
theorem dX8_mark_58 : decode cX8_mark 58 = .ok (.aload_n 0, 1) := by decide +kernel
theorem dX8_mark_59 : decode cX8_mark 59 = .ok (.getfield 7, 3) := by decide +kernel
theorem dX8_mark_62 : decode cX8_mark 62 = .ok (.iload_n 1, 1) := by decide +kernel
theorem dX8_mark_63 : decode cX8_mark 63 = .ok (.iaload, 1) := by decide +kernel
theorem dX8_mark_64 : decode cX8_mark 64 = .ok (.iastore, 1) := by decide +kernel
theorem dX8_mark_65 : decode cX8_mark 65 = .ok (.iinc 1 1, 3) := by decide +kernel
theorem dX8_mark_68 : decode cX8_mark 68 = .ok (.goto (-39), 3) := by decide +kernel
theorem dX8_mark_71 : decode cX8_mark 71 = .ok (.aload_n 0, 1) := by decide +kernel
theorem dX8_mark_72 : decode cX8_mark 72 = .ok (.getfield 7, 3) := by decide +kernel
theorem dX8_mark_75 : decode cX8_mark 75 = .ok (.sipush 423, 3) := by decide +kernel
theorem dX8_mark_78 : decode cX8_mark 78 = .ok (.dup2, 1) := by decide +kernel
theorem dX8_mark_79 : decode cX8_mark 79 = .ok (.iaload, 1) := by decide +kernel
theorem dX8_mark_80 : decode cX8_mark 80 = .ok (.iconst 1, 1) := by decide +kernel
theorem dX8_mark_81 : decode cX8_mark 81 = .ok (.iadd, 1) := by decide +kernel
theorem dX8_mark_82 : decode cX8_mark 82 = .ok (.iastore, 1) := by decide +kernel
theorem dX8_mark_83 : decode cX8_mark 83 = .ok (.aload_n 0, 1) := by decide +kernel
theorem dX8_mark_84 : decode cX8_mark 84 = .ok (.getfield 7, 3) := by decide +kernel
theorem dX8_mark_87 : decode cX8_mark 87 = .ok (.sipush 423, 3) := by decide +kernel
theorem dX8_mark_90 : decode cX8_mark 90 = .ok (.iaload, 1) := by decide +kernel
theorem dX8_mark_91 : decode cX8_mark 91 = .ok (.ireturn, 1) := by decide +kernel
set_option maxRecDepth 20000 in
theorem ggX8_rollBack_X8_fails : GoodIn wsX8_rollBack wsX8_fails := goodIn_r _ [7, 1, 14, 15, 16, 17, 18, 19, 20, 21, 22, 23, 24, 25, 26, 27] (by decide +kernel) (by decide +kernel)
set_option maxRecDepth 20000 in
theorem gX8_rollBack_X8_fails : GoodIn wsX8_rollBack (wsV RX8 90 RX8 yX8_fails wsX8_fails) := goodIn_app (goodIn_of _ (by decide +kernel)) ggX8_rollBack_X8_fails
set_option maxRecDepth 20000 in
theorem ggX8_rollBack_X8_keep : GoodIn wsX8_rollBack wsX8_keep := goodIn_r _ [11, 12, 13, 2, 14, 15, 16, 17, 18, 19, 20, 21, 22, 23, 24, 25, 26, 27] (by decide +kernel) (by decide +kernel)
set_option maxRecDepth 20000 in
theorem gX8_rollBack_X8_keep : GoodIn wsX8_rollBack (wsV RX8 77 RX8 yX8_keep wsX8_keep) := goodIn_app (goodIn_of _ (by decide +kernel)) ggX8_rollBack_X8_keep
theorem dX8_rollBack_0 : decode cX8_rollBack 0 = .ok (.aload_n 0, 1) := by decide +kernel
theorem dX8_rollBack_1 : decode cX8_rollBack 1 = .ok (.iconst 0, 1) := by decide +kernel
theorem dX8_rollBack_2 : decode cX8_rollBack 2 = .ok (.putfield 31, 3) := by decide +kernel
theorem dX8_rollBack_5 : decode cX8_rollBack 5 = .ok (.aload_n 0, 1) := by decide +kernel
theorem dX8_rollBack_6 : decode cX8_rollBack 6 = .ok (.getfield 7, 3) := by decide +kernel
theorem dX8_rollBack_9 : decode cX8_rollBack 9 = .ok (.sipush 423, 3) := by decide +kernel
theorem dX8_rollBack_12 : decode cX8_rollBack 12 = .ok (.iaload, 1) := by decide +kernel
theorem dX8_rollBack_13 : decode cX8_rollBack 13 = .ok (.ifCond .ne 9, 3) := by decide +kernel
theorem dX8_rollBack_16 : decode cX8_rollBack 16 = .ok (.aload_n 0, 1) := by decide +kernel
theorem dX8_rollBack_17 : decode cX8_rollBack 17 = .ok (.iconst 1, 1) := by decide +kernel
theorem dX8_rollBack_18 : decode cX8_rollBack 18 = .ok (.invokevirtual 90, 3) := by decide +kernel
theorem dX8_rollBack_21 : decode cX8_rollBack 21 = .ok (.ireturn, 1) := by decide +kernel
theorem dX8_rollBack_22 : decode cX8_rollBack 22 = .ok (.aload_n 0, 1) := by decide +kernel
theorem dX8_rollBack_23 : decode cX8_rollBack 23 = .ok (.invokevirtual 77, 3) := by decide +kernel
theorem dX8_rollBack_26 : decode cX8_rollBack 26 = .ok (.aload_n 0, 1) := by decide +kernel
theorem dX8_rollBack_27 : decode cX8_rollBack 27 = .ok (.getfield 7, 3) := by decide +kernel
theorem dX8_rollBack_30 : decode cX8_rollBack 30 = .ok (.sipush 423, 3) := by decide +kernel
theorem dX8_rollBack_33 : decode cX8_rollBack 33 = .ok (.dup2, 1) := by decide +kernel
theorem dX8_rollBack_34 : decode cX8_rollBack 34 = .ok (.iaload, 1) := by decide +kernel
theorem dX8_rollBack_35 : decode cX8_rollBack 35 = .ok (.iconst 1, 1) := by decide +kernel
theorem dX8_rollBack_36 : decode cX8_rollBack 36 = .ok (.isub, 1) := by decide +kernel
theorem dX8_rollBack_37 : decode cX8_rollBack 37 = .ok (.iastore, 1) := by decide +kernel
theorem dX8_rollBack_38 : decode cX8_rollBack 38 = .ok (.iconst 0, 1) := by decide +kernel
theorem dX8_rollBack_39 : decode cX8_rollBack 39 = .ok (.istore_n 1, 1) := by decide +kernel
theorem dX8_rollBack_40 : decode cX8_rollBack 40 = .ok (.iload_n 1, 1) := by decide +kernel
theorem dX8_rollBack_41 : decode cX8_rollBack 41 = .ok (.sipush 242, 3) := by decide +kernel
theorem dX8_rollBack_44 : decode cX8_rollBack 44 = .ok (.if_icmp .ge 38, 3) := by decide +kernel
theorem dX8_rollBack_47 : decode cX8_rollBack 47 = .ok (.aload_n 0, 1) := by decide +kernel
theorem dX8_rollBack_48 : decode cX8_rollBack 48 = .ok (.getfield 7, 3) := by decide +kernel
theorem dX8_rollBack_51 : decode cX8_rollBack 51 = .ok (.iload_n 1, 1) := by decide +kernel
theorem dX8_rollBack_52 : decode cX8_rollBack 52 = .ok (.aload_n 0, 1) := by decide +kernel
theorem dX8_rollBack_53 : decode cX8_rollBack 53 = .ok (.getfield 7, 3) := by decide +kernel
theorem dX8_rollBack_56 : decode cX8_rollBack 56 = .ok (.sipush 424, 3) := by decide +kernel
theorem dX8_rollBack_59 : decode cX8_rollBack 59 = .ok (.sipush 242, 3) := by decide +kernel
theorem dX8_rollBack_62 : decode cX8_rollBack 62 = .ok (.aload_n 0, 1) := by decide +kernel
theorem dX8_rollBack_63 : decode cX8_rollBack 63 = .ok (.getfield 7, 3) := by decide +kernel
theorem dX8_rollBack_66 : decode cX8_rollBack 66 = .ok (.sipush 423, 3) := by decide +kernel
theorem dX8_rollBack_69 : decode cX8_rollBack 69 = .ok (.iaload, 1) := by decide +kernel
theorem dX8_rollBack_70 : decode cX8_rollBack 70 = .ok (.imul, 1) := by decide +kernel
theorem dX8_rollBack_71 : decode cX8_rollBack 71 = .ok (.iadd, 1) := by decide +kernel
theorem dX8_rollBack_72 : decode cX8_rollBack 72 = .ok (.iload_n 1, 1) := by decide +kernel
theorem dX8_rollBack_73 : decode cX8_rollBack 73 = .ok (.iadd, 1) := by decide +kernel
theorem dX8_rollBack_74 : decode cX8_rollBack 74 = .ok (.iaload, 1) := by decide +kernel
theorem dX8_rollBack_75 : decode cX8_rollBack 75 = .ok (.iastore, 1) := by decide +kernel
theorem dX8_rollBack_76 : decode cX8_rollBack 76 = .ok (.iinc 1 1, 3) := by decide +kernel
theorem dX8_rollBack_79 : decode cX8_rollBack 79 = .ok (.goto (-39), 3) := by decide +kernel
theorem dX8_rollBack_82 : decode cX8_rollBack 82 = .ok (.aload_n 0, 1) := by decide +kernel
theorem dX8_rollBack_83 : decode cX8_rollBack 83 = .ok (.getfield 7, 3) := by decide +kernel
theorem dX8_rollBack_86 : decode cX8_rollBack 86 = .ok (.sipush 423, 3) := by decide +kernel
theorem dX8_rollBack_89 : decode cX8_rollBack 89 = .ok (.iaload, 1) := by decide +kernel
theorem dX8_rollBack_90 : decode cX8_rollBack 90 = .ok (.ireturn, 1) := by decide +kernel
set_option maxRecDepth 20000 in
theorem ggX8_append_X8_in : GoodIn wsX8_append wsX8_in := goodIn_r _ [8] (by decide +kernel) (by decide +kernel)
set_option maxRecDepth 20000 in
theorem gX8_append_X8_in : GoodIn wsX8_append (va_wsS RX8 42 yX8_in wsX8_in) := goodIn_app (goodIn_of _ (by decide +kernel)) ggX8_append_X8_in
set_option maxRecDepth 20000 in
theorem ggX8_append_X8_fails : GoodIn wsX8_append wsX8_fails := goodIn_r _ [12, 1, 13, 14, 15, 16, 17, 18, 19, 20, 21, 22, 23, 24, 25, 26] (by decide +kernel) (by decide +kernel)
set_option maxRecDepth 20000 in
theorem gX8_append_X8_fails : GoodIn wsX8_append (wsV RX8 90 RX8 yX8_fails wsX8_fails) := goodIn_app (goodIn_of _ (by decide +kernel)) ggX8_append_X8_fails
theorem dX8_append_0 : decode cX8_append 0 = .ok (.aload_n 0, 1) := by decide +kernel
theorem dX8_append_1 : decode cX8_append 1 = .ok (.iconst 0, 1) := by decide +kernel
theorem dX8_append_2 : decode cX8_append 2 = .ok (.putfield 31, 3) := by decide +kernel
theorem dX8_append_5 : decode cX8_append 5 = .ok (.iload_n 1, 1) := by decide +kernel
theorem dX8_append_6 : decode cX8_append 6 = .ok (.i2l, 1) := by decide +kernel
theorem dX8_append_7 : decode cX8_append 7 = .ok (.lconst 0, 1) := by decide +kernel
theorem dX8_append_8 : decode cX8_append 8 = .ok (.ldc2_w 196, 3) := by decide +kernel
theorem dX8_append_11 : decode cX8_append 11 = .ok (.invokestatic 42, 3) := by decide +kernel
theorem dX8_append_14 : decode cX8_append 14 = .ok (.ifCond .ne 9, 3) := by decide +kernel
theorem dX8_append_17 : decode cX8_append 17 = .ok (.aload_n 0, 1) := by decide +kernel
theorem dX8_append_18 : decode cX8_append 18 = .ok (.iconst 1, 1) := by decide +kernel
theorem dX8_append_19 : decode cX8_append 19 = .ok (.invokevirtual 90, 3) := by decide +kernel
theorem dX8_append_22 : decode cX8_append 22 = .ok (.ireturn, 1) := by decide +kernel
theorem dX8_append_23 : decode cX8_append 23 = .ok (.aload_n 0, 1) := by decide +kernel
theorem dX8_append_24 : decode cX8_append 24 = .ok (.getfield 198, 3) := by decide +kernel
theorem dX8_append_27 : decode cX8_append 27 = .ok (.bipush 120, 2) := by decide +kernel
theorem dX8_append_29 : decode cX8_append 29 = .ok (.if_icmp .ne 9, 3) := by decide +kernel
theorem dX8_append_32 : decode cX8_append 32 = .ok (.aload_n 0, 1) := by decide +kernel
theorem dX8_append_33 : decode cX8_append 33 = .ok (.iconst 2, 1) := by decide +kernel
theorem dX8_append_34 : decode cX8_append 34 = .ok (.invokevirtual 90, 3) := by decide +kernel
theorem dX8_append_37 : decode cX8_append 37 = .ok (.ireturn, 1) := by decide +kernel
theorem dX8_append_38 : decode cX8_append 38 = .ok (.aload_n 0, 1) := by decide +kernel
theorem dX8_append_39 : decode cX8_append 39 = .ok (.getfield 16, 3) := by decide +kernel
theorem dX8_append_42 : decode cX8_append 42 = .ok (.aload_n 0, 1) := by decide +kernel
theorem dX8_append_43 : decode cX8_append 43 = .ok (.getfield 198, 3) := by decide +kernel
theorem dX8_append_46 : decode cX8_append 46 = .ok (.iload_n 1, 1) := by decide +kernel
theorem dX8_append_47 : decode cX8_append 47 = .ok (.iastore, 1) := by decide +kernel
theorem dX8_append_48 : decode cX8_append 48 = .ok (.aload_n 0, 1) := by decide +kernel
theorem dX8_append_49 : decode cX8_append 49 = .ok (.dup, 1) := by decide +kernel
theorem dX8_append_50 : decode cX8_append 50 = .ok (.getfield 198, 3) := by decide +kernel
theorem dX8_append_53 : decode cX8_append 53 = .ok (.iconst 1, 1) := by decide +kernel
theorem dX8_append_54 : decode cX8_append 54 = .ok (.iadd, 1) := by decide +kernel
theorem dX8_append_55 : decode cX8_append 55 = .ok (.putfield 198, 3) := by decide +kernel
theorem dX8_append_58 : decode cX8_append 58 = .ok (.aload_n 0, 1) := by decide +kernel
theorem dX8_append_59 : decode cX8_append 59 = .ok (.getfield 198, 3) := by decide +kernel
theorem dX8_append_62 : decode cX8_append 62 = .ok (.ireturn, 1) := by decide +kernel
theorem dX8_clearText_0 : decode cX8_clearText 0 = .ok (.aload_n 0, 1) := by decide +kernel
theorem dX8_clearText_1 : decode cX8_clearText 1 = .ok (.iconst 0, 1) := by decide +kernel
theorem dX8_clearText_2 : decode cX8_clearText 2 = .ok (.putfield 31, 3) := by decide +kernel
theorem dX8_clearText_5 : decode cX8_clearText 5 = .ok (.aload_n 0, 1) := by decide +kernel
theorem dX8_clearText_6 : decode cX8_clearText 6 = .ok (.getfield 198, 3) := by decide +kernel
theorem dX8_clearText_9 : decode cX8_clearText 9 = .ok (.istore_n 1, 1) := by decide +kernel
theorem dX8_clearText_10 : decode cX8_clearText 10 = .ok (.aload_n 0, 1) := by decide +kernel
theorem dX8_clearText_11 : decode cX8_clearText 11 = .ok (.iconst 0, 1) := by decide +kernel
theorem dX8_clearText_12 : decode cX8_clearText 12 = .ok (.putfield 198, 3) := by decide +kernel
theorem dX8_clearText_15 : decode cX8_clearText 15 = .ok (.iload_n 1, 1) := by decide +kernel
theorem dX8_clearText_16 : decode cX8_clearText 16 = .ok (.ireturn, 1) := by decide +kernel
theorem dX8_here_0 : decode cX8_here 0 = .ok (.aload_n 0, 1) := by decide +kernel
theorem dX8_here_1 : decode cX8_here 1 = .ok (.getfield 201, 3) := by decide +kernel
theorem dX8_here_4 : decode cX8_here 4 = .ok (.aload_n 0, 1) := by decide +kernel
theorem dX8_here_5 : decode cX8_here 5 = .ok (.getfield 198, 3) := by decide +kernel
theorem dX8_here_8 : decode cX8_here 8 = .ok (.if_icmp .ge 15, 3) := by decide +kernel
theorem dX8_here_11 : decode cX8_here 11 = .ok (.aload_n 0, 1) := by decide +kernel
theorem dX8_here_12 : decode cX8_here 12 = .ok (.getfield 16, 3) := by decide +kernel
theorem dX8_here_15 : decode cX8_here 15 = .ok (.aload_n 0, 1) := by decide +kernel
theorem dX8_here_16 : decode cX8_here 16 = .ok (.getfield 201, 3) := by decide +kernel
theorem dX8_here_19 : decode cX8_here 19 = .ok (.iaload, 1) := by decide +kernel
theorem dX8_here_20 : decode cX8_here 20 = .ok (.goto 4, 3) := by decide +kernel
theorem dX8_here_23 : decode cX8_here 23 = .ok (.iconst (-1), 1) := by decide +kernel
theorem dX8_here_24 : decode cX8_here 24 = .ok (.ireturn, 1) := by decide +kernel
set_option maxRecDepth 20000 in
theorem ggX8_takes_X8_here : GoodIn wsX8_takes wsX8_here := goodIn_r _ [6, 1, 7, 8, 9, 10, 11, 12, 13, 14, 15, 16, 17, 18, 19, 20, 21, 22] (by decide +kernel) (by decide +kernel)
set_option maxRecDepth 20000 in
theorem gX8_takes_X8_here : GoodIn wsX8_takes (wsV RX8 204 RX8 yX8_here wsX8_here) := goodIn_app (goodIn_of _ (by decide +kernel)) ggX8_takes_X8_here
theorem dX8_takes_0 : decode cX8_takes 0 = .ok (.aload_n 0, 1) := by decide +kernel
theorem dX8_takes_1 : decode cX8_takes 1 = .ok (.invokevirtual 204, 3) := by decide +kernel
theorem dX8_takes_4 : decode cX8_takes 4 = .ok (.iload_n 1, 1) := by decide +kernel
theorem dX8_takes_5 : decode cX8_takes 5 = .ok (.if_icmp .ne 7, 3) := by decide +kernel
theorem dX8_takes_8 : decode cX8_takes 8 = .ok (.iconst 1, 1) := by decide +kernel
theorem dX8_takes_9 : decode cX8_takes 9 = .ok (.goto 4, 3) := by decide +kernel
theorem dX8_takes_12 : decode cX8_takes 12 = .ok (.iconst 0, 1) := by decide +kernel
theorem dX8_takes_13 : decode cX8_takes 13 = .ok (.istore_n 2, 1) := by decide +kernel
theorem dX8_takes_14 : decode cX8_takes 14 = .ok (.aload_n 0, 1) := by decide +kernel
theorem dX8_takes_15 : decode cX8_takes 15 = .ok (.dup, 1) := by decide +kernel
theorem dX8_takes_16 : decode cX8_takes 16 = .ok (.getfield 201, 3) := by decide +kernel
theorem dX8_takes_19 : decode cX8_takes 19 = .ok (.iload_n 2, 1) := by decide +kernel
theorem dX8_takes_20 : decode cX8_takes 20 = .ok (.ifCond .eq 7, 3) := by decide +kernel
theorem dX8_takes_23 : decode cX8_takes 23 = .ok (.iconst 1, 1) := by decide +kernel
theorem dX8_takes_24 : decode cX8_takes 24 = .ok (.goto 4, 3) := by decide +kernel
theorem dX8_takes_27 : decode cX8_takes 27 = .ok (.iconst 0, 1) := by decide +kernel
theorem dX8_takes_28 : decode cX8_takes 28 = .ok (.iadd, 1) := by decide +kernel
theorem dX8_takes_29 : decode cX8_takes 29 = .ok (.putfield 201, 3) := by decide +kernel
theorem dX8_takes_32 : decode cX8_takes 32 = .ok (.iload_n 2, 1) := by decide +kernel
theorem dX8_takes_33 : decode cX8_takes 33 = .ok (.ireturn, 1) := by decide +kernel
theorem dX8_numbersOf_0 : decode cX8_numbersOf 0 = .ok (.iload_n 0, 1) := by decide +kernel
theorem dX8_numbersOf_1 : decode cX8_numbersOf 1 = .ok (.tableswitch 103 97 116 #[95, 103, 103, 103, 99, 103, 103, 103, 103, 103, 103, 103, 97, 103, 103, 103, 97, 103, 101, 99], 95) := by decide +kernel
theorem dX8_numbersOf_96 : decode cX8_numbersOf 96 = .ok (.iconst 4, 1) := by decide +kernel
theorem dX8_numbersOf_97 : decode cX8_numbersOf 97 = .ok (.ireturn, 1) := by decide +kernel
theorem dX8_numbersOf_98 : decode cX8_numbersOf 98 = .ok (.iconst 2, 1) := by decide +kernel
theorem dX8_numbersOf_99 : decode cX8_numbersOf 99 = .ok (.ireturn, 1) := by decide +kernel
theorem dX8_numbersOf_100 : decode cX8_numbersOf 100 = .ok (.iconst 1, 1) := by decide +kernel
theorem dX8_numbersOf_101 : decode cX8_numbersOf 101 = .ok (.ireturn, 1) := by decide +kernel
theorem dX8_numbersOf_102 : decode cX8_numbersOf 102 = .ok (.iconst 0, 1) := by decide +kernel
theorem dX8_numbersOf_103 : decode cX8_numbersOf 103 = .ok (.ireturn, 1) := by decide +kernel
theorem dX8_numbersOf_104 : decode cX8_numbersOf 104 = .ok (.iconst (-1), 1) := by decide +kernel
theorem dX8_numbersOf_105 : decode cX8_numbersOf 105 = .ok (.ireturn, 1) := by decide +kernel
set_option maxRecDepth 20000 in
theorem ggX8_readsNumber_X8_takes : GoodIn wsX8_readsNumber wsX8_takes := goodIn_r _ [10, 3, 11, 12, 13, 9, 14, 15, 16, 20, 21, 22, 23, 24, 25, 26, 27, 28, 29, 30, 31, 32, 33] (by decide +kernel) (by decide +kernel)
set_option maxRecDepth 20000 in
theorem gX8_readsNumber_X8_takes : GoodIn wsX8_readsNumber (wsV RX8 207 RX8 yX8_takes wsX8_takes) := goodIn_app (goodIn_of _ (by decide +kernel)) ggX8_readsNumber_X8_takes
set_option maxRecDepth 20000 in
theorem ggX8_readsNumber_X8_here : GoodIn wsX8_readsNumber wsX8_here := goodIn_r _ [14, 3, 15, 16, 20, 21, 22, 23, 24, 25, 26, 27, 28, 29, 30, 31, 32, 33] (by decide +kernel) (by decide +kernel)
set_option maxRecDepth 20000 in
theorem gX8_readsNumber_X8_here : GoodIn wsX8_readsNumber (wsV RX8 204 RX8 yX8_here wsX8_here) := goodIn_app (goodIn_of _ (by decide +kernel)) ggX8_readsNumber_X8_here
set_option maxRecDepth 20000 in
theorem ggX8_readsNumber_X8_in : GoodIn wsX8_readsNumber wsX8_in := goodIn_r _ [19] (by decide +kernel) (by decide +kernel)
set_option maxRecDepth 20000 in
theorem gX8_readsNumber_X8_in : GoodIn wsX8_readsNumber (va_wsS RX8 42 yX8_in wsX8_in) := goodIn_app (goodIn_of _ (by decide +kernel)) ggX8_readsNumber_X8_in
theorem dX8_readsNumber_0 : decode cX8_readsNumber 0 = .ok (.aload_n 0, 1) := by decide +kernel
theorem dX8_readsNumber_1 : decode cX8_readsNumber 1 = .ok (.bipush 32, 2) := by decide +kernel
theorem dX8_readsNumber_3 : decode cX8_readsNumber 3 = .ok (.invokevirtual 207, 3) := by decide +kernel
theorem dX8_readsNumber_6 : decode cX8_readsNumber 6 = .ok (.ifCond .ne 5, 3) := by decide +kernel
theorem dX8_readsNumber_9 : decode cX8_readsNumber 9 = .ok (.iconst 0, 1) := by decide +kernel
theorem dX8_readsNumber_10 : decode cX8_readsNumber 10 = .ok (.ireturn, 1) := by decide +kernel
theorem dX8_readsNumber_11 : decode cX8_readsNumber 11 = .ok (.aload_n 0, 1) := by decide +kernel
theorem dX8_readsNumber_12 : decode cX8_readsNumber 12 = .ok (.bipush 45, 2) := by decide +kernel
theorem dX8_readsNumber_14 : decode cX8_readsNumber 14 = .ok (.invokevirtual 207, 3) := by decide +kernel
theorem dX8_readsNumber_17 : decode cX8_readsNumber 17 = .ok (.istore_n 2, 1) := by decide +kernel
theorem dX8_readsNumber_18 : decode cX8_readsNumber 18 = .ok (.iconst 0, 1) := by decide +kernel
theorem dX8_readsNumber_19 : decode cX8_readsNumber 19 = .ok (.istore_n 3, 1) := by decide +kernel
theorem dX8_readsNumber_20 : decode cX8_readsNumber 20 = .ok (.iconst 0, 1) := by decide +kernel
theorem dX8_readsNumber_21 : decode cX8_readsNumber 21 = .ok (.istore 4, 2) := by decide +kernel
theorem dX8_readsNumber_23 : decode cX8_readsNumber 23 = .ok (.iload_n 3, 1) := by decide +kernel
theorem dX8_readsNumber_24 : decode cX8_readsNumber 24 = .ok (.bipush 7, 2) := by decide +kernel
theorem dX8_readsNumber_26 : decode cX8_readsNumber 26 = .ok (.if_icmp .ge 51, 3) := by decide +kernel
theorem dX8_readsNumber_29 : decode cX8_readsNumber 29 = .ok (.aload_n 0, 1) := by decide +kernel
theorem dX8_readsNumber_30 : decode cX8_readsNumber 30 = .ok (.invokevirtual 204, 3) := by decide +kernel
theorem dX8_readsNumber_33 : decode cX8_readsNumber 33 = .ok (.i2l, 1) := by decide +kernel
theorem dX8_readsNumber_34 : decode cX8_readsNumber 34 = .ok (.ldc2_w 210, 3) := by decide +kernel
theorem dX8_readsNumber_37 : decode cX8_readsNumber 37 = .ok (.ldc2_w 212, 3) := by decide +kernel
theorem dX8_readsNumber_40 : decode cX8_readsNumber 40 = .ok (.invokestatic 42, 3) := by decide +kernel
theorem dX8_readsNumber_43 : decode cX8_readsNumber 43 = .ok (.ifCond .eq 34, 3) := by decide +kernel
theorem dX8_readsNumber_46 : decode cX8_readsNumber 46 = .ok (.bipush 10, 2) := by decide +kernel
theorem dX8_readsNumber_48 : decode cX8_readsNumber 48 = .ok (.iload 4, 2) := by decide +kernel
theorem dX8_readsNumber_50 : decode cX8_readsNumber 50 = .ok (.imul, 1) := by decide +kernel
theorem dX8_readsNumber_51 : decode cX8_readsNumber 51 = .ok (.aload_n 0, 1) := by decide +kernel
theorem dX8_readsNumber_52 : decode cX8_readsNumber 52 = .ok (.invokevirtual 204, 3) := by decide +kernel
theorem dX8_readsNumber_55 : decode cX8_readsNumber 55 = .ok (.iadd, 1) := by decide +kernel
theorem dX8_readsNumber_56 : decode cX8_readsNumber 56 = .ok (.bipush 48, 2) := by decide +kernel
theorem dX8_readsNumber_58 : decode cX8_readsNumber 58 = .ok (.isub, 1) := by decide +kernel
theorem dX8_readsNumber_59 : decode cX8_readsNumber 59 = .ok (.istore 4, 2) := by decide +kernel
theorem dX8_readsNumber_61 : decode cX8_readsNumber 61 = .ok (.iinc 3 1, 3) := by decide +kernel
theorem dX8_readsNumber_64 : decode cX8_readsNumber 64 = .ok (.aload_n 0, 1) := by decide +kernel
theorem dX8_readsNumber_65 : decode cX8_readsNumber 65 = .ok (.dup, 1) := by decide +kernel
theorem dX8_readsNumber_66 : decode cX8_readsNumber 66 = .ok (.getfield 201, 3) := by decide +kernel
theorem dX8_readsNumber_69 : decode cX8_readsNumber 69 = .ok (.iconst 1, 1) := by decide +kernel
theorem dX8_readsNumber_70 : decode cX8_readsNumber 70 = .ok (.iadd, 1) := by decide +kernel
theorem dX8_readsNumber_71 : decode cX8_readsNumber 71 = .ok (.putfield 201, 3) := by decide +kernel
theorem dX8_readsNumber_74 : decode cX8_readsNumber 74 = .ok (.goto (-51), 3) := by decide +kernel
theorem dX8_readsNumber_77 : decode cX8_readsNumber 77 = .ok (.aload_n 0, 1) := by decide +kernel
theorem dX8_readsNumber_78 : decode cX8_readsNumber 78 = .ok (.getfield 25, 3) := by decide +kernel
theorem dX8_readsNumber_81 : decode cX8_readsNumber 81 = .ok (.iconst 4, 1) := by decide +kernel
theorem dX8_readsNumber_82 : decode cX8_readsNumber 82 = .ok (.aload_n 0, 1) := by decide +kernel
theorem dX8_readsNumber_83 : decode cX8_readsNumber 83 = .ok (.getfield 214, 3) := by decide +kernel
theorem dX8_readsNumber_86 : decode cX8_readsNumber 86 = .ok (.imul, 1) := by decide +kernel
theorem dX8_readsNumber_87 : decode cX8_readsNumber 87 = .ok (.iload_n 1, 1) := by decide +kernel
theorem dX8_readsNumber_88 : decode cX8_readsNumber 88 = .ok (.iadd, 1) := by decide +kernel
theorem dX8_readsNumber_89 : decode cX8_readsNumber 89 = .ok (.iload_n 2, 1) := by decide +kernel
theorem dX8_readsNumber_90 : decode cX8_readsNumber 90 = .ok (.ifCond .eq 9, 3) := by decide +kernel
theorem dX8_readsNumber_93 : decode cX8_readsNumber 93 = .ok (.iload 4, 2) := by decide +kernel
theorem dX8_readsNumber_95 : decode cX8_readsNumber 95 = .ok (.ineg, 1) := by decide +kernel
theorem dX8_readsNumber_96 : decode cX8_readsNumber 96 = .ok (.goto 5, 3) := by decide +kernel
theorem dX8_readsNumber_99 : decode cX8_readsNumber 99 = .ok (.iload 4, 2) := by decide +kernel
theorem dX8_readsNumber_101 : decode cX8_readsNumber 101 = .ok (.iastore, 1) := by decide +kernel
theorem dX8_readsNumber_102 : decode cX8_readsNumber 102 = .ok (.iload_n 3, 1) := by decide +kernel
theorem dX8_readsNumber_103 : decode cX8_readsNumber 103 = .ok (.ifCond .le 7, 3) := by decide +kernel
theorem dX8_readsNumber_106 : decode cX8_readsNumber 106 = .ok (.iconst 1, 1) := by decide +kernel
theorem dX8_readsNumber_107 : decode cX8_readsNumber 107 = .ok (.goto 4, 3) := by decide +kernel
theorem dX8_readsNumber_110 : decode cX8_readsNumber 110 = .ok (.iconst 0, 1) := by decide +kernel
theorem dX8_readsNumber_111 : decode cX8_readsNumber 111 = .ok (.ireturn, 1) := by decide +kernel
set_option maxRecDepth 20000 in
theorem ggX8_readsCommand_X8_here : GoodIn wsX8_readsCommand wsX8_here := goodIn_r _ [8, 3, 9, 10, 28, 29, 30, 31, 32, 33, 34, 35, 36, 37, 38, 39, 40, 41] (by decide +kernel) (by decide +kernel)
set_option maxRecDepth 20000 in
theorem gX8_readsCommand_X8_here : GoodIn wsX8_readsCommand (wsV RX8 204 RX8 yX8_here wsX8_here) := goodIn_app (goodIn_of _ (by decide +kernel)) ggX8_readsCommand_X8_here
set_option maxRecDepth 20000 in
theorem ggX8_readsCommand_X8_numbersOf : GoodIn wsX8_readsCommand wsX8_numbersOf := goodIn_r _ [13] (by decide +kernel) (by decide +kernel)
set_option maxRecDepth 20000 in
theorem gX8_readsCommand_X8_numbersOf : GoodIn wsX8_readsCommand (va_wsS RX8 217 yX8_numbersOf wsX8_numbersOf) := goodIn_app (goodIn_of _ (by decide +kernel)) ggX8_readsCommand_X8_numbersOf
set_option maxRecDepth 20000 in
theorem ggX8_readsCommand_X8_readsNumber : GoodIn wsX8_readsCommand wsX8_readsNumber := goodIn_r _ [17, 18, 19, 3, 20, 2, 21, 22, 23, 7, 24, 4, 5, 6, 8, 9, 10, 25, 26, 27, 28, 29, 30, 31, 32, 33, 34, 35, 36, 37, 38, 39, 40, 41] (by decide +kernel) (by decide +kernel)
set_option maxRecDepth 20000 in
theorem gX8_readsCommand_X8_readsNumber : GoodIn wsX8_readsCommand (wsV RX8 220 RX8 yX8_readsNumber wsX8_readsNumber) := goodIn_app (goodIn_of _ (by decide +kernel)) ggX8_readsCommand_X8_readsNumber
set_option maxRecDepth 20000 in
theorem ggX8_readsCommand_X8_takes : GoodIn wsX8_readsCommand wsX8_takes := goodIn_r _ [24, 3, 4, 5, 6, 7, 8, 9, 10, 28, 29, 30, 31, 32, 33, 34, 35, 36, 37, 38, 39, 40, 41] (by decide +kernel) (by decide +kernel)
set_option maxRecDepth 20000 in
theorem gX8_readsCommand_X8_takes : GoodIn wsX8_readsCommand (wsV RX8 207 RX8 yX8_takes wsX8_takes) := goodIn_app (goodIn_of _ (by decide +kernel)) ggX8_readsCommand_X8_takes
theorem dX8_readsCommand_0 : decode cX8_readsCommand 0 = .ok (.aload_n 0, 1) := by decide +kernel
theorem dX8_readsCommand_1 : decode cX8_readsCommand 1 = .ok (.invokevirtual 204, 3) := by decide +kernel
theorem dX8_readsCommand_4 : decode cX8_readsCommand 4 = .ok (.invokestatic 217, 3) := by decide +kernel
theorem dX8_readsCommand_7 : decode cX8_readsCommand 7 = .ok (.istore_n 1, 1) := by decide +kernel
theorem dX8_readsCommand_8 : decode cX8_readsCommand 8 = .ok (.iload_n 1, 1) := by decide +kernel
theorem dX8_readsCommand_9 : decode cX8_readsCommand 9 = .ok (.iconst (-1), 1) := by decide +kernel
theorem dX8_readsCommand_10 : decode cX8_readsCommand 10 = .ok (.if_icmp .ne 5, 3) := by decide +kernel
theorem dX8_readsCommand_13 : decode cX8_readsCommand 13 = .ok (.iconst 0, 1) := by decide +kernel
theorem dX8_readsCommand_14 : decode cX8_readsCommand 14 = .ok (.ireturn, 1) := by decide +kernel
theorem dX8_readsCommand_15 : decode cX8_readsCommand 15 = .ok (.aload_n 0, 1) := by decide +kernel
theorem dX8_readsCommand_16 : decode cX8_readsCommand 16 = .ok (.getfield 22, 3) := by decide +kernel
theorem dX8_readsCommand_19 : decode cX8_readsCommand 19 = .ok (.aload_n 0, 1) := by decide +kernel
theorem dX8_readsCommand_20 : decode cX8_readsCommand 20 = .ok (.getfield 214, 3) := by decide +kernel
theorem dX8_readsCommand_23 : decode cX8_readsCommand 23 = .ok (.aload_n 0, 1) := by decide +kernel
theorem dX8_readsCommand_24 : decode cX8_readsCommand 24 = .ok (.invokevirtual 204, 3) := by decide +kernel
theorem dX8_readsCommand_27 : decode cX8_readsCommand 27 = .ok (.iastore, 1) := by decide +kernel
theorem dX8_readsCommand_28 : decode cX8_readsCommand 28 = .ok (.aload_n 0, 1) := by decide +kernel
theorem dX8_readsCommand_29 : decode cX8_readsCommand 29 = .ok (.dup, 1) := by decide +kernel
theorem dX8_readsCommand_30 : decode cX8_readsCommand 30 = .ok (.getfield 201, 3) := by decide +kernel
theorem dX8_readsCommand_33 : decode cX8_readsCommand 33 = .ok (.iconst 1, 1) := by decide +kernel
theorem dX8_readsCommand_34 : decode cX8_readsCommand 34 = .ok (.iadd, 1) := by decide +kernel
theorem dX8_readsCommand_35 : decode cX8_readsCommand 35 = .ok (.putfield 201, 3) := by decide +kernel
theorem dX8_readsCommand_38 : decode cX8_readsCommand 38 = .ok (.iconst 0, 1) := by decide +kernel
theorem dX8_readsCommand_39 : decode cX8_readsCommand 39 = .ok (.istore_n 2, 1) := by decide +kernel
theorem dX8_readsCommand_40 : decode cX8_readsCommand 40 = .ok (.iload_n 2, 1) := by decide +kernel
theorem dX8_readsCommand_41 : decode cX8_readsCommand 41 = .ok (.iload_n 1, 1) := by decide +kernel
theorem dX8_readsCommand_42 : decode cX8_readsCommand 42 = .ok (.if_icmp .ge 19, 3) := by decide +kernel
theorem dX8_readsCommand_45 : decode cX8_readsCommand 45 = .ok (.aload_n 0, 1) := by decide +kernel
theorem dX8_readsCommand_46 : decode cX8_readsCommand 46 = .ok (.iload_n 2, 1) := by decide +kernel
theorem dX8_readsCommand_47 : decode cX8_readsCommand 47 = .ok (.invokevirtual 220, 3) := by decide +kernel
theorem dX8_readsCommand_50 : decode cX8_readsCommand 50 = .ok (.ifCond .ne 5, 3) := by decide +kernel
theorem dX8_readsCommand_53 : decode cX8_readsCommand 53 = .ok (.iconst 0, 1) := by decide +kernel
theorem dX8_readsCommand_54 : decode cX8_readsCommand 54 = .ok (.ireturn, 1) := by decide +kernel
theorem dX8_readsCommand_55 : decode cX8_readsCommand 55 = .ok (.iinc 2 1, 3) := by decide +kernel
theorem dX8_readsCommand_58 : decode cX8_readsCommand 58 = .ok (.goto (-18), 3) := by decide +kernel
theorem dX8_readsCommand_61 : decode cX8_readsCommand 61 = .ok (.aload_n 0, 1) := by decide +kernel
theorem dX8_readsCommand_62 : decode cX8_readsCommand 62 = .ok (.dup, 1) := by decide +kernel
theorem dX8_readsCommand_63 : decode cX8_readsCommand 63 = .ok (.getfield 214, 3) := by decide +kernel
theorem dX8_readsCommand_66 : decode cX8_readsCommand 66 = .ok (.iconst 1, 1) := by decide +kernel
theorem dX8_readsCommand_67 : decode cX8_readsCommand 67 = .ok (.iadd, 1) := by decide +kernel
theorem dX8_readsCommand_68 : decode cX8_readsCommand 68 = .ok (.putfield 214, 3) := by decide +kernel
theorem dX8_readsCommand_71 : decode cX8_readsCommand 71 = .ok (.aload_n 0, 1) := by decide +kernel
theorem dX8_readsCommand_72 : decode cX8_readsCommand 72 = .ok (.bipush 59, 2) := by decide +kernel
theorem dX8_readsCommand_74 : decode cX8_readsCommand 74 = .ok (.invokevirtual 207, 3) := by decide +kernel
theorem dX8_readsCommand_77 : decode cX8_readsCommand 77 = .ok (.ireturn, 1) := by decide +kernel
set_option maxRecDepth 20000 in
theorem ggX8_readsAll_X8_here : GoodIn wsX8_readsAll wsX8_here := goodIn_r _ [7, 1, 8, 9, 32, 33, 34, 35, 36, 37, 38, 39, 40, 41, 42, 43, 44, 45] (by decide +kernel) (by decide +kernel)
set_option maxRecDepth 20000 in
theorem gX8_readsAll_X8_here : GoodIn wsX8_readsAll (wsV RX8 204 RX8 yX8_here wsX8_here) := goodIn_app (goodIn_of _ (by decide +kernel)) ggX8_readsAll_X8_here
set_option maxRecDepth 20000 in
theorem ggX8_readsAll_X8_readsCommand : GoodIn wsX8_readsAll wsX8_readsCommand := goodIn_r _ [13, 14, 2, 1, 3, 4, 5, 6, 7, 8, 9, 15, 16, 17, 18, 19, 20, 21, 22, 23, 24, 25, 26, 27, 28, 29, 30, 31, 32, 33, 34, 35, 36, 37, 38, 39, 40, 41, 42, 43, 44, 45] (by decide +kernel) (by decide +kernel)
set_option maxRecDepth 20000 in
theorem gX8_readsAll_X8_readsCommand : GoodIn wsX8_readsAll (wsV RX8 223 RX8 yX8_readsCommand wsX8_readsCommand) := goodIn_app (goodIn_of _ (by decide +kernel)) ggX8_readsAll_X8_readsCommand
theorem dX8_readsAll_0 : decode cX8_readsAll 0 = .ok (.aload_n 0, 1) := by decide +kernel
theorem dX8_readsAll_1 : decode cX8_readsAll 1 = .ok (.iconst 0, 1) := by decide +kernel
theorem dX8_readsAll_2 : decode cX8_readsAll 2 = .ok (.putfield 201, 3) := by decide +kernel
theorem dX8_readsAll_5 : decode cX8_readsAll 5 = .ok (.aload_n 0, 1) := by decide +kernel
theorem dX8_readsAll_6 : decode cX8_readsAll 6 = .ok (.iconst 0, 1) := by decide +kernel
theorem dX8_readsAll_7 : decode cX8_readsAll 7 = .ok (.putfield 214, 3) := by decide +kernel
theorem dX8_readsAll_10 : decode cX8_readsAll 10 = .ok (.iconst 1, 1) := by decide +kernel
theorem dX8_readsAll_11 : decode cX8_readsAll 11 = .ok (.istore_n 1, 1) := by decide +kernel
theorem dX8_readsAll_12 : decode cX8_readsAll 12 = .ok (.iload_n 1, 1) := by decide +kernel
theorem dX8_readsAll_13 : decode cX8_readsAll 13 = .ok (.ifCond .eq 19, 3) := by decide +kernel
theorem dX8_readsAll_16 : decode cX8_readsAll 16 = .ok (.aload_n 0, 1) := by decide +kernel
theorem dX8_readsAll_17 : decode cX8_readsAll 17 = .ok (.invokevirtual 204, 3) := by decide +kernel
theorem dX8_readsAll_20 : decode cX8_readsAll 20 = .ok (.iconst (-1), 1) := by decide +kernel
theorem dX8_readsAll_21 : decode cX8_readsAll 21 = .ok (.if_icmp .eq 11, 3) := by decide +kernel
theorem dX8_readsAll_24 : decode cX8_readsAll 24 = .ok (.aload_n 0, 1) := by decide +kernel
theorem dX8_readsAll_25 : decode cX8_readsAll 25 = .ok (.invokevirtual 223, 3) := by decide +kernel
theorem dX8_readsAll_28 : decode cX8_readsAll 28 = .ok (.istore_n 1, 1) := by decide +kernel
theorem dX8_readsAll_29 : decode cX8_readsAll 29 = .ok (.goto (-17), 3) := by decide +kernel
theorem dX8_readsAll_32 : decode cX8_readsAll 32 = .ok (.iload_n 1, 1) := by decide +kernel
theorem dX8_readsAll_33 : decode cX8_readsAll 33 = .ok (.ireturn, 1) := by decide +kernel
set_option maxRecDepth 20000 in
theorem ggX8_whyNotDo_X8_whyNotAdd : GoodIn wsX8_whyNotDo wsX8_whyNotAdd := goodIn_r _ [7, 8, 9, 6, 10, 11, 12, 13, 14, 15, 16, 17, 18, 19, 20, 21, 22, 23, 24, 25, 26, 68, 69, 70, 71, 72, 73, 74, 75, 76, 77, 78, 79, 80, 81] (by decide +kernel) (by decide +kernel)
set_option maxRecDepth 20000 in
theorem gX8_whyNotDo_X8_whyNotAdd : GoodIn wsX8_whyNotDo (wsV RX8 73 RX8 yX8_whyNotAdd wsX8_whyNotAdd) := goodIn_app (goodIn_of _ (by decide +kernel)) ggX8_whyNotDo_X8_whyNotAdd
set_option maxRecDepth 20000 in
theorem ggX8_whyNotDo_X8_whyNotEnd : GoodIn wsX8_whyNotDo wsX8_whyNotEnd := goodIn_r _ [30, 26, 31, 32, 33, 6, 34, 15, 16, 17, 35, 36, 37, 38, 39, 40, 41, 42, 43, 44, 45, 68, 69, 70, 71, 72, 73, 74, 75, 76, 77, 78, 79, 80, 81] (by decide +kernel) (by decide +kernel)
set_option maxRecDepth 20000 in
theorem gX8_whyNotDo_X8_whyNotEnd : GoodIn wsX8_whyNotDo (wsV RX8 100 RX8 yX8_whyNotEnd wsX8_whyNotEnd) := goodIn_app (goodIn_of _ (by decide +kernel)) ggX8_whyNotDo_X8_whyNotEnd
set_option maxRecDepth 20000 in
theorem ggX8_whyNotDo_X8_whyNotPass : GoodIn wsX8_whyNotDo wsX8_whyNotPass := goodIn_r _ [49, 12, 26, 15, 16, 6, 17, 68, 69, 70, 71, 72, 73, 74, 75, 76, 77, 78, 79, 80, 81] (by decide +kernel) (by decide +kernel)
set_option maxRecDepth 20000 in
theorem gX8_whyNotDo_X8_whyNotPass : GoodIn wsX8_whyNotDo (wsV RX8 112 RX8 yX8_whyNotPass wsX8_whyNotPass) := goodIn_app (goodIn_of _ (by decide +kernel)) ggX8_whyNotDo_X8_whyNotPass
set_option maxRecDepth 20000 in
theorem ggX8_whyNotDo_X8_whyNotLift : GoodIn wsX8_whyNotDo wsX8_whyNotLift := goodIn_r _ [53, 26, 31, 32, 33, 6, 34, 15, 16, 17, 54, 55, 56, 13, 14, 39, 40, 41, 42, 43, 44, 45, 35, 36, 37, 38, 22, 23, 24, 25, 68, 69, 70, 71, 72, 73, 74, 75, 76, 77, 78, 79, 80, 81] (by decide +kernel) (by decide +kernel)
set_option maxRecDepth 20000 in
theorem gX8_whyNotDo_X8_whyNotLift : GoodIn wsX8_whyNotDo (wsV RX8 106 RX8 yX8_whyNotLift wsX8_whyNotLift) := goodIn_app (goodIn_of _ (by decide +kernel)) ggX8_whyNotDo_X8_whyNotLift
set_option maxRecDepth 20000 in
theorem ggX8_whyNotDo_X8_whyNotCollect : GoodIn wsX8_whyNotDo wsX8_whyNotCollect := goodIn_r _ [60, 26, 61, 62, 6, 63, 18, 19, 20, 21, 15, 16, 17, 64, 65, 66, 67, 68, 69, 70, 71, 72, 73, 74, 75, 76, 77, 78, 79, 80, 81] (by decide +kernel) (by decide +kernel)
set_option maxRecDepth 20000 in
theorem gX8_whyNotDo_X8_whyNotCollect : GoodIn wsX8_whyNotDo (wsV RX8 182 RX8 yX8_whyNotCollect wsX8_whyNotCollect) := goodIn_app (goodIn_of _ (by decide +kernel)) ggX8_whyNotDo_X8_whyNotCollect
theorem dX8_whyNotDo_0 : decode cX8_whyNotDo 0 = .ok (.aload_n 0, 1) := by decide +kernel
theorem dX8_whyNotDo_1 : decode cX8_whyNotDo 1 = .ok (.getfield 25, 3) := by decide +kernel
theorem dX8_whyNotDo_4 : decode cX8_whyNotDo 4 = .ok (.iconst 4, 1) := by decide +kernel
theorem dX8_whyNotDo_5 : decode cX8_whyNotDo 5 = .ok (.iload_n 1, 1) := by decide +kernel
theorem dX8_whyNotDo_6 : decode cX8_whyNotDo 6 = .ok (.imul, 1) := by decide +kernel
theorem dX8_whyNotDo_7 : decode cX8_whyNotDo 7 = .ok (.iaload, 1) := by decide +kernel
theorem dX8_whyNotDo_8 : decode cX8_whyNotDo 8 = .ok (.istore_n 2, 1) := by decide +kernel
theorem dX8_whyNotDo_9 : decode cX8_whyNotDo 9 = .ok (.aload_n 0, 1) := by decide +kernel
theorem dX8_whyNotDo_10 : decode cX8_whyNotDo 10 = .ok (.getfield 25, 3) := by decide +kernel
theorem dX8_whyNotDo_13 : decode cX8_whyNotDo 13 = .ok (.iconst 4, 1) := by decide +kernel
theorem dX8_whyNotDo_14 : decode cX8_whyNotDo 14 = .ok (.iload_n 1, 1) := by decide +kernel
theorem dX8_whyNotDo_15 : decode cX8_whyNotDo 15 = .ok (.imul, 1) := by decide +kernel
theorem dX8_whyNotDo_16 : decode cX8_whyNotDo 16 = .ok (.iconst 1, 1) := by decide +kernel
theorem dX8_whyNotDo_17 : decode cX8_whyNotDo 17 = .ok (.iadd, 1) := by decide +kernel
theorem dX8_whyNotDo_18 : decode cX8_whyNotDo 18 = .ok (.iaload, 1) := by decide +kernel
theorem dX8_whyNotDo_19 : decode cX8_whyNotDo 19 = .ok (.istore_n 3, 1) := by decide +kernel
theorem dX8_whyNotDo_20 : decode cX8_whyNotDo 20 = .ok (.aload_n 0, 1) := by decide +kernel
theorem dX8_whyNotDo_21 : decode cX8_whyNotDo 21 = .ok (.getfield 22, 3) := by decide +kernel
theorem dX8_whyNotDo_24 : decode cX8_whyNotDo 24 = .ok (.iload_n 1, 1) := by decide +kernel
theorem dX8_whyNotDo_25 : decode cX8_whyNotDo 25 = .ok (.iaload, 1) := by decide +kernel
theorem dX8_whyNotDo_26 : decode cX8_whyNotDo 26 = .ok (.lookupswitch 103 #[(97, 50), (101, 77), (109, 89), (113, 96), (116, 83)], 50) := by decide +kernel
theorem dX8_whyNotDo_76 : decode cX8_whyNotDo 76 = .ok (.aload_n 0, 1) := by decide +kernel
theorem dX8_whyNotDo_77 : decode cX8_whyNotDo 77 = .ok (.iload_n 2, 1) := by decide +kernel
theorem dX8_whyNotDo_78 : decode cX8_whyNotDo 78 = .ok (.iload_n 3, 1) := by decide +kernel
theorem dX8_whyNotDo_79 : decode cX8_whyNotDo 79 = .ok (.aload_n 0, 1) := by decide +kernel
theorem dX8_whyNotDo_80 : decode cX8_whyNotDo 80 = .ok (.getfield 25, 3) := by decide +kernel
theorem dX8_whyNotDo_83 : decode cX8_whyNotDo 83 = .ok (.iconst 4, 1) := by decide +kernel
theorem dX8_whyNotDo_84 : decode cX8_whyNotDo 84 = .ok (.iload_n 1, 1) := by decide +kernel
theorem dX8_whyNotDo_85 : decode cX8_whyNotDo 85 = .ok (.imul, 1) := by decide +kernel
theorem dX8_whyNotDo_86 : decode cX8_whyNotDo 86 = .ok (.iconst 2, 1) := by decide +kernel
theorem dX8_whyNotDo_87 : decode cX8_whyNotDo 87 = .ok (.iadd, 1) := by decide +kernel
theorem dX8_whyNotDo_88 : decode cX8_whyNotDo 88 = .ok (.iaload, 1) := by decide +kernel
theorem dX8_whyNotDo_89 : decode cX8_whyNotDo 89 = .ok (.aload_n 0, 1) := by decide +kernel
theorem dX8_whyNotDo_90 : decode cX8_whyNotDo 90 = .ok (.getfield 25, 3) := by decide +kernel
theorem dX8_whyNotDo_93 : decode cX8_whyNotDo 93 = .ok (.iconst 4, 1) := by decide +kernel
theorem dX8_whyNotDo_94 : decode cX8_whyNotDo 94 = .ok (.iload_n 1, 1) := by decide +kernel
theorem dX8_whyNotDo_95 : decode cX8_whyNotDo 95 = .ok (.imul, 1) := by decide +kernel
theorem dX8_whyNotDo_96 : decode cX8_whyNotDo 96 = .ok (.iconst 3, 1) := by decide +kernel
theorem dX8_whyNotDo_97 : decode cX8_whyNotDo 97 = .ok (.iadd, 1) := by decide +kernel
theorem dX8_whyNotDo_98 : decode cX8_whyNotDo 98 = .ok (.iaload, 1) := by decide +kernel
theorem dX8_whyNotDo_99 : decode cX8_whyNotDo 99 = .ok (.invokevirtual 73, 3) := by decide +kernel
theorem dX8_whyNotDo_102 : decode cX8_whyNotDo 102 = .ok (.ireturn, 1) := by decide +kernel
theorem dX8_whyNotDo_103 : decode cX8_whyNotDo 103 = .ok (.aload_n 0, 1) := by decide +kernel
theorem dX8_whyNotDo_104 : decode cX8_whyNotDo 104 = .ok (.iload_n 2, 1) := by decide +kernel
theorem dX8_whyNotDo_105 : decode cX8_whyNotDo 105 = .ok (.invokevirtual 100, 3) := by decide +kernel
theorem dX8_whyNotDo_108 : decode cX8_whyNotDo 108 = .ok (.ireturn, 1) := by decide +kernel
theorem dX8_whyNotDo_109 : decode cX8_whyNotDo 109 = .ok (.aload_n 0, 1) := by decide +kernel
theorem dX8_whyNotDo_110 : decode cX8_whyNotDo 110 = .ok (.iload_n 2, 1) := by decide +kernel
theorem dX8_whyNotDo_111 : decode cX8_whyNotDo 111 = .ok (.invokevirtual 112, 3) := by decide +kernel
theorem dX8_whyNotDo_114 : decode cX8_whyNotDo 114 = .ok (.ireturn, 1) := by decide +kernel
theorem dX8_whyNotDo_115 : decode cX8_whyNotDo 115 = .ok (.aload_n 0, 1) := by decide +kernel
theorem dX8_whyNotDo_116 : decode cX8_whyNotDo 116 = .ok (.iload_n 2, 1) := by decide +kernel
theorem dX8_whyNotDo_117 : decode cX8_whyNotDo 117 = .ok (.iload_n 3, 1) := by decide +kernel
theorem dX8_whyNotDo_118 : decode cX8_whyNotDo 118 = .ok (.invokevirtual 106, 3) := by decide +kernel
theorem dX8_whyNotDo_121 : decode cX8_whyNotDo 121 = .ok (.ireturn, 1) := by decide +kernel
theorem dX8_whyNotDo_122 : decode cX8_whyNotDo 122 = .ok (.aload_n 0, 1) := by decide +kernel
theorem dX8_whyNotDo_123 : decode cX8_whyNotDo 123 = .ok (.iload_n 2, 1) := by decide +kernel
theorem dX8_whyNotDo_124 : decode cX8_whyNotDo 124 = .ok (.iload_n 3, 1) := by decide +kernel
theorem dX8_whyNotDo_125 : decode cX8_whyNotDo 125 = .ok (.invokevirtual 182, 3) := by decide +kernel
theorem dX8_whyNotDo_128 : decode cX8_whyNotDo 128 = .ok (.ireturn, 1) := by decide +kernel
theorem dX8_whyNotDo_129 : decode cX8_whyNotDo 129 = .ok (.iconst 0, 1) := by decide +kernel
theorem dX8_whyNotDo_130 : decode cX8_whyNotDo 130 = .ok (.ireturn, 1) := by decide +kernel
set_option maxRecDepth 20000 in
theorem ggX8_doNow_X8_put : GoodIn wsX8_doNow wsX8_put := goodIn_r _ [8, 3, 9, 10, 7, 11, 58, 59, 60, 61, 62, 63, 64, 65, 66, 67, 68, 69, 70, 71] (by decide +kernel) (by decide +kernel)
set_option maxRecDepth 20000 in
theorem gX8_doNow_X8_put : GoodIn wsX8_doNow (wsV RX8 80 RX8 yX8_put wsX8_put) := goodIn_app (goodIn_of _ (by decide +kernel)) ggX8_doNow_X8_put
set_option maxRecDepth 20000 in
theorem ggX8_doNow_X8_endNow : GoodIn wsX8_doNow wsX8_endNow := goodIn_r _ [15, 3, 9, 10, 7, 11, 16, 17, 18, 19, 58, 59, 60, 61, 62, 63, 64, 65, 66, 67, 68, 69, 70, 71] (by decide +kernel) (by decide +kernel)
set_option maxRecDepth 20000 in
theorem gX8_doNow_X8_endNow : GoodIn wsX8_doNow (wsV RX8 103 RX8 yX8_endNow wsX8_endNow) := goodIn_app (goodIn_of _ (by decide +kernel)) ggX8_doNow_X8_endNow
set_option maxRecDepth 20000 in
theorem ggX8_doNow_X8_liftNow : GoodIn wsX8_doNow wsX8_liftNow := goodIn_r _ [23, 3, 16, 17, 18, 7, 19, 9, 10, 11, 4, 5, 6, 8, 58, 59, 60, 61, 62, 63, 64, 65, 66, 67, 68, 69, 70, 71] (by decide +kernel) (by decide +kernel)
set_option maxRecDepth 20000 in
theorem gX8_doNow_X8_liftNow : GoodIn wsX8_doNow (wsV RX8 109 RX8 yX8_liftNow wsX8_liftNow) := goodIn_app (goodIn_of _ (by decide +kernel)) ggX8_doNow_X8_liftNow
set_option maxRecDepth 20000 in
theorem ggX8_doNow_X8_collectNow : GoodIn wsX8_doNow wsX8_collectNow := goodIn_r _ [27, 3, 28, 29, 7, 30, 58, 59, 60, 61, 62, 63, 64, 65, 66, 67, 68, 69, 70, 71] (by decide +kernel) (by decide +kernel)
set_option maxRecDepth 20000 in
theorem gX8_doNow_X8_collectNow : GoodIn wsX8_doNow (wsV RX8 185 RX8 yX8_collectNow wsX8_collectNow) := goodIn_app (goodIn_of _ (by decide +kernel)) ggX8_doNow_X8_collectNow
set_option maxRecDepth 20000 in
theorem ggX8_doNow_X8_solveNow : GoodIn wsX8_doNow wsX8_solveNow := goodIn_r _ [34, 3, 28, 29, 7, 30, 35, 36, 37, 38, 39, 40, 41, 42, 43, 44, 45, 46, 16, 17, 18, 19, 9, 10, 11, 47, 48, 49, 50, 51, 52, 53, 54, 55, 56, 57, 58, 59, 60, 61, 62, 63, 64, 65, 66, 67, 68, 69, 70, 71] (by decide +kernel) (by decide +kernel)
set_option maxRecDepth 20000 in
theorem gX8_doNow_X8_solveNow : GoodIn wsX8_doNow (wsV RX8 188 RX8 yX8_solveNow wsX8_solveNow) := goodIn_app (goodIn_of _ (by decide +kernel)) ggX8_doNow_X8_solveNow
theorem dX8_doNow_0 : decode cX8_doNow 0 = .ok (.aload_n 0, 1) := by decide +kernel
theorem dX8_doNow_1 : decode cX8_doNow 1 = .ok (.getfield 25, 3) := by decide +kernel
theorem dX8_doNow_4 : decode cX8_doNow 4 = .ok (.iconst 4, 1) := by decide +kernel
theorem dX8_doNow_5 : decode cX8_doNow 5 = .ok (.iload_n 1, 1) := by decide +kernel
theorem dX8_doNow_6 : decode cX8_doNow 6 = .ok (.imul, 1) := by decide +kernel
theorem dX8_doNow_7 : decode cX8_doNow 7 = .ok (.iaload, 1) := by decide +kernel
theorem dX8_doNow_8 : decode cX8_doNow 8 = .ok (.istore_n 2, 1) := by decide +kernel
theorem dX8_doNow_9 : decode cX8_doNow 9 = .ok (.aload_n 0, 1) := by decide +kernel
theorem dX8_doNow_10 : decode cX8_doNow 10 = .ok (.getfield 25, 3) := by decide +kernel
theorem dX8_doNow_13 : decode cX8_doNow 13 = .ok (.iconst 4, 1) := by decide +kernel
theorem dX8_doNow_14 : decode cX8_doNow 14 = .ok (.iload_n 1, 1) := by decide +kernel
theorem dX8_doNow_15 : decode cX8_doNow 15 = .ok (.imul, 1) := by decide +kernel
theorem dX8_doNow_16 : decode cX8_doNow 16 = .ok (.iconst 1, 1) := by decide +kernel
theorem dX8_doNow_17 : decode cX8_doNow 17 = .ok (.iadd, 1) := by decide +kernel
theorem dX8_doNow_18 : decode cX8_doNow 18 = .ok (.iaload, 1) := by decide +kernel
theorem dX8_doNow_19 : decode cX8_doNow 19 = .ok (.istore_n 3, 1) := by decide +kernel
theorem dX8_doNow_20 : decode cX8_doNow 20 = .ok (.aload_n 0, 1) := by decide +kernel
theorem dX8_doNow_21 : decode cX8_doNow 21 = .ok (.getfield 22, 3) := by decide +kernel
theorem dX8_doNow_24 : decode cX8_doNow 24 = .ok (.iload_n 1, 1) := by decide +kernel
theorem dX8_doNow_25 : decode cX8_doNow 25 = .ok (.iaload, 1) := by decide +kernel
theorem dX8_doNow_26 : decode cX8_doNow 26 = .ok (.lookupswitch 131 #[(97, 50), (101, 89), (109, 111), (113, 121), (116, 98)], 50) := by decide +kernel
theorem dX8_doNow_76 : decode cX8_doNow 76 = .ok (.aload_n 0, 1) := by decide +kernel
theorem dX8_doNow_77 : decode cX8_doNow 77 = .ok (.iload_n 2, 1) := by decide +kernel
theorem dX8_doNow_78 : decode cX8_doNow 78 = .ok (.iload_n 3, 1) := by decide +kernel
theorem dX8_doNow_79 : decode cX8_doNow 79 = .ok (.aload_n 0, 1) := by decide +kernel
theorem dX8_doNow_80 : decode cX8_doNow 80 = .ok (.getfield 25, 3) := by decide +kernel
theorem dX8_doNow_83 : decode cX8_doNow 83 = .ok (.iconst 4, 1) := by decide +kernel
theorem dX8_doNow_84 : decode cX8_doNow 84 = .ok (.iload_n 1, 1) := by decide +kernel
theorem dX8_doNow_85 : decode cX8_doNow 85 = .ok (.imul, 1) := by decide +kernel
theorem dX8_doNow_86 : decode cX8_doNow 86 = .ok (.iconst 2, 1) := by decide +kernel
theorem dX8_doNow_87 : decode cX8_doNow 87 = .ok (.iadd, 1) := by decide +kernel
theorem dX8_doNow_88 : decode cX8_doNow 88 = .ok (.iaload, 1) := by decide +kernel
theorem dX8_doNow_89 : decode cX8_doNow 89 = .ok (.aload_n 0, 1) := by decide +kernel
theorem dX8_doNow_90 : decode cX8_doNow 90 = .ok (.getfield 25, 3) := by decide +kernel
theorem dX8_doNow_93 : decode cX8_doNow 93 = .ok (.iconst 4, 1) := by decide +kernel
theorem dX8_doNow_94 : decode cX8_doNow 94 = .ok (.iload_n 1, 1) := by decide +kernel
theorem dX8_doNow_95 : decode cX8_doNow 95 = .ok (.imul, 1) := by decide +kernel
theorem dX8_doNow_96 : decode cX8_doNow 96 = .ok (.iconst 3, 1) := by decide +kernel
theorem dX8_doNow_97 : decode cX8_doNow 97 = .ok (.iadd, 1) := by decide +kernel
theorem dX8_doNow_98 : decode cX8_doNow 98 = .ok (.iaload, 1) := by decide +kernel
theorem dX8_doNow_99 : decode cX8_doNow 99 = .ok (.aload_n 0, 1) := by decide +kernel
theorem dX8_doNow_100 : decode cX8_doNow 100 = .ok (.getfield 7, 3) := by decide +kernel
theorem dX8_doNow_103 : decode cX8_doNow 103 = .ok (.iconst 1, 1) := by decide +kernel
theorem dX8_doNow_104 : decode cX8_doNow 104 = .ok (.iaload, 1) := by decide +kernel
theorem dX8_doNow_105 : decode cX8_doNow 105 = .ok (.sipush 16384, 3) := by decide +kernel
theorem dX8_doNow_108 : decode cX8_doNow 108 = .ok (.invokevirtual 80, 3) := by decide +kernel
theorem dX8_doNow_111 : decode cX8_doNow 111 = .ok (.pop, 1) := by decide +kernel
theorem dX8_doNow_112 : decode cX8_doNow 112 = .ok (.goto 50, 3) := by decide +kernel
theorem dX8_doNow_115 : decode cX8_doNow 115 = .ok (.aload_n 0, 1) := by decide +kernel
theorem dX8_doNow_116 : decode cX8_doNow 116 = .ok (.iload_n 2, 1) := by decide +kernel
theorem dX8_doNow_117 : decode cX8_doNow 117 = .ok (.invokevirtual 103, 3) := by decide +kernel
theorem dX8_doNow_120 : decode cX8_doNow 120 = .ok (.pop, 1) := by decide +kernel
theorem dX8_doNow_121 : decode cX8_doNow 121 = .ok (.goto 41, 3) := by decide +kernel
theorem dX8_doNow_124 : decode cX8_doNow 124 = .ok (.aload_n 0, 1) := by decide +kernel
theorem dX8_doNow_125 : decode cX8_doNow 125 = .ok (.getfield 7, 3) := by decide +kernel
theorem dX8_doNow_128 : decode cX8_doNow 128 = .ok (.iconst 1, 1) := by decide +kernel
theorem dX8_doNow_129 : decode cX8_doNow 129 = .ok (.dup2, 1) := by decide +kernel
theorem dX8_doNow_130 : decode cX8_doNow 130 = .ok (.iaload, 1) := by decide +kernel
theorem dX8_doNow_131 : decode cX8_doNow 131 = .ok (.iload_n 2, 1) := by decide +kernel
theorem dX8_doNow_132 : decode cX8_doNow 132 = .ok (.iadd, 1) := by decide +kernel
theorem dX8_doNow_133 : decode cX8_doNow 133 = .ok (.iastore, 1) := by decide +kernel
theorem dX8_doNow_134 : decode cX8_doNow 134 = .ok (.goto 28, 3) := by decide +kernel
theorem dX8_doNow_137 : decode cX8_doNow 137 = .ok (.aload_n 0, 1) := by decide +kernel
theorem dX8_doNow_138 : decode cX8_doNow 138 = .ok (.iload_n 2, 1) := by decide +kernel
theorem dX8_doNow_139 : decode cX8_doNow 139 = .ok (.iload_n 3, 1) := by decide +kernel
theorem dX8_doNow_140 : decode cX8_doNow 140 = .ok (.invokevirtual 109, 3) := by decide +kernel
theorem dX8_doNow_143 : decode cX8_doNow 143 = .ok (.pop, 1) := by decide +kernel
theorem dX8_doNow_144 : decode cX8_doNow 144 = .ok (.goto 18, 3) := by decide +kernel
theorem dX8_doNow_147 : decode cX8_doNow 147 = .ok (.aload_n 0, 1) := by decide +kernel
theorem dX8_doNow_148 : decode cX8_doNow 148 = .ok (.iload_n 2, 1) := by decide +kernel
theorem dX8_doNow_149 : decode cX8_doNow 149 = .ok (.iload_n 3, 1) := by decide +kernel
theorem dX8_doNow_150 : decode cX8_doNow 150 = .ok (.invokevirtual 185, 3) := by decide +kernel
theorem dX8_doNow_153 : decode cX8_doNow 153 = .ok (.pop, 1) := by decide +kernel
theorem dX8_doNow_154 : decode cX8_doNow 154 = .ok (.goto 8, 3) := by decide +kernel
theorem dX8_doNow_157 : decode cX8_doNow 157 = .ok (.aload_n 0, 1) := by decide +kernel
theorem dX8_doNow_158 : decode cX8_doNow 158 = .ok (.invokevirtual 188, 3) := by decide +kernel
theorem dX8_doNow_161 : decode cX8_doNow 161 = .ok (.pop, 1) := by decide +kernel
theorem dX8_doNow_162 : decode cX8_doNow 162 = .ok (.return_, 1) := by decide +kernel
theorem dX8_exchange_0 : decode cX8_exchange 0 = .ok (.iconst 0, 1) := by decide +kernel
theorem dX8_exchange_1 : decode cX8_exchange 1 = .ok (.istore_n 1, 1) := by decide +kernel
theorem dX8_exchange_2 : decode cX8_exchange 2 = .ok (.iload_n 1, 1) := by decide +kernel
theorem dX8_exchange_3 : decode cX8_exchange 3 = .ok (.sipush 1634, 3) := by decide +kernel
theorem dX8_exchange_6 : decode cX8_exchange 6 = .ok (.if_icmp .ge 35, 3) := by decide +kernel
theorem dX8_exchange_9 : decode cX8_exchange 9 = .ok (.aload_n 0, 1) := by decide +kernel
theorem dX8_exchange_10 : decode cX8_exchange 10 = .ok (.getfield 7, 3) := by decide +kernel
theorem dX8_exchange_13 : decode cX8_exchange 13 = .ok (.iload_n 1, 1) := by decide +kernel
theorem dX8_exchange_14 : decode cX8_exchange 14 = .ok (.iaload, 1) := by decide +kernel
theorem dX8_exchange_15 : decode cX8_exchange 15 = .ok (.istore_n 2, 1) := by decide +kernel
theorem dX8_exchange_16 : decode cX8_exchange 16 = .ok (.aload_n 0, 1) := by decide +kernel
theorem dX8_exchange_17 : decode cX8_exchange 17 = .ok (.getfield 7, 3) := by decide +kernel
theorem dX8_exchange_20 : decode cX8_exchange 20 = .ok (.iload_n 1, 1) := by decide +kernel
theorem dX8_exchange_21 : decode cX8_exchange 21 = .ok (.aload_n 0, 1) := by decide +kernel
theorem dX8_exchange_22 : decode cX8_exchange 22 = .ok (.getfield 28, 3) := by decide +kernel
theorem dX8_exchange_25 : decode cX8_exchange 25 = .ok (.iload_n 1, 1) := by decide +kernel
theorem dX8_exchange_26 : decode cX8_exchange 26 = .ok (.iaload, 1) := by decide +kernel
theorem dX8_exchange_27 : decode cX8_exchange 27 = .ok (.iastore, 1) := by decide +kernel
theorem dX8_exchange_28 : decode cX8_exchange 28 = .ok (.aload_n 0, 1) := by decide +kernel
theorem dX8_exchange_29 : decode cX8_exchange 29 = .ok (.getfield 28, 3) := by decide +kernel
theorem dX8_exchange_32 : decode cX8_exchange 32 = .ok (.iload_n 1, 1) := by decide +kernel
theorem dX8_exchange_33 : decode cX8_exchange 33 = .ok (.iload_n 2, 1) := by decide +kernel
theorem dX8_exchange_34 : decode cX8_exchange 34 = .ok (.iastore, 1) := by decide +kernel
theorem dX8_exchange_35 : decode cX8_exchange 35 = .ok (.iinc 1 1, 3) := by decide +kernel
theorem dX8_exchange_38 : decode cX8_exchange 38 = .ok (.goto (-36), 3) := by decide +kernel
theorem dX8_exchange_41 : decode cX8_exchange 41 = .ok (.return_, 1) := by decide +kernel
set_option maxRecDepth 20000 in
theorem ggX8_carryOut_X8_readsAll : GoodIn wsX8_carryOut wsX8_readsAll := goodIn_r _ [10, 2, 5, 11, 12, 13, 9, 14, 15, 16, 17, 18, 19, 20, 21, 22, 23, 24, 25, 26, 27, 28, 29, 30, 31, 32, 33, 34, 35, 36, 37, 38, 156, 157, 158, 159, 160, 161, 162, 163, 164, 165, 166, 167, 168, 169] (by decide +kernel) (by decide +kernel)
set_option maxRecDepth 20000 in
theorem gX8_carryOut_X8_readsAll : GoodIn wsX8_carryOut (wsV RX8 226 RX8 yX8_readsAll wsX8_readsAll) := goodIn_app (goodIn_of _ (by decide +kernel)) ggX8_carryOut_X8_readsAll
set_option maxRecDepth 20000 in
theorem ggX8_carryOut_X8_whyNotDo : GoodIn wsX8_carryOut wsX8_whyNotDo := goodIn_r _ [42, 31, 21, 43, 44, 45, 9, 46, 47, 48, 49, 50, 51, 52, 53, 36, 37, 38, 54, 55, 56, 57, 58, 59, 60, 61, 4, 62, 63, 64, 65, 66, 67, 68, 69, 70, 71, 72, 73, 74, 75, 76, 77, 78, 79, 80, 81, 82, 83, 84, 85, 86, 87, 88, 89, 90, 91, 92, 93, 94, 95, 96, 97, 98, 99, 100, 101, 102, 156, 157, 158, 159, 160, 161, 162, 163, 164, 165, 166, 167, 168, 169] (by decide +kernel) (by decide +kernel)
set_option maxRecDepth 20000 in
theorem gX8_carryOut_X8_whyNotDo : GoodIn wsX8_carryOut (wsV RX8 229 RX8 yX8_whyNotDo wsX8_whyNotDo) := goodIn_app (goodIn_of _ (by decide +kernel)) ggX8_carryOut_X8_whyNotDo
set_option maxRecDepth 20000 in
theorem ggX8_carryOut_X8_exchange : GoodIn wsX8_carryOut wsX8_exchange := goodIn_r _ [106, 4, 3, 156, 157, 158, 159, 160, 161, 162, 163, 164, 165, 166, 167, 168, 169] (by decide +kernel) (by decide +kernel)
set_option maxRecDepth 20000 in
theorem gX8_carryOut_X8_exchange : GoodIn wsX8_carryOut (wsV RX8 232 RX8 yX8_exchange wsX8_exchange) := goodIn_app (goodIn_of _ (by decide +kernel)) ggX8_carryOut_X8_exchange
set_option maxRecDepth 20000 in
theorem ggX8_carryOut_X8_doNow : GoodIn wsX8_carryOut wsX8_doNow := goodIn_r _ [110, 31, 21, 4, 111, 112, 113, 9, 114, 78, 79, 80, 115, 116, 117, 118, 74, 75, 76, 77, 119, 120, 121, 122, 123, 124, 125, 126, 127, 128, 129, 130, 131, 132, 133, 134, 135, 136, 137, 138, 139, 140, 141, 70, 71, 72, 73, 36, 37, 38, 142, 143, 144, 145, 146, 147, 148, 149, 156, 157, 158, 159, 160, 161, 162, 163, 164, 165, 166, 167, 168, 169] (by decide +kernel) (by decide +kernel)
set_option maxRecDepth 20000 in
theorem gX8_carryOut_X8_doNow : GoodIn wsX8_carryOut (wsV RX8 235 RX8 yX8_doNow wsX8_doNow) := goodIn_app (goodIn_of _ (by decide +kernel)) ggX8_carryOut_X8_doNow
set_option maxRecDepth 20000 in
theorem ggX8_carryOut_X8_keep : GoodIn wsX8_carryOut wsX8_keep := goodIn_r _ [153, 154, 155, 4, 156, 157, 158, 159, 160, 161, 162, 163, 164, 165, 166, 167, 168, 169] (by decide +kernel) (by decide +kernel)
set_option maxRecDepth 20000 in
theorem gX8_carryOut_X8_keep : GoodIn wsX8_carryOut (wsV RX8 77 RX8 yX8_keep wsX8_keep) := goodIn_app (goodIn_of _ (by decide +kernel)) ggX8_carryOut_X8_keep
theorem dX8_carryOut_0 : decode cX8_carryOut 0 = .ok (.aload_n 0, 1) := by decide +kernel
theorem dX8_carryOut_1 : decode cX8_carryOut 1 = .ok (.iconst 0, 1) := by decide +kernel
theorem dX8_carryOut_2 : decode cX8_carryOut 2 = .ok (.putfield 31, 3) := by decide +kernel
theorem dX8_carryOut_5 : decode cX8_carryOut 5 = .ok (.aload_n 0, 1) := by decide +kernel
theorem dX8_carryOut_6 : decode cX8_carryOut 6 = .ok (.invokevirtual 226, 3) := by decide +kernel
theorem dX8_carryOut_9 : decode cX8_carryOut 9 = .ok (.ifCond .ne 11, 3) := by decide +kernel
theorem dX8_carryOut_12 : decode cX8_carryOut 12 = .ok (.bipush (-10), 2) := by decide +kernel
theorem dX8_carryOut_14 : decode cX8_carryOut 14 = .ok (.aload_n 0, 1) := by decide +kernel
theorem dX8_carryOut_15 : decode cX8_carryOut 15 = .ok (.getfield 201, 3) := by decide +kernel
theorem dX8_carryOut_18 : decode cX8_carryOut 18 = .ok (.isub, 1) := by decide +kernel
theorem dX8_carryOut_19 : decode cX8_carryOut 19 = .ok (.ireturn, 1) := by decide +kernel
theorem dX8_carryOut_20 : decode cX8_carryOut 20 = .ok (.iconst 0, 1) := by decide +kernel
theorem dX8_carryOut_21 : decode cX8_carryOut 21 = .ok (.istore_n 1, 1) := by decide +kernel
theorem dX8_carryOut_22 : decode cX8_carryOut 22 = .ok (.iload_n 1, 1) := by decide +kernel
theorem dX8_carryOut_23 : decode cX8_carryOut 23 = .ok (.sipush 1634, 3) := by decide +kernel
theorem dX8_carryOut_26 : decode cX8_carryOut 26 = .ok (.if_icmp .ge 21, 3) := by decide +kernel
theorem dX8_carryOut_29 : decode cX8_carryOut 29 = .ok (.aload_n 0, 1) := by decide +kernel
theorem dX8_carryOut_30 : decode cX8_carryOut 30 = .ok (.getfield 28, 3) := by decide +kernel
theorem dX8_carryOut_33 : decode cX8_carryOut 33 = .ok (.iload_n 1, 1) := by decide +kernel
theorem dX8_carryOut_34 : decode cX8_carryOut 34 = .ok (.aload_n 0, 1) := by decide +kernel
theorem dX8_carryOut_35 : decode cX8_carryOut 35 = .ok (.getfield 7, 3) := by decide +kernel
theorem dX8_carryOut_38 : decode cX8_carryOut 38 = .ok (.iload_n 1, 1) := by decide +kernel
theorem dX8_carryOut_39 : decode cX8_carryOut 39 = .ok (.iaload, 1) := by decide +kernel
theorem dX8_carryOut_40 : decode cX8_carryOut 40 = .ok (.iastore, 1) := by decide +kernel
theorem dX8_carryOut_41 : decode cX8_carryOut 41 = .ok (.iinc 1 1, 3) := by decide +kernel
theorem dX8_carryOut_44 : decode cX8_carryOut 44 = .ok (.goto (-22), 3) := by decide +kernel
theorem dX8_carryOut_47 : decode cX8_carryOut 47 = .ok (.iconst 0, 1) := by decide +kernel
theorem dX8_carryOut_48 : decode cX8_carryOut 48 = .ok (.istore_n 1, 1) := by decide +kernel
theorem dX8_carryOut_49 : decode cX8_carryOut 49 = .ok (.iload_n 1, 1) := by decide +kernel
theorem dX8_carryOut_50 : decode cX8_carryOut 50 = .ok (.aload_n 0, 1) := by decide +kernel
theorem dX8_carryOut_51 : decode cX8_carryOut 51 = .ok (.getfield 214, 3) := by decide +kernel
theorem dX8_carryOut_54 : decode cX8_carryOut 54 = .ok (.if_icmp .ge 32, 3) := by decide +kernel
theorem dX8_carryOut_57 : decode cX8_carryOut 57 = .ok (.aload_n 0, 1) := by decide +kernel
theorem dX8_carryOut_58 : decode cX8_carryOut 58 = .ok (.iload_n 1, 1) := by decide +kernel
theorem dX8_carryOut_59 : decode cX8_carryOut 59 = .ok (.invokevirtual 229, 3) := by decide +kernel
theorem dX8_carryOut_62 : decode cX8_carryOut 62 = .ok (.ifCond .eq 13, 3) := by decide +kernel
theorem dX8_carryOut_65 : decode cX8_carryOut 65 = .ok (.aload_n 0, 1) := by decide +kernel
theorem dX8_carryOut_66 : decode cX8_carryOut 66 = .ok (.invokevirtual 232, 3) := by decide +kernel
theorem dX8_carryOut_69 : decode cX8_carryOut 69 = .ok (.sipush (-1000), 3) := by decide +kernel
theorem dX8_carryOut_72 : decode cX8_carryOut 72 = .ok (.iload_n 1, 1) := by decide +kernel
theorem dX8_carryOut_73 : decode cX8_carryOut 73 = .ok (.isub, 1) := by decide +kernel
theorem dX8_carryOut_74 : decode cX8_carryOut 74 = .ok (.ireturn, 1) := by decide +kernel
theorem dX8_carryOut_75 : decode cX8_carryOut 75 = .ok (.aload_n 0, 1) := by decide +kernel
theorem dX8_carryOut_76 : decode cX8_carryOut 76 = .ok (.iload_n 1, 1) := by decide +kernel
theorem dX8_carryOut_77 : decode cX8_carryOut 77 = .ok (.invokevirtual 235, 3) := by decide +kernel
theorem dX8_carryOut_80 : decode cX8_carryOut 80 = .ok (.iinc 1 1, 3) := by decide +kernel
theorem dX8_carryOut_83 : decode cX8_carryOut 83 = .ok (.goto (-34), 3) := by decide +kernel
theorem dX8_carryOut_86 : decode cX8_carryOut 86 = .ok (.aload_n 0, 1) := by decide +kernel
theorem dX8_carryOut_87 : decode cX8_carryOut 87 = .ok (.invokevirtual 232, 3) := by decide +kernel
theorem dX8_carryOut_90 : decode cX8_carryOut 90 = .ok (.aload_n 0, 1) := by decide +kernel
theorem dX8_carryOut_91 : decode cX8_carryOut 91 = .ok (.invokevirtual 77, 3) := by decide +kernel
theorem dX8_carryOut_94 : decode cX8_carryOut 94 = .ok (.aload_n 0, 1) := by decide +kernel
theorem dX8_carryOut_95 : decode cX8_carryOut 95 = .ok (.invokevirtual 232, 3) := by decide +kernel
theorem dX8_carryOut_98 : decode cX8_carryOut 98 = .ok (.aload_n 0, 1) := by decide +kernel
theorem dX8_carryOut_99 : decode cX8_carryOut 99 = .ok (.getfield 214, 3) := by decide +kernel
theorem dX8_carryOut_102 : decode cX8_carryOut 102 = .ok (.ireturn, 1) := by decide +kernel
set_option maxRecDepth 20000 in
theorem ggX8_undo_X8_fails : GoodIn wsX8_undo wsX8_fails := goodIn_r _ [9, 1, 10, 11, 12, 13, 14, 15, 16, 17, 18, 19, 20, 21, 22, 23] (by decide +kernel) (by decide +kernel)
set_option maxRecDepth 20000 in
theorem gX8_undo_X8_fails : GoodIn wsX8_undo (wsV RX8 90 RX8 yX8_fails wsX8_fails) := goodIn_app (goodIn_of _ (by decide +kernel)) ggX8_undo_X8_fails
theorem dX8_undo_0 : decode cX8_undo 0 = .ok (.aload_n 0, 1) := by decide +kernel
theorem dX8_undo_1 : decode cX8_undo 1 = .ok (.iconst 0, 1) := by decide +kernel
theorem dX8_undo_2 : decode cX8_undo 2 = .ok (.putfield 31, 3) := by decide +kernel
theorem dX8_undo_5 : decode cX8_undo 5 = .ok (.aload_n 0, 1) := by decide +kernel
theorem dX8_undo_6 : decode cX8_undo 6 = .ok (.getfield 35, 3) := by decide +kernel
theorem dX8_undo_9 : decode cX8_undo 9 = .ok (.ifCond .ne 9, 3) := by decide +kernel
theorem dX8_undo_12 : decode cX8_undo 12 = .ok (.aload_n 0, 1) := by decide +kernel
theorem dX8_undo_13 : decode cX8_undo 13 = .ok (.iconst 1, 1) := by decide +kernel
theorem dX8_undo_14 : decode cX8_undo 14 = .ok (.invokevirtual 90, 3) := by decide +kernel
theorem dX8_undo_17 : decode cX8_undo 17 = .ok (.ireturn, 1) := by decide +kernel
theorem dX8_undo_18 : decode cX8_undo 18 = .ok (.aload_n 0, 1) := by decide +kernel
theorem dX8_undo_19 : decode cX8_undo 19 = .ok (.dup, 1) := by decide +kernel
theorem dX8_undo_20 : decode cX8_undo 20 = .ok (.getfield 35, 3) := by decide +kernel
theorem dX8_undo_23 : decode cX8_undo 23 = .ok (.iconst 1, 1) := by decide +kernel
theorem dX8_undo_24 : decode cX8_undo 24 = .ok (.isub, 1) := by decide +kernel
theorem dX8_undo_25 : decode cX8_undo 25 = .ok (.putfield 35, 3) := by decide +kernel
theorem dX8_undo_28 : decode cX8_undo 28 = .ok (.iconst 0, 1) := by decide +kernel
theorem dX8_undo_29 : decode cX8_undo 29 = .ok (.istore_n 1, 1) := by decide +kernel
theorem dX8_undo_30 : decode cX8_undo 30 = .ok (.iload_n 1, 1) := by decide +kernel
theorem dX8_undo_31 : decode cX8_undo 31 = .ok (.sipush 1634, 3) := by decide +kernel
theorem dX8_undo_34 : decode cX8_undo 34 = .ok (.if_icmp .ge 30, 3) := by decide +kernel
theorem dX8_undo_37 : decode cX8_undo 37 = .ok (.aload_n 0, 1) := by decide +kernel
theorem dX8_undo_38 : decode cX8_undo 38 = .ok (.getfield 7, 3) := by decide +kernel
theorem dX8_undo_41 : decode cX8_undo 41 = .ok (.iload_n 1, 1) := by decide +kernel
theorem dX8_undo_42 : decode cX8_undo 42 = .ok (.aload_n 0, 1) := by decide +kernel
theorem dX8_undo_43 : decode cX8_undo 43 = .ok (.getfield 13, 3) := by decide +kernel
theorem dX8_undo_46 : decode cX8_undo 46 = .ok (.sipush 1634, 3) := by decide +kernel
theorem dX8_undo_49 : decode cX8_undo 49 = .ok (.aload_n 0, 1) := by decide +kernel
theorem dX8_undo_50 : decode cX8_undo 50 = .ok (.getfield 35, 3) := by decide +kernel
theorem dX8_undo_53 : decode cX8_undo 53 = .ok (.imul, 1) := by decide +kernel
theorem dX8_undo_54 : decode cX8_undo 54 = .ok (.iload_n 1, 1) := by decide +kernel
theorem dX8_undo_55 : decode cX8_undo 55 = .ok (.iadd, 1) := by decide +kernel
theorem dX8_undo_56 : decode cX8_undo 56 = .ok (.iaload, 1) := by decide +kernel
theorem dX8_undo_57 : decode cX8_undo 57 = .ok (.iastore, 1) := by decide +kernel
theorem dX8_undo_58 : decode cX8_undo 58 = .ok (.iinc 1 1, 3) := by decide +kernel
theorem dX8_undo_61 : decode cX8_undo 61 = .ok (.goto (-31), 3) := by decide +kernel
theorem dX8_undo_64 : decode cX8_undo 64 = .ok (.aload_n 0, 1) := by decide +kernel
theorem dX8_undo_65 : decode cX8_undo 65 = .ok (.getfield 35, 3) := by decide +kernel
theorem dX8_undo_68 : decode cX8_undo 68 = .ok (.ireturn, 1) := by decide +kernel
theorem dX8_mix_0 : decode cX8_mix 0 = .ok (.aload_n 0, 1) := by decide +kernel
theorem dX8_mix_1 : decode cX8_mix 1 = .ok (.ldc2_w 238, 3) := by decide +kernel
theorem dX8_mix_4 : decode cX8_mix 4 = .ok (.aload_n 0, 1) := by decide +kernel
theorem dX8_mix_5 : decode cX8_mix 5 = .ok (.getfield 240, 3) := by decide +kernel
theorem dX8_mix_8 : decode cX8_mix 8 = .ok (.lmul, 1) := by decide +kernel
theorem dX8_mix_9 : decode cX8_mix 9 = .ok (.lload_n 1, 1) := by decide +kernel
theorem dX8_mix_10 : decode cX8_mix 10 = .ok (.ladd, 1) := by decide +kernel
theorem dX8_mix_11 : decode cX8_mix 11 = .ok (.putfield 240, 3) := by decide +kernel
theorem dX8_mix_14 : decode cX8_mix 14 = .ok (.return_, 1) := by decide +kernel
set_option maxRecDepth 20000 in
theorem ggX8_mixQuery_X8_query : GoodIn wsX8_mixQuery wsX8_query := goodIn_r _ [5] (by decide +kernel) (by decide +kernel)
set_option maxRecDepth 20000 in
theorem gX8_mixQuery_X8_query : GoodIn wsX8_mixQuery (va_wsS RX8 179 yX8_query wsX8_query) := goodIn_app (goodIn_of _ (by decide +kernel)) ggX8_mixQuery_X8_query
set_option maxRecDepth 20000 in
theorem ggX8_mixQuery_X8_mix : GoodIn wsX8_mixQuery wsX8_mix := goodIn_r _ [9, 10, 11, 17, 18, 19, 20, 21, 22, 23, 24, 25, 26, 27, 28, 29, 30] (by decide +kernel) (by decide +kernel)
set_option maxRecDepth 20000 in
theorem gX8_mixQuery_X8_mix : GoodIn wsX8_mixQuery (wsV RX8 244 RX8 yX8_mix wsX8_mix) := goodIn_app (goodIn_of _ (by decide +kernel)) ggX8_mixQuery_X8_mix
set_option maxRecDepth 20000 in
theorem ggX8_mixQuery_X8_answerOf : GoodIn wsX8_mixQuery wsX8_answerOf := goodIn_r _ [15, 1, 16, 2, 3, 4, 5, 17, 18, 19, 20, 21, 22, 23, 24, 25, 26, 27, 28, 29, 30] (by decide +kernel) (by decide +kernel)
set_option maxRecDepth 20000 in
theorem gX8_mixQuery_X8_answerOf : GoodIn wsX8_mixQuery (wsV RX8 192 RX8 yX8_answerOf wsX8_answerOf) := goodIn_app (goodIn_of _ (by decide +kernel)) ggX8_mixQuery_X8_answerOf
theorem dX8_mixQuery_0 : decode cX8_mixQuery 0 = .ok (.iload_n 1, 1) := by decide +kernel
theorem dX8_mixQuery_1 : decode cX8_mixQuery 1 = .ok (.invokestatic 179, 3) := by decide +kernel
theorem dX8_mixQuery_4 : decode cX8_mixQuery 4 = .ok (.istore_n 2, 1) := by decide +kernel
theorem dX8_mixQuery_5 : decode cX8_mixQuery 5 = .ok (.aload_n 0, 1) := by decide +kernel
theorem dX8_mixQuery_6 : decode cX8_mixQuery 6 = .ok (.aload_n 0, 1) := by decide +kernel
theorem dX8_mixQuery_7 : decode cX8_mixQuery 7 = .ok (.getfield 7, 3) := by decide +kernel
theorem dX8_mixQuery_10 : decode cX8_mixQuery 10 = .ok (.iload_n 2, 1) := by decide +kernel
theorem dX8_mixQuery_11 : decode cX8_mixQuery 11 = .ok (.iaload, 1) := by decide +kernel
theorem dX8_mixQuery_12 : decode cX8_mixQuery 12 = .ok (.i2l, 1) := by decide +kernel
theorem dX8_mixQuery_13 : decode cX8_mixQuery 13 = .ok (.invokevirtual 244, 3) := by decide +kernel
theorem dX8_mixQuery_16 : decode cX8_mixQuery 16 = .ok (.aload_n 0, 1) := by decide +kernel
theorem dX8_mixQuery_17 : decode cX8_mixQuery 17 = .ok (.aload_n 0, 1) := by decide +kernel
theorem dX8_mixQuery_18 : decode cX8_mixQuery 18 = .ok (.getfield 7, 3) := by decide +kernel
theorem dX8_mixQuery_21 : decode cX8_mixQuery 21 = .ok (.iload_n 2, 1) := by decide +kernel
theorem dX8_mixQuery_22 : decode cX8_mixQuery 22 = .ok (.iconst 1, 1) := by decide +kernel
theorem dX8_mixQuery_23 : decode cX8_mixQuery 23 = .ok (.iadd, 1) := by decide +kernel
theorem dX8_mixQuery_24 : decode cX8_mixQuery 24 = .ok (.iaload, 1) := by decide +kernel
theorem dX8_mixQuery_25 : decode cX8_mixQuery 25 = .ok (.i2l, 1) := by decide +kernel
theorem dX8_mixQuery_26 : decode cX8_mixQuery 26 = .ok (.invokevirtual 244, 3) := by decide +kernel
theorem dX8_mixQuery_29 : decode cX8_mixQuery 29 = .ok (.aload_n 0, 1) := by decide +kernel
theorem dX8_mixQuery_30 : decode cX8_mixQuery 30 = .ok (.aload_n 0, 1) := by decide +kernel
theorem dX8_mixQuery_31 : decode cX8_mixQuery 31 = .ok (.getfield 7, 3) := by decide +kernel
theorem dX8_mixQuery_34 : decode cX8_mixQuery 34 = .ok (.iload_n 2, 1) := by decide +kernel
theorem dX8_mixQuery_35 : decode cX8_mixQuery 35 = .ok (.iconst 2, 1) := by decide +kernel
theorem dX8_mixQuery_36 : decode cX8_mixQuery 36 = .ok (.iadd, 1) := by decide +kernel
theorem dX8_mixQuery_37 : decode cX8_mixQuery 37 = .ok (.iaload, 1) := by decide +kernel
theorem dX8_mixQuery_38 : decode cX8_mixQuery 38 = .ok (.i2l, 1) := by decide +kernel
theorem dX8_mixQuery_39 : decode cX8_mixQuery 39 = .ok (.invokevirtual 244, 3) := by decide +kernel
theorem dX8_mixQuery_42 : decode cX8_mixQuery 42 = .ok (.iconst 0, 1) := by decide +kernel
theorem dX8_mixQuery_43 : decode cX8_mixQuery 43 = .ok (.istore_n 3, 1) := by decide +kernel
theorem dX8_mixQuery_44 : decode cX8_mixQuery 44 = .ok (.iload_n 3, 1) := by decide +kernel
theorem dX8_mixQuery_45 : decode cX8_mixQuery 45 = .ok (.iconst 3, 1) := by decide +kernel
theorem dX8_mixQuery_46 : decode cX8_mixQuery 46 = .ok (.if_icmp .ge 31, 3) := by decide +kernel
theorem dX8_mixQuery_49 : decode cX8_mixQuery 49 = .ok (.aload_n 0, 1) := by decide +kernel
theorem dX8_mixQuery_50 : decode cX8_mixQuery 50 = .ok (.getfield 7, 3) := by decide +kernel
theorem dX8_mixQuery_53 : decode cX8_mixQuery 53 = .ok (.iload_n 2, 1) := by decide +kernel
theorem dX8_mixQuery_54 : decode cX8_mixQuery 54 = .ok (.iconst 2, 1) := by decide +kernel
theorem dX8_mixQuery_55 : decode cX8_mixQuery 55 = .ok (.iadd, 1) := by decide +kernel
theorem dX8_mixQuery_56 : decode cX8_mixQuery 56 = .ok (.iaload, 1) := by decide +kernel
theorem dX8_mixQuery_57 : decode cX8_mixQuery 57 = .ok (.iconst 1, 1) := by decide +kernel
theorem dX8_mixQuery_58 : decode cX8_mixQuery 58 = .ok (.if_icmp .ne 19, 3) := by decide +kernel
theorem dX8_mixQuery_61 : decode cX8_mixQuery 61 = .ok (.aload_n 0, 1) := by decide +kernel
theorem dX8_mixQuery_62 : decode cX8_mixQuery 62 = .ok (.aload_n 0, 1) := by decide +kernel
theorem dX8_mixQuery_63 : decode cX8_mixQuery 63 = .ok (.iload_n 1, 1) := by decide +kernel
theorem dX8_mixQuery_64 : decode cX8_mixQuery 64 = .ok (.iload_n 3, 1) := by decide +kernel
theorem dX8_mixQuery_65 : decode cX8_mixQuery 65 = .ok (.invokevirtual 192, 3) := by decide +kernel
theorem dX8_mixQuery_68 : decode cX8_mixQuery 68 = .ok (.invokevirtual 244, 3) := by decide +kernel
theorem dX8_mixQuery_71 : decode cX8_mixQuery 71 = .ok (.iinc 3 1, 3) := by decide +kernel
theorem dX8_mixQuery_74 : decode cX8_mixQuery 74 = .ok (.goto (-30), 3) := by decide +kernel
theorem dX8_mixQuery_77 : decode cX8_mixQuery 77 = .ok (.return_, 1) := by decide +kernel
set_option maxRecDepth 20000 in
theorem ggX8_digest_X8_mix : GoodIn wsX8_digest wsX8_mix := goodIn_r _ [13, 14, 3, 65, 66, 67, 68, 69, 70, 71, 72, 73, 74, 75, 76, 77, 78] (by decide +kernel) (by decide +kernel)
set_option maxRecDepth 20000 in
theorem gX8_digest_X8_mix : GoodIn wsX8_digest (wsV RX8 244 RX8 yX8_mix wsX8_mix) := goodIn_app (goodIn_of _ (by decide +kernel)) ggX8_digest_X8_mix
set_option maxRecDepth 20000 in
theorem ggX8_digest_X8_mixQuery : GoodIn wsX8_digest wsX8_mixQuery := goodIn_r _ [18, 5, 19, 20, 12, 21, 9, 10, 11, 13, 14, 3, 22, 23, 24, 25, 26, 65, 66, 67, 68, 69, 70, 71, 72, 73, 74, 75, 76, 77, 78] (by decide +kernel) (by decide +kernel)
set_option maxRecDepth 20000 in
theorem gX8_digest_X8_mixQuery : GoodIn wsX8_digest (wsV RX8 250 RX8 yX8_mixQuery wsX8_mixQuery) := goodIn_app (goodIn_of _ (by decide +kernel)) ggX8_digest_X8_mixQuery
set_option maxRecDepth 20000 in
theorem ggX8_digest_X8_layPieces : GoodIn wsX8_digest wsX8_layPieces := goodIn_r _ [30, 6, 7, 31, 32, 33, 12, 34, 5, 35, 36, 37, 38, 39, 40, 41, 42, 43, 44, 45, 46, 47, 48, 49, 50, 51, 52, 53, 54, 55, 56, 57, 58, 59, 60, 65, 66, 67, 68, 69, 70, 71, 72, 73, 74, 75, 76, 77, 78] (by decide +kernel) (by decide +kernel)
set_option maxRecDepth 20000 in
theorem gX8_digest_X8_layPieces : GoodIn wsX8_digest (wsV RX8 142 RX8 yX8_layPieces wsX8_layPieces) := goodIn_app (goodIn_of _ (by decide +kernel)) ggX8_digest_X8_layPieces
set_option maxRecDepth 20000 in
theorem ggX8_digest_X8_sumOf : GoodIn wsX8_digest wsX8_sumOf := goodIn_r _ [64, 31, 32, 33, 12, 34, 5, 35, 36, 37, 38, 39, 40, 41, 42, 43, 44, 45, 46, 47, 48, 49, 50, 51, 52, 53, 54, 55, 56, 57, 58, 59, 60, 65, 66, 67, 68, 69, 70, 71, 72, 73, 74, 75, 76, 77, 78] (by decide +kernel) (by decide +kernel)
set_option maxRecDepth 20000 in
theorem gX8_digest_X8_sumOf : GoodIn wsX8_digest (wsV RX8 148 RX8 yX8_sumOf wsX8_sumOf) := goodIn_app (goodIn_of _ (by decide +kernel)) ggX8_digest_X8_sumOf
theorem dX8_digest_0 : decode cX8_digest 0 = .ok (.aload_n 0, 1) := by decide +kernel
theorem dX8_digest_1 : decode cX8_digest 1 = .ok (.iconst 0, 1) := by decide +kernel
theorem dX8_digest_2 : decode cX8_digest 2 = .ok (.putfield 31, 3) := by decide +kernel
theorem dX8_digest_5 : decode cX8_digest 5 = .ok (.aload_n 0, 1) := by decide +kernel
theorem dX8_digest_6 : decode cX8_digest 6 = .ok (.ldc2_w 248, 3) := by decide +kernel
theorem dX8_digest_9 : decode cX8_digest 9 = .ok (.putfield 240, 3) := by decide +kernel
theorem dX8_digest_12 : decode cX8_digest 12 = .ok (.aload_n 0, 1) := by decide +kernel
theorem dX8_digest_13 : decode cX8_digest 13 = .ok (.aload_n 0, 1) := by decide +kernel
theorem dX8_digest_14 : decode cX8_digest 14 = .ok (.getfield 198, 3) := by decide +kernel
theorem dX8_digest_17 : decode cX8_digest 17 = .ok (.i2l, 1) := by decide +kernel
theorem dX8_digest_18 : decode cX8_digest 18 = .ok (.invokevirtual 244, 3) := by decide +kernel
theorem dX8_digest_21 : decode cX8_digest 21 = .ok (.aload_n 0, 1) := by decide +kernel
theorem dX8_digest_22 : decode cX8_digest 22 = .ok (.aload_n 0, 1) := by decide +kernel
theorem dX8_digest_23 : decode cX8_digest 23 = .ok (.getfield 7, 3) := by decide +kernel
theorem dX8_digest_26 : decode cX8_digest 26 = .ok (.iconst 1, 1) := by decide +kernel
theorem dX8_digest_27 : decode cX8_digest 27 = .ok (.iaload, 1) := by decide +kernel
theorem dX8_digest_28 : decode cX8_digest 28 = .ok (.i2l, 1) := by decide +kernel
theorem dX8_digest_29 : decode cX8_digest 29 = .ok (.invokevirtual 244, 3) := by decide +kernel
theorem dX8_digest_32 : decode cX8_digest 32 = .ok (.aload_n 0, 1) := by decide +kernel
theorem dX8_digest_33 : decode cX8_digest 33 = .ok (.aload_n 0, 1) := by decide +kernel
theorem dX8_digest_34 : decode cX8_digest 34 = .ok (.getfield 7, 3) := by decide +kernel
theorem dX8_digest_37 : decode cX8_digest 37 = .ok (.iconst 0, 1) := by decide +kernel
theorem dX8_digest_38 : decode cX8_digest 38 = .ok (.iaload, 1) := by decide +kernel
theorem dX8_digest_39 : decode cX8_digest 39 = .ok (.i2l, 1) := by decide +kernel
theorem dX8_digest_40 : decode cX8_digest 40 = .ok (.invokevirtual 244, 3) := by decide +kernel
theorem dX8_digest_43 : decode cX8_digest 43 = .ok (.iconst 0, 1) := by decide +kernel
theorem dX8_digest_44 : decode cX8_digest 44 = .ok (.istore_n 1, 1) := by decide +kernel
theorem dX8_digest_45 : decode cX8_digest 45 = .ok (.iload_n 1, 1) := by decide +kernel
theorem dX8_digest_46 : decode cX8_digest 46 = .ok (.bipush 6, 2) := by decide +kernel
theorem dX8_digest_48 : decode cX8_digest 48 = .ok (.aload_n 0, 1) := by decide +kernel
theorem dX8_digest_49 : decode cX8_digest 49 = .ok (.getfield 7, 3) := by decide +kernel
theorem dX8_digest_52 : decode cX8_digest 52 = .ok (.iconst 0, 1) := by decide +kernel
theorem dX8_digest_53 : decode cX8_digest 53 = .ok (.iaload, 1) := by decide +kernel
theorem dX8_digest_54 : decode cX8_digest 54 = .ok (.imul, 1) := by decide +kernel
theorem dX8_digest_55 : decode cX8_digest 55 = .ok (.if_icmp .ge 22, 3) := by decide +kernel
theorem dX8_digest_58 : decode cX8_digest 58 = .ok (.aload_n 0, 1) := by decide +kernel
theorem dX8_digest_59 : decode cX8_digest 59 = .ok (.aload_n 0, 1) := by decide +kernel
theorem dX8_digest_60 : decode cX8_digest 60 = .ok (.getfield 7, 3) := by decide +kernel
theorem dX8_digest_63 : decode cX8_digest 63 = .ok (.iconst 2, 1) := by decide +kernel
theorem dX8_digest_64 : decode cX8_digest 64 = .ok (.iload_n 1, 1) := by decide +kernel
theorem dX8_digest_65 : decode cX8_digest 65 = .ok (.iadd, 1) := by decide +kernel
theorem dX8_digest_66 : decode cX8_digest 66 = .ok (.iaload, 1) := by decide +kernel
theorem dX8_digest_67 : decode cX8_digest 67 = .ok (.i2l, 1) := by decide +kernel
theorem dX8_digest_68 : decode cX8_digest 68 = .ok (.invokevirtual 244, 3) := by decide +kernel
theorem dX8_digest_71 : decode cX8_digest 71 = .ok (.iinc 1 1, 3) := by decide +kernel
theorem dX8_digest_74 : decode cX8_digest 74 = .ok (.goto (-29), 3) := by decide +kernel
theorem dX8_digest_77 : decode cX8_digest 77 = .ok (.aload_n 0, 1) := by decide +kernel
theorem dX8_digest_78 : decode cX8_digest 78 = .ok (.aload_n 0, 1) := by decide +kernel
theorem dX8_digest_79 : decode cX8_digest 79 = .ok (.getfield 7, 3) := by decide +kernel
theorem dX8_digest_82 : decode cX8_digest 82 = .ok (.sipush 242, 3) := by decide +kernel
theorem dX8_digest_85 : decode cX8_digest 85 = .ok (.iaload, 1) := by decide +kernel
theorem dX8_digest_86 : decode cX8_digest 86 = .ok (.i2l, 1) := by decide +kernel
theorem dX8_digest_87 : decode cX8_digest 87 = .ok (.invokevirtual 244, 3) := by decide +kernel
theorem dX8_digest_90 : decode cX8_digest 90 = .ok (.iconst 0, 1) := by decide +kernel
theorem dX8_digest_91 : decode cX8_digest 91 = .ok (.istore_n 1, 1) := by decide +kernel
theorem dX8_digest_92 : decode cX8_digest 92 = .ok (.iload_n 1, 1) := by decide +kernel
theorem dX8_digest_93 : decode cX8_digest 93 = .ok (.aload_n 0, 1) := by decide +kernel
theorem dX8_digest_94 : decode cX8_digest 94 = .ok (.getfield 7, 3) := by decide +kernel
theorem dX8_digest_97 : decode cX8_digest 97 = .ok (.sipush 242, 3) := by decide +kernel
theorem dX8_digest_100 : decode cX8_digest 100 = .ok (.iaload, 1) := by decide +kernel
theorem dX8_digest_101 : decode cX8_digest 101 = .ok (.if_icmp .ge 14, 3) := by decide +kernel
theorem dX8_digest_104 : decode cX8_digest 104 = .ok (.aload_n 0, 1) := by decide +kernel
theorem dX8_digest_105 : decode cX8_digest 105 = .ok (.iload_n 1, 1) := by decide +kernel
theorem dX8_digest_106 : decode cX8_digest 106 = .ok (.invokevirtual 250, 3) := by decide +kernel
theorem dX8_digest_109 : decode cX8_digest 109 = .ok (.iinc 1 1, 3) := by decide +kernel
theorem dX8_digest_112 : decode cX8_digest 112 = .ok (.goto (-20), 3) := by decide +kernel
theorem dX8_digest_115 : decode cX8_digest 115 = .ok (.aload_n 0, 1) := by decide +kernel
theorem dX8_digest_116 : decode cX8_digest 116 = .ok (.aload_n 0, 1) := by decide +kernel
theorem dX8_digest_117 : decode cX8_digest 117 = .ok (.getfield 7, 3) := by decide +kernel
theorem dX8_digest_120 : decode cX8_digest 120 = .ok (.sipush 423, 3) := by decide +kernel
theorem dX8_digest_123 : decode cX8_digest 123 = .ok (.iaload, 1) := by decide +kernel
theorem dX8_digest_124 : decode cX8_digest 124 = .ok (.i2l, 1) := by decide +kernel
theorem dX8_digest_125 : decode cX8_digest 125 = .ok (.invokevirtual 244, 3) := by decide +kernel
theorem dX8_digest_128 : decode cX8_digest 128 = .ok (.aload_n 0, 1) := by decide +kernel
theorem dX8_digest_129 : decode cX8_digest 129 = .ok (.aload_n 0, 1) := by decide +kernel
theorem dX8_digest_130 : decode cX8_digest 130 = .ok (.getfield 7, 3) := by decide +kernel
theorem dX8_digest_133 : decode cX8_digest 133 = .ok (.iconst 1, 1) := by decide +kernel
theorem dX8_digest_134 : decode cX8_digest 134 = .ok (.iaload, 1) := by decide +kernel
theorem dX8_digest_135 : decode cX8_digest 135 = .ok (.invokevirtual 142, 3) := by decide +kernel
theorem dX8_digest_138 : decode cX8_digest 138 = .ok (.aload_n 0, 1) := by decide +kernel
theorem dX8_digest_139 : decode cX8_digest 139 = .ok (.aload_n 0, 1) := by decide +kernel
theorem dX8_digest_140 : decode cX8_digest 140 = .ok (.getfield 139, 3) := by decide +kernel
theorem dX8_digest_143 : decode cX8_digest 143 = .ok (.i2l, 1) := by decide +kernel
theorem dX8_digest_144 : decode cX8_digest 144 = .ok (.invokevirtual 244, 3) := by decide +kernel
theorem dX8_digest_147 : decode cX8_digest 147 = .ok (.iconst 0, 1) := by decide +kernel
theorem dX8_digest_148 : decode cX8_digest 148 = .ok (.istore_n 1, 1) := by decide +kernel
theorem dX8_digest_149 : decode cX8_digest 149 = .ok (.iload_n 1, 1) := by decide +kernel
theorem dX8_digest_150 : decode cX8_digest 150 = .ok (.iconst 3, 1) := by decide +kernel
theorem dX8_digest_151 : decode cX8_digest 151 = .ok (.aload_n 0, 1) := by decide +kernel
theorem dX8_digest_152 : decode cX8_digest 152 = .ok (.getfield 139, 3) := by decide +kernel
theorem dX8_digest_155 : decode cX8_digest 155 = .ok (.imul, 1) := by decide +kernel
theorem dX8_digest_156 : decode cX8_digest 156 = .ok (.if_icmp .ge 20, 3) := by decide +kernel
theorem dX8_digest_159 : decode cX8_digest 159 = .ok (.aload_n 0, 1) := by decide +kernel
theorem dX8_digest_160 : decode cX8_digest 160 = .ok (.aload_n 0, 1) := by decide +kernel
theorem dX8_digest_161 : decode cX8_digest 161 = .ok (.getfield 19, 3) := by decide +kernel
theorem dX8_digest_164 : decode cX8_digest 164 = .ok (.iload_n 1, 1) := by decide +kernel
theorem dX8_digest_165 : decode cX8_digest 165 = .ok (.iaload, 1) := by decide +kernel
theorem dX8_digest_166 : decode cX8_digest 166 = .ok (.i2l, 1) := by decide +kernel
theorem dX8_digest_167 : decode cX8_digest 167 = .ok (.invokevirtual 244, 3) := by decide +kernel
theorem dX8_digest_170 : decode cX8_digest 170 = .ok (.iinc 1 1, 3) := by decide +kernel
theorem dX8_digest_173 : decode cX8_digest 173 = .ok (.goto (-24), 3) := by decide +kernel
theorem dX8_digest_176 : decode cX8_digest 176 = .ok (.aload_n 0, 1) := by decide +kernel
theorem dX8_digest_177 : decode cX8_digest 177 = .ok (.aload_n 0, 1) := by decide +kernel
theorem dX8_digest_178 : decode cX8_digest 178 = .ok (.aload_n 0, 1) := by decide +kernel
theorem dX8_digest_179 : decode cX8_digest 179 = .ok (.getfield 7, 3) := by decide +kernel
theorem dX8_digest_182 : decode cX8_digest 182 = .ok (.iconst 1, 1) := by decide +kernel
theorem dX8_digest_183 : decode cX8_digest 183 = .ok (.iaload, 1) := by decide +kernel
theorem dX8_digest_184 : decode cX8_digest 184 = .ok (.iconst 0, 1) := by decide +kernel
theorem dX8_digest_185 : decode cX8_digest 185 = .ok (.sipush 255, 3) := by decide +kernel
theorem dX8_digest_188 : decode cX8_digest 188 = .ok (.invokevirtual 148, 3) := by decide +kernel
theorem dX8_digest_191 : decode cX8_digest 191 = .ok (.invokevirtual 244, 3) := by decide +kernel
theorem dX8_digest_194 : decode cX8_digest 194 = .ok (.aload_n 0, 1) := by decide +kernel
theorem dX8_digest_195 : decode cX8_digest 195 = .ok (.aload_n 0, 1) := by decide +kernel
theorem dX8_digest_196 : decode cX8_digest 196 = .ok (.getfield 35, 3) := by decide +kernel
theorem dX8_digest_199 : decode cX8_digest 199 = .ok (.i2l, 1) := by decide +kernel
theorem dX8_digest_200 : decode cX8_digest 200 = .ok (.invokevirtual 244, 3) := by decide +kernel
theorem dX8_digest_203 : decode cX8_digest 203 = .ok (.aload_n 0, 1) := by decide +kernel
theorem dX8_digest_204 : decode cX8_digest 204 = .ok (.getfield 240, 3) := by decide +kernel
theorem dX8_digest_207 : decode cX8_digest 207 = .ok (.lreturn, 1) := by decide +kernel
theorem dJ9_floorMod_7cf53_0 : decode cJ9_floorMod_7cf53 0 = .ok (.iload_n 0, 1) := by decide +kernel
theorem dJ9_floorMod_7cf53_1 : decode cJ9_floorMod_7cf53 1 = .ok (.iload_n 1, 1) := by decide +kernel
theorem dJ9_floorMod_7cf53_2 : decode cJ9_floorMod_7cf53 2 = .ok (.irem, 1) := by decide +kernel
theorem dJ9_floorMod_7cf53_3 : decode cJ9_floorMod_7cf53 3 = .ok (.istore_n 2, 1) := by decide +kernel
theorem dJ9_floorMod_7cf53_4 : decode cJ9_floorMod_7cf53 4 = .ok (.iload_n 0, 1) := by decide +kernel
theorem dJ9_floorMod_7cf53_5 : decode cJ9_floorMod_7cf53 5 = .ok (.iload_n 1, 1) := by decide +kernel
theorem dJ9_floorMod_7cf53_6 : decode cJ9_floorMod_7cf53 6 = .ok (.ixor, 1) := by decide +kernel
theorem dJ9_floorMod_7cf53_7 : decode cJ9_floorMod_7cf53 7 = .ok (.ifCond .ge 11, 3) := by decide +kernel
theorem dJ9_floorMod_7cf53_10 : decode cJ9_floorMod_7cf53 10 = .ok (.iload_n 2, 1) := by decide +kernel
theorem dJ9_floorMod_7cf53_11 : decode cJ9_floorMod_7cf53 11 = .ok (.ifCond .eq 7, 3) := by decide +kernel
theorem dJ9_floorMod_7cf53_14 : decode cJ9_floorMod_7cf53 14 = .ok (.iload_n 2, 1) := by decide +kernel
theorem dJ9_floorMod_7cf53_15 : decode cJ9_floorMod_7cf53 15 = .ok (.iload_n 1, 1) := by decide +kernel
theorem dJ9_floorMod_7cf53_16 : decode cJ9_floorMod_7cf53 16 = .ok (.iadd, 1) := by decide +kernel
theorem dJ9_floorMod_7cf53_17 : decode cJ9_floorMod_7cf53 17 = .ok (.ireturn, 1) := by decide +kernel
theorem dJ9_floorMod_7cf53_18 : decode cJ9_floorMod_7cf53 18 = .ok (.iload_n 2, 1) := by decide +kernel
theorem dJ9_floorMod_7cf53_19 : decode cJ9_floorMod_7cf53 19 = .ok (.ireturn, 1) := by decide +kernel
theorem dJ9_max_7cf53_0 : decode cJ9_max_7cf53 0 = .ok (.iload_n 0, 1) := by decide +kernel
theorem dJ9_max_7cf53_1 : decode cJ9_max_7cf53 1 = .ok (.iload_n 1, 1) := by decide +kernel
theorem dJ9_max_7cf53_2 : decode cJ9_max_7cf53 2 = .ok (.if_icmp .lt 7, 3) := by decide +kernel
theorem dJ9_max_7cf53_5 : decode cJ9_max_7cf53 5 = .ok (.iload_n 0, 1) := by decide +kernel
theorem dJ9_max_7cf53_6 : decode cJ9_max_7cf53 6 = .ok (.goto 4, 3) := by decide +kernel
theorem dJ9_max_7cf53_9 : decode cJ9_max_7cf53 9 = .ok (.iload_n 1, 1) := by decide +kernel
theorem dJ9_max_7cf53_10 : decode cJ9_max_7cf53 10 = .ok (.ireturn, 1) := by decide +kernel
theorem dJ9_min_7cf53_0 : decode cJ9_min_7cf53 0 = .ok (.iload_n 0, 1) := by decide +kernel
theorem dJ9_min_7cf53_1 : decode cJ9_min_7cf53 1 = .ok (.iload_n 1, 1) := by decide +kernel
theorem dJ9_min_7cf53_2 : decode cJ9_min_7cf53 2 = .ok (.if_icmp .gt 7, 3) := by decide +kernel
theorem dJ9_min_7cf53_5 : decode cJ9_min_7cf53 5 = .ok (.iload_n 0, 1) := by decide +kernel
theorem dJ9_min_7cf53_6 : decode cJ9_min_7cf53 6 = .ok (.goto 4, 3) := by decide +kernel
theorem dJ9_min_7cf53_9 : decode cJ9_min_7cf53 9 = .ok (.iload_n 1, 1) := by decide +kernel
theorem dJ9_min_7cf53_10 : decode cJ9_min_7cf53 10 = .ok (.ireturn, 1) := by decide +kernel
abbrev vwCl : List vw_C := [(RX1, TX1, 3), (RX2, TX2, 3), (RX3, TX3, 2), (RX4, TX4, 5), (RX5, TX5, 4), (RX6, TX6, 3), (RX7, TX7, 4), (RX8, TX8, 14)]
