theorem dX0_isInterval_0 : decode cX0_isInterval 0 = .ok (.iload_n 1, 1) := by decide +kernel
theorem dX0_isInterval_1 : decode cX0_isInterval 1 = .ok (.iconst 1, 1) := by decide +kernel
theorem dX0_isInterval_2 : decode cX0_isInterval 2 = .ok (.sipush 16384, 3) := by decide +kernel
theorem dX0_isInterval_5 : decode cX0_isInterval 5 = .ok (.invokestatic 9, 3) := by decide +kernel
theorem dX0_isInterval_8 : decode cX0_isInterval 8 = .ok (.ifCond .eq 36, 3) := by decide +kernel
theorem dX0_isInterval_11 : decode cX0_isInterval 11 = .ok (.iload_n 1, 1) := by decide +kernel
theorem dX0_isInterval_12 : decode cX0_isInterval 12 = .ok (.iload_n 1, 1) := by decide +kernel
theorem dX0_isInterval_13 : decode cX0_isInterval 13 = .ok (.iconst 1, 1) := by decide +kernel
theorem dX0_isInterval_14 : decode cX0_isInterval 14 = .ok (.isub, 1) := by decide +kernel
theorem dX0_isInterval_15 : decode cX0_isInterval 15 = .ok (.iand, 1) := by decide +kernel
theorem dX0_isInterval_16 : decode cX0_isInterval 16 = .ok (.ifCond .ne 28, 3) := by decide +kernel
theorem dX0_isInterval_19 : decode cX0_isInterval 19 = .ok (.iload_n 0, 1) := by decide +kernel
theorem dX0_isInterval_20 : decode cX0_isInterval 20 = .ok (.iconst 0, 1) := by decide +kernel
theorem dX0_isInterval_21 : decode cX0_isInterval 21 = .ok (.sipush 16384, 3) := by decide +kernel
theorem dX0_isInterval_24 : decode cX0_isInterval 24 = .ok (.iload_n 1, 1) := by decide +kernel
theorem dX0_isInterval_25 : decode cX0_isInterval 25 = .ok (.isub, 1) := by decide +kernel
theorem dX0_isInterval_26 : decode cX0_isInterval 26 = .ok (.invokestatic 9, 3) := by decide +kernel
theorem dX0_isInterval_29 : decode cX0_isInterval 29 = .ok (.ifCond .eq 15, 3) := by decide +kernel
theorem dX0_isInterval_32 : decode cX0_isInterval 32 = .ok (.iload_n 0, 1) := by decide +kernel
theorem dX0_isInterval_33 : decode cX0_isInterval 33 = .ok (.iload_n 1, 1) := by decide +kernel
theorem dX0_isInterval_34 : decode cX0_isInterval 34 = .ok (.iconst 1, 1) := by decide +kernel
theorem dX0_isInterval_35 : decode cX0_isInterval 35 = .ok (.isub, 1) := by decide +kernel
theorem dX0_isInterval_36 : decode cX0_isInterval 36 = .ok (.iand, 1) := by decide +kernel
theorem dX0_isInterval_37 : decode cX0_isInterval 37 = .ok (.ifCond .ne 7, 3) := by decide +kernel
theorem dX0_isInterval_40 : decode cX0_isInterval 40 = .ok (.iconst 1, 1) := by decide +kernel
theorem dX0_isInterval_41 : decode cX0_isInterval 41 = .ok (.goto 4, 3) := by decide +kernel
theorem dX0_isInterval_44 : decode cX0_isInterval 44 = .ok (.iconst 0, 1) := by decide +kernel
theorem dX0_isInterval_45 : decode cX0_isInterval 45 = .ok (.ireturn, 1) := by decide +kernel
theorem dX0_largest_0 : decode cX0_largest 0 = .ok (.iload_n 0, 1) := by decide +kernel
theorem dX0_largest_1 : decode cX0_largest 1 = .ok (.ifCond .ne 9, 3) := by decide +kernel
theorem dX0_largest_4 : decode cX0_largest 4 = .ok (.sipush 16384, 3) := by decide +kernel
theorem dX0_largest_7 : decode cX0_largest 7 = .ok (.goto 7, 3) := by decide +kernel
theorem dX0_largest_10 : decode cX0_largest 10 = .ok (.iload_n 0, 1) := by decide +kernel
theorem dX0_largest_11 : decode cX0_largest 11 = .ok (.iload_n 0, 1) := by decide +kernel
theorem dX0_largest_12 : decode cX0_largest 12 = .ok (.ineg, 1) := by decide +kernel
theorem dX0_largest_13 : decode cX0_largest 13 = .ok (.iand, 1) := by decide +kernel
theorem dX0_largest_14 : decode cX0_largest 14 = .ok (.istore_n 2, 1) := by decide +kernel
theorem dX0_largest_15 : decode cX0_largest 15 = .ok (.iload_n 2, 1) := by decide +kernel
theorem dX0_largest_16 : decode cX0_largest 16 = .ok (.iconst 1, 1) := by decide +kernel
theorem dX0_largest_17 : decode cX0_largest 17 = .ok (.if_icmp .le 17, 3) := by decide +kernel
theorem dX0_largest_20 : decode cX0_largest 20 = .ok (.iload_n 2, 1) := by decide +kernel
theorem dX0_largest_21 : decode cX0_largest 21 = .ok (.iload_n 1, 1) := by decide +kernel
theorem dX0_largest_22 : decode cX0_largest 22 = .ok (.iload_n 0, 1) := by decide +kernel
theorem dX0_largest_23 : decode cX0_largest 23 = .ok (.isub, 1) := by decide +kernel
theorem dX0_largest_24 : decode cX0_largest 24 = .ok (.if_icmp .le 10, 3) := by decide +kernel
theorem dX0_largest_27 : decode cX0_largest 27 = .ok (.iload_n 2, 1) := by decide +kernel
theorem dX0_largest_28 : decode cX0_largest 28 = .ok (.iconst 2, 1) := by decide +kernel
theorem dX0_largest_29 : decode cX0_largest 29 = .ok (.idiv, 1) := by decide +kernel
theorem dX0_largest_30 : decode cX0_largest 30 = .ok (.istore_n 2, 1) := by decide +kernel
theorem dX0_largest_31 : decode cX0_largest 31 = .ok (.goto (-16), 3) := by decide +kernel
theorem dX0_largest_34 : decode cX0_largest 34 = .ok (.iload_n 2, 1) := by decide +kernel
theorem dX0_largest_35 : decode cX0_largest 35 = .ok (.ireturn, 1) := by decide +kernel
set_option maxRecDepth 20000 in
theorem ggX0_count_X0_largest : GoodIn wsX0_count wsX0_largest := goodIn_r _ [4] (by decide +kernel) (by decide +kernel)
set_option maxRecDepth 20000 in
theorem gX0_count_X0_largest : GoodIn wsX0_count (va_wsS RX0 13 yX0_largest wsX0_largest) := goodIn_app (goodIn_of _ (by decide +kernel)) ggX0_count_X0_largest
theorem dX0_count_0 : decode cX0_count 0 = .ok (.iconst 0, 1) := by decide +kernel
theorem dX0_count_1 : decode cX0_count 1 = .ok (.istore_n 2, 1) := by decide +kernel
theorem dX0_count_2 : decode cX0_count 2 = .ok (.iload_n 0, 1) := by decide +kernel
theorem dX0_count_3 : decode cX0_count 3 = .ok (.istore_n 3, 1) := by decide +kernel
theorem dX0_count_4 : decode cX0_count 4 = .ok (.iload_n 2, 1) := by decide +kernel
theorem dX0_count_5 : decode cX0_count 5 = .ok (.sipush 16384, 3) := by decide +kernel
theorem dX0_count_8 : decode cX0_count 8 = .ok (.if_icmp .ge 22, 3) := by decide +kernel
theorem dX0_count_11 : decode cX0_count 11 = .ok (.iload_n 3, 1) := by decide +kernel
theorem dX0_count_12 : decode cX0_count 12 = .ok (.iload_n 1, 1) := by decide +kernel
theorem dX0_count_13 : decode cX0_count 13 = .ok (.if_icmp .ge 17, 3) := by decide +kernel
theorem dX0_count_16 : decode cX0_count 16 = .ok (.iload_n 3, 1) := by decide +kernel
theorem dX0_count_17 : decode cX0_count 17 = .ok (.iload_n 3, 1) := by decide +kernel
theorem dX0_count_18 : decode cX0_count 18 = .ok (.iload_n 1, 1) := by decide +kernel
theorem dX0_count_19 : decode cX0_count 19 = .ok (.invokestatic 13, 3) := by decide +kernel
theorem dX0_count_22 : decode cX0_count 22 = .ok (.iadd, 1) := by decide +kernel
theorem dX0_count_23 : decode cX0_count 23 = .ok (.istore_n 3, 1) := by decide +kernel
theorem dX0_count_24 : decode cX0_count 24 = .ok (.iinc 2 1, 3) := by decide +kernel
theorem dX0_count_27 : decode cX0_count 27 = .ok (.goto (-23), 3) := by decide +kernel
theorem dX0_count_30 : decode cX0_count 30 = .ok (.iload_n 2, 1) := by decide +kernel
theorem dX0_count_31 : decode cX0_count 31 = .ok (.ireturn, 1) := by decide +kernel
set_option maxRecDepth 20000 in
theorem ggX0_firstTick_X0_largest : GoodIn wsX0_firstTick wsX0_largest := goodIn_r _ [4] (by decide +kernel) (by decide +kernel)
set_option maxRecDepth 20000 in
theorem gX0_firstTick_X0_largest : GoodIn wsX0_firstTick (va_wsS RX0 13 yX0_largest wsX0_largest) := goodIn_app (goodIn_of _ (by decide +kernel)) ggX0_firstTick_X0_largest
theorem dX0_firstTick_0 : decode cX0_firstTick 0 = .ok (.iload_n 0, 1) := by decide +kernel
theorem dX0_firstTick_1 : decode cX0_firstTick 1 = .ok (.istore_n 3, 1) := by decide +kernel
theorem dX0_firstTick_2 : decode cX0_firstTick 2 = .ok (.iconst 0, 1) := by decide +kernel
theorem dX0_firstTick_3 : decode cX0_firstTick 3 = .ok (.istore 4, 2) := by decide +kernel
theorem dX0_firstTick_5 : decode cX0_firstTick 5 = .ok (.iload 4, 2) := by decide +kernel
theorem dX0_firstTick_7 : decode cX0_firstTick 7 = .ok (.iload_n 2, 1) := by decide +kernel
theorem dX0_firstTick_8 : decode cX0_firstTick 8 = .ok (.if_icmp .ge 22, 3) := by decide +kernel
theorem dX0_firstTick_11 : decode cX0_firstTick 11 = .ok (.iload_n 3, 1) := by decide +kernel
theorem dX0_firstTick_12 : decode cX0_firstTick 12 = .ok (.iload_n 1, 1) := by decide +kernel
theorem dX0_firstTick_13 : decode cX0_firstTick 13 = .ok (.if_icmp .ge 17, 3) := by decide +kernel
theorem dX0_firstTick_16 : decode cX0_firstTick 16 = .ok (.iload_n 3, 1) := by decide +kernel
theorem dX0_firstTick_17 : decode cX0_firstTick 17 = .ok (.iload_n 3, 1) := by decide +kernel
theorem dX0_firstTick_18 : decode cX0_firstTick 18 = .ok (.iload_n 1, 1) := by decide +kernel
theorem dX0_firstTick_19 : decode cX0_firstTick 19 = .ok (.invokestatic 13, 3) := by decide +kernel
theorem dX0_firstTick_22 : decode cX0_firstTick 22 = .ok (.iadd, 1) := by decide +kernel
theorem dX0_firstTick_23 : decode cX0_firstTick 23 = .ok (.istore_n 3, 1) := by decide +kernel
theorem dX0_firstTick_24 : decode cX0_firstTick 24 = .ok (.iinc 4 1, 3) := by decide +kernel
theorem dX0_firstTick_27 : decode cX0_firstTick 27 = .ok (.goto (-22), 3) := by decide +kernel
theorem dX0_firstTick_30 : decode cX0_firstTick 30 = .ok (.iload_n 2, 1) := by decide +kernel
theorem dX0_firstTick_31 : decode cX0_firstTick 31 = .ok (.ifCond .lt 12, 3) := by decide +kernel
theorem dX0_firstTick_34 : decode cX0_firstTick 34 = .ok (.iload_n 3, 1) := by decide +kernel
theorem dX0_firstTick_35 : decode cX0_firstTick 35 = .ok (.iload_n 1, 1) := by decide +kernel
theorem dX0_firstTick_36 : decode cX0_firstTick 36 = .ok (.if_icmp .ge 7, 3) := by decide +kernel
theorem dX0_firstTick_39 : decode cX0_firstTick 39 = .ok (.iload_n 3, 1) := by decide +kernel
theorem dX0_firstTick_40 : decode cX0_firstTick 40 = .ok (.goto 4, 3) := by decide +kernel
theorem dX0_firstTick_43 : decode cX0_firstTick 43 = .ok (.iconst (-1), 1) := by decide +kernel
theorem dX0_firstTick_44 : decode cX0_firstTick 44 = .ok (.ireturn, 1) := by decide +kernel
theorem dX0_holds_0 : decode cX0_holds 0 = .ok (.iload_n 2, 1) := by decide +kernel
theorem dX0_holds_1 : decode cX0_holds 1 = .ok (.iload_n 0, 1) := by decide +kernel
theorem dX0_holds_2 : decode cX0_holds 2 = .ok (.if_icmp .lt 10, 3) := by decide +kernel
theorem dX0_holds_5 : decode cX0_holds 5 = .ok (.iload_n 2, 1) := by decide +kernel
theorem dX0_holds_6 : decode cX0_holds 6 = .ok (.iload_n 3, 1) := by decide +kernel
theorem dX0_holds_7 : decode cX0_holds 7 = .ok (.iadd, 1) := by decide +kernel
theorem dX0_holds_8 : decode cX0_holds 8 = .ok (.iload_n 1, 1) := by decide +kernel
theorem dX0_holds_9 : decode cX0_holds 9 = .ok (.if_icmp .le 5, 3) := by decide +kernel
theorem dX0_holds_12 : decode cX0_holds 12 = .ok (.iconst 0, 1) := by decide +kernel
theorem dX0_holds_13 : decode cX0_holds 13 = .ok (.ireturn, 1) := by decide +kernel
theorem dX0_holds_14 : decode cX0_holds 14 = .ok (.iconst 2, 1) := by decide +kernel
theorem dX0_holds_15 : decode cX0_holds 15 = .ok (.iload_n 3, 1) := by decide +kernel
theorem dX0_holds_16 : decode cX0_holds 16 = .ok (.imul, 1) := by decide +kernel
theorem dX0_holds_17 : decode cX0_holds 17 = .ok (.istore 4, 2) := by decide +kernel
theorem dX0_holds_19 : decode cX0_holds 19 = .ok (.iload_n 2, 1) := by decide +kernel
theorem dX0_holds_20 : decode cX0_holds 20 = .ok (.iload 4, 2) := by decide +kernel
theorem dX0_holds_22 : decode cX0_holds 22 = .ok (.ineg, 1) := by decide +kernel
theorem dX0_holds_23 : decode cX0_holds 23 = .ok (.iand, 1) := by decide +kernel
theorem dX0_holds_24 : decode cX0_holds 24 = .ok (.istore 5, 2) := by decide +kernel
theorem dX0_holds_26 : decode cX0_holds 26 = .ok (.iload 4, 2) := by decide +kernel
theorem dX0_holds_28 : decode cX0_holds 28 = .ok (.sipush 16384, 3) := by decide +kernel
theorem dX0_holds_31 : decode cX0_holds 31 = .ok (.if_icmp .gt 18, 3) := by decide +kernel
theorem dX0_holds_34 : decode cX0_holds 34 = .ok (.iload 5, 2) := by decide +kernel
theorem dX0_holds_36 : decode cX0_holds 36 = .ok (.iload_n 0, 1) := by decide +kernel
theorem dX0_holds_37 : decode cX0_holds 37 = .ok (.if_icmp .lt 12, 3) := by decide +kernel
theorem dX0_holds_40 : decode cX0_holds 40 = .ok (.iload 5, 2) := by decide +kernel
theorem dX0_holds_42 : decode cX0_holds 42 = .ok (.iload 4, 2) := by decide +kernel
theorem dX0_holds_44 : decode cX0_holds 44 = .ok (.iadd, 1) := by decide +kernel
theorem dX0_holds_45 : decode cX0_holds 45 = .ok (.iload_n 1, 1) := by decide +kernel
theorem dX0_holds_46 : decode cX0_holds 46 = .ok (.if_icmp .le 7, 3) := by decide +kernel
theorem dX0_holds_49 : decode cX0_holds 49 = .ok (.iconst 1, 1) := by decide +kernel
theorem dX0_holds_50 : decode cX0_holds 50 = .ok (.goto 4, 3) := by decide +kernel
theorem dX0_holds_53 : decode cX0_holds 53 = .ok (.iconst 0, 1) := by decide +kernel
theorem dX0_holds_54 : decode cX0_holds 54 = .ok (.ireturn, 1) := by decide +kernel
theorem dX1_init_0 : decode cX1_init 0 = .ok (.aload_n 0, 1) := by decide +kernel
theorem dX1_init_1 : decode cX1_init 1 = .ok (.invokespecial 3, 3) := by decide +kernel
theorem dX1_init_4 : decode cX1_init 4 = .ok (.aload_n 0, 1) := by decide +kernel
theorem dX1_init_5 : decode cX1_init 5 = .ok (.sipush 256, 3) := by decide +kernel
theorem dX1_init_8 : decode cX1_init 8 = .ok (.newarray .int, 2) := by decide +kernel
theorem dX1_init_10 : decode cX1_init 10 = .ok (.putfield 9, 3) := by decide +kernel
theorem dX1_init_13 : decode cX1_init 13 = .ok (.aload_n 0, 1) := by decide +kernel
theorem dX1_init_14 : decode cX1_init 14 = .ok (.sipush 256, 3) := by decide +kernel
theorem dX1_init_17 : decode cX1_init 17 = .ok (.newarray .int, 2) := by decide +kernel
theorem dX1_init_19 : decode cX1_init 19 = .ok (.putfield 15, 3) := by decide +kernel
theorem dX1_init_22 : decode cX1_init 22 = .ok (.return_, 1) := by decide +kernel
set_option maxRecDepth 20000 in
theorem ggX1_build_X6_firstAt : GoodIn wsX1_build wsX6_firstAt := goodIn_r _ [8, 9, 10, 11, 12, 7, 13, 14, 15, 16, 17, 18, 19, 20, 21, 22, 23, 24, 25, 26, 27, 28, 29, 30, 49, 50, 51] (by decide +kernel) (by decide +kernel)
set_option maxRecDepth 20000 in
theorem gX1_build_X6_firstAt : GoodIn wsX1_build (wsV RX1 22 RX6 yX6_firstAt wsX6_firstAt) := goodIn_app (goodIn_of _ (by decide +kernel)) ggX1_build_X6_firstAt
set_option maxRecDepth 20000 in
theorem ggX1_build_X6_lastLed : GoodIn wsX1_build wsX6_lastLed := goodIn_r _ [34, 9, 18, 19, 20, 7, 21, 22, 23, 24, 25, 26, 35, 36, 37, 38, 39, 40, 41, 42, 43, 44, 45, 49, 50, 51] (by decide +kernel) (by decide +kernel)
set_option maxRecDepth 20000 in
theorem gX1_build_X6_lastLed : GoodIn wsX1_build (wsV RX1 28 RX6 yX6_lastLed wsX6_lastLed) := goodIn_app (goodIn_of _ (by decide +kernel)) ggX1_build_X6_lastLed
theorem dX1_build_0 : decode cX1_build 0 = .ok (.aload_n 0, 1) := by decide +kernel
theorem dX1_build_1 : decode cX1_build 1 = .ok (.iconst 0, 1) := by decide +kernel
theorem dX1_build_2 : decode cX1_build 2 = .ok (.putfield 18, 3) := by decide +kernel
theorem dX1_build_5 : decode cX1_build 5 = .ok (.iconst 0, 1) := by decide +kernel
theorem dX1_build_6 : decode cX1_build 6 = .ok (.istore_n 3, 1) := by decide +kernel
theorem dX1_build_7 : decode cX1_build 7 = .ok (.aload_n 0, 1) := by decide +kernel
theorem dX1_build_8 : decode cX1_build 8 = .ok (.getfield 18, 3) := by decide +kernel
theorem dX1_build_11 : decode cX1_build 11 = .ok (.sipush 256, 3) := by decide +kernel
theorem dX1_build_14 : decode cX1_build 14 = .ok (.if_icmp .ge 74, 3) := by decide +kernel
theorem dX1_build_17 : decode cX1_build 17 = .ok (.iload_n 3, 1) := by decide +kernel
theorem dX1_build_18 : decode cX1_build 18 = .ok (.sipush 255, 3) := by decide +kernel
theorem dX1_build_21 : decode cX1_build 21 = .ok (.if_icmp .gt 67, 3) := by decide +kernel
theorem dX1_build_24 : decode cX1_build 24 = .ok (.aload_n 0, 1) := by decide +kernel
theorem dX1_build_25 : decode cX1_build 25 = .ok (.getfield 15, 3) := by decide +kernel
theorem dX1_build_28 : decode cX1_build 28 = .ok (.aload_n 0, 1) := by decide +kernel
theorem dX1_build_29 : decode cX1_build 29 = .ok (.getfield 18, 3) := by decide +kernel
theorem dX1_build_32 : decode cX1_build 32 = .ok (.aload_n 1, 1) := by decide +kernel
theorem dX1_build_33 : decode cX1_build 33 = .ok (.iload_n 3, 1) := by decide +kernel
theorem dX1_build_34 : decode cX1_build 34 = .ok (.iload_n 2, 1) := by decide +kernel
theorem dX1_build_35 : decode cX1_build 35 = .ok (.invokevirtual 22, 3) := by decide +kernel
theorem dX1_build_38 : decode cX1_build 38 = .ok (.iastore, 1) := by decide +kernel
theorem dX1_build_39 : decode cX1_build 39 = .ok (.aload_n 0, 1) := by decide +kernel
theorem dX1_build_40 : decode cX1_build 40 = .ok (.getfield 9, 3) := by decide +kernel
theorem dX1_build_43 : decode cX1_build 43 = .ok (.aload_n 0, 1) := by decide +kernel
theorem dX1_build_44 : decode cX1_build 44 = .ok (.getfield 18, 3) := by decide +kernel
theorem dX1_build_47 : decode cX1_build 47 = .ok (.aload_n 1, 1) := by decide +kernel
theorem dX1_build_48 : decode cX1_build 48 = .ok (.aload_n 0, 1) := by decide +kernel
theorem dX1_build_49 : decode cX1_build 49 = .ok (.getfield 15, 3) := by decide +kernel
theorem dX1_build_52 : decode cX1_build 52 = .ok (.aload_n 0, 1) := by decide +kernel
theorem dX1_build_53 : decode cX1_build 53 = .ok (.getfield 18, 3) := by decide +kernel
theorem dX1_build_56 : decode cX1_build 56 = .ok (.iaload, 1) := by decide +kernel
theorem dX1_build_57 : decode cX1_build 57 = .ok (.iload_n 3, 1) := by decide +kernel
theorem dX1_build_58 : decode cX1_build 58 = .ok (.iload_n 2, 1) := by decide +kernel
theorem dX1_build_59 : decode cX1_build 59 = .ok (.invokevirtual 28, 3) := by decide +kernel
theorem dX1_build_62 : decode cX1_build 62 = .ok (.iastore, 1) := by decide +kernel
theorem dX1_build_63 : decode cX1_build 63 = .ok (.aload_n 0, 1) := by decide +kernel
theorem dX1_build_64 : decode cX1_build 64 = .ok (.getfield 9, 3) := by decide +kernel
theorem dX1_build_67 : decode cX1_build 67 = .ok (.aload_n 0, 1) := by decide +kernel
theorem dX1_build_68 : decode cX1_build 68 = .ok (.getfield 18, 3) := by decide +kernel
theorem dX1_build_71 : decode cX1_build 71 = .ok (.iaload, 1) := by decide +kernel
theorem dX1_build_72 : decode cX1_build 72 = .ok (.iconst 1, 1) := by decide +kernel
theorem dX1_build_73 : decode cX1_build 73 = .ok (.iadd, 1) := by decide +kernel
theorem dX1_build_74 : decode cX1_build 74 = .ok (.istore_n 3, 1) := by decide +kernel
theorem dX1_build_75 : decode cX1_build 75 = .ok (.aload_n 0, 1) := by decide +kernel
theorem dX1_build_76 : decode cX1_build 76 = .ok (.dup, 1) := by decide +kernel
theorem dX1_build_77 : decode cX1_build 77 = .ok (.getfield 18, 3) := by decide +kernel
theorem dX1_build_80 : decode cX1_build 80 = .ok (.iconst 1, 1) := by decide +kernel
theorem dX1_build_81 : decode cX1_build 81 = .ok (.iadd, 1) := by decide +kernel
theorem dX1_build_82 : decode cX1_build 82 = .ok (.putfield 18, 3) := by decide +kernel
theorem dX1_build_85 : decode cX1_build 85 = .ok (.goto (-78), 3) := by decide +kernel
theorem dX1_build_88 : decode cX1_build 88 = .ok (.return_, 1) := by decide +kernel
set_option maxRecDepth 20000 in
theorem ggX1_value_X1_first : GoodIn wsX1_value wsX1_first := goodIn_r _ [5, 6, 7, 8, 4, 9, 10, 16, 17, 18] (by decide +kernel) (by decide +kernel)
set_option maxRecDepth 20000 in
theorem gX1_value_X1_first : GoodIn wsX1_value (wsV RX1 32 RX1 yX1_first wsX1_first) := goodIn_app (goodIn_of _ (by decide +kernel)) ggX1_value_X1_first
set_option maxRecDepth 20000 in
theorem ggX1_value_X1_last : GoodIn wsX1_value wsX1_last := goodIn_r _ [9, 10, 16, 17, 18] (by decide +kernel) (by decide +kernel)
set_option maxRecDepth 20000 in
theorem gX1_value_X1_last : GoodIn wsX1_value (wsV RX1 36 RX1 yX1_last wsX1_last) := goodIn_app (goodIn_of _ (by decide +kernel)) ggX1_value_X1_last
set_option maxRecDepth 20000 in
theorem ggX1_value_X1_leader : GoodIn wsX1_value wsX1_leader := goodIn_r _ [14, 15, 16, 17, 18] (by decide +kernel) (by decide +kernel)
set_option maxRecDepth 20000 in
theorem gX1_value_X1_leader : GoodIn wsX1_value (wsV RX1 39 RX1 yX1_leader wsX1_leader) := goodIn_app (goodIn_of _ (by decide +kernel)) ggX1_value_X1_leader
theorem dX1_value_0 : decode cX1_value 0 = .ok (.iload_n 2, 1) := by decide +kernel
theorem dX1_value_1 : decode cX1_value 1 = .ok (.ifCond .ne 9, 3) := by decide +kernel
theorem dX1_value_4 : decode cX1_value 4 = .ok (.aload_n 0, 1) := by decide +kernel
theorem dX1_value_5 : decode cX1_value 5 = .ok (.iload_n 1, 1) := by decide +kernel
theorem dX1_value_6 : decode cX1_value 6 = .ok (.invokevirtual 32, 3) := by decide +kernel
theorem dX1_value_9 : decode cX1_value 9 = .ok (.ireturn, 1) := by decide +kernel
theorem dX1_value_10 : decode cX1_value 10 = .ok (.iload_n 2, 1) := by decide +kernel
theorem dX1_value_11 : decode cX1_value 11 = .ok (.iconst 1, 1) := by decide +kernel
theorem dX1_value_12 : decode cX1_value 12 = .ok (.if_icmp .ne 11, 3) := by decide +kernel
theorem dX1_value_15 : decode cX1_value 15 = .ok (.aload_n 0, 1) := by decide +kernel
theorem dX1_value_16 : decode cX1_value 16 = .ok (.iload_n 1, 1) := by decide +kernel
theorem dX1_value_17 : decode cX1_value 17 = .ok (.invokevirtual 36, 3) := by decide +kernel
theorem dX1_value_20 : decode cX1_value 20 = .ok (.goto 8, 3) := by decide +kernel
theorem dX1_value_23 : decode cX1_value 23 = .ok (.aload_n 0, 1) := by decide +kernel
theorem dX1_value_24 : decode cX1_value 24 = .ok (.iload_n 1, 1) := by decide +kernel
theorem dX1_value_25 : decode cX1_value 25 = .ok (.invokevirtual 39, 3) := by decide +kernel
theorem dX1_value_28 : decode cX1_value 28 = .ok (.ireturn, 1) := by decide +kernel
set_option maxRecDepth 20000 in
theorem ggX1_first_X1_last : GoodIn wsX1_first wsX1_last := goodIn_r _ [5, 6, 7, 8, 9] (by decide +kernel) (by decide +kernel)
set_option maxRecDepth 20000 in
theorem gX1_first_X1_last : GoodIn wsX1_first (wsV RX1 36 RX1 yX1_last wsX1_last) := goodIn_app (goodIn_of _ (by decide +kernel)) ggX1_first_X1_last
theorem dX1_first_0 : decode cX1_first 0 = .ok (.iload_n 1, 1) := by decide +kernel
theorem dX1_first_1 : decode cX1_first 1 = .ok (.ifCond .ne 7, 3) := by decide +kernel
theorem dX1_first_4 : decode cX1_first 4 = .ok (.iconst 0, 1) := by decide +kernel
theorem dX1_first_5 : decode cX1_first 5 = .ok (.goto 12, 3) := by decide +kernel
theorem dX1_first_8 : decode cX1_first 8 = .ok (.aload_n 0, 1) := by decide +kernel
theorem dX1_first_9 : decode cX1_first 9 = .ok (.iload_n 1, 1) := by decide +kernel
theorem dX1_first_10 : decode cX1_first 10 = .ok (.iconst 1, 1) := by decide +kernel
theorem dX1_first_11 : decode cX1_first 11 = .ok (.isub, 1) := by decide +kernel
theorem dX1_first_12 : decode cX1_first 12 = .ok (.invokevirtual 36, 3) := by decide +kernel
theorem dX1_first_15 : decode cX1_first 15 = .ok (.iconst 1, 1) := by decide +kernel
theorem dX1_first_16 : decode cX1_first 16 = .ok (.iadd, 1) := by decide +kernel
theorem dX1_first_17 : decode cX1_first 17 = .ok (.ireturn, 1) := by decide +kernel
theorem dX1_last_0 : decode cX1_last 0 = .ok (.iload_n 1, 1) := by decide +kernel
theorem dX1_last_1 : decode cX1_last 1 = .ok (.ifCond .lt 21, 3) := by decide +kernel
theorem dX1_last_4 : decode cX1_last 4 = .ok (.iload_n 1, 1) := by decide +kernel
theorem dX1_last_5 : decode cX1_last 5 = .ok (.aload_n 0, 1) := by decide +kernel
theorem dX1_last_6 : decode cX1_last 6 = .ok (.getfield 9, 3) := by decide +kernel
theorem dX1_last_9 : decode cX1_last 9 = .ok (.arraylength, 1) := by decide +kernel
theorem dX1_last_10 : decode cX1_last 10 = .ok (.if_icmp .ge 12, 3) := by decide +kernel
theorem dX1_last_13 : decode cX1_last 13 = .ok (.aload_n 0, 1) := by decide +kernel
theorem dX1_last_14 : decode cX1_last 14 = .ok (.getfield 9, 3) := by decide +kernel
theorem dX1_last_17 : decode cX1_last 17 = .ok (.iload_n 1, 1) := by decide +kernel
theorem dX1_last_18 : decode cX1_last 18 = .ok (.iaload, 1) := by decide +kernel
theorem dX1_last_19 : decode cX1_last 19 = .ok (.goto 6, 3) := by decide +kernel
theorem dX1_last_22 : decode cX1_last 22 = .ok (.sipush 255, 3) := by decide +kernel
theorem dX1_last_25 : decode cX1_last 25 = .ok (.ireturn, 1) := by decide +kernel
theorem dX1_leader_0 : decode cX1_leader 0 = .ok (.iload_n 1, 1) := by decide +kernel
theorem dX1_leader_1 : decode cX1_leader 1 = .ok (.ifCond .lt 21, 3) := by decide +kernel
theorem dX1_leader_4 : decode cX1_leader 4 = .ok (.iload_n 1, 1) := by decide +kernel
theorem dX1_leader_5 : decode cX1_leader 5 = .ok (.aload_n 0, 1) := by decide +kernel
theorem dX1_leader_6 : decode cX1_leader 6 = .ok (.getfield 15, 3) := by decide +kernel
theorem dX1_leader_9 : decode cX1_leader 9 = .ok (.arraylength, 1) := by decide +kernel
theorem dX1_leader_10 : decode cX1_leader 10 = .ok (.if_icmp .ge 12, 3) := by decide +kernel
theorem dX1_leader_13 : decode cX1_leader 13 = .ok (.aload_n 0, 1) := by decide +kernel
theorem dX1_leader_14 : decode cX1_leader 14 = .ok (.getfield 15, 3) := by decide +kernel
theorem dX1_leader_17 : decode cX1_leader 17 = .ok (.iload_n 1, 1) := by decide +kernel
theorem dX1_leader_18 : decode cX1_leader 18 = .ok (.iaload, 1) := by decide +kernel
theorem dX1_leader_19 : decode cX1_leader 19 = .ok (.goto 4, 3) := by decide +kernel
theorem dX1_leader_22 : decode cX1_leader 22 = .ok (.iconst (-1), 1) := by decide +kernel
theorem dX1_leader_23 : decode cX1_leader 23 = .ok (.ireturn, 1) := by decide +kernel
set_option maxRecDepth 20000 in
theorem ggX1_positionsOf_X1_leader : GoodIn wsX1_positionsOf wsX1_leader := goodIn_r _ [6, 7, 17, 18, 19] (by decide +kernel) (by decide +kernel)
set_option maxRecDepth 20000 in
theorem gX1_positionsOf_X1_leader : GoodIn wsX1_positionsOf (wsV RX1 39 RX1 yX1_leader wsX1_leader) := goodIn_app (goodIn_of _ (by decide +kernel)) ggX1_positionsOf_X1_leader
set_option maxRecDepth 20000 in
theorem ggX1_positionsOf_X1_last : GoodIn wsX1_positionsOf wsX1_last := goodIn_r _ [11, 12, 17, 18, 19] (by decide +kernel) (by decide +kernel)
set_option maxRecDepth 20000 in
theorem gX1_positionsOf_X1_last : GoodIn wsX1_positionsOf (wsV RX1 36 RX1 yX1_last wsX1_last) := goodIn_app (goodIn_of _ (by decide +kernel)) ggX1_positionsOf_X1_last
set_option maxRecDepth 20000 in
theorem ggX1_positionsOf_X1_first : GoodIn wsX1_positionsOf wsX1_first := goodIn_r _ [16, 8, 9, 10, 5, 11, 12, 17, 18, 19] (by decide +kernel) (by decide +kernel)
set_option maxRecDepth 20000 in
theorem gX1_positionsOf_X1_first : GoodIn wsX1_positionsOf (wsV RX1 32 RX1 yX1_first wsX1_first) := goodIn_app (goodIn_of _ (by decide +kernel)) ggX1_positionsOf_X1_first
theorem dX1_positionsOf_0 : decode cX1_positionsOf 0 = .ok (.iconst 0, 1) := by decide +kernel
theorem dX1_positionsOf_1 : decode cX1_positionsOf 1 = .ok (.istore_n 2, 1) := by decide +kernel
theorem dX1_positionsOf_2 : decode cX1_positionsOf 2 = .ok (.iconst 0, 1) := by decide +kernel
theorem dX1_positionsOf_3 : decode cX1_positionsOf 3 = .ok (.istore_n 3, 1) := by decide +kernel
theorem dX1_positionsOf_4 : decode cX1_positionsOf 4 = .ok (.iload_n 3, 1) := by decide +kernel
theorem dX1_positionsOf_5 : decode cX1_positionsOf 5 = .ok (.aload_n 0, 1) := by decide +kernel
theorem dX1_positionsOf_6 : decode cX1_positionsOf 6 = .ok (.getfield 18, 3) := by decide +kernel
theorem dX1_positionsOf_9 : decode cX1_positionsOf 9 = .ok (.if_icmp .ge 34, 3) := by decide +kernel
theorem dX1_positionsOf_12 : decode cX1_positionsOf 12 = .ok (.aload_n 0, 1) := by decide +kernel
theorem dX1_positionsOf_13 : decode cX1_positionsOf 13 = .ok (.iload_n 3, 1) := by decide +kernel
theorem dX1_positionsOf_14 : decode cX1_positionsOf 14 = .ok (.invokevirtual 39, 3) := by decide +kernel
theorem dX1_positionsOf_17 : decode cX1_positionsOf 17 = .ok (.iload_n 1, 1) := by decide +kernel
theorem dX1_positionsOf_18 : decode cX1_positionsOf 18 = .ok (.if_icmp .ne 19, 3) := by decide +kernel
theorem dX1_positionsOf_21 : decode cX1_positionsOf 21 = .ok (.iload_n 2, 1) := by decide +kernel
theorem dX1_positionsOf_22 : decode cX1_positionsOf 22 = .ok (.aload_n 0, 1) := by decide +kernel
theorem dX1_positionsOf_23 : decode cX1_positionsOf 23 = .ok (.iload_n 3, 1) := by decide +kernel
theorem dX1_positionsOf_24 : decode cX1_positionsOf 24 = .ok (.invokevirtual 36, 3) := by decide +kernel
theorem dX1_positionsOf_27 : decode cX1_positionsOf 27 = .ok (.aload_n 0, 1) := by decide +kernel
theorem dX1_positionsOf_28 : decode cX1_positionsOf 28 = .ok (.iload_n 3, 1) := by decide +kernel
theorem dX1_positionsOf_29 : decode cX1_positionsOf 29 = .ok (.invokevirtual 32, 3) := by decide +kernel
theorem dX1_positionsOf_32 : decode cX1_positionsOf 32 = .ok (.isub, 1) := by decide +kernel
theorem dX1_positionsOf_33 : decode cX1_positionsOf 33 = .ok (.iconst 1, 1) := by decide +kernel
theorem dX1_positionsOf_34 : decode cX1_positionsOf 34 = .ok (.iadd, 1) := by decide +kernel
theorem dX1_positionsOf_35 : decode cX1_positionsOf 35 = .ok (.iadd, 1) := by decide +kernel
theorem dX1_positionsOf_36 : decode cX1_positionsOf 36 = .ok (.istore_n 2, 1) := by decide +kernel
theorem dX1_positionsOf_37 : decode cX1_positionsOf 37 = .ok (.iinc 3 1, 3) := by decide +kernel
theorem dX1_positionsOf_40 : decode cX1_positionsOf 40 = .ok (.goto (-36), 3) := by decide +kernel
theorem dX1_positionsOf_43 : decode cX1_positionsOf 43 = .ok (.iload_n 2, 1) := by decide +kernel
theorem dX1_positionsOf_44 : decode cX1_positionsOf 44 = .ok (.ireturn, 1) := by decide +kernel
set_option maxRecDepth 20000 in
theorem ggX1_sumBetween_X1_first : GoodIn wsX1_sumBetween wsX1_first := goodIn_r _ [14, 15, 16, 17, 13, 18, 19, 35, 36, 37] (by decide +kernel) (by decide +kernel)
set_option maxRecDepth 20000 in
theorem gX1_sumBetween_X1_first : GoodIn wsX1_sumBetween (wsV RX1 32 RX1 yX1_first wsX1_first) := goodIn_app (goodIn_of _ (by decide +kernel)) ggX1_sumBetween_X1_first
set_option maxRecDepth 20000 in
theorem ggX1_sumBetween_X1_last : GoodIn wsX1_sumBetween wsX1_last := goodIn_r _ [18, 19, 35, 36, 37] (by decide +kernel) (by decide +kernel)
set_option maxRecDepth 20000 in
theorem gX1_sumBetween_X1_last : GoodIn wsX1_sumBetween (wsV RX1 36 RX1 yX1_last wsX1_last) := goodIn_app (goodIn_of _ (by decide +kernel)) ggX1_sumBetween_X1_last
set_option maxRecDepth 20000 in
theorem ggX1_sumBetween_X1_leader : GoodIn wsX1_sumBetween wsX1_leader := goodIn_r _ [23, 24, 35, 36, 37] (by decide +kernel) (by decide +kernel)
set_option maxRecDepth 20000 in
theorem gX1_sumBetween_X1_leader : GoodIn wsX1_sumBetween (wsV RX1 39 RX1 yX1_leader wsX1_leader) := goodIn_app (goodIn_of _ (by decide +kernel)) ggX1_sumBetween_X1_leader
set_option maxRecDepth 20000 in
theorem ggX1_sumBetween_X6_height : GoodIn wsX1_sumBetween wsX6_height := goodIn_r _ [29, 30, 31, 32, 28, 33, 34, 38, 39, 40] (by decide +kernel) (by decide +kernel)
set_option maxRecDepth 20000 in
theorem gX1_sumBetween_X6_height : GoodIn wsX1_sumBetween (wsV RX1 50 RX6 yX6_height wsX6_height) := goodIn_app (goodIn_of _ (by decide +kernel)) ggX1_sumBetween_X6_height
theorem dX1_sumBetween_0 : decode cX1_sumBetween 0 = .ok (.lconst 0, 1) := by decide +kernel
theorem dX1_sumBetween_1 : decode cX1_sumBetween 1 = .ok (.lstore 4, 2) := by decide +kernel
theorem dX1_sumBetween_3 : decode cX1_sumBetween 3 = .ok (.iconst 0, 1) := by decide +kernel
theorem dX1_sumBetween_4 : decode cX1_sumBetween 4 = .ok (.istore 6, 2) := by decide +kernel
theorem dX1_sumBetween_6 : decode cX1_sumBetween 6 = .ok (.iload 6, 2) := by decide +kernel
theorem dX1_sumBetween_8 : decode cX1_sumBetween 8 = .ok (.aload_n 0, 1) := by decide +kernel
theorem dX1_sumBetween_9 : decode cX1_sumBetween 9 = .ok (.getfield 18, 3) := by decide +kernel
theorem dX1_sumBetween_12 : decode cX1_sumBetween 12 = .ok (.if_icmp .ge 95, 3) := by decide +kernel
theorem dX1_sumBetween_15 : decode cX1_sumBetween 15 = .ok (.iload_n 2, 1) := by decide +kernel
theorem dX1_sumBetween_16 : decode cX1_sumBetween 16 = .ok (.aload_n 0, 1) := by decide +kernel
theorem dX1_sumBetween_17 : decode cX1_sumBetween 17 = .ok (.iload 6, 2) := by decide +kernel
theorem dX1_sumBetween_19 : decode cX1_sumBetween 19 = .ok (.invokevirtual 32, 3) := by decide +kernel
theorem dX1_sumBetween_22 : decode cX1_sumBetween 22 = .ok (.invokestatic 42, 3) := by decide +kernel
theorem dX1_sumBetween_25 : decode cX1_sumBetween 25 = .ok (.istore 7, 2) := by decide +kernel
theorem dX1_sumBetween_27 : decode cX1_sumBetween 27 = .ok (.iload_n 3, 1) := by decide +kernel
theorem dX1_sumBetween_28 : decode cX1_sumBetween 28 = .ok (.aload_n 0, 1) := by decide +kernel
theorem dX1_sumBetween_29 : decode cX1_sumBetween 29 = .ok (.iload 6, 2) := by decide +kernel
theorem dX1_sumBetween_31 : decode cX1_sumBetween 31 = .ok (.invokevirtual 36, 3) := by decide +kernel
theorem dX1_sumBetween_34 : decode cX1_sumBetween 34 = .ok (.invokestatic 47, 3) := by decide +kernel
theorem dX1_sumBetween_37 : decode cX1_sumBetween 37 = .ok (.istore 8, 2) := by decide +kernel
theorem dX1_sumBetween_39 : decode cX1_sumBetween 39 = .ok (.aload_n 0, 1) := by decide +kernel
theorem dX1_sumBetween_40 : decode cX1_sumBetween 40 = .ok (.iload 6, 2) := by decide +kernel
theorem dX1_sumBetween_42 : decode cX1_sumBetween 42 = .ok (.invokevirtual 39, 3) := by decide +kernel
theorem dX1_sumBetween_45 : decode cX1_sumBetween 45 = .ok (.istore 9, 2) := by decide +kernel
theorem dX1_sumBetween_47 : decode cX1_sumBetween 47 = .ok (.iload 7, 2) := by decide +kernel
theorem dX1_sumBetween_49 : decode cX1_sumBetween 49 = .ok (.iload 8, 2) := by decide +kernel
theorem dX1_sumBetween_51 : decode cX1_sumBetween 51 = .ok (.if_icmp .gt 50, 3) := by decide +kernel
theorem dX1_sumBetween_54 : decode cX1_sumBetween 54 = .ok (.iload 9, 2) := by decide +kernel
theorem dX1_sumBetween_56 : decode cX1_sumBetween 56 = .ok (.iconst (-1), 1) := by decide +kernel
theorem dX1_sumBetween_57 : decode cX1_sumBetween 57 = .ok (.if_icmp .eq 44, 3) := by decide +kernel
theorem dX1_sumBetween_60 : decode cX1_sumBetween 60 = .ok (.aload_n 1, 1) := by decide +kernel
theorem dX1_sumBetween_61 : decode cX1_sumBetween 61 = .ok (.iload 9, 2) := by decide +kernel
theorem dX1_sumBetween_63 : decode cX1_sumBetween 63 = .ok (.iload 7, 2) := by decide +kernel
theorem dX1_sumBetween_65 : decode cX1_sumBetween 65 = .ok (.invokevirtual 50, 3) := by decide +kernel
theorem dX1_sumBetween_68 : decode cX1_sumBetween 68 = .ok (.i2l, 1) := by decide +kernel
theorem dX1_sumBetween_69 : decode cX1_sumBetween 69 = .ok (.aload_n 1, 1) := by decide +kernel
theorem dX1_sumBetween_70 : decode cX1_sumBetween 70 = .ok (.iload 9, 2) := by decide +kernel
theorem dX1_sumBetween_72 : decode cX1_sumBetween 72 = .ok (.iload 8, 2) := by decide +kernel
theorem dX1_sumBetween_74 : decode cX1_sumBetween 74 = .ok (.invokevirtual 50, 3) := by decide +kernel
theorem dX1_sumBetween_77 : decode cX1_sumBetween 77 = .ok (.i2l, 1) := by decide +kernel
theorem dX1_sumBetween_78 : decode cX1_sumBetween 78 = .ok (.ladd, 1) := by decide +kernel
theorem dX1_sumBetween_79 : decode cX1_sumBetween 79 = .ok (.lstore 10, 2) := by decide +kernel
theorem dX1_sumBetween_81 : decode cX1_sumBetween 81 = .ok (.lload 4, 2) := by decide +kernel
theorem dX1_sumBetween_83 : decode cX1_sumBetween 83 = .ok (.iload 8, 2) := by decide +kernel
theorem dX1_sumBetween_85 : decode cX1_sumBetween 85 = .ok (.iload 7, 2) := by decide +kernel
theorem dX1_sumBetween_87 : decode cX1_sumBetween 87 = .ok (.isub, 1) := by decide +kernel
theorem dX1_sumBetween_88 : decode cX1_sumBetween 88 = .ok (.iconst 1, 1) := by decide +kernel
theorem dX1_sumBetween_89 : decode cX1_sumBetween 89 = .ok (.iadd, 1) := by decide +kernel
theorem dX1_sumBetween_90 : decode cX1_sumBetween 90 = .ok (.i2l, 1) := by decide +kernel
theorem dX1_sumBetween_91 : decode cX1_sumBetween 91 = .ok (.lload 10, 2) := by decide +kernel
theorem dX1_sumBetween_93 : decode cX1_sumBetween 93 = .ok (.lmul, 1) := by decide +kernel
theorem dX1_sumBetween_94 : decode cX1_sumBetween 94 = .ok (.ldc2_w 53, 3) := by decide +kernel
theorem dX1_sumBetween_97 : decode cX1_sumBetween 97 = .ok (.ldiv, 1) := by decide +kernel
theorem dX1_sumBetween_98 : decode cX1_sumBetween 98 = .ok (.ladd, 1) := by decide +kernel
theorem dX1_sumBetween_99 : decode cX1_sumBetween 99 = .ok (.lstore 4, 2) := by decide +kernel
theorem dX1_sumBetween_101 : decode cX1_sumBetween 101 = .ok (.iinc 6 1, 3) := by decide +kernel
theorem dX1_sumBetween_104 : decode cX1_sumBetween 104 = .ok (.goto (-98), 3) := by decide +kernel
theorem dX1_sumBetween_107 : decode cX1_sumBetween 107 = .ok (.lload 4, 2) := by decide +kernel
theorem dX1_sumBetween_109 : decode cX1_sumBetween 109 = .ok (.lreturn, 1) := by decide +kernel
set_option maxRecDepth 20000 in
theorem ggX1_extremePosition_X1_leader : GoodIn wsX1_extremePosition wsX1_leader := goodIn_r _ [6, 7, 28, 29, 30] (by decide +kernel) (by decide +kernel)
set_option maxRecDepth 20000 in
theorem gX1_extremePosition_X1_leader : GoodIn wsX1_extremePosition (wsV RX1 39 RX1 yX1_leader wsX1_leader) := goodIn_app (goodIn_of _ (by decide +kernel)) ggX1_extremePosition_X1_leader
set_option maxRecDepth 20000 in
theorem ggX1_extremePosition_X6_value : GoodIn wsX1_extremePosition wsX6_value := goodIn_r _ [12, 13, 31, 32, 33] (by decide +kernel) (by decide +kernel)
set_option maxRecDepth 20000 in
theorem gX1_extremePosition_X6_value : GoodIn wsX1_extremePosition (wsV RX1 55 RX6 yX6_value wsX6_value) := goodIn_app (goodIn_of _ (by decide +kernel)) ggX1_extremePosition_X6_value
set_option maxRecDepth 20000 in
theorem ggX1_extremePosition_X1_last : GoodIn wsX1_extremePosition wsX1_last := goodIn_r _ [17, 18, 28, 29, 30] (by decide +kernel) (by decide +kernel)
set_option maxRecDepth 20000 in
theorem gX1_extremePosition_X1_last : GoodIn wsX1_extremePosition (wsV RX1 36 RX1 yX1_last wsX1_last) := goodIn_app (goodIn_of _ (by decide +kernel)) ggX1_extremePosition_X1_last
set_option maxRecDepth 20000 in
theorem ggX1_extremePosition_X1_first : GoodIn wsX1_extremePosition wsX1_first := goodIn_r _ [22, 14, 15, 16, 5, 17, 18, 28, 29, 30] (by decide +kernel) (by decide +kernel)
set_option maxRecDepth 20000 in
theorem gX1_extremePosition_X1_first : GoodIn wsX1_extremePosition (wsV RX1 32 RX1 yX1_first wsX1_first) := goodIn_app (goodIn_of _ (by decide +kernel)) ggX1_extremePosition_X1_first
set_option maxRecDepth 20000 in
theorem ggX1_extremePosition_X6_height : GoodIn wsX1_extremePosition wsX6_height := goodIn_r _ [26, 27, 9, 10, 11, 12, 13, 31, 32, 33] (by decide +kernel) (by decide +kernel)
set_option maxRecDepth 20000 in
theorem gX1_extremePosition_X6_height : GoodIn wsX1_extremePosition (wsV RX1 50 RX6 yX6_height wsX6_height) := goodIn_app (goodIn_of _ (by decide +kernel)) ggX1_extremePosition_X6_height
theorem dX1_extremePosition_0 : decode cX1_extremePosition 0 = .ok (.iconst (-1), 1) := by decide +kernel
theorem dX1_extremePosition_1 : decode cX1_extremePosition 1 = .ok (.istore_n 3, 1) := by decide +kernel
theorem dX1_extremePosition_2 : decode cX1_extremePosition 2 = .ok (.iconst 0, 1) := by decide +kernel
theorem dX1_extremePosition_3 : decode cX1_extremePosition 3 = .ok (.istore 4, 2) := by decide +kernel
theorem dX1_extremePosition_5 : decode cX1_extremePosition 5 = .ok (.iconst 0, 1) := by decide +kernel
theorem dX1_extremePosition_6 : decode cX1_extremePosition 6 = .ok (.istore 5, 2) := by decide +kernel
theorem dX1_extremePosition_8 : decode cX1_extremePosition 8 = .ok (.iload 5, 2) := by decide +kernel
theorem dX1_extremePosition_10 : decode cX1_extremePosition 10 = .ok (.aload_n 0, 1) := by decide +kernel
theorem dX1_extremePosition_11 : decode cX1_extremePosition 11 = .ok (.getfield 18, 3) := by decide +kernel
theorem dX1_extremePosition_14 : decode cX1_extremePosition 14 = .ok (.if_icmp .ge 126, 3) := by decide +kernel
theorem dX1_extremePosition_17 : decode cX1_extremePosition 17 = .ok (.aload_n 0, 1) := by decide +kernel
theorem dX1_extremePosition_18 : decode cX1_extremePosition 18 = .ok (.iload 5, 2) := by decide +kernel
theorem dX1_extremePosition_20 : decode cX1_extremePosition 20 = .ok (.invokevirtual 39, 3) := by decide +kernel
theorem dX1_extremePosition_23 : decode cX1_extremePosition 23 = .ok (.istore 6, 2) := by decide +kernel
theorem dX1_extremePosition_25 : decode cX1_extremePosition 25 = .ok (.iload 6, 2) := by decide +kernel
theorem dX1_extremePosition_27 : decode cX1_extremePosition 27 = .ok (.iconst (-1), 1) := by decide +kernel
theorem dX1_extremePosition_28 : decode cX1_extremePosition 28 = .ok (.if_icmp .eq 106, 3) := by decide +kernel
theorem dX1_extremePosition_31 : decode cX1_extremePosition 31 = .ok (.aload_n 1, 1) := by decide +kernel
theorem dX1_extremePosition_32 : decode cX1_extremePosition 32 = .ok (.iload 6, 2) := by decide +kernel
theorem dX1_extremePosition_34 : decode cX1_extremePosition 34 = .ok (.iconst 0, 1) := by decide +kernel
theorem dX1_extremePosition_35 : decode cX1_extremePosition 35 = .ok (.invokevirtual 55, 3) := by decide +kernel
theorem dX1_extremePosition_38 : decode cX1_extremePosition 38 = .ok (.istore 7, 2) := by decide +kernel
theorem dX1_extremePosition_40 : decode cX1_extremePosition 40 = .ok (.iload_n 2, 1) := by decide +kernel
theorem dX1_extremePosition_41 : decode cX1_extremePosition 41 = .ok (.ifCond .eq 16, 3) := by decide +kernel
theorem dX1_extremePosition_44 : decode cX1_extremePosition 44 = .ok (.iload 7, 2) := by decide +kernel
theorem dX1_extremePosition_46 : decode cX1_extremePosition 46 = .ok (.ifCond .le 7, 3) := by decide +kernel
theorem dX1_extremePosition_49 : decode cX1_extremePosition 49 = .ok (.iconst 1, 1) := by decide +kernel
theorem dX1_extremePosition_50 : decode cX1_extremePosition 50 = .ok (.goto 17, 3) := by decide +kernel
theorem dX1_extremePosition_53 : decode cX1_extremePosition 53 = .ok (.iconst 0, 1) := by decide +kernel
theorem dX1_extremePosition_54 : decode cX1_extremePosition 54 = .ok (.goto 13, 3) := by decide +kernel
theorem dX1_extremePosition_57 : decode cX1_extremePosition 57 = .ok (.iload 7, 2) := by decide +kernel
theorem dX1_extremePosition_59 : decode cX1_extremePosition 59 = .ok (.ifCond .ge 7, 3) := by decide +kernel
theorem dX1_extremePosition_62 : decode cX1_extremePosition 62 = .ok (.iconst 1, 1) := by decide +kernel
theorem dX1_extremePosition_63 : decode cX1_extremePosition 63 = .ok (.goto 4, 3) := by decide +kernel
theorem dX1_extremePosition_66 : decode cX1_extremePosition 66 = .ok (.iconst 0, 1) := by decide +kernel
theorem dX1_extremePosition_67 : decode cX1_extremePosition 67 = .ok (.istore 8, 2) := by decide +kernel
theorem dX1_extremePosition_69 : decode cX1_extremePosition 69 = .ok (.iload 8, 2) := by decide +kernel
theorem dX1_extremePosition_71 : decode cX1_extremePosition 71 = .ok (.ifCond .eq 12, 3) := by decide +kernel
theorem dX1_extremePosition_74 : decode cX1_extremePosition 74 = .ok (.aload_n 0, 1) := by decide +kernel
theorem dX1_extremePosition_75 : decode cX1_extremePosition 75 = .ok (.iload 5, 2) := by decide +kernel
theorem dX1_extremePosition_77 : decode cX1_extremePosition 77 = .ok (.invokevirtual 36, 3) := by decide +kernel
theorem dX1_extremePosition_80 : decode cX1_extremePosition 80 = .ok (.goto 9, 3) := by decide +kernel
theorem dX1_extremePosition_83 : decode cX1_extremePosition 83 = .ok (.aload_n 0, 1) := by decide +kernel
theorem dX1_extremePosition_84 : decode cX1_extremePosition 84 = .ok (.iload 5, 2) := by decide +kernel
theorem dX1_extremePosition_86 : decode cX1_extremePosition 86 = .ok (.invokevirtual 32, 3) := by decide +kernel
theorem dX1_extremePosition_89 : decode cX1_extremePosition 89 = .ok (.istore 9, 2) := by decide +kernel
theorem dX1_extremePosition_91 : decode cX1_extremePosition 91 = .ok (.aload_n 1, 1) := by decide +kernel
theorem dX1_extremePosition_92 : decode cX1_extremePosition 92 = .ok (.iload 6, 2) := by decide +kernel
theorem dX1_extremePosition_94 : decode cX1_extremePosition 94 = .ok (.iload 9, 2) := by decide +kernel
theorem dX1_extremePosition_96 : decode cX1_extremePosition 96 = .ok (.invokevirtual 50, 3) := by decide +kernel
theorem dX1_extremePosition_99 : decode cX1_extremePosition 99 = .ok (.istore 10, 2) := by decide +kernel
theorem dX1_extremePosition_101 : decode cX1_extremePosition 101 = .ok (.iload_n 3, 1) := by decide +kernel
theorem dX1_extremePosition_102 : decode cX1_extremePosition 102 = .ok (.iconst (-1), 1) := by decide +kernel
theorem dX1_extremePosition_103 : decode cX1_extremePosition 103 = .ok (.if_icmp .eq 24, 3) := by decide +kernel
theorem dX1_extremePosition_106 : decode cX1_extremePosition 106 = .ok (.iload_n 2, 1) := by decide +kernel
theorem dX1_extremePosition_107 : decode cX1_extremePosition 107 = .ok (.ifCond .eq 13, 3) := by decide +kernel
theorem dX1_extremePosition_110 : decode cX1_extremePosition 110 = .ok (.iload 10, 2) := by decide +kernel
theorem dX1_extremePosition_112 : decode cX1_extremePosition 112 = .ok (.iload 4, 2) := by decide +kernel
theorem dX1_extremePosition_114 : decode cX1_extremePosition 114 = .ok (.if_icmp .le 20, 3) := by decide +kernel
theorem dX1_extremePosition_117 : decode cX1_extremePosition 117 = .ok (.goto 10, 3) := by decide +kernel
theorem dX1_extremePosition_120 : decode cX1_extremePosition 120 = .ok (.iload 10, 2) := by decide +kernel
theorem dX1_extremePosition_122 : decode cX1_extremePosition 122 = .ok (.iload 4, 2) := by decide +kernel
theorem dX1_extremePosition_124 : decode cX1_extremePosition 124 = .ok (.if_icmp .ge 10, 3) := by decide +kernel
theorem dX1_extremePosition_127 : decode cX1_extremePosition 127 = .ok (.iload 9, 2) := by decide +kernel
theorem dX1_extremePosition_129 : decode cX1_extremePosition 129 = .ok (.istore_n 3, 1) := by decide +kernel
theorem dX1_extremePosition_130 : decode cX1_extremePosition 130 = .ok (.iload 10, 2) := by decide +kernel
theorem dX1_extremePosition_132 : decode cX1_extremePosition 132 = .ok (.istore 4, 2) := by decide +kernel
theorem dX1_extremePosition_134 : decode cX1_extremePosition 134 = .ok (.iinc 5 1, 3) := by decide +kernel
theorem dX1_extremePosition_137 : decode cX1_extremePosition 137 = .ok (.goto (-129), 3) := by decide +kernel
theorem dX1_extremePosition_140 : decode cX1_extremePosition 140 = .ok (.iload_n 3, 1) := by decide +kernel
theorem dX1_extremePosition_141 : decode cX1_extremePosition 141 = .ok (.ireturn, 1) := by decide +kernel
set_option maxRecDepth 20000 in
theorem ggX1_mixedInto_X7_mixed : GoodIn wsX1_mixedInto wsX7_mixed := goodIn_r _ [4, 5] (by decide +kernel) (by decide +kernel)
set_option maxRecDepth 20000 in
theorem gX1_mixedInto_X7_mixed_n58 : GoodIn wsX1_mixedInto (wsX7_mixed) := ggX1_mixedInto_X7_mixed
set_option maxRecDepth 20000 in
theorem ggX1_mixedInto_X1_value : GoodIn wsX1_mixedInto wsX1_value := goodIn_r _ [10, 11, 12, 13, 9, 14, 15, 16, 17, 18, 19, 20, 21, 22, 23, 24, 25, 26, 27] (by decide +kernel) (by decide +kernel)
set_option maxRecDepth 20000 in
theorem gX1_mixedInto_X1_value : GoodIn wsX1_mixedInto (wsV RX1 62 RX1 yX1_value wsX1_value) := goodIn_app (goodIn_of _ (by decide +kernel)) ggX1_mixedInto_X1_value
theorem dX1_mixedInto_0 : decode cX1_mixedInto 0 = .ok (.lload_n 1, 1) := by decide +kernel
theorem dX1_mixedInto_1 : decode cX1_mixedInto 1 = .ok (.aload_n 0, 1) := by decide +kernel
theorem dX1_mixedInto_2 : decode cX1_mixedInto 2 = .ok (.getfield 18, 3) := by decide +kernel
theorem dX1_mixedInto_5 : decode cX1_mixedInto 5 = .ok (.i2l, 1) := by decide +kernel
theorem dX1_mixedInto_6 : decode cX1_mixedInto 6 = .ok (.invokestatic 58, 3) := by decide +kernel
theorem dX1_mixedInto_9 : decode cX1_mixedInto 9 = .ok (.lstore_n 1, 1) := by decide +kernel
theorem dX1_mixedInto_10 : decode cX1_mixedInto 10 = .ok (.iconst 0, 1) := by decide +kernel
theorem dX1_mixedInto_11 : decode cX1_mixedInto 11 = .ok (.istore_n 3, 1) := by decide +kernel
theorem dX1_mixedInto_12 : decode cX1_mixedInto 12 = .ok (.iload_n 3, 1) := by decide +kernel
theorem dX1_mixedInto_13 : decode cX1_mixedInto 13 = .ok (.aload_n 0, 1) := by decide +kernel
theorem dX1_mixedInto_14 : decode cX1_mixedInto 14 = .ok (.getfield 18, 3) := by decide +kernel
theorem dX1_mixedInto_17 : decode cX1_mixedInto 17 = .ok (.if_icmp .ge 37, 3) := by decide +kernel
theorem dX1_mixedInto_20 : decode cX1_mixedInto 20 = .ok (.iconst 0, 1) := by decide +kernel
theorem dX1_mixedInto_21 : decode cX1_mixedInto 21 = .ok (.istore 4, 2) := by decide +kernel
theorem dX1_mixedInto_23 : decode cX1_mixedInto 23 = .ok (.iload 4, 2) := by decide +kernel
theorem dX1_mixedInto_25 : decode cX1_mixedInto 25 = .ok (.iconst 3, 1) := by decide +kernel
theorem dX1_mixedInto_26 : decode cX1_mixedInto 26 = .ok (.if_icmp .ge 22, 3) := by decide +kernel
theorem dX1_mixedInto_29 : decode cX1_mixedInto 29 = .ok (.lload_n 1, 1) := by decide +kernel
theorem dX1_mixedInto_30 : decode cX1_mixedInto 30 = .ok (.aload_n 0, 1) := by decide +kernel
theorem dX1_mixedInto_31 : decode cX1_mixedInto 31 = .ok (.iload_n 3, 1) := by decide +kernel
theorem dX1_mixedInto_32 : decode cX1_mixedInto 32 = .ok (.iload 4, 2) := by decide +kernel
theorem dX1_mixedInto_34 : decode cX1_mixedInto 34 = .ok (.invokevirtual 62, 3) := by decide +kernel
theorem dX1_mixedInto_37 : decode cX1_mixedInto 37 = .ok (.i2l, 1) := by decide +kernel
theorem dX1_mixedInto_38 : decode cX1_mixedInto 38 = .ok (.invokestatic 58, 3) := by decide +kernel
theorem dX1_mixedInto_41 : decode cX1_mixedInto 41 = .ok (.lstore_n 1, 1) := by decide +kernel
theorem dX1_mixedInto_42 : decode cX1_mixedInto 42 = .ok (.iinc 4 1, 3) := by decide +kernel
theorem dX1_mixedInto_45 : decode cX1_mixedInto 45 = .ok (.goto (-22), 3) := by decide +kernel
theorem dX1_mixedInto_48 : decode cX1_mixedInto 48 = .ok (.iinc 3 1, 3) := by decide +kernel
theorem dX1_mixedInto_51 : decode cX1_mixedInto 51 = .ok (.goto (-39), 3) := by decide +kernel
theorem dX1_mixedInto_54 : decode cX1_mixedInto 54 = .ok (.lload_n 1, 1) := by decide +kernel
theorem dX1_mixedInto_55 : decode cX1_mixedInto 55 = .ok (.lreturn, 1) := by decide +kernel
set_option maxRecDepth 20000 in
theorem ggX2_init_X5_init : GoodIn wsX2_init wsX5_init := goodIn_r _ [10, 11, 2, 3, 12, 13, 14, 15, 16, 17, 18, 19, 20, 21, 22, 23, 24, 25, 26, 27, 28, 29, 30, 31, 39, 40, 41, 35, 36, 37, 38, 42, 43] (by decide +kernel) (by decide +kernel)
set_option maxRecDepth 20000 in
theorem gX2_init_X5_init : GoodIn wsX2_init (wsX5_init) := ggX2_init_X5_init
theorem dX2_init_0 : decode cX2_init 0 = .ok (.aload_n 0, 1) := by decide +kernel
theorem dX2_init_1 : decode cX2_init 1 = .ok (.invokespecial 3, 3) := by decide +kernel
theorem dX2_init_4 : decode cX2_init 4 = .ok (.aload_n 0, 1) := by decide +kernel
theorem dX2_init_5 : decode cX2_init 5 = .ok (.iconst 5, 1) := by decide +kernel
theorem dX2_init_6 : decode cX2_init 6 = .ok (.anewarray 11, 3) := by decide +kernel
theorem dX2_init_9 : decode cX2_init 9 = .ok (.putfield 13, 3) := by decide +kernel
theorem dX2_init_12 : decode cX2_init 12 = .ok (.iconst 0, 1) := by decide +kernel
theorem dX2_init_13 : decode cX2_init 13 = .ok (.istore_n 1, 1) := by decide +kernel
theorem dX2_init_14 : decode cX2_init 14 = .ok (.iload_n 1, 1) := by decide +kernel
theorem dX2_init_15 : decode cX2_init 15 = .ok (.aload_n 0, 1) := by decide +kernel
theorem dX2_init_16 : decode cX2_init 16 = .ok (.getfield 13, 3) := by decide +kernel
theorem dX2_init_19 : decode cX2_init 19 = .ok (.arraylength, 1) := by decide +kernel
theorem dX2_init_20 : decode cX2_init 20 = .ok (.if_icmp .ge 22, 3) := by decide +kernel
theorem dX2_init_23 : decode cX2_init 23 = .ok (.aload_n 0, 1) := by decide +kernel
theorem dX2_init_24 : decode cX2_init 24 = .ok (.getfield 13, 3) := by decide +kernel
theorem dX2_init_27 : decode cX2_init 27 = .ok (.iload_n 1, 1) := by decide +kernel
theorem dX2_init_28 : decode cX2_init 28 = .ok (.new 11, 3) := by decide +kernel
theorem dX2_init_31 : decode cX2_init 31 = .ok (.dup, 1) := by decide +kernel
theorem dX2_init_32 : decode cX2_init 32 = .ok (.invokespecial 17, 3) := by decide +kernel
theorem dX2_init_35 : decode cX2_init 35 = .ok (.aastore, 1) := by decide +kernel
theorem dX2_init_36 : decode cX2_init 36 = .ok (.iinc 1 1, 3) := by decide +kernel
theorem dX2_init_39 : decode cX2_init 39 = .ok (.goto (-25), 3) := by decide +kernel
theorem dX2_init_42 : decode cX2_init 42 = .ok (.return_, 1) := by decide +kernel
set_option maxRecDepth 20000 in
theorem ggX2_freeSlot_J9_floorMod_7cf53 : GoodIn wsX2_freeSlot wsJ9_floorMod_7cf53 := goodIn_r _ [7] (by decide +kernel) (by decide +kernel)
set_option maxRecDepth 20000 in
theorem gX2_freeSlot_J9_floorMod_7cf53 : GoodIn wsX2_freeSlot (va_wsS RX2 25 yJ9_floorMod_7cf53 wsJ9_floorMod_7cf53) := goodIn_app (goodIn_of _ (by decide +kernel)) ggX2_freeSlot_J9_floorMod_7cf53
theorem dX2_freeSlot_0 : decode cX2_freeSlot 0 = .ok (.aload_n 0, 1) := by decide +kernel
theorem dX2_freeSlot_1 : decode cX2_freeSlot 1 = .ok (.getfield 13, 3) := by decide +kernel
theorem dX2_freeSlot_4 : decode cX2_freeSlot 4 = .ok (.aload_n 0, 1) := by decide +kernel
theorem dX2_freeSlot_5 : decode cX2_freeSlot 5 = .ok (.getfield 18, 3) := by decide +kernel
theorem dX2_freeSlot_8 : decode cX2_freeSlot 8 = .ok (.aload_n 0, 1) := by decide +kernel
theorem dX2_freeSlot_9 : decode cX2_freeSlot 9 = .ok (.getfield 22, 3) := by decide +kernel
theorem dX2_freeSlot_12 : decode cX2_freeSlot 12 = .ok (.iadd, 1) := by decide +kernel
theorem dX2_freeSlot_13 : decode cX2_freeSlot 13 = .ok (.iconst 5, 1) := by decide +kernel
theorem dX2_freeSlot_14 : decode cX2_freeSlot 14 = .ok (.invokestatic 25, 3) := by decide +kernel
theorem dX2_freeSlot_17 : decode cX2_freeSlot 17 = .ok (.aaload, 1) := by decide +kernel
theorem dX2_freeSlot_18 : decode cX2_freeSlot 18 = .ok (.areturn, 1) := by decide +kernel
set_option maxRecDepth 20000 in
theorem ggX2_keep_X2_freeSlot : GoodIn wsX2_keep wsX2_freeSlot := goodIn_r _ [5, 6, 7, 8, 9, 10, 11, 12, 51, 52, 53] (by decide +kernel) (by decide +kernel)
set_option maxRecDepth 20000 in
theorem gX2_keep_X2_freeSlot : GoodIn wsX2_keep (wsV RX2 31 RX2 yX2_freeSlot wsX2_freeSlot) := goodIn_app (goodIn_of _ (by decide +kernel)) ggX2_keep_X2_freeSlot
set_option maxRecDepth 20000 in
theorem ggX2_keep_X5_copyFrom : GoodIn wsX2_keep wsX5_copyFrom := goodIn_r _ [17, 18, 19, 20, 21, 22, 23, 24, 25, 26, 27, 28, 29, 30, 31, 32, 33, 34, 35, 36, 37, 38, 39, 40, 41, 42, 43, 44, 45, 46, 47, 48, 49, 50, 54, 55, 56, 57, 58, 59, 60, 61, 62] (by decide +kernel) (by decide +kernel)
set_option maxRecDepth 20000 in
theorem gX2_keep_X5_copyFrom : GoodIn wsX2_keep (wsV RX2 35 RX5 yX5_copyFrom wsX5_copyFrom) := goodIn_app (goodIn_of _ (by decide +kernel)) ggX2_keep_X5_copyFrom
theorem dX2_keep_0 : decode cX2_keep 0 = .ok (.aload_n 0, 1) := by decide +kernel
theorem dX2_keep_1 : decode cX2_keep 1 = .ok (.invokevirtual 31, 3) := by decide +kernel
theorem dX2_keep_4 : decode cX2_keep 4 = .ok (.aload_n 1, 1) := by decide +kernel
theorem dX2_keep_5 : decode cX2_keep 5 = .ok (.invokevirtual 35, 3) := by decide +kernel
theorem dX2_keep_8 : decode cX2_keep 8 = .ok (.return_, 1) := by decide +kernel
set_option maxRecDepth 20000 in
theorem ggX2_bringBack_X2_freeSlot : GoodIn wsX2_bringBack wsX2_freeSlot := goodIn_r _ [5, 6, 7, 8, 9, 10, 11, 12, 51, 52, 53] (by decide +kernel) (by decide +kernel)
set_option maxRecDepth 20000 in
theorem gX2_bringBack_X2_freeSlot : GoodIn wsX2_bringBack (wsV RX2 31 RX2 yX2_freeSlot wsX2_freeSlot) := goodIn_app (goodIn_of _ (by decide +kernel)) ggX2_bringBack_X2_freeSlot
set_option maxRecDepth 20000 in
theorem ggX2_bringBack_X5_copyFrom : GoodIn wsX2_bringBack wsX5_copyFrom := goodIn_r _ [17, 18, 19, 20, 21, 22, 23, 24, 25, 26, 27, 28, 29, 30, 31, 32, 33, 34, 35, 36, 37, 38, 39, 40, 41, 42, 43, 44, 45, 46, 47, 48, 49, 50, 54, 55, 56, 57, 58, 59, 60, 61, 62] (by decide +kernel) (by decide +kernel)
set_option maxRecDepth 20000 in
theorem gX2_bringBack_X5_copyFrom : GoodIn wsX2_bringBack (wsV RX2 35 RX5 yX5_copyFrom wsX5_copyFrom) := goodIn_app (goodIn_of _ (by decide +kernel)) ggX2_bringBack_X5_copyFrom
theorem dX2_bringBack_0 : decode cX2_bringBack 0 = .ok (.aload_n 1, 1) := by decide +kernel
theorem dX2_bringBack_1 : decode cX2_bringBack 1 = .ok (.aload_n 0, 1) := by decide +kernel
theorem dX2_bringBack_2 : decode cX2_bringBack 2 = .ok (.invokevirtual 31, 3) := by decide +kernel
theorem dX2_bringBack_5 : decode cX2_bringBack 5 = .ok (.invokevirtual 35, 3) := by decide +kernel
theorem dX2_bringBack_8 : decode cX2_bringBack 8 = .ok (.return_, 1) := by decide +kernel
theorem dX2_confirm_0 : decode cX2_confirm 0 = .ok (.aload_n 0, 1) := by decide +kernel
theorem dX2_confirm_1 : decode cX2_confirm 1 = .ok (.getfield 22, 3) := by decide +kernel
theorem dX2_confirm_4 : decode cX2_confirm 4 = .ok (.iconst 4, 1) := by decide +kernel
theorem dX2_confirm_5 : decode cX2_confirm 5 = .ok (.if_icmp .ge 16, 3) := by decide +kernel
theorem dX2_confirm_8 : decode cX2_confirm 8 = .ok (.aload_n 0, 1) := by decide +kernel
theorem dX2_confirm_9 : decode cX2_confirm 9 = .ok (.dup, 1) := by decide +kernel
theorem dX2_confirm_10 : decode cX2_confirm 10 = .ok (.getfield 22, 3) := by decide +kernel
theorem dX2_confirm_13 : decode cX2_confirm 13 = .ok (.iconst 1, 1) := by decide +kernel
theorem dX2_confirm_14 : decode cX2_confirm 14 = .ok (.iadd, 1) := by decide +kernel
theorem dX2_confirm_15 : decode cX2_confirm 15 = .ok (.putfield 22, 3) := by decide +kernel
theorem dX2_confirm_18 : decode cX2_confirm 18 = .ok (.goto 15, 3) := by decide +kernel
theorem dX2_confirm_21 : decode cX2_confirm 21 = .ok (.aload_n 0, 1) := by decide +kernel
theorem dX2_confirm_22 : decode cX2_confirm 22 = .ok (.aload_n 0, 1) := by decide +kernel
theorem dX2_confirm_23 : decode cX2_confirm 23 = .ok (.getfield 18, 3) := by decide +kernel
theorem dX2_confirm_26 : decode cX2_confirm 26 = .ok (.iconst 1, 1) := by decide +kernel
theorem dX2_confirm_27 : decode cX2_confirm 27 = .ok (.iadd, 1) := by decide +kernel
theorem dX2_confirm_28 : decode cX2_confirm 28 = .ok (.iconst 5, 1) := by decide +kernel
theorem dX2_confirm_29 : decode cX2_confirm 29 = .ok (.irem, 1) := by decide +kernel
theorem dX2_confirm_30 : decode cX2_confirm 30 = .ok (.putfield 18, 3) := by decide +kernel
theorem dX2_confirm_33 : decode cX2_confirm 33 = .ok (.return_, 1) := by decide +kernel
set_option maxRecDepth 20000 in
theorem ggX2_takeBack_X2_bringBack : GoodIn wsX2_takeBack wsX2_bringBack := goodIn_r _ [6, 7, 8, 9, 5, 10, 11, 12, 1, 13, 14, 15, 16, 17, 18, 19, 20, 21, 22, 23, 24, 25, 26, 27, 28, 29, 30, 31, 32, 33, 34, 35, 36, 37, 38, 39, 40, 41, 42, 43, 44, 45, 46, 47, 48, 49, 50, 51, 52, 53, 54, 55, 56, 57, 58, 59, 60, 61, 62, 63, 64, 65, 66] (by decide +kernel) (by decide +kernel)
set_option maxRecDepth 20000 in
theorem gX2_takeBack_X2_bringBack : GoodIn wsX2_takeBack (wsV RX2 39 RX2 yX2_bringBack wsX2_bringBack) := goodIn_app (goodIn_of _ (by decide +kernel)) ggX2_takeBack_X2_bringBack
theorem dX2_takeBack_0 : decode cX2_takeBack 0 = .ok (.aload_n 0, 1) := by decide +kernel
theorem dX2_takeBack_1 : decode cX2_takeBack 1 = .ok (.dup, 1) := by decide +kernel
theorem dX2_takeBack_2 : decode cX2_takeBack 2 = .ok (.getfield 22, 3) := by decide +kernel
theorem dX2_takeBack_5 : decode cX2_takeBack 5 = .ok (.iconst 1, 1) := by decide +kernel
theorem dX2_takeBack_6 : decode cX2_takeBack 6 = .ok (.isub, 1) := by decide +kernel
theorem dX2_takeBack_7 : decode cX2_takeBack 7 = .ok (.putfield 22, 3) := by decide +kernel
theorem dX2_takeBack_10 : decode cX2_takeBack 10 = .ok (.aload_n 0, 1) := by decide +kernel
theorem dX2_takeBack_11 : decode cX2_takeBack 11 = .ok (.aload_n 1, 1) := by decide +kernel
theorem dX2_takeBack_12 : decode cX2_takeBack 12 = .ok (.invokevirtual 39, 3) := by decide +kernel
theorem dX2_takeBack_15 : decode cX2_takeBack 15 = .ok (.aload_n 0, 1) := by decide +kernel
theorem dX2_takeBack_16 : decode cX2_takeBack 16 = .ok (.getfield 22, 3) := by decide +kernel
theorem dX2_takeBack_19 : decode cX2_takeBack 19 = .ok (.ireturn, 1) := by decide +kernel
theorem dX3_init_0 : decode cX3_init 0 = .ok (.aload_n 0, 1) := by decide +kernel
theorem dX3_init_1 : decode cX3_init 1 = .ok (.invokespecial 3, 3) := by decide +kernel
theorem dX3_init_4 : decode cX3_init 4 = .ok (.aload_n 0, 1) := by decide +kernel
theorem dX3_init_5 : decode cX3_init 5 = .ok (.sipush 180, 3) := by decide +kernel
theorem dX3_init_8 : decode cX3_init 8 = .ok (.newarray .int, 2) := by decide +kernel
theorem dX3_init_10 : decode cX3_init 10 = .ok (.putfield 9, 3) := by decide +kernel
theorem dX3_init_13 : decode cX3_init 13 = .ok (.return_, 1) := by decide +kernel
theorem dX3_copyFrom_0 : decode cX3_copyFrom 0 = .ok (.aload_n 0, 1) := by decide +kernel
theorem dX3_copyFrom_1 : decode cX3_copyFrom 1 = .ok (.iconst 0, 1) := by decide +kernel
theorem dX3_copyFrom_2 : decode cX3_copyFrom 2 = .ok (.aload_n 1, 1) := by decide +kernel
theorem dX3_copyFrom_3 : decode cX3_copyFrom 3 = .ok (.getfield 15, 3) := by decide +kernel
theorem dX3_copyFrom_6 : decode cX3_copyFrom 6 = .ok (.bipush 30, 2) := by decide +kernel
theorem dX3_copyFrom_8 : decode cX3_copyFrom 8 = .ok (.invokestatic 19, 3) := by decide +kernel
theorem dX3_copyFrom_11 : decode cX3_copyFrom 11 = .ok (.invokestatic 25, 3) := by decide +kernel
theorem dX3_copyFrom_14 : decode cX3_copyFrom 14 = .ok (.putfield 15, 3) := by decide +kernel
theorem dX3_copyFrom_17 : decode cX3_copyFrom 17 = .ok (.aload_n 1, 1) := by decide +kernel
theorem dX3_copyFrom_18 : decode cX3_copyFrom 18 = .ok (.getfield 9, 3) := by decide +kernel
theorem dX3_copyFrom_21 : decode cX3_copyFrom 21 = .ok (.iconst 0, 1) := by decide +kernel
theorem dX3_copyFrom_22 : decode cX3_copyFrom 22 = .ok (.aload_n 0, 1) := by decide +kernel
theorem dX3_copyFrom_23 : decode cX3_copyFrom 23 = .ok (.getfield 9, 3) := by decide +kernel
theorem dX3_copyFrom_26 : decode cX3_copyFrom 26 = .ok (.iconst 0, 1) := by decide +kernel
theorem dX3_copyFrom_27 : decode cX3_copyFrom 27 = .ok (.aload_n 0, 1) := by decide +kernel
theorem dX3_copyFrom_28 : decode cX3_copyFrom 28 = .ok (.getfield 15, 3) := by decide +kernel
theorem dX3_copyFrom_31 : decode cX3_copyFrom 31 = .ok (.bipush 6, 2) := by decide +kernel
theorem dX3_copyFrom_33 : decode cX3_copyFrom 33 = .ok (.imul, 1) := by decide +kernel
theorem dX3_copyFrom_34 : decode cX3_copyFrom 34 = .ok (.invokestatic 28, 3) := by decide +kernel
theorem dX3_copyFrom_37 : decode cX3_copyFrom 37 = .ok (.return_, 1) := by decide +kernel
theorem dX3_isFull_0 : decode cX3_isFull 0 = .ok (.aload_n 0, 1) := by decide +kernel
theorem dX3_isFull_1 : decode cX3_isFull 1 = .ok (.getfield 15, 3) := by decide +kernel
theorem dX3_isFull_4 : decode cX3_isFull 4 = .ok (.bipush 30, 2) := by decide +kernel
theorem dX3_isFull_6 : decode cX3_isFull 6 = .ok (.if_icmp .lt 7, 3) := by decide +kernel
theorem dX3_isFull_9 : decode cX3_isFull 9 = .ok (.iconst 1, 1) := by decide +kernel
theorem dX3_isFull_10 : decode cX3_isFull 10 = .ok (.goto 4, 3) := by decide +kernel
theorem dX3_isFull_13 : decode cX3_isFull 13 = .ok (.iconst 0, 1) := by decide +kernel
theorem dX3_isFull_14 : decode cX3_isFull 14 = .ok (.ireturn, 1) := by decide +kernel
theorem dX3_value_0 : decode cX3_value 0 = .ok (.iload_n 1, 1) := by decide +kernel
theorem dX3_value_1 : decode cX3_value 1 = .ok (.bipush 6, 2) := by decide +kernel
theorem dX3_value_3 : decode cX3_value 3 = .ok (.imul, 1) := by decide +kernel
theorem dX3_value_4 : decode cX3_value 4 = .ok (.iload_n 2, 1) := by decide +kernel
theorem dX3_value_5 : decode cX3_value 5 = .ok (.iadd, 1) := by decide +kernel
theorem dX3_value_6 : decode cX3_value 6 = .ok (.istore_n 3, 1) := by decide +kernel
theorem dX3_value_7 : decode cX3_value 7 = .ok (.iload_n 3, 1) := by decide +kernel
theorem dX3_value_8 : decode cX3_value 8 = .ok (.ifCond .lt 21, 3) := by decide +kernel
theorem dX3_value_11 : decode cX3_value 11 = .ok (.iload_n 3, 1) := by decide +kernel
theorem dX3_value_12 : decode cX3_value 12 = .ok (.aload_n 0, 1) := by decide +kernel
theorem dX3_value_13 : decode cX3_value 13 = .ok (.getfield 9, 3) := by decide +kernel
theorem dX3_value_16 : decode cX3_value 16 = .ok (.arraylength, 1) := by decide +kernel
theorem dX3_value_17 : decode cX3_value 17 = .ok (.if_icmp .ge 12, 3) := by decide +kernel
theorem dX3_value_20 : decode cX3_value 20 = .ok (.aload_n 0, 1) := by decide +kernel
theorem dX3_value_21 : decode cX3_value 21 = .ok (.getfield 9, 3) := by decide +kernel
theorem dX3_value_24 : decode cX3_value 24 = .ok (.iload_n 3, 1) := by decide +kernel
theorem dX3_value_25 : decode cX3_value 25 = .ok (.iaload, 1) := by decide +kernel
theorem dX3_value_26 : decode cX3_value 26 = .ok (.goto 4, 3) := by decide +kernel
theorem dX3_value_29 : decode cX3_value 29 = .ok (.iconst 0, 1) := by decide +kernel
theorem dX3_value_30 : decode cX3_value 30 = .ok (.ireturn, 1) := by decide +kernel
theorem dX3_set_0 : decode cX3_set 0 = .ok (.iload_n 1, 1) := by decide +kernel
theorem dX3_set_1 : decode cX3_set 1 = .ok (.bipush 6, 2) := by decide +kernel
theorem dX3_set_3 : decode cX3_set 3 = .ok (.imul, 1) := by decide +kernel
theorem dX3_set_4 : decode cX3_set 4 = .ok (.iload_n 2, 1) := by decide +kernel
theorem dX3_set_5 : decode cX3_set 5 = .ok (.iadd, 1) := by decide +kernel
theorem dX3_set_6 : decode cX3_set 6 = .ok (.istore 4, 2) := by decide +kernel
theorem dX3_set_8 : decode cX3_set 8 = .ok (.iload 4, 2) := by decide +kernel
theorem dX3_set_10 : decode cX3_set 10 = .ok (.ifCond .lt 21, 3) := by decide +kernel
theorem dX3_set_13 : decode cX3_set 13 = .ok (.iload 4, 2) := by decide +kernel
theorem dX3_set_15 : decode cX3_set 15 = .ok (.aload_n 0, 1) := by decide +kernel
theorem dX3_set_16 : decode cX3_set 16 = .ok (.getfield 9, 3) := by decide +kernel
theorem dX3_set_19 : decode cX3_set 19 = .ok (.arraylength, 1) := by decide +kernel
theorem dX3_set_20 : decode cX3_set 20 = .ok (.if_icmp .ge 11, 3) := by decide +kernel
theorem dX3_set_23 : decode cX3_set 23 = .ok (.aload_n 0, 1) := by decide +kernel
theorem dX3_set_24 : decode cX3_set 24 = .ok (.getfield 9, 3) := by decide +kernel
theorem dX3_set_27 : decode cX3_set 27 = .ok (.iload 4, 2) := by decide +kernel
theorem dX3_set_29 : decode cX3_set 29 = .ok (.iload_n 3, 1) := by decide +kernel
theorem dX3_set_30 : decode cX3_set 30 = .ok (.iastore, 1) := by decide +kernel
theorem dX3_set_31 : decode cX3_set 31 = .ok (.return_, 1) := by decide +kernel
set_option maxRecDepth 20000 in
theorem ggX3_insert_X3_set : GoodIn wsX3_insert wsX3_set := goodIn_r _ [6, 7, 8, 9] (by decide +kernel) (by decide +kernel)
set_option maxRecDepth 20000 in
theorem gX3_insert_X3_set : GoodIn wsX3_insert (wsV RX3 34 RX3 yX3_set wsX3_set) := goodIn_app (goodIn_of _ (by decide +kernel)) ggX3_insert_X3_set
theorem dX3_insert_0 : decode cX3_insert 0 = .ok (.aload_n 0, 1) := by decide +kernel
theorem dX3_insert_1 : decode cX3_insert 1 = .ok (.getfield 15, 3) := by decide +kernel
theorem dX3_insert_4 : decode cX3_insert 4 = .ok (.istore_n 3, 1) := by decide +kernel
theorem dX3_insert_5 : decode cX3_insert 5 = .ok (.aload_n 0, 1) := by decide +kernel
theorem dX3_insert_6 : decode cX3_insert 6 = .ok (.iload_n 3, 1) := by decide +kernel
theorem dX3_insert_7 : decode cX3_insert 7 = .ok (.iconst 0, 1) := by decide +kernel
theorem dX3_insert_8 : decode cX3_insert 8 = .ok (.iload_n 1, 1) := by decide +kernel
theorem dX3_insert_9 : decode cX3_insert 9 = .ok (.invokevirtual 34, 3) := by decide +kernel
theorem dX3_insert_12 : decode cX3_insert 12 = .ok (.aload_n 0, 1) := by decide +kernel
theorem dX3_insert_13 : decode cX3_insert 13 = .ok (.iload_n 3, 1) := by decide +kernel
theorem dX3_insert_14 : decode cX3_insert 14 = .ok (.iconst 1, 1) := by decide +kernel
theorem dX3_insert_15 : decode cX3_insert 15 = .ok (.iload_n 2, 1) := by decide +kernel
theorem dX3_insert_16 : decode cX3_insert 16 = .ok (.invokevirtual 34, 3) := by decide +kernel
theorem dX3_insert_19 : decode cX3_insert 19 = .ok (.aload_n 0, 1) := by decide +kernel
theorem dX3_insert_20 : decode cX3_insert 20 = .ok (.iload_n 3, 1) := by decide +kernel
theorem dX3_insert_21 : decode cX3_insert 21 = .ok (.iconst 2, 1) := by decide +kernel
theorem dX3_insert_22 : decode cX3_insert 22 = .ok (.iconst 0, 1) := by decide +kernel
theorem dX3_insert_23 : decode cX3_insert 23 = .ok (.invokevirtual 34, 3) := by decide +kernel
theorem dX3_insert_26 : decode cX3_insert 26 = .ok (.aload_n 0, 1) := by decide +kernel
theorem dX3_insert_27 : decode cX3_insert 27 = .ok (.dup, 1) := by decide +kernel
theorem dX3_insert_28 : decode cX3_insert 28 = .ok (.getfield 15, 3) := by decide +kernel
theorem dX3_insert_31 : decode cX3_insert 31 = .ok (.iconst 1, 1) := by decide +kernel
theorem dX3_insert_32 : decode cX3_insert 32 = .ok (.iadd, 1) := by decide +kernel
theorem dX3_insert_33 : decode cX3_insert 33 = .ok (.putfield 15, 3) := by decide +kernel
theorem dX3_insert_36 : decode cX3_insert 36 = .ok (.iload_n 3, 1) := by decide +kernel
theorem dX3_insert_37 : decode cX3_insert 37 = .ok (.ireturn, 1) := by decide +kernel
theorem dX3_removeAll_0 : decode cX3_removeAll 0 = .ok (.aload_n 0, 1) := by decide +kernel
theorem dX3_removeAll_1 : decode cX3_removeAll 1 = .ok (.getfield 15, 3) := by decide +kernel
theorem dX3_removeAll_4 : decode cX3_removeAll 4 = .ok (.istore_n 1, 1) := by decide +kernel
theorem dX3_removeAll_5 : decode cX3_removeAll 5 = .ok (.aload_n 0, 1) := by decide +kernel
theorem dX3_removeAll_6 : decode cX3_removeAll 6 = .ok (.iconst 0, 1) := by decide +kernel
theorem dX3_removeAll_7 : decode cX3_removeAll 7 = .ok (.putfield 15, 3) := by decide +kernel
theorem dX3_removeAll_10 : decode cX3_removeAll 10 = .ok (.iload_n 1, 1) := by decide +kernel
theorem dX3_removeAll_11 : decode cX3_removeAll 11 = .ok (.ireturn, 1) := by decide +kernel
set_option maxRecDepth 20000 in
theorem ggX3_answerAll_X3_value : GoodIn wsX3_answerAll wsX3_value := goodIn_r _ [7, 8, 45, 46] (by decide +kernel) (by decide +kernel)
set_option maxRecDepth 20000 in
theorem gX3_answerAll_X3_value : GoodIn wsX3_answerAll (wsV RX3 38 RX3 yX3_value wsX3_value) := goodIn_app (goodIn_of _ (by decide +kernel)) ggX3_answerAll_X3_value
set_option maxRecDepth 20000 in
theorem ggX3_answerAll_X6_firstAt : GoodIn wsX3_answerAll wsX6_firstAt := goodIn_r _ [13, 14, 15, 16, 17, 12, 18, 19, 20, 21, 22, 23, 24, 25, 26, 27, 28, 29, 30, 31, 32, 33, 34, 35, 47, 48, 49] (by decide +kernel) (by decide +kernel)
set_option maxRecDepth 20000 in
theorem gX3_answerAll_X6_firstAt : GoodIn wsX3_answerAll (wsV RX3 41 RX6 yX6_firstAt wsX6_firstAt) := goodIn_app (goodIn_of _ (by decide +kernel)) ggX3_answerAll_X6_firstAt
set_option maxRecDepth 20000 in
theorem ggX3_answerAll_X3_set : GoodIn wsX3_answerAll wsX3_set := goodIn_r _ [39, 8, 45, 46] (by decide +kernel) (by decide +kernel)
set_option maxRecDepth 20000 in
theorem gX3_answerAll_X3_set : GoodIn wsX3_answerAll (wsV RX3 34 RX3 yX3_set wsX3_set) := goodIn_app (goodIn_of _ (by decide +kernel)) ggX3_answerAll_X3_set
set_option maxRecDepth 20000 in
theorem ggX3_answerAll_X6_height : GoodIn wsX3_answerAll wsX6_height := goodIn_r _ [35, 23, 24, 25, 12, 26, 27, 47, 48, 49] (by decide +kernel) (by decide +kernel)
set_option maxRecDepth 20000 in
theorem gX3_answerAll_X6_height : GoodIn wsX3_answerAll (wsV RX3 46 RX6 yX6_height wsX6_height) := goodIn_app (goodIn_of _ (by decide +kernel)) ggX3_answerAll_X6_height
set_option maxRecDepth 20000 in
theorem ggX3_answerAll_X6_countBelow : GoodIn wsX3_answerAll wsX6_countBelow := goodIn_r _ [44, 14, 15, 16, 17, 12, 18, 19, 20, 21, 22, 23, 24, 25, 26, 27, 28, 29, 30, 31, 32, 33, 34, 35, 47, 48, 49] (by decide +kernel) (by decide +kernel)
set_option maxRecDepth 20000 in
theorem gX3_answerAll_X6_countBelow : GoodIn wsX3_answerAll (wsV RX3 53 RX6 yX6_countBelow wsX6_countBelow) := goodIn_app (goodIn_of _ (by decide +kernel)) ggX3_answerAll_X6_countBelow
theorem dX3_answerAll_0 : decode cX3_answerAll 0 = .ok (.iconst 0, 1) := by decide +kernel
theorem dX3_answerAll_1 : decode cX3_answerAll 1 = .ok (.istore_n 2, 1) := by decide +kernel
theorem dX3_answerAll_2 : decode cX3_answerAll 2 = .ok (.iconst 0, 1) := by decide +kernel
theorem dX3_answerAll_3 : decode cX3_answerAll 3 = .ok (.istore_n 3, 1) := by decide +kernel
theorem dX3_answerAll_4 : decode cX3_answerAll 4 = .ok (.iload_n 3, 1) := by decide +kernel
theorem dX3_answerAll_5 : decode cX3_answerAll 5 = .ok (.aload_n 0, 1) := by decide +kernel
theorem dX3_answerAll_6 : decode cX3_answerAll 6 = .ok (.getfield 15, 3) := by decide +kernel
theorem dX3_answerAll_9 : decode cX3_answerAll 9 = .ok (.if_icmp .ge 100, 3) := by decide +kernel
theorem dX3_answerAll_12 : decode cX3_answerAll 12 = .ok (.aload_n 0, 1) := by decide +kernel
theorem dX3_answerAll_13 : decode cX3_answerAll 13 = .ok (.iload_n 3, 1) := by decide +kernel
theorem dX3_answerAll_14 : decode cX3_answerAll 14 = .ok (.iconst 0, 1) := by decide +kernel
theorem dX3_answerAll_15 : decode cX3_answerAll 15 = .ok (.invokevirtual 38, 3) := by decide +kernel
theorem dX3_answerAll_18 : decode cX3_answerAll 18 = .ok (.istore 4, 2) := by decide +kernel
theorem dX3_answerAll_20 : decode cX3_answerAll 20 = .ok (.aload_n 0, 1) := by decide +kernel
theorem dX3_answerAll_21 : decode cX3_answerAll 21 = .ok (.iload_n 3, 1) := by decide +kernel
theorem dX3_answerAll_22 : decode cX3_answerAll 22 = .ok (.iconst 1, 1) := by decide +kernel
theorem dX3_answerAll_23 : decode cX3_answerAll 23 = .ok (.invokevirtual 38, 3) := by decide +kernel
theorem dX3_answerAll_26 : decode cX3_answerAll 26 = .ok (.istore 5, 2) := by decide +kernel
theorem dX3_answerAll_28 : decode cX3_answerAll 28 = .ok (.aload_n 1, 1) := by decide +kernel
theorem dX3_answerAll_29 : decode cX3_answerAll 29 = .ok (.iload 4, 2) := by decide +kernel
theorem dX3_answerAll_31 : decode cX3_answerAll 31 = .ok (.iload 5, 2) := by decide +kernel
theorem dX3_answerAll_33 : decode cX3_answerAll 33 = .ok (.invokevirtual 41, 3) := by decide +kernel
theorem dX3_answerAll_36 : decode cX3_answerAll 36 = .ok (.istore 6, 2) := by decide +kernel
theorem dX3_answerAll_38 : decode cX3_answerAll 38 = .ok (.aload_n 0, 1) := by decide +kernel
theorem dX3_answerAll_39 : decode cX3_answerAll 39 = .ok (.iload_n 3, 1) := by decide +kernel
theorem dX3_answerAll_40 : decode cX3_answerAll 40 = .ok (.iconst 2, 1) := by decide +kernel
theorem dX3_answerAll_41 : decode cX3_answerAll 41 = .ok (.iconst 1, 1) := by decide +kernel
theorem dX3_answerAll_42 : decode cX3_answerAll 42 = .ok (.invokevirtual 34, 3) := by decide +kernel
theorem dX3_answerAll_45 : decode cX3_answerAll 45 = .ok (.aload_n 0, 1) := by decide +kernel
theorem dX3_answerAll_46 : decode cX3_answerAll 46 = .ok (.iload_n 3, 1) := by decide +kernel
theorem dX3_answerAll_47 : decode cX3_answerAll 47 = .ok (.iconst 3, 1) := by decide +kernel
theorem dX3_answerAll_48 : decode cX3_answerAll 48 = .ok (.iload 6, 2) := by decide +kernel
theorem dX3_answerAll_50 : decode cX3_answerAll 50 = .ok (.iconst (-1), 1) := by decide +kernel
theorem dX3_answerAll_51 : decode cX3_answerAll 51 = .ok (.if_icmp .ne 7, 3) := by decide +kernel
theorem dX3_answerAll_54 : decode cX3_answerAll 54 = .ok (.iconst 0, 1) := by decide +kernel
theorem dX3_answerAll_55 : decode cX3_answerAll 55 = .ok (.goto 11, 3) := by decide +kernel
theorem dX3_answerAll_58 : decode cX3_answerAll 58 = .ok (.aload_n 1, 1) := by decide +kernel
theorem dX3_answerAll_59 : decode cX3_answerAll 59 = .ok (.iload 6, 2) := by decide +kernel
theorem dX3_answerAll_61 : decode cX3_answerAll 61 = .ok (.iload 4, 2) := by decide +kernel
theorem dX3_answerAll_63 : decode cX3_answerAll 63 = .ok (.invokevirtual 46, 3) := by decide +kernel
theorem dX3_answerAll_66 : decode cX3_answerAll 66 = .ok (.invokevirtual 34, 3) := by decide +kernel
theorem dX3_answerAll_69 : decode cX3_answerAll 69 = .ok (.aload_n 0, 1) := by decide +kernel
theorem dX3_answerAll_70 : decode cX3_answerAll 70 = .ok (.iload_n 3, 1) := by decide +kernel
theorem dX3_answerAll_71 : decode cX3_answerAll 71 = .ok (.iconst 4, 1) := by decide +kernel
theorem dX3_answerAll_72 : decode cX3_answerAll 72 = .ok (.iload 6, 2) := by decide +kernel
theorem dX3_answerAll_74 : decode cX3_answerAll 74 = .ok (.invokevirtual 34, 3) := by decide +kernel
theorem dX3_answerAll_77 : decode cX3_answerAll 77 = .ok (.aload_n 0, 1) := by decide +kernel
theorem dX3_answerAll_78 : decode cX3_answerAll 78 = .ok (.iload_n 3, 1) := by decide +kernel
theorem dX3_answerAll_79 : decode cX3_answerAll 79 = .ok (.iconst 5, 1) := by decide +kernel
theorem dX3_answerAll_80 : decode cX3_answerAll 80 = .ok (.aload_n 1, 1) := by decide +kernel
theorem dX3_answerAll_81 : decode cX3_answerAll 81 = .ok (.iload 4, 2) := by decide +kernel
theorem dX3_answerAll_83 : decode cX3_answerAll 83 = .ok (.iload 5, 2) := by decide +kernel
theorem dX3_answerAll_85 : decode cX3_answerAll 85 = .ok (.ldc2_w 51, 3) := by decide +kernel
theorem dX3_answerAll_88 : decode cX3_answerAll 88 = .ok (.invokevirtual 53, 3) := by decide +kernel
theorem dX3_answerAll_91 : decode cX3_answerAll 91 = .ok (.invokevirtual 34, 3) := by decide +kernel
theorem dX3_answerAll_94 : decode cX3_answerAll 94 = .ok (.iload 6, 2) := by decide +kernel
theorem dX3_answerAll_96 : decode cX3_answerAll 96 = .ok (.iconst (-1), 1) := by decide +kernel
theorem dX3_answerAll_97 : decode cX3_answerAll 97 = .ok (.if_icmp .eq 6, 3) := by decide +kernel
theorem dX3_answerAll_100 : decode cX3_answerAll 100 = .ok (.iinc 2 1, 3) := by decide +kernel
theorem dX3_answerAll_103 : decode cX3_answerAll 103 = .ok (.iinc 3 1, 3) := by decide +kernel
theorem dX3_answerAll_106 : decode cX3_answerAll 106 = .ok (.goto (-102), 3) := by decide +kernel
theorem dX3_answerAll_109 : decode cX3_answerAll 109 = .ok (.iload_n 2, 1) := by decide +kernel
theorem dX3_answerAll_110 : decode cX3_answerAll 110 = .ok (.ireturn, 1) := by decide +kernel
set_option maxRecDepth 20000 in
theorem ggX3_isAnswered_X3_value : GoodIn wsX3_isAnswered wsX3_value := goodIn_r _ [5, 6, 7, 8] (by decide +kernel) (by decide +kernel)
set_option maxRecDepth 20000 in
theorem gX3_isAnswered_X3_value : GoodIn wsX3_isAnswered (wsV RX3 38 RX3 yX3_value wsX3_value) := goodIn_app (goodIn_of _ (by decide +kernel)) ggX3_isAnswered_X3_value
theorem dX3_isAnswered_0 : decode cX3_isAnswered 0 = .ok (.aload_n 0, 1) := by decide +kernel
theorem dX3_isAnswered_1 : decode cX3_isAnswered 1 = .ok (.iload_n 1, 1) := by decide +kernel
theorem dX3_isAnswered_2 : decode cX3_isAnswered 2 = .ok (.iconst 2, 1) := by decide +kernel
theorem dX3_isAnswered_3 : decode cX3_isAnswered 3 = .ok (.invokevirtual 38, 3) := by decide +kernel
theorem dX3_isAnswered_6 : decode cX3_isAnswered 6 = .ok (.iconst 1, 1) := by decide +kernel
theorem dX3_isAnswered_7 : decode cX3_isAnswered 7 = .ok (.if_icmp .ne 7, 3) := by decide +kernel
theorem dX3_isAnswered_10 : decode cX3_isAnswered 10 = .ok (.iconst 1, 1) := by decide +kernel
theorem dX3_isAnswered_11 : decode cX3_isAnswered 11 = .ok (.goto 4, 3) := by decide +kernel
theorem dX3_isAnswered_14 : decode cX3_isAnswered 14 = .ok (.iconst 0, 1) := by decide +kernel
theorem dX3_isAnswered_15 : decode cX3_isAnswered 15 = .ok (.ireturn, 1) := by decide +kernel
set_option maxRecDepth 20000 in
theorem ggX3_answerValue_X3_value : GoodIn wsX3_answerValue wsX3_value := goodIn_r _ [6, 7, 8, 9] (by decide +kernel) (by decide +kernel)
set_option maxRecDepth 20000 in
theorem gX3_answerValue_X3_value : GoodIn wsX3_answerValue (wsV RX3 38 RX3 yX3_value wsX3_value) := goodIn_app (goodIn_of _ (by decide +kernel)) ggX3_answerValue_X3_value
theorem dX3_answerValue_0 : decode cX3_answerValue 0 = .ok (.iload_n 2, 1) := by decide +kernel
theorem dX3_answerValue_1 : decode cX3_answerValue 1 = .ok (.ifCond .ne 17, 3) := by decide +kernel
theorem dX3_answerValue_4 : decode cX3_answerValue 4 = .ok (.aload_n 0, 1) := by decide +kernel
theorem dX3_answerValue_5 : decode cX3_answerValue 5 = .ok (.iload_n 1, 1) := by decide +kernel
theorem dX3_answerValue_6 : decode cX3_answerValue 6 = .ok (.iconst 4, 1) := by decide +kernel
theorem dX3_answerValue_7 : decode cX3_answerValue 7 = .ok (.invokevirtual 38, 3) := by decide +kernel
theorem dX3_answerValue_10 : decode cX3_answerValue 10 = .ok (.iconst (-1), 1) := by decide +kernel
theorem dX3_answerValue_11 : decode cX3_answerValue 11 = .ok (.if_icmp .ne 7, 3) := by decide +kernel
theorem dX3_answerValue_14 : decode cX3_answerValue 14 = .ok (.ldc2_w 51, 3) := by decide +kernel
theorem dX3_answerValue_17 : decode cX3_answerValue 17 = .ok (.lreturn, 1) := by decide +kernel
theorem dX3_answerValue_18 : decode cX3_answerValue 18 = .ok (.aload_n 0, 1) := by decide +kernel
theorem dX3_answerValue_19 : decode cX3_answerValue 19 = .ok (.iload_n 1, 1) := by decide +kernel
theorem dX3_answerValue_20 : decode cX3_answerValue 20 = .ok (.iconst 3, 1) := by decide +kernel
theorem dX3_answerValue_21 : decode cX3_answerValue 21 = .ok (.iload_n 2, 1) := by decide +kernel
theorem dX3_answerValue_22 : decode cX3_answerValue 22 = .ok (.iadd, 1) := by decide +kernel
theorem dX3_answerValue_23 : decode cX3_answerValue 23 = .ok (.invokevirtual 38, 3) := by decide +kernel
theorem dX3_answerValue_26 : decode cX3_answerValue 26 = .ok (.i2l, 1) := by decide +kernel
theorem dX3_answerValue_27 : decode cX3_answerValue 27 = .ok (.lreturn, 1) := by decide +kernel
set_option maxRecDepth 20000 in
theorem ggX3_mixedInto_X7_mixed : GoodIn wsX3_mixedInto wsX7_mixed := goodIn_r _ [4, 5] (by decide +kernel) (by decide +kernel)
set_option maxRecDepth 20000 in
theorem gX3_mixedInto_X7_mixed_n57 : GoodIn wsX3_mixedInto (wsX7_mixed) := ggX3_mixedInto_X7_mixed
set_option maxRecDepth 20000 in
theorem ggX3_mixedInto_X3_value : GoodIn wsX3_mixedInto wsX3_value := goodIn_r _ [10, 11, 21, 22] (by decide +kernel) (by decide +kernel)
set_option maxRecDepth 20000 in
theorem gX3_mixedInto_X3_value : GoodIn wsX3_mixedInto (wsV RX3 38 RX3 yX3_value wsX3_value) := goodIn_app (goodIn_of _ (by decide +kernel)) ggX3_mixedInto_X3_value
set_option maxRecDepth 20000 in
theorem ggX3_mixedInto_X3_isAnswered : GoodIn wsX3_mixedInto wsX3_isAnswered := goodIn_r _ [15, 6, 7, 8, 9, 10, 11, 21, 22] (by decide +kernel) (by decide +kernel)
set_option maxRecDepth 20000 in
theorem gX3_mixedInto_X3_isAnswered : GoodIn wsX3_mixedInto (wsV RX3 61 RX3 yX3_isAnswered wsX3_isAnswered) := goodIn_app (goodIn_of _ (by decide +kernel)) ggX3_mixedInto_X3_isAnswered
set_option maxRecDepth 20000 in
theorem ggX3_mixedInto_X3_answerValue : GoodIn wsX3_mixedInto wsX3_answerValue := goodIn_r _ [19, 20, 6, 7, 8, 9, 10, 11, 21, 22] (by decide +kernel) (by decide +kernel)
set_option maxRecDepth 20000 in
theorem gX3_mixedInto_X3_answerValue : GoodIn wsX3_mixedInto (wsV RX3 65 RX3 yX3_answerValue wsX3_answerValue) := goodIn_app (goodIn_of _ (by decide +kernel)) ggX3_mixedInto_X3_answerValue
theorem dX3_mixedInto_0 : decode cX3_mixedInto 0 = .ok (.lload_n 1, 1) := by decide +kernel
theorem dX3_mixedInto_1 : decode cX3_mixedInto 1 = .ok (.aload_n 0, 1) := by decide +kernel
theorem dX3_mixedInto_2 : decode cX3_mixedInto 2 = .ok (.getfield 15, 3) := by decide +kernel
theorem dX3_mixedInto_5 : decode cX3_mixedInto 5 = .ok (.i2l, 1) := by decide +kernel
theorem dX3_mixedInto_6 : decode cX3_mixedInto 6 = .ok (.invokestatic 57, 3) := by decide +kernel
theorem dX3_mixedInto_9 : decode cX3_mixedInto 9 = .ok (.lstore_n 1, 1) := by decide +kernel
theorem dX3_mixedInto_10 : decode cX3_mixedInto 10 = .ok (.iconst 0, 1) := by decide +kernel
theorem dX3_mixedInto_11 : decode cX3_mixedInto 11 = .ok (.istore_n 3, 1) := by decide +kernel
theorem dX3_mixedInto_12 : decode cX3_mixedInto 12 = .ok (.iload_n 3, 1) := by decide +kernel
theorem dX3_mixedInto_13 : decode cX3_mixedInto 13 = .ok (.aload_n 0, 1) := by decide +kernel
theorem dX3_mixedInto_14 : decode cX3_mixedInto 14 = .ok (.getfield 15, 3) := by decide +kernel
theorem dX3_mixedInto_17 : decode cX3_mixedInto 17 = .ok (.if_icmp .ge 80, 3) := by decide +kernel
theorem dX3_mixedInto_20 : decode cX3_mixedInto 20 = .ok (.lload_n 1, 1) := by decide +kernel
theorem dX3_mixedInto_21 : decode cX3_mixedInto 21 = .ok (.aload_n 0, 1) := by decide +kernel
theorem dX3_mixedInto_22 : decode cX3_mixedInto 22 = .ok (.iload_n 3, 1) := by decide +kernel
theorem dX3_mixedInto_23 : decode cX3_mixedInto 23 = .ok (.iconst 0, 1) := by decide +kernel
theorem dX3_mixedInto_24 : decode cX3_mixedInto 24 = .ok (.invokevirtual 38, 3) := by decide +kernel
theorem dX3_mixedInto_27 : decode cX3_mixedInto 27 = .ok (.i2l, 1) := by decide +kernel
theorem dX3_mixedInto_28 : decode cX3_mixedInto 28 = .ok (.invokestatic 57, 3) := by decide +kernel
theorem dX3_mixedInto_31 : decode cX3_mixedInto 31 = .ok (.lstore_n 1, 1) := by decide +kernel
theorem dX3_mixedInto_32 : decode cX3_mixedInto 32 = .ok (.lload_n 1, 1) := by decide +kernel
theorem dX3_mixedInto_33 : decode cX3_mixedInto 33 = .ok (.aload_n 0, 1) := by decide +kernel
theorem dX3_mixedInto_34 : decode cX3_mixedInto 34 = .ok (.iload_n 3, 1) := by decide +kernel
theorem dX3_mixedInto_35 : decode cX3_mixedInto 35 = .ok (.iconst 1, 1) := by decide +kernel
theorem dX3_mixedInto_36 : decode cX3_mixedInto 36 = .ok (.invokevirtual 38, 3) := by decide +kernel
theorem dX3_mixedInto_39 : decode cX3_mixedInto 39 = .ok (.i2l, 1) := by decide +kernel
theorem dX3_mixedInto_40 : decode cX3_mixedInto 40 = .ok (.invokestatic 57, 3) := by decide +kernel
theorem dX3_mixedInto_43 : decode cX3_mixedInto 43 = .ok (.lstore_n 1, 1) := by decide +kernel
theorem dX3_mixedInto_44 : decode cX3_mixedInto 44 = .ok (.lload_n 1, 1) := by decide +kernel
theorem dX3_mixedInto_45 : decode cX3_mixedInto 45 = .ok (.aload_n 0, 1) := by decide +kernel
theorem dX3_mixedInto_46 : decode cX3_mixedInto 46 = .ok (.iload_n 3, 1) := by decide +kernel
theorem dX3_mixedInto_47 : decode cX3_mixedInto 47 = .ok (.iconst 2, 1) := by decide +kernel
theorem dX3_mixedInto_48 : decode cX3_mixedInto 48 = .ok (.invokevirtual 38, 3) := by decide +kernel
theorem dX3_mixedInto_51 : decode cX3_mixedInto 51 = .ok (.i2l, 1) := by decide +kernel
theorem dX3_mixedInto_52 : decode cX3_mixedInto 52 = .ok (.invokestatic 57, 3) := by decide +kernel
theorem dX3_mixedInto_55 : decode cX3_mixedInto 55 = .ok (.lstore_n 1, 1) := by decide +kernel
theorem dX3_mixedInto_56 : decode cX3_mixedInto 56 = .ok (.aload_n 0, 1) := by decide +kernel
theorem dX3_mixedInto_57 : decode cX3_mixedInto 57 = .ok (.iload_n 3, 1) := by decide +kernel
theorem dX3_mixedInto_58 : decode cX3_mixedInto 58 = .ok (.invokevirtual 61, 3) := by decide +kernel
theorem dX3_mixedInto_61 : decode cX3_mixedInto 61 = .ok (.ifCond .eq 30, 3) := by decide +kernel
theorem dX3_mixedInto_64 : decode cX3_mixedInto 64 = .ok (.iconst 0, 1) := by decide +kernel
theorem dX3_mixedInto_65 : decode cX3_mixedInto 65 = .ok (.istore 4, 2) := by decide +kernel
theorem dX3_mixedInto_67 : decode cX3_mixedInto 67 = .ok (.iload 4, 2) := by decide +kernel
theorem dX3_mixedInto_69 : decode cX3_mixedInto 69 = .ok (.iconst 3, 1) := by decide +kernel
theorem dX3_mixedInto_70 : decode cX3_mixedInto 70 = .ok (.if_icmp .ge 21, 3) := by decide +kernel
theorem dX3_mixedInto_73 : decode cX3_mixedInto 73 = .ok (.lload_n 1, 1) := by decide +kernel
theorem dX3_mixedInto_74 : decode cX3_mixedInto 74 = .ok (.aload_n 0, 1) := by decide +kernel
theorem dX3_mixedInto_75 : decode cX3_mixedInto 75 = .ok (.iload_n 3, 1) := by decide +kernel
theorem dX3_mixedInto_76 : decode cX3_mixedInto 76 = .ok (.iload 4, 2) := by decide +kernel
theorem dX3_mixedInto_78 : decode cX3_mixedInto 78 = .ok (.invokevirtual 65, 3) := by decide +kernel
theorem dX3_mixedInto_81 : decode cX3_mixedInto 81 = .ok (.invokestatic 57, 3) := by decide +kernel
theorem dX3_mixedInto_84 : decode cX3_mixedInto 84 = .ok (.lstore_n 1, 1) := by decide +kernel
theorem dX3_mixedInto_85 : decode cX3_mixedInto 85 = .ok (.iinc 4 1, 3) := by decide +kernel
theorem dX3_mixedInto_88 : decode cX3_mixedInto 88 = .ok (.goto (-21), 3) := by decide +kernel
theorem dX3_mixedInto_91 : decode cX3_mixedInto 91 = .ok (.iinc 3 1, 3) := by decide +kernel
theorem dX3_mixedInto_94 : decode cX3_mixedInto 94 = .ok (.goto (-82), 3) := by decide +kernel
theorem dX3_mixedInto_97 : decode cX3_mixedInto 97 = .ok (.lload_n 1, 1) := by decide +kernel
theorem dX3_mixedInto_98 : decode cX3_mixedInto 98 = .ok (.lreturn, 1) := by decide +kernel
theorem dX4_init_0 : decode cX4_init 0 = .ok (.aload_n 0, 1) := by decide +kernel
theorem dX4_init_1 : decode cX4_init 1 = .ok (.invokespecial 3, 3) := by decide +kernel
theorem dX4_init_4 : decode cX4_init 4 = .ok (.aload_n 0, 1) := by decide +kernel
theorem dX4_init_5 : decode cX4_init 5 = .ok (.bipush 120, 2) := by decide +kernel
theorem dX4_init_7 : decode cX4_init 7 = .ok (.newarray .int, 2) := by decide +kernel
theorem dX4_init_9 : decode cX4_init 9 = .ok (.putfield 9, 3) := by decide +kernel
theorem dX4_init_12 : decode cX4_init 12 = .ok (.aload_n 0, 1) := by decide +kernel
theorem dX4_init_13 : decode cX4_init 13 = .ok (.iconst 4, 1) := by decide +kernel
theorem dX4_init_14 : decode cX4_init 14 = .ok (.newarray .int, 2) := by decide +kernel
theorem dX4_init_16 : decode cX4_init 16 = .ok (.putfield 15, 3) := by decide +kernel
theorem dX4_init_19 : decode cX4_init 19 = .ok (.return_, 1) := by decide +kernel
theorem dX4_put_0 : decode cX4_put 0 = .ok (.aload_n 0, 1) := by decide +kernel
theorem dX4_put_1 : decode cX4_put 1 = .ok (.getfield 18, 3) := by decide +kernel
theorem dX4_put_4 : decode cX4_put 4 = .ok (.ifCond .lt 35, 3) := by decide +kernel
theorem dX4_put_7 : decode cX4_put 7 = .ok (.aload_n 0, 1) := by decide +kernel
theorem dX4_put_8 : decode cX4_put 8 = .ok (.getfield 18, 3) := by decide +kernel
theorem dX4_put_11 : decode cX4_put 11 = .ok (.aload_n 0, 1) := by decide +kernel
theorem dX4_put_12 : decode cX4_put 12 = .ok (.getfield 9, 3) := by decide +kernel
theorem dX4_put_15 : decode cX4_put 15 = .ok (.arraylength, 1) := by decide +kernel
theorem dX4_put_16 : decode cX4_put 16 = .ok (.if_icmp .ge 23, 3) := by decide +kernel
theorem dX4_put_19 : decode cX4_put 19 = .ok (.aload_n 0, 1) := by decide +kernel
theorem dX4_put_20 : decode cX4_put 20 = .ok (.getfield 9, 3) := by decide +kernel
theorem dX4_put_23 : decode cX4_put 23 = .ok (.aload_n 0, 1) := by decide +kernel
theorem dX4_put_24 : decode cX4_put 24 = .ok (.getfield 18, 3) := by decide +kernel
theorem dX4_put_27 : decode cX4_put 27 = .ok (.iload_n 1, 1) := by decide +kernel
theorem dX4_put_28 : decode cX4_put 28 = .ok (.iastore, 1) := by decide +kernel
theorem dX4_put_29 : decode cX4_put 29 = .ok (.aload_n 0, 1) := by decide +kernel
theorem dX4_put_30 : decode cX4_put 30 = .ok (.dup, 1) := by decide +kernel
theorem dX4_put_31 : decode cX4_put 31 = .ok (.getfield 18, 3) := by decide +kernel
theorem dX4_put_34 : decode cX4_put 34 = .ok (.iconst 1, 1) := by decide +kernel
theorem dX4_put_35 : decode cX4_put 35 = .ok (.iadd, 1) := by decide +kernel
theorem dX4_put_36 : decode cX4_put 36 = .ok (.putfield 18, 3) := by decide +kernel
theorem dX4_put_39 : decode cX4_put 39 = .ok (.aload_n 0, 1) := by decide +kernel
theorem dX4_put_40 : decode cX4_put 40 = .ok (.getfield 18, 3) := by decide +kernel
theorem dX4_put_43 : decode cX4_put 43 = .ok (.ireturn, 1) := by decide +kernel
theorem dX4_wipe_0 : decode cX4_wipe 0 = .ok (.aload_n 0, 1) := by decide +kernel
theorem dX4_wipe_1 : decode cX4_wipe 1 = .ok (.getfield 18, 3) := by decide +kernel
theorem dX4_wipe_4 : decode cX4_wipe 4 = .ok (.istore_n 1, 1) := by decide +kernel
theorem dX4_wipe_5 : decode cX4_wipe 5 = .ok (.aload_n 0, 1) := by decide +kernel
theorem dX4_wipe_6 : decode cX4_wipe 6 = .ok (.iconst 0, 1) := by decide +kernel
theorem dX4_wipe_7 : decode cX4_wipe 7 = .ok (.putfield 18, 3) := by decide +kernel
theorem dX4_wipe_10 : decode cX4_wipe 10 = .ok (.iload_n 1, 1) := by decide +kernel
theorem dX4_wipe_11 : decode cX4_wipe 11 = .ok (.ireturn, 1) := by decide +kernel
theorem dX4_number_0 : decode cX4_number 0 = .ok (.iload_n 1, 1) := by decide +kernel
theorem dX4_number_1 : decode cX4_number 1 = .ok (.ifCond .lt 21, 3) := by decide +kernel
theorem dX4_number_4 : decode cX4_number 4 = .ok (.iload_n 1, 1) := by decide +kernel
theorem dX4_number_5 : decode cX4_number 5 = .ok (.aload_n 0, 1) := by decide +kernel
theorem dX4_number_6 : decode cX4_number 6 = .ok (.getfield 15, 3) := by decide +kernel
theorem dX4_number_9 : decode cX4_number 9 = .ok (.arraylength, 1) := by decide +kernel
theorem dX4_number_10 : decode cX4_number 10 = .ok (.if_icmp .ge 12, 3) := by decide +kernel
theorem dX4_number_13 : decode cX4_number 13 = .ok (.aload_n 0, 1) := by decide +kernel
theorem dX4_number_14 : decode cX4_number 14 = .ok (.getfield 15, 3) := by decide +kernel
theorem dX4_number_17 : decode cX4_number 17 = .ok (.iload_n 1, 1) := by decide +kernel
theorem dX4_number_18 : decode cX4_number 18 = .ok (.iaload, 1) := by decide +kernel
theorem dX4_number_19 : decode cX4_number 19 = .ok (.goto 4, 3) := by decide +kernel
theorem dX4_number_22 : decode cX4_number 22 = .ok (.iconst 0, 1) := by decide +kernel
theorem dX4_number_23 : decode cX4_number 23 = .ok (.ireturn, 1) := by decide +kernel
theorem dX4_restart_0 : decode cX4_restart 0 = .ok (.aload_n 0, 1) := by decide +kernel
theorem dX4_restart_1 : decode cX4_restart 1 = .ok (.iconst 0, 1) := by decide +kernel
theorem dX4_restart_2 : decode cX4_restart 2 = .ok (.putfield 22, 3) := by decide +kernel
theorem dX4_restart_5 : decode cX4_restart 5 = .ok (.return_, 1) := by decide +kernel
set_option maxRecDepth 20000 in
theorem ggX4_syntaxError_X4_restart : GoodIn wsX4_syntaxError wsX4_restart := goodIn_r _ [7, 1, 33, 34, 35, 36, 37] (by decide +kernel) (by decide +kernel)
set_option maxRecDepth 20000 in
theorem gX4_syntaxError_X4_restart : GoodIn wsX4_syntaxError (wsV RX4 25 RX4 yX4_restart wsX4_restart) := goodIn_app (goodIn_of _ (by decide +kernel)) ggX4_syntaxError_X4_restart
set_option maxRecDepth 20000 in
theorem ggX4_syntaxError_X4_readCommand : GoodIn wsX4_syntaxError wsX4_readCommand := goodIn_r _ [11, 12, 1, 13, 14, 15, 6, 16, 2, 17, 18, 19, 20, 21, 22, 23, 24, 25, 26, 27, 28, 29, 30, 31, 32, 33, 34, 35, 36, 37] (by decide +kernel) (by decide +kernel)
set_option maxRecDepth 20000 in
theorem gX4_syntaxError_X4_readCommand : GoodIn wsX4_syntaxError (wsV RX4 28 RX4 yX4_readCommand wsX4_readCommand) := goodIn_app (goodIn_of _ (by decide +kernel)) ggX4_syntaxError_X4_readCommand
theorem dX4_syntaxError_0 : decode cX4_syntaxError 0 = .ok (.aload_n 0, 1) := by decide +kernel
theorem dX4_syntaxError_1 : decode cX4_syntaxError 1 = .ok (.invokevirtual 25, 3) := by decide +kernel
theorem dX4_syntaxError_4 : decode cX4_syntaxError 4 = .ok (.iconst 0, 1) := by decide +kernel
theorem dX4_syntaxError_5 : decode cX4_syntaxError 5 = .ok (.istore_n 1, 1) := by decide +kernel
theorem dX4_syntaxError_6 : decode cX4_syntaxError 6 = .ok (.iload_n 1, 1) := by decide +kernel
theorem dX4_syntaxError_7 : decode cX4_syntaxError 7 = .ok (.bipush 120, 2) := by decide +kernel
theorem dX4_syntaxError_9 : decode cX4_syntaxError 9 = .ok (.if_icmp .ge 32, 3) := by decide +kernel
theorem dX4_syntaxError_12 : decode cX4_syntaxError 12 = .ok (.aload_n 0, 1) := by decide +kernel
theorem dX4_syntaxError_13 : decode cX4_syntaxError 13 = .ok (.getfield 22, 3) := by decide +kernel
theorem dX4_syntaxError_16 : decode cX4_syntaxError 16 = .ok (.aload_n 0, 1) := by decide +kernel
theorem dX4_syntaxError_17 : decode cX4_syntaxError 17 = .ok (.getfield 18, 3) := by decide +kernel
theorem dX4_syntaxError_20 : decode cX4_syntaxError 20 = .ok (.if_icmp .ge 21, 3) := by decide +kernel
theorem dX4_syntaxError_23 : decode cX4_syntaxError 23 = .ok (.aload_n 0, 1) := by decide +kernel
theorem dX4_syntaxError_24 : decode cX4_syntaxError 24 = .ok (.invokevirtual 28, 3) := by decide +kernel
theorem dX4_syntaxError_27 : decode cX4_syntaxError 27 = .ok (.ifCond .ne 8, 3) := by decide +kernel
theorem dX4_syntaxError_30 : decode cX4_syntaxError 30 = .ok (.aload_n 0, 1) := by decide +kernel
theorem dX4_syntaxError_31 : decode cX4_syntaxError 31 = .ok (.getfield 22, 3) := by decide +kernel
theorem dX4_syntaxError_34 : decode cX4_syntaxError 34 = .ok (.ireturn, 1) := by decide +kernel
theorem dX4_syntaxError_35 : decode cX4_syntaxError 35 = .ok (.iinc 1 1, 3) := by decide +kernel
theorem dX4_syntaxError_38 : decode cX4_syntaxError 38 = .ok (.goto (-32), 3) := by decide +kernel
theorem dX4_syntaxError_41 : decode cX4_syntaxError 41 = .ok (.iconst (-1), 1) := by decide +kernel
theorem dX4_syntaxError_42 : decode cX4_syntaxError 42 = .ok (.ireturn, 1) := by decide +kernel
set_option maxRecDepth 20000 in
theorem ggX4_readCommand_X4_next : GoodIn wsX4_readCommand wsX4_next := goodIn_r _ [7, 2, 8, 9, 25, 26, 27, 28, 29] (by decide +kernel) (by decide +kernel)
set_option maxRecDepth 20000 in
theorem gX4_readCommand_X4_next : GoodIn wsX4_readCommand (wsV RX4 32 RX4 yX4_next wsX4_next) := goodIn_app (goodIn_of _ (by decide +kernel)) ggX4_readCommand_X4_next
set_option maxRecDepth 20000 in
theorem ggX4_readCommand_X4_numbersOf : GoodIn wsX4_readCommand wsX4_numbersOf := goodIn_r _ [12] (by decide +kernel) (by decide +kernel)
set_option maxRecDepth 20000 in
theorem gX4_readCommand_X4_numbersOf : GoodIn wsX4_readCommand (va_wsS RX4 39 yX4_numbersOf wsX4_numbersOf) := goodIn_app (goodIn_of _ (by decide +kernel)) ggX4_readCommand_X4_numbersOf
set_option maxRecDepth 20000 in
theorem ggX4_readCommand_X4_readNumber : GoodIn wsX4_readCommand wsX4_readNumber := goodIn_r _ [16, 2, 17, 18, 19, 20, 6, 21, 3, 4, 5, 7, 8, 9, 22, 23, 24, 25, 26, 27, 28, 29] (by decide +kernel) (by decide +kernel)
set_option maxRecDepth 20000 in
theorem gX4_readCommand_X4_readNumber : GoodIn wsX4_readCommand (wsV RX4 43 RX4 yX4_readNumber wsX4_readNumber) := goodIn_app (goodIn_of _ (by decide +kernel)) ggX4_readCommand_X4_readNumber
set_option maxRecDepth 20000 in
theorem ggX4_readCommand_X4_skip : GoodIn wsX4_readCommand wsX4_skip := goodIn_r _ [21, 2, 3, 4, 5, 6, 7, 8, 9, 25, 26, 27, 28, 29] (by decide +kernel) (by decide +kernel)
set_option maxRecDepth 20000 in
theorem gX4_readCommand_X4_skip : GoodIn wsX4_readCommand (wsV RX4 47 RX4 yX4_skip wsX4_skip) := goodIn_app (goodIn_of _ (by decide +kernel)) ggX4_readCommand_X4_skip
theorem dX4_readCommand_0 : decode cX4_readCommand 0 = .ok (.aload_n 0, 1) := by decide +kernel
theorem dX4_readCommand_1 : decode cX4_readCommand 1 = .ok (.aload_n 0, 1) := by decide +kernel
theorem dX4_readCommand_2 : decode cX4_readCommand 2 = .ok (.invokevirtual 32, 3) := by decide +kernel
theorem dX4_readCommand_5 : decode cX4_readCommand 5 = .ok (.putfield 36, 3) := by decide +kernel
theorem dX4_readCommand_8 : decode cX4_readCommand 8 = .ok (.aload_n 0, 1) := by decide +kernel
theorem dX4_readCommand_9 : decode cX4_readCommand 9 = .ok (.getfield 36, 3) := by decide +kernel
theorem dX4_readCommand_12 : decode cX4_readCommand 12 = .ok (.invokestatic 39, 3) := by decide +kernel
theorem dX4_readCommand_15 : decode cX4_readCommand 15 = .ok (.istore_n 1, 1) := by decide +kernel
theorem dX4_readCommand_16 : decode cX4_readCommand 16 = .ok (.iload_n 1, 1) := by decide +kernel
theorem dX4_readCommand_17 : decode cX4_readCommand 17 = .ok (.iconst (-1), 1) := by decide +kernel
theorem dX4_readCommand_18 : decode cX4_readCommand 18 = .ok (.if_icmp .ne 5, 3) := by decide +kernel
theorem dX4_readCommand_21 : decode cX4_readCommand 21 = .ok (.iconst 0, 1) := by decide +kernel
theorem dX4_readCommand_22 : decode cX4_readCommand 22 = .ok (.ireturn, 1) := by decide +kernel
theorem dX4_readCommand_23 : decode cX4_readCommand 23 = .ok (.aload_n 0, 1) := by decide +kernel
theorem dX4_readCommand_24 : decode cX4_readCommand 24 = .ok (.dup, 1) := by decide +kernel
theorem dX4_readCommand_25 : decode cX4_readCommand 25 = .ok (.getfield 22, 3) := by decide +kernel
theorem dX4_readCommand_28 : decode cX4_readCommand 28 = .ok (.iconst 1, 1) := by decide +kernel
theorem dX4_readCommand_29 : decode cX4_readCommand 29 = .ok (.iadd, 1) := by decide +kernel
theorem dX4_readCommand_30 : decode cX4_readCommand 30 = .ok (.putfield 22, 3) := by decide +kernel
theorem dX4_readCommand_33 : decode cX4_readCommand 33 = .ok (.iconst 0, 1) := by decide +kernel
theorem dX4_readCommand_34 : decode cX4_readCommand 34 = .ok (.istore_n 2, 1) := by decide +kernel
theorem dX4_readCommand_35 : decode cX4_readCommand 35 = .ok (.iload_n 2, 1) := by decide +kernel
theorem dX4_readCommand_36 : decode cX4_readCommand 36 = .ok (.iload_n 1, 1) := by decide +kernel
theorem dX4_readCommand_37 : decode cX4_readCommand 37 = .ok (.if_icmp .ge 19, 3) := by decide +kernel
theorem dX4_readCommand_40 : decode cX4_readCommand 40 = .ok (.aload_n 0, 1) := by decide +kernel
theorem dX4_readCommand_41 : decode cX4_readCommand 41 = .ok (.iload_n 2, 1) := by decide +kernel
theorem dX4_readCommand_42 : decode cX4_readCommand 42 = .ok (.invokevirtual 43, 3) := by decide +kernel
theorem dX4_readCommand_45 : decode cX4_readCommand 45 = .ok (.ifCond .ne 5, 3) := by decide +kernel
theorem dX4_readCommand_48 : decode cX4_readCommand 48 = .ok (.iconst 0, 1) := by decide +kernel
theorem dX4_readCommand_49 : decode cX4_readCommand 49 = .ok (.ireturn, 1) := by decide +kernel
theorem dX4_readCommand_50 : decode cX4_readCommand 50 = .ok (.iinc 2 1, 3) := by decide +kernel
theorem dX4_readCommand_53 : decode cX4_readCommand 53 = .ok (.goto (-18), 3) := by decide +kernel
theorem dX4_readCommand_56 : decode cX4_readCommand 56 = .ok (.aload_n 0, 1) := by decide +kernel
theorem dX4_readCommand_57 : decode cX4_readCommand 57 = .ok (.bipush 59, 2) := by decide +kernel
theorem dX4_readCommand_59 : decode cX4_readCommand 59 = .ok (.invokevirtual 47, 3) := by decide +kernel
theorem dX4_readCommand_62 : decode cX4_readCommand 62 = .ok (.ireturn, 1) := by decide +kernel
set_option maxRecDepth 20000 in
theorem ggX4_readNumber_X4_skip : GoodIn wsX4_readNumber wsX4_skip := goodIn_r _ [7, 1, 8, 9, 10, 6, 11, 12, 13, 17, 18, 19, 20, 21] (by decide +kernel) (by decide +kernel)
set_option maxRecDepth 20000 in
theorem gX4_readNumber_X4_skip : GoodIn wsX4_readNumber (wsV RX4 47 RX4 yX4_skip wsX4_skip) := goodIn_app (goodIn_of _ (by decide +kernel)) ggX4_readNumber_X4_skip
set_option maxRecDepth 20000 in
theorem ggX4_readNumber_X4_next : GoodIn wsX4_readNumber wsX4_next := goodIn_r _ [11, 1, 12, 13, 17, 18, 19, 20, 21] (by decide +kernel) (by decide +kernel)
set_option maxRecDepth 20000 in
theorem gX4_readNumber_X4_next : GoodIn wsX4_readNumber (wsV RX4 32 RX4 yX4_next wsX4_next) := goodIn_app (goodIn_of _ (by decide +kernel)) ggX4_readNumber_X4_next
set_option maxRecDepth 20000 in
theorem ggX4_readNumber_X7_isBetween : GoodIn wsX4_readNumber wsX7_isBetween := goodIn_r _ [16] (by decide +kernel) (by decide +kernel)
set_option maxRecDepth 20000 in
theorem gX4_readNumber_X7_isBetween_n50 : GoodIn wsX4_readNumber (wsX7_isBetween) := ggX4_readNumber_X7_isBetween
theorem dX4_readNumber_0 : decode cX4_readNumber 0 = .ok (.aload_n 0, 1) := by decide +kernel
theorem dX4_readNumber_1 : decode cX4_readNumber 1 = .ok (.bipush 32, 2) := by decide +kernel
theorem dX4_readNumber_3 : decode cX4_readNumber 3 = .ok (.invokevirtual 47, 3) := by decide +kernel
theorem dX4_readNumber_6 : decode cX4_readNumber 6 = .ok (.ifCond .ne 5, 3) := by decide +kernel
theorem dX4_readNumber_9 : decode cX4_readNumber 9 = .ok (.iconst 0, 1) := by decide +kernel
theorem dX4_readNumber_10 : decode cX4_readNumber 10 = .ok (.ireturn, 1) := by decide +kernel
theorem dX4_readNumber_11 : decode cX4_readNumber 11 = .ok (.aload_n 0, 1) := by decide +kernel
theorem dX4_readNumber_12 : decode cX4_readNumber 12 = .ok (.bipush 45, 2) := by decide +kernel
theorem dX4_readNumber_14 : decode cX4_readNumber 14 = .ok (.invokevirtual 47, 3) := by decide +kernel
theorem dX4_readNumber_17 : decode cX4_readNumber 17 = .ok (.istore_n 2, 1) := by decide +kernel
theorem dX4_readNumber_18 : decode cX4_readNumber 18 = .ok (.iconst 0, 1) := by decide +kernel
theorem dX4_readNumber_19 : decode cX4_readNumber 19 = .ok (.istore_n 3, 1) := by decide +kernel
theorem dX4_readNumber_20 : decode cX4_readNumber 20 = .ok (.iconst 0, 1) := by decide +kernel
theorem dX4_readNumber_21 : decode cX4_readNumber 21 = .ok (.istore 4, 2) := by decide +kernel
theorem dX4_readNumber_23 : decode cX4_readNumber 23 = .ok (.iload 4, 2) := by decide +kernel
theorem dX4_readNumber_25 : decode cX4_readNumber 25 = .ok (.bipush 7, 2) := by decide +kernel
theorem dX4_readNumber_27 : decode cX4_readNumber 27 = .ok (.if_icmp .ge 46, 3) := by decide +kernel
theorem dX4_readNumber_30 : decode cX4_readNumber 30 = .ok (.aload_n 0, 1) := by decide +kernel
theorem dX4_readNumber_31 : decode cX4_readNumber 31 = .ok (.invokevirtual 32, 3) := by decide +kernel
theorem dX4_readNumber_34 : decode cX4_readNumber 34 = .ok (.bipush 48, 2) := by decide +kernel
theorem dX4_readNumber_36 : decode cX4_readNumber 36 = .ok (.bipush 57, 2) := by decide +kernel
theorem dX4_readNumber_38 : decode cX4_readNumber 38 = .ok (.invokestatic 50, 3) := by decide +kernel
theorem dX4_readNumber_41 : decode cX4_readNumber 41 = .ok (.ifCond .eq 32, 3) := by decide +kernel
theorem dX4_readNumber_44 : decode cX4_readNumber 44 = .ok (.bipush 10, 2) := by decide +kernel
theorem dX4_readNumber_46 : decode cX4_readNumber 46 = .ok (.iload_n 3, 1) := by decide +kernel
theorem dX4_readNumber_47 : decode cX4_readNumber 47 = .ok (.imul, 1) := by decide +kernel
theorem dX4_readNumber_48 : decode cX4_readNumber 48 = .ok (.aload_n 0, 1) := by decide +kernel
theorem dX4_readNumber_49 : decode cX4_readNumber 49 = .ok (.invokevirtual 32, 3) := by decide +kernel
theorem dX4_readNumber_52 : decode cX4_readNumber 52 = .ok (.iadd, 1) := by decide +kernel
theorem dX4_readNumber_53 : decode cX4_readNumber 53 = .ok (.bipush 48, 2) := by decide +kernel
theorem dX4_readNumber_55 : decode cX4_readNumber 55 = .ok (.isub, 1) := by decide +kernel
theorem dX4_readNumber_56 : decode cX4_readNumber 56 = .ok (.istore_n 3, 1) := by decide +kernel
theorem dX4_readNumber_57 : decode cX4_readNumber 57 = .ok (.iinc 4 1, 3) := by decide +kernel
theorem dX4_readNumber_60 : decode cX4_readNumber 60 = .ok (.aload_n 0, 1) := by decide +kernel
theorem dX4_readNumber_61 : decode cX4_readNumber 61 = .ok (.dup, 1) := by decide +kernel
theorem dX4_readNumber_62 : decode cX4_readNumber 62 = .ok (.getfield 22, 3) := by decide +kernel
theorem dX4_readNumber_65 : decode cX4_readNumber 65 = .ok (.iconst 1, 1) := by decide +kernel
theorem dX4_readNumber_66 : decode cX4_readNumber 66 = .ok (.iadd, 1) := by decide +kernel
theorem dX4_readNumber_67 : decode cX4_readNumber 67 = .ok (.putfield 22, 3) := by decide +kernel
theorem dX4_readNumber_70 : decode cX4_readNumber 70 = .ok (.goto (-47), 3) := by decide +kernel
theorem dX4_readNumber_73 : decode cX4_readNumber 73 = .ok (.iload_n 1, 1) := by decide +kernel
theorem dX4_readNumber_74 : decode cX4_readNumber 74 = .ok (.ifCond .lt 28, 3) := by decide +kernel
theorem dX4_readNumber_77 : decode cX4_readNumber 77 = .ok (.iload_n 1, 1) := by decide +kernel
theorem dX4_readNumber_78 : decode cX4_readNumber 78 = .ok (.aload_n 0, 1) := by decide +kernel
theorem dX4_readNumber_79 : decode cX4_readNumber 79 = .ok (.getfield 15, 3) := by decide +kernel
theorem dX4_readNumber_82 : decode cX4_readNumber 82 = .ok (.arraylength, 1) := by decide +kernel
theorem dX4_readNumber_83 : decode cX4_readNumber 83 = .ok (.if_icmp .ge 19, 3) := by decide +kernel
theorem dX4_readNumber_86 : decode cX4_readNumber 86 = .ok (.aload_n 0, 1) := by decide +kernel
theorem dX4_readNumber_87 : decode cX4_readNumber 87 = .ok (.getfield 15, 3) := by decide +kernel
theorem dX4_readNumber_90 : decode cX4_readNumber 90 = .ok (.iload_n 1, 1) := by decide +kernel
theorem dX4_readNumber_91 : decode cX4_readNumber 91 = .ok (.iload_n 2, 1) := by decide +kernel
theorem dX4_readNumber_92 : decode cX4_readNumber 92 = .ok (.ifCond .eq 8, 3) := by decide +kernel
theorem dX4_readNumber_95 : decode cX4_readNumber 95 = .ok (.iload_n 3, 1) := by decide +kernel
theorem dX4_readNumber_96 : decode cX4_readNumber 96 = .ok (.ineg, 1) := by decide +kernel
theorem dX4_readNumber_97 : decode cX4_readNumber 97 = .ok (.goto 4, 3) := by decide +kernel
theorem dX4_readNumber_100 : decode cX4_readNumber 100 = .ok (.iload_n 3, 1) := by decide +kernel
theorem dX4_readNumber_101 : decode cX4_readNumber 101 = .ok (.iastore, 1) := by decide +kernel
theorem dX4_readNumber_102 : decode cX4_readNumber 102 = .ok (.iload 4, 2) := by decide +kernel
theorem dX4_readNumber_104 : decode cX4_readNumber 104 = .ok (.ifCond .le 7, 3) := by decide +kernel
theorem dX4_readNumber_107 : decode cX4_readNumber 107 = .ok (.iconst 1, 1) := by decide +kernel
theorem dX4_readNumber_108 : decode cX4_readNumber 108 = .ok (.goto 4, 3) := by decide +kernel
theorem dX4_readNumber_111 : decode cX4_readNumber 111 = .ok (.iconst 0, 1) := by decide +kernel
theorem dX4_readNumber_112 : decode cX4_readNumber 112 = .ok (.ireturn, 1) := by decide +kernel
set_option maxRecDepth 20000 in
theorem ggX4_skip_X4_next : GoodIn wsX4_skip wsX4_next := goodIn_r _ [6, 1, 7, 8, 9, 10, 11, 12, 13] (by decide +kernel) (by decide +kernel)
set_option maxRecDepth 20000 in
theorem gX4_skip_X4_next : GoodIn wsX4_skip (wsV RX4 32 RX4 yX4_next wsX4_next) := goodIn_app (goodIn_of _ (by decide +kernel)) ggX4_skip_X4_next
theorem dX4_skip_0 : decode cX4_skip 0 = .ok (.aload_n 0, 1) := by decide +kernel
theorem dX4_skip_1 : decode cX4_skip 1 = .ok (.invokevirtual 32, 3) := by decide +kernel
theorem dX4_skip_4 : decode cX4_skip 4 = .ok (.iload_n 1, 1) := by decide +kernel
theorem dX4_skip_5 : decode cX4_skip 5 = .ok (.if_icmp .eq 5, 3) := by decide +kernel
theorem dX4_skip_8 : decode cX4_skip 8 = .ok (.iconst 0, 1) := by decide +kernel
theorem dX4_skip_9 : decode cX4_skip 9 = .ok (.ireturn, 1) := by decide +kernel
theorem dX4_skip_10 : decode cX4_skip 10 = .ok (.aload_n 0, 1) := by decide +kernel
theorem dX4_skip_11 : decode cX4_skip 11 = .ok (.dup, 1) := by decide +kernel
theorem dX4_skip_12 : decode cX4_skip 12 = .ok (.getfield 22, 3) := by decide +kernel
theorem dX4_skip_15 : decode cX4_skip 15 = .ok (.iconst 1, 1) := by decide +kernel
theorem dX4_skip_16 : decode cX4_skip 16 = .ok (.iadd, 1) := by decide +kernel
theorem dX4_skip_17 : decode cX4_skip 17 = .ok (.putfield 22, 3) := by decide +kernel
theorem dX4_skip_20 : decode cX4_skip 20 = .ok (.iconst 1, 1) := by decide +kernel
theorem dX4_skip_21 : decode cX4_skip 21 = .ok (.ireturn, 1) := by decide +kernel
theorem dX4_next_0 : decode cX4_next 0 = .ok (.aload_n 0, 1) := by decide +kernel
theorem dX4_next_1 : decode cX4_next 1 = .ok (.getfield 22, 3) := by decide +kernel
theorem dX4_next_4 : decode cX4_next 4 = .ok (.ifCond .lt 38, 3) := by decide +kernel
theorem dX4_next_7 : decode cX4_next 7 = .ok (.aload_n 0, 1) := by decide +kernel
theorem dX4_next_8 : decode cX4_next 8 = .ok (.getfield 22, 3) := by decide +kernel
theorem dX4_next_11 : decode cX4_next 11 = .ok (.aload_n 0, 1) := by decide +kernel
theorem dX4_next_12 : decode cX4_next 12 = .ok (.getfield 18, 3) := by decide +kernel
theorem dX4_next_15 : decode cX4_next 15 = .ok (.if_icmp .ge 27, 3) := by decide +kernel
theorem dX4_next_18 : decode cX4_next 18 = .ok (.aload_n 0, 1) := by decide +kernel
theorem dX4_next_19 : decode cX4_next 19 = .ok (.getfield 22, 3) := by decide +kernel
theorem dX4_next_22 : decode cX4_next 22 = .ok (.aload_n 0, 1) := by decide +kernel
theorem dX4_next_23 : decode cX4_next 23 = .ok (.getfield 9, 3) := by decide +kernel
theorem dX4_next_26 : decode cX4_next 26 = .ok (.arraylength, 1) := by decide +kernel
theorem dX4_next_27 : decode cX4_next 27 = .ok (.if_icmp .ge 15, 3) := by decide +kernel
theorem dX4_next_30 : decode cX4_next 30 = .ok (.aload_n 0, 1) := by decide +kernel
theorem dX4_next_31 : decode cX4_next 31 = .ok (.getfield 9, 3) := by decide +kernel
theorem dX4_next_34 : decode cX4_next 34 = .ok (.aload_n 0, 1) := by decide +kernel
theorem dX4_next_35 : decode cX4_next 35 = .ok (.getfield 22, 3) := by decide +kernel
theorem dX4_next_38 : decode cX4_next 38 = .ok (.iaload, 1) := by decide +kernel
theorem dX4_next_39 : decode cX4_next 39 = .ok (.goto 4, 3) := by decide +kernel
theorem dX4_next_42 : decode cX4_next 42 = .ok (.iconst (-1), 1) := by decide +kernel
theorem dX4_next_43 : decode cX4_next 43 = .ok (.ireturn, 1) := by decide +kernel
theorem dX4_numbersOf_0 : decode cX4_numbersOf 0 = .ok (.iload_n 0, 1) := by decide +kernel
theorem dX4_numbersOf_1 : decode cX4_numbersOf 1 = .ok (.tableswitch 103 97 116 #[95, 103, 103, 103, 99, 103, 103, 103, 103, 103, 103, 103, 97, 103, 103, 103, 97, 103, 101, 99], 95) := by decide +kernel
theorem dX4_numbersOf_96 : decode cX4_numbersOf 96 = .ok (.iconst 4, 1) := by decide +kernel
theorem dX4_numbersOf_97 : decode cX4_numbersOf 97 = .ok (.ireturn, 1) := by decide +kernel
theorem dX4_numbersOf_98 : decode cX4_numbersOf 98 = .ok (.iconst 2, 1) := by decide +kernel
theorem dX4_numbersOf_99 : decode cX4_numbersOf 99 = .ok (.ireturn, 1) := by decide +kernel
theorem dX4_numbersOf_100 : decode cX4_numbersOf 100 = .ok (.iconst 1, 1) := by decide +kernel
theorem dX4_numbersOf_101 : decode cX4_numbersOf 101 = .ok (.ireturn, 1) := by decide +kernel
theorem dX4_numbersOf_102 : decode cX4_numbersOf 102 = .ok (.iconst 0, 1) := by decide +kernel
theorem dX4_numbersOf_103 : decode cX4_numbersOf 103 = .ok (.ireturn, 1) := by decide +kernel
theorem dX4_numbersOf_104 : decode cX4_numbersOf 104 = .ok (.iconst (-1), 1) := by decide +kernel
theorem dX4_numbersOf_105 : decode cX4_numbersOf 105 = .ok (.ireturn, 1) := by decide +kernel
set_option maxRecDepth 20000 in
theorem ggX5_init_X6_init : GoodIn wsX5_init wsX6_init := goodIn_r _ [15, 16, 2, 3, 17, 18, 24, 25, 26] (by decide +kernel) (by decide +kernel)
set_option maxRecDepth 20000 in
theorem gX5_init_X6_init : GoodIn wsX5_init (wsX6_init) := ggX5_init_X6_init
set_option maxRecDepth 20000 in
theorem ggX5_init_X3_init : GoodIn wsX5_init wsX3_init := goodIn_r _ [21, 22, 2, 3, 17, 23, 31, 32] (by decide +kernel) (by decide +kernel)
set_option maxRecDepth 20000 in
theorem gX5_init_X3_init : GoodIn wsX5_init (wsX3_init) := ggX5_init_X3_init
theorem dX5_init_0 : decode cX5_init 0 = .ok (.aload_n 0, 1) := by decide +kernel
theorem dX5_init_1 : decode cX5_init 1 = .ok (.invokespecial 3, 3) := by decide +kernel
theorem dX5_init_4 : decode cX5_init 4 = .ok (.aload_n 0, 1) := by decide +kernel
theorem dX5_init_5 : decode cX5_init 5 = .ok (.new 9, 3) := by decide +kernel
theorem dX5_init_8 : decode cX5_init 8 = .ok (.dup, 1) := by decide +kernel
theorem dX5_init_9 : decode cX5_init 9 = .ok (.invokespecial 11, 3) := by decide +kernel
theorem dX5_init_12 : decode cX5_init 12 = .ok (.putfield 12, 3) := by decide +kernel
theorem dX5_init_15 : decode cX5_init 15 = .ok (.aload_n 0, 1) := by decide +kernel
theorem dX5_init_16 : decode cX5_init 16 = .ok (.new 18, 3) := by decide +kernel
theorem dX5_init_19 : decode cX5_init 19 = .ok (.dup, 1) := by decide +kernel
theorem dX5_init_20 : decode cX5_init 20 = .ok (.invokespecial 20, 3) := by decide +kernel
theorem dX5_init_23 : decode cX5_init 23 = .ok (.putfield 21, 3) := by decide +kernel
theorem dX5_init_26 : decode cX5_init 26 = .ok (.aload_n 0, 1) := by decide +kernel
theorem dX5_init_27 : decode cX5_init 27 = .ok (.iconst 5, 1) := by decide +kernel
theorem dX5_init_28 : decode cX5_init 28 = .ok (.anewarray 9, 3) := by decide +kernel
theorem dX5_init_31 : decode cX5_init 31 = .ok (.putfield 25, 3) := by decide +kernel
theorem dX5_init_34 : decode cX5_init 34 = .ok (.iconst 0, 1) := by decide +kernel
theorem dX5_init_35 : decode cX5_init 35 = .ok (.istore_n 1, 1) := by decide +kernel
theorem dX5_init_36 : decode cX5_init 36 = .ok (.iload_n 1, 1) := by decide +kernel
theorem dX5_init_37 : decode cX5_init 37 = .ok (.aload_n 0, 1) := by decide +kernel
theorem dX5_init_38 : decode cX5_init 38 = .ok (.getfield 25, 3) := by decide +kernel
theorem dX5_init_41 : decode cX5_init 41 = .ok (.arraylength, 1) := by decide +kernel
theorem dX5_init_42 : decode cX5_init 42 = .ok (.if_icmp .ge 22, 3) := by decide +kernel
theorem dX5_init_45 : decode cX5_init 45 = .ok (.aload_n 0, 1) := by decide +kernel
theorem dX5_init_46 : decode cX5_init 46 = .ok (.getfield 25, 3) := by decide +kernel
theorem dX5_init_49 : decode cX5_init 49 = .ok (.iload_n 1, 1) := by decide +kernel
theorem dX5_init_50 : decode cX5_init 50 = .ok (.new 9, 3) := by decide +kernel
theorem dX5_init_53 : decode cX5_init 53 = .ok (.dup, 1) := by decide +kernel
theorem dX5_init_54 : decode cX5_init 54 = .ok (.invokespecial 11, 3) := by decide +kernel
theorem dX5_init_57 : decode cX5_init 57 = .ok (.aastore, 1) := by decide +kernel
theorem dX5_init_58 : decode cX5_init 58 = .ok (.iinc 1 1, 3) := by decide +kernel
theorem dX5_init_61 : decode cX5_init 61 = .ok (.goto (-25), 3) := by decide +kernel
theorem dX5_init_64 : decode cX5_init 64 = .ok (.return_, 1) := by decide +kernel
set_option maxRecDepth 20000 in
theorem ggX5_copyFrom_X6_copyFrom : GoodIn wsX5_copyFrom wsX6_copyFrom := goodIn_r _ [9, 10, 11, 12, 13, 14, 15, 16, 17, 18, 19, 20, 21, 22, 23, 38, 39, 40] (by decide +kernel) (by decide +kernel)
set_option maxRecDepth 20000 in
theorem gX5_copyFrom_X6_copyFrom : GoodIn wsX5_copyFrom (wsV RX5 29 RX6 yX6_copyFrom wsX6_copyFrom) := goodIn_app (goodIn_of _ (by decide +kernel)) ggX5_copyFrom_X6_copyFrom
set_option maxRecDepth 20000 in
theorem ggX5_copyFrom_X3_copyFrom : GoodIn wsX5_copyFrom wsX3_copyFrom := goodIn_r _ [28, 29, 30, 13, 14, 15, 31, 17, 18, 32, 33, 21, 22, 23, 41, 42] (by decide +kernel) (by decide +kernel)
set_option maxRecDepth 20000 in
theorem gX5_copyFrom_X3_copyFrom : GoodIn wsX5_copyFrom (wsV RX5 33 RX3 yX3_copyFrom wsX3_copyFrom) := goodIn_app (goodIn_of _ (by decide +kernel)) ggX5_copyFrom_X3_copyFrom
theorem dX5_copyFrom_0 : decode cX5_copyFrom 0 = .ok (.aload_n 0, 1) := by decide +kernel
theorem dX5_copyFrom_1 : decode cX5_copyFrom 1 = .ok (.getfield 12, 3) := by decide +kernel
theorem dX5_copyFrom_4 : decode cX5_copyFrom 4 = .ok (.aload_n 1, 1) := by decide +kernel
theorem dX5_copyFrom_5 : decode cX5_copyFrom 5 = .ok (.getfield 12, 3) := by decide +kernel
theorem dX5_copyFrom_8 : decode cX5_copyFrom 8 = .ok (.invokevirtual 29, 3) := by decide +kernel
theorem dX5_copyFrom_11 : decode cX5_copyFrom 11 = .ok (.aload_n 0, 1) := by decide +kernel
theorem dX5_copyFrom_12 : decode cX5_copyFrom 12 = .ok (.getfield 21, 3) := by decide +kernel
theorem dX5_copyFrom_15 : decode cX5_copyFrom 15 = .ok (.aload_n 1, 1) := by decide +kernel
theorem dX5_copyFrom_16 : decode cX5_copyFrom 16 = .ok (.getfield 21, 3) := by decide +kernel
theorem dX5_copyFrom_19 : decode cX5_copyFrom 19 = .ok (.invokevirtual 33, 3) := by decide +kernel
theorem dX5_copyFrom_22 : decode cX5_copyFrom 22 = .ok (.aload_n 0, 1) := by decide +kernel
theorem dX5_copyFrom_23 : decode cX5_copyFrom 23 = .ok (.aload_n 1, 1) := by decide +kernel
theorem dX5_copyFrom_24 : decode cX5_copyFrom 24 = .ok (.getfield 36, 3) := by decide +kernel
theorem dX5_copyFrom_27 : decode cX5_copyFrom 27 = .ok (.putfield 36, 3) := by decide +kernel
theorem dX5_copyFrom_30 : decode cX5_copyFrom 30 = .ok (.iconst 0, 1) := by decide +kernel
theorem dX5_copyFrom_31 : decode cX5_copyFrom 31 = .ok (.istore_n 2, 1) := by decide +kernel
theorem dX5_copyFrom_32 : decode cX5_copyFrom 32 = .ok (.iload_n 2, 1) := by decide +kernel
theorem dX5_copyFrom_33 : decode cX5_copyFrom 33 = .ok (.iconst 5, 1) := by decide +kernel
theorem dX5_copyFrom_34 : decode cX5_copyFrom 34 = .ok (.if_icmp .ge 32, 3) := by decide +kernel
theorem dX5_copyFrom_37 : decode cX5_copyFrom 37 = .ok (.iload_n 2, 1) := by decide +kernel
theorem dX5_copyFrom_38 : decode cX5_copyFrom 38 = .ok (.aload_n 0, 1) := by decide +kernel
theorem dX5_copyFrom_39 : decode cX5_copyFrom 39 = .ok (.getfield 36, 3) := by decide +kernel
theorem dX5_copyFrom_42 : decode cX5_copyFrom 42 = .ok (.if_icmp .ge 24, 3) := by decide +kernel
theorem dX5_copyFrom_45 : decode cX5_copyFrom 45 = .ok (.aload_n 0, 1) := by decide +kernel
theorem dX5_copyFrom_46 : decode cX5_copyFrom 46 = .ok (.getfield 25, 3) := by decide +kernel
theorem dX5_copyFrom_49 : decode cX5_copyFrom 49 = .ok (.iload_n 2, 1) := by decide +kernel
theorem dX5_copyFrom_50 : decode cX5_copyFrom 50 = .ok (.aaload, 1) := by decide +kernel
theorem dX5_copyFrom_51 : decode cX5_copyFrom 51 = .ok (.aload_n 1, 1) := by decide +kernel
theorem dX5_copyFrom_52 : decode cX5_copyFrom 52 = .ok (.getfield 25, 3) := by decide +kernel
theorem dX5_copyFrom_55 : decode cX5_copyFrom 55 = .ok (.iload_n 2, 1) := by decide +kernel
theorem dX5_copyFrom_56 : decode cX5_copyFrom 56 = .ok (.aaload, 1) := by decide +kernel
theorem dX5_copyFrom_57 : decode cX5_copyFrom 57 = .ok (.invokevirtual 29, 3) := by decide +kernel
theorem dX5_copyFrom_60 : decode cX5_copyFrom 60 = .ok (.iinc 2 1, 3) := by decide +kernel
theorem dX5_copyFrom_63 : decode cX5_copyFrom 63 = .ok (.goto (-31), 3) := by decide +kernel
theorem dX5_copyFrom_66 : decode cX5_copyFrom 66 = .ok (.return_, 1) := by decide +kernel
set_option maxRecDepth 20000 in
theorem ggX5_tryAdd_X5_isLine : GoodIn wsX5_tryAdd wsX5_isLine := goodIn_r _ [6, 7, 8, 9, 10, 11, 5, 12, 13, 14] (by decide +kernel) (by decide +kernel)
set_option maxRecDepth 20000 in
theorem gX5_tryAdd_X5_isLine : GoodIn wsX5_tryAdd (va_wsS RX5 40 yX5_isLine wsX5_isLine) := goodIn_app (goodIn_of _ (by decide +kernel)) ggX5_tryAdd_X5_isLine
set_option maxRecDepth 20000 in
theorem ggX5_tryAdd_X7_isBetween : GoodIn wsX5_tryAdd wsX7_isBetween := goodIn_r _ [9] (by decide +kernel) (by decide +kernel)
set_option maxRecDepth 20000 in
theorem gX5_tryAdd_X7_isBetween_n44 : GoodIn wsX5_tryAdd (wsX7_isBetween) := ggX5_tryAdd_X7_isBetween
set_option maxRecDepth 20000 in
theorem ggX5_tryAdd_X6_isFull : GoodIn wsX5_tryAdd wsX6_isFull := goodIn_r _ [19, 20, 34, 35, 36] (by decide +kernel) (by decide +kernel)
set_option maxRecDepth 20000 in
theorem gX5_tryAdd_X6_isFull : GoodIn wsX5_tryAdd (wsV RX5 48 RX6 yX6_isFull wsX6_isFull) := goodIn_app (goodIn_of _ (by decide +kernel)) ggX5_tryAdd_X6_isFull
set_option maxRecDepth 20000 in
theorem ggX5_tryAdd_X6_insert : GoodIn wsX5_tryAdd wsX6_insert := goodIn_r _ [24, 20, 25, 26, 27, 18, 28, 29, 34, 35, 36] (by decide +kernel) (by decide +kernel)
set_option maxRecDepth 20000 in
theorem gX5_tryAdd_X6_insert : GoodIn wsX5_tryAdd (wsV RX5 55 RX6 yX6_insert wsX6_insert) := goodIn_app (goodIn_of _ (by decide +kernel)) ggX5_tryAdd_X6_insert
theorem dX5_tryAdd_0 : decode cX5_tryAdd 0 = .ok (.iload_n 1, 1) := by decide +kernel
theorem dX5_tryAdd_1 : decode cX5_tryAdd 1 = .ok (.iload_n 2, 1) := by decide +kernel
theorem dX5_tryAdd_2 : decode cX5_tryAdd 2 = .ok (.invokestatic 40, 3) := by decide +kernel
theorem dX5_tryAdd_5 : decode cX5_tryAdd 5 = .ok (.ifCond .eq 25, 3) := by decide +kernel
theorem dX5_tryAdd_8 : decode cX5_tryAdd 8 = .ok (.iload 4, 2) := by decide +kernel
theorem dX5_tryAdd_10 : decode cX5_tryAdd 10 = .ok (.iconst 0, 1) := by decide +kernel
theorem dX5_tryAdd_11 : decode cX5_tryAdd 11 = .ok (.sipush 255, 3) := by decide +kernel
theorem dX5_tryAdd_14 : decode cX5_tryAdd 14 = .ok (.invokestatic 44, 3) := by decide +kernel
theorem dX5_tryAdd_17 : decode cX5_tryAdd 17 = .ok (.ifCond .eq 13, 3) := by decide +kernel
theorem dX5_tryAdd_20 : decode cX5_tryAdd 20 = .ok (.iload_n 3, 1) := by decide +kernel
theorem dX5_tryAdd_21 : decode cX5_tryAdd 21 = .ok (.iconst 0, 1) := by decide +kernel
theorem dX5_tryAdd_22 : decode cX5_tryAdd 22 = .ok (.iload 4, 2) := by decide +kernel
theorem dX5_tryAdd_24 : decode cX5_tryAdd 24 = .ok (.invokestatic 44, 3) := by decide +kernel
theorem dX5_tryAdd_27 : decode cX5_tryAdd 27 = .ok (.ifCond .ne 6, 3) := by decide +kernel
theorem dX5_tryAdd_30 : decode cX5_tryAdd 30 = .ok (.bipush (-2), 2) := by decide +kernel
theorem dX5_tryAdd_32 : decode cX5_tryAdd 32 = .ok (.ireturn, 1) := by decide +kernel
theorem dX5_tryAdd_33 : decode cX5_tryAdd 33 = .ok (.aload_n 0, 1) := by decide +kernel
theorem dX5_tryAdd_34 : decode cX5_tryAdd 34 = .ok (.getfield 12, 3) := by decide +kernel
theorem dX5_tryAdd_37 : decode cX5_tryAdd 37 = .ok (.invokevirtual 48, 3) := by decide +kernel
theorem dX5_tryAdd_40 : decode cX5_tryAdd 40 = .ok (.ifCond .eq 6, 3) := by decide +kernel
theorem dX5_tryAdd_43 : decode cX5_tryAdd 43 = .ok (.bipush (-3), 2) := by decide +kernel
theorem dX5_tryAdd_45 : decode cX5_tryAdd 45 = .ok (.ireturn, 1) := by decide +kernel
theorem dX5_tryAdd_46 : decode cX5_tryAdd 46 = .ok (.aload_n 0, 1) := by decide +kernel
theorem dX5_tryAdd_47 : decode cX5_tryAdd 47 = .ok (.getfield 12, 3) := by decide +kernel
theorem dX5_tryAdd_50 : decode cX5_tryAdd 50 = .ok (.iload_n 1, 1) := by decide +kernel
theorem dX5_tryAdd_51 : decode cX5_tryAdd 51 = .ok (.iload_n 2, 1) := by decide +kernel
theorem dX5_tryAdd_52 : decode cX5_tryAdd 52 = .ok (.iload_n 3, 1) := by decide +kernel
theorem dX5_tryAdd_53 : decode cX5_tryAdd 53 = .ok (.iload 4, 2) := by decide +kernel
theorem dX5_tryAdd_55 : decode cX5_tryAdd 55 = .ok (.aload_n 0, 1) := by decide +kernel
theorem dX5_tryAdd_56 : decode cX5_tryAdd 56 = .ok (.getfield 12, 3) := by decide +kernel
theorem dX5_tryAdd_59 : decode cX5_tryAdd 59 = .ok (.getfield 52, 3) := by decide +kernel
theorem dX5_tryAdd_62 : decode cX5_tryAdd 62 = .ok (.sipush 16384, 3) := by decide +kernel
theorem dX5_tryAdd_65 : decode cX5_tryAdd 65 = .ok (.invokevirtual 55, 3) := by decide +kernel
theorem dX5_tryAdd_68 : decode cX5_tryAdd 68 = .ok (.ireturn, 1) := by decide +kernel
set_option maxRecDepth 20000 in
theorem ggX5_tryAddThrough_X7_isBetween : GoodIn wsX5_tryAddThrough wsX7_isBetween := goodIn_r _ [4] (by decide +kernel) (by decide +kernel)
set_option maxRecDepth 20000 in
theorem gX5_tryAddThrough_X7_isBetween_n44 : GoodIn wsX5_tryAddThrough (wsX7_isBetween) := ggX5_tryAddThrough_X7_isBetween
set_option maxRecDepth 20000 in
theorem ggX5_tryAddThrough_X5_isOffset : GoodIn wsX5_tryAddThrough wsX5_isOffset := goodIn_r _ [8, 9, 10, 2, 3, 4] (by decide +kernel) (by decide +kernel)
set_option maxRecDepth 20000 in
theorem gX5_tryAddThrough_X5_isOffset : GoodIn wsX5_tryAddThrough (va_wsS RX5 59 yX5_isOffset wsX5_isOffset) := goodIn_app (goodIn_of _ (by decide +kernel)) ggX5_tryAddThrough_X5_isOffset
set_option maxRecDepth 20000 in
theorem ggX5_tryAddThrough_X5_isLine : GoodIn wsX5_tryAddThrough wsX5_isLine := goodIn_r _ [13, 2, 3, 4, 5, 6, 7, 8, 9, 10] (by decide +kernel) (by decide +kernel)
set_option maxRecDepth 20000 in
theorem gX5_tryAddThrough_X5_isLine : GoodIn wsX5_tryAddThrough (va_wsS RX5 40 yX5_isLine wsX5_isLine) := goodIn_app (goodIn_of _ (by decide +kernel)) ggX5_tryAddThrough_X5_isLine
set_option maxRecDepth 20000 in
theorem ggX5_tryAddThrough_X6_isFull : GoodIn wsX5_tryAddThrough wsX6_isFull := goodIn_r _ [18, 19, 33, 34, 35] (by decide +kernel) (by decide +kernel)
set_option maxRecDepth 20000 in
theorem gX5_tryAddThrough_X6_isFull : GoodIn wsX5_tryAddThrough (wsV RX5 48 RX6 yX6_isFull wsX6_isFull) := goodIn_app (goodIn_of _ (by decide +kernel)) ggX5_tryAddThrough_X6_isFull
set_option maxRecDepth 20000 in
theorem ggX5_tryAddThrough_X6_insert : GoodIn wsX5_tryAddThrough wsX6_insert := goodIn_r _ [23, 19, 24, 25, 26, 17, 27, 28, 33, 34, 35] (by decide +kernel) (by decide +kernel)
set_option maxRecDepth 20000 in
theorem gX5_tryAddThrough_X6_insert : GoodIn wsX5_tryAddThrough (wsV RX5 55 RX6 yX6_insert wsX6_insert) := goodIn_app (goodIn_of _ (by decide +kernel)) ggX5_tryAddThrough_X6_insert
theorem dX5_tryAddThrough_0 : decode cX5_tryAddThrough 0 = .ok (.iload_n 3, 1) := by decide +kernel
theorem dX5_tryAddThrough_1 : decode cX5_tryAddThrough 1 = .ok (.iconst 0, 1) := by decide +kernel
theorem dX5_tryAddThrough_2 : decode cX5_tryAddThrough 2 = .ok (.sipush 255, 3) := by decide +kernel
theorem dX5_tryAddThrough_5 : decode cX5_tryAddThrough 5 = .ok (.invokestatic 44, 3) := by decide +kernel
theorem dX5_tryAddThrough_8 : decode cX5_tryAddThrough 8 = .ok (.ifCond .eq 50, 3) := by decide +kernel
theorem dX5_tryAddThrough_11 : decode cX5_tryAddThrough 11 = .ok (.iload_n 1, 1) := by decide +kernel
theorem dX5_tryAddThrough_12 : decode cX5_tryAddThrough 12 = .ok (.iconst 0, 1) := by decide +kernel
theorem dX5_tryAddThrough_13 : decode cX5_tryAddThrough 13 = .ok (.iload_n 3, 1) := by decide +kernel
theorem dX5_tryAddThrough_14 : decode cX5_tryAddThrough 14 = .ok (.invokestatic 44, 3) := by decide +kernel
theorem dX5_tryAddThrough_17 : decode cX5_tryAddThrough 17 = .ok (.ifCond .eq 41, 3) := by decide +kernel
theorem dX5_tryAddThrough_20 : decode cX5_tryAddThrough 20 = .ok (.iload 6, 2) := by decide +kernel
theorem dX5_tryAddThrough_22 : decode cX5_tryAddThrough 22 = .ok (.iconst 0, 1) := by decide +kernel
theorem dX5_tryAddThrough_23 : decode cX5_tryAddThrough 23 = .ok (.sipush 16384, 3) := by decide +kernel
theorem dX5_tryAddThrough_26 : decode cX5_tryAddThrough 26 = .ok (.invokestatic 44, 3) := by decide +kernel
theorem dX5_tryAddThrough_29 : decode cX5_tryAddThrough 29 = .ok (.ifCond .eq 29, 3) := by decide +kernel
theorem dX5_tryAddThrough_32 : decode cX5_tryAddThrough 32 = .ok (.iload 5, 2) := by decide +kernel
theorem dX5_tryAddThrough_34 : decode cX5_tryAddThrough 34 = .ok (.iconst 0, 1) := by decide +kernel
theorem dX5_tryAddThrough_35 : decode cX5_tryAddThrough 35 = .ok (.iload 6, 2) := by decide +kernel
theorem dX5_tryAddThrough_37 : decode cX5_tryAddThrough 37 = .ok (.invokestatic 44, 3) := by decide +kernel
theorem dX5_tryAddThrough_40 : decode cX5_tryAddThrough 40 = .ok (.ifCond .eq 18, 3) := by decide +kernel
theorem dX5_tryAddThrough_43 : decode cX5_tryAddThrough 43 = .ok (.iload_n 2, 1) := by decide +kernel
theorem dX5_tryAddThrough_44 : decode cX5_tryAddThrough 44 = .ok (.invokestatic 59, 3) := by decide +kernel
theorem dX5_tryAddThrough_47 : decode cX5_tryAddThrough 47 = .ok (.ifCond .eq 11, 3) := by decide +kernel
theorem dX5_tryAddThrough_50 : decode cX5_tryAddThrough 50 = .ok (.iload 4, 2) := by decide +kernel
theorem dX5_tryAddThrough_52 : decode cX5_tryAddThrough 52 = .ok (.invokestatic 59, 3) := by decide +kernel
theorem dX5_tryAddThrough_55 : decode cX5_tryAddThrough 55 = .ok (.ifCond .ne 6, 3) := by decide +kernel
theorem dX5_tryAddThrough_58 : decode cX5_tryAddThrough 58 = .ok (.bipush (-2), 2) := by decide +kernel
theorem dX5_tryAddThrough_60 : decode cX5_tryAddThrough 60 = .ok (.ireturn, 1) := by decide +kernel
theorem dX5_tryAddThrough_61 : decode cX5_tryAddThrough 61 = .ok (.iload_n 3, 1) := by decide +kernel
theorem dX5_tryAddThrough_62 : decode cX5_tryAddThrough 62 = .ok (.iload_n 1, 1) := by decide +kernel
theorem dX5_tryAddThrough_63 : decode cX5_tryAddThrough 63 = .ok (.isub, 1) := by decide +kernel
theorem dX5_tryAddThrough_64 : decode cX5_tryAddThrough 64 = .ok (.istore 7, 2) := by decide +kernel
theorem dX5_tryAddThrough_66 : decode cX5_tryAddThrough 66 = .ok (.iload 4, 2) := by decide +kernel
theorem dX5_tryAddThrough_68 : decode cX5_tryAddThrough 68 = .ok (.iload_n 2, 1) := by decide +kernel
theorem dX5_tryAddThrough_69 : decode cX5_tryAddThrough 69 = .ok (.isub, 1) := by decide +kernel
theorem dX5_tryAddThrough_70 : decode cX5_tryAddThrough 70 = .ok (.istore 8, 2) := by decide +kernel
theorem dX5_tryAddThrough_72 : decode cX5_tryAddThrough 72 = .ok (.iload 7, 2) := by decide +kernel
theorem dX5_tryAddThrough_74 : decode cX5_tryAddThrough 74 = .ok (.ifCond .ne 11, 3) := by decide +kernel
theorem dX5_tryAddThrough_77 : decode cX5_tryAddThrough 77 = .ok (.iload 8, 2) := by decide +kernel
theorem dX5_tryAddThrough_79 : decode cX5_tryAddThrough 79 = .ok (.ifCond .eq 17, 3) := by decide +kernel
theorem dX5_tryAddThrough_82 : decode cX5_tryAddThrough 82 = .ok (.goto 11, 3) := by decide +kernel
theorem dX5_tryAddThrough_85 : decode cX5_tryAddThrough 85 = .ok (.iload 8, 2) := by decide +kernel
theorem dX5_tryAddThrough_87 : decode cX5_tryAddThrough 87 = .ok (.iload 7, 2) := by decide +kernel
theorem dX5_tryAddThrough_89 : decode cX5_tryAddThrough 89 = .ok (.irem, 1) := by decide +kernel
theorem dX5_tryAddThrough_90 : decode cX5_tryAddThrough 90 = .ok (.ifCond .eq 6, 3) := by decide +kernel
theorem dX5_tryAddThrough_93 : decode cX5_tryAddThrough 93 = .ok (.bipush (-2), 2) := by decide +kernel
theorem dX5_tryAddThrough_95 : decode cX5_tryAddThrough 95 = .ok (.ireturn, 1) := by decide +kernel
theorem dX5_tryAddThrough_96 : decode cX5_tryAddThrough 96 = .ok (.iload 7, 2) := by decide +kernel
theorem dX5_tryAddThrough_98 : decode cX5_tryAddThrough 98 = .ok (.ifCond .ne 7, 3) := by decide +kernel
theorem dX5_tryAddThrough_101 : decode cX5_tryAddThrough 101 = .ok (.iconst 0, 1) := by decide +kernel
theorem dX5_tryAddThrough_102 : decode cX5_tryAddThrough 102 = .ok (.goto 8, 3) := by decide +kernel
theorem dX5_tryAddThrough_105 : decode cX5_tryAddThrough 105 = .ok (.iload 8, 2) := by decide +kernel
theorem dX5_tryAddThrough_107 : decode cX5_tryAddThrough 107 = .ok (.iload 7, 2) := by decide +kernel
theorem dX5_tryAddThrough_109 : decode cX5_tryAddThrough 109 = .ok (.idiv, 1) := by decide +kernel
theorem dX5_tryAddThrough_110 : decode cX5_tryAddThrough 110 = .ok (.istore 9, 2) := by decide +kernel
theorem dX5_tryAddThrough_112 : decode cX5_tryAddThrough 112 = .ok (.iload_n 2, 1) := by decide +kernel
theorem dX5_tryAddThrough_113 : decode cX5_tryAddThrough 113 = .ok (.iload 9, 2) := by decide +kernel
theorem dX5_tryAddThrough_115 : decode cX5_tryAddThrough 115 = .ok (.iload_n 1, 1) := by decide +kernel
theorem dX5_tryAddThrough_116 : decode cX5_tryAddThrough 116 = .ok (.imul, 1) := by decide +kernel
theorem dX5_tryAddThrough_117 : decode cX5_tryAddThrough 117 = .ok (.isub, 1) := by decide +kernel
theorem dX5_tryAddThrough_118 : decode cX5_tryAddThrough 118 = .ok (.istore 10, 2) := by decide +kernel
theorem dX5_tryAddThrough_120 : decode cX5_tryAddThrough 120 = .ok (.iload 9, 2) := by decide +kernel
theorem dX5_tryAddThrough_122 : decode cX5_tryAddThrough 122 = .ok (.iload 10, 2) := by decide +kernel
theorem dX5_tryAddThrough_124 : decode cX5_tryAddThrough 124 = .ok (.invokestatic 40, 3) := by decide +kernel
theorem dX5_tryAddThrough_127 : decode cX5_tryAddThrough 127 = .ok (.ifCond .ne 6, 3) := by decide +kernel
theorem dX5_tryAddThrough_130 : decode cX5_tryAddThrough 130 = .ok (.bipush (-2), 2) := by decide +kernel
theorem dX5_tryAddThrough_132 : decode cX5_tryAddThrough 132 = .ok (.ireturn, 1) := by decide +kernel
theorem dX5_tryAddThrough_133 : decode cX5_tryAddThrough 133 = .ok (.aload_n 0, 1) := by decide +kernel
theorem dX5_tryAddThrough_134 : decode cX5_tryAddThrough 134 = .ok (.getfield 12, 3) := by decide +kernel
theorem dX5_tryAddThrough_137 : decode cX5_tryAddThrough 137 = .ok (.invokevirtual 48, 3) := by decide +kernel
theorem dX5_tryAddThrough_140 : decode cX5_tryAddThrough 140 = .ok (.ifCond .eq 6, 3) := by decide +kernel
theorem dX5_tryAddThrough_143 : decode cX5_tryAddThrough 143 = .ok (.bipush (-3), 2) := by decide +kernel
theorem dX5_tryAddThrough_145 : decode cX5_tryAddThrough 145 = .ok (.ireturn, 1) := by decide +kernel
theorem dX5_tryAddThrough_146 : decode cX5_tryAddThrough 146 = .ok (.aload_n 0, 1) := by decide +kernel
theorem dX5_tryAddThrough_147 : decode cX5_tryAddThrough 147 = .ok (.getfield 12, 3) := by decide +kernel
theorem dX5_tryAddThrough_150 : decode cX5_tryAddThrough 150 = .ok (.iload 9, 2) := by decide +kernel
theorem dX5_tryAddThrough_152 : decode cX5_tryAddThrough 152 = .ok (.iload 10, 2) := by decide +kernel
theorem dX5_tryAddThrough_154 : decode cX5_tryAddThrough 154 = .ok (.iload_n 1, 1) := by decide +kernel
theorem dX5_tryAddThrough_155 : decode cX5_tryAddThrough 155 = .ok (.iload_n 3, 1) := by decide +kernel
theorem dX5_tryAddThrough_156 : decode cX5_tryAddThrough 156 = .ok (.iload 5, 2) := by decide +kernel
theorem dX5_tryAddThrough_158 : decode cX5_tryAddThrough 158 = .ok (.iload 6, 2) := by decide +kernel
theorem dX5_tryAddThrough_160 : decode cX5_tryAddThrough 160 = .ok (.invokevirtual 55, 3) := by decide +kernel
theorem dX5_tryAddThrough_163 : decode cX5_tryAddThrough 163 = .ok (.ireturn, 1) := by decide +kernel
set_option maxRecDepth 20000 in
theorem ggX5_tryEnd_X6_has : GoodIn wsX5_tryEnd wsX6_has := goodIn_r _ [7, 8, 27, 28, 29] (by decide +kernel) (by decide +kernel)
set_option maxRecDepth 20000 in
theorem gX5_tryEnd_X6_has : GoodIn wsX5_tryEnd (wsV RX5 63 RX6 yX6_has wsX6_has) := goodIn_app (goodIn_of _ (by decide +kernel)) ggX5_tryEnd_X6_has
set_option maxRecDepth 20000 in
theorem ggX5_tryEnd_X6_isLive : GoodIn wsX5_tryEnd wsX6_isLive := goodIn_r _ [12, 13, 14, 15, 6, 16, 17, 27, 28, 29] (by decide +kernel) (by decide +kernel)
set_option maxRecDepth 20000 in
theorem gX5_tryEnd_X6_isLive : GoodIn wsX5_tryEnd (wsV RX5 66 RX6 yX6_isLive wsX6_isLive) := goodIn_app (goodIn_of _ (by decide +kernel)) ggX5_tryEnd_X6_isLive
set_option maxRecDepth 20000 in
theorem ggX5_tryEnd_X6_set : GoodIn wsX5_tryEnd wsX6_set := goodIn_r _ [21, 17, 27, 28, 29] (by decide +kernel) (by decide +kernel)
set_option maxRecDepth 20000 in
theorem gX5_tryEnd_X6_set : GoodIn wsX5_tryEnd (wsV RX5 69 RX6 yX6_set wsX6_set) := goodIn_app (goodIn_of _ (by decide +kernel)) ggX5_tryEnd_X6_set
set_option maxRecDepth 20000 in
theorem ggX5_tryEnd_X6_value : GoodIn wsX5_tryEnd wsX6_value := goodIn_r _ [16, 17, 27, 28, 29] (by decide +kernel) (by decide +kernel)
set_option maxRecDepth 20000 in
theorem gX5_tryEnd_X6_value : GoodIn wsX5_tryEnd (wsV RX5 73 RX6 yX6_value wsX6_value) := goodIn_app (goodIn_of _ (by decide +kernel)) ggX5_tryEnd_X6_value
theorem dX5_tryEnd_0 : decode cX5_tryEnd 0 = .ok (.aload_n 0, 1) := by decide +kernel
theorem dX5_tryEnd_1 : decode cX5_tryEnd 1 = .ok (.getfield 12, 3) := by decide +kernel
theorem dX5_tryEnd_4 : decode cX5_tryEnd 4 = .ok (.iload_n 1, 1) := by decide +kernel
theorem dX5_tryEnd_5 : decode cX5_tryEnd 5 = .ok (.invokevirtual 63, 3) := by decide +kernel
theorem dX5_tryEnd_8 : decode cX5_tryEnd 8 = .ok (.ifCond .ne 5, 3) := by decide +kernel
theorem dX5_tryEnd_11 : decode cX5_tryEnd 11 = .ok (.iconst (-1), 1) := by decide +kernel
theorem dX5_tryEnd_12 : decode cX5_tryEnd 12 = .ok (.ireturn, 1) := by decide +kernel
theorem dX5_tryEnd_13 : decode cX5_tryEnd 13 = .ok (.aload_n 0, 1) := by decide +kernel
theorem dX5_tryEnd_14 : decode cX5_tryEnd 14 = .ok (.getfield 12, 3) := by decide +kernel
theorem dX5_tryEnd_17 : decode cX5_tryEnd 17 = .ok (.iload_n 1, 1) := by decide +kernel
theorem dX5_tryEnd_18 : decode cX5_tryEnd 18 = .ok (.aload_n 0, 1) := by decide +kernel
theorem dX5_tryEnd_19 : decode cX5_tryEnd 19 = .ok (.getfield 12, 3) := by decide +kernel
theorem dX5_tryEnd_22 : decode cX5_tryEnd 22 = .ok (.getfield 52, 3) := by decide +kernel
theorem dX5_tryEnd_25 : decode cX5_tryEnd 25 = .ok (.invokevirtual 66, 3) := by decide +kernel
theorem dX5_tryEnd_28 : decode cX5_tryEnd 28 = .ok (.ifCond .ne 6, 3) := by decide +kernel
theorem dX5_tryEnd_31 : decode cX5_tryEnd 31 = .ok (.bipush (-3), 2) := by decide +kernel
theorem dX5_tryEnd_33 : decode cX5_tryEnd 33 = .ok (.ireturn, 1) := by decide +kernel
theorem dX5_tryEnd_34 : decode cX5_tryEnd 34 = .ok (.aload_n 0, 1) := by decide +kernel
theorem dX5_tryEnd_35 : decode cX5_tryEnd 35 = .ok (.getfield 12, 3) := by decide +kernel
theorem dX5_tryEnd_38 : decode cX5_tryEnd 38 = .ok (.iload_n 1, 1) := by decide +kernel
theorem dX5_tryEnd_39 : decode cX5_tryEnd 39 = .ok (.iconst 5, 1) := by decide +kernel
theorem dX5_tryEnd_40 : decode cX5_tryEnd 40 = .ok (.aload_n 0, 1) := by decide +kernel
theorem dX5_tryEnd_41 : decode cX5_tryEnd 41 = .ok (.getfield 12, 3) := by decide +kernel
theorem dX5_tryEnd_44 : decode cX5_tryEnd 44 = .ok (.getfield 52, 3) := by decide +kernel
theorem dX5_tryEnd_47 : decode cX5_tryEnd 47 = .ok (.invokevirtual 69, 3) := by decide +kernel
theorem dX5_tryEnd_50 : decode cX5_tryEnd 50 = .ok (.aload_n 0, 1) := by decide +kernel
theorem dX5_tryEnd_51 : decode cX5_tryEnd 51 = .ok (.getfield 12, 3) := by decide +kernel
theorem dX5_tryEnd_54 : decode cX5_tryEnd 54 = .ok (.getfield 52, 3) := by decide +kernel
theorem dX5_tryEnd_57 : decode cX5_tryEnd 57 = .ok (.aload_n 0, 1) := by decide +kernel
theorem dX5_tryEnd_58 : decode cX5_tryEnd 58 = .ok (.getfield 12, 3) := by decide +kernel
theorem dX5_tryEnd_61 : decode cX5_tryEnd 61 = .ok (.iload_n 1, 1) := by decide +kernel
theorem dX5_tryEnd_62 : decode cX5_tryEnd 62 = .ok (.iconst 4, 1) := by decide +kernel
theorem dX5_tryEnd_63 : decode cX5_tryEnd 63 = .ok (.invokevirtual 73, 3) := by decide +kernel
theorem dX5_tryEnd_66 : decode cX5_tryEnd 66 = .ok (.isub, 1) := by decide +kernel
theorem dX5_tryEnd_67 : decode cX5_tryEnd 67 = .ok (.ireturn, 1) := by decide +kernel
set_option maxRecDepth 20000 in
theorem ggX5_tryLift_X6_has : GoodIn wsX5_tryLift wsX6_has := goodIn_r _ [7, 8, 45, 46, 47] (by decide +kernel) (by decide +kernel)
set_option maxRecDepth 20000 in
theorem gX5_tryLift_X6_has : GoodIn wsX5_tryLift (wsV RX5 63 RX6 yX6_has wsX6_has) := goodIn_app (goodIn_of _ (by decide +kernel)) ggX5_tryLift_X6_has
set_option maxRecDepth 20000 in
theorem ggX5_tryLift_X5_isOffset : GoodIn wsX5_tryLift wsX5_isOffset := goodIn_r _ [12, 13, 14, 15, 16, 17] (by decide +kernel) (by decide +kernel)
set_option maxRecDepth 20000 in
theorem gX5_tryLift_X5_isOffset : GoodIn wsX5_tryLift (va_wsS RX5 59 yX5_isOffset wsX5_isOffset) := goodIn_app (goodIn_of _ (by decide +kernel)) ggX5_tryLift_X5_isOffset
set_option maxRecDepth 20000 in
theorem ggX5_tryLift_X6_value : GoodIn wsX5_tryLift wsX6_value := goodIn_r _ [21, 22, 45, 46, 47] (by decide +kernel) (by decide +kernel)
set_option maxRecDepth 20000 in
theorem gX5_tryLift_X6_value : GoodIn wsX5_tryLift (wsV RX5 73 RX6 yX6_value wsX6_value) := goodIn_app (goodIn_of _ (by decide +kernel)) ggX5_tryLift_X6_value
set_option maxRecDepth 20000 in
theorem ggX5_tryLift_X6_isLive : GoodIn wsX5_tryLift wsX6_isLive := goodIn_r _ [26, 27, 19, 20, 6, 21, 22, 45, 46, 47] (by decide +kernel) (by decide +kernel)
set_option maxRecDepth 20000 in
theorem gX5_tryLift_X6_isLive : GoodIn wsX5_tryLift (wsV RX5 66 RX6 yX6_isLive wsX6_isLive) := goodIn_app (goodIn_of _ (by decide +kernel)) ggX5_tryLift_X6_isLive
set_option maxRecDepth 20000 in
theorem ggX5_tryLift_X6_isFull : GoodIn wsX5_tryLift wsX6_isFull := goodIn_r _ [31, 8, 45, 46, 47] (by decide +kernel) (by decide +kernel)
set_option maxRecDepth 20000 in
theorem gX5_tryLift_X6_isFull : GoodIn wsX5_tryLift (wsV RX5 48 RX6 yX6_isFull wsX6_isFull) := goodIn_app (goodIn_of _ (by decide +kernel)) ggX5_tryLift_X6_isFull
set_option maxRecDepth 20000 in
theorem ggX5_tryLift_X6_set : GoodIn wsX5_tryLift wsX6_set := goodIn_r _ [35, 22, 45, 46, 47] (by decide +kernel) (by decide +kernel)
set_option maxRecDepth 20000 in
theorem gX5_tryLift_X6_set : GoodIn wsX5_tryLift (wsV RX5 69 RX6 yX6_set wsX6_set) := goodIn_app (goodIn_of _ (by decide +kernel)) ggX5_tryLift_X6_set
set_option maxRecDepth 20000 in
theorem ggX5_tryLift_X6_insert : GoodIn wsX5_tryLift wsX6_insert := goodIn_r _ [39, 8, 40, 33, 34, 6, 35, 22, 45, 46, 47] (by decide +kernel) (by decide +kernel)
set_option maxRecDepth 20000 in
theorem gX5_tryLift_X6_insert : GoodIn wsX5_tryLift (wsV RX5 55 RX6 yX6_insert wsX6_insert) := goodIn_app (goodIn_of _ (by decide +kernel)) ggX5_tryLift_X6_insert
theorem dX5_tryLift_0 : decode cX5_tryLift 0 = .ok (.aload_n 0, 1) := by decide +kernel
theorem dX5_tryLift_1 : decode cX5_tryLift 1 = .ok (.getfield 12, 3) := by decide +kernel
theorem dX5_tryLift_4 : decode cX5_tryLift 4 = .ok (.iload_n 1, 1) := by decide +kernel
theorem dX5_tryLift_5 : decode cX5_tryLift 5 = .ok (.invokevirtual 63, 3) := by decide +kernel
theorem dX5_tryLift_8 : decode cX5_tryLift 8 = .ok (.ifCond .ne 5, 3) := by decide +kernel
theorem dX5_tryLift_11 : decode cX5_tryLift 11 = .ok (.iconst (-1), 1) := by decide +kernel
theorem dX5_tryLift_12 : decode cX5_tryLift 12 = .ok (.ireturn, 1) := by decide +kernel
theorem dX5_tryLift_13 : decode cX5_tryLift 13 = .ok (.iload_n 2, 1) := by decide +kernel
theorem dX5_tryLift_14 : decode cX5_tryLift 14 = .ok (.invokestatic 59, 3) := by decide +kernel
theorem dX5_tryLift_17 : decode cX5_tryLift 17 = .ok (.ifCond .eq 20, 3) := by decide +kernel
theorem dX5_tryLift_20 : decode cX5_tryLift 20 = .ok (.aload_n 0, 1) := by decide +kernel
theorem dX5_tryLift_21 : decode cX5_tryLift 21 = .ok (.getfield 12, 3) := by decide +kernel
theorem dX5_tryLift_24 : decode cX5_tryLift 24 = .ok (.iload_n 1, 1) := by decide +kernel
theorem dX5_tryLift_25 : decode cX5_tryLift 25 = .ok (.iconst 1, 1) := by decide +kernel
theorem dX5_tryLift_26 : decode cX5_tryLift 26 = .ok (.invokevirtual 73, 3) := by decide +kernel
theorem dX5_tryLift_29 : decode cX5_tryLift 29 = .ok (.iload_n 2, 1) := by decide +kernel
theorem dX5_tryLift_30 : decode cX5_tryLift 30 = .ok (.iadd, 1) := by decide +kernel
theorem dX5_tryLift_31 : decode cX5_tryLift 31 = .ok (.invokestatic 59, 3) := by decide +kernel
theorem dX5_tryLift_34 : decode cX5_tryLift 34 = .ok (.ifCond .ne 6, 3) := by decide +kernel
theorem dX5_tryLift_37 : decode cX5_tryLift 37 = .ok (.bipush (-2), 2) := by decide +kernel
theorem dX5_tryLift_39 : decode cX5_tryLift 39 = .ok (.ireturn, 1) := by decide +kernel
theorem dX5_tryLift_40 : decode cX5_tryLift 40 = .ok (.aload_n 0, 1) := by decide +kernel
theorem dX5_tryLift_41 : decode cX5_tryLift 41 = .ok (.getfield 12, 3) := by decide +kernel
theorem dX5_tryLift_44 : decode cX5_tryLift 44 = .ok (.iload_n 1, 1) := by decide +kernel
theorem dX5_tryLift_45 : decode cX5_tryLift 45 = .ok (.aload_n 0, 1) := by decide +kernel
theorem dX5_tryLift_46 : decode cX5_tryLift 46 = .ok (.getfield 12, 3) := by decide +kernel
theorem dX5_tryLift_49 : decode cX5_tryLift 49 = .ok (.getfield 52, 3) := by decide +kernel
theorem dX5_tryLift_52 : decode cX5_tryLift 52 = .ok (.invokevirtual 66, 3) := by decide +kernel
theorem dX5_tryLift_55 : decode cX5_tryLift 55 = .ok (.ifCond .eq 13, 3) := by decide +kernel
theorem dX5_tryLift_58 : decode cX5_tryLift 58 = .ok (.aload_n 0, 1) := by decide +kernel
theorem dX5_tryLift_59 : decode cX5_tryLift 59 = .ok (.getfield 12, 3) := by decide +kernel
theorem dX5_tryLift_62 : decode cX5_tryLift 62 = .ok (.invokevirtual 48, 3) := by decide +kernel
theorem dX5_tryLift_65 : decode cX5_tryLift 65 = .ok (.ifCond .eq 6, 3) := by decide +kernel
theorem dX5_tryLift_68 : decode cX5_tryLift 68 = .ok (.bipush (-3), 2) := by decide +kernel
theorem dX5_tryLift_70 : decode cX5_tryLift 70 = .ok (.ireturn, 1) := by decide +kernel
theorem dX5_tryLift_71 : decode cX5_tryLift 71 = .ok (.aload_n 0, 1) := by decide +kernel
theorem dX5_tryLift_72 : decode cX5_tryLift 72 = .ok (.getfield 12, 3) := by decide +kernel
theorem dX5_tryLift_75 : decode cX5_tryLift 75 = .ok (.iload_n 1, 1) := by decide +kernel
theorem dX5_tryLift_76 : decode cX5_tryLift 76 = .ok (.iconst 5, 1) := by decide +kernel
theorem dX5_tryLift_77 : decode cX5_tryLift 77 = .ok (.invokevirtual 73, 3) := by decide +kernel
theorem dX5_tryLift_80 : decode cX5_tryLift 80 = .ok (.istore_n 3, 1) := by decide +kernel
theorem dX5_tryLift_81 : decode cX5_tryLift 81 = .ok (.aload_n 0, 1) := by decide +kernel
theorem dX5_tryLift_82 : decode cX5_tryLift 82 = .ok (.getfield 12, 3) := by decide +kernel
theorem dX5_tryLift_85 : decode cX5_tryLift 85 = .ok (.iload_n 1, 1) := by decide +kernel
theorem dX5_tryLift_86 : decode cX5_tryLift 86 = .ok (.iconst 5, 1) := by decide +kernel
theorem dX5_tryLift_87 : decode cX5_tryLift 87 = .ok (.aload_n 0, 1) := by decide +kernel
theorem dX5_tryLift_88 : decode cX5_tryLift 88 = .ok (.getfield 12, 3) := by decide +kernel
theorem dX5_tryLift_91 : decode cX5_tryLift 91 = .ok (.getfield 52, 3) := by decide +kernel
theorem dX5_tryLift_94 : decode cX5_tryLift 94 = .ok (.invokevirtual 69, 3) := by decide +kernel
theorem dX5_tryLift_97 : decode cX5_tryLift 97 = .ok (.aload_n 0, 1) := by decide +kernel
theorem dX5_tryLift_98 : decode cX5_tryLift 98 = .ok (.getfield 12, 3) := by decide +kernel
theorem dX5_tryLift_101 : decode cX5_tryLift 101 = .ok (.aload_n 0, 1) := by decide +kernel
theorem dX5_tryLift_102 : decode cX5_tryLift 102 = .ok (.getfield 12, 3) := by decide +kernel
theorem dX5_tryLift_105 : decode cX5_tryLift 105 = .ok (.iload_n 1, 1) := by decide +kernel
theorem dX5_tryLift_106 : decode cX5_tryLift 106 = .ok (.iconst 0, 1) := by decide +kernel
theorem dX5_tryLift_107 : decode cX5_tryLift 107 = .ok (.invokevirtual 73, 3) := by decide +kernel
theorem dX5_tryLift_110 : decode cX5_tryLift 110 = .ok (.aload_n 0, 1) := by decide +kernel
theorem dX5_tryLift_111 : decode cX5_tryLift 111 = .ok (.getfield 12, 3) := by decide +kernel
theorem dX5_tryLift_114 : decode cX5_tryLift 114 = .ok (.iload_n 1, 1) := by decide +kernel
theorem dX5_tryLift_115 : decode cX5_tryLift 115 = .ok (.iconst 1, 1) := by decide +kernel
theorem dX5_tryLift_116 : decode cX5_tryLift 116 = .ok (.invokevirtual 73, 3) := by decide +kernel
theorem dX5_tryLift_119 : decode cX5_tryLift 119 = .ok (.iload_n 2, 1) := by decide +kernel
theorem dX5_tryLift_120 : decode cX5_tryLift 120 = .ok (.iadd, 1) := by decide +kernel
theorem dX5_tryLift_121 : decode cX5_tryLift 121 = .ok (.aload_n 0, 1) := by decide +kernel
theorem dX5_tryLift_122 : decode cX5_tryLift 122 = .ok (.getfield 12, 3) := by decide +kernel
theorem dX5_tryLift_125 : decode cX5_tryLift 125 = .ok (.iload_n 1, 1) := by decide +kernel
theorem dX5_tryLift_126 : decode cX5_tryLift 126 = .ok (.iconst 2, 1) := by decide +kernel
theorem dX5_tryLift_127 : decode cX5_tryLift 127 = .ok (.invokevirtual 73, 3) := by decide +kernel
theorem dX5_tryLift_130 : decode cX5_tryLift 130 = .ok (.aload_n 0, 1) := by decide +kernel
theorem dX5_tryLift_131 : decode cX5_tryLift 131 = .ok (.getfield 12, 3) := by decide +kernel
theorem dX5_tryLift_134 : decode cX5_tryLift 134 = .ok (.iload_n 1, 1) := by decide +kernel
theorem dX5_tryLift_135 : decode cX5_tryLift 135 = .ok (.iconst 3, 1) := by decide +kernel
theorem dX5_tryLift_136 : decode cX5_tryLift 136 = .ok (.invokevirtual 73, 3) := by decide +kernel
theorem dX5_tryLift_139 : decode cX5_tryLift 139 = .ok (.aload_n 0, 1) := by decide +kernel
theorem dX5_tryLift_140 : decode cX5_tryLift 140 = .ok (.getfield 12, 3) := by decide +kernel
theorem dX5_tryLift_143 : decode cX5_tryLift 143 = .ok (.getfield 52, 3) := by decide +kernel
theorem dX5_tryLift_146 : decode cX5_tryLift 146 = .ok (.iload_n 3, 1) := by decide +kernel
theorem dX5_tryLift_147 : decode cX5_tryLift 147 = .ok (.invokevirtual 55, 3) := by decide +kernel
theorem dX5_tryLift_150 : decode cX5_tryLift 150 = .ok (.ireturn, 1) := by decide +kernel
set_option maxRecDepth 20000 in
theorem ggX5_tryPass_X7_isBetween : GoodIn wsX5_tryPass wsX7_isBetween := goodIn_r _ [5] (by decide +kernel) (by decide +kernel)
set_option maxRecDepth 20000 in
theorem gX5_tryPass_X7_isBetween_n44 : GoodIn wsX5_tryPass (wsX7_isBetween) := ggX5_tryPass_X7_isBetween
theorem dX5_tryPass_0 : decode cX5_tryPass 0 = .ok (.iload_n 1, 1) := by decide +kernel
theorem dX5_tryPass_1 : decode cX5_tryPass 1 = .ok (.iconst 0, 1) := by decide +kernel
theorem dX5_tryPass_2 : decode cX5_tryPass 2 = .ok (.sipush 1000, 3) := by decide +kernel
theorem dX5_tryPass_5 : decode cX5_tryPass 5 = .ok (.invokestatic 44, 3) := by decide +kernel
theorem dX5_tryPass_8 : decode cX5_tryPass 8 = .ok (.ifCond .ne 6, 3) := by decide +kernel
theorem dX5_tryPass_11 : decode cX5_tryPass 11 = .ok (.bipush (-2), 2) := by decide +kernel
theorem dX5_tryPass_13 : decode cX5_tryPass 13 = .ok (.ireturn, 1) := by decide +kernel
theorem dX5_tryPass_14 : decode cX5_tryPass 14 = .ok (.aload_n 0, 1) := by decide +kernel
theorem dX5_tryPass_15 : decode cX5_tryPass 15 = .ok (.getfield 12, 3) := by decide +kernel
theorem dX5_tryPass_18 : decode cX5_tryPass 18 = .ok (.getfield 52, 3) := by decide +kernel
theorem dX5_tryPass_21 : decode cX5_tryPass 21 = .ok (.iload_n 1, 1) := by decide +kernel
theorem dX5_tryPass_22 : decode cX5_tryPass 22 = .ok (.iadd, 1) := by decide +kernel
theorem dX5_tryPass_23 : decode cX5_tryPass 23 = .ok (.sipush 16384, 3) := by decide +kernel
theorem dX5_tryPass_26 : decode cX5_tryPass 26 = .ok (.if_icmp .lt 6, 3) := by decide +kernel
theorem dX5_tryPass_29 : decode cX5_tryPass 29 = .ok (.bipush (-3), 2) := by decide +kernel
theorem dX5_tryPass_31 : decode cX5_tryPass 31 = .ok (.ireturn, 1) := by decide +kernel
theorem dX5_tryPass_32 : decode cX5_tryPass 32 = .ok (.aload_n 0, 1) := by decide +kernel
theorem dX5_tryPass_33 : decode cX5_tryPass 33 = .ok (.getfield 12, 3) := by decide +kernel
theorem dX5_tryPass_36 : decode cX5_tryPass 36 = .ok (.dup, 1) := by decide +kernel
theorem dX5_tryPass_37 : decode cX5_tryPass 37 = .ok (.getfield 52, 3) := by decide +kernel
theorem dX5_tryPass_40 : decode cX5_tryPass 40 = .ok (.iload_n 1, 1) := by decide +kernel
theorem dX5_tryPass_41 : decode cX5_tryPass 41 = .ok (.iadd, 1) := by decide +kernel
theorem dX5_tryPass_42 : decode cX5_tryPass 42 = .ok (.putfield 52, 3) := by decide +kernel
theorem dX5_tryPass_45 : decode cX5_tryPass 45 = .ok (.aload_n 0, 1) := by decide +kernel
theorem dX5_tryPass_46 : decode cX5_tryPass 46 = .ok (.getfield 12, 3) := by decide +kernel
theorem dX5_tryPass_49 : decode cX5_tryPass 49 = .ok (.getfield 52, 3) := by decide +kernel
theorem dX5_tryPass_52 : decode cX5_tryPass 52 = .ok (.ireturn, 1) := by decide +kernel
set_option maxRecDepth 20000 in
theorem ggX5_tryCollect_X7_isBetween : GoodIn wsX5_tryCollect wsX7_isBetween := goodIn_r _ [4] (by decide +kernel) (by decide +kernel)
set_option maxRecDepth 20000 in
theorem gX5_tryCollect_X7_isBetween_n44 : GoodIn wsX5_tryCollect (wsX7_isBetween) := ggX5_tryCollect_X7_isBetween
set_option maxRecDepth 20000 in
theorem ggX5_tryCollect_X3_isFull : GoodIn wsX5_tryCollect wsX3_isFull := goodIn_r _ [9, 10, 24, 25] (by decide +kernel) (by decide +kernel)
set_option maxRecDepth 20000 in
theorem gX5_tryCollect_X3_isFull : GoodIn wsX5_tryCollect (wsV RX5 77 RX3 yX3_isFull wsX3_isFull) := goodIn_app (goodIn_of _ (by decide +kernel)) ggX5_tryCollect_X3_isFull
set_option maxRecDepth 20000 in
theorem ggX5_tryCollect_X3_insert : GoodIn wsX5_tryCollect wsX3_insert := goodIn_r _ [14, 10, 15, 16, 17, 8, 18, 19, 24, 25] (by decide +kernel) (by decide +kernel)
set_option maxRecDepth 20000 in
theorem gX5_tryCollect_X3_insert : GoodIn wsX5_tryCollect (wsV RX5 78 RX3 yX3_insert wsX3_insert) := goodIn_app (goodIn_of _ (by decide +kernel)) ggX5_tryCollect_X3_insert
theorem dX5_tryCollect_0 : decode cX5_tryCollect 0 = .ok (.iload_n 1, 1) := by decide +kernel
theorem dX5_tryCollect_1 : decode cX5_tryCollect 1 = .ok (.iconst 0, 1) := by decide +kernel
theorem dX5_tryCollect_2 : decode cX5_tryCollect 2 = .ok (.sipush 255, 3) := by decide +kernel
theorem dX5_tryCollect_5 : decode cX5_tryCollect 5 = .ok (.invokestatic 44, 3) := by decide +kernel
theorem dX5_tryCollect_8 : decode cX5_tryCollect 8 = .ok (.ifCond .eq 14, 3) := by decide +kernel
theorem dX5_tryCollect_11 : decode cX5_tryCollect 11 = .ok (.iload_n 2, 1) := by decide +kernel
theorem dX5_tryCollect_12 : decode cX5_tryCollect 12 = .ok (.iconst 0, 1) := by decide +kernel
theorem dX5_tryCollect_13 : decode cX5_tryCollect 13 = .ok (.sipush 16384, 3) := by decide +kernel
theorem dX5_tryCollect_16 : decode cX5_tryCollect 16 = .ok (.invokestatic 44, 3) := by decide +kernel
theorem dX5_tryCollect_19 : decode cX5_tryCollect 19 = .ok (.ifCond .ne 6, 3) := by decide +kernel
theorem dX5_tryCollect_22 : decode cX5_tryCollect 22 = .ok (.bipush (-2), 2) := by decide +kernel
theorem dX5_tryCollect_24 : decode cX5_tryCollect 24 = .ok (.ireturn, 1) := by decide +kernel
theorem dX5_tryCollect_25 : decode cX5_tryCollect 25 = .ok (.aload_n 0, 1) := by decide +kernel
theorem dX5_tryCollect_26 : decode cX5_tryCollect 26 = .ok (.getfield 21, 3) := by decide +kernel
theorem dX5_tryCollect_29 : decode cX5_tryCollect 29 = .ok (.invokevirtual 77, 3) := by decide +kernel
theorem dX5_tryCollect_32 : decode cX5_tryCollect 32 = .ok (.ifCond .eq 8, 3) := by decide +kernel
theorem dX5_tryCollect_35 : decode cX5_tryCollect 35 = .ok (.bipush (-3), 2) := by decide +kernel
theorem dX5_tryCollect_37 : decode cX5_tryCollect 37 = .ok (.goto 12, 3) := by decide +kernel
theorem dX5_tryCollect_40 : decode cX5_tryCollect 40 = .ok (.aload_n 0, 1) := by decide +kernel
theorem dX5_tryCollect_41 : decode cX5_tryCollect 41 = .ok (.getfield 21, 3) := by decide +kernel
theorem dX5_tryCollect_44 : decode cX5_tryCollect 44 = .ok (.iload_n 1, 1) := by decide +kernel
theorem dX5_tryCollect_45 : decode cX5_tryCollect 45 = .ok (.iload_n 2, 1) := by decide +kernel
theorem dX5_tryCollect_46 : decode cX5_tryCollect 46 = .ok (.invokevirtual 78, 3) := by decide +kernel
theorem dX5_tryCollect_49 : decode cX5_tryCollect 49 = .ok (.ireturn, 1) := by decide +kernel
set_option maxRecDepth 20000 in
theorem ggX5_tryMark_X6_copyFrom : GoodIn wsX5_tryMark wsX6_copyFrom := goodIn_r _ [8, 9, 10, 11, 12, 13, 14, 15, 16, 17, 18, 19, 20, 21, 22, 27, 28, 29] (by decide +kernel) (by decide +kernel)
set_option maxRecDepth 20000 in
theorem gX5_tryMark_X6_copyFrom : GoodIn wsX5_tryMark (wsV RX5 29 RX6 yX6_copyFrom wsX6_copyFrom) := goodIn_app (goodIn_of _ (by decide +kernel)) ggX5_tryMark_X6_copyFrom
theorem dX5_tryMark_0 : decode cX5_tryMark 0 = .ok (.aload_n 0, 1) := by decide +kernel
theorem dX5_tryMark_1 : decode cX5_tryMark 1 = .ok (.getfield 36, 3) := by decide +kernel
theorem dX5_tryMark_4 : decode cX5_tryMark 4 = .ok (.ifCond .lt 11, 3) := by decide +kernel
theorem dX5_tryMark_7 : decode cX5_tryMark 7 = .ok (.aload_n 0, 1) := by decide +kernel
theorem dX5_tryMark_8 : decode cX5_tryMark 8 = .ok (.getfield 36, 3) := by decide +kernel
theorem dX5_tryMark_11 : decode cX5_tryMark 11 = .ok (.iconst 5, 1) := by decide +kernel
theorem dX5_tryMark_12 : decode cX5_tryMark 12 = .ok (.if_icmp .lt 6, 3) := by decide +kernel
theorem dX5_tryMark_15 : decode cX5_tryMark 15 = .ok (.bipush (-3), 2) := by decide +kernel
theorem dX5_tryMark_17 : decode cX5_tryMark 17 = .ok (.ireturn, 1) := by decide +kernel
theorem dX5_tryMark_18 : decode cX5_tryMark 18 = .ok (.aload_n 0, 1) := by decide +kernel
theorem dX5_tryMark_19 : decode cX5_tryMark 19 = .ok (.getfield 25, 3) := by decide +kernel
theorem dX5_tryMark_22 : decode cX5_tryMark 22 = .ok (.aload_n 0, 1) := by decide +kernel
theorem dX5_tryMark_23 : decode cX5_tryMark 23 = .ok (.getfield 36, 3) := by decide +kernel
theorem dX5_tryMark_26 : decode cX5_tryMark 26 = .ok (.aaload, 1) := by decide +kernel
theorem dX5_tryMark_27 : decode cX5_tryMark 27 = .ok (.aload_n 0, 1) := by decide +kernel
theorem dX5_tryMark_28 : decode cX5_tryMark 28 = .ok (.getfield 12, 3) := by decide +kernel
theorem dX5_tryMark_31 : decode cX5_tryMark 31 = .ok (.invokevirtual 29, 3) := by decide +kernel
theorem dX5_tryMark_34 : decode cX5_tryMark 34 = .ok (.aload_n 0, 1) := by decide +kernel
theorem dX5_tryMark_35 : decode cX5_tryMark 35 = .ok (.dup, 1) := by decide +kernel
theorem dX5_tryMark_36 : decode cX5_tryMark 36 = .ok (.getfield 36, 3) := by decide +kernel
theorem dX5_tryMark_39 : decode cX5_tryMark 39 = .ok (.iconst 1, 1) := by decide +kernel
theorem dX5_tryMark_40 : decode cX5_tryMark 40 = .ok (.iadd, 1) := by decide +kernel
theorem dX5_tryMark_41 : decode cX5_tryMark 41 = .ok (.putfield 36, 3) := by decide +kernel
theorem dX5_tryMark_44 : decode cX5_tryMark 44 = .ok (.aload_n 0, 1) := by decide +kernel
theorem dX5_tryMark_45 : decode cX5_tryMark 45 = .ok (.getfield 36, 3) := by decide +kernel
theorem dX5_tryMark_48 : decode cX5_tryMark 48 = .ok (.ireturn, 1) := by decide +kernel
set_option maxRecDepth 20000 in
theorem ggX5_tryRollBack_X6_copyFrom : GoodIn wsX5_tryRollBack wsX6_copyFrom := goodIn_r _ [8, 9, 10, 11, 12, 13, 14, 15, 16, 17, 18, 19, 20, 21, 22, 27, 28, 29] (by decide +kernel) (by decide +kernel)
set_option maxRecDepth 20000 in
theorem gX5_tryRollBack_X6_copyFrom : GoodIn wsX5_tryRollBack (wsV RX5 29 RX6 yX6_copyFrom wsX6_copyFrom) := goodIn_app (goodIn_of _ (by decide +kernel)) ggX5_tryRollBack_X6_copyFrom
theorem dX5_tryRollBack_0 : decode cX5_tryRollBack 0 = .ok (.aload_n 0, 1) := by decide +kernel
theorem dX5_tryRollBack_1 : decode cX5_tryRollBack 1 = .ok (.getfield 36, 3) := by decide +kernel
theorem dX5_tryRollBack_4 : decode cX5_tryRollBack 4 = .ok (.ifCond .le 11, 3) := by decide +kernel
theorem dX5_tryRollBack_7 : decode cX5_tryRollBack 7 = .ok (.aload_n 0, 1) := by decide +kernel
theorem dX5_tryRollBack_8 : decode cX5_tryRollBack 8 = .ok (.getfield 36, 3) := by decide +kernel
theorem dX5_tryRollBack_11 : decode cX5_tryRollBack 11 = .ok (.iconst 5, 1) := by decide +kernel
theorem dX5_tryRollBack_12 : decode cX5_tryRollBack 12 = .ok (.if_icmp .le 6, 3) := by decide +kernel
theorem dX5_tryRollBack_15 : decode cX5_tryRollBack 15 = .ok (.bipush (-3), 2) := by decide +kernel
theorem dX5_tryRollBack_17 : decode cX5_tryRollBack 17 = .ok (.ireturn, 1) := by decide +kernel
theorem dX5_tryRollBack_18 : decode cX5_tryRollBack 18 = .ok (.aload_n 0, 1) := by decide +kernel
theorem dX5_tryRollBack_19 : decode cX5_tryRollBack 19 = .ok (.dup, 1) := by decide +kernel
theorem dX5_tryRollBack_20 : decode cX5_tryRollBack 20 = .ok (.getfield 36, 3) := by decide +kernel
theorem dX5_tryRollBack_23 : decode cX5_tryRollBack 23 = .ok (.iconst 1, 1) := by decide +kernel
theorem dX5_tryRollBack_24 : decode cX5_tryRollBack 24 = .ok (.isub, 1) := by decide +kernel
theorem dX5_tryRollBack_25 : decode cX5_tryRollBack 25 = .ok (.putfield 36, 3) := by decide +kernel
theorem dX5_tryRollBack_28 : decode cX5_tryRollBack 28 = .ok (.aload_n 0, 1) := by decide +kernel
theorem dX5_tryRollBack_29 : decode cX5_tryRollBack 29 = .ok (.getfield 12, 3) := by decide +kernel
theorem dX5_tryRollBack_32 : decode cX5_tryRollBack 32 = .ok (.aload_n 0, 1) := by decide +kernel
theorem dX5_tryRollBack_33 : decode cX5_tryRollBack 33 = .ok (.getfield 25, 3) := by decide +kernel
theorem dX5_tryRollBack_36 : decode cX5_tryRollBack 36 = .ok (.aload_n 0, 1) := by decide +kernel
theorem dX5_tryRollBack_37 : decode cX5_tryRollBack 37 = .ok (.getfield 36, 3) := by decide +kernel
theorem dX5_tryRollBack_40 : decode cX5_tryRollBack 40 = .ok (.aaload, 1) := by decide +kernel
theorem dX5_tryRollBack_41 : decode cX5_tryRollBack 41 = .ok (.invokevirtual 29, 3) := by decide +kernel
theorem dX5_tryRollBack_44 : decode cX5_tryRollBack 44 = .ok (.aload_n 0, 1) := by decide +kernel
theorem dX5_tryRollBack_45 : decode cX5_tryRollBack 45 = .ok (.getfield 36, 3) := by decide +kernel
theorem dX5_tryRollBack_48 : decode cX5_tryRollBack 48 = .ok (.ireturn, 1) := by decide +kernel
set_option maxRecDepth 20000 in
theorem ggX5_isLine_X7_isBetween : GoodIn wsX5_isLine wsX7_isBetween := goodIn_r _ [3] (by decide +kernel) (by decide +kernel)
set_option maxRecDepth 20000 in
theorem gX5_isLine_X7_isBetween_n44 : GoodIn wsX5_isLine (wsX7_isBetween) := ggX5_isLine_X7_isBetween
set_option maxRecDepth 20000 in
theorem ggX5_isLine_X5_isOffset : GoodIn wsX5_isLine wsX5_isOffset := goodIn_r _ [7, 8, 9, 1, 2, 3] (by decide +kernel) (by decide +kernel)
set_option maxRecDepth 20000 in
theorem gX5_isLine_X5_isOffset : GoodIn wsX5_isLine (va_wsS RX5 59 yX5_isOffset wsX5_isOffset) := goodIn_app (goodIn_of _ (by decide +kernel)) ggX5_isLine_X5_isOffset
theorem dX5_isLine_0 : decode cX5_isLine 0 = .ok (.iload_n 0, 1) := by decide +kernel
theorem dX5_isLine_1 : decode cX5_isLine 1 = .ok (.sipush (-1000), 3) := by decide +kernel
theorem dX5_isLine_4 : decode cX5_isLine 4 = .ok (.sipush 1000, 3) := by decide +kernel
theorem dX5_isLine_7 : decode cX5_isLine 7 = .ok (.invokestatic 44, 3) := by decide +kernel
theorem dX5_isLine_10 : decode cX5_isLine 10 = .ok (.ifCond .eq 14, 3) := by decide +kernel
theorem dX5_isLine_13 : decode cX5_isLine 13 = .ok (.iload_n 1, 1) := by decide +kernel
theorem dX5_isLine_14 : decode cX5_isLine 14 = .ok (.invokestatic 59, 3) := by decide +kernel
theorem dX5_isLine_17 : decode cX5_isLine 17 = .ok (.ifCond .eq 7, 3) := by decide +kernel
theorem dX5_isLine_20 : decode cX5_isLine 20 = .ok (.iconst 1, 1) := by decide +kernel
theorem dX5_isLine_21 : decode cX5_isLine 21 = .ok (.goto 4, 3) := by decide +kernel
theorem dX5_isLine_24 : decode cX5_isLine 24 = .ok (.iconst 0, 1) := by decide +kernel
theorem dX5_isLine_25 : decode cX5_isLine 25 = .ok (.ireturn, 1) := by decide +kernel
set_option maxRecDepth 20000 in
theorem ggX5_isOffset_X7_isBetween : GoodIn wsX5_isOffset wsX7_isBetween := goodIn_r _ [5] (by decide +kernel) (by decide +kernel)
set_option maxRecDepth 20000 in
theorem gX5_isOffset_X7_isBetween_n44 : GoodIn wsX5_isOffset (wsX7_isBetween) := ggX5_isOffset_X7_isBetween
theorem dX5_isOffset_0 : decode cX5_isOffset 0 = .ok (.iload_n 0, 1) := by decide +kernel
theorem dX5_isOffset_1 : decode cX5_isOffset 1 = .ok (.ldc 80, 2) := by decide +kernel
theorem dX5_isOffset_3 : decode cX5_isOffset 3 = .ok (.ldc 81, 2) := by decide +kernel
theorem dX5_isOffset_5 : decode cX5_isOffset 5 = .ok (.invokestatic 44, 3) := by decide +kernel
theorem dX5_isOffset_8 : decode cX5_isOffset 8 = .ok (.ireturn, 1) := by decide +kernel
theorem dX6_init_0 : decode cX6_init 0 = .ok (.aload_n 0, 1) := by decide +kernel
theorem dX6_init_1 : decode cX6_init 1 = .ok (.invokespecial 3, 3) := by decide +kernel
theorem dX6_init_4 : decode cX6_init 4 = .ok (.aload_n 0, 1) := by decide +kernel
theorem dX6_init_5 : decode cX6_init 5 = .ok (.sipush 240, 3) := by decide +kernel
theorem dX6_init_8 : decode cX6_init 8 = .ok (.newarray .int, 2) := by decide +kernel
theorem dX6_init_10 : decode cX6_init 10 = .ok (.putfield 9, 3) := by decide +kernel
theorem dX6_init_13 : decode cX6_init 13 = .ok (.return_, 1) := by decide +kernel
theorem dX6_copyFrom_0 : decode cX6_copyFrom 0 = .ok (.aload_n 0, 1) := by decide +kernel
theorem dX6_copyFrom_1 : decode cX6_copyFrom 1 = .ok (.aload_n 1, 1) := by decide +kernel
theorem dX6_copyFrom_2 : decode cX6_copyFrom 2 = .ok (.getfield 15, 3) := by decide +kernel
theorem dX6_copyFrom_5 : decode cX6_copyFrom 5 = .ok (.putfield 15, 3) := by decide +kernel
theorem dX6_copyFrom_8 : decode cX6_copyFrom 8 = .ok (.aload_n 0, 1) := by decide +kernel
theorem dX6_copyFrom_9 : decode cX6_copyFrom 9 = .ok (.iconst 0, 1) := by decide +kernel
theorem dX6_copyFrom_10 : decode cX6_copyFrom 10 = .ok (.aload_n 1, 1) := by decide +kernel
theorem dX6_copyFrom_11 : decode cX6_copyFrom 11 = .ok (.getfield 19, 3) := by decide +kernel
theorem dX6_copyFrom_14 : decode cX6_copyFrom 14 = .ok (.bipush 40, 2) := by decide +kernel
theorem dX6_copyFrom_16 : decode cX6_copyFrom 16 = .ok (.invokestatic 22, 3) := by decide +kernel
theorem dX6_copyFrom_19 : decode cX6_copyFrom 19 = .ok (.invokestatic 28, 3) := by decide +kernel
theorem dX6_copyFrom_22 : decode cX6_copyFrom 22 = .ok (.putfield 19, 3) := by decide +kernel
theorem dX6_copyFrom_25 : decode cX6_copyFrom 25 = .ok (.aload_n 1, 1) := by decide +kernel
theorem dX6_copyFrom_26 : decode cX6_copyFrom 26 = .ok (.getfield 9, 3) := by decide +kernel
theorem dX6_copyFrom_29 : decode cX6_copyFrom 29 = .ok (.iconst 0, 1) := by decide +kernel
theorem dX6_copyFrom_30 : decode cX6_copyFrom 30 = .ok (.aload_n 0, 1) := by decide +kernel
theorem dX6_copyFrom_31 : decode cX6_copyFrom 31 = .ok (.getfield 9, 3) := by decide +kernel
theorem dX6_copyFrom_34 : decode cX6_copyFrom 34 = .ok (.iconst 0, 1) := by decide +kernel
theorem dX6_copyFrom_35 : decode cX6_copyFrom 35 = .ok (.aload_n 0, 1) := by decide +kernel
theorem dX6_copyFrom_36 : decode cX6_copyFrom 36 = .ok (.getfield 19, 3) := by decide +kernel
theorem dX6_copyFrom_39 : decode cX6_copyFrom 39 = .ok (.bipush 6, 2) := by decide +kernel
theorem dX6_copyFrom_41 : decode cX6_copyFrom 41 = .ok (.imul, 1) := by decide +kernel
theorem dX6_copyFrom_42 : decode cX6_copyFrom 42 = .ok (.invokestatic 31, 3) := by decide +kernel
theorem dX6_copyFrom_45 : decode cX6_copyFrom 45 = .ok (.return_, 1) := by decide +kernel
theorem dX6_has_0 : decode cX6_has 0 = .ok (.iload_n 1, 1) := by decide +kernel
theorem dX6_has_1 : decode cX6_has 1 = .ok (.ifCond .lt 15, 3) := by decide +kernel
theorem dX6_has_4 : decode cX6_has 4 = .ok (.iload_n 1, 1) := by decide +kernel
theorem dX6_has_5 : decode cX6_has 5 = .ok (.aload_n 0, 1) := by decide +kernel
theorem dX6_has_6 : decode cX6_has 6 = .ok (.getfield 19, 3) := by decide +kernel
theorem dX6_has_9 : decode cX6_has 9 = .ok (.if_icmp .ge 7, 3) := by decide +kernel
theorem dX6_has_12 : decode cX6_has 12 = .ok (.iconst 1, 1) := by decide +kernel
theorem dX6_has_13 : decode cX6_has 13 = .ok (.goto 4, 3) := by decide +kernel
theorem dX6_has_16 : decode cX6_has 16 = .ok (.iconst 0, 1) := by decide +kernel
theorem dX6_has_17 : decode cX6_has 17 = .ok (.ireturn, 1) := by decide +kernel
theorem dX6_isFull_0 : decode cX6_isFull 0 = .ok (.aload_n 0, 1) := by decide +kernel
theorem dX6_isFull_1 : decode cX6_isFull 1 = .ok (.getfield 19, 3) := by decide +kernel
theorem dX6_isFull_4 : decode cX6_isFull 4 = .ok (.bipush 40, 2) := by decide +kernel
theorem dX6_isFull_6 : decode cX6_isFull 6 = .ok (.if_icmp .lt 7, 3) := by decide +kernel
theorem dX6_isFull_9 : decode cX6_isFull 9 = .ok (.iconst 1, 1) := by decide +kernel
theorem dX6_isFull_10 : decode cX6_isFull 10 = .ok (.goto 4, 3) := by decide +kernel
theorem dX6_isFull_13 : decode cX6_isFull 13 = .ok (.iconst 0, 1) := by decide +kernel
theorem dX6_isFull_14 : decode cX6_isFull 14 = .ok (.ireturn, 1) := by decide +kernel
theorem dX6_value_0 : decode cX6_value 0 = .ok (.iload_n 1, 1) := by decide +kernel
theorem dX6_value_1 : decode cX6_value 1 = .ok (.bipush 6, 2) := by decide +kernel
theorem dX6_value_3 : decode cX6_value 3 = .ok (.imul, 1) := by decide +kernel
theorem dX6_value_4 : decode cX6_value 4 = .ok (.iload_n 2, 1) := by decide +kernel
theorem dX6_value_5 : decode cX6_value 5 = .ok (.iadd, 1) := by decide +kernel
theorem dX6_value_6 : decode cX6_value 6 = .ok (.istore_n 3, 1) := by decide +kernel
theorem dX6_value_7 : decode cX6_value 7 = .ok (.iload_n 3, 1) := by decide +kernel
theorem dX6_value_8 : decode cX6_value 8 = .ok (.ifCond .lt 21, 3) := by decide +kernel
theorem dX6_value_11 : decode cX6_value 11 = .ok (.iload_n 3, 1) := by decide +kernel
theorem dX6_value_12 : decode cX6_value 12 = .ok (.aload_n 0, 1) := by decide +kernel
theorem dX6_value_13 : decode cX6_value 13 = .ok (.getfield 9, 3) := by decide +kernel
theorem dX6_value_16 : decode cX6_value 16 = .ok (.arraylength, 1) := by decide +kernel
theorem dX6_value_17 : decode cX6_value 17 = .ok (.if_icmp .ge 12, 3) := by decide +kernel
theorem dX6_value_20 : decode cX6_value 20 = .ok (.aload_n 0, 1) := by decide +kernel
theorem dX6_value_21 : decode cX6_value 21 = .ok (.getfield 9, 3) := by decide +kernel
theorem dX6_value_24 : decode cX6_value 24 = .ok (.iload_n 3, 1) := by decide +kernel
theorem dX6_value_25 : decode cX6_value 25 = .ok (.iaload, 1) := by decide +kernel
theorem dX6_value_26 : decode cX6_value 26 = .ok (.goto 4, 3) := by decide +kernel
theorem dX6_value_29 : decode cX6_value 29 = .ok (.iconst 0, 1) := by decide +kernel
theorem dX6_value_30 : decode cX6_value 30 = .ok (.ireturn, 1) := by decide +kernel
theorem dX6_set_0 : decode cX6_set 0 = .ok (.iload_n 1, 1) := by decide +kernel
theorem dX6_set_1 : decode cX6_set 1 = .ok (.bipush 6, 2) := by decide +kernel
theorem dX6_set_3 : decode cX6_set 3 = .ok (.imul, 1) := by decide +kernel
theorem dX6_set_4 : decode cX6_set 4 = .ok (.iload_n 2, 1) := by decide +kernel
theorem dX6_set_5 : decode cX6_set 5 = .ok (.iadd, 1) := by decide +kernel
theorem dX6_set_6 : decode cX6_set 6 = .ok (.istore 4, 2) := by decide +kernel
theorem dX6_set_8 : decode cX6_set 8 = .ok (.iload 4, 2) := by decide +kernel
theorem dX6_set_10 : decode cX6_set 10 = .ok (.ifCond .lt 21, 3) := by decide +kernel
theorem dX6_set_13 : decode cX6_set 13 = .ok (.iload 4, 2) := by decide +kernel
theorem dX6_set_15 : decode cX6_set 15 = .ok (.aload_n 0, 1) := by decide +kernel
theorem dX6_set_16 : decode cX6_set 16 = .ok (.getfield 9, 3) := by decide +kernel
theorem dX6_set_19 : decode cX6_set 19 = .ok (.arraylength, 1) := by decide +kernel
theorem dX6_set_20 : decode cX6_set 20 = .ok (.if_icmp .ge 11, 3) := by decide +kernel
theorem dX6_set_23 : decode cX6_set 23 = .ok (.aload_n 0, 1) := by decide +kernel
theorem dX6_set_24 : decode cX6_set 24 = .ok (.getfield 9, 3) := by decide +kernel
theorem dX6_set_27 : decode cX6_set 27 = .ok (.iload 4, 2) := by decide +kernel
theorem dX6_set_29 : decode cX6_set 29 = .ok (.iload_n 3, 1) := by decide +kernel
theorem dX6_set_30 : decode cX6_set 30 = .ok (.iastore, 1) := by decide +kernel
theorem dX6_set_31 : decode cX6_set 31 = .ok (.return_, 1) := by decide +kernel
set_option maxRecDepth 20000 in
theorem ggX6_insert_X6_set : GoodIn wsX6_insert wsX6_set := goodIn_r _ [6, 7, 8, 9, 10] (by decide +kernel) (by decide +kernel)
set_option maxRecDepth 20000 in
theorem gX6_insert_X6_set : GoodIn wsX6_insert (wsV RX6 37 RX6 yX6_set wsX6_set) := goodIn_app (goodIn_of _ (by decide +kernel)) ggX6_insert_X6_set
theorem dX6_insert_0 : decode cX6_insert 0 = .ok (.aload_n 0, 1) := by decide +kernel
theorem dX6_insert_1 : decode cX6_insert 1 = .ok (.getfield 19, 3) := by decide +kernel
theorem dX6_insert_4 : decode cX6_insert 4 = .ok (.istore 7, 2) := by decide +kernel
theorem dX6_insert_6 : decode cX6_insert 6 = .ok (.aload_n 0, 1) := by decide +kernel
theorem dX6_insert_7 : decode cX6_insert 7 = .ok (.iload 7, 2) := by decide +kernel
theorem dX6_insert_9 : decode cX6_insert 9 = .ok (.iconst 0, 1) := by decide +kernel
theorem dX6_insert_10 : decode cX6_insert 10 = .ok (.iload_n 1, 1) := by decide +kernel
theorem dX6_insert_11 : decode cX6_insert 11 = .ok (.invokevirtual 37, 3) := by decide +kernel
theorem dX6_insert_14 : decode cX6_insert 14 = .ok (.aload_n 0, 1) := by decide +kernel
theorem dX6_insert_15 : decode cX6_insert 15 = .ok (.iload 7, 2) := by decide +kernel
theorem dX6_insert_17 : decode cX6_insert 17 = .ok (.iconst 1, 1) := by decide +kernel
theorem dX6_insert_18 : decode cX6_insert 18 = .ok (.iload_n 2, 1) := by decide +kernel
theorem dX6_insert_19 : decode cX6_insert 19 = .ok (.invokevirtual 37, 3) := by decide +kernel
theorem dX6_insert_22 : decode cX6_insert 22 = .ok (.aload_n 0, 1) := by decide +kernel
theorem dX6_insert_23 : decode cX6_insert 23 = .ok (.iload 7, 2) := by decide +kernel
theorem dX6_insert_25 : decode cX6_insert 25 = .ok (.iconst 2, 1) := by decide +kernel
theorem dX6_insert_26 : decode cX6_insert 26 = .ok (.iload_n 3, 1) := by decide +kernel
theorem dX6_insert_27 : decode cX6_insert 27 = .ok (.invokevirtual 37, 3) := by decide +kernel
theorem dX6_insert_30 : decode cX6_insert 30 = .ok (.aload_n 0, 1) := by decide +kernel
theorem dX6_insert_31 : decode cX6_insert 31 = .ok (.iload 7, 2) := by decide +kernel
theorem dX6_insert_33 : decode cX6_insert 33 = .ok (.iconst 3, 1) := by decide +kernel
theorem dX6_insert_34 : decode cX6_insert 34 = .ok (.iload 4, 2) := by decide +kernel
theorem dX6_insert_36 : decode cX6_insert 36 = .ok (.invokevirtual 37, 3) := by decide +kernel
theorem dX6_insert_39 : decode cX6_insert 39 = .ok (.aload_n 0, 1) := by decide +kernel
theorem dX6_insert_40 : decode cX6_insert 40 = .ok (.iload 7, 2) := by decide +kernel
theorem dX6_insert_42 : decode cX6_insert 42 = .ok (.iconst 4, 1) := by decide +kernel
theorem dX6_insert_43 : decode cX6_insert 43 = .ok (.iload 5, 2) := by decide +kernel
theorem dX6_insert_45 : decode cX6_insert 45 = .ok (.invokevirtual 37, 3) := by decide +kernel
theorem dX6_insert_48 : decode cX6_insert 48 = .ok (.aload_n 0, 1) := by decide +kernel
theorem dX6_insert_49 : decode cX6_insert 49 = .ok (.iload 7, 2) := by decide +kernel
theorem dX6_insert_51 : decode cX6_insert 51 = .ok (.iconst 5, 1) := by decide +kernel
theorem dX6_insert_52 : decode cX6_insert 52 = .ok (.iload 6, 2) := by decide +kernel
theorem dX6_insert_54 : decode cX6_insert 54 = .ok (.invokevirtual 37, 3) := by decide +kernel
theorem dX6_insert_57 : decode cX6_insert 57 = .ok (.aload_n 0, 1) := by decide +kernel
theorem dX6_insert_58 : decode cX6_insert 58 = .ok (.dup, 1) := by decide +kernel
theorem dX6_insert_59 : decode cX6_insert 59 = .ok (.getfield 19, 3) := by decide +kernel
theorem dX6_insert_62 : decode cX6_insert 62 = .ok (.iconst 1, 1) := by decide +kernel
theorem dX6_insert_63 : decode cX6_insert 63 = .ok (.iadd, 1) := by decide +kernel
theorem dX6_insert_64 : decode cX6_insert 64 = .ok (.putfield 19, 3) := by decide +kernel
theorem dX6_insert_67 : decode cX6_insert 67 = .ok (.iload 7, 2) := by decide +kernel
theorem dX6_insert_69 : decode cX6_insert 69 = .ok (.ireturn, 1) := by decide +kernel
set_option maxRecDepth 20000 in
theorem ggX6_isLive_X6_value : GoodIn wsX6_isLive wsX6_value := goodIn_r _ [5, 6, 7, 8, 9] (by decide +kernel) (by decide +kernel)
set_option maxRecDepth 20000 in
theorem gX6_isLive_X6_value : GoodIn wsX6_isLive (wsV RX6 41 RX6 yX6_value wsX6_value) := goodIn_app (goodIn_of _ (by decide +kernel)) ggX6_isLive_X6_value
theorem dX6_isLive_0 : decode cX6_isLive 0 = .ok (.aload_n 0, 1) := by decide +kernel
theorem dX6_isLive_1 : decode cX6_isLive 1 = .ok (.iload_n 1, 1) := by decide +kernel
theorem dX6_isLive_2 : decode cX6_isLive 2 = .ok (.iconst 4, 1) := by decide +kernel
theorem dX6_isLive_3 : decode cX6_isLive 3 = .ok (.invokevirtual 41, 3) := by decide +kernel
theorem dX6_isLive_6 : decode cX6_isLive 6 = .ok (.iload_n 2, 1) := by decide +kernel
theorem dX6_isLive_7 : decode cX6_isLive 7 = .ok (.if_icmp .gt 17, 3) := by decide +kernel
theorem dX6_isLive_10 : decode cX6_isLive 10 = .ok (.iload_n 2, 1) := by decide +kernel
theorem dX6_isLive_11 : decode cX6_isLive 11 = .ok (.aload_n 0, 1) := by decide +kernel
theorem dX6_isLive_12 : decode cX6_isLive 12 = .ok (.iload_n 1, 1) := by decide +kernel
theorem dX6_isLive_13 : decode cX6_isLive 13 = .ok (.iconst 5, 1) := by decide +kernel
theorem dX6_isLive_14 : decode cX6_isLive 14 = .ok (.invokevirtual 41, 3) := by decide +kernel
theorem dX6_isLive_17 : decode cX6_isLive 17 = .ok (.if_icmp .ge 7, 3) := by decide +kernel
theorem dX6_isLive_20 : decode cX6_isLive 20 = .ok (.iconst 1, 1) := by decide +kernel
theorem dX6_isLive_21 : decode cX6_isLive 21 = .ok (.goto 4, 3) := by decide +kernel
theorem dX6_isLive_24 : decode cX6_isLive 24 = .ok (.iconst 0, 1) := by decide +kernel
theorem dX6_isLive_25 : decode cX6_isLive 25 = .ok (.ireturn, 1) := by decide +kernel
set_option maxRecDepth 20000 in
theorem ggX6_covers_X6_value : GoodIn wsX6_covers wsX6_value := goodIn_r _ [5, 6, 7, 8, 9] (by decide +kernel) (by decide +kernel)
set_option maxRecDepth 20000 in
theorem gX6_covers_X6_value : GoodIn wsX6_covers (wsV RX6 41 RX6 yX6_value wsX6_value) := goodIn_app (goodIn_of _ (by decide +kernel)) ggX6_covers_X6_value
theorem dX6_covers_0 : decode cX6_covers 0 = .ok (.aload_n 0, 1) := by decide +kernel
theorem dX6_covers_1 : decode cX6_covers 1 = .ok (.iload_n 1, 1) := by decide +kernel
theorem dX6_covers_2 : decode cX6_covers 2 = .ok (.iconst 2, 1) := by decide +kernel
theorem dX6_covers_3 : decode cX6_covers 3 = .ok (.invokevirtual 41, 3) := by decide +kernel
theorem dX6_covers_6 : decode cX6_covers 6 = .ok (.iload_n 2, 1) := by decide +kernel
theorem dX6_covers_7 : decode cX6_covers 7 = .ok (.if_icmp .gt 17, 3) := by decide +kernel
theorem dX6_covers_10 : decode cX6_covers 10 = .ok (.iload_n 2, 1) := by decide +kernel
theorem dX6_covers_11 : decode cX6_covers 11 = .ok (.aload_n 0, 1) := by decide +kernel
theorem dX6_covers_12 : decode cX6_covers 12 = .ok (.iload_n 1, 1) := by decide +kernel
theorem dX6_covers_13 : decode cX6_covers 13 = .ok (.iconst 3, 1) := by decide +kernel
theorem dX6_covers_14 : decode cX6_covers 14 = .ok (.invokevirtual 41, 3) := by decide +kernel
theorem dX6_covers_17 : decode cX6_covers 17 = .ok (.if_icmp .gt 7, 3) := by decide +kernel
theorem dX6_covers_20 : decode cX6_covers 20 = .ok (.iconst 1, 1) := by decide +kernel
theorem dX6_covers_21 : decode cX6_covers 21 = .ok (.goto 4, 3) := by decide +kernel
theorem dX6_covers_24 : decode cX6_covers 24 = .ok (.iconst 0, 1) := by decide +kernel
theorem dX6_covers_25 : decode cX6_covers 25 = .ok (.ireturn, 1) := by decide +kernel
set_option maxRecDepth 20000 in
theorem ggX6_isThere_X6_covers : GoodIn wsX6_isThere wsX6_covers := goodIn_r _ [5, 6, 7, 8, 4, 9, 10, 15, 16, 17] (by decide +kernel) (by decide +kernel)
set_option maxRecDepth 20000 in
theorem gX6_isThere_X6_covers : GoodIn wsX6_isThere (wsV RX6 44 RX6 yX6_covers wsX6_covers) := goodIn_app (goodIn_of _ (by decide +kernel)) ggX6_isThere_X6_covers
set_option maxRecDepth 20000 in
theorem ggX6_isThere_X6_isLive : GoodIn wsX6_isThere wsX6_isLive := goodIn_r _ [14, 6, 7, 8, 4, 9, 10, 15, 16, 17] (by decide +kernel) (by decide +kernel)
set_option maxRecDepth 20000 in
theorem gX6_isThere_X6_isLive : GoodIn wsX6_isThere (wsV RX6 48 RX6 yX6_isLive wsX6_isLive) := goodIn_app (goodIn_of _ (by decide +kernel)) ggX6_isThere_X6_isLive
theorem dX6_isThere_0 : decode cX6_isThere 0 = .ok (.aload_n 0, 1) := by decide +kernel
theorem dX6_isThere_1 : decode cX6_isThere 1 = .ok (.iload_n 1, 1) := by decide +kernel
theorem dX6_isThere_2 : decode cX6_isThere 2 = .ok (.iload_n 2, 1) := by decide +kernel
theorem dX6_isThere_3 : decode cX6_isThere 3 = .ok (.invokevirtual 44, 3) := by decide +kernel
theorem dX6_isThere_6 : decode cX6_isThere 6 = .ok (.ifCond .eq 16, 3) := by decide +kernel
theorem dX6_isThere_9 : decode cX6_isThere 9 = .ok (.aload_n 0, 1) := by decide +kernel
theorem dX6_isThere_10 : decode cX6_isThere 10 = .ok (.iload_n 1, 1) := by decide +kernel
theorem dX6_isThere_11 : decode cX6_isThere 11 = .ok (.iload_n 3, 1) := by decide +kernel
theorem dX6_isThere_12 : decode cX6_isThere 12 = .ok (.invokevirtual 48, 3) := by decide +kernel
theorem dX6_isThere_15 : decode cX6_isThere 15 = .ok (.ifCond .eq 7, 3) := by decide +kernel
theorem dX6_isThere_18 : decode cX6_isThere 18 = .ok (.iconst 1, 1) := by decide +kernel
theorem dX6_isThere_19 : decode cX6_isThere 19 = .ok (.goto 4, 3) := by decide +kernel
theorem dX6_isThere_22 : decode cX6_isThere 22 = .ok (.iconst 0, 1) := by decide +kernel
theorem dX6_isThere_23 : decode cX6_isThere 23 = .ok (.ireturn, 1) := by decide +kernel
set_option maxRecDepth 20000 in
theorem ggX6_height_X6_value : GoodIn wsX6_height wsX6_value := goodIn_r _ [5, 6, 7, 8, 9] (by decide +kernel) (by decide +kernel)
set_option maxRecDepth 20000 in
theorem gX6_height_X6_value : GoodIn wsX6_height (wsV RX6 41 RX6 yX6_value wsX6_value) := goodIn_app (goodIn_of _ (by decide +kernel)) ggX6_height_X6_value
theorem dX6_height_0 : decode cX6_height 0 = .ok (.aload_n 0, 1) := by decide +kernel
theorem dX6_height_1 : decode cX6_height 1 = .ok (.iload_n 1, 1) := by decide +kernel
theorem dX6_height_2 : decode cX6_height 2 = .ok (.iconst 0, 1) := by decide +kernel
theorem dX6_height_3 : decode cX6_height 3 = .ok (.invokevirtual 41, 3) := by decide +kernel
theorem dX6_height_6 : decode cX6_height 6 = .ok (.iload_n 2, 1) := by decide +kernel
theorem dX6_height_7 : decode cX6_height 7 = .ok (.imul, 1) := by decide +kernel
theorem dX6_height_8 : decode cX6_height 8 = .ok (.aload_n 0, 1) := by decide +kernel
theorem dX6_height_9 : decode cX6_height 9 = .ok (.iload_n 1, 1) := by decide +kernel
theorem dX6_height_10 : decode cX6_height 10 = .ok (.iconst 1, 1) := by decide +kernel
theorem dX6_height_11 : decode cX6_height 11 = .ok (.invokevirtual 41, 3) := by decide +kernel
theorem dX6_height_14 : decode cX6_height 14 = .ok (.iadd, 1) := by decide +kernel
theorem dX6_height_15 : decode cX6_height 15 = .ok (.ireturn, 1) := by decide +kernel
set_option maxRecDepth 20000 in
theorem ggX6_firstAt_X6_isThere : GoodIn wsX6_firstAt wsX6_isThere := goodIn_r _ [6, 7, 8, 9, 5, 10, 11, 12, 13, 14, 15, 16, 17, 18, 19, 24, 25, 26] (by decide +kernel) (by decide +kernel)
set_option maxRecDepth 20000 in
theorem gX6_firstAt_X6_isThere : GoodIn wsX6_firstAt (wsV RX6 51 RX6 yX6_isThere wsX6_isThere) := goodIn_app (goodIn_of _ (by decide +kernel)) ggX6_firstAt_X6_isThere
set_option maxRecDepth 20000 in
theorem ggX6_firstAt_X6_height : GoodIn wsX6_firstAt wsX6_height := goodIn_r _ [23, 11, 12, 13, 5, 14, 15, 24, 25, 26] (by decide +kernel) (by decide +kernel)
set_option maxRecDepth 20000 in
theorem gX6_firstAt_X6_height : GoodIn wsX6_firstAt (wsV RX6 55 RX6 yX6_height wsX6_height) := goodIn_app (goodIn_of _ (by decide +kernel)) ggX6_firstAt_X6_height
theorem dX6_firstAt_0 : decode cX6_firstAt 0 = .ok (.iconst (-1), 1) := by decide +kernel
theorem dX6_firstAt_1 : decode cX6_firstAt 1 = .ok (.istore_n 3, 1) := by decide +kernel
theorem dX6_firstAt_2 : decode cX6_firstAt 2 = .ok (.iconst 0, 1) := by decide +kernel
theorem dX6_firstAt_3 : decode cX6_firstAt 3 = .ok (.istore 4, 2) := by decide +kernel
theorem dX6_firstAt_5 : decode cX6_firstAt 5 = .ok (.iconst 0, 1) := by decide +kernel
theorem dX6_firstAt_6 : decode cX6_firstAt 6 = .ok (.istore 5, 2) := by decide +kernel
theorem dX6_firstAt_8 : decode cX6_firstAt 8 = .ok (.iload 5, 2) := by decide +kernel
theorem dX6_firstAt_10 : decode cX6_firstAt 10 = .ok (.aload_n 0, 1) := by decide +kernel
theorem dX6_firstAt_11 : decode cX6_firstAt 11 = .ok (.getfield 19, 3) := by decide +kernel
theorem dX6_firstAt_14 : decode cX6_firstAt 14 = .ok (.if_icmp .ge 48, 3) := by decide +kernel
theorem dX6_firstAt_17 : decode cX6_firstAt 17 = .ok (.aload_n 0, 1) := by decide +kernel
theorem dX6_firstAt_18 : decode cX6_firstAt 18 = .ok (.iload 5, 2) := by decide +kernel
theorem dX6_firstAt_20 : decode cX6_firstAt 20 = .ok (.iload_n 1, 1) := by decide +kernel
theorem dX6_firstAt_21 : decode cX6_firstAt 21 = .ok (.iload_n 2, 1) := by decide +kernel
theorem dX6_firstAt_22 : decode cX6_firstAt 22 = .ok (.invokevirtual 51, 3) := by decide +kernel
theorem dX6_firstAt_25 : decode cX6_firstAt 25 = .ok (.ifCond .eq 31, 3) := by decide +kernel
theorem dX6_firstAt_28 : decode cX6_firstAt 28 = .ok (.aload_n 0, 1) := by decide +kernel
theorem dX6_firstAt_29 : decode cX6_firstAt 29 = .ok (.iload 5, 2) := by decide +kernel
theorem dX6_firstAt_31 : decode cX6_firstAt 31 = .ok (.iload_n 1, 1) := by decide +kernel
theorem dX6_firstAt_32 : decode cX6_firstAt 32 = .ok (.invokevirtual 55, 3) := by decide +kernel
theorem dX6_firstAt_35 : decode cX6_firstAt 35 = .ok (.istore 6, 2) := by decide +kernel
theorem dX6_firstAt_37 : decode cX6_firstAt 37 = .ok (.iload_n 3, 1) := by decide +kernel
theorem dX6_firstAt_38 : decode cX6_firstAt 38 = .ok (.iconst (-1), 1) := by decide +kernel
theorem dX6_firstAt_39 : decode cX6_firstAt 39 = .ok (.if_icmp .eq 10, 3) := by decide +kernel
theorem dX6_firstAt_42 : decode cX6_firstAt 42 = .ok (.iload 6, 2) := by decide +kernel
theorem dX6_firstAt_44 : decode cX6_firstAt 44 = .ok (.iload 4, 2) := by decide +kernel
theorem dX6_firstAt_46 : decode cX6_firstAt 46 = .ok (.if_icmp .ge 10, 3) := by decide +kernel
theorem dX6_firstAt_49 : decode cX6_firstAt 49 = .ok (.iload 5, 2) := by decide +kernel
theorem dX6_firstAt_51 : decode cX6_firstAt 51 = .ok (.istore_n 3, 1) := by decide +kernel
theorem dX6_firstAt_52 : decode cX6_firstAt 52 = .ok (.iload 6, 2) := by decide +kernel
theorem dX6_firstAt_54 : decode cX6_firstAt 54 = .ok (.istore 4, 2) := by decide +kernel
theorem dX6_firstAt_56 : decode cX6_firstAt 56 = .ok (.iinc 5 1, 3) := by decide +kernel
theorem dX6_firstAt_59 : decode cX6_firstAt 59 = .ok (.goto (-51), 3) := by decide +kernel
theorem dX6_firstAt_62 : decode cX6_firstAt 62 = .ok (.iload_n 3, 1) := by decide +kernel
theorem dX6_firstAt_63 : decode cX6_firstAt 63 = .ok (.ireturn, 1) := by decide +kernel
set_option maxRecDepth 20000 in
theorem ggX6_atPlace_X6_isThere : GoodIn wsX6_atPlace wsX6_isThere := goodIn_r _ [6, 7, 8, 9, 5, 10, 11, 12, 13, 14, 15, 16, 17, 18, 19, 28, 29, 30] (by decide +kernel) (by decide +kernel)
set_option maxRecDepth 20000 in
theorem gX6_atPlace_X6_isThere : GoodIn wsX6_atPlace (wsV RX6 51 RX6 yX6_isThere wsX6_isThere) := goodIn_app (goodIn_of _ (by decide +kernel)) ggX6_atPlace_X6_isThere
set_option maxRecDepth 20000 in
theorem ggX6_atPlace_X6_countAhead : GoodIn wsX6_atPlace wsX6_countAhead := goodIn_r _ [23, 1, 24, 25, 26, 5, 27, 11, 12, 13, 14, 15, 2, 3, 4, 6, 7, 8, 9, 10, 16, 17, 18, 19, 28, 29, 30] (by decide +kernel) (by decide +kernel)
set_option maxRecDepth 20000 in
theorem gX6_atPlace_X6_countAhead : GoodIn wsX6_atPlace (wsV RX6 58 RX6 yX6_countAhead wsX6_countAhead) := goodIn_app (goodIn_of _ (by decide +kernel)) ggX6_atPlace_X6_countAhead
theorem dX6_atPlace_0 : decode cX6_atPlace 0 = .ok (.iconst 0, 1) := by decide +kernel
theorem dX6_atPlace_1 : decode cX6_atPlace 1 = .ok (.istore 4, 2) := by decide +kernel
theorem dX6_atPlace_3 : decode cX6_atPlace 3 = .ok (.iload 4, 2) := by decide +kernel
theorem dX6_atPlace_5 : decode cX6_atPlace 5 = .ok (.aload_n 0, 1) := by decide +kernel
theorem dX6_atPlace_6 : decode cX6_atPlace 6 = .ok (.getfield 19, 3) := by decide +kernel
theorem dX6_atPlace_9 : decode cX6_atPlace 9 = .ok (.if_icmp .ge 35, 3) := by decide +kernel
theorem dX6_atPlace_12 : decode cX6_atPlace 12 = .ok (.aload_n 0, 1) := by decide +kernel
theorem dX6_atPlace_13 : decode cX6_atPlace 13 = .ok (.iload 4, 2) := by decide +kernel
theorem dX6_atPlace_15 : decode cX6_atPlace 15 = .ok (.iload_n 1, 1) := by decide +kernel
theorem dX6_atPlace_16 : decode cX6_atPlace 16 = .ok (.iload_n 2, 1) := by decide +kernel
theorem dX6_atPlace_17 : decode cX6_atPlace 17 = .ok (.invokevirtual 51, 3) := by decide +kernel
theorem dX6_atPlace_20 : decode cX6_atPlace 20 = .ok (.ifCond .eq 18, 3) := by decide +kernel
theorem dX6_atPlace_23 : decode cX6_atPlace 23 = .ok (.aload_n 0, 1) := by decide +kernel
theorem dX6_atPlace_24 : decode cX6_atPlace 24 = .ok (.iload 4, 2) := by decide +kernel
theorem dX6_atPlace_26 : decode cX6_atPlace 26 = .ok (.iload_n 1, 1) := by decide +kernel
theorem dX6_atPlace_27 : decode cX6_atPlace 27 = .ok (.iload_n 2, 1) := by decide +kernel
theorem dX6_atPlace_28 : decode cX6_atPlace 28 = .ok (.invokevirtual 58, 3) := by decide +kernel
theorem dX6_atPlace_31 : decode cX6_atPlace 31 = .ok (.iload_n 3, 1) := by decide +kernel
theorem dX6_atPlace_32 : decode cX6_atPlace 32 = .ok (.if_icmp .ne 6, 3) := by decide +kernel
theorem dX6_atPlace_35 : decode cX6_atPlace 35 = .ok (.iload 4, 2) := by decide +kernel
theorem dX6_atPlace_37 : decode cX6_atPlace 37 = .ok (.ireturn, 1) := by decide +kernel
theorem dX6_atPlace_38 : decode cX6_atPlace 38 = .ok (.iinc 4 1, 3) := by decide +kernel
theorem dX6_atPlace_41 : decode cX6_atPlace 41 = .ok (.goto (-38), 3) := by decide +kernel
theorem dX6_atPlace_44 : decode cX6_atPlace 44 = .ok (.iconst (-1), 1) := by decide +kernel
theorem dX6_atPlace_45 : decode cX6_atPlace 45 = .ok (.ireturn, 1) := by decide +kernel
set_option maxRecDepth 20000 in
theorem ggX6_countAhead_X6_height : GoodIn wsX6_countAhead wsX6_height := goodIn_r _ [6, 7, 8, 9, 5, 10, 11, 24, 25, 26] (by decide +kernel) (by decide +kernel)
set_option maxRecDepth 20000 in
theorem gX6_countAhead_X6_height : GoodIn wsX6_countAhead (wsV RX6 55 RX6 yX6_height wsX6_height) := goodIn_app (goodIn_of _ (by decide +kernel)) ggX6_countAhead_X6_height
set_option maxRecDepth 20000 in
theorem ggX6_countAhead_X6_isThere : GoodIn wsX6_countAhead wsX6_isThere := goodIn_r _ [15, 16, 17, 18, 5, 19, 7, 8, 9, 10, 11, 20, 21, 22, 23, 24, 25, 26] (by decide +kernel) (by decide +kernel)
set_option maxRecDepth 20000 in
theorem gX6_countAhead_X6_isThere : GoodIn wsX6_countAhead (wsV RX6 51 RX6 yX6_isThere wsX6_isThere) := goodIn_app (goodIn_of _ (by decide +kernel)) ggX6_countAhead_X6_isThere
theorem dX6_countAhead_0 : decode cX6_countAhead 0 = .ok (.aload_n 0, 1) := by decide +kernel
theorem dX6_countAhead_1 : decode cX6_countAhead 1 = .ok (.iload_n 1, 1) := by decide +kernel
theorem dX6_countAhead_2 : decode cX6_countAhead 2 = .ok (.iload_n 2, 1) := by decide +kernel
theorem dX6_countAhead_3 : decode cX6_countAhead 3 = .ok (.invokevirtual 55, 3) := by decide +kernel
theorem dX6_countAhead_6 : decode cX6_countAhead 6 = .ok (.istore 4, 2) := by decide +kernel
theorem dX6_countAhead_8 : decode cX6_countAhead 8 = .ok (.iconst 0, 1) := by decide +kernel
theorem dX6_countAhead_9 : decode cX6_countAhead 9 = .ok (.istore 5, 2) := by decide +kernel
theorem dX6_countAhead_11 : decode cX6_countAhead 11 = .ok (.iconst 0, 1) := by decide +kernel
theorem dX6_countAhead_12 : decode cX6_countAhead 12 = .ok (.istore 6, 2) := by decide +kernel
theorem dX6_countAhead_14 : decode cX6_countAhead 14 = .ok (.iload 6, 2) := by decide +kernel
theorem dX6_countAhead_16 : decode cX6_countAhead 16 = .ok (.aload_n 0, 1) := by decide +kernel
theorem dX6_countAhead_17 : decode cX6_countAhead 17 = .ok (.getfield 19, 3) := by decide +kernel
theorem dX6_countAhead_20 : decode cX6_countAhead 20 = .ok (.if_icmp .ge 52, 3) := by decide +kernel
theorem dX6_countAhead_23 : decode cX6_countAhead 23 = .ok (.iload 6, 2) := by decide +kernel
theorem dX6_countAhead_25 : decode cX6_countAhead 25 = .ok (.iload_n 1, 1) := by decide +kernel
theorem dX6_countAhead_26 : decode cX6_countAhead 26 = .ok (.if_icmp .ge 10, 3) := by decide +kernel
theorem dX6_countAhead_29 : decode cX6_countAhead 29 = .ok (.iload 4, 2) := by decide +kernel
theorem dX6_countAhead_31 : decode cX6_countAhead 31 = .ok (.iconst 1, 1) := by decide +kernel
theorem dX6_countAhead_32 : decode cX6_countAhead 32 = .ok (.iadd, 1) := by decide +kernel
theorem dX6_countAhead_33 : decode cX6_countAhead 33 = .ok (.goto 5, 3) := by decide +kernel
theorem dX6_countAhead_36 : decode cX6_countAhead 36 = .ok (.iload 4, 2) := by decide +kernel
theorem dX6_countAhead_38 : decode cX6_countAhead 38 = .ok (.istore 7, 2) := by decide +kernel
theorem dX6_countAhead_40 : decode cX6_countAhead 40 = .ok (.aload_n 0, 1) := by decide +kernel
theorem dX6_countAhead_41 : decode cX6_countAhead 41 = .ok (.iload 6, 2) := by decide +kernel
theorem dX6_countAhead_43 : decode cX6_countAhead 43 = .ok (.iload_n 2, 1) := by decide +kernel
theorem dX6_countAhead_44 : decode cX6_countAhead 44 = .ok (.iload_n 3, 1) := by decide +kernel
theorem dX6_countAhead_45 : decode cX6_countAhead 45 = .ok (.invokevirtual 51, 3) := by decide +kernel
theorem dX6_countAhead_48 : decode cX6_countAhead 48 = .ok (.ifCond .eq 18, 3) := by decide +kernel
theorem dX6_countAhead_51 : decode cX6_countAhead 51 = .ok (.aload_n 0, 1) := by decide +kernel
theorem dX6_countAhead_52 : decode cX6_countAhead 52 = .ok (.iload 6, 2) := by decide +kernel
theorem dX6_countAhead_54 : decode cX6_countAhead 54 = .ok (.iload_n 2, 1) := by decide +kernel
theorem dX6_countAhead_55 : decode cX6_countAhead 55 = .ok (.invokevirtual 55, 3) := by decide +kernel
theorem dX6_countAhead_58 : decode cX6_countAhead 58 = .ok (.iload 7, 2) := by decide +kernel
theorem dX6_countAhead_60 : decode cX6_countAhead 60 = .ok (.if_icmp .ge 6, 3) := by decide +kernel
theorem dX6_countAhead_63 : decode cX6_countAhead 63 = .ok (.iinc 5 1, 3) := by decide +kernel
theorem dX6_countAhead_66 : decode cX6_countAhead 66 = .ok (.iinc 6 1, 3) := by decide +kernel
theorem dX6_countAhead_69 : decode cX6_countAhead 69 = .ok (.goto (-55), 3) := by decide +kernel
theorem dX6_countAhead_72 : decode cX6_countAhead 72 = .ok (.iload 5, 2) := by decide +kernel
theorem dX6_countAhead_74 : decode cX6_countAhead 74 = .ok (.ireturn, 1) := by decide +kernel
set_option maxRecDepth 20000 in
theorem ggX6_countBelow_X6_isThere : GoodIn wsX6_countBelow wsX6_isThere := goodIn_r _ [6, 7, 8, 9, 5, 10, 11, 12, 13, 14, 15, 16, 17, 18, 19, 24, 25, 26] (by decide +kernel) (by decide +kernel)
set_option maxRecDepth 20000 in
theorem gX6_countBelow_X6_isThere : GoodIn wsX6_countBelow (wsV RX6 51 RX6 yX6_isThere wsX6_isThere) := goodIn_app (goodIn_of _ (by decide +kernel)) ggX6_countBelow_X6_isThere
set_option maxRecDepth 20000 in
theorem ggX6_countBelow_X6_height : GoodIn wsX6_countBelow wsX6_height := goodIn_r _ [23, 11, 12, 13, 5, 14, 15, 24, 25, 26] (by decide +kernel) (by decide +kernel)
set_option maxRecDepth 20000 in
theorem gX6_countBelow_X6_height : GoodIn wsX6_countBelow (wsV RX6 55 RX6 yX6_height wsX6_height) := goodIn_app (goodIn_of _ (by decide +kernel)) ggX6_countBelow_X6_height
theorem dX6_countBelow_0 : decode cX6_countBelow 0 = .ok (.iconst 0, 1) := by decide +kernel
theorem dX6_countBelow_1 : decode cX6_countBelow 1 = .ok (.istore 5, 2) := by decide +kernel
theorem dX6_countBelow_3 : decode cX6_countBelow 3 = .ok (.iconst 0, 1) := by decide +kernel
theorem dX6_countBelow_4 : decode cX6_countBelow 4 = .ok (.istore 6, 2) := by decide +kernel
theorem dX6_countBelow_6 : decode cX6_countBelow 6 = .ok (.iload 6, 2) := by decide +kernel
theorem dX6_countBelow_8 : decode cX6_countBelow 8 = .ok (.aload_n 0, 1) := by decide +kernel
theorem dX6_countBelow_9 : decode cX6_countBelow 9 = .ok (.getfield 19, 3) := by decide +kernel
theorem dX6_countBelow_12 : decode cX6_countBelow 12 = .ok (.if_icmp .ge 36, 3) := by decide +kernel
theorem dX6_countBelow_15 : decode cX6_countBelow 15 = .ok (.aload_n 0, 1) := by decide +kernel
theorem dX6_countBelow_16 : decode cX6_countBelow 16 = .ok (.iload 6, 2) := by decide +kernel
theorem dX6_countBelow_18 : decode cX6_countBelow 18 = .ok (.iload_n 1, 1) := by decide +kernel
theorem dX6_countBelow_19 : decode cX6_countBelow 19 = .ok (.iload_n 2, 1) := by decide +kernel
theorem dX6_countBelow_20 : decode cX6_countBelow 20 = .ok (.invokevirtual 51, 3) := by decide +kernel
theorem dX6_countBelow_23 : decode cX6_countBelow 23 = .ok (.ifCond .eq 19, 3) := by decide +kernel
theorem dX6_countBelow_26 : decode cX6_countBelow 26 = .ok (.aload_n 0, 1) := by decide +kernel
theorem dX6_countBelow_27 : decode cX6_countBelow 27 = .ok (.iload 6, 2) := by decide +kernel
theorem dX6_countBelow_29 : decode cX6_countBelow 29 = .ok (.iload_n 1, 1) := by decide +kernel
theorem dX6_countBelow_30 : decode cX6_countBelow 30 = .ok (.invokevirtual 55, 3) := by decide +kernel
theorem dX6_countBelow_33 : decode cX6_countBelow 33 = .ok (.i2l, 1) := by decide +kernel
theorem dX6_countBelow_34 : decode cX6_countBelow 34 = .ok (.lload_n 3, 1) := by decide +kernel
theorem dX6_countBelow_35 : decode cX6_countBelow 35 = .ok (.lcmp, 1) := by decide +kernel
theorem dX6_countBelow_36 : decode cX6_countBelow 36 = .ok (.ifCond .ge 6, 3) := by decide +kernel
theorem dX6_countBelow_39 : decode cX6_countBelow 39 = .ok (.iinc 5 1, 3) := by decide +kernel
theorem dX6_countBelow_42 : decode cX6_countBelow 42 = .ok (.iinc 6 1, 3) := by decide +kernel
theorem dX6_countBelow_45 : decode cX6_countBelow 45 = .ok (.goto (-39), 3) := by decide +kernel
theorem dX6_countBelow_48 : decode cX6_countBelow 48 = .ok (.iload 5, 2) := by decide +kernel
theorem dX6_countBelow_50 : decode cX6_countBelow 50 = .ok (.ireturn, 1) := by decide +kernel
set_option maxRecDepth 20000 in
theorem ggX6_crossing_X6_value : GoodIn wsX6_crossing wsX6_value := goodIn_r _ [12, 13, 14, 15, 16] (by decide +kernel) (by decide +kernel)
set_option maxRecDepth 20000 in
theorem gX6_crossing_X6_value : GoodIn wsX6_crossing (wsV RX6 41 RX6 yX6_value wsX6_value) := goodIn_app (goodIn_of _ (by decide +kernel)) ggX6_crossing_X6_value
theorem dX6_crossing_0 : decode cX6_crossing 0 = .ok (.iload_n 3, 1) := by decide +kernel
theorem dX6_crossing_1 : decode cX6_crossing 1 = .ok (.aload_n 0, 1) := by decide +kernel
theorem dX6_crossing_2 : decode cX6_crossing 2 = .ok (.iload_n 1, 1) := by decide +kernel
theorem dX6_crossing_3 : decode cX6_crossing 3 = .ok (.iconst 2, 1) := by decide +kernel
theorem dX6_crossing_4 : decode cX6_crossing 4 = .ok (.invokevirtual 41, 3) := by decide +kernel
theorem dX6_crossing_7 : decode cX6_crossing 7 = .ok (.aload_n 0, 1) := by decide +kernel
theorem dX6_crossing_8 : decode cX6_crossing 8 = .ok (.iload_n 2, 1) := by decide +kernel
theorem dX6_crossing_9 : decode cX6_crossing 9 = .ok (.iconst 2, 1) := by decide +kernel
theorem dX6_crossing_10 : decode cX6_crossing 10 = .ok (.invokevirtual 41, 3) := by decide +kernel
theorem dX6_crossing_13 : decode cX6_crossing 13 = .ok (.invokestatic 28, 3) := by decide +kernel
theorem dX6_crossing_16 : decode cX6_crossing 16 = .ok (.invokestatic 28, 3) := by decide +kernel
theorem dX6_crossing_19 : decode cX6_crossing 19 = .ok (.istore 5, 2) := by decide +kernel
theorem dX6_crossing_21 : decode cX6_crossing 21 = .ok (.aload_n 0, 1) := by decide +kernel
theorem dX6_crossing_22 : decode cX6_crossing 22 = .ok (.iload_n 1, 1) := by decide +kernel
theorem dX6_crossing_23 : decode cX6_crossing 23 = .ok (.iconst 3, 1) := by decide +kernel
theorem dX6_crossing_24 : decode cX6_crossing 24 = .ok (.invokevirtual 41, 3) := by decide +kernel
theorem dX6_crossing_27 : decode cX6_crossing 27 = .ok (.aload_n 0, 1) := by decide +kernel
theorem dX6_crossing_28 : decode cX6_crossing 28 = .ok (.iload_n 2, 1) := by decide +kernel
theorem dX6_crossing_29 : decode cX6_crossing 29 = .ok (.iconst 3, 1) := by decide +kernel
theorem dX6_crossing_30 : decode cX6_crossing 30 = .ok (.invokevirtual 41, 3) := by decide +kernel
theorem dX6_crossing_33 : decode cX6_crossing 33 = .ok (.invokestatic 22, 3) := by decide +kernel
theorem dX6_crossing_36 : decode cX6_crossing 36 = .ok (.istore 6, 2) := by decide +kernel
theorem dX6_crossing_38 : decode cX6_crossing 38 = .ok (.aload_n 0, 1) := by decide +kernel
theorem dX6_crossing_39 : decode cX6_crossing 39 = .ok (.iload_n 2, 1) := by decide +kernel
theorem dX6_crossing_40 : decode cX6_crossing 40 = .ok (.iconst 0, 1) := by decide +kernel
theorem dX6_crossing_41 : decode cX6_crossing 41 = .ok (.invokevirtual 41, 3) := by decide +kernel
theorem dX6_crossing_44 : decode cX6_crossing 44 = .ok (.aload_n 0, 1) := by decide +kernel
theorem dX6_crossing_45 : decode cX6_crossing 45 = .ok (.iload_n 1, 1) := by decide +kernel
theorem dX6_crossing_46 : decode cX6_crossing 46 = .ok (.iconst 0, 1) := by decide +kernel
theorem dX6_crossing_47 : decode cX6_crossing 47 = .ok (.invokevirtual 41, 3) := by decide +kernel
theorem dX6_crossing_50 : decode cX6_crossing 50 = .ok (.isub, 1) := by decide +kernel
theorem dX6_crossing_51 : decode cX6_crossing 51 = .ok (.istore 7, 2) := by decide +kernel
theorem dX6_crossing_53 : decode cX6_crossing 53 = .ok (.aload_n 0, 1) := by decide +kernel
theorem dX6_crossing_54 : decode cX6_crossing 54 = .ok (.iload_n 2, 1) := by decide +kernel
theorem dX6_crossing_55 : decode cX6_crossing 55 = .ok (.iconst 1, 1) := by decide +kernel
theorem dX6_crossing_56 : decode cX6_crossing 56 = .ok (.invokevirtual 41, 3) := by decide +kernel
theorem dX6_crossing_59 : decode cX6_crossing 59 = .ok (.aload_n 0, 1) := by decide +kernel
theorem dX6_crossing_60 : decode cX6_crossing 60 = .ok (.iload_n 1, 1) := by decide +kernel
theorem dX6_crossing_61 : decode cX6_crossing 61 = .ok (.iconst 1, 1) := by decide +kernel
theorem dX6_crossing_62 : decode cX6_crossing 62 = .ok (.invokevirtual 41, 3) := by decide +kernel
theorem dX6_crossing_65 : decode cX6_crossing 65 = .ok (.isub, 1) := by decide +kernel
theorem dX6_crossing_66 : decode cX6_crossing 66 = .ok (.iload 4, 2) := by decide +kernel
theorem dX6_crossing_68 : decode cX6_crossing 68 = .ok (.isub, 1) := by decide +kernel
theorem dX6_crossing_69 : decode cX6_crossing 69 = .ok (.istore 8, 2) := by decide +kernel
theorem dX6_crossing_71 : decode cX6_crossing 71 = .ok (.iload 5, 2) := by decide +kernel
theorem dX6_crossing_73 : decode cX6_crossing 73 = .ok (.iload 6, 2) := by decide +kernel
theorem dX6_crossing_75 : decode cX6_crossing 75 = .ok (.if_icmp .le 5, 3) := by decide +kernel
theorem dX6_crossing_78 : decode cX6_crossing 78 = .ok (.iconst (-1), 1) := by decide +kernel
theorem dX6_crossing_79 : decode cX6_crossing 79 = .ok (.ireturn, 1) := by decide +kernel
theorem dX6_crossing_80 : decode cX6_crossing 80 = .ok (.iload 7, 2) := by decide +kernel
theorem dX6_crossing_82 : decode cX6_crossing 82 = .ok (.iload 5, 2) := by decide +kernel
theorem dX6_crossing_84 : decode cX6_crossing 84 = .ok (.imul, 1) := by decide +kernel
theorem dX6_crossing_85 : decode cX6_crossing 85 = .ok (.iload 8, 2) := by decide +kernel
theorem dX6_crossing_87 : decode cX6_crossing 87 = .ok (.iadd, 1) := by decide +kernel
theorem dX6_crossing_88 : decode cX6_crossing 88 = .ok (.ifCond .ge 6, 3) := by decide +kernel
theorem dX6_crossing_91 : decode cX6_crossing 91 = .ok (.iload 5, 2) := by decide +kernel
theorem dX6_crossing_93 : decode cX6_crossing 93 = .ok (.ireturn, 1) := by decide +kernel
theorem dX6_crossing_94 : decode cX6_crossing 94 = .ok (.iload 7, 2) := by decide +kernel
theorem dX6_crossing_96 : decode cX6_crossing 96 = .ok (.ifCond .lt 5, 3) := by decide +kernel
theorem dX6_crossing_99 : decode cX6_crossing 99 = .ok (.iconst (-1), 1) := by decide +kernel
theorem dX6_crossing_100 : decode cX6_crossing 100 = .ok (.ireturn, 1) := by decide +kernel
theorem dX6_crossing_101 : decode cX6_crossing 101 = .ok (.iload 8, 2) := by decide +kernel
theorem dX6_crossing_103 : decode cX6_crossing 103 = .ok (.iload 7, 2) := by decide +kernel
theorem dX6_crossing_105 : decode cX6_crossing 105 = .ok (.ineg, 1) := by decide +kernel
theorem dX6_crossing_106 : decode cX6_crossing 106 = .ok (.idiv, 1) := by decide +kernel
theorem dX6_crossing_107 : decode cX6_crossing 107 = .ok (.iconst 1, 1) := by decide +kernel
theorem dX6_crossing_108 : decode cX6_crossing 108 = .ok (.iadd, 1) := by decide +kernel
