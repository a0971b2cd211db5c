theorem dX0_init_0 : decode cX0_init 0 = .ok (.aload_n 0, 1) := by decide +kernel
theorem dX0_init_1 : decode cX0_init 1 = .ok (.invokespecial 3, 3) := by decide +kernel
theorem dX0_init_4 : decode cX0_init 4 = .ok (.aload_n 0, 1) := by decide +kernel
theorem dX0_init_5 : decode cX0_init 5 = .ok (.bipush 24, 2) := by decide +kernel
theorem dX0_init_7 : decode cX0_init 7 = .ok (.newarray .int, 2) := by decide +kernel
theorem dX0_init_9 : decode cX0_init 9 = .ok (.putfield 9, 3) := by decide +kernel
theorem dX0_init_12 : decode cX0_init 12 = .ok (.aload_n 0, 1) := by decide +kernel
theorem dX0_init_13 : decode cX0_init 13 = .ok (.bipush 20, 2) := by decide +kernel
theorem dX0_init_15 : decode cX0_init 15 = .ok (.putfield 15, 3) := by decide +kernel
theorem dX0_init_18 : decode cX0_init 18 = .ok (.aload_n 0, 1) := by decide +kernel
theorem dX0_init_19 : decode cX0_init 19 = .ok (.iconst 1, 1) := by decide +kernel
theorem dX0_init_20 : decode cX0_init 20 = .ok (.putfield 19, 3) := by decide +kernel
theorem dX0_init_23 : decode cX0_init 23 = .ok (.return_, 1) := by decide +kernel
set_option maxRecDepth 20000 in
theorem ggX0_worthOf_X0_timesHeard : GoodIn wsX0_worthOf wsX0_timesHeard := goodIn_r _ [8, 9, 16, 17, 18, 19] (by decide +kernel) (by decide +kernel)
set_option maxRecDepth 20000 in
theorem gX0_worthOf_X0_timesHeard : GoodIn wsX0_worthOf (wsV RX0 28 RX0 yX0_timesHeard wsX0_timesHeard) := goodIn_app (goodIn_of _ (by decide +kernel)) ggX0_worthOf_X0_timesHeard
theorem dX0_worthOf_0 : decode cX0_worthOf 0 = .ok (.iconst 1, 1) := by decide +kernel
theorem dX0_worthOf_1 : decode cX0_worthOf 1 = .ok (.aload_n 0, 1) := by decide +kernel
theorem dX0_worthOf_2 : decode cX0_worthOf 2 = .ok (.aload_n 1, 1) := by decide +kernel
theorem dX0_worthOf_3 : decode cX0_worthOf 3 = .ok (.getfield 23, 3) := by decide +kernel
theorem dX0_worthOf_6 : decode cX0_worthOf 6 = .ok (.invokevirtual 28, 3) := by decide +kernel
theorem dX0_worthOf_9 : decode cX0_worthOf 9 = .ok (.iadd, 1) := by decide +kernel
theorem dX0_worthOf_10 : decode cX0_worthOf 10 = .ok (.istore_n 3, 1) := by decide +kernel
theorem dX0_worthOf_11 : decode cX0_worthOf 11 = .ok (.iload_n 3, 1) := by decide +kernel
theorem dX0_worthOf_12 : decode cX0_worthOf 12 = .ok (.ifCond .le 12, 3) := by decide +kernel
theorem dX0_worthOf_15 : decode cX0_worthOf 15 = .ok (.aload_n 1, 1) := by decide +kernel
theorem dX0_worthOf_16 : decode cX0_worthOf 16 = .ok (.getfield 32, 3) := by decide +kernel
theorem dX0_worthOf_19 : decode cX0_worthOf 19 = .ok (.iload_n 3, 1) := by decide +kernel
theorem dX0_worthOf_20 : decode cX0_worthOf 20 = .ok (.idiv, 1) := by decide +kernel
theorem dX0_worthOf_21 : decode cX0_worthOf 21 = .ok (.goto 4, 3) := by decide +kernel
theorem dX0_worthOf_24 : decode cX0_worthOf 24 = .ok (.iconst 0, 1) := by decide +kernel
theorem dX0_worthOf_25 : decode cX0_worthOf 25 = .ok (.istore 4, 2) := by decide +kernel
theorem dX0_worthOf_27 : decode cX0_worthOf 27 = .ok (.aload_n 1, 1) := by decide +kernel
theorem dX0_worthOf_28 : decode cX0_worthOf 28 = .ok (.getfield 35, 3) := by decide +kernel
theorem dX0_worthOf_31 : decode cX0_worthOf 31 = .ok (.iload_n 2, 1) := by decide +kernel
theorem dX0_worthOf_32 : decode cX0_worthOf 32 = .ok (.if_icmp .eq 10, 3) := by decide +kernel
theorem dX0_worthOf_35 : decode cX0_worthOf 35 = .ok (.iload 4, 2) := by decide +kernel
theorem dX0_worthOf_37 : decode cX0_worthOf 37 = .ok (.iconst 2, 1) := by decide +kernel
theorem dX0_worthOf_38 : decode cX0_worthOf 38 = .ok (.iadd, 1) := by decide +kernel
theorem dX0_worthOf_39 : decode cX0_worthOf 39 = .ok (.goto 5, 3) := by decide +kernel
theorem dX0_worthOf_42 : decode cX0_worthOf 42 = .ok (.iload 4, 2) := by decide +kernel
theorem dX0_worthOf_44 : decode cX0_worthOf 44 = .ok (.ireturn, 1) := by decide +kernel
set_option maxRecDepth 20000 in
theorem ggX0_hear_X0_worthOf : GoodIn wsX0_hear wsX0_worthOf := goodIn_r _ [17, 10, 18, 19, 20, 21, 22, 16, 23, 11, 28, 29, 30, 31, 32, 33, 24, 25, 26, 27] (by decide +kernel) (by decide +kernel)
set_option maxRecDepth 20000 in
theorem gX0_hear_X0_worthOf : GoodIn wsX0_hear (wsV RX0 38 RX0 yX0_worthOf wsX0_worthOf) := goodIn_app (goodIn_of _ (by decide +kernel)) ggX0_hear_X0_worthOf
theorem dX0_hear_0 : decode cX0_hear 0 = .ok (.aload_n 0, 1) := by decide +kernel
theorem dX0_hear_1 : decode cX0_hear 1 = .ok (.aload_n 1, 1) := by decide +kernel
theorem dX0_hear_2 : decode cX0_hear 2 = .ok (.iload_n 2, 1) := by decide +kernel
theorem dX0_hear_3 : decode cX0_hear 3 = .ok (.invokevirtual 38, 3) := by decide +kernel
theorem dX0_hear_6 : decode cX0_hear 6 = .ok (.iconst 4, 1) := by decide +kernel
theorem dX0_hear_7 : decode cX0_hear 7 = .ok (.if_icmp .lt 7, 3) := by decide +kernel
theorem dX0_hear_10 : decode cX0_hear 10 = .ok (.iconst 1, 1) := by decide +kernel
theorem dX0_hear_11 : decode cX0_hear 11 = .ok (.goto 4, 3) := by decide +kernel
theorem dX0_hear_14 : decode cX0_hear 14 = .ok (.iconst 0, 1) := by decide +kernel
theorem dX0_hear_15 : decode cX0_hear 15 = .ok (.istore_n 3, 1) := by decide +kernel
theorem dX0_hear_16 : decode cX0_hear 16 = .ok (.aload_n 0, 1) := by decide +kernel
theorem dX0_hear_17 : decode cX0_hear 17 = .ok (.iload_n 3, 1) := by decide +kernel
theorem dX0_hear_18 : decode cX0_hear 18 = .ok (.ifCond .eq 17, 3) := by decide +kernel
theorem dX0_hear_21 : decode cX0_hear 21 = .ok (.bipush 30, 2) := by decide +kernel
theorem dX0_hear_23 : decode cX0_hear 23 = .ok (.aload_n 0, 1) := by decide +kernel
theorem dX0_hear_24 : decode cX0_hear 24 = .ok (.getfield 15, 3) := by decide +kernel
theorem dX0_hear_27 : decode cX0_hear 27 = .ok (.iconst 3, 1) := by decide +kernel
theorem dX0_hear_28 : decode cX0_hear 28 = .ok (.iadd, 1) := by decide +kernel
theorem dX0_hear_29 : decode cX0_hear 29 = .ok (.invokestatic 42, 3) := by decide +kernel
theorem dX0_hear_32 : decode cX0_hear 32 = .ok (.goto 13, 3) := by decide +kernel
theorem dX0_hear_35 : decode cX0_hear 35 = .ok (.iconst 0, 1) := by decide +kernel
theorem dX0_hear_36 : decode cX0_hear 36 = .ok (.aload_n 0, 1) := by decide +kernel
theorem dX0_hear_37 : decode cX0_hear 37 = .ok (.getfield 15, 3) := by decide +kernel
theorem dX0_hear_40 : decode cX0_hear 40 = .ok (.iconst 4, 1) := by decide +kernel
theorem dX0_hear_41 : decode cX0_hear 41 = .ok (.isub, 1) := by decide +kernel
theorem dX0_hear_42 : decode cX0_hear 42 = .ok (.invokestatic 48, 3) := by decide +kernel
theorem dX0_hear_45 : decode cX0_hear 45 = .ok (.putfield 15, 3) := by decide +kernel
theorem dX0_hear_48 : decode cX0_hear 48 = .ok (.aload_n 0, 1) := by decide +kernel
theorem dX0_hear_49 : decode cX0_hear 49 = .ok (.aload_n 0, 1) := by decide +kernel
theorem dX0_hear_50 : decode cX0_hear 50 = .ok (.getfield 15, 3) := by decide +kernel
theorem dX0_hear_53 : decode cX0_hear 53 = .ok (.ifCond .le 7, 3) := by decide +kernel
theorem dX0_hear_56 : decode cX0_hear 56 = .ok (.iconst 1, 1) := by decide +kernel
theorem dX0_hear_57 : decode cX0_hear 57 = .ok (.goto 4, 3) := by decide +kernel
theorem dX0_hear_60 : decode cX0_hear 60 = .ok (.iconst 0, 1) := by decide +kernel
theorem dX0_hear_61 : decode cX0_hear 61 = .ok (.putfield 19, 3) := by decide +kernel
theorem dX0_hear_64 : decode cX0_hear 64 = .ok (.aload_n 1, 1) := by decide +kernel
theorem dX0_hear_65 : decode cX0_hear 65 = .ok (.getfield 23, 3) := by decide +kernel
theorem dX0_hear_68 : decode cX0_hear 68 = .ok (.ifCond .lt 28, 3) := by decide +kernel
theorem dX0_hear_71 : decode cX0_hear 71 = .ok (.aload_n 1, 1) := by decide +kernel
theorem dX0_hear_72 : decode cX0_hear 72 = .ok (.getfield 23, 3) := by decide +kernel
theorem dX0_hear_75 : decode cX0_hear 75 = .ok (.aload_n 0, 1) := by decide +kernel
theorem dX0_hear_76 : decode cX0_hear 76 = .ok (.getfield 9, 3) := by decide +kernel
theorem dX0_hear_79 : decode cX0_hear 79 = .ok (.arraylength, 1) := by decide +kernel
theorem dX0_hear_80 : decode cX0_hear 80 = .ok (.if_icmp .ge 16, 3) := by decide +kernel
theorem dX0_hear_83 : decode cX0_hear 83 = .ok (.aload_n 0, 1) := by decide +kernel
theorem dX0_hear_84 : decode cX0_hear 84 = .ok (.getfield 9, 3) := by decide +kernel
theorem dX0_hear_87 : decode cX0_hear 87 = .ok (.aload_n 1, 1) := by decide +kernel
theorem dX0_hear_88 : decode cX0_hear 88 = .ok (.getfield 23, 3) := by decide +kernel
theorem dX0_hear_91 : decode cX0_hear 91 = .ok (.dup2, 1) := by decide +kernel
theorem dX0_hear_92 : decode cX0_hear 92 = .ok (.iaload, 1) := by decide +kernel
theorem dX0_hear_93 : decode cX0_hear 93 = .ok (.iconst 1, 1) := by decide +kernel
theorem dX0_hear_94 : decode cX0_hear 94 = .ok (.iadd, 1) := by decide +kernel
theorem dX0_hear_95 : decode cX0_hear 95 = .ok (.iastore, 1) := by decide +kernel
theorem dX0_hear_96 : decode cX0_hear 96 = .ok (.aload_n 0, 1) := by decide +kernel
theorem dX0_hear_97 : decode cX0_hear 97 = .ok (.dup, 1) := by decide +kernel
theorem dX0_hear_98 : decode cX0_hear 98 = .ok (.getfield 51, 3) := by decide +kernel
theorem dX0_hear_101 : decode cX0_hear 101 = .ok (.iconst 1, 1) := by decide +kernel
theorem dX0_hear_102 : decode cX0_hear 102 = .ok (.iadd, 1) := by decide +kernel
theorem dX0_hear_103 : decode cX0_hear 103 = .ok (.putfield 51, 3) := by decide +kernel
theorem dX0_hear_106 : decode cX0_hear 106 = .ok (.return_, 1) := by decide +kernel
set_option maxRecDepth 20000 in
theorem ggX0_letWatchGoBy_X0_patienceBehindWatch : GoodIn wsX0_letWatchGoBy wsX0_patienceBehindWatch := goodIn_r _ [6, 7, 8, 9, 10, 11, 12, 13] (by decide +kernel) (by decide +kernel)
set_option maxRecDepth 20000 in
theorem gX0_letWatchGoBy_X0_patienceBehindWatch : GoodIn wsX0_letWatchGoBy (va_wsS RX0 54 yX0_patienceBehindWatch wsX0_patienceBehindWatch) := goodIn_app (goodIn_of _ (by decide +kernel)) ggX0_letWatchGoBy_X0_patienceBehindWatch
set_option maxRecDepth 20000 in
theorem ggX0_letWatchGoBy_X0_isAwakeBehindWatch : GoodIn wsX0_letWatchGoBy wsX0_isAwakeBehindWatch := goodIn_r _ [16] (by decide +kernel) (by decide +kernel)
set_option maxRecDepth 20000 in
theorem gX0_letWatchGoBy_X0_isAwakeBehindWatch : GoodIn wsX0_letWatchGoBy (va_wsS RX0 58 yX0_isAwakeBehindWatch wsX0_isAwakeBehindWatch) := goodIn_app (goodIn_of _ (by decide +kernel)) ggX0_letWatchGoBy_X0_isAwakeBehindWatch
theorem dX0_letWatchGoBy_0 : decode cX0_letWatchGoBy 0 = .ok (.aload_n 0, 1) := by decide +kernel
theorem dX0_letWatchGoBy_1 : decode cX0_letWatchGoBy 1 = .ok (.aload_n 0, 1) := by decide +kernel
theorem dX0_letWatchGoBy_2 : decode cX0_letWatchGoBy 2 = .ok (.getfield 19, 3) := by decide +kernel
theorem dX0_letWatchGoBy_5 : decode cX0_letWatchGoBy 5 = .ok (.aload_n 0, 1) := by decide +kernel
theorem dX0_letWatchGoBy_6 : decode cX0_letWatchGoBy 6 = .ok (.getfield 15, 3) := by decide +kernel
theorem dX0_letWatchGoBy_9 : decode cX0_letWatchGoBy 9 = .ok (.invokestatic 54, 3) := by decide +kernel
theorem dX0_letWatchGoBy_12 : decode cX0_letWatchGoBy 12 = .ok (.putfield 15, 3) := by decide +kernel
theorem dX0_letWatchGoBy_15 : decode cX0_letWatchGoBy 15 = .ok (.aload_n 0, 1) := by decide +kernel
theorem dX0_letWatchGoBy_16 : decode cX0_letWatchGoBy 16 = .ok (.aload_n 0, 1) := by decide +kernel
theorem dX0_letWatchGoBy_17 : decode cX0_letWatchGoBy 17 = .ok (.getfield 19, 3) := by decide +kernel
theorem dX0_letWatchGoBy_20 : decode cX0_letWatchGoBy 20 = .ok (.aload_n 0, 1) := by decide +kernel
theorem dX0_letWatchGoBy_21 : decode cX0_letWatchGoBy 21 = .ok (.getfield 15, 3) := by decide +kernel
theorem dX0_letWatchGoBy_24 : decode cX0_letWatchGoBy 24 = .ok (.invokestatic 58, 3) := by decide +kernel
theorem dX0_letWatchGoBy_27 : decode cX0_letWatchGoBy 27 = .ok (.putfield 19, 3) := by decide +kernel
theorem dX0_letWatchGoBy_30 : decode cX0_letWatchGoBy 30 = .ok (.return_, 1) := by decide +kernel
set_option maxRecDepth 20000 in
theorem ggX0_watchesTillOtherwise_X0_patienceBehindWatch : GoodIn wsX0_watchesTillOtherwise wsX0_patienceBehindWatch := goodIn_r _ [6, 7, 8, 9, 10, 11, 12, 13] (by decide +kernel) (by decide +kernel)
set_option maxRecDepth 20000 in
theorem gX0_watchesTillOtherwise_X0_patienceBehindWatch : GoodIn wsX0_watchesTillOtherwise (va_wsS RX0 54 yX0_patienceBehindWatch wsX0_patienceBehindWatch) := goodIn_app (goodIn_of _ (by decide +kernel)) ggX0_watchesTillOtherwise_X0_patienceBehindWatch
set_option maxRecDepth 20000 in
theorem ggX0_watchesTillOtherwise_X0_isAwakeBehindWatch : GoodIn wsX0_watchesTillOtherwise wsX0_isAwakeBehindWatch := goodIn_r _ [16] (by decide +kernel) (by decide +kernel)
set_option maxRecDepth 20000 in
theorem gX0_watchesTillOtherwise_X0_isAwakeBehindWatch : GoodIn wsX0_watchesTillOtherwise (va_wsS RX0 58 yX0_isAwakeBehindWatch wsX0_isAwakeBehindWatch) := goodIn_app (goodIn_of _ (by decide +kernel)) ggX0_watchesTillOtherwise_X0_isAwakeBehindWatch
theorem dX0_watchesTillOtherwise_0 : decode cX0_watchesTillOtherwise 0 = .ok (.aload_n 0, 1) := by decide +kernel
theorem dX0_watchesTillOtherwise_1 : decode cX0_watchesTillOtherwise 1 = .ok (.getfield 15, 3) := by decide +kernel
theorem dX0_watchesTillOtherwise_4 : decode cX0_watchesTillOtherwise 4 = .ok (.istore_n 1, 1) := by decide +kernel
theorem dX0_watchesTillOtherwise_5 : decode cX0_watchesTillOtherwise 5 = .ok (.iconst 1, 1) := by decide +kernel
theorem dX0_watchesTillOtherwise_6 : decode cX0_watchesTillOtherwise 6 = .ok (.istore_n 2, 1) := by decide +kernel
theorem dX0_watchesTillOtherwise_7 : decode cX0_watchesTillOtherwise 7 = .ok (.iload_n 2, 1) := by decide +kernel
theorem dX0_watchesTillOtherwise_8 : decode cX0_watchesTillOtherwise 8 = .ok (.bipush 100, 2) := by decide +kernel
theorem dX0_watchesTillOtherwise_10 : decode cX0_watchesTillOtherwise 10 = .ok (.if_icmp .gt 35, 3) := by decide +kernel
theorem dX0_watchesTillOtherwise_13 : decode cX0_watchesTillOtherwise 13 = .ok (.aload_n 0, 1) := by decide +kernel
theorem dX0_watchesTillOtherwise_14 : decode cX0_watchesTillOtherwise 14 = .ok (.getfield 19, 3) := by decide +kernel
theorem dX0_watchesTillOtherwise_17 : decode cX0_watchesTillOtherwise 17 = .ok (.iload_n 1, 1) := by decide +kernel
theorem dX0_watchesTillOtherwise_18 : decode cX0_watchesTillOtherwise 18 = .ok (.invokestatic 54, 3) := by decide +kernel
theorem dX0_watchesTillOtherwise_21 : decode cX0_watchesTillOtherwise 21 = .ok (.istore_n 1, 1) := by decide +kernel
theorem dX0_watchesTillOtherwise_22 : decode cX0_watchesTillOtherwise 22 = .ok (.aload_n 0, 1) := by decide +kernel
theorem dX0_watchesTillOtherwise_23 : decode cX0_watchesTillOtherwise 23 = .ok (.getfield 19, 3) := by decide +kernel
theorem dX0_watchesTillOtherwise_26 : decode cX0_watchesTillOtherwise 26 = .ok (.iload_n 1, 1) := by decide +kernel
theorem dX0_watchesTillOtherwise_27 : decode cX0_watchesTillOtherwise 27 = .ok (.invokestatic 58, 3) := by decide +kernel
theorem dX0_watchesTillOtherwise_30 : decode cX0_watchesTillOtherwise 30 = .ok (.aload_n 0, 1) := by decide +kernel
theorem dX0_watchesTillOtherwise_31 : decode cX0_watchesTillOtherwise 31 = .ok (.getfield 19, 3) := by decide +kernel
theorem dX0_watchesTillOtherwise_34 : decode cX0_watchesTillOtherwise 34 = .ok (.if_icmp .eq 5, 3) := by decide +kernel
theorem dX0_watchesTillOtherwise_37 : decode cX0_watchesTillOtherwise 37 = .ok (.iload_n 2, 1) := by decide +kernel
theorem dX0_watchesTillOtherwise_38 : decode cX0_watchesTillOtherwise 38 = .ok (.ireturn, 1) := by decide +kernel
theorem dX0_watchesTillOtherwise_39 : decode cX0_watchesTillOtherwise 39 = .ok (.iinc 2 1, 3) := by decide +kernel
theorem dX0_watchesTillOtherwise_42 : decode cX0_watchesTillOtherwise 42 = .ok (.goto (-35), 3) := by decide +kernel
theorem dX0_watchesTillOtherwise_45 : decode cX0_watchesTillOtherwise 45 = .ok (.iconst (-1), 1) := by decide +kernel
theorem dX0_watchesTillOtherwise_46 : decode cX0_watchesTillOtherwise 46 = .ok (.ireturn, 1) := by decide +kernel
theorem dX0_answer_0 : decode cX0_answer 0 = .ok (.iload_n 1, 1) := by decide +kernel
theorem dX0_answer_1 : decode cX0_answer 1 = .ok (.lookupswitch 45 #[(0, 27), (1, 40)], 27) := by decide +kernel
theorem dX0_answer_28 : decode cX0_answer 28 = .ok (.aload_n 0, 1) := by decide +kernel
theorem dX0_answer_29 : decode cX0_answer 29 = .ok (.getfield 19, 3) := by decide +kernel
theorem dX0_answer_32 : decode cX0_answer 32 = .ok (.ifCond .eq 7, 3) := by decide +kernel
theorem dX0_answer_35 : decode cX0_answer 35 = .ok (.iconst 1, 1) := by decide +kernel
theorem dX0_answer_36 : decode cX0_answer 36 = .ok (.goto 4, 3) := by decide +kernel
theorem dX0_answer_39 : decode cX0_answer 39 = .ok (.iconst 0, 1) := by decide +kernel
theorem dX0_answer_40 : decode cX0_answer 40 = .ok (.ireturn, 1) := by decide +kernel
theorem dX0_answer_41 : decode cX0_answer 41 = .ok (.aload_n 0, 1) := by decide +kernel
theorem dX0_answer_42 : decode cX0_answer 42 = .ok (.getfield 15, 3) := by decide +kernel
theorem dX0_answer_45 : decode cX0_answer 45 = .ok (.ireturn, 1) := by decide +kernel
theorem dX0_answer_46 : decode cX0_answer 46 = .ok (.aload_n 0, 1) := by decide +kernel
theorem dX0_answer_47 : decode cX0_answer 47 = .ok (.getfield 51, 3) := by decide +kernel
theorem dX0_answer_50 : decode cX0_answer 50 = .ok (.ireturn, 1) := by decide +kernel
theorem dX0_timesHeard_0 : decode cX0_timesHeard 0 = .ok (.iload_n 1, 1) := by decide +kernel
theorem dX0_timesHeard_1 : decode cX0_timesHeard 1 = .ok (.ifCond .lt 21, 3) := by decide +kernel
theorem dX0_timesHeard_4 : decode cX0_timesHeard 4 = .ok (.iload_n 1, 1) := by decide +kernel
theorem dX0_timesHeard_5 : decode cX0_timesHeard 5 = .ok (.aload_n 0, 1) := by decide +kernel
theorem dX0_timesHeard_6 : decode cX0_timesHeard 6 = .ok (.getfield 9, 3) := by decide +kernel
theorem dX0_timesHeard_9 : decode cX0_timesHeard 9 = .ok (.arraylength, 1) := by decide +kernel
theorem dX0_timesHeard_10 : decode cX0_timesHeard 10 = .ok (.if_icmp .ge 12, 3) := by decide +kernel
theorem dX0_timesHeard_13 : decode cX0_timesHeard 13 = .ok (.aload_n 0, 1) := by decide +kernel
theorem dX0_timesHeard_14 : decode cX0_timesHeard 14 = .ok (.getfield 9, 3) := by decide +kernel
theorem dX0_timesHeard_17 : decode cX0_timesHeard 17 = .ok (.iload_n 1, 1) := by decide +kernel
theorem dX0_timesHeard_18 : decode cX0_timesHeard 18 = .ok (.iaload, 1) := by decide +kernel
theorem dX0_timesHeard_19 : decode cX0_timesHeard 19 = .ok (.goto 4, 3) := by decide +kernel
theorem dX0_timesHeard_22 : decode cX0_timesHeard 22 = .ok (.iconst 0, 1) := by decide +kernel
theorem dX0_timesHeard_23 : decode cX0_timesHeard 23 = .ok (.ireturn, 1) := by decide +kernel
theorem dX0_patienceBehindWatch_0 : decode cX0_patienceBehindWatch 0 = .ok (.iload_n 0, 1) := by decide +kernel
theorem dX0_patienceBehindWatch_1 : decode cX0_patienceBehindWatch 1 = .ok (.ifCond .eq 13, 3) := by decide +kernel
theorem dX0_patienceBehindWatch_4 : decode cX0_patienceBehindWatch 4 = .ok (.iconst 0, 1) := by decide +kernel
theorem dX0_patienceBehindWatch_5 : decode cX0_patienceBehindWatch 5 = .ok (.iload_n 1, 1) := by decide +kernel
theorem dX0_patienceBehindWatch_6 : decode cX0_patienceBehindWatch 6 = .ok (.iconst 1, 1) := by decide +kernel
theorem dX0_patienceBehindWatch_7 : decode cX0_patienceBehindWatch 7 = .ok (.isub, 1) := by decide +kernel
theorem dX0_patienceBehindWatch_8 : decode cX0_patienceBehindWatch 8 = .ok (.invokestatic 48, 3) := by decide +kernel
theorem dX0_patienceBehindWatch_11 : decode cX0_patienceBehindWatch 11 = .ok (.goto 11, 3) := by decide +kernel
theorem dX0_patienceBehindWatch_14 : decode cX0_patienceBehindWatch 14 = .ok (.bipush 30, 2) := by decide +kernel
theorem dX0_patienceBehindWatch_16 : decode cX0_patienceBehindWatch 16 = .ok (.iload_n 1, 1) := by decide +kernel
theorem dX0_patienceBehindWatch_17 : decode cX0_patienceBehindWatch 17 = .ok (.iconst 5, 1) := by decide +kernel
theorem dX0_patienceBehindWatch_18 : decode cX0_patienceBehindWatch 18 = .ok (.iadd, 1) := by decide +kernel
theorem dX0_patienceBehindWatch_19 : decode cX0_patienceBehindWatch 19 = .ok (.invokestatic 42, 3) := by decide +kernel
theorem dX0_patienceBehindWatch_22 : decode cX0_patienceBehindWatch 22 = .ok (.ireturn, 1) := by decide +kernel
theorem dX0_isAwakeBehindWatch_0 : decode cX0_isAwakeBehindWatch 0 = .ok (.iload_n 0, 1) := by decide +kernel
theorem dX0_isAwakeBehindWatch_1 : decode cX0_isAwakeBehindWatch 1 = .ok (.ifCond .eq 15, 3) := by decide +kernel
theorem dX0_isAwakeBehindWatch_4 : decode cX0_isAwakeBehindWatch 4 = .ok (.iload_n 1, 1) := by decide +kernel
theorem dX0_isAwakeBehindWatch_5 : decode cX0_isAwakeBehindWatch 5 = .ok (.ifCond .le 7, 3) := by decide +kernel
theorem dX0_isAwakeBehindWatch_8 : decode cX0_isAwakeBehindWatch 8 = .ok (.iconst 1, 1) := by decide +kernel
theorem dX0_isAwakeBehindWatch_9 : decode cX0_isAwakeBehindWatch 9 = .ok (.goto 18, 3) := by decide +kernel
theorem dX0_isAwakeBehindWatch_12 : decode cX0_isAwakeBehindWatch 12 = .ok (.iconst 0, 1) := by decide +kernel
theorem dX0_isAwakeBehindWatch_13 : decode cX0_isAwakeBehindWatch 13 = .ok (.goto 14, 3) := by decide +kernel
theorem dX0_isAwakeBehindWatch_16 : decode cX0_isAwakeBehindWatch 16 = .ok (.iload_n 1, 1) := by decide +kernel
theorem dX0_isAwakeBehindWatch_17 : decode cX0_isAwakeBehindWatch 17 = .ok (.bipush 10, 2) := by decide +kernel
theorem dX0_isAwakeBehindWatch_19 : decode cX0_isAwakeBehindWatch 19 = .ok (.if_icmp .lt 7, 3) := by decide +kernel
theorem dX0_isAwakeBehindWatch_22 : decode cX0_isAwakeBehindWatch 22 = .ok (.iconst 1, 1) := by decide +kernel
theorem dX0_isAwakeBehindWatch_23 : decode cX0_isAwakeBehindWatch 23 = .ok (.goto 4, 3) := by decide +kernel
theorem dX0_isAwakeBehindWatch_26 : decode cX0_isAwakeBehindWatch 26 = .ok (.iconst 0, 1) := by decide +kernel
theorem dX0_isAwakeBehindWatch_27 : decode cX0_isAwakeBehindWatch 27 = .ok (.ireturn, 1) := by decide +kernel
set_option maxRecDepth 20000 in
theorem ggX1_init_X1_tellOn : GoodIn wsX1_init wsX1_tellOn := goodIn_r _ [11, 12, 5, 13, 14, 15, 16, 17, 18, 19, 20, 21, 22, 23, 24, 25, 26, 27, 28, 29, 30, 31, 32, 33, 34, 35] (by decide +kernel) (by decide +kernel)
set_option maxRecDepth 20000 in
theorem gX1_init_X1_tellOn : GoodIn wsX1_init (wsV RX1 19 RX1 yX1_tellOn wsX1_tellOn) := goodIn_app (goodIn_of _ (by decide +kernel)) ggX1_init_X1_tellOn
theorem dX1_init_0 : decode cX1_init 0 = .ok (.aload_n 0, 1) := by decide +kernel
theorem dX1_init_1 : decode cX1_init 1 = .ok (.invokespecial 3, 3) := by decide +kernel
theorem dX1_init_4 : decode cX1_init 4 = .ok (.aload_n 0, 1) := by decide +kernel
theorem dX1_init_5 : decode cX1_init 5 = .ok (.bipush 8, 2) := by decide +kernel
theorem dX1_init_7 : decode cX1_init 7 = .ok (.newarray .int, 2) := by decide +kernel
theorem dX1_init_9 : decode cX1_init 9 = .ok (.putfield 9, 3) := by decide +kernel
theorem dX1_init_12 : decode cX1_init 12 = .ok (.aload_n 0, 1) := by decide +kernel
theorem dX1_init_13 : decode cX1_init 13 = .ok (.iconst (-1), 1) := by decide +kernel
theorem dX1_init_14 : decode cX1_init 14 = .ok (.putfield 15, 3) := by decide +kernel
theorem dX1_init_17 : decode cX1_init 17 = .ok (.aload_n 0, 1) := by decide +kernel
theorem dX1_init_18 : decode cX1_init 18 = .ok (.aload_n 1, 1) := by decide +kernel
theorem dX1_init_19 : decode cX1_init 19 = .ok (.invokevirtual 19, 3) := by decide +kernel
theorem dX1_init_22 : decode cX1_init 22 = .ok (.return_, 1) := by decide +kernel
set_option maxRecDepth 20000 in
theorem ggX1_tellOn_X2_asSet : GoodIn wsX1_tellOn wsX2_asSet := goodIn_r _ [12, 13, 20, 21, 22, 23, 24, 25] (by decide +kernel) (by decide +kernel)
set_option maxRecDepth 20000 in
theorem gX1_tellOn_X2_asSet : GoodIn wsX1_tellOn (wsV RX1 38 RX2 yX2_asSet wsX2_asSet) := goodIn_app (goodIn_of _ (by decide +kernel)) ggX1_tellOn_X2_asSet
theorem dX1_tellOn_0 : decode cX1_tellOn 0 = .ok (.aload_n 0, 1) := by decide +kernel
theorem dX1_tellOn_1 : decode cX1_tellOn 1 = .ok (.getfield 23, 3) := by decide +kernel
theorem dX1_tellOn_4 : decode cX1_tellOn 4 = .ok (.ifCond .lt 69, 3) := by decide +kernel
theorem dX1_tellOn_7 : decode cX1_tellOn 7 = .ok (.aload_n 0, 1) := by decide +kernel
theorem dX1_tellOn_8 : decode cX1_tellOn 8 = .ok (.getfield 23, 3) := by decide +kernel
theorem dX1_tellOn_11 : decode cX1_tellOn 11 = .ok (.aload_n 0, 1) := by decide +kernel
theorem dX1_tellOn_12 : decode cX1_tellOn 12 = .ok (.getfield 9, 3) := by decide +kernel
theorem dX1_tellOn_15 : decode cX1_tellOn 15 = .ok (.arraylength, 1) := by decide +kernel
theorem dX1_tellOn_16 : decode cX1_tellOn 16 = .ok (.if_icmp .ge 57, 3) := by decide +kernel
theorem dX1_tellOn_19 : decode cX1_tellOn 19 = .ok (.aload_n 0, 1) := by decide +kernel
theorem dX1_tellOn_20 : decode cX1_tellOn 20 = .ok (.getfield 9, 3) := by decide +kernel
theorem dX1_tellOn_23 : decode cX1_tellOn 23 = .ok (.aload_n 0, 1) := by decide +kernel
theorem dX1_tellOn_24 : decode cX1_tellOn 24 = .ok (.getfield 23, 3) := by decide +kernel
theorem dX1_tellOn_27 : decode cX1_tellOn 27 = .ok (.aload_n 1, 1) := by decide +kernel
theorem dX1_tellOn_28 : decode cX1_tellOn 28 = .ok (.getfield 26, 3) := by decide +kernel
theorem dX1_tellOn_31 : decode cX1_tellOn 31 = .ok (.iastore, 1) := by decide +kernel
theorem dX1_tellOn_32 : decode cX1_tellOn 32 = .ok (.aload_n 0, 1) := by decide +kernel
theorem dX1_tellOn_33 : decode cX1_tellOn 33 = .ok (.dup, 1) := by decide +kernel
theorem dX1_tellOn_34 : decode cX1_tellOn 34 = .ok (.getfield 23, 3) := by decide +kernel
theorem dX1_tellOn_37 : decode cX1_tellOn 37 = .ok (.iconst 1, 1) := by decide +kernel
theorem dX1_tellOn_38 : decode cX1_tellOn 38 = .ok (.iadd, 1) := by decide +kernel
theorem dX1_tellOn_39 : decode cX1_tellOn 39 = .ok (.putfield 23, 3) := by decide +kernel
theorem dX1_tellOn_42 : decode cX1_tellOn 42 = .ok (.aload_n 0, 1) := by decide +kernel
theorem dX1_tellOn_43 : decode cX1_tellOn 43 = .ok (.dup, 1) := by decide +kernel
theorem dX1_tellOn_44 : decode cX1_tellOn 44 = .ok (.getfield 31, 3) := by decide +kernel
theorem dX1_tellOn_47 : decode cX1_tellOn 47 = .ok (.aload_n 1, 1) := by decide +kernel
theorem dX1_tellOn_48 : decode cX1_tellOn 48 = .ok (.getfield 34, 3) := by decide +kernel
theorem dX1_tellOn_51 : decode cX1_tellOn 51 = .ok (.iadd, 1) := by decide +kernel
theorem dX1_tellOn_52 : decode cX1_tellOn 52 = .ok (.putfield 31, 3) := by decide +kernel
theorem dX1_tellOn_55 : decode cX1_tellOn 55 = .ok (.aload_n 0, 1) := by decide +kernel
theorem dX1_tellOn_56 : decode cX1_tellOn 56 = .ok (.dup, 1) := by decide +kernel
theorem dX1_tellOn_57 : decode cX1_tellOn 57 = .ok (.getfield 35, 3) := by decide +kernel
theorem dX1_tellOn_60 : decode cX1_tellOn 60 = .ok (.aload_n 1, 1) := by decide +kernel
theorem dX1_tellOn_61 : decode cX1_tellOn 61 = .ok (.invokevirtual 38, 3) := by decide +kernel
theorem dX1_tellOn_64 : decode cX1_tellOn 64 = .ok (.ior, 1) := by decide +kernel
theorem dX1_tellOn_65 : decode cX1_tellOn 65 = .ok (.putfield 35, 3) := by decide +kernel
theorem dX1_tellOn_68 : decode cX1_tellOn 68 = .ok (.aload_n 0, 1) := by decide +kernel
theorem dX1_tellOn_69 : decode cX1_tellOn 69 = .ok (.aload_n 1, 1) := by decide +kernel
theorem dX1_tellOn_70 : decode cX1_tellOn 70 = .ok (.putfield 42, 3) := by decide +kernel
theorem dX1_tellOn_73 : decode cX1_tellOn 73 = .ok (.return_, 1) := by decide +kernel
theorem dX1_isOpen_0 : decode cX1_isOpen 0 = .ok (.aload_n 0, 1) := by decide +kernel
theorem dX1_isOpen_1 : decode cX1_isOpen 1 = .ok (.getfield 42, 3) := by decide +kernel
theorem dX1_isOpen_4 : decode cX1_isOpen 4 = .ok (.getfield 46, 3) := by decide +kernel
theorem dX1_isOpen_7 : decode cX1_isOpen 7 = .ok (.iconst 2, 1) := by decide +kernel
theorem dX1_isOpen_8 : decode cX1_isOpen 8 = .ok (.if_icmp .eq 7, 3) := by decide +kernel
theorem dX1_isOpen_11 : decode cX1_isOpen 11 = .ok (.iconst 1, 1) := by decide +kernel
theorem dX1_isOpen_12 : decode cX1_isOpen 12 = .ok (.goto 4, 3) := by decide +kernel
theorem dX1_isOpen_15 : decode cX1_isOpen 15 = .ok (.iconst 0, 1) := by decide +kernel
theorem dX1_isOpen_16 : decode cX1_isOpen 16 = .ok (.ireturn, 1) := by decide +kernel
set_option maxRecDepth 20000 in
theorem ggX1_canGoOnWith_X1_isOpen : GoodIn wsX1_canGoOnWith wsX1_isOpen := goodIn_r _ [10, 3, 4, 22, 23, 24, 25, 26, 27, 28, 29, 30, 31, 32, 33] (by decide +kernel) (by decide +kernel)
set_option maxRecDepth 20000 in
theorem gX1_canGoOnWith_X1_isOpen : GoodIn wsX1_canGoOnWith (wsV RX1 49 RX1 yX1_isOpen wsX1_isOpen) := goodIn_app (goodIn_of _ (by decide +kernel)) ggX1_canGoOnWith_X1_isOpen
set_option maxRecDepth 20000 in
theorem ggX1_canGoOnWith_X2_canLeadTo : GoodIn wsX1_canGoOnWith wsX2_canLeadTo := goodIn_r _ [15, 16, 17, 18, 19, 14, 20, 21, 28, 29, 30, 31, 32, 33] (by decide +kernel) (by decide +kernel)
set_option maxRecDepth 20000 in
theorem gX1_canGoOnWith_X2_canLeadTo : GoodIn wsX1_canGoOnWith (wsV RX1 53 RX2 yX2_canLeadTo wsX2_canLeadTo) := goodIn_app (goodIn_of _ (by decide +kernel)) ggX1_canGoOnWith_X2_canLeadTo
theorem dX1_canGoOnWith_0 : decode cX1_canGoOnWith 0 = .ok (.aload_n 0, 1) := by decide +kernel
theorem dX1_canGoOnWith_1 : decode cX1_canGoOnWith 1 = .ok (.invokevirtual 49, 3) := by decide +kernel
theorem dX1_canGoOnWith_4 : decode cX1_canGoOnWith 4 = .ok (.ifCond .eq 26, 3) := by decide +kernel
theorem dX1_canGoOnWith_7 : decode cX1_canGoOnWith 7 = .ok (.aload_n 0, 1) := by decide +kernel
theorem dX1_canGoOnWith_8 : decode cX1_canGoOnWith 8 = .ok (.getfield 23, 3) := by decide +kernel
theorem dX1_canGoOnWith_11 : decode cX1_canGoOnWith 11 = .ok (.aload_n 0, 1) := by decide +kernel
theorem dX1_canGoOnWith_12 : decode cX1_canGoOnWith 12 = .ok (.getfield 9, 3) := by decide +kernel
theorem dX1_canGoOnWith_15 : decode cX1_canGoOnWith 15 = .ok (.arraylength, 1) := by decide +kernel
theorem dX1_canGoOnWith_16 : decode cX1_canGoOnWith 16 = .ok (.if_icmp .ge 14, 3) := by decide +kernel
theorem dX1_canGoOnWith_19 : decode cX1_canGoOnWith 19 = .ok (.aload_n 0, 1) := by decide +kernel
theorem dX1_canGoOnWith_20 : decode cX1_canGoOnWith 20 = .ok (.getfield 42, 3) := by decide +kernel
theorem dX1_canGoOnWith_23 : decode cX1_canGoOnWith 23 = .ok (.aload_n 1, 1) := by decide +kernel
theorem dX1_canGoOnWith_24 : decode cX1_canGoOnWith 24 = .ok (.invokevirtual 53, 3) := by decide +kernel
theorem dX1_canGoOnWith_27 : decode cX1_canGoOnWith 27 = .ok (.ifCond .ne 5, 3) := by decide +kernel
theorem dX1_canGoOnWith_30 : decode cX1_canGoOnWith 30 = .ok (.iconst 0, 1) := by decide +kernel
theorem dX1_canGoOnWith_31 : decode cX1_canGoOnWith 31 = .ok (.ireturn, 1) := by decide +kernel
theorem dX1_canGoOnWith_32 : decode cX1_canGoOnWith 32 = .ok (.aload_n 1, 1) := by decide +kernel
theorem dX1_canGoOnWith_33 : decode cX1_canGoOnWith 33 = .ok (.getfield 46, 3) := by decide +kernel
theorem dX1_canGoOnWith_36 : decode cX1_canGoOnWith 36 = .ok (.iconst 2, 1) := by decide +kernel
theorem dX1_canGoOnWith_37 : decode cX1_canGoOnWith 37 = .ok (.if_icmp .ne 19, 3) := by decide +kernel
theorem dX1_canGoOnWith_40 : decode cX1_canGoOnWith 40 = .ok (.aload_n 0, 1) := by decide +kernel
theorem dX1_canGoOnWith_41 : decode cX1_canGoOnWith 41 = .ok (.getfield 15, 3) := by decide +kernel
theorem dX1_canGoOnWith_44 : decode cX1_canGoOnWith 44 = .ok (.iconst (-1), 1) := by decide +kernel
theorem dX1_canGoOnWith_45 : decode cX1_canGoOnWith 45 = .ok (.if_icmp .eq 11, 3) := by decide +kernel
theorem dX1_canGoOnWith_48 : decode cX1_canGoOnWith 48 = .ok (.aload_n 0, 1) := by decide +kernel
theorem dX1_canGoOnWith_49 : decode cX1_canGoOnWith 49 = .ok (.getfield 15, 3) := by decide +kernel
theorem dX1_canGoOnWith_52 : decode cX1_canGoOnWith 52 = .ok (.iload_n 2, 1) := by decide +kernel
theorem dX1_canGoOnWith_53 : decode cX1_canGoOnWith 53 = .ok (.if_icmp .ne 7, 3) := by decide +kernel
theorem dX1_canGoOnWith_56 : decode cX1_canGoOnWith 56 = .ok (.iconst 1, 1) := by decide +kernel
theorem dX1_canGoOnWith_57 : decode cX1_canGoOnWith 57 = .ok (.goto 4, 3) := by decide +kernel
theorem dX1_canGoOnWith_60 : decode cX1_canGoOnWith 60 = .ok (.iconst 0, 1) := by decide +kernel
theorem dX1_canGoOnWith_61 : decode cX1_canGoOnWith 61 = .ok (.ireturn, 1) := by decide +kernel
theorem dX1_numberAt_0 : decode cX1_numberAt 0 = .ok (.iload_n 1, 1) := by decide +kernel
theorem dX1_numberAt_1 : decode cX1_numberAt 1 = .ok (.ifCond .lt 21, 3) := by decide +kernel
theorem dX1_numberAt_4 : decode cX1_numberAt 4 = .ok (.iload_n 1, 1) := by decide +kernel
theorem dX1_numberAt_5 : decode cX1_numberAt 5 = .ok (.aload_n 0, 1) := by decide +kernel
theorem dX1_numberAt_6 : decode cX1_numberAt 6 = .ok (.getfield 9, 3) := by decide +kernel
theorem dX1_numberAt_9 : decode cX1_numberAt 9 = .ok (.arraylength, 1) := by decide +kernel
theorem dX1_numberAt_10 : decode cX1_numberAt 10 = .ok (.if_icmp .ge 12, 3) := by decide +kernel
theorem dX1_numberAt_13 : decode cX1_numberAt 13 = .ok (.aload_n 0, 1) := by decide +kernel
theorem dX1_numberAt_14 : decode cX1_numberAt 14 = .ok (.getfield 9, 3) := by decide +kernel
theorem dX1_numberAt_17 : decode cX1_numberAt 17 = .ok (.iload_n 1, 1) := by decide +kernel
theorem dX1_numberAt_18 : decode cX1_numberAt 18 = .ok (.iaload, 1) := by decide +kernel
theorem dX1_numberAt_19 : decode cX1_numberAt 19 = .ok (.goto 4, 3) := by decide +kernel
theorem dX1_numberAt_22 : decode cX1_numberAt 22 = .ok (.iconst (-1), 1) := by decide +kernel
theorem dX1_numberAt_23 : decode cX1_numberAt 23 = .ok (.ireturn, 1) := by decide +kernel
set_option maxRecDepth 20000 in
theorem ggX1_answer_X1_isOpen : GoodIn wsX1_answer wsX1_isOpen := goodIn_r _ [8, 9, 10, 11, 12, 13, 14, 15, 16, 17, 18, 19, 20, 21, 22] (by decide +kernel) (by decide +kernel)
set_option maxRecDepth 20000 in
theorem gX1_answer_X1_isOpen : GoodIn wsX1_answer (wsV RX1 49 RX1 yX1_isOpen wsX1_isOpen) := goodIn_app (goodIn_of _ (by decide +kernel)) ggX1_answer_X1_isOpen
theorem dX1_answer_0 : decode cX1_answer 0 = .ok (.iload_n 1, 1) := by decide +kernel
theorem dX1_answer_1 : decode cX1_answer 1 = .ok (.tableswitch 50 0 2 #[27, 32, 45], 27) := by decide +kernel
theorem dX1_answer_28 : decode cX1_answer 28 = .ok (.aload_n 0, 1) := by decide +kernel
theorem dX1_answer_29 : decode cX1_answer 29 = .ok (.getfield 23, 3) := by decide +kernel
theorem dX1_answer_32 : decode cX1_answer 32 = .ok (.ireturn, 1) := by decide +kernel
theorem dX1_answer_33 : decode cX1_answer 33 = .ok (.aload_n 0, 1) := by decide +kernel
theorem dX1_answer_34 : decode cX1_answer 34 = .ok (.invokevirtual 49, 3) := by decide +kernel
theorem dX1_answer_37 : decode cX1_answer 37 = .ok (.ifCond .eq 7, 3) := by decide +kernel
theorem dX1_answer_40 : decode cX1_answer 40 = .ok (.iconst 1, 1) := by decide +kernel
theorem dX1_answer_41 : decode cX1_answer 41 = .ok (.goto 4, 3) := by decide +kernel
theorem dX1_answer_44 : decode cX1_answer 44 = .ok (.iconst 0, 1) := by decide +kernel
theorem dX1_answer_45 : decode cX1_answer 45 = .ok (.ireturn, 1) := by decide +kernel
theorem dX1_answer_46 : decode cX1_answer 46 = .ok (.aload_n 0, 1) := by decide +kernel
theorem dX1_answer_47 : decode cX1_answer 47 = .ok (.getfield 15, 3) := by decide +kernel
theorem dX1_answer_50 : decode cX1_answer 50 = .ok (.ireturn, 1) := by decide +kernel
theorem dX1_answer_51 : decode cX1_answer 51 = .ok (.aload_n 0, 1) := by decide +kernel
theorem dX1_answer_52 : decode cX1_answer 52 = .ok (.getfield 31, 3) := by decide +kernel
theorem dX1_answer_55 : decode cX1_answer 55 = .ok (.ireturn, 1) := by decide +kernel
set_option maxRecDepth 20000 in
theorem ggX1_addedTo_X1_answer : GoodIn wsX1_addedTo wsX1_answer := goodIn_r _ [7, 2, 8, 9, 10, 11, 12, 6, 13, 14, 15, 21, 22, 23, 24, 25, 26, 27, 28, 29, 30, 31, 32] (by decide +kernel) (by decide +kernel)
set_option maxRecDepth 20000 in
theorem gX1_addedTo_X1_answer : GoodIn wsX1_addedTo (wsV RX1 59 RX1 yX1_answer wsX1_answer) := goodIn_app (goodIn_of _ (by decide +kernel)) ggX1_addedTo_X1_answer
set_option maxRecDepth 20000 in
theorem ggX1_addedTo_X1_numberAt : GoodIn wsX1_addedTo wsX1_numberAt := goodIn_r _ [19, 20, 21, 22, 23, 24, 25, 26] (by decide +kernel) (by decide +kernel)
set_option maxRecDepth 20000 in
theorem gX1_addedTo_X1_numberAt : GoodIn wsX1_addedTo (wsV RX1 63 RX1 yX1_numberAt wsX1_numberAt) := goodIn_app (goodIn_of _ (by decide +kernel)) ggX1_addedTo_X1_numberAt
theorem dX1_addedTo_0 : decode cX1_addedTo 0 = .ok (.lload_n 1, 1) := by decide +kernel
theorem dX1_addedTo_1 : decode cX1_addedTo 1 = .ok (.lstore_n 3, 1) := by decide +kernel
theorem dX1_addedTo_2 : decode cX1_addedTo 2 = .ok (.iconst 0, 1) := by decide +kernel
theorem dX1_addedTo_3 : decode cX1_addedTo 3 = .ok (.istore 5, 2) := by decide +kernel
theorem dX1_addedTo_5 : decode cX1_addedTo 5 = .ok (.iload 5, 2) := by decide +kernel
theorem dX1_addedTo_7 : decode cX1_addedTo 7 = .ok (.iconst 3, 1) := by decide +kernel
theorem dX1_addedTo_8 : decode cX1_addedTo 8 = .ok (.if_icmp .gt 23, 3) := by decide +kernel
theorem dX1_addedTo_11 : decode cX1_addedTo 11 = .ok (.lload_n 3, 1) := by decide +kernel
theorem dX1_addedTo_12 : decode cX1_addedTo 12 = .ok (.ldc2_w 57, 3) := by decide +kernel
theorem dX1_addedTo_15 : decode cX1_addedTo 15 = .ok (.lmul, 1) := by decide +kernel
theorem dX1_addedTo_16 : decode cX1_addedTo 16 = .ok (.aload_n 0, 1) := by decide +kernel
theorem dX1_addedTo_17 : decode cX1_addedTo 17 = .ok (.iload 5, 2) := by decide +kernel
theorem dX1_addedTo_19 : decode cX1_addedTo 19 = .ok (.invokevirtual 59, 3) := by decide +kernel
theorem dX1_addedTo_22 : decode cX1_addedTo 22 = .ok (.i2l, 1) := by decide +kernel
theorem dX1_addedTo_23 : decode cX1_addedTo 23 = .ok (.ladd, 1) := by decide +kernel
theorem dX1_addedTo_24 : decode cX1_addedTo 24 = .ok (.lstore_n 3, 1) := by decide +kernel
theorem dX1_addedTo_25 : decode cX1_addedTo 25 = .ok (.iinc 5 1, 3) := by decide +kernel
theorem dX1_addedTo_28 : decode cX1_addedTo 28 = .ok (.goto (-23), 3) := by decide +kernel
theorem dX1_addedTo_31 : decode cX1_addedTo 31 = .ok (.iconst 0, 1) := by decide +kernel
theorem dX1_addedTo_32 : decode cX1_addedTo 32 = .ok (.istore 5, 2) := by decide +kernel
theorem dX1_addedTo_34 : decode cX1_addedTo 34 = .ok (.iload 5, 2) := by decide +kernel
theorem dX1_addedTo_36 : decode cX1_addedTo 36 = .ok (.aload_n 0, 1) := by decide +kernel
theorem dX1_addedTo_37 : decode cX1_addedTo 37 = .ok (.getfield 23, 3) := by decide +kernel
theorem dX1_addedTo_40 : decode cX1_addedTo 40 = .ok (.if_icmp .ge 23, 3) := by decide +kernel
theorem dX1_addedTo_43 : decode cX1_addedTo 43 = .ok (.lload_n 3, 1) := by decide +kernel
theorem dX1_addedTo_44 : decode cX1_addedTo 44 = .ok (.ldc2_w 57, 3) := by decide +kernel
theorem dX1_addedTo_47 : decode cX1_addedTo 47 = .ok (.lmul, 1) := by decide +kernel
theorem dX1_addedTo_48 : decode cX1_addedTo 48 = .ok (.aload_n 0, 1) := by decide +kernel
theorem dX1_addedTo_49 : decode cX1_addedTo 49 = .ok (.iload 5, 2) := by decide +kernel
theorem dX1_addedTo_51 : decode cX1_addedTo 51 = .ok (.invokevirtual 63, 3) := by decide +kernel
theorem dX1_addedTo_54 : decode cX1_addedTo 54 = .ok (.i2l, 1) := by decide +kernel
theorem dX1_addedTo_55 : decode cX1_addedTo 55 = .ok (.ladd, 1) := by decide +kernel
theorem dX1_addedTo_56 : decode cX1_addedTo 56 = .ok (.lstore_n 3, 1) := by decide +kernel
theorem dX1_addedTo_57 : decode cX1_addedTo 57 = .ok (.iinc 5 1, 3) := by decide +kernel
theorem dX1_addedTo_60 : decode cX1_addedTo 60 = .ok (.goto (-26), 3) := by decide +kernel
theorem dX1_addedTo_63 : decode cX1_addedTo 63 = .ok (.lload_n 3, 1) := by decide +kernel
theorem dX1_addedTo_64 : decode cX1_addedTo 64 = .ok (.lreturn, 1) := by decide +kernel
theorem dX2_init_0 : decode cX2_init 0 = .ok (.aload_n 0, 1) := by decide +kernel
theorem dX2_init_1 : decode cX2_init 1 = .ok (.invokespecial 1, 3) := by decide +kernel
theorem dX2_init_4 : decode cX2_init 4 = .ok (.aload_n 0, 1) := by decide +kernel
theorem dX2_init_5 : decode cX2_init 5 = .ok (.iload_n 1, 1) := by decide +kernel
theorem dX2_init_6 : decode cX2_init 6 = .ok (.putfield 7, 3) := by decide +kernel
theorem dX2_init_9 : decode cX2_init 9 = .ok (.aload_n 0, 1) := by decide +kernel
theorem dX2_init_10 : decode cX2_init 10 = .ok (.iload_n 2, 1) := by decide +kernel
theorem dX2_init_11 : decode cX2_init 11 = .ok (.putfield 13, 3) := by decide +kernel
theorem dX2_init_14 : decode cX2_init 14 = .ok (.aload_n 0, 1) := by decide +kernel
theorem dX2_init_15 : decode cX2_init 15 = .ok (.iload_n 3, 1) := by decide +kernel
theorem dX2_init_16 : decode cX2_init 16 = .ok (.putfield 16, 3) := by decide +kernel
theorem dX2_init_19 : decode cX2_init 19 = .ok (.aload_n 0, 1) := by decide +kernel
theorem dX2_init_20 : decode cX2_init 20 = .ok (.iload 4, 2) := by decide +kernel
theorem dX2_init_22 : decode cX2_init 22 = .ok (.putfield 19, 3) := by decide +kernel
theorem dX2_init_25 : decode cX2_init 25 = .ok (.return_, 1) := by decide +kernel
theorem dX2_asSet_0 : decode cX2_asSet 0 = .ok (.iconst 1, 1) := by decide +kernel
theorem dX2_asSet_1 : decode cX2_asSet 1 = .ok (.aload_n 0, 1) := by decide +kernel
theorem dX2_asSet_2 : decode cX2_asSet 2 = .ok (.getfield 7, 3) := by decide +kernel
theorem dX2_asSet_5 : decode cX2_asSet 5 = .ok (.ishl, 1) := by decide +kernel
theorem dX2_asSet_6 : decode cX2_asSet 6 = .ok (.ireturn, 1) := by decide +kernel
set_option maxRecDepth 20000 in
theorem ggX2_canLeadTo_X2_asSet : GoodIn wsX2_canLeadTo wsX2_asSet := goodIn_r _ [6, 7, 8, 9, 10, 11, 12, 13] (by decide +kernel) (by decide +kernel)
set_option maxRecDepth 20000 in
theorem gX2_canLeadTo_X2_asSet : GoodIn wsX2_canLeadTo (wsV RX2 25 RX2 yX2_asSet wsX2_asSet) := goodIn_app (goodIn_of _ (by decide +kernel)) ggX2_canLeadTo_X2_asSet
theorem dX2_canLeadTo_0 : decode cX2_canLeadTo 0 = .ok (.aload_n 0, 1) := by decide +kernel
theorem dX2_canLeadTo_1 : decode cX2_canLeadTo 1 = .ok (.getfield 22, 3) := by decide +kernel
theorem dX2_canLeadTo_4 : decode cX2_canLeadTo 4 = .ok (.aload_n 1, 1) := by decide +kernel
theorem dX2_canLeadTo_5 : decode cX2_canLeadTo 5 = .ok (.invokevirtual 25, 3) := by decide +kernel
theorem dX2_canLeadTo_8 : decode cX2_canLeadTo 8 = .ok (.iand, 1) := by decide +kernel
theorem dX2_canLeadTo_9 : decode cX2_canLeadTo 9 = .ok (.ifCond .eq 7, 3) := by decide +kernel
theorem dX2_canLeadTo_12 : decode cX2_canLeadTo 12 = .ok (.iconst 1, 1) := by decide +kernel
theorem dX2_canLeadTo_13 : decode cX2_canLeadTo 13 = .ok (.goto 4, 3) := by decide +kernel
theorem dX2_canLeadTo_16 : decode cX2_canLeadTo 16 = .ok (.iconst 0, 1) := by decide +kernel
theorem dX2_canLeadTo_17 : decode cX2_canLeadTo 17 = .ok (.ireturn, 1) := by decide +kernel
set_option maxRecDepth 20000 in
theorem ggX2_answer_J6_bitCount_0f7a4 : GoodIn wsX2_answer wsJ6_bitCount_0f7a4 := goodIn_r _ [9, 10, 11, 12] (by decide +kernel) (by decide +kernel)
set_option maxRecDepth 20000 in
theorem gX2_answer_J6_bitCount_0f7a4 : GoodIn wsX2_answer (va_wsS RX2 29 yJ6_bitCount_0f7a4 wsJ6_bitCount_0f7a4) := goodIn_app (goodIn_of _ (by decide +kernel)) ggX2_answer_J6_bitCount_0f7a4
theorem dX2_answer_0 : decode cX2_answer 0 = .ok (.iload_n 1, 1) := by decide +kernel
theorem dX2_answer_1 : decode cX2_answer 1 = .ok (.tableswitch 54 0 3 #[31, 36, 41, 46], 31) := by decide +kernel
theorem dX2_answer_32 : decode cX2_answer 32 = .ok (.aload_n 0, 1) := by decide +kernel
theorem dX2_answer_33 : decode cX2_answer 33 = .ok (.getfield 13, 3) := by decide +kernel
theorem dX2_answer_36 : decode cX2_answer 36 = .ok (.ireturn, 1) := by decide +kernel
theorem dX2_answer_37 : decode cX2_answer 37 = .ok (.aload_n 0, 1) := by decide +kernel
theorem dX2_answer_38 : decode cX2_answer 38 = .ok (.getfield 16, 3) := by decide +kernel
theorem dX2_answer_41 : decode cX2_answer 41 = .ok (.ireturn, 1) := by decide +kernel
theorem dX2_answer_42 : decode cX2_answer 42 = .ok (.aload_n 0, 1) := by decide +kernel
theorem dX2_answer_43 : decode cX2_answer 43 = .ok (.getfield 19, 3) := by decide +kernel
theorem dX2_answer_46 : decode cX2_answer 46 = .ok (.ireturn, 1) := by decide +kernel
theorem dX2_answer_47 : decode cX2_answer 47 = .ok (.aload_n 0, 1) := by decide +kernel
theorem dX2_answer_48 : decode cX2_answer 48 = .ok (.getfield 22, 3) := by decide +kernel
theorem dX2_answer_51 : decode cX2_answer 51 = .ok (.invokestatic 29, 3) := by decide +kernel
theorem dX2_answer_54 : decode cX2_answer 54 = .ok (.ireturn, 1) := by decide +kernel
theorem dX2_answer_55 : decode cX2_answer 55 = .ok (.aload_n 0, 1) := by decide +kernel
theorem dX2_answer_56 : decode cX2_answer 56 = .ok (.getfield 35, 3) := by decide +kernel
theorem dX2_answer_59 : decode cX2_answer 59 = .ok (.ireturn, 1) := by decide +kernel
theorem dX3_init_0 : decode cX3_init 0 = .ok (.aload_n 0, 1) := by decide +kernel
theorem dX3_init_1 : decode cX3_init 1 = .ok (.invokespecial 3, 3) := by decide +kernel
theorem dX3_init_4 : decode cX3_init 4 = .ok (.aload_n 0, 1) := by decide +kernel
theorem dX3_init_5 : decode cX3_init 5 = .ok (.iconst 0, 1) := by decide +kernel
theorem dX3_init_6 : decode cX3_init 6 = .ok (.putfield 9, 3) := by decide +kernel
theorem dX3_init_9 : decode cX3_init 9 = .ok (.aload_n 0, 1) := by decide +kernel
theorem dX3_init_10 : decode cX3_init 10 = .ok (.iload_n 1, 1) := by decide +kernel
theorem dX3_init_11 : decode cX3_init 11 = .ok (.putfield 15, 3) := by decide +kernel
theorem dX3_init_14 : decode cX3_init 14 = .ok (.aload_n 0, 1) := by decide +kernel
theorem dX3_init_15 : decode cX3_init 15 = .ok (.iload_n 2, 1) := by decide +kernel
theorem dX3_init_16 : decode cX3_init 16 = .ok (.putfield 18, 3) := by decide +kernel
theorem dX3_init_19 : decode cX3_init 19 = .ok (.return_, 1) := by decide +kernel
set_option maxRecDepth 20000 in
theorem ggX3_knows_X2_asSet : GoodIn wsX3_knows wsX2_asSet := goodIn_r _ [6, 7, 13, 14, 15, 16, 17, 18] (by decide +kernel) (by decide +kernel)
set_option maxRecDepth 20000 in
theorem gX3_knows_X2_asSet : GoodIn wsX3_knows (wsV RX3 21 RX2 yX2_asSet wsX2_asSet) := goodIn_app (goodIn_of _ (by decide +kernel)) ggX3_knows_X2_asSet
theorem dX3_knows_0 : decode cX3_knows 0 = .ok (.aload_n 0, 1) := by decide +kernel
theorem dX3_knows_1 : decode cX3_knows 1 = .ok (.getfield 18, 3) := by decide +kernel
theorem dX3_knows_4 : decode cX3_knows 4 = .ok (.aload_n 1, 1) := by decide +kernel
theorem dX3_knows_5 : decode cX3_knows 5 = .ok (.invokevirtual 21, 3) := by decide +kernel
theorem dX3_knows_8 : decode cX3_knows 8 = .ok (.iand, 1) := by decide +kernel
theorem dX3_knows_9 : decode cX3_knows 9 = .ok (.ifCond .eq 7, 3) := by decide +kernel
theorem dX3_knows_12 : decode cX3_knows 12 = .ok (.iconst 1, 1) := by decide +kernel
theorem dX3_knows_13 : decode cX3_knows 13 = .ok (.goto 4, 3) := by decide +kernel
theorem dX3_knows_16 : decode cX3_knows 16 = .ok (.iconst 0, 1) := by decide +kernel
theorem dX3_knows_17 : decode cX3_knows 17 = .ok (.ireturn, 1) := by decide +kernel
set_option maxRecDepth 20000 in
theorem ggX4_init_Jx4a65c_init_da8c8 : GoodIn wsX4_init wsJx4a65c_init_da8c8 := goodIn_r _ [14, 15, 16, 17, 18, 19, 20, 21, 22, 23, 24, 25, 26, 2, 3, 27, 28, 29] (by decide +kernel) (by decide +kernel)
set_option maxRecDepth 20000 in
theorem gX4_init_Jx4a65c_init_da8c8 : GoodIn wsX4_init (wsJx4a65c_init_da8c8) := ggX4_init_Jx4a65c_init_da8c8
theorem dX4_init_0 : decode cX4_init 0 = .ok (.aload_n 0, 1) := by decide +kernel
theorem dX4_init_1 : decode cX4_init 1 = .ok (.invokespecial 1, 3) := by decide +kernel
theorem dX4_init_4 : decode cX4_init 4 = .ok (.aload_n 0, 1) := by decide +kernel
theorem dX4_init_5 : decode cX4_init 5 = .ok (.new 7, 3) := by decide +kernel
theorem dX4_init_8 : decode cX4_init 8 = .ok (.dup, 1) := by decide +kernel
theorem dX4_init_9 : decode cX4_init 9 = .ok (.invokespecial 9, 3) := by decide +kernel
theorem dX4_init_12 : decode cX4_init 12 = .ok (.putfield 10, 3) := by decide +kernel
theorem dX4_init_15 : decode cX4_init 15 = .ok (.aload_n 0, 1) := by decide +kernel
theorem dX4_init_16 : decode cX4_init 16 = .ok (.new 7, 3) := by decide +kernel
theorem dX4_init_19 : decode cX4_init 19 = .ok (.dup, 1) := by decide +kernel
theorem dX4_init_20 : decode cX4_init 20 = .ok (.invokespecial 9, 3) := by decide +kernel
theorem dX4_init_23 : decode cX4_init 23 = .ok (.putfield 16, 3) := by decide +kernel
theorem dX4_init_26 : decode cX4_init 26 = .ok (.aload_n 0, 1) := by decide +kernel
theorem dX4_init_27 : decode cX4_init 27 = .ok (.new 7, 3) := by decide +kernel
theorem dX4_init_30 : decode cX4_init 30 = .ok (.dup, 1) := by decide +kernel
theorem dX4_init_31 : decode cX4_init 31 = .ok (.invokespecial 9, 3) := by decide +kernel
theorem dX4_init_34 : decode cX4_init 34 = .ok (.putfield 19, 3) := by decide +kernel
theorem dX4_init_37 : decode cX4_init 37 = .ok (.aload_n 0, 1) := by decide +kernel
theorem dX4_init_38 : decode cX4_init 38 = .ok (.new 7, 3) := by decide +kernel
theorem dX4_init_41 : decode cX4_init 41 = .ok (.dup, 1) := by decide +kernel
theorem dX4_init_42 : decode cX4_init 42 = .ok (.invokespecial 9, 3) := by decide +kernel
theorem dX4_init_45 : decode cX4_init 45 = .ok (.putfield 22, 3) := by decide +kernel
theorem dX4_init_48 : decode cX4_init 48 = .ok (.aload_n 0, 1) := by decide +kernel
theorem dX4_init_49 : decode cX4_init 49 = .ok (.iconst (-1), 1) := by decide +kernel
theorem dX4_init_50 : decode cX4_init 50 = .ok (.putfield 25, 3) := by decide +kernel
theorem dX4_init_53 : decode cX4_init 53 = .ok (.return_, 1) := by decide +kernel
set_option maxRecDepth 20000 in
theorem ggX4_make_Jx4a65c_size_8abf5 : GoodIn wsX4_make wsJx4a65c_size_8abf5 := goodIn_r _ [13, 14, 94, 95, 96] (by decide +kernel) (by decide +kernel)
set_option maxRecDepth 20000 in
theorem gX4_make_Jx4a65c_size_8abf5 : GoodIn wsX4_make (wsV RX4 36 RJx4a65c yJx4a65c_size_8abf5 wsJx4a65c_size_8abf5) := goodIn_app (goodIn_of _ (by decide +kernel)) ggX4_make_Jx4a65c_size_8abf5
set_option maxRecDepth 20000 in
theorem ggX4_make_X2_init : GoodIn wsX4_make wsX2_init := goodIn_r _ [17, 18, 19, 20, 21, 22, 23, 24, 88, 89, 90, 91, 92, 93] (by decide +kernel) (by decide +kernel)
set_option maxRecDepth 20000 in
theorem gX4_make_X2_init : GoodIn wsX4_make (wsX2_init) := ggX4_make_X2_init
set_option maxRecDepth 20000 in
theorem ggX4_make_Jx4a65c_add_9ea2d : GoodIn wsX4_make wsJx4a65c_add_9ea2d := goodIn_r _ [28, 29, 30, 31, 14, 32, 33, 34, 12, 35, 36, 37, 38, 39, 40, 41, 42, 43, 44, 45, 46, 47, 48, 49, 50, 51, 52, 53, 54, 55, 56, 57, 58, 59, 60, 61, 62, 63, 64, 65, 66, 67, 68, 69, 70, 71, 72, 73, 74, 75, 76, 77, 78, 94, 95, 96] (by decide +kernel) (by decide +kernel)
set_option maxRecDepth 20000 in
theorem gX4_make_Jx4a65c_add_9ea2d : GoodIn wsX4_make (wsV RX4 50 RJx4a65c yJx4a65c_add_9ea2d wsJx4a65c_add_9ea2d) := goodIn_app (goodIn_of _ (by decide +kernel)) ggX4_make_Jx4a65c_add_9ea2d
theorem dX4_make_0 : decode cX4_make 0 = .ok (.iload_n 1, 1) := by decide +kernel
theorem dX4_make_1 : decode cX4_make 1 = .ok (.ifCond .lt 28, 3) := by decide +kernel
theorem dX4_make_4 : decode cX4_make 4 = .ok (.iload_n 1, 1) := by decide +kernel
theorem dX4_make_5 : decode cX4_make 5 = .ok (.iconst 2, 1) := by decide +kernel
theorem dX4_make_6 : decode cX4_make 6 = .ok (.if_icmp .gt 23, 3) := by decide +kernel
theorem dX4_make_9 : decode cX4_make 9 = .ok (.iload_n 2, 1) := by decide +kernel
theorem dX4_make_10 : decode cX4_make 10 = .ok (.iconst 1, 1) := by decide +kernel
theorem dX4_make_11 : decode cX4_make 11 = .ok (.if_icmp .lt 18, 3) := by decide +kernel
theorem dX4_make_14 : decode cX4_make 14 = .ok (.iload_n 2, 1) := by decide +kernel
theorem dX4_make_15 : decode cX4_make 15 = .ok (.bipush 20, 2) := by decide +kernel
theorem dX4_make_17 : decode cX4_make 17 = .ok (.if_icmp .gt 12, 3) := by decide +kernel
theorem dX4_make_20 : decode cX4_make 20 = .ok (.iload_n 3, 1) := by decide +kernel
theorem dX4_make_21 : decode cX4_make 21 = .ok (.ifCond .lt 8, 3) := by decide +kernel
theorem dX4_make_24 : decode cX4_make 24 = .ok (.iload_n 3, 1) := by decide +kernel
theorem dX4_make_25 : decode cX4_make 25 = .ok (.iconst 5, 1) := by decide +kernel
theorem dX4_make_26 : decode cX4_make 26 = .ok (.if_icmp .le 13, 3) := by decide +kernel
theorem dX4_make_29 : decode cX4_make 29 = .ok (.new 29, 3) := by decide +kernel
theorem dX4_make_32 : decode cX4_make 32 = .ok (.dup, 1) := by decide +kernel
theorem dX4_make_33 : decode cX4_make 33 = .ok (.ldc 31, 2) := by decide +kernel
theorem dX4_make_35 : decode cX4_make 35 = .ok (.invokespecial 33, 3) := by decide +kernel
theorem dX4_make_38 : decode cX4_make 38 = .ok (.athrow, 1) := by decide +kernel
theorem dX4_make_39 : decode cX4_make 39 = .ok (.aload_n 0, 1) := by decide +kernel
theorem dX4_make_40 : decode cX4_make 40 = .ok (.getfield 10, 3) := by decide +kernel
theorem dX4_make_43 : decode cX4_make 43 = .ok (.invokevirtual 36, 3) := by decide +kernel
theorem dX4_make_46 : decode cX4_make 46 = .ok (.istore 4, 2) := by decide +kernel
theorem dX4_make_48 : decode cX4_make 48 = .ok (.iload 4, 2) := by decide +kernel
theorem dX4_make_50 : decode cX4_make 50 = .ok (.bipush 24, 2) := by decide +kernel
theorem dX4_make_52 : decode cX4_make 52 = .ok (.if_icmp .lt 13, 3) := by decide +kernel
theorem dX4_make_55 : decode cX4_make 55 = .ok (.new 40, 3) := by decide +kernel
theorem dX4_make_58 : decode cX4_make 58 = .ok (.dup, 1) := by decide +kernel
theorem dX4_make_59 : decode cX4_make 59 = .ok (.ldc 42, 2) := by decide +kernel
theorem dX4_make_61 : decode cX4_make 61 = .ok (.invokespecial 44, 3) := by decide +kernel
theorem dX4_make_64 : decode cX4_make 64 = .ok (.athrow, 1) := by decide +kernel
theorem dX4_make_65 : decode cX4_make 65 = .ok (.aload_n 0, 1) := by decide +kernel
theorem dX4_make_66 : decode cX4_make 66 = .ok (.getfield 10, 3) := by decide +kernel
theorem dX4_make_69 : decode cX4_make 69 = .ok (.new 45, 3) := by decide +kernel
theorem dX4_make_72 : decode cX4_make 72 = .ok (.dup, 1) := by decide +kernel
theorem dX4_make_73 : decode cX4_make 73 = .ok (.iload 4, 2) := by decide +kernel
theorem dX4_make_75 : decode cX4_make 75 = .ok (.iload_n 1, 1) := by decide +kernel
theorem dX4_make_76 : decode cX4_make 76 = .ok (.iload_n 2, 1) := by decide +kernel
theorem dX4_make_77 : decode cX4_make 77 = .ok (.iload_n 3, 1) := by decide +kernel
theorem dX4_make_78 : decode cX4_make 78 = .ok (.invokespecial 47, 3) := by decide +kernel
theorem dX4_make_81 : decode cX4_make 81 = .ok (.invokevirtual 50, 3) := by decide +kernel
theorem dX4_make_84 : decode cX4_make 84 = .ok (.pop, 1) := by decide +kernel
theorem dX4_make_85 : decode cX4_make 85 = .ok (.iload 4, 2) := by decide +kernel
theorem dX4_make_87 : decode cX4_make 87 = .ok (.ireturn, 1) := by decide +kernel
set_option maxRecDepth 20000 in
theorem ggX4_follow_X4_sceneAt : GoodIn wsX4_follow wsX4_sceneAt := goodIn_r _ [15, 16, 17, 18, 19, 20, 21, 22, 23, 24, 25, 26, 27, 28, 29, 30, 31, 32, 33, 34, 35, 36, 37, 38, 39, 40, 59, 60, 61, 62, 63, 64, 65, 66, 67, 68, 69, 70] (by decide +kernel) (by decide +kernel)
set_option maxRecDepth 20000 in
theorem gX4_follow_X4_sceneAt : GoodIn wsX4_follow (wsV RX4 54 RX4 yX4_sceneAt wsX4_sceneAt) := goodIn_app (goodIn_of _ (by decide +kernel)) ggX4_follow_X4_sceneAt
set_option maxRecDepth 20000 in
theorem ggX4_follow_X2_canLeadTo : GoodIn wsX4_follow wsX2_canLeadTo := goodIn_r _ [45, 46, 47, 48, 49, 44, 50, 51, 53, 54, 55, 56, 57, 58] (by decide +kernel) (by decide +kernel)
set_option maxRecDepth 20000 in
theorem gX4_follow_X2_canLeadTo : GoodIn wsX4_follow (wsV RX4 71 RX2 yX2_canLeadTo wsX2_canLeadTo) := goodIn_app (goodIn_of _ (by decide +kernel)) ggX4_follow_X2_canLeadTo
set_option maxRecDepth 20000 in
theorem ggX4_follow_X2_asSet : GoodIn wsX4_follow wsX2_asSet := goodIn_r _ [50, 51, 53, 54, 55, 56, 57, 58] (by decide +kernel) (by decide +kernel)
set_option maxRecDepth 20000 in
theorem gX4_follow_X2_asSet : GoodIn wsX4_follow (wsV RX4 83 RX2 yX2_asSet wsX2_asSet) := goodIn_app (goodIn_of _ (by decide +kernel)) ggX4_follow_X2_asSet
theorem dX4_follow_0 : decode cX4_follow 0 = .ok (.aload_n 0, 1) := by decide +kernel
theorem dX4_follow_1 : decode cX4_follow 1 = .ok (.iload_n 1, 1) := by decide +kernel
theorem dX4_follow_2 : decode cX4_follow 2 = .ok (.invokevirtual 54, 3) := by decide +kernel
theorem dX4_follow_5 : decode cX4_follow 5 = .ok (.astore_n 3, 1) := by decide +kernel
theorem dX4_follow_6 : decode cX4_follow 6 = .ok (.aload_n 0, 1) := by decide +kernel
theorem dX4_follow_7 : decode cX4_follow 7 = .ok (.iload_n 2, 1) := by decide +kernel
theorem dX4_follow_8 : decode cX4_follow 8 = .ok (.invokevirtual 54, 3) := by decide +kernel
theorem dX4_follow_11 : decode cX4_follow 11 = .ok (.astore 4, 2) := by decide +kernel
theorem dX4_follow_13 : decode cX4_follow 13 = .ok (.aload_n 3, 1) := by decide +kernel
theorem dX4_follow_14 : decode cX4_follow 14 = .ok (.ifnull 8, 3) := by decide +kernel
theorem dX4_follow_17 : decode cX4_follow 17 = .ok (.aload 4, 2) := by decide +kernel
theorem dX4_follow_19 : decode cX4_follow 19 = .ok (.ifnonnull 13, 3) := by decide +kernel
theorem dX4_follow_22 : decode cX4_follow 22 = .ok (.new 58, 3) := by decide +kernel
theorem dX4_follow_25 : decode cX4_follow 25 = .ok (.dup, 1) := by decide +kernel
theorem dX4_follow_26 : decode cX4_follow 26 = .ok (.ldc 60, 2) := by decide +kernel
theorem dX4_follow_28 : decode cX4_follow 28 = .ok (.invokespecial 62, 3) := by decide +kernel
theorem dX4_follow_31 : decode cX4_follow 31 = .ok (.athrow, 1) := by decide +kernel
theorem dX4_follow_32 : decode cX4_follow 32 = .ok (.aload_n 3, 1) := by decide +kernel
theorem dX4_follow_33 : decode cX4_follow 33 = .ok (.getfield 63, 3) := by decide +kernel
theorem dX4_follow_36 : decode cX4_follow 36 = .ok (.iconst 2, 1) := by decide +kernel
theorem dX4_follow_37 : decode cX4_follow 37 = .ok (.if_icmp .eq 23, 3) := by decide +kernel
theorem dX4_follow_40 : decode cX4_follow 40 = .ok (.aload 4, 2) := by decide +kernel
theorem dX4_follow_42 : decode cX4_follow 42 = .ok (.getfield 63, 3) := by decide +kernel
theorem dX4_follow_45 : decode cX4_follow 45 = .ok (.ifCond .eq 15, 3) := by decide +kernel
theorem dX4_follow_48 : decode cX4_follow 48 = .ok (.aload_n 3, 1) := by decide +kernel
theorem dX4_follow_49 : decode cX4_follow 49 = .ok (.getfield 66, 3) := by decide +kernel
theorem dX4_follow_52 : decode cX4_follow 52 = .ok (.aload 4, 2) := by decide +kernel
theorem dX4_follow_54 : decode cX4_follow 54 = .ok (.getfield 66, 3) := by decide +kernel
theorem dX4_follow_57 : decode cX4_follow 57 = .ok (.if_icmp .ne 13, 3) := by decide +kernel
theorem dX4_follow_60 : decode cX4_follow 60 = .ok (.new 29, 3) := by decide +kernel
theorem dX4_follow_63 : decode cX4_follow 63 = .ok (.dup, 1) := by decide +kernel
theorem dX4_follow_64 : decode cX4_follow 64 = .ok (.ldc 69, 2) := by decide +kernel
theorem dX4_follow_66 : decode cX4_follow 66 = .ok (.invokespecial 33, 3) := by decide +kernel
theorem dX4_follow_69 : decode cX4_follow 69 = .ok (.athrow, 1) := by decide +kernel
theorem dX4_follow_70 : decode cX4_follow 70 = .ok (.aload_n 3, 1) := by decide +kernel
theorem dX4_follow_71 : decode cX4_follow 71 = .ok (.aload 4, 2) := by decide +kernel
theorem dX4_follow_73 : decode cX4_follow 73 = .ok (.invokevirtual 71, 3) := by decide +kernel
theorem dX4_follow_76 : decode cX4_follow 76 = .ok (.ifCond .eq 8, 3) := by decide +kernel
theorem dX4_follow_79 : decode cX4_follow 79 = .ok (.aload_n 0, 1) := by decide +kernel
theorem dX4_follow_80 : decode cX4_follow 80 = .ok (.getfield 75, 3) := by decide +kernel
theorem dX4_follow_83 : decode cX4_follow 83 = .ok (.ireturn, 1) := by decide +kernel
theorem dX4_follow_84 : decode cX4_follow 84 = .ok (.aload_n 0, 1) := by decide +kernel
theorem dX4_follow_85 : decode cX4_follow 85 = .ok (.getfield 75, 3) := by decide +kernel
theorem dX4_follow_88 : decode cX4_follow 88 = .ok (.bipush 60, 2) := by decide +kernel
theorem dX4_follow_90 : decode cX4_follow 90 = .ok (.if_icmp .lt 13, 3) := by decide +kernel
theorem dX4_follow_93 : decode cX4_follow 93 = .ok (.new 40, 3) := by decide +kernel
theorem dX4_follow_96 : decode cX4_follow 96 = .ok (.dup, 1) := by decide +kernel
theorem dX4_follow_97 : decode cX4_follow 97 = .ok (.ldc 78, 2) := by decide +kernel
theorem dX4_follow_99 : decode cX4_follow 99 = .ok (.invokespecial 44, 3) := by decide +kernel
theorem dX4_follow_102 : decode cX4_follow 102 = .ok (.athrow, 1) := by decide +kernel
theorem dX4_follow_103 : decode cX4_follow 103 = .ok (.aload_n 3, 1) := by decide +kernel
theorem dX4_follow_104 : decode cX4_follow 104 = .ok (.dup, 1) := by decide +kernel
theorem dX4_follow_105 : decode cX4_follow 105 = .ok (.getfield 80, 3) := by decide +kernel
theorem dX4_follow_108 : decode cX4_follow 108 = .ok (.aload 4, 2) := by decide +kernel
theorem dX4_follow_110 : decode cX4_follow 110 = .ok (.invokevirtual 83, 3) := by decide +kernel
theorem dX4_follow_113 : decode cX4_follow 113 = .ok (.ior, 1) := by decide +kernel
theorem dX4_follow_114 : decode cX4_follow 114 = .ok (.putfield 80, 3) := by decide +kernel
theorem dX4_follow_117 : decode cX4_follow 117 = .ok (.aload_n 0, 1) := by decide +kernel
theorem dX4_follow_118 : decode cX4_follow 118 = .ok (.dup, 1) := by decide +kernel
theorem dX4_follow_119 : decode cX4_follow 119 = .ok (.getfield 75, 3) := by decide +kernel
theorem dX4_follow_122 : decode cX4_follow 122 = .ok (.iconst 1, 1) := by decide +kernel
theorem dX4_follow_123 : decode cX4_follow 123 = .ok (.iadd, 1) := by decide +kernel
theorem dX4_follow_124 : decode cX4_follow 124 = .ok (.putfield 75, 3) := by decide +kernel
theorem dX4_follow_127 : decode cX4_follow 127 = .ok (.aload_n 0, 1) := by decide +kernel
theorem dX4_follow_128 : decode cX4_follow 128 = .ok (.getfield 75, 3) := by decide +kernel
theorem dX4_follow_131 : decode cX4_follow 131 = .ok (.ireturn, 1) := by decide +kernel
set_option maxRecDepth 20000 in
theorem ggX4_post_Jx4a65c_size_8abf5 : GoodIn wsX4_post wsJx4a65c_size_8abf5 := goodIn_r _ [11, 12, 89, 90, 91] (by decide +kernel) (by decide +kernel)
set_option maxRecDepth 20000 in
theorem gX4_post_Jx4a65c_size_8abf5 : GoodIn wsX4_post (wsV RX4 36 RJx4a65c yJx4a65c_size_8abf5 wsJx4a65c_size_8abf5) := goodIn_app (goodIn_of _ (by decide +kernel)) ggX4_post_Jx4a65c_size_8abf5
set_option maxRecDepth 20000 in
theorem ggX4_post_X0_init : GoodIn wsX4_post wsX0_init := goodIn_r _ [14, 15, 16, 17, 18, 19, 20, 21, 85, 86, 87, 88] (by decide +kernel) (by decide +kernel)
set_option maxRecDepth 20000 in
theorem gX4_post_X0_init_n90 : GoodIn wsX4_post (wsX0_init) := ggX4_post_X0_init
set_option maxRecDepth 20000 in
theorem ggX4_post_Jx4a65c_add_9ea2d : GoodIn wsX4_post wsJx4a65c_add_9ea2d := goodIn_r _ [25, 26, 27, 28, 12, 29, 30, 31, 10, 32, 33, 34, 35, 36, 37, 38, 39, 40, 41, 42, 43, 44, 45, 46, 47, 48, 49, 50, 51, 52, 53, 54, 55, 56, 57, 58, 59, 60, 61, 62, 63, 64, 65, 66, 67, 68, 69, 70, 71, 72, 73, 74, 75, 89, 90, 91] (by decide +kernel) (by decide +kernel)
set_option maxRecDepth 20000 in
theorem gX4_post_Jx4a65c_add_9ea2d : GoodIn wsX4_post (wsV RX4 50 RJx4a65c yJx4a65c_add_9ea2d wsJx4a65c_add_9ea2d) := goodIn_app (goodIn_of _ (by decide +kernel)) ggX4_post_Jx4a65c_add_9ea2d
theorem dX4_post_0 : decode cX4_post 0 = .ok (.aload_n 0, 1) := by decide +kernel
theorem dX4_post_1 : decode cX4_post 1 = .ok (.getfield 16, 3) := by decide +kernel
theorem dX4_post_4 : decode cX4_post 4 = .ok (.invokevirtual 36, 3) := by decide +kernel
theorem dX4_post_7 : decode cX4_post 7 = .ok (.istore_n 1, 1) := by decide +kernel
theorem dX4_post_8 : decode cX4_post 8 = .ok (.iload_n 1, 1) := by decide +kernel
theorem dX4_post_9 : decode cX4_post 9 = .ok (.iconst 4, 1) := by decide +kernel
theorem dX4_post_10 : decode cX4_post 10 = .ok (.if_icmp .lt 13, 3) := by decide +kernel
theorem dX4_post_13 : decode cX4_post 13 = .ok (.new 40, 3) := by decide +kernel
theorem dX4_post_16 : decode cX4_post 16 = .ok (.dup, 1) := by decide +kernel
theorem dX4_post_17 : decode cX4_post 17 = .ok (.ldc 86, 2) := by decide +kernel
theorem dX4_post_19 : decode cX4_post 19 = .ok (.invokespecial 44, 3) := by decide +kernel
theorem dX4_post_22 : decode cX4_post 22 = .ok (.athrow, 1) := by decide +kernel
theorem dX4_post_23 : decode cX4_post 23 = .ok (.aload_n 0, 1) := by decide +kernel
theorem dX4_post_24 : decode cX4_post 24 = .ok (.getfield 16, 3) := by decide +kernel
theorem dX4_post_27 : decode cX4_post 27 = .ok (.new 88, 3) := by decide +kernel
theorem dX4_post_30 : decode cX4_post 30 = .ok (.dup, 1) := by decide +kernel
theorem dX4_post_31 : decode cX4_post 31 = .ok (.invokespecial 90, 3) := by decide +kernel
theorem dX4_post_34 : decode cX4_post 34 = .ok (.invokevirtual 50, 3) := by decide +kernel
theorem dX4_post_37 : decode cX4_post 37 = .ok (.pop, 1) := by decide +kernel
theorem dX4_post_38 : decode cX4_post 38 = .ok (.iload_n 1, 1) := by decide +kernel
theorem dX4_post_39 : decode cX4_post 39 = .ok (.ireturn, 1) := by decide +kernel
set_option maxRecDepth 20000 in
theorem ggX4_come_Jx4a65c_size_8abf5 : GoodIn wsX4_come wsJx4a65c_size_8abf5 := goodIn_r _ [14, 15, 93, 94, 95] (by decide +kernel) (by decide +kernel)
set_option maxRecDepth 20000 in
theorem gX4_come_Jx4a65c_size_8abf5 : GoodIn wsX4_come (wsV RX4 36 RJx4a65c yJx4a65c_size_8abf5 wsJx4a65c_size_8abf5) := goodIn_app (goodIn_of _ (by decide +kernel)) ggX4_come_Jx4a65c_size_8abf5
set_option maxRecDepth 20000 in
theorem ggX4_come_X3_init : GoodIn wsX4_come wsX3_init := goodIn_r _ [18, 19, 20, 21, 22, 23, 24, 88, 89, 90, 91, 92] (by decide +kernel) (by decide +kernel)
set_option maxRecDepth 20000 in
theorem gX4_come_X3_init : GoodIn wsX4_come (wsX3_init) := ggX4_come_X3_init
set_option maxRecDepth 20000 in
theorem ggX4_come_Jx4a65c_add_9ea2d : GoodIn wsX4_come wsJx4a65c_add_9ea2d := goodIn_r _ [28, 29, 30, 31, 15, 32, 33, 34, 13, 35, 36, 37, 38, 39, 40, 41, 42, 43, 44, 45, 46, 47, 48, 49, 50, 51, 52, 53, 54, 55, 56, 57, 58, 59, 60, 61, 62, 63, 64, 65, 66, 67, 68, 69, 70, 71, 72, 73, 74, 75, 76, 77, 78, 93, 94, 95] (by decide +kernel) (by decide +kernel)
set_option maxRecDepth 20000 in
theorem gX4_come_Jx4a65c_add_9ea2d : GoodIn wsX4_come (wsV RX4 50 RJx4a65c yJx4a65c_add_9ea2d wsJx4a65c_add_9ea2d) := goodIn_app (goodIn_of _ (by decide +kernel)) ggX4_come_Jx4a65c_add_9ea2d
theorem dX4_come_0 : decode cX4_come 0 = .ok (.iload_n 1, 1) := by decide +kernel
theorem dX4_come_1 : decode cX4_come 1 = .ok (.ifCond .lt 15, 3) := by decide +kernel
theorem dX4_come_4 : decode cX4_come 4 = .ok (.iload_n 1, 1) := by decide +kernel
theorem dX4_come_5 : decode cX4_come 5 = .ok (.aload_n 0, 1) := by decide +kernel
theorem dX4_come_6 : decode cX4_come 6 = .ok (.getfield 10, 3) := by decide +kernel
theorem dX4_come_9 : decode cX4_come 9 = .ok (.invokevirtual 36, 3) := by decide +kernel
theorem dX4_come_12 : decode cX4_come 12 = .ok (.ishr, 1) := by decide +kernel
theorem dX4_come_13 : decode cX4_come 13 = .ok (.ifCond .eq 13, 3) := by decide +kernel
theorem dX4_come_16 : decode cX4_come 16 = .ok (.new 29, 3) := by decide +kernel
theorem dX4_come_19 : decode cX4_come 19 = .ok (.dup, 1) := by decide +kernel
theorem dX4_come_20 : decode cX4_come 20 = .ok (.ldc 91, 2) := by decide +kernel
theorem dX4_come_22 : decode cX4_come 22 = .ok (.invokespecial 33, 3) := by decide +kernel
theorem dX4_come_25 : decode cX4_come 25 = .ok (.athrow, 1) := by decide +kernel
theorem dX4_come_26 : decode cX4_come 26 = .ok (.aload_n 0, 1) := by decide +kernel
theorem dX4_come_27 : decode cX4_come 27 = .ok (.getfield 19, 3) := by decide +kernel
theorem dX4_come_30 : decode cX4_come 30 = .ok (.invokevirtual 36, 3) := by decide +kernel
theorem dX4_come_33 : decode cX4_come 33 = .ok (.istore_n 2, 1) := by decide +kernel
theorem dX4_come_34 : decode cX4_come 34 = .ok (.iload_n 2, 1) := by decide +kernel
theorem dX4_come_35 : decode cX4_come 35 = .ok (.bipush 12, 2) := by decide +kernel
theorem dX4_come_37 : decode cX4_come 37 = .ok (.if_icmp .lt 13, 3) := by decide +kernel
theorem dX4_come_40 : decode cX4_come 40 = .ok (.new 40, 3) := by decide +kernel
theorem dX4_come_43 : decode cX4_come 43 = .ok (.dup, 1) := by decide +kernel
theorem dX4_come_44 : decode cX4_come 44 = .ok (.ldc 93, 2) := by decide +kernel
theorem dX4_come_46 : decode cX4_come 46 = .ok (.invokespecial 44, 3) := by decide +kernel
theorem dX4_come_49 : decode cX4_come 49 = .ok (.athrow, 1) := by decide +kernel
theorem dX4_come_50 : decode cX4_come 50 = .ok (.aload_n 0, 1) := by decide +kernel
theorem dX4_come_51 : decode cX4_come 51 = .ok (.getfield 19, 3) := by decide +kernel
theorem dX4_come_54 : decode cX4_come 54 = .ok (.new 95, 3) := by decide +kernel
theorem dX4_come_57 : decode cX4_come 57 = .ok (.dup, 1) := by decide +kernel
theorem dX4_come_58 : decode cX4_come 58 = .ok (.iload_n 2, 1) := by decide +kernel
theorem dX4_come_59 : decode cX4_come 59 = .ok (.iload_n 1, 1) := by decide +kernel
theorem dX4_come_60 : decode cX4_come 60 = .ok (.invokespecial 97, 3) := by decide +kernel
theorem dX4_come_63 : decode cX4_come 63 = .ok (.invokevirtual 50, 3) := by decide +kernel
theorem dX4_come_66 : decode cX4_come 66 = .ok (.pop, 1) := by decide +kernel
theorem dX4_come_67 : decode cX4_come 67 = .ok (.iload_n 2, 1) := by decide +kernel
theorem dX4_come_68 : decode cX4_come 68 = .ok (.ireturn, 1) := by decide +kernel
set_option maxRecDepth 20000 in
theorem ggX4_tell_X4_travellerAt : GoodIn wsX4_tell wsX4_travellerAt := goodIn_r _ [19, 20, 21, 22, 23, 24, 25, 26, 27, 28, 29, 30, 31, 32, 33, 34, 35, 36, 37, 38, 39, 40, 41, 42, 43, 44, 206, 207, 208, 209, 210, 211, 212, 213, 214, 226, 227, 228] (by decide +kernel) (by decide +kernel)
set_option maxRecDepth 20000 in
theorem gX4_tell_X4_travellerAt : GoodIn wsX4_tell (wsV RX4 100 RX4 yX4_travellerAt wsX4_travellerAt) := goodIn_app (goodIn_of _ (by decide +kernel)) ggX4_tell_X4_travellerAt
set_option maxRecDepth 20000 in
theorem ggX4_tell_X4_sceneAt : GoodIn wsX4_tell wsX4_sceneAt := goodIn_r _ [48, 49, 50, 22, 23, 24, 25, 26, 27, 28, 29, 30, 31, 32, 33, 34, 35, 36, 37, 38, 39, 40, 41, 42, 43, 44, 206, 207, 208, 209, 210, 211, 212, 213, 214, 226, 227, 228] (by decide +kernel) (by decide +kernel)
set_option maxRecDepth 20000 in
theorem gX4_tell_X4_sceneAt : GoodIn wsX4_tell (wsV RX4 54 RX4 yX4_sceneAt wsX4_sceneAt) := goodIn_app (goodIn_of _ (by decide +kernel)) ggX4_tell_X4_sceneAt
set_option maxRecDepth 20000 in
theorem ggX4_tell_X4_plotAt : GoodIn wsX4_tell wsX4_plotAt := goodIn_r _ [54, 6, 55, 22, 23, 24, 25, 26, 27, 28, 29, 30, 31, 32, 33, 34, 35, 36, 37, 38, 39, 40, 41, 42, 43, 44, 206, 207, 208, 209, 210, 211, 212, 213, 214, 226, 227, 228] (by decide +kernel) (by decide +kernel)
set_option maxRecDepth 20000 in
theorem gX4_tell_X4_plotAt : GoodIn wsX4_tell (wsV RX4 106 RX4 yX4_plotAt wsX4_plotAt) := goodIn_app (goodIn_of _ (by decide +kernel)) ggX4_tell_X4_plotAt
set_option maxRecDepth 20000 in
theorem ggX4_tell_X4_canTell : GoodIn wsX4_tell wsX4_canTell := goodIn_r _ [59, 60, 5, 6, 61, 62, 63, 64, 65, 66, 67, 68, 69, 70, 71, 72, 73, 22, 23, 24, 25, 26, 27, 74, 75, 76, 9, 77, 78, 79, 80, 81, 82, 83, 84, 85, 86, 87, 88, 89, 90, 91, 92, 221, 222, 223, 224, 225, 200, 201, 202, 203, 204, 205, 206, 207, 208, 209, 210, 211, 212, 213, 214, 226, 227, 228, 215, 216, 217, 218, 219, 220] (by decide +kernel) (by decide +kernel)
set_option maxRecDepth 20000 in
theorem gX4_tell_X4_canTell : GoodIn wsX4_tell (wsV RX4 112 RX4 yX4_canTell wsX4_canTell) := goodIn_app (goodIn_of _ (by decide +kernel)) ggX4_tell_X4_canTell
set_option maxRecDepth 20000 in
theorem ggX4_tell_X1_init : GoodIn wsX4_tell wsX1_init := goodIn_r _ [95, 96, 97, 98, 99, 79, 82, 100, 101, 102, 9, 103, 78, 104, 105, 106, 107, 80, 108, 69, 70, 71, 72, 73, 215, 216, 217, 218, 219, 220, 200, 201, 202, 203, 204, 205] (by decide +kernel) (by decide +kernel)
set_option maxRecDepth 20000 in
theorem gX4_tell_X1_init : GoodIn wsX4_tell (wsX1_init) := ggX4_tell_X1_init
set_option maxRecDepth 20000 in
theorem ggX4_tell_Jx4a65c_add_9ea2d : GoodIn wsX4_tell wsJx4a65c_add_9ea2d := goodIn_r _ [112, 113, 114, 44, 27, 115, 116, 117, 25, 118, 119, 120, 121, 122, 123, 124, 125, 126, 127, 128, 129, 130, 131, 132, 133, 134, 135, 136, 137, 138, 139, 140, 141, 142, 143, 144, 145, 146, 147, 148, 149, 150, 151, 152, 153, 154, 155, 156, 157, 158, 159, 160, 161, 226, 227, 228] (by decide +kernel) (by decide +kernel)
set_option maxRecDepth 20000 in
theorem gX4_tell_Jx4a65c_add_9ea2d : GoodIn wsX4_tell (wsV RX4 50 RJx4a65c yJx4a65c_add_9ea2d wsJx4a65c_add_9ea2d) := goodIn_app (goodIn_of _ (by decide +kernel)) ggX4_tell_Jx4a65c_add_9ea2d
set_option maxRecDepth 20000 in
theorem ggX4_tell_X1_tellOn : GoodIn wsX4_tell wsX1_tellOn := goodIn_r _ [103, 78, 79, 104, 105, 106, 107, 80, 108, 69, 70, 71, 72, 73, 215, 216, 217, 218, 219, 220, 200, 201, 202, 203, 204, 205] (by decide +kernel) (by decide +kernel)
set_option maxRecDepth 20000 in
theorem gX4_tell_X1_tellOn : GoodIn wsX4_tell (wsV RX4 123 RX1 yX1_tellOn wsX1_tellOn) := goodIn_app (goodIn_of _ (by decide +kernel)) ggX4_tell_X1_tellOn
set_option maxRecDepth 20000 in
theorem ggX4_tell_X4_tollOf : GoodIn wsX4_tell wsX4_tollOf := goodIn_r _ [166, 167, 168, 169, 170, 171, 129, 130, 131, 22, 23, 24, 25, 26, 27, 28, 29, 30, 31, 32, 33, 34, 35, 36, 37, 38, 39, 40, 41, 42, 43, 44, 172, 173, 174, 175, 176, 177, 178, 179, 180, 181, 182, 183, 184, 206, 207, 208, 209, 210, 211, 212, 213, 214, 229, 230, 231, 232, 226, 227, 228, 200, 201, 202, 203, 204, 205] (by decide +kernel) (by decide +kernel)
set_option maxRecDepth 20000 in
theorem gX4_tell_X4_tollOf : GoodIn wsX4_tell (wsV RX4 126 RX4 yX4_tollOf wsX4_tollOf) := goodIn_app (goodIn_of _ (by decide +kernel)) ggX4_tell_X4_tollOf
set_option maxRecDepth 20000 in
theorem ggX4_tell_X4_letGuardsHear : GoodIn wsX4_tell wsX4_letGuardsHear := goodIn_r _ [188, 167, 168, 169, 170, 189, 22, 23, 24, 25, 26, 27, 28, 29, 30, 31, 32, 33, 34, 35, 36, 37, 38, 39, 40, 41, 42, 43, 44, 190, 191, 192, 175, 193, 194, 195, 156, 130, 157, 196, 129, 131, 197, 177, 184, 198, 199, 173, 174, 176, 178, 179, 180, 181, 182, 183, 206, 207, 208, 209, 210, 211, 212, 213, 214, 229, 230, 231, 232, 200, 201, 202, 203, 204, 205, 226, 227, 228] (by decide +kernel) (by decide +kernel)
set_option maxRecDepth 20000 in
theorem gX4_tell_X4_letGuardsHear : GoodIn wsX4_tell (wsV RX4 130 RX4 yX4_letGuardsHear wsX4_letGuardsHear) := goodIn_app (goodIn_of _ (by decide +kernel)) ggX4_tell_X4_letGuardsHear
theorem dX4_tell_0 : decode cX4_tell 0 = .ok (.aload_n 0, 1) := by decide +kernel
theorem dX4_tell_1 : decode cX4_tell 1 = .ok (.iload_n 1, 1) := by decide +kernel
theorem dX4_tell_2 : decode cX4_tell 2 = .ok (.invokevirtual 100, 3) := by decide +kernel
theorem dX4_tell_5 : decode cX4_tell 5 = .ok (.astore 4, 2) := by decide +kernel
theorem dX4_tell_7 : decode cX4_tell 7 = .ok (.aload_n 0, 1) := by decide +kernel
theorem dX4_tell_8 : decode cX4_tell 8 = .ok (.iload_n 2, 1) := by decide +kernel
theorem dX4_tell_9 : decode cX4_tell 9 = .ok (.invokevirtual 54, 3) := by decide +kernel
theorem dX4_tell_12 : decode cX4_tell 12 = .ok (.astore 5, 2) := by decide +kernel
theorem dX4_tell_14 : decode cX4_tell 14 = .ok (.aload 4, 2) := by decide +kernel
theorem dX4_tell_16 : decode cX4_tell 16 = .ok (.ifnull 8, 3) := by decide +kernel
theorem dX4_tell_19 : decode cX4_tell 19 = .ok (.aload 5, 2) := by decide +kernel
theorem dX4_tell_21 : decode cX4_tell 21 = .ok (.ifnonnull 13, 3) := by decide +kernel
theorem dX4_tell_24 : decode cX4_tell 24 = .ok (.new 58, 3) := by decide +kernel
theorem dX4_tell_27 : decode cX4_tell 27 = .ok (.dup, 1) := by decide +kernel
theorem dX4_tell_28 : decode cX4_tell 28 = .ok (.ldc 104, 2) := by decide +kernel
theorem dX4_tell_30 : decode cX4_tell 30 = .ok (.invokespecial 62, 3) := by decide +kernel
theorem dX4_tell_33 : decode cX4_tell 33 = .ok (.athrow, 1) := by decide +kernel
theorem dX4_tell_34 : decode cX4_tell 34 = .ok (.aload_n 0, 1) := by decide +kernel
theorem dX4_tell_35 : decode cX4_tell 35 = .ok (.iload_n 3, 1) := by decide +kernel
theorem dX4_tell_36 : decode cX4_tell 36 = .ok (.invokevirtual 106, 3) := by decide +kernel
theorem dX4_tell_39 : decode cX4_tell 39 = .ok (.astore 6, 2) := by decide +kernel
theorem dX4_tell_41 : decode cX4_tell 41 = .ok (.aload 5, 2) := by decide +kernel
theorem dX4_tell_43 : decode cX4_tell 43 = .ok (.getfield 63, 3) := by decide +kernel
theorem dX4_tell_46 : decode cX4_tell 46 = .ok (.ifCond .eq 18, 3) := by decide +kernel
theorem dX4_tell_49 : decode cX4_tell 49 = .ok (.aload 6, 2) := by decide +kernel
theorem dX4_tell_51 : decode cX4_tell 51 = .ok (.ifnonnull 13, 3) := by decide +kernel
theorem dX4_tell_54 : decode cX4_tell 54 = .ok (.new 58, 3) := by decide +kernel
theorem dX4_tell_57 : decode cX4_tell 57 = .ok (.dup, 1) := by decide +kernel
theorem dX4_tell_58 : decode cX4_tell 58 = .ok (.ldc 110, 2) := by decide +kernel
theorem dX4_tell_60 : decode cX4_tell 60 = .ok (.invokespecial 62, 3) := by decide +kernel
theorem dX4_tell_63 : decode cX4_tell 63 = .ok (.athrow, 1) := by decide +kernel
theorem dX4_tell_64 : decode cX4_tell 64 = .ok (.aload_n 0, 1) := by decide +kernel
theorem dX4_tell_65 : decode cX4_tell 65 = .ok (.aload 4, 2) := by decide +kernel
theorem dX4_tell_67 : decode cX4_tell 67 = .ok (.aload 5, 2) := by decide +kernel
theorem dX4_tell_69 : decode cX4_tell 69 = .ok (.aload 6, 2) := by decide +kernel
theorem dX4_tell_71 : decode cX4_tell 71 = .ok (.invokevirtual 112, 3) := by decide +kernel
theorem dX4_tell_74 : decode cX4_tell 74 = .ok (.ifCond .ne 13, 3) := by decide +kernel
theorem dX4_tell_77 : decode cX4_tell 77 = .ok (.new 40, 3) := by decide +kernel
theorem dX4_tell_80 : decode cX4_tell 80 = .ok (.dup, 1) := by decide +kernel
theorem dX4_tell_81 : decode cX4_tell 81 = .ok (.ldc 116, 2) := by decide +kernel
theorem dX4_tell_83 : decode cX4_tell 83 = .ok (.invokespecial 44, 3) := by decide +kernel
theorem dX4_tell_86 : decode cX4_tell 86 = .ok (.athrow, 1) := by decide +kernel
theorem dX4_tell_87 : decode cX4_tell 87 = .ok (.aload 5, 2) := by decide +kernel
theorem dX4_tell_89 : decode cX4_tell 89 = .ok (.getfield 63, 3) := by decide +kernel
theorem dX4_tell_92 : decode cX4_tell 92 = .ok (.ifCond .ne 23, 3) := by decide +kernel
theorem dX4_tell_95 : decode cX4_tell 95 = .ok (.aload_n 0, 1) := by decide +kernel
theorem dX4_tell_96 : decode cX4_tell 96 = .ok (.getfield 22, 3) := by decide +kernel
theorem dX4_tell_99 : decode cX4_tell 99 = .ok (.new 118, 3) := by decide +kernel
theorem dX4_tell_102 : decode cX4_tell 102 = .ok (.dup, 1) := by decide +kernel
theorem dX4_tell_103 : decode cX4_tell 103 = .ok (.aload 5, 2) := by decide +kernel
theorem dX4_tell_105 : decode cX4_tell 105 = .ok (.invokespecial 120, 3) := by decide +kernel
theorem dX4_tell_108 : decode cX4_tell 108 = .ok (.invokevirtual 50, 3) := by decide +kernel
theorem dX4_tell_111 : decode cX4_tell 111 = .ok (.pop, 1) := by decide +kernel
theorem dX4_tell_112 : decode cX4_tell 112 = .ok (.goto 15, 3) := by decide +kernel
theorem dX4_tell_115 : decode cX4_tell 115 = .ok (.aload 6, 2) := by decide +kernel
theorem dX4_tell_117 : decode cX4_tell 117 = .ok (.ifnull 10, 3) := by decide +kernel
theorem dX4_tell_120 : decode cX4_tell 120 = .ok (.aload 6, 2) := by decide +kernel
theorem dX4_tell_122 : decode cX4_tell 122 = .ok (.aload 5, 2) := by decide +kernel
theorem dX4_tell_124 : decode cX4_tell 124 = .ok (.invokevirtual 123, 3) := by decide +kernel
theorem dX4_tell_127 : decode cX4_tell 127 = .ok (.aload_n 0, 1) := by decide +kernel
theorem dX4_tell_128 : decode cX4_tell 128 = .ok (.aload 5, 2) := by decide +kernel
theorem dX4_tell_130 : decode cX4_tell 130 = .ok (.invokevirtual 126, 3) := by decide +kernel
theorem dX4_tell_133 : decode cX4_tell 133 = .ok (.istore 7, 2) := by decide +kernel
theorem dX4_tell_135 : decode cX4_tell 135 = .ok (.aload_n 0, 1) := by decide +kernel
theorem dX4_tell_136 : decode cX4_tell 136 = .ok (.aload 5, 2) := by decide +kernel
theorem dX4_tell_138 : decode cX4_tell 138 = .ok (.invokevirtual 130, 3) := by decide +kernel
theorem dX4_tell_141 : decode cX4_tell 141 = .ok (.aload 5, 2) := by decide +kernel
theorem dX4_tell_143 : decode cX4_tell 143 = .ok (.dup, 1) := by decide +kernel
theorem dX4_tell_144 : decode cX4_tell 144 = .ok (.getfield 133, 3) := by decide +kernel
theorem dX4_tell_147 : decode cX4_tell 147 = .ok (.iconst 1, 1) := by decide +kernel
theorem dX4_tell_148 : decode cX4_tell 148 = .ok (.iadd, 1) := by decide +kernel
theorem dX4_tell_149 : decode cX4_tell 149 = .ok (.putfield 133, 3) := by decide +kernel
theorem dX4_tell_152 : decode cX4_tell 152 = .ok (.aload 4, 2) := by decide +kernel
theorem dX4_tell_154 : decode cX4_tell 154 = .ok (.dup, 1) := by decide +kernel
theorem dX4_tell_155 : decode cX4_tell 155 = .ok (.getfield 136, 3) := by decide +kernel
theorem dX4_tell_158 : decode cX4_tell 158 = .ok (.iconst 1, 1) := by decide +kernel
theorem dX4_tell_159 : decode cX4_tell 159 = .ok (.iadd, 1) := by decide +kernel
theorem dX4_tell_160 : decode cX4_tell 160 = .ok (.putfield 136, 3) := by decide +kernel
theorem dX4_tell_163 : decode cX4_tell 163 = .ok (.aload 4, 2) := by decide +kernel
theorem dX4_tell_165 : decode cX4_tell 165 = .ok (.dup, 1) := by decide +kernel
theorem dX4_tell_166 : decode cX4_tell 166 = .ok (.getfield 139, 3) := by decide +kernel
theorem dX4_tell_169 : decode cX4_tell 169 = .ok (.iload 7, 2) := by decide +kernel
theorem dX4_tell_171 : decode cX4_tell 171 = .ok (.iadd, 1) := by decide +kernel
theorem dX4_tell_172 : decode cX4_tell 172 = .ok (.putfield 139, 3) := by decide +kernel
theorem dX4_tell_175 : decode cX4_tell 175 = .ok (.aload_n 0, 1) := by decide +kernel
theorem dX4_tell_176 : decode cX4_tell 176 = .ok (.dup, 1) := by decide +kernel
theorem dX4_tell_177 : decode cX4_tell 177 = .ok (.getfield 142, 3) := by decide +kernel
theorem dX4_tell_180 : decode cX4_tell 180 = .ok (.iconst 1, 1) := by decide +kernel
theorem dX4_tell_181 : decode cX4_tell 181 = .ok (.iadd, 1) := by decide +kernel
theorem dX4_tell_182 : decode cX4_tell 182 = .ok (.putfield 142, 3) := by decide +kernel
theorem dX4_tell_185 : decode cX4_tell 185 = .ok (.aload_n 0, 1) := by decide +kernel
theorem dX4_tell_186 : decode cX4_tell 186 = .ok (.dup, 1) := by decide +kernel
theorem dX4_tell_187 : decode cX4_tell 187 = .ok (.getfield 143, 3) := by decide +kernel
theorem dX4_tell_190 : decode cX4_tell 190 = .ok (.iload 7, 2) := by decide +kernel
theorem dX4_tell_192 : decode cX4_tell 192 = .ok (.iadd, 1) := by decide +kernel
theorem dX4_tell_193 : decode cX4_tell 193 = .ok (.putfield 143, 3) := by decide +kernel
theorem dX4_tell_196 : decode cX4_tell 196 = .ok (.iload 7, 2) := by decide +kernel
theorem dX4_tell_198 : decode cX4_tell 198 = .ok (.ireturn, 1) := by decide +kernel
set_option maxRecDepth 20000 in
theorem ggX4_reserve_X4_travellerAt : GoodIn wsX4_reserve wsX4_travellerAt := goodIn_r _ [13, 14, 15, 16, 17, 18, 19, 20, 21, 22, 23, 24, 25, 26, 27, 28, 29, 30, 31, 32, 33, 34, 35, 36, 37, 38, 63, 64, 65, 66, 67, 68, 69, 70, 71, 72, 73, 74] (by decide +kernel) (by decide +kernel)
set_option maxRecDepth 20000 in
theorem gX4_reserve_X4_travellerAt : GoodIn wsX4_reserve (wsV RX4 100 RX4 yX4_travellerAt wsX4_travellerAt) := goodIn_app (goodIn_of _ (by decide +kernel)) ggX4_reserve_X4_travellerAt
set_option maxRecDepth 20000 in
theorem ggX4_reserve_X4_plotAt : GoodIn wsX4_reserve wsX4_plotAt := goodIn_r _ [42, 43, 44, 16, 17, 18, 19, 20, 21, 22, 23, 24, 25, 26, 27, 28, 29, 30, 31, 32, 33, 34, 35, 36, 37, 38, 63, 64, 65, 66, 67, 68, 69, 70, 71, 72, 73, 74] (by decide +kernel) (by decide +kernel)
set_option maxRecDepth 20000 in
theorem gX4_reserve_X4_plotAt : GoodIn wsX4_reserve (wsV RX4 106 RX4 yX4_plotAt wsX4_plotAt) := goodIn_app (goodIn_of _ (by decide +kernel)) ggX4_reserve_X4_plotAt
set_option maxRecDepth 20000 in
theorem ggX4_reserve_X1_isOpen : GoodIn wsX4_reserve wsX1_isOpen := goodIn_r _ [49, 50, 51, 57, 58, 59, 60, 61, 62, 75, 76, 77, 78, 79, 80] (by decide +kernel) (by decide +kernel)
set_option maxRecDepth 20000 in
theorem gX4_reserve_X1_isOpen : GoodIn wsX4_reserve (wsV RX4 151 RX1 yX1_isOpen wsX1_isOpen) := goodIn_app (goodIn_of _ (by decide +kernel)) ggX4_reserve_X1_isOpen
theorem dX4_reserve_0 : decode cX4_reserve 0 = .ok (.aload_n 0, 1) := by decide +kernel
theorem dX4_reserve_1 : decode cX4_reserve 1 = .ok (.iload_n 1, 1) := by decide +kernel
theorem dX4_reserve_2 : decode cX4_reserve 2 = .ok (.invokevirtual 100, 3) := by decide +kernel
theorem dX4_reserve_5 : decode cX4_reserve 5 = .ok (.astore_n 3, 1) := by decide +kernel
theorem dX4_reserve_6 : decode cX4_reserve 6 = .ok (.aload_n 0, 1) := by decide +kernel
theorem dX4_reserve_7 : decode cX4_reserve 7 = .ok (.iload_n 2, 1) := by decide +kernel
theorem dX4_reserve_8 : decode cX4_reserve 8 = .ok (.invokevirtual 106, 3) := by decide +kernel
theorem dX4_reserve_11 : decode cX4_reserve 11 = .ok (.astore 4, 2) := by decide +kernel
theorem dX4_reserve_13 : decode cX4_reserve 13 = .ok (.aload_n 3, 1) := by decide +kernel
theorem dX4_reserve_14 : decode cX4_reserve 14 = .ok (.ifnull 8, 3) := by decide +kernel
theorem dX4_reserve_17 : decode cX4_reserve 17 = .ok (.aload 4, 2) := by decide +kernel
theorem dX4_reserve_19 : decode cX4_reserve 19 = .ok (.ifnonnull 13, 3) := by decide +kernel
theorem dX4_reserve_22 : decode cX4_reserve 22 = .ok (.new 58, 3) := by decide +kernel
theorem dX4_reserve_25 : decode cX4_reserve 25 = .ok (.dup, 1) := by decide +kernel
theorem dX4_reserve_26 : decode cX4_reserve 26 = .ok (.ldc 146, 2) := by decide +kernel
theorem dX4_reserve_28 : decode cX4_reserve 28 = .ok (.invokespecial 62, 3) := by decide +kernel
theorem dX4_reserve_31 : decode cX4_reserve 31 = .ok (.athrow, 1) := by decide +kernel
theorem dX4_reserve_32 : decode cX4_reserve 32 = .ok (.aload_n 3, 1) := by decide +kernel
theorem dX4_reserve_33 : decode cX4_reserve 33 = .ok (.getfield 148, 3) := by decide +kernel
theorem dX4_reserve_36 : decode cX4_reserve 36 = .ok (.ifCond .ne 28, 3) := by decide +kernel
theorem dX4_reserve_39 : decode cX4_reserve 39 = .ok (.aload_n 3, 1) := by decide +kernel
theorem dX4_reserve_40 : decode cX4_reserve 40 = .ok (.getfield 139, 3) := by decide +kernel
theorem dX4_reserve_43 : decode cX4_reserve 43 = .ok (.iconst 5, 1) := by decide +kernel
theorem dX4_reserve_44 : decode cX4_reserve 44 = .ok (.if_icmp .lt 20, 3) := by decide +kernel
theorem dX4_reserve_47 : decode cX4_reserve 47 = .ok (.aload 4, 2) := by decide +kernel
theorem dX4_reserve_49 : decode cX4_reserve 49 = .ok (.invokevirtual 151, 3) := by decide +kernel
theorem dX4_reserve_52 : decode cX4_reserve 52 = .ok (.ifCond .eq 12, 3) := by decide +kernel
theorem dX4_reserve_55 : decode cX4_reserve 55 = .ok (.aload 4, 2) := by decide +kernel
theorem dX4_reserve_57 : decode cX4_reserve 57 = .ok (.getfield 155, 3) := by decide +kernel
theorem dX4_reserve_60 : decode cX4_reserve 60 = .ok (.iconst (-1), 1) := by decide +kernel
theorem dX4_reserve_61 : decode cX4_reserve 61 = .ok (.if_icmp .eq 13, 3) := by decide +kernel
theorem dX4_reserve_64 : decode cX4_reserve 64 = .ok (.new 40, 3) := by decide +kernel
theorem dX4_reserve_67 : decode cX4_reserve 67 = .ok (.dup, 1) := by decide +kernel
theorem dX4_reserve_68 : decode cX4_reserve 68 = .ok (.ldc 158, 2) := by decide +kernel
theorem dX4_reserve_70 : decode cX4_reserve 70 = .ok (.invokespecial 44, 3) := by decide +kernel
theorem dX4_reserve_73 : decode cX4_reserve 73 = .ok (.athrow, 1) := by decide +kernel
theorem dX4_reserve_74 : decode cX4_reserve 74 = .ok (.aload_n 3, 1) := by decide +kernel
theorem dX4_reserve_75 : decode cX4_reserve 75 = .ok (.dup, 1) := by decide +kernel
theorem dX4_reserve_76 : decode cX4_reserve 76 = .ok (.getfield 139, 3) := by decide +kernel
theorem dX4_reserve_79 : decode cX4_reserve 79 = .ok (.iconst 5, 1) := by decide +kernel
theorem dX4_reserve_80 : decode cX4_reserve 80 = .ok (.isub, 1) := by decide +kernel
theorem dX4_reserve_81 : decode cX4_reserve 81 = .ok (.putfield 139, 3) := by decide +kernel
theorem dX4_reserve_84 : decode cX4_reserve 84 = .ok (.aload 4, 2) := by decide +kernel
theorem dX4_reserve_86 : decode cX4_reserve 86 = .ok (.aload_n 3, 1) := by decide +kernel
theorem dX4_reserve_87 : decode cX4_reserve 87 = .ok (.getfield 160, 3) := by decide +kernel
theorem dX4_reserve_90 : decode cX4_reserve 90 = .ok (.putfield 155, 3) := by decide +kernel
theorem dX4_reserve_93 : decode cX4_reserve 93 = .ok (.aload_n 3, 1) := by decide +kernel
theorem dX4_reserve_94 : decode cX4_reserve 94 = .ok (.getfield 139, 3) := by decide +kernel
theorem dX4_reserve_97 : decode cX4_reserve 97 = .ok (.ireturn, 1) := by decide +kernel
set_option maxRecDepth 20000 in
theorem ggX4_pass_X4_travellerAt : GoodIn wsX4_pass wsX4_travellerAt := goodIn_r _ [11, 12, 13, 14, 15, 16, 17, 18, 19, 20, 21, 22, 23, 24, 25, 26, 27, 28, 29, 30, 31, 32, 33, 34, 35, 36, 49, 50, 51, 52, 53, 54, 55, 56, 57, 58, 59, 60] (by decide +kernel) (by decide +kernel)
set_option maxRecDepth 20000 in
theorem gX4_pass_X4_travellerAt : GoodIn wsX4_pass (wsV RX4 100 RX4 yX4_travellerAt wsX4_travellerAt) := goodIn_app (goodIn_of _ (by decide +kernel)) ggX4_pass_X4_travellerAt
set_option maxRecDepth 20000 in
theorem ggX4_pass_X4_guardsAwake : GoodIn wsX4_pass wsX4_guardsAwake := goodIn_r _ [40, 41, 42, 43, 14, 15, 16, 17, 18, 19, 20, 21, 22, 23, 24, 25, 26, 27, 28, 29, 30, 31, 32, 33, 34, 35, 36, 49, 50, 51, 52, 53, 54, 55, 56, 57, 61, 62, 63, 64, 58, 59, 60] (by decide +kernel) (by decide +kernel)
set_option maxRecDepth 20000 in
theorem gX4_pass_X4_guardsAwake : GoodIn wsX4_pass (wsV RX4 165 RX4 yX4_guardsAwake wsX4_guardsAwake) := goodIn_app (goodIn_of _ (by decide +kernel)) ggX4_pass_X4_guardsAwake
theorem dX4_pass_0 : decode cX4_pass 0 = .ok (.aload_n 0, 1) := by decide +kernel
theorem dX4_pass_1 : decode cX4_pass 1 = .ok (.iload_n 1, 1) := by decide +kernel
theorem dX4_pass_2 : decode cX4_pass 2 = .ok (.invokevirtual 100, 3) := by decide +kernel
theorem dX4_pass_5 : decode cX4_pass 5 = .ok (.astore_n 2, 1) := by decide +kernel
theorem dX4_pass_6 : decode cX4_pass 6 = .ok (.aload_n 2, 1) := by decide +kernel
theorem dX4_pass_7 : decode cX4_pass 7 = .ok (.ifnonnull 13, 3) := by decide +kernel
theorem dX4_pass_10 : decode cX4_pass 10 = .ok (.new 58, 3) := by decide +kernel
theorem dX4_pass_13 : decode cX4_pass 13 = .ok (.dup, 1) := by decide +kernel
theorem dX4_pass_14 : decode cX4_pass 14 = .ok (.ldc 161, 2) := by decide +kernel
theorem dX4_pass_16 : decode cX4_pass 16 = .ok (.invokespecial 62, 3) := by decide +kernel
theorem dX4_pass_19 : decode cX4_pass 19 = .ok (.athrow, 1) := by decide +kernel
theorem dX4_pass_20 : decode cX4_pass 20 = .ok (.aload_n 2, 1) := by decide +kernel
theorem dX4_pass_21 : decode cX4_pass 21 = .ok (.getfield 148, 3) := by decide +kernel
theorem dX4_pass_24 : decode cX4_pass 24 = .ok (.ifCond .eq 13, 3) := by decide +kernel
theorem dX4_pass_27 : decode cX4_pass 27 = .ok (.new 40, 3) := by decide +kernel
theorem dX4_pass_30 : decode cX4_pass 30 = .ok (.dup, 1) := by decide +kernel
theorem dX4_pass_31 : decode cX4_pass 31 = .ok (.ldc 163, 2) := by decide +kernel
theorem dX4_pass_33 : decode cX4_pass 33 = .ok (.invokespecial 44, 3) := by decide +kernel
theorem dX4_pass_36 : decode cX4_pass 36 = .ok (.athrow, 1) := by decide +kernel
theorem dX4_pass_37 : decode cX4_pass 37 = .ok (.aload_n 2, 1) := by decide +kernel
theorem dX4_pass_38 : decode cX4_pass 38 = .ok (.getfield 139, 3) := by decide +kernel
theorem dX4_pass_41 : decode cX4_pass 41 = .ok (.bipush 15, 2) := by decide +kernel
theorem dX4_pass_43 : decode cX4_pass 43 = .ok (.if_icmp .ge 12, 3) := by decide +kernel
theorem dX4_pass_46 : decode cX4_pass 46 = .ok (.aload_n 0, 1) := by decide +kernel
theorem dX4_pass_47 : decode cX4_pass 47 = .ok (.invokevirtual 165, 3) := by decide +kernel
theorem dX4_pass_50 : decode cX4_pass 50 = .ok (.ifCond .le 5, 3) := by decide +kernel
theorem dX4_pass_53 : decode cX4_pass 53 = .ok (.iconst 0, 1) := by decide +kernel
theorem dX4_pass_54 : decode cX4_pass 54 = .ok (.ireturn, 1) := by decide +kernel
theorem dX4_pass_55 : decode cX4_pass 55 = .ok (.aload_n 2, 1) := by decide +kernel
theorem dX4_pass_56 : decode cX4_pass 56 = .ok (.iconst 1, 1) := by decide +kernel
theorem dX4_pass_57 : decode cX4_pass 57 = .ok (.putfield 148, 3) := by decide +kernel
theorem dX4_pass_60 : decode cX4_pass 60 = .ok (.iconst 1, 1) := by decide +kernel
theorem dX4_pass_61 : decode cX4_pass 61 = .ok (.ireturn, 1) := by decide +kernel
set_option maxRecDepth 20000 in
theorem ggX4_send_X4_travellerAt : GoodIn wsX4_send wsX4_travellerAt := goodIn_r _ [15, 16, 17, 18, 19, 20, 21, 22, 23, 24, 25, 26, 27, 28, 29, 30, 31, 32, 33, 34, 35, 36, 37, 38, 39, 40, 46, 47, 48, 49, 50, 51, 52, 53, 54, 61, 62, 63] (by decide +kernel) (by decide +kernel)
set_option maxRecDepth 20000 in
theorem gX4_send_X4_travellerAt : GoodIn wsX4_send (wsV RX4 100 RX4 yX4_travellerAt wsX4_travellerAt) := goodIn_app (goodIn_of _ (by decide +kernel)) ggX4_send_X4_travellerAt
set_option maxRecDepth 20000 in
theorem ggX4_send_Jx4a65c_size_8abf5 : GoodIn wsX4_send wsJx4a65c_size_8abf5 := goodIn_r _ [22, 23, 61, 62, 63] (by decide +kernel) (by decide +kernel)
set_option maxRecDepth 20000 in
theorem gX4_send_Jx4a65c_size_8abf5 : GoodIn wsX4_send (wsV RX4 36 RJx4a65c yJx4a65c_size_8abf5 wsJx4a65c_size_8abf5) := goodIn_app (goodIn_of _ (by decide +kernel)) ggX4_send_Jx4a65c_size_8abf5
set_option maxRecDepth 20000 in
theorem ggX4_send_Jx4a65c_get_915e3 : GoodIn wsX4_send wsJx4a65c_get_915e3 := goodIn_r _ [27, 23, 28, 29, 30, 31, 32, 33, 34, 35, 36, 37, 38, 21, 39, 40, 61, 62, 63] (by decide +kernel) (by decide +kernel)
set_option maxRecDepth 20000 in
theorem gX4_send_Jx4a65c_get_915e3 : GoodIn wsX4_send (wsV RX4 168 RJx4a65c yJx4a65c_get_915e3 wsJx4a65c_get_915e3) := goodIn_app (goodIn_of _ (by decide +kernel)) ggX4_send_Jx4a65c_get_915e3
theorem dX4_send_0 : decode cX4_send 0 = .ok (.aload_n 0, 1) := by decide +kernel
theorem dX4_send_1 : decode cX4_send 1 = .ok (.iload_n 1, 1) := by decide +kernel
theorem dX4_send_2 : decode cX4_send 2 = .ok (.invokevirtual 100, 3) := by decide +kernel
theorem dX4_send_5 : decode cX4_send 5 = .ok (.astore_n 2, 1) := by decide +kernel
theorem dX4_send_6 : decode cX4_send 6 = .ok (.aload_n 2, 1) := by decide +kernel
theorem dX4_send_7 : decode cX4_send 7 = .ok (.ifnonnull 13, 3) := by decide +kernel
theorem dX4_send_10 : decode cX4_send 10 = .ok (.new 58, 3) := by decide +kernel
theorem dX4_send_13 : decode cX4_send 13 = .ok (.dup, 1) := by decide +kernel
theorem dX4_send_14 : decode cX4_send 14 = .ok (.ldc 161, 2) := by decide +kernel
theorem dX4_send_16 : decode cX4_send 16 = .ok (.invokespecial 62, 3) := by decide +kernel
theorem dX4_send_19 : decode cX4_send 19 = .ok (.athrow, 1) := by decide +kernel
theorem dX4_send_20 : decode cX4_send 20 = .ok (.aload_n 2, 1) := by decide +kernel
theorem dX4_send_21 : decode cX4_send 21 = .ok (.getfield 148, 3) := by decide +kernel
theorem dX4_send_24 : decode cX4_send 24 = .ok (.ifCond .eq 13, 3) := by decide +kernel
theorem dX4_send_27 : decode cX4_send 27 = .ok (.new 40, 3) := by decide +kernel
theorem dX4_send_30 : decode cX4_send 30 = .ok (.dup, 1) := by decide +kernel
theorem dX4_send_31 : decode cX4_send 31 = .ok (.ldc 163, 2) := by decide +kernel
theorem dX4_send_33 : decode cX4_send 33 = .ok (.invokespecial 44, 3) := by decide +kernel
theorem dX4_send_36 : decode cX4_send 36 = .ok (.athrow, 1) := by decide +kernel
theorem dX4_send_37 : decode cX4_send 37 = .ok (.aload_n 2, 1) := by decide +kernel
theorem dX4_send_38 : decode cX4_send 38 = .ok (.iconst 2, 1) := by decide +kernel
theorem dX4_send_39 : decode cX4_send 39 = .ok (.putfield 148, 3) := by decide +kernel
theorem dX4_send_42 : decode cX4_send 42 = .ok (.iconst 0, 1) := by decide +kernel
theorem dX4_send_43 : decode cX4_send 43 = .ok (.istore_n 3, 1) := by decide +kernel
theorem dX4_send_44 : decode cX4_send 44 = .ok (.iload_n 3, 1) := by decide +kernel
theorem dX4_send_45 : decode cX4_send 45 = .ok (.aload_n 0, 1) := by decide +kernel
theorem dX4_send_46 : decode cX4_send 46 = .ok (.getfield 22, 3) := by decide +kernel
theorem dX4_send_49 : decode cX4_send 49 = .ok (.invokevirtual 36, 3) := by decide +kernel
theorem dX4_send_52 : decode cX4_send 52 = .ok (.if_icmp .ge 40, 3) := by decide +kernel
theorem dX4_send_55 : decode cX4_send 55 = .ok (.aload_n 0, 1) := by decide +kernel
theorem dX4_send_56 : decode cX4_send 56 = .ok (.getfield 22, 3) := by decide +kernel
theorem dX4_send_59 : decode cX4_send 59 = .ok (.iload_n 3, 1) := by decide +kernel
theorem dX4_send_60 : decode cX4_send 60 = .ok (.invokevirtual 168, 3) := by decide +kernel
theorem dX4_send_63 : decode cX4_send 63 = .ok (.checkcast 118, 3) := by decide +kernel
theorem dX4_send_66 : decode cX4_send 66 = .ok (.astore 4, 2) := by decide +kernel
theorem dX4_send_68 : decode cX4_send 68 = .ok (.aload 4, 2) := by decide +kernel
theorem dX4_send_70 : decode cX4_send 70 = .ok (.getfield 155, 3) := by decide +kernel
theorem dX4_send_73 : decode cX4_send 73 = .ok (.aload_n 2, 1) := by decide +kernel
theorem dX4_send_74 : decode cX4_send 74 = .ok (.getfield 160, 3) := by decide +kernel
theorem dX4_send_77 : decode cX4_send 77 = .ok (.if_icmp .ne 9, 3) := by decide +kernel
theorem dX4_send_80 : decode cX4_send 80 = .ok (.aload 4, 2) := by decide +kernel
theorem dX4_send_82 : decode cX4_send 82 = .ok (.iconst (-1), 1) := by decide +kernel
theorem dX4_send_83 : decode cX4_send 83 = .ok (.putfield 155, 3) := by decide +kernel
theorem dX4_send_86 : decode cX4_send 86 = .ok (.iinc 3 1, 3) := by decide +kernel
theorem dX4_send_89 : decode cX4_send 89 = .ok (.goto (-45), 3) := by decide +kernel
theorem dX4_send_92 : decode cX4_send 92 = .ok (.aload_n 2, 1) := by decide +kernel
theorem dX4_send_93 : decode cX4_send 93 = .ok (.getfield 139, 3) := by decide +kernel
theorem dX4_send_96 : decode cX4_send 96 = .ok (.ireturn, 1) := by decide +kernel
set_option maxRecDepth 20000 in
theorem ggX4_watch_Jx4a65c_size_8abf5 : GoodIn wsX4_watch wsJx4a65c_size_8abf5 := goodIn_r _ [10, 11, 64, 65, 66] (by decide +kernel) (by decide +kernel)
set_option maxRecDepth 20000 in
theorem gX4_watch_Jx4a65c_size_8abf5 : GoodIn wsX4_watch (wsV RX4 36 RJx4a65c yJx4a65c_size_8abf5 wsJx4a65c_size_8abf5) := goodIn_app (goodIn_of _ (by decide +kernel)) ggX4_watch_Jx4a65c_size_8abf5
set_option maxRecDepth 20000 in
theorem ggX4_watch_Jx4a65c_get_915e3 : GoodIn wsX4_watch wsJx4a65c_get_915e3 := goodIn_r _ [15, 11, 16, 17, 18, 19, 20, 21, 22, 23, 24, 25, 26, 9, 27, 28, 64, 65, 66] (by decide +kernel) (by decide +kernel)
set_option maxRecDepth 20000 in
theorem gX4_watch_Jx4a65c_get_915e3 : GoodIn wsX4_watch (wsV RX4 168 RJx4a65c yJx4a65c_get_915e3 wsJx4a65c_get_915e3) := goodIn_app (goodIn_of _ (by decide +kernel)) ggX4_watch_Jx4a65c_get_915e3
set_option maxRecDepth 20000 in
theorem ggX4_watch_X0_letWatchGoBy : GoodIn wsX4_watch wsX0_letWatchGoBy := goodIn_r _ [33, 34, 35, 36, 37, 32, 38, 39, 40, 41, 42, 43, 44, 45, 46, 47, 48, 67, 68, 69, 70] (by decide +kernel) (by decide +kernel)
set_option maxRecDepth 20000 in
theorem gX4_watch_X0_letWatchGoBy : GoodIn wsX4_watch (wsV RX4 174 RX0 yX0_letWatchGoBy wsX0_letWatchGoBy) := goodIn_app (goodIn_of _ (by decide +kernel)) ggX4_watch_X0_letWatchGoBy
set_option maxRecDepth 20000 in
theorem ggX4_watch_X4_guardsAwake : GoodIn wsX4_watch wsX4_guardsAwake := goodIn_r _ [53, 3, 4, 54, 6, 7, 8, 9, 10, 11, 12, 13, 14, 15, 16, 17, 18, 19, 20, 21, 22, 23, 24, 25, 26, 27, 28, 55, 56, 57, 58, 59, 60, 61, 62, 63, 67, 68, 69, 70, 64, 65, 66] (by decide +kernel) (by decide +kernel)
set_option maxRecDepth 20000 in
theorem gX4_watch_X4_guardsAwake : GoodIn wsX4_watch (wsV RX4 165 RX4 yX4_guardsAwake wsX4_guardsAwake) := goodIn_app (goodIn_of _ (by decide +kernel)) ggX4_watch_X4_guardsAwake
theorem dX4_watch_0 : decode cX4_watch 0 = .ok (.iload_n 1, 1) := by decide +kernel
theorem dX4_watch_1 : decode cX4_watch 1 = .ok (.iconst 1, 1) := by decide +kernel
theorem dX4_watch_2 : decode cX4_watch 2 = .ok (.if_icmp .lt 9, 3) := by decide +kernel
theorem dX4_watch_5 : decode cX4_watch 5 = .ok (.iload_n 1, 1) := by decide +kernel
theorem dX4_watch_6 : decode cX4_watch 6 = .ok (.bipush 100, 2) := by decide +kernel
theorem dX4_watch_8 : decode cX4_watch 8 = .ok (.if_icmp .le 13, 3) := by decide +kernel
theorem dX4_watch_11 : decode cX4_watch 11 = .ok (.new 29, 3) := by decide +kernel
theorem dX4_watch_14 : decode cX4_watch 14 = .ok (.dup, 1) := by decide +kernel
theorem dX4_watch_15 : decode cX4_watch 15 = .ok (.ldc 172, 2) := by decide +kernel
theorem dX4_watch_17 : decode cX4_watch 17 = .ok (.invokespecial 33, 3) := by decide +kernel
theorem dX4_watch_20 : decode cX4_watch 20 = .ok (.athrow, 1) := by decide +kernel
theorem dX4_watch_21 : decode cX4_watch 21 = .ok (.iconst 0, 1) := by decide +kernel
theorem dX4_watch_22 : decode cX4_watch 22 = .ok (.istore_n 2, 1) := by decide +kernel
theorem dX4_watch_23 : decode cX4_watch 23 = .ok (.iload_n 2, 1) := by decide +kernel
theorem dX4_watch_24 : decode cX4_watch 24 = .ok (.iload_n 1, 1) := by decide +kernel
theorem dX4_watch_25 : decode cX4_watch 25 = .ok (.if_icmp .ge 52, 3) := by decide +kernel
theorem dX4_watch_28 : decode cX4_watch 28 = .ok (.iconst 0, 1) := by decide +kernel
theorem dX4_watch_29 : decode cX4_watch 29 = .ok (.istore_n 3, 1) := by decide +kernel
theorem dX4_watch_30 : decode cX4_watch 30 = .ok (.iload_n 3, 1) := by decide +kernel
theorem dX4_watch_31 : decode cX4_watch 31 = .ok (.aload_n 0, 1) := by decide +kernel
theorem dX4_watch_32 : decode cX4_watch 32 = .ok (.getfield 16, 3) := by decide +kernel
theorem dX4_watch_35 : decode cX4_watch 35 = .ok (.invokevirtual 36, 3) := by decide +kernel
theorem dX4_watch_38 : decode cX4_watch 38 = .ok (.if_icmp .ge 23, 3) := by decide +kernel
theorem dX4_watch_41 : decode cX4_watch 41 = .ok (.aload_n 0, 1) := by decide +kernel
theorem dX4_watch_42 : decode cX4_watch 42 = .ok (.getfield 16, 3) := by decide +kernel
theorem dX4_watch_45 : decode cX4_watch 45 = .ok (.iload_n 3, 1) := by decide +kernel
theorem dX4_watch_46 : decode cX4_watch 46 = .ok (.invokevirtual 168, 3) := by decide +kernel
theorem dX4_watch_49 : decode cX4_watch 49 = .ok (.checkcast 88, 3) := by decide +kernel
theorem dX4_watch_52 : decode cX4_watch 52 = .ok (.invokevirtual 174, 3) := by decide +kernel
theorem dX4_watch_55 : decode cX4_watch 55 = .ok (.iinc 3 1, 3) := by decide +kernel
theorem dX4_watch_58 : decode cX4_watch 58 = .ok (.goto (-28), 3) := by decide +kernel
theorem dX4_watch_61 : decode cX4_watch 61 = .ok (.aload_n 0, 1) := by decide +kernel
theorem dX4_watch_62 : decode cX4_watch 62 = .ok (.dup, 1) := by decide +kernel
theorem dX4_watch_63 : decode cX4_watch 63 = .ok (.getfield 177, 3) := by decide +kernel
theorem dX4_watch_66 : decode cX4_watch 66 = .ok (.iconst 1, 1) := by decide +kernel
theorem dX4_watch_67 : decode cX4_watch 67 = .ok (.iadd, 1) := by decide +kernel
theorem dX4_watch_68 : decode cX4_watch 68 = .ok (.putfield 177, 3) := by decide +kernel
theorem dX4_watch_71 : decode cX4_watch 71 = .ok (.iinc 2 1, 3) := by decide +kernel
theorem dX4_watch_74 : decode cX4_watch 74 = .ok (.goto (-51), 3) := by decide +kernel
theorem dX4_watch_77 : decode cX4_watch 77 = .ok (.aload_n 0, 1) := by decide +kernel
theorem dX4_watch_78 : decode cX4_watch 78 = .ok (.invokevirtual 165, 3) := by decide +kernel
theorem dX4_watch_81 : decode cX4_watch 81 = .ok (.ireturn, 1) := by decide +kernel
set_option maxRecDepth 20000 in
theorem ggX4_scene_X4_sceneAt : GoodIn wsX4_scene wsX4_sceneAt := goodIn_r _ [7, 8, 9, 10, 11, 12, 13, 14, 15, 16, 17, 18, 19, 20, 21, 22, 23, 24, 25, 26, 27, 28, 29, 30, 31, 32, 50, 51, 52, 53, 54, 55, 56, 57, 58, 59, 60, 61] (by decide +kernel) (by decide +kernel)
set_option maxRecDepth 20000 in
theorem gX4_scene_X4_sceneAt : GoodIn wsX4_scene (wsV RX4 54 RX4 yX4_sceneAt wsX4_sceneAt) := goodIn_app (goodIn_of _ (by decide +kernel)) ggX4_scene_X4_sceneAt
set_option maxRecDepth 20000 in
theorem ggX4_scene_X2_answer : GoodIn wsX4_scene wsX2_answer := goodIn_r _ [37, 38, 39, 40, 41, 42, 43, 44, 45, 46, 47, 48, 49, 62, 63, 64, 65, 66, 67] (by decide +kernel) (by decide +kernel)
set_option maxRecDepth 20000 in
theorem gX4_scene_X2_answer : GoodIn wsX4_scene (wsV RX4 182 RX2 yX2_answer wsX2_answer) := goodIn_app (goodIn_of _ (by decide +kernel)) ggX4_scene_X2_answer
theorem dX4_scene_0 : decode cX4_scene 0 = .ok (.aload_n 0, 1) := by decide +kernel
theorem dX4_scene_1 : decode cX4_scene 1 = .ok (.iload_n 1, 1) := by decide +kernel
theorem dX4_scene_2 : decode cX4_scene 2 = .ok (.invokevirtual 54, 3) := by decide +kernel
theorem dX4_scene_5 : decode cX4_scene 5 = .ok (.astore_n 3, 1) := by decide +kernel
theorem dX4_scene_6 : decode cX4_scene 6 = .ok (.aload_n 3, 1) := by decide +kernel
theorem dX4_scene_7 : decode cX4_scene 7 = .ok (.ifnull 12, 3) := by decide +kernel
theorem dX4_scene_10 : decode cX4_scene 10 = .ok (.iload_n 2, 1) := by decide +kernel
theorem dX4_scene_11 : decode cX4_scene 11 = .ok (.ifCond .lt 8, 3) := by decide +kernel
theorem dX4_scene_14 : decode cX4_scene 14 = .ok (.iload_n 2, 1) := by decide +kernel
theorem dX4_scene_15 : decode cX4_scene 15 = .ok (.iconst 4, 1) := by decide +kernel
theorem dX4_scene_16 : decode cX4_scene 16 = .ok (.if_icmp .le 13, 3) := by decide +kernel
theorem dX4_scene_19 : decode cX4_scene 19 = .ok (.new 58, 3) := by decide +kernel
theorem dX4_scene_22 : decode cX4_scene 22 = .ok (.dup, 1) := by decide +kernel
theorem dX4_scene_23 : decode cX4_scene 23 = .ok (.ldc 180, 2) := by decide +kernel
theorem dX4_scene_25 : decode cX4_scene 25 = .ok (.invokespecial 62, 3) := by decide +kernel
theorem dX4_scene_28 : decode cX4_scene 28 = .ok (.athrow, 1) := by decide +kernel
theorem dX4_scene_29 : decode cX4_scene 29 = .ok (.aload_n 3, 1) := by decide +kernel
theorem dX4_scene_30 : decode cX4_scene 30 = .ok (.iload_n 2, 1) := by decide +kernel
theorem dX4_scene_31 : decode cX4_scene 31 = .ok (.invokevirtual 182, 3) := by decide +kernel
theorem dX4_scene_34 : decode cX4_scene 34 = .ok (.ireturn, 1) := by decide +kernel
set_option maxRecDepth 20000 in
theorem ggX4_guard_X4_guardAt : GoodIn wsX4_guard wsX4_guardAt := goodIn_r _ [7, 8, 9, 10, 11, 12, 13, 14, 15, 16, 17, 18, 19, 20, 21, 22, 23, 24, 25, 26, 27, 28, 29, 30, 31, 32, 41, 42, 43, 44, 45, 46, 47, 48, 49, 50, 51, 52] (by decide +kernel) (by decide +kernel)
set_option maxRecDepth 20000 in
theorem gX4_guard_X4_guardAt : GoodIn wsX4_guard (wsV RX4 186 RX4 yX4_guardAt wsX4_guardAt) := goodIn_app (goodIn_of _ (by decide +kernel)) ggX4_guard_X4_guardAt
set_option maxRecDepth 20000 in
theorem ggX4_guard_X0_answer : GoodIn wsX4_guard wsX0_answer := goodIn_r _ [37, 38, 39, 40, 53, 54, 55, 56] (by decide +kernel) (by decide +kernel)
set_option maxRecDepth 20000 in
theorem gX4_guard_X0_answer : GoodIn wsX4_guard (wsV RX4 192 RX0 yX0_answer wsX0_answer) := goodIn_app (goodIn_of _ (by decide +kernel)) ggX4_guard_X0_answer
theorem dX4_guard_0 : decode cX4_guard 0 = .ok (.aload_n 0, 1) := by decide +kernel
theorem dX4_guard_1 : decode cX4_guard 1 = .ok (.iload_n 1, 1) := by decide +kernel
theorem dX4_guard_2 : decode cX4_guard 2 = .ok (.invokevirtual 186, 3) := by decide +kernel
theorem dX4_guard_5 : decode cX4_guard 5 = .ok (.astore_n 3, 1) := by decide +kernel
theorem dX4_guard_6 : decode cX4_guard 6 = .ok (.aload_n 3, 1) := by decide +kernel
theorem dX4_guard_7 : decode cX4_guard 7 = .ok (.ifnull 12, 3) := by decide +kernel
theorem dX4_guard_10 : decode cX4_guard 10 = .ok (.iload_n 2, 1) := by decide +kernel
theorem dX4_guard_11 : decode cX4_guard 11 = .ok (.ifCond .lt 8, 3) := by decide +kernel
theorem dX4_guard_14 : decode cX4_guard 14 = .ok (.iload_n 2, 1) := by decide +kernel
theorem dX4_guard_15 : decode cX4_guard 15 = .ok (.iconst 2, 1) := by decide +kernel
theorem dX4_guard_16 : decode cX4_guard 16 = .ok (.if_icmp .le 13, 3) := by decide +kernel
theorem dX4_guard_19 : decode cX4_guard 19 = .ok (.new 58, 3) := by decide +kernel
theorem dX4_guard_22 : decode cX4_guard 22 = .ok (.dup, 1) := by decide +kernel
theorem dX4_guard_23 : decode cX4_guard 23 = .ok (.ldc 190, 2) := by decide +kernel
theorem dX4_guard_25 : decode cX4_guard 25 = .ok (.invokespecial 62, 3) := by decide +kernel
theorem dX4_guard_28 : decode cX4_guard 28 = .ok (.athrow, 1) := by decide +kernel
theorem dX4_guard_29 : decode cX4_guard 29 = .ok (.aload_n 3, 1) := by decide +kernel
theorem dX4_guard_30 : decode cX4_guard 30 = .ok (.iload_n 2, 1) := by decide +kernel
theorem dX4_guard_31 : decode cX4_guard 31 = .ok (.invokevirtual 192, 3) := by decide +kernel
theorem dX4_guard_34 : decode cX4_guard 34 = .ok (.ireturn, 1) := by decide +kernel
set_option maxRecDepth 20000 in
theorem ggX4_traveller_X4_travellerAt : GoodIn wsX4_traveller wsX4_travellerAt := goodIn_r _ [7, 8, 9, 10, 11, 12, 13, 14, 15, 16, 17, 18, 19, 20, 21, 22, 23, 24, 25, 26, 27, 28, 29, 30, 31, 32, 49, 50, 51, 52, 53, 54, 55, 56, 57, 58, 59, 60] (by decide +kernel) (by decide +kernel)
set_option maxRecDepth 20000 in
theorem gX4_traveller_X4_travellerAt : GoodIn wsX4_traveller (wsV RX4 100 RX4 yX4_travellerAt wsX4_travellerAt) := goodIn_app (goodIn_of _ (by decide +kernel)) ggX4_traveller_X4_travellerAt
set_option maxRecDepth 20000 in
theorem ggX4_traveller_X4_answerOfTraveller : GoodIn wsX4_traveller wsX4_answerOfTraveller := goodIn_r _ [36, 37, 38, 39, 40, 41, 42, 43, 44, 6, 45, 46, 47, 48, 10, 11, 12, 13, 14, 15, 16, 17, 18, 19, 20, 21, 22, 23, 24, 25, 26, 27, 28, 29, 30, 31, 32, 61, 62, 63, 64, 65, 49, 50, 51, 52, 53, 54, 55, 56, 57, 66, 67, 68, 69, 70, 71, 58, 59, 60] (by decide +kernel) (by decide +kernel)
set_option maxRecDepth 20000 in
theorem gX4_traveller_X4_answerOfTraveller : GoodIn wsX4_traveller (wsV RX4 195 RX4 yX4_answerOfTraveller wsX4_answerOfTraveller) := goodIn_app (goodIn_of _ (by decide +kernel)) ggX4_traveller_X4_answerOfTraveller
theorem dX4_traveller_0 : decode cX4_traveller 0 = .ok (.aload_n 0, 1) := by decide +kernel
theorem dX4_traveller_1 : decode cX4_traveller 1 = .ok (.iload_n 1, 1) := by decide +kernel
theorem dX4_traveller_2 : decode cX4_traveller 2 = .ok (.invokevirtual 100, 3) := by decide +kernel
theorem dX4_traveller_5 : decode cX4_traveller 5 = .ok (.astore_n 3, 1) := by decide +kernel
theorem dX4_traveller_6 : decode cX4_traveller 6 = .ok (.aload_n 3, 1) := by decide +kernel
theorem dX4_traveller_7 : decode cX4_traveller 7 = .ok (.ifnull 12, 3) := by decide +kernel
theorem dX4_traveller_10 : decode cX4_traveller 10 = .ok (.iload_n 2, 1) := by decide +kernel
theorem dX4_traveller_11 : decode cX4_traveller 11 = .ok (.ifCond .lt 8, 3) := by decide +kernel
theorem dX4_traveller_14 : decode cX4_traveller 14 = .ok (.iload_n 2, 1) := by decide +kernel
theorem dX4_traveller_15 : decode cX4_traveller 15 = .ok (.iconst 4, 1) := by decide +kernel
theorem dX4_traveller_16 : decode cX4_traveller 16 = .ok (.if_icmp .le 13, 3) := by decide +kernel
theorem dX4_traveller_19 : decode cX4_traveller 19 = .ok (.new 58, 3) := by decide +kernel
theorem dX4_traveller_22 : decode cX4_traveller 22 = .ok (.dup, 1) := by decide +kernel
theorem dX4_traveller_23 : decode cX4_traveller 23 = .ok (.ldc 193, 2) := by decide +kernel
theorem dX4_traveller_25 : decode cX4_traveller 25 = .ok (.invokespecial 62, 3) := by decide +kernel
theorem dX4_traveller_28 : decode cX4_traveller 28 = .ok (.athrow, 1) := by decide +kernel
theorem dX4_traveller_29 : decode cX4_traveller 29 = .ok (.aload_n 0, 1) := by decide +kernel
theorem dX4_traveller_30 : decode cX4_traveller 30 = .ok (.aload_n 3, 1) := by decide +kernel
theorem dX4_traveller_31 : decode cX4_traveller 31 = .ok (.iload_n 2, 1) := by decide +kernel
theorem dX4_traveller_32 : decode cX4_traveller 32 = .ok (.invokevirtual 195, 3) := by decide +kernel
theorem dX4_traveller_35 : decode cX4_traveller 35 = .ok (.ireturn, 1) := by decide +kernel
set_option maxRecDepth 20000 in
theorem ggX4_plot_X4_plotAt : GoodIn wsX4_plot wsX4_plotAt := goodIn_r _ [7, 8, 9, 10, 11, 12, 13, 14, 15, 16, 17, 18, 19, 20, 21, 22, 23, 24, 25, 26, 27, 28, 29, 30, 31, 32, 47, 48, 49, 50, 51, 52, 53, 54, 55, 56, 57, 58] (by decide +kernel) (by decide +kernel)
set_option maxRecDepth 20000 in
theorem gX4_plot_X4_plotAt : GoodIn wsX4_plot (wsV RX4 106 RX4 yX4_plotAt wsX4_plotAt) := goodIn_app (goodIn_of _ (by decide +kernel)) ggX4_plot_X4_plotAt
set_option maxRecDepth 20000 in
theorem ggX4_plot_X1_answer : GoodIn wsX4_plot wsX1_answer := goodIn_r _ [37, 38, 39, 40, 41, 42, 43, 36, 44, 45, 46, 59, 60, 61, 62, 63, 64, 65, 66, 67, 68, 69, 70] (by decide +kernel) (by decide +kernel)
set_option maxRecDepth 20000 in
theorem gX4_plot_X1_answer : GoodIn wsX4_plot (wsV RX4 201 RX1 yX1_answer wsX1_answer) := goodIn_app (goodIn_of _ (by decide +kernel)) ggX4_plot_X1_answer
theorem dX4_plot_0 : decode cX4_plot 0 = .ok (.aload_n 0, 1) := by decide +kernel
theorem dX4_plot_1 : decode cX4_plot 1 = .ok (.iload_n 1, 1) := by decide +kernel
theorem dX4_plot_2 : decode cX4_plot 2 = .ok (.invokevirtual 106, 3) := by decide +kernel
theorem dX4_plot_5 : decode cX4_plot 5 = .ok (.astore_n 3, 1) := by decide +kernel
theorem dX4_plot_6 : decode cX4_plot 6 = .ok (.aload_n 3, 1) := by decide +kernel
theorem dX4_plot_7 : decode cX4_plot 7 = .ok (.ifnull 12, 3) := by decide +kernel
theorem dX4_plot_10 : decode cX4_plot 10 = .ok (.iload_n 2, 1) := by decide +kernel
theorem dX4_plot_11 : decode cX4_plot 11 = .ok (.ifCond .lt 8, 3) := by decide +kernel
theorem dX4_plot_14 : decode cX4_plot 14 = .ok (.iload_n 2, 1) := by decide +kernel
theorem dX4_plot_15 : decode cX4_plot 15 = .ok (.iconst 3, 1) := by decide +kernel
theorem dX4_plot_16 : decode cX4_plot 16 = .ok (.if_icmp .le 13, 3) := by decide +kernel
theorem dX4_plot_19 : decode cX4_plot 19 = .ok (.new 58, 3) := by decide +kernel
theorem dX4_plot_22 : decode cX4_plot 22 = .ok (.dup, 1) := by decide +kernel
theorem dX4_plot_23 : decode cX4_plot 23 = .ok (.ldc 199, 2) := by decide +kernel
theorem dX4_plot_25 : decode cX4_plot 25 = .ok (.invokespecial 62, 3) := by decide +kernel
theorem dX4_plot_28 : decode cX4_plot 28 = .ok (.athrow, 1) := by decide +kernel
theorem dX4_plot_29 : decode cX4_plot 29 = .ok (.aload_n 3, 1) := by decide +kernel
theorem dX4_plot_30 : decode cX4_plot 30 = .ok (.iload_n 2, 1) := by decide +kernel
theorem dX4_plot_31 : decode cX4_plot 31 = .ok (.invokevirtual 201, 3) := by decide +kernel
theorem dX4_plot_34 : decode cX4_plot 34 = .ok (.ireturn, 1) := by decide +kernel
set_option maxRecDepth 20000 in
theorem ggX4_told_X4_plotAt : GoodIn wsX4_told wsX4_plotAt := goodIn_r _ [8, 9, 10, 11, 12, 13, 14, 15, 16, 17, 18, 19, 20, 21, 22, 23, 24, 25, 26, 27, 28, 29, 30, 31, 32, 33, 46, 47, 48, 49, 50, 51, 52, 53, 54, 55, 56, 57] (by decide +kernel) (by decide +kernel)
set_option maxRecDepth 20000 in
theorem gX4_told_X4_plotAt : GoodIn wsX4_told (wsV RX4 106 RX4 yX4_plotAt wsX4_plotAt) := goodIn_app (goodIn_of _ (by decide +kernel)) ggX4_told_X4_plotAt
set_option maxRecDepth 20000 in
theorem ggX4_told_X1_numberAt : GoodIn wsX4_told wsX1_numberAt := goodIn_r _ [38, 39, 40, 41, 42, 43, 44, 45] (by decide +kernel) (by decide +kernel)
set_option maxRecDepth 20000 in
theorem gX4_told_X1_numberAt : GoodIn wsX4_told (wsV RX4 207 RX1 yX1_numberAt wsX1_numberAt) := goodIn_app (goodIn_of _ (by decide +kernel)) ggX4_told_X1_numberAt
theorem dX4_told_0 : decode cX4_told 0 = .ok (.aload_n 0, 1) := by decide +kernel
theorem dX4_told_1 : decode cX4_told 1 = .ok (.iload_n 1, 1) := by decide +kernel
theorem dX4_told_2 : decode cX4_told 2 = .ok (.invokevirtual 106, 3) := by decide +kernel
theorem dX4_told_5 : decode cX4_told 5 = .ok (.astore_n 3, 1) := by decide +kernel
theorem dX4_told_6 : decode cX4_told 6 = .ok (.aload_n 3, 1) := by decide +kernel
theorem dX4_told_7 : decode cX4_told 7 = .ok (.ifnull 15, 3) := by decide +kernel
theorem dX4_told_10 : decode cX4_told 10 = .ok (.iload_n 2, 1) := by decide +kernel
theorem dX4_told_11 : decode cX4_told 11 = .ok (.ifCond .lt 11, 3) := by decide +kernel
theorem dX4_told_14 : decode cX4_told 14 = .ok (.iload_n 2, 1) := by decide +kernel
theorem dX4_told_15 : decode cX4_told 15 = .ok (.aload_n 3, 1) := by decide +kernel
theorem dX4_told_16 : decode cX4_told 16 = .ok (.getfield 202, 3) := by decide +kernel
theorem dX4_told_19 : decode cX4_told 19 = .ok (.if_icmp .lt 13, 3) := by decide +kernel
theorem dX4_told_22 : decode cX4_told 22 = .ok (.new 58, 3) := by decide +kernel
theorem dX4_told_25 : decode cX4_told 25 = .ok (.dup, 1) := by decide +kernel
theorem dX4_told_26 : decode cX4_told 26 = .ok (.ldc 205, 2) := by decide +kernel
theorem dX4_told_28 : decode cX4_told 28 = .ok (.invokespecial 62, 3) := by decide +kernel
theorem dX4_told_31 : decode cX4_told 31 = .ok (.athrow, 1) := by decide +kernel
theorem dX4_told_32 : decode cX4_told 32 = .ok (.aload_n 3, 1) := by decide +kernel
theorem dX4_told_33 : decode cX4_told 33 = .ok (.iload_n 2, 1) := by decide +kernel
theorem dX4_told_34 : decode cX4_told 34 = .ok (.invokevirtual 207, 3) := by decide +kernel
theorem dX4_told_37 : decode cX4_told 37 = .ok (.ireturn, 1) := by decide +kernel
set_option maxRecDepth 20000 in
theorem ggX4_count_X4_answerOfGate : GoodIn wsX4_count wsX4_answerOfGate := goodIn_r _ [7, 8, 9, 10, 11, 12, 13, 14, 15, 16, 17, 18, 19, 20, 21, 22, 23, 6, 24, 25, 26, 27, 28, 29, 30, 31, 32, 33, 34, 35, 36, 37, 38, 39, 40, 41, 42, 43, 44, 45, 46, 47, 48, 49, 50, 51, 52, 53, 54, 55, 56, 57, 58, 59, 60, 61, 62, 63, 64, 65, 66, 67, 68, 69, 70, 71, 72, 73, 74, 75, 76, 77, 78, 79, 80, 81, 82, 83, 84, 85, 86, 87, 88, 89, 90, 91, 92, 93, 94] (by decide +kernel) (by decide +kernel)
set_option maxRecDepth 20000 in
theorem gX4_count_X4_answerOfGate : GoodIn wsX4_count (wsV RX4 212 RX4 yX4_answerOfGate wsX4_answerOfGate) := goodIn_app (goodIn_of _ (by decide +kernel)) ggX4_count_X4_answerOfGate
theorem dX4_count_0 : decode cX4_count 0 = .ok (.iload_n 1, 1) := by decide +kernel
theorem dX4_count_1 : decode cX4_count 1 = .ok (.ifCond .lt 9, 3) := by decide +kernel
theorem dX4_count_4 : decode cX4_count 4 = .ok (.iload_n 1, 1) := by decide +kernel
theorem dX4_count_5 : decode cX4_count 5 = .ok (.bipush 10, 2) := by decide +kernel
theorem dX4_count_7 : decode cX4_count 7 = .ok (.if_icmp .le 13, 3) := by decide +kernel
theorem dX4_count_10 : decode cX4_count 10 = .ok (.new 58, 3) := by decide +kernel
theorem dX4_count_13 : decode cX4_count 13 = .ok (.dup, 1) := by decide +kernel
theorem dX4_count_14 : decode cX4_count 14 = .ok (.ldc 210, 2) := by decide +kernel
theorem dX4_count_16 : decode cX4_count 16 = .ok (.invokespecial 62, 3) := by decide +kernel
theorem dX4_count_19 : decode cX4_count 19 = .ok (.athrow, 1) := by decide +kernel
theorem dX4_count_20 : decode cX4_count 20 = .ok (.aload_n 0, 1) := by decide +kernel
theorem dX4_count_21 : decode cX4_count 21 = .ok (.iload_n 1, 1) := by decide +kernel
theorem dX4_count_22 : decode cX4_count 22 = .ok (.invokevirtual 212, 3) := by decide +kernel
theorem dX4_count_25 : decode cX4_count 25 = .ok (.ireturn, 1) := by decide +kernel
set_option maxRecDepth 20000 in
theorem ggX4_worth_X4_guardAt : GoodIn wsX4_worth wsX4_guardAt := goodIn_r _ [8, 9, 10, 11, 12, 13, 14, 15, 16, 17, 18, 19, 20, 21, 22, 23, 24, 25, 26, 27, 28, 29, 30, 31, 32, 33, 53, 54, 55, 56, 57, 58, 59, 60, 61, 62, 63, 64] (by decide +kernel) (by decide +kernel)
set_option maxRecDepth 20000 in
theorem gX4_worth_X4_guardAt : GoodIn wsX4_worth (wsV RX4 186 RX4 yX4_guardAt wsX4_guardAt) := goodIn_app (goodIn_of _ (by decide +kernel)) ggX4_worth_X4_guardAt
set_option maxRecDepth 20000 in
theorem ggX4_worth_X4_sceneAt : GoodIn wsX4_worth wsX4_sceneAt := goodIn_r _ [37, 38, 39, 11, 12, 13, 14, 15, 16, 17, 18, 19, 20, 21, 22, 23, 24, 25, 26, 27, 28, 29, 30, 31, 32, 33, 53, 54, 55, 56, 57, 58, 59, 60, 61, 62, 63, 64] (by decide +kernel) (by decide +kernel)
set_option maxRecDepth 20000 in
theorem gX4_worth_X4_sceneAt : GoodIn wsX4_worth (wsV RX4 54 RX4 yX4_sceneAt wsX4_sceneAt) := goodIn_app (goodIn_of _ (by decide +kernel)) ggX4_worth_X4_sceneAt
set_option maxRecDepth 20000 in
theorem ggX4_worth_X0_worthOf : GoodIn wsX4_worth wsX0_worthOf := goodIn_r _ [44, 45, 46, 47, 48, 49, 50, 43, 51, 52, 65, 66, 67, 68, 69, 70, 71, 72, 73, 74] (by decide +kernel) (by decide +kernel)
set_option maxRecDepth 20000 in
theorem gX4_worth_X0_worthOf : GoodIn wsX4_worth (wsV RX4 217 RX0 yX0_worthOf wsX0_worthOf) := goodIn_app (goodIn_of _ (by decide +kernel)) ggX4_worth_X0_worthOf
theorem dX4_worth_0 : decode cX4_worth 0 = .ok (.aload_n 0, 1) := by decide +kernel
theorem dX4_worth_1 : decode cX4_worth 1 = .ok (.iload_n 1, 1) := by decide +kernel
theorem dX4_worth_2 : decode cX4_worth 2 = .ok (.invokevirtual 186, 3) := by decide +kernel
theorem dX4_worth_5 : decode cX4_worth 5 = .ok (.astore_n 3, 1) := by decide +kernel
theorem dX4_worth_6 : decode cX4_worth 6 = .ok (.aload_n 0, 1) := by decide +kernel
theorem dX4_worth_7 : decode cX4_worth 7 = .ok (.iload_n 2, 1) := by decide +kernel
theorem dX4_worth_8 : decode cX4_worth 8 = .ok (.invokevirtual 54, 3) := by decide +kernel
theorem dX4_worth_11 : decode cX4_worth 11 = .ok (.astore 4, 2) := by decide +kernel
theorem dX4_worth_13 : decode cX4_worth 13 = .ok (.aload_n 3, 1) := by decide +kernel
theorem dX4_worth_14 : decode cX4_worth 14 = .ok (.ifnull 8, 3) := by decide +kernel
theorem dX4_worth_17 : decode cX4_worth 17 = .ok (.aload 4, 2) := by decide +kernel
theorem dX4_worth_19 : decode cX4_worth 19 = .ok (.ifnonnull 13, 3) := by decide +kernel
theorem dX4_worth_22 : decode cX4_worth 22 = .ok (.new 58, 3) := by decide +kernel
theorem dX4_worth_25 : decode cX4_worth 25 = .ok (.dup, 1) := by decide +kernel
theorem dX4_worth_26 : decode cX4_worth 26 = .ok (.ldc 215, 2) := by decide +kernel
theorem dX4_worth_28 : decode cX4_worth 28 = .ok (.invokespecial 62, 3) := by decide +kernel
theorem dX4_worth_31 : decode cX4_worth 31 = .ok (.athrow, 1) := by decide +kernel
theorem dX4_worth_32 : decode cX4_worth 32 = .ok (.aload_n 3, 1) := by decide +kernel
theorem dX4_worth_33 : decode cX4_worth 33 = .ok (.aload 4, 2) := by decide +kernel
theorem dX4_worth_35 : decode cX4_worth 35 = .ok (.aload_n 0, 1) := by decide +kernel
theorem dX4_worth_36 : decode cX4_worth 36 = .ok (.getfield 25, 3) := by decide +kernel
theorem dX4_worth_39 : decode cX4_worth 39 = .ok (.invokevirtual 217, 3) := by decide +kernel
theorem dX4_worth_42 : decode cX4_worth 42 = .ok (.ireturn, 1) := by decide +kernel
set_option maxRecDepth 20000 in
theorem ggX4_best_X4_travellerAt : GoodIn wsX4_best wsX4_travellerAt := goodIn_r _ [9, 10, 11, 12, 13, 14, 15, 16, 17, 18, 19, 20, 21, 22, 23, 24, 25, 26, 27, 28, 29, 30, 31, 32, 33, 34, 105, 106, 107, 108, 109, 110, 111, 112, 113, 114, 115, 116] (by decide +kernel) (by decide +kernel)
set_option maxRecDepth 20000 in
theorem gX4_best_X4_travellerAt : GoodIn wsX4_best (wsV RX4 100 RX4 yX4_travellerAt wsX4_travellerAt) := goodIn_app (goodIn_of _ (by decide +kernel)) ggX4_best_X4_travellerAt
set_option maxRecDepth 20000 in
theorem ggX4_best_X4_plotAt : GoodIn wsX4_best wsX4_plotAt := goodIn_r _ [38, 39, 40, 12, 13, 14, 15, 16, 17, 18, 19, 20, 21, 22, 23, 24, 25, 26, 27, 28, 29, 30, 31, 32, 33, 34, 105, 106, 107, 108, 109, 110, 111, 112, 113, 114, 115, 116] (by decide +kernel) (by decide +kernel)
set_option maxRecDepth 20000 in
theorem gX4_best_X4_plotAt : GoodIn wsX4_best (wsV RX4 106 RX4 yX4_plotAt wsX4_plotAt) := goodIn_app (goodIn_of _ (by decide +kernel)) ggX4_best_X4_plotAt
set_option maxRecDepth 20000 in
theorem ggX4_best_Jx4a65c_size_8abf5 : GoodIn wsX4_best wsJx4a65c_size_8abf5 := goodIn_r _ [16, 17, 114, 115, 116] (by decide +kernel) (by decide +kernel)
set_option maxRecDepth 20000 in
theorem gX4_best_Jx4a65c_size_8abf5 : GoodIn wsX4_best (wsV RX4 36 RJx4a65c yJx4a65c_size_8abf5 wsJx4a65c_size_8abf5) := goodIn_app (goodIn_of _ (by decide +kernel)) ggX4_best_Jx4a65c_size_8abf5
set_option maxRecDepth 20000 in
theorem ggX4_best_Jx4a65c_get_915e3 : GoodIn wsX4_best wsJx4a65c_get_915e3 := goodIn_r _ [21, 17, 22, 23, 24, 25, 26, 27, 28, 29, 30, 31, 32, 15, 33, 34, 114, 115, 116] (by decide +kernel) (by decide +kernel)
set_option maxRecDepth 20000 in
theorem gX4_best_Jx4a65c_get_915e3 : GoodIn wsX4_best (wsV RX4 168 RJx4a65c yJx4a65c_get_915e3 wsJx4a65c_get_915e3) := goodIn_app (goodIn_of _ (by decide +kernel)) ggX4_best_Jx4a65c_get_915e3
set_option maxRecDepth 20000 in
theorem ggX4_best_X4_canTell : GoodIn wsX4_best wsX4_canTell := goodIn_r _ [44, 45, 46, 39, 47, 48, 49, 50, 51, 52, 53, 54, 55, 56, 57, 58, 59, 12, 13, 14, 15, 16, 17, 60, 61, 62, 63, 64, 65, 66, 67, 68, 69, 70, 71, 72, 73, 74, 75, 76, 77, 78, 79, 117, 118, 119, 120, 121, 122, 123, 124, 125, 126, 127, 105, 106, 107, 108, 109, 110, 111, 112, 113, 114, 115, 116, 128, 129, 130, 131, 132, 133] (by decide +kernel) (by decide +kernel)
set_option maxRecDepth 20000 in
theorem gX4_best_X4_canTell : GoodIn wsX4_best (wsV RX4 112 RX4 yX4_canTell wsX4_canTell) := goodIn_app (goodIn_of _ (by decide +kernel)) ggX4_best_X4_canTell
set_option maxRecDepth 20000 in
theorem ggX4_best_X4_tollOf : GoodIn wsX4_best wsX4_tollOf := goodIn_r _ [83, 84, 85, 86, 87, 88, 89, 90, 91, 12, 13, 14, 15, 16, 17, 18, 19, 20, 21, 22, 23, 24, 25, 26, 27, 28, 29, 30, 31, 32, 33, 34, 92, 93, 94, 95, 96, 97, 98, 99, 100, 101, 102, 103, 104, 105, 106, 107, 108, 109, 110, 111, 112, 113, 134, 135, 136, 137, 114, 115, 116, 122, 123, 124, 125, 126, 127] (by decide +kernel) (by decide +kernel)
set_option maxRecDepth 20000 in
theorem gX4_best_X4_tollOf : GoodIn wsX4_best (wsV RX4 126 RX4 yX4_tollOf wsX4_tollOf) := goodIn_app (goodIn_of _ (by decide +kernel)) ggX4_best_X4_tollOf
theorem dX4_best_0 : decode cX4_best 0 = .ok (.aload_n 0, 1) := by decide +kernel
theorem dX4_best_1 : decode cX4_best 1 = .ok (.iload_n 1, 1) := by decide +kernel
theorem dX4_best_2 : decode cX4_best 2 = .ok (.invokevirtual 100, 3) := by decide +kernel
theorem dX4_best_5 : decode cX4_best 5 = .ok (.astore_n 3, 1) := by decide +kernel
theorem dX4_best_6 : decode cX4_best 6 = .ok (.aload_n 0, 1) := by decide +kernel
theorem dX4_best_7 : decode cX4_best 7 = .ok (.iload_n 2, 1) := by decide +kernel
theorem dX4_best_8 : decode cX4_best 8 = .ok (.invokevirtual 106, 3) := by decide +kernel
theorem dX4_best_11 : decode cX4_best 11 = .ok (.astore 4, 2) := by decide +kernel
theorem dX4_best_13 : decode cX4_best 13 = .ok (.aload_n 3, 1) := by decide +kernel
theorem dX4_best_14 : decode cX4_best 14 = .ok (.ifnull 8, 3) := by decide +kernel
theorem dX4_best_17 : decode cX4_best 17 = .ok (.aload 4, 2) := by decide +kernel
theorem dX4_best_19 : decode cX4_best 19 = .ok (.ifnonnull 13, 3) := by decide +kernel
theorem dX4_best_22 : decode cX4_best 22 = .ok (.new 58, 3) := by decide +kernel
theorem dX4_best_25 : decode cX4_best 25 = .ok (.dup, 1) := by decide +kernel
theorem dX4_best_26 : decode cX4_best 26 = .ok (.ldc 146, 2) := by decide +kernel
theorem dX4_best_28 : decode cX4_best 28 = .ok (.invokespecial 62, 3) := by decide +kernel
theorem dX4_best_31 : decode cX4_best 31 = .ok (.athrow, 1) := by decide +kernel
theorem dX4_best_32 : decode cX4_best 32 = .ok (.iconst (-1), 1) := by decide +kernel
theorem dX4_best_33 : decode cX4_best 33 = .ok (.istore 5, 2) := by decide +kernel
theorem dX4_best_35 : decode cX4_best 35 = .ok (.iconst (-1), 1) := by decide +kernel
theorem dX4_best_36 : decode cX4_best 36 = .ok (.istore 6, 2) := by decide +kernel
theorem dX4_best_38 : decode cX4_best 38 = .ok (.iconst 0, 1) := by decide +kernel
theorem dX4_best_39 : decode cX4_best 39 = .ok (.istore 7, 2) := by decide +kernel
theorem dX4_best_41 : decode cX4_best 41 = .ok (.iload 7, 2) := by decide +kernel
theorem dX4_best_43 : decode cX4_best 43 = .ok (.aload_n 0, 1) := by decide +kernel
theorem dX4_best_44 : decode cX4_best 44 = .ok (.getfield 10, 3) := by decide +kernel
theorem dX4_best_47 : decode cX4_best 47 = .ok (.invokevirtual 36, 3) := by decide +kernel
theorem dX4_best_50 : decode cX4_best 50 = .ok (.if_icmp .ge 58, 3) := by decide +kernel
theorem dX4_best_53 : decode cX4_best 53 = .ok (.aload_n 0, 1) := by decide +kernel
theorem dX4_best_54 : decode cX4_best 54 = .ok (.getfield 10, 3) := by decide +kernel
theorem dX4_best_57 : decode cX4_best 57 = .ok (.iload 7, 2) := by decide +kernel
theorem dX4_best_59 : decode cX4_best 59 = .ok (.invokevirtual 168, 3) := by decide +kernel
theorem dX4_best_62 : decode cX4_best 62 = .ok (.checkcast 45, 3) := by decide +kernel
theorem dX4_best_65 : decode cX4_best 65 = .ok (.astore 8, 2) := by decide +kernel
theorem dX4_best_67 : decode cX4_best 67 = .ok (.aload_n 0, 1) := by decide +kernel
theorem dX4_best_68 : decode cX4_best 68 = .ok (.aload_n 3, 1) := by decide +kernel
theorem dX4_best_69 : decode cX4_best 69 = .ok (.aload 8, 2) := by decide +kernel
theorem dX4_best_71 : decode cX4_best 71 = .ok (.aload 4, 2) := by decide +kernel
theorem dX4_best_73 : decode cX4_best 73 = .ok (.invokevirtual 112, 3) := by decide +kernel
theorem dX4_best_76 : decode cX4_best 76 = .ok (.ifCond .eq 26, 3) := by decide +kernel
theorem dX4_best_79 : decode cX4_best 79 = .ok (.aload_n 0, 1) := by decide +kernel
theorem dX4_best_80 : decode cX4_best 80 = .ok (.aload 8, 2) := by decide +kernel
theorem dX4_best_82 : decode cX4_best 82 = .ok (.invokevirtual 126, 3) := by decide +kernel
theorem dX4_best_85 : decode cX4_best 85 = .ok (.istore 9, 2) := by decide +kernel
theorem dX4_best_87 : decode cX4_best 87 = .ok (.iload 9, 2) := by decide +kernel
theorem dX4_best_89 : decode cX4_best 89 = .ok (.iload 6, 2) := by decide +kernel
theorem dX4_best_91 : decode cX4_best 91 = .ok (.if_icmp .le 11, 3) := by decide +kernel
theorem dX4_best_94 : decode cX4_best 94 = .ok (.iload 9, 2) := by decide +kernel
theorem dX4_best_96 : decode cX4_best 96 = .ok (.istore 6, 2) := by decide +kernel
theorem dX4_best_98 : decode cX4_best 98 = .ok (.iload 7, 2) := by decide +kernel
theorem dX4_best_100 : decode cX4_best 100 = .ok (.istore 5, 2) := by decide +kernel
theorem dX4_best_102 : decode cX4_best 102 = .ok (.iinc 7 1, 3) := by decide +kernel
theorem dX4_best_105 : decode cX4_best 105 = .ok (.goto (-64), 3) := by decide +kernel
theorem dX4_best_108 : decode cX4_best 108 = .ok (.iload 5, 2) := by decide +kernel
theorem dX4_best_110 : decode cX4_best 110 = .ok (.ireturn, 1) := by decide +kernel
set_option maxRecDepth 20000 in
theorem ggX4_most_X4_plotAt : GoodIn wsX4_most wsX4_plotAt := goodIn_r _ [11, 12, 13, 14, 15, 16, 17, 18, 19, 20, 21, 22, 23, 24, 25, 26, 27, 28, 29, 30, 31, 32, 33, 34, 35, 36, 61, 62, 63, 64, 65, 66, 67, 68, 69, 76, 77, 78] (by decide +kernel) (by decide +kernel)
set_option maxRecDepth 20000 in
theorem gX4_most_X4_plotAt : GoodIn wsX4_most (wsV RX4 106 RX4 yX4_plotAt wsX4_plotAt) := goodIn_app (goodIn_of _ (by decide +kernel)) ggX4_most_X4_plotAt
set_option maxRecDepth 20000 in
theorem ggX4_most_X1_isOpen : GoodIn wsX4_most wsX1_isOpen := goodIn_r _ [41, 42, 43, 70, 71, 72, 73, 74, 75, 79, 80, 81, 82, 83, 84] (by decide +kernel) (by decide +kernel)
set_option maxRecDepth 20000 in
theorem gX4_most_X1_isOpen : GoodIn wsX4_most (wsV RX4 151 RX1 yX1_isOpen wsX1_isOpen) := goodIn_app (goodIn_of _ (by decide +kernel)) ggX4_most_X1_isOpen
set_option maxRecDepth 20000 in
theorem ggX4_most_X4_mostWonderBehind : GoodIn wsX4_most wsX4_mostWonderBehind := goodIn_r _ [46, 47, 48, 49, 50, 51, 52, 53, 54, 14, 15, 16, 17, 18, 19, 20, 21, 22, 23, 24, 25, 26, 27, 28, 29, 30, 31, 32, 33, 34, 35, 36, 55, 56, 57, 58, 59, 60, 44, 45, 10, 79, 80, 81, 82, 83, 84, 76, 77, 78] (by decide +kernel) (by decide +kernel)
set_option maxRecDepth 20000 in
theorem gX4_most_X4_mostWonderBehind : GoodIn wsX4_most (va_wsS RX4 228 yX4_mostWonderBehind wsX4_mostWonderBehind) := goodIn_app (goodIn_of _ (by decide +kernel)) ggX4_most_X4_mostWonderBehind
theorem dX4_most_0 : decode cX4_most 0 = .ok (.aload_n 0, 1) := by decide +kernel
theorem dX4_most_1 : decode cX4_most 1 = .ok (.iload_n 1, 1) := by decide +kernel
theorem dX4_most_2 : decode cX4_most 2 = .ok (.invokevirtual 106, 3) := by decide +kernel
theorem dX4_most_5 : decode cX4_most 5 = .ok (.astore_n 2, 1) := by decide +kernel
theorem dX4_most_6 : decode cX4_most 6 = .ok (.aload_n 2, 1) := by decide +kernel
theorem dX4_most_7 : decode cX4_most 7 = .ok (.ifnonnull 13, 3) := by decide +kernel
theorem dX4_most_10 : decode cX4_most 10 = .ok (.new 58, 3) := by decide +kernel
theorem dX4_most_13 : decode cX4_most 13 = .ok (.dup, 1) := by decide +kernel
theorem dX4_most_14 : decode cX4_most 14 = .ok (.ldc 110, 2) := by decide +kernel
theorem dX4_most_16 : decode cX4_most 16 = .ok (.invokespecial 62, 3) := by decide +kernel
theorem dX4_most_19 : decode cX4_most 19 = .ok (.athrow, 1) := by decide +kernel
theorem dX4_most_20 : decode cX4_most 20 = .ok (.aload_n 2, 1) := by decide +kernel
theorem dX4_most_21 : decode cX4_most 21 = .ok (.invokevirtual 151, 3) := by decide +kernel
theorem dX4_most_24 : decode cX4_most 24 = .ok (.ifCond .ne 5, 3) := by decide +kernel
theorem dX4_most_27 : decode cX4_most 27 = .ok (.iconst 0, 1) := by decide +kernel
theorem dX4_most_28 : decode cX4_most 28 = .ok (.ireturn, 1) := by decide +kernel
theorem dX4_most_29 : decode cX4_most 29 = .ok (.aload_n 0, 1) := by decide +kernel
theorem dX4_most_30 : decode cX4_most 30 = .ok (.getfield 10, 3) := by decide +kernel
theorem dX4_most_33 : decode cX4_most 33 = .ok (.aload_n 2, 1) := by decide +kernel
theorem dX4_most_34 : decode cX4_most 34 = .ok (.getfield 221, 3) := by decide +kernel
theorem dX4_most_37 : decode cX4_most 37 = .ok (.aload_n 2, 1) := by decide +kernel
theorem dX4_most_38 : decode cX4_most 38 = .ok (.getfield 225, 3) := by decide +kernel
theorem dX4_most_41 : decode cX4_most 41 = .ok (.bipush 8, 2) := by decide +kernel
theorem dX4_most_43 : decode cX4_most 43 = .ok (.aload_n 2, 1) := by decide +kernel
theorem dX4_most_44 : decode cX4_most 44 = .ok (.getfield 202, 3) := by decide +kernel
theorem dX4_most_47 : decode cX4_most 47 = .ok (.isub, 1) := by decide +kernel
theorem dX4_most_48 : decode cX4_most 48 = .ok (.invokestatic 228, 3) := by decide +kernel
theorem dX4_most_51 : decode cX4_most 51 = .ok (.ireturn, 1) := by decide +kernel
set_option maxRecDepth 20000 in
theorem ggX4_sleeps_X4_guardAt : GoodIn wsX4_sleeps wsX4_guardAt := goodIn_r _ [7, 8, 9, 10, 11, 12, 13, 14, 15, 16, 17, 18, 19, 20, 21, 22, 23, 24, 25, 26, 27, 28, 29, 30, 31, 32, 53, 54, 55, 56, 57, 58, 59, 60, 61, 62, 63, 64] (by decide +kernel) (by decide +kernel)
set_option maxRecDepth 20000 in
theorem gX4_sleeps_X4_guardAt : GoodIn wsX4_sleeps (wsV RX4 186 RX4 yX4_guardAt wsX4_guardAt) := goodIn_app (goodIn_of _ (by decide +kernel)) ggX4_sleeps_X4_guardAt
set_option maxRecDepth 20000 in
theorem ggX4_sleeps_X0_watchesTillOtherwise : GoodIn wsX4_sleeps wsX0_watchesTillOtherwise := goodIn_r _ [37, 38, 39, 40, 41, 36, 42, 43, 44, 45, 46, 47, 48, 49, 50, 51, 52, 65, 66, 67, 68] (by decide +kernel) (by decide +kernel)
set_option maxRecDepth 20000 in
theorem gX4_sleeps_X0_watchesTillOtherwise : GoodIn wsX4_sleeps (wsV RX4 234 RX0 yX0_watchesTillOtherwise wsX0_watchesTillOtherwise) := goodIn_app (goodIn_of _ (by decide +kernel)) ggX4_sleeps_X0_watchesTillOtherwise
theorem dX4_sleeps_0 : decode cX4_sleeps 0 = .ok (.aload_n 0, 1) := by decide +kernel
theorem dX4_sleeps_1 : decode cX4_sleeps 1 = .ok (.iload_n 1, 1) := by decide +kernel
theorem dX4_sleeps_2 : decode cX4_sleeps 2 = .ok (.invokevirtual 186, 3) := by decide +kernel
theorem dX4_sleeps_5 : decode cX4_sleeps 5 = .ok (.astore_n 2, 1) := by decide +kernel
theorem dX4_sleeps_6 : decode cX4_sleeps 6 = .ok (.aload_n 2, 1) := by decide +kernel
theorem dX4_sleeps_7 : decode cX4_sleeps 7 = .ok (.ifnonnull 13, 3) := by decide +kernel
theorem dX4_sleeps_10 : decode cX4_sleeps 10 = .ok (.new 58, 3) := by decide +kernel
theorem dX4_sleeps_13 : decode cX4_sleeps 13 = .ok (.dup, 1) := by decide +kernel
theorem dX4_sleeps_14 : decode cX4_sleeps 14 = .ok (.ldc 232, 2) := by decide +kernel
theorem dX4_sleeps_16 : decode cX4_sleeps 16 = .ok (.invokespecial 62, 3) := by decide +kernel
theorem dX4_sleeps_19 : decode cX4_sleeps 19 = .ok (.athrow, 1) := by decide +kernel
theorem dX4_sleeps_20 : decode cX4_sleeps 20 = .ok (.aload_n 2, 1) := by decide +kernel
theorem dX4_sleeps_21 : decode cX4_sleeps 21 = .ok (.invokevirtual 234, 3) := by decide +kernel
theorem dX4_sleeps_24 : decode cX4_sleeps 24 = .ok (.ireturn, 1) := by decide +kernel
theorem dX4_mean_0 : decode cX4_mean 0 = .ok (.aload_n 0, 1) := by decide +kernel
theorem dX4_mean_1 : decode cX4_mean 1 = .ok (.getfield 142, 3) := by decide +kernel
theorem dX4_mean_4 : decode cX4_mean 4 = .ok (.ifCond .ne 5, 3) := by decide +kernel
theorem dX4_mean_7 : decode cX4_mean 7 = .ok (.dconst 0, 1) := by decide +kernel
theorem dX4_mean_8 : decode cX4_mean 8 = .ok (.dreturn, 1) := by decide +kernel
theorem dX4_mean_9 : decode cX4_mean 9 = .ok (.aload_n 0, 1) := by decide +kernel
theorem dX4_mean_10 : decode cX4_mean 10 = .ok (.getfield 143, 3) := by decide +kernel
theorem dX4_mean_13 : decode cX4_mean 13 = .ok (.i2d, 1) := by decide +kernel
theorem dX4_mean_14 : decode cX4_mean 14 = .ok (.aload_n 0, 1) := by decide +kernel
theorem dX4_mean_15 : decode cX4_mean 15 = .ok (.getfield 142, 3) := by decide +kernel
theorem dX4_mean_18 : decode cX4_mean 18 = .ok (.i2d, 1) := by decide +kernel
theorem dX4_mean_19 : decode cX4_mean 19 = .ok (.ddiv, 1) := by decide +kernel
theorem dX4_mean_20 : decode cX4_mean 20 = .ok (.dreturn, 1) := by decide +kernel
set_option maxRecDepth 20000 in
theorem ggX4_digest_X4_answerOfGate : GoodIn wsX4_digest wsX4_answerOfGate := goodIn_r _ [15, 16, 3, 17, 5, 7, 9, 18, 19, 20, 21, 22, 23, 24, 25, 26, 27, 14, 28, 6, 29, 30, 31, 32, 33, 34, 35, 36, 37, 38, 39, 40, 41, 42, 43, 44, 45, 46, 47, 48, 49, 50, 8, 51, 52, 53, 54, 55, 10, 56, 57, 58, 59, 60, 61, 62, 119, 120, 121, 122, 123, 124, 125, 126, 127, 128, 129, 130, 131, 132, 133, 134, 135, 136, 137, 138, 139, 140, 141, 142, 143, 144, 145, 146, 147, 148, 149, 150, 151] (by decide +kernel) (by decide +kernel)
set_option maxRecDepth 20000 in
theorem gX4_digest_X4_answerOfGate : GoodIn wsX4_digest (wsV RX4 212 RX4 yX4_answerOfGate wsX4_answerOfGate) := goodIn_app (goodIn_of _ (by decide +kernel)) ggX4_digest_X4_answerOfGate
set_option maxRecDepth 20000 in
theorem ggX4_digest_Jx4a65c_size_8abf5 : GoodIn wsX4_digest wsJx4a65c_size_8abf5 := goodIn_r _ [23, 24, 128, 129, 130] (by decide +kernel) (by decide +kernel)
set_option maxRecDepth 20000 in
theorem gX4_digest_Jx4a65c_size_8abf5 : GoodIn wsX4_digest (wsV RX4 36 RJx4a65c yJx4a65c_size_8abf5 wsJx4a65c_size_8abf5) := goodIn_app (goodIn_of _ (by decide +kernel)) ggX4_digest_Jx4a65c_size_8abf5
set_option maxRecDepth 20000 in
theorem ggX4_digest_Jx4a65c_get_915e3 : GoodIn wsX4_digest wsJx4a65c_get_915e3 := goodIn_r _ [33, 24, 34, 35, 36, 37, 38, 39, 40, 41, 42, 43, 44, 22, 45, 46, 128, 129, 130] (by decide +kernel) (by decide +kernel)
set_option maxRecDepth 20000 in
theorem gX4_digest_Jx4a65c_get_915e3 : GoodIn wsX4_digest (wsV RX4 168 RJx4a65c yJx4a65c_get_915e3 wsJx4a65c_get_915e3) := goodIn_app (goodIn_of _ (by decide +kernel)) ggX4_digest_Jx4a65c_get_915e3
set_option maxRecDepth 20000 in
theorem ggX4_digest_X2_answer : GoodIn wsX4_digest wsX2_answer := goodIn_r _ [67, 68, 69, 70, 71, 72, 73, 74, 75, 76, 77, 78, 79, 146, 147, 148, 149, 150, 151] (by decide +kernel) (by decide +kernel)
set_option maxRecDepth 20000 in
theorem gX4_digest_X2_answer : GoodIn wsX4_digest (wsV RX4 182 RX2 yX2_answer wsX2_answer) := goodIn_app (goodIn_of _ (by decide +kernel)) ggX4_digest_X2_answer
set_option maxRecDepth 20000 in
theorem ggX4_digest_X0_answer : GoodIn wsX4_digest wsX0_answer := goodIn_r _ [84, 85, 86, 87, 131, 132, 133, 134] (by decide +kernel) (by decide +kernel)
set_option maxRecDepth 20000 in
theorem gX4_digest_X0_answer : GoodIn wsX4_digest (wsV RX4 192 RX0 yX0_answer wsX0_answer) := goodIn_app (goodIn_of _ (by decide +kernel)) ggX4_digest_X0_answer
set_option maxRecDepth 20000 in
theorem ggX4_digest_X4_answerOfTraveller : GoodIn wsX4_digest wsX4_answerOfTraveller := goodIn_r _ [91, 92, 93, 51, 94, 95, 96, 97, 98, 14, 99, 9, 10, 100, 19, 20, 21, 22, 23, 24, 30, 31, 32, 33, 34, 35, 36, 37, 38, 39, 40, 41, 42, 43, 44, 45, 46, 135, 136, 137, 138, 139, 119, 120, 121, 122, 123, 124, 125, 126, 127, 140, 141, 142, 143, 144, 145, 128, 129, 130] (by decide +kernel) (by decide +kernel)
set_option maxRecDepth 20000 in
theorem gX4_digest_X4_answerOfTraveller : GoodIn wsX4_digest (wsV RX4 195 RX4 yX4_answerOfTraveller wsX4_answerOfTraveller) := goodIn_app (goodIn_of _ (by decide +kernel)) ggX4_digest_X4_answerOfTraveller
set_option maxRecDepth 20000 in
theorem ggX4_digest_X1_addedTo : GoodIn wsX4_digest wsX1_addedTo := goodIn_r _ [104, 105, 106, 107, 108, 109, 59, 110, 111, 112, 113, 57, 58, 60, 61, 62, 114, 115, 116, 117, 118, 140, 141, 142, 143, 144, 145, 146, 147, 148, 149, 150, 151] (by decide +kernel) (by decide +kernel)
set_option maxRecDepth 20000 in
theorem gX4_digest_X1_addedTo : GoodIn wsX4_digest (wsV RX4 241 RX1 yX1_addedTo wsX1_addedTo) := goodIn_app (goodIn_of _ (by decide +kernel)) ggX4_digest_X1_addedTo
theorem dX4_digest_0 : decode cX4_digest 0 = .ok (.ldc2_w 237, 3) := by decide +kernel
theorem dX4_digest_3 : decode cX4_digest 3 = .ok (.lstore_n 1, 1) := by decide +kernel
theorem dX4_digest_4 : decode cX4_digest 4 = .ok (.iconst 0, 1) := by decide +kernel
theorem dX4_digest_5 : decode cX4_digest 5 = .ok (.istore_n 3, 1) := by decide +kernel
theorem dX4_digest_6 : decode cX4_digest 6 = .ok (.iload_n 3, 1) := by decide +kernel
theorem dX4_digest_7 : decode cX4_digest 7 = .ok (.bipush 10, 2) := by decide +kernel
theorem dX4_digest_9 : decode cX4_digest 9 = .ok (.if_icmp .gt 22, 3) := by decide +kernel
theorem dX4_digest_12 : decode cX4_digest 12 = .ok (.lload_n 1, 1) := by decide +kernel
theorem dX4_digest_13 : decode cX4_digest 13 = .ok (.ldc2_w 239, 3) := by decide +kernel
theorem dX4_digest_16 : decode cX4_digest 16 = .ok (.lmul, 1) := by decide +kernel
theorem dX4_digest_17 : decode cX4_digest 17 = .ok (.aload_n 0, 1) := by decide +kernel
theorem dX4_digest_18 : decode cX4_digest 18 = .ok (.iload_n 3, 1) := by decide +kernel
theorem dX4_digest_19 : decode cX4_digest 19 = .ok (.invokevirtual 212, 3) := by decide +kernel
theorem dX4_digest_22 : decode cX4_digest 22 = .ok (.i2l, 1) := by decide +kernel
theorem dX4_digest_23 : decode cX4_digest 23 = .ok (.ladd, 1) := by decide +kernel
theorem dX4_digest_24 : decode cX4_digest 24 = .ok (.lstore_n 1, 1) := by decide +kernel
theorem dX4_digest_25 : decode cX4_digest 25 = .ok (.iinc 3 1, 3) := by decide +kernel
theorem dX4_digest_28 : decode cX4_digest 28 = .ok (.goto (-22), 3) := by decide +kernel
theorem dX4_digest_31 : decode cX4_digest 31 = .ok (.iconst 0, 1) := by decide +kernel
theorem dX4_digest_32 : decode cX4_digest 32 = .ok (.istore_n 3, 1) := by decide +kernel
theorem dX4_digest_33 : decode cX4_digest 33 = .ok (.iload_n 3, 1) := by decide +kernel
theorem dX4_digest_34 : decode cX4_digest 34 = .ok (.aload_n 0, 1) := by decide +kernel
theorem dX4_digest_35 : decode cX4_digest 35 = .ok (.getfield 10, 3) := by decide +kernel
theorem dX4_digest_38 : decode cX4_digest 38 = .ok (.invokevirtual 36, 3) := by decide +kernel
theorem dX4_digest_41 : decode cX4_digest 41 = .ok (.if_icmp .ge 48, 3) := by decide +kernel
theorem dX4_digest_44 : decode cX4_digest 44 = .ok (.iconst 0, 1) := by decide +kernel
theorem dX4_digest_45 : decode cX4_digest 45 = .ok (.istore 4, 2) := by decide +kernel
theorem dX4_digest_47 : decode cX4_digest 47 = .ok (.iload 4, 2) := by decide +kernel
theorem dX4_digest_49 : decode cX4_digest 49 = .ok (.iconst 4, 1) := by decide +kernel
theorem dX4_digest_50 : decode cX4_digest 50 = .ok (.if_icmp .gt 33, 3) := by decide +kernel
theorem dX4_digest_53 : decode cX4_digest 53 = .ok (.lload_n 1, 1) := by decide +kernel
theorem dX4_digest_54 : decode cX4_digest 54 = .ok (.ldc2_w 239, 3) := by decide +kernel
theorem dX4_digest_57 : decode cX4_digest 57 = .ok (.lmul, 1) := by decide +kernel
theorem dX4_digest_58 : decode cX4_digest 58 = .ok (.aload_n 0, 1) := by decide +kernel
theorem dX4_digest_59 : decode cX4_digest 59 = .ok (.getfield 10, 3) := by decide +kernel
theorem dX4_digest_62 : decode cX4_digest 62 = .ok (.iload_n 3, 1) := by decide +kernel
theorem dX4_digest_63 : decode cX4_digest 63 = .ok (.invokevirtual 168, 3) := by decide +kernel
theorem dX4_digest_66 : decode cX4_digest 66 = .ok (.checkcast 45, 3) := by decide +kernel
theorem dX4_digest_69 : decode cX4_digest 69 = .ok (.iload 4, 2) := by decide +kernel
theorem dX4_digest_71 : decode cX4_digest 71 = .ok (.invokevirtual 182, 3) := by decide +kernel
theorem dX4_digest_74 : decode cX4_digest 74 = .ok (.i2l, 1) := by decide +kernel
theorem dX4_digest_75 : decode cX4_digest 75 = .ok (.ladd, 1) := by decide +kernel
theorem dX4_digest_76 : decode cX4_digest 76 = .ok (.lstore_n 1, 1) := by decide +kernel
theorem dX4_digest_77 : decode cX4_digest 77 = .ok (.iinc 4 1, 3) := by decide +kernel
theorem dX4_digest_80 : decode cX4_digest 80 = .ok (.goto (-33), 3) := by decide +kernel
theorem dX4_digest_83 : decode cX4_digest 83 = .ok (.iinc 3 1, 3) := by decide +kernel
theorem dX4_digest_86 : decode cX4_digest 86 = .ok (.goto (-53), 3) := by decide +kernel
theorem dX4_digest_89 : decode cX4_digest 89 = .ok (.iconst 0, 1) := by decide +kernel
theorem dX4_digest_90 : decode cX4_digest 90 = .ok (.istore_n 3, 1) := by decide +kernel
theorem dX4_digest_91 : decode cX4_digest 91 = .ok (.iload_n 3, 1) := by decide +kernel
theorem dX4_digest_92 : decode cX4_digest 92 = .ok (.aload_n 0, 1) := by decide +kernel
theorem dX4_digest_93 : decode cX4_digest 93 = .ok (.getfield 16, 3) := by decide +kernel
theorem dX4_digest_96 : decode cX4_digest 96 = .ok (.invokevirtual 36, 3) := by decide +kernel
theorem dX4_digest_99 : decode cX4_digest 99 = .ok (.if_icmp .ge 48, 3) := by decide +kernel
theorem dX4_digest_102 : decode cX4_digest 102 = .ok (.iconst 0, 1) := by decide +kernel
theorem dX4_digest_103 : decode cX4_digest 103 = .ok (.istore 4, 2) := by decide +kernel
theorem dX4_digest_105 : decode cX4_digest 105 = .ok (.iload 4, 2) := by decide +kernel
theorem dX4_digest_107 : decode cX4_digest 107 = .ok (.iconst 2, 1) := by decide +kernel
theorem dX4_digest_108 : decode cX4_digest 108 = .ok (.if_icmp .gt 33, 3) := by decide +kernel
theorem dX4_digest_111 : decode cX4_digest 111 = .ok (.lload_n 1, 1) := by decide +kernel
theorem dX4_digest_112 : decode cX4_digest 112 = .ok (.ldc2_w 239, 3) := by decide +kernel
theorem dX4_digest_115 : decode cX4_digest 115 = .ok (.lmul, 1) := by decide +kernel
theorem dX4_digest_116 : decode cX4_digest 116 = .ok (.aload_n 0, 1) := by decide +kernel
theorem dX4_digest_117 : decode cX4_digest 117 = .ok (.getfield 16, 3) := by decide +kernel
theorem dX4_digest_120 : decode cX4_digest 120 = .ok (.iload_n 3, 1) := by decide +kernel
theorem dX4_digest_121 : decode cX4_digest 121 = .ok (.invokevirtual 168, 3) := by decide +kernel
theorem dX4_digest_124 : decode cX4_digest 124 = .ok (.checkcast 88, 3) := by decide +kernel
theorem dX4_digest_127 : decode cX4_digest 127 = .ok (.iload 4, 2) := by decide +kernel
theorem dX4_digest_129 : decode cX4_digest 129 = .ok (.invokevirtual 192, 3) := by decide +kernel
theorem dX4_digest_132 : decode cX4_digest 132 = .ok (.i2l, 1) := by decide +kernel
theorem dX4_digest_133 : decode cX4_digest 133 = .ok (.ladd, 1) := by decide +kernel
theorem dX4_digest_134 : decode cX4_digest 134 = .ok (.lstore_n 1, 1) := by decide +kernel
theorem dX4_digest_135 : decode cX4_digest 135 = .ok (.iinc 4 1, 3) := by decide +kernel
theorem dX4_digest_138 : decode cX4_digest 138 = .ok (.goto (-33), 3) := by decide +kernel
theorem dX4_digest_141 : decode cX4_digest 141 = .ok (.iinc 3 1, 3) := by decide +kernel
theorem dX4_digest_144 : decode cX4_digest 144 = .ok (.goto (-53), 3) := by decide +kernel
theorem dX4_digest_147 : decode cX4_digest 147 = .ok (.iconst 0, 1) := by decide +kernel
theorem dX4_digest_148 : decode cX4_digest 148 = .ok (.istore_n 3, 1) := by decide +kernel
theorem dX4_digest_149 : decode cX4_digest 149 = .ok (.iload_n 3, 1) := by decide +kernel
theorem dX4_digest_150 : decode cX4_digest 150 = .ok (.aload_n 0, 1) := by decide +kernel
theorem dX4_digest_151 : decode cX4_digest 151 = .ok (.getfield 19, 3) := by decide +kernel
theorem dX4_digest_154 : decode cX4_digest 154 = .ok (.invokevirtual 36, 3) := by decide +kernel
theorem dX4_digest_157 : decode cX4_digest 157 = .ok (.if_icmp .ge 49, 3) := by decide +kernel
theorem dX4_digest_160 : decode cX4_digest 160 = .ok (.iconst 0, 1) := by decide +kernel
theorem dX4_digest_161 : decode cX4_digest 161 = .ok (.istore 4, 2) := by decide +kernel
theorem dX4_digest_163 : decode cX4_digest 163 = .ok (.iload 4, 2) := by decide +kernel
theorem dX4_digest_165 : decode cX4_digest 165 = .ok (.iconst 4, 1) := by decide +kernel
theorem dX4_digest_166 : decode cX4_digest 166 = .ok (.if_icmp .gt 34, 3) := by decide +kernel
theorem dX4_digest_169 : decode cX4_digest 169 = .ok (.lload_n 1, 1) := by decide +kernel
theorem dX4_digest_170 : decode cX4_digest 170 = .ok (.ldc2_w 239, 3) := by decide +kernel
theorem dX4_digest_173 : decode cX4_digest 173 = .ok (.lmul, 1) := by decide +kernel
theorem dX4_digest_174 : decode cX4_digest 174 = .ok (.aload_n 0, 1) := by decide +kernel
theorem dX4_digest_175 : decode cX4_digest 175 = .ok (.aload_n 0, 1) := by decide +kernel
theorem dX4_digest_176 : decode cX4_digest 176 = .ok (.getfield 19, 3) := by decide +kernel
theorem dX4_digest_179 : decode cX4_digest 179 = .ok (.iload_n 3, 1) := by decide +kernel
theorem dX4_digest_180 : decode cX4_digest 180 = .ok (.invokevirtual 168, 3) := by decide +kernel
theorem dX4_digest_183 : decode cX4_digest 183 = .ok (.checkcast 95, 3) := by decide +kernel
theorem dX4_digest_186 : decode cX4_digest 186 = .ok (.iload 4, 2) := by decide +kernel
theorem dX4_digest_188 : decode cX4_digest 188 = .ok (.invokevirtual 195, 3) := by decide +kernel
theorem dX4_digest_191 : decode cX4_digest 191 = .ok (.i2l, 1) := by decide +kernel
theorem dX4_digest_192 : decode cX4_digest 192 = .ok (.ladd, 1) := by decide +kernel
theorem dX4_digest_193 : decode cX4_digest 193 = .ok (.lstore_n 1, 1) := by decide +kernel
theorem dX4_digest_194 : decode cX4_digest 194 = .ok (.iinc 4 1, 3) := by decide +kernel
theorem dX4_digest_197 : decode cX4_digest 197 = .ok (.goto (-34), 3) := by decide +kernel
theorem dX4_digest_200 : decode cX4_digest 200 = .ok (.iinc 3 1, 3) := by decide +kernel
theorem dX4_digest_203 : decode cX4_digest 203 = .ok (.goto (-54), 3) := by decide +kernel
theorem dX4_digest_206 : decode cX4_digest 206 = .ok (.iconst 0, 1) := by decide +kernel
theorem dX4_digest_207 : decode cX4_digest 207 = .ok (.istore_n 3, 1) := by decide +kernel
theorem dX4_digest_208 : decode cX4_digest 208 = .ok (.iload_n 3, 1) := by decide +kernel
theorem dX4_digest_209 : decode cX4_digest 209 = .ok (.aload_n 0, 1) := by decide +kernel
theorem dX4_digest_210 : decode cX4_digest 210 = .ok (.getfield 22, 3) := by decide +kernel
theorem dX4_digest_213 : decode cX4_digest 213 = .ok (.invokevirtual 36, 3) := by decide +kernel
theorem dX4_digest_216 : decode cX4_digest 216 = .ok (.if_icmp .ge 25, 3) := by decide +kernel
theorem dX4_digest_219 : decode cX4_digest 219 = .ok (.aload_n 0, 1) := by decide +kernel
theorem dX4_digest_220 : decode cX4_digest 220 = .ok (.getfield 22, 3) := by decide +kernel
theorem dX4_digest_223 : decode cX4_digest 223 = .ok (.iload_n 3, 1) := by decide +kernel
theorem dX4_digest_224 : decode cX4_digest 224 = .ok (.invokevirtual 168, 3) := by decide +kernel
theorem dX4_digest_227 : decode cX4_digest 227 = .ok (.checkcast 118, 3) := by decide +kernel
theorem dX4_digest_230 : decode cX4_digest 230 = .ok (.lload_n 1, 1) := by decide +kernel
theorem dX4_digest_231 : decode cX4_digest 231 = .ok (.invokevirtual 241, 3) := by decide +kernel
theorem dX4_digest_234 : decode cX4_digest 234 = .ok (.lstore_n 1, 1) := by decide +kernel
theorem dX4_digest_235 : decode cX4_digest 235 = .ok (.iinc 3 1, 3) := by decide +kernel
theorem dX4_digest_238 : decode cX4_digest 238 = .ok (.goto (-30), 3) := by decide +kernel
theorem dX4_digest_241 : decode cX4_digest 241 = .ok (.lload_n 1, 1) := by decide +kernel
theorem dX4_digest_242 : decode cX4_digest 242 = .ok (.lreturn, 1) := by decide +kernel
set_option maxRecDepth 20000 in
theorem ggX4_sceneAt_Jx4a65c_size_8abf5 : GoodIn wsX4_sceneAt wsJx4a65c_size_8abf5 := goodIn_r _ [7, 8, 35, 36, 37] (by decide +kernel) (by decide +kernel)
set_option maxRecDepth 20000 in
theorem gX4_sceneAt_Jx4a65c_size_8abf5 : GoodIn wsX4_sceneAt (wsV RX4 36 RJx4a65c yJx4a65c_size_8abf5 wsJx4a65c_size_8abf5) := goodIn_app (goodIn_of _ (by decide +kernel)) ggX4_sceneAt_Jx4a65c_size_8abf5
set_option maxRecDepth 20000 in
theorem ggX4_sceneAt_Jx4a65c_get_915e3 : GoodIn wsX4_sceneAt wsJx4a65c_get_915e3 := goodIn_r _ [12, 8, 13, 14, 15, 16, 17, 18, 19, 20, 21, 22, 23, 6, 24, 25, 35, 36, 37] (by decide +kernel) (by decide +kernel)
set_option maxRecDepth 20000 in
theorem gX4_sceneAt_Jx4a65c_get_915e3 : GoodIn wsX4_sceneAt (wsV RX4 168 RJx4a65c yJx4a65c_get_915e3 wsJx4a65c_get_915e3) := goodIn_app (goodIn_of _ (by decide +kernel)) ggX4_sceneAt_Jx4a65c_get_915e3
theorem dX4_sceneAt_0 : decode cX4_sceneAt 0 = .ok (.iload_n 1, 1) := by decide +kernel
theorem dX4_sceneAt_1 : decode cX4_sceneAt 1 = .ok (.ifCond .lt 28, 3) := by decide +kernel
theorem dX4_sceneAt_4 : decode cX4_sceneAt 4 = .ok (.iload_n 1, 1) := by decide +kernel
theorem dX4_sceneAt_5 : decode cX4_sceneAt 5 = .ok (.aload_n 0, 1) := by decide +kernel
theorem dX4_sceneAt_6 : decode cX4_sceneAt 6 = .ok (.getfield 10, 3) := by decide +kernel
theorem dX4_sceneAt_9 : decode cX4_sceneAt 9 = .ok (.invokevirtual 36, 3) := by decide +kernel
theorem dX4_sceneAt_12 : decode cX4_sceneAt 12 = .ok (.if_icmp .ge 17, 3) := by decide +kernel
theorem dX4_sceneAt_15 : decode cX4_sceneAt 15 = .ok (.aload_n 0, 1) := by decide +kernel
theorem dX4_sceneAt_16 : decode cX4_sceneAt 16 = .ok (.getfield 10, 3) := by decide +kernel
theorem dX4_sceneAt_19 : decode cX4_sceneAt 19 = .ok (.iload_n 1, 1) := by decide +kernel
theorem dX4_sceneAt_20 : decode cX4_sceneAt 20 = .ok (.invokevirtual 168, 3) := by decide +kernel
theorem dX4_sceneAt_23 : decode cX4_sceneAt 23 = .ok (.checkcast 45, 3) := by decide +kernel
theorem dX4_sceneAt_26 : decode cX4_sceneAt 26 = .ok (.goto 4, 3) := by decide +kernel
theorem dX4_sceneAt_29 : decode cX4_sceneAt 29 = .ok (.aconst_null, 1) := by decide +kernel
theorem dX4_sceneAt_30 : decode cX4_sceneAt 30 = .ok (.areturn, 1) := by decide +kernel
set_option maxRecDepth 20000 in
theorem ggX4_guardAt_Jx4a65c_size_8abf5 : GoodIn wsX4_guardAt wsJx4a65c_size_8abf5 := goodIn_r _ [7, 8, 35, 36, 37] (by decide +kernel) (by decide +kernel)
set_option maxRecDepth 20000 in
theorem gX4_guardAt_Jx4a65c_size_8abf5 : GoodIn wsX4_guardAt (wsV RX4 36 RJx4a65c yJx4a65c_size_8abf5 wsJx4a65c_size_8abf5) := goodIn_app (goodIn_of _ (by decide +kernel)) ggX4_guardAt_Jx4a65c_size_8abf5
set_option maxRecDepth 20000 in
theorem ggX4_guardAt_Jx4a65c_get_915e3 : GoodIn wsX4_guardAt wsJx4a65c_get_915e3 := goodIn_r _ [12, 8, 13, 14, 15, 16, 17, 18, 19, 20, 21, 22, 23, 6, 24, 25, 35, 36, 37] (by decide +kernel) (by decide +kernel)
set_option maxRecDepth 20000 in
theorem gX4_guardAt_Jx4a65c_get_915e3 : GoodIn wsX4_guardAt (wsV RX4 168 RJx4a65c yJx4a65c_get_915e3 wsJx4a65c_get_915e3) := goodIn_app (goodIn_of _ (by decide +kernel)) ggX4_guardAt_Jx4a65c_get_915e3
theorem dX4_guardAt_0 : decode cX4_guardAt 0 = .ok (.iload_n 1, 1) := by decide +kernel
theorem dX4_guardAt_1 : decode cX4_guardAt 1 = .ok (.ifCond .lt 28, 3) := by decide +kernel
theorem dX4_guardAt_4 : decode cX4_guardAt 4 = .ok (.iload_n 1, 1) := by decide +kernel
theorem dX4_guardAt_5 : decode cX4_guardAt 5 = .ok (.aload_n 0, 1) := by decide +kernel
theorem dX4_guardAt_6 : decode cX4_guardAt 6 = .ok (.getfield 16, 3) := by decide +kernel
theorem dX4_guardAt_9 : decode cX4_guardAt 9 = .ok (.invokevirtual 36, 3) := by decide +kernel
theorem dX4_guardAt_12 : decode cX4_guardAt 12 = .ok (.if_icmp .ge 17, 3) := by decide +kernel
theorem dX4_guardAt_15 : decode cX4_guardAt 15 = .ok (.aload_n 0, 1) := by decide +kernel
theorem dX4_guardAt_16 : decode cX4_guardAt 16 = .ok (.getfield 16, 3) := by decide +kernel
theorem dX4_guardAt_19 : decode cX4_guardAt 19 = .ok (.iload_n 1, 1) := by decide +kernel
theorem dX4_guardAt_20 : decode cX4_guardAt 20 = .ok (.invokevirtual 168, 3) := by decide +kernel
theorem dX4_guardAt_23 : decode cX4_guardAt 23 = .ok (.checkcast 88, 3) := by decide +kernel
theorem dX4_guardAt_26 : decode cX4_guardAt 26 = .ok (.goto 4, 3) := by decide +kernel
theorem dX4_guardAt_29 : decode cX4_guardAt 29 = .ok (.aconst_null, 1) := by decide +kernel
theorem dX4_guardAt_30 : decode cX4_guardAt 30 = .ok (.areturn, 1) := by decide +kernel
set_option maxRecDepth 20000 in
theorem ggX4_travellerAt_Jx4a65c_size_8abf5 : GoodIn wsX4_travellerAt wsJx4a65c_size_8abf5 := goodIn_r _ [7, 8, 35, 36, 37] (by decide +kernel) (by decide +kernel)
set_option maxRecDepth 20000 in
theorem gX4_travellerAt_Jx4a65c_size_8abf5 : GoodIn wsX4_travellerAt (wsV RX4 36 RJx4a65c yJx4a65c_size_8abf5 wsJx4a65c_size_8abf5) := goodIn_app (goodIn_of _ (by decide +kernel)) ggX4_travellerAt_Jx4a65c_size_8abf5
set_option maxRecDepth 20000 in
theorem ggX4_travellerAt_Jx4a65c_get_915e3 : GoodIn wsX4_travellerAt wsJx4a65c_get_915e3 := goodIn_r _ [12, 8, 13, 14, 15, 16, 17, 18, 19, 20, 21, 22, 23, 6, 24, 25, 35, 36, 37] (by decide +kernel) (by decide +kernel)
set_option maxRecDepth 20000 in
theorem gX4_travellerAt_Jx4a65c_get_915e3 : GoodIn wsX4_travellerAt (wsV RX4 168 RJx4a65c yJx4a65c_get_915e3 wsJx4a65c_get_915e3) := goodIn_app (goodIn_of _ (by decide +kernel)) ggX4_travellerAt_Jx4a65c_get_915e3
theorem dX4_travellerAt_0 : decode cX4_travellerAt 0 = .ok (.iload_n 1, 1) := by decide +kernel
theorem dX4_travellerAt_1 : decode cX4_travellerAt 1 = .ok (.ifCond .lt 28, 3) := by decide +kernel
theorem dX4_travellerAt_4 : decode cX4_travellerAt 4 = .ok (.iload_n 1, 1) := by decide +kernel
theorem dX4_travellerAt_5 : decode cX4_travellerAt 5 = .ok (.aload_n 0, 1) := by decide +kernel
theorem dX4_travellerAt_6 : decode cX4_travellerAt 6 = .ok (.getfield 19, 3) := by decide +kernel
theorem dX4_travellerAt_9 : decode cX4_travellerAt 9 = .ok (.invokevirtual 36, 3) := by decide +kernel
theorem dX4_travellerAt_12 : decode cX4_travellerAt 12 = .ok (.if_icmp .ge 17, 3) := by decide +kernel
theorem dX4_travellerAt_15 : decode cX4_travellerAt 15 = .ok (.aload_n 0, 1) := by decide +kernel
theorem dX4_travellerAt_16 : decode cX4_travellerAt 16 = .ok (.getfield 19, 3) := by decide +kernel
theorem dX4_travellerAt_19 : decode cX4_travellerAt 19 = .ok (.iload_n 1, 1) := by decide +kernel
theorem dX4_travellerAt_20 : decode cX4_travellerAt 20 = .ok (.invokevirtual 168, 3) := by decide +kernel
theorem dX4_travellerAt_23 : decode cX4_travellerAt 23 = .ok (.checkcast 95, 3) := by decide +kernel
theorem dX4_travellerAt_26 : decode cX4_travellerAt 26 = .ok (.goto 4, 3) := by decide +kernel
theorem dX4_travellerAt_29 : decode cX4_travellerAt 29 = .ok (.aconst_null, 1) := by decide +kernel
theorem dX4_travellerAt_30 : decode cX4_travellerAt 30 = .ok (.areturn, 1) := by decide +kernel
set_option maxRecDepth 20000 in
theorem ggX4_plotAt_Jx4a65c_size_8abf5 : GoodIn wsX4_plotAt wsJx4a65c_size_8abf5 := goodIn_r _ [7, 8, 35, 36, 37] (by decide +kernel) (by decide +kernel)
set_option maxRecDepth 20000 in
theorem gX4_plotAt_Jx4a65c_size_8abf5 : GoodIn wsX4_plotAt (wsV RX4 36 RJx4a65c yJx4a65c_size_8abf5 wsJx4a65c_size_8abf5) := goodIn_app (goodIn_of _ (by decide +kernel)) ggX4_plotAt_Jx4a65c_size_8abf5
set_option maxRecDepth 20000 in
theorem ggX4_plotAt_Jx4a65c_get_915e3 : GoodIn wsX4_plotAt wsJx4a65c_get_915e3 := goodIn_r _ [12, 8, 13, 14, 15, 16, 17, 18, 19, 20, 21, 22, 23, 6, 24, 25, 35, 36, 37] (by decide +kernel) (by decide +kernel)
set_option maxRecDepth 20000 in
theorem gX4_plotAt_Jx4a65c_get_915e3 : GoodIn wsX4_plotAt (wsV RX4 168 RJx4a65c yJx4a65c_get_915e3 wsJx4a65c_get_915e3) := goodIn_app (goodIn_of _ (by decide +kernel)) ggX4_plotAt_Jx4a65c_get_915e3
theorem dX4_plotAt_0 : decode cX4_plotAt 0 = .ok (.iload_n 1, 1) := by decide +kernel
theorem dX4_plotAt_1 : decode cX4_plotAt 1 = .ok (.ifCond .lt 28, 3) := by decide +kernel
theorem dX4_plotAt_4 : decode cX4_plotAt 4 = .ok (.iload_n 1, 1) := by decide +kernel
theorem dX4_plotAt_5 : decode cX4_plotAt 5 = .ok (.aload_n 0, 1) := by decide +kernel
theorem dX4_plotAt_6 : decode cX4_plotAt 6 = .ok (.getfield 22, 3) := by decide +kernel
theorem dX4_plotAt_9 : decode cX4_plotAt 9 = .ok (.invokevirtual 36, 3) := by decide +kernel
theorem dX4_plotAt_12 : decode cX4_plotAt 12 = .ok (.if_icmp .ge 17, 3) := by decide +kernel
theorem dX4_plotAt_15 : decode cX4_plotAt 15 = .ok (.aload_n 0, 1) := by decide +kernel
theorem dX4_plotAt_16 : decode cX4_plotAt 16 = .ok (.getfield 22, 3) := by decide +kernel
theorem dX4_plotAt_19 : decode cX4_plotAt 19 = .ok (.iload_n 1, 1) := by decide +kernel
theorem dX4_plotAt_20 : decode cX4_plotAt 20 = .ok (.invokevirtual 168, 3) := by decide +kernel
theorem dX4_plotAt_23 : decode cX4_plotAt 23 = .ok (.checkcast 118, 3) := by decide +kernel
theorem dX4_plotAt_26 : decode cX4_plotAt 26 = .ok (.goto 4, 3) := by decide +kernel
theorem dX4_plotAt_29 : decode cX4_plotAt 29 = .ok (.aconst_null, 1) := by decide +kernel
theorem dX4_plotAt_30 : decode cX4_plotAt 30 = .ok (.areturn, 1) := by decide +kernel
set_option maxRecDepth 20000 in
theorem ggX4_canTell_X3_knows : GoodIn wsX4_canTell wsX3_knows := goodIn_r _ [9, 10, 11, 12, 13, 14, 15, 16, 43, 44, 45, 46, 47, 48, 49, 50, 51, 52, 53] (by decide +kernel) (by decide +kernel)
set_option maxRecDepth 20000 in
theorem gX4_canTell_X3_knows : GoodIn wsX4_canTell (wsV RX4 245 RX3 yX3_knows wsX3_knows) := goodIn_app (goodIn_of _ (by decide +kernel)) ggX4_canTell_X3_knows
set_option maxRecDepth 20000 in
theorem ggX4_canTell_Jx4a65c_size_8abf5 : GoodIn wsX4_canTell wsJx4a65c_size_8abf5 := goodIn_r _ [21, 22, 63, 64, 65] (by decide +kernel) (by decide +kernel)
set_option maxRecDepth 20000 in
theorem gX4_canTell_Jx4a65c_size_8abf5 : GoodIn wsX4_canTell (wsV RX4 36 RJx4a65c yJx4a65c_size_8abf5 wsJx4a65c_size_8abf5) := goodIn_app (goodIn_of _ (by decide +kernel)) ggX4_canTell_Jx4a65c_size_8abf5
set_option maxRecDepth 20000 in
theorem ggX4_canTell_X1_canGoOnWith : GoodIn wsX4_canTell wsX1_canGoOnWith := goodIn_r _ [27, 28, 29, 30, 31, 32, 33, 34, 35, 26, 36, 37, 38, 39, 14, 40, 41, 42, 12, 13, 15, 16, 66, 67, 68, 69, 70, 71, 48, 49, 50, 51, 52, 53] (by decide +kernel) (by decide +kernel)
set_option maxRecDepth 20000 in
theorem gX4_canTell_X1_canGoOnWith : GoodIn wsX4_canTell (wsV RX4 248 RX1 yX1_canGoOnWith wsX1_canGoOnWith) := goodIn_app (goodIn_of _ (by decide +kernel)) ggX4_canTell_X1_canGoOnWith
theorem dX4_canTell_0 : decode cX4_canTell 0 = .ok (.aload_n 1, 1) := by decide +kernel
theorem dX4_canTell_1 : decode cX4_canTell 1 = .ok (.getfield 148, 3) := by decide +kernel
theorem dX4_canTell_4 : decode cX4_canTell 4 = .ok (.ifCond .ne 11, 3) := by decide +kernel
theorem dX4_canTell_7 : decode cX4_canTell 7 = .ok (.aload_n 1, 1) := by decide +kernel
theorem dX4_canTell_8 : decode cX4_canTell 8 = .ok (.aload_n 2, 1) := by decide +kernel
theorem dX4_canTell_9 : decode cX4_canTell 9 = .ok (.invokevirtual 245, 3) := by decide +kernel
theorem dX4_canTell_12 : decode cX4_canTell 12 = .ok (.ifCond .ne 5, 3) := by decide +kernel
theorem dX4_canTell_15 : decode cX4_canTell 15 = .ok (.iconst 0, 1) := by decide +kernel
theorem dX4_canTell_16 : decode cX4_canTell 16 = .ok (.ireturn, 1) := by decide +kernel
theorem dX4_canTell_17 : decode cX4_canTell 17 = .ok (.aload_n 2, 1) := by decide +kernel
theorem dX4_canTell_18 : decode cX4_canTell 18 = .ok (.getfield 63, 3) := by decide +kernel
theorem dX4_canTell_21 : decode cX4_canTell 21 = .ok (.ifCond .ne 21, 3) := by decide +kernel
theorem dX4_canTell_24 : decode cX4_canTell 24 = .ok (.aload_n 0, 1) := by decide +kernel
theorem dX4_canTell_25 : decode cX4_canTell 25 = .ok (.getfield 22, 3) := by decide +kernel
theorem dX4_canTell_28 : decode cX4_canTell 28 = .ok (.invokevirtual 36, 3) := by decide +kernel
theorem dX4_canTell_31 : decode cX4_canTell 31 = .ok (.bipush 8, 2) := by decide +kernel
theorem dX4_canTell_33 : decode cX4_canTell 33 = .ok (.if_icmp .ge 7, 3) := by decide +kernel
theorem dX4_canTell_36 : decode cX4_canTell 36 = .ok (.iconst 1, 1) := by decide +kernel
theorem dX4_canTell_37 : decode cX4_canTell 37 = .ok (.goto 4, 3) := by decide +kernel
theorem dX4_canTell_40 : decode cX4_canTell 40 = .ok (.iconst 0, 1) := by decide +kernel
theorem dX4_canTell_41 : decode cX4_canTell 41 = .ok (.ireturn, 1) := by decide +kernel
theorem dX4_canTell_42 : decode cX4_canTell 42 = .ok (.aload_n 3, 1) := by decide +kernel
theorem dX4_canTell_43 : decode cX4_canTell 43 = .ok (.ifnull 19, 3) := by decide +kernel
theorem dX4_canTell_46 : decode cX4_canTell 46 = .ok (.aload_n 3, 1) := by decide +kernel
theorem dX4_canTell_47 : decode cX4_canTell 47 = .ok (.aload_n 2, 1) := by decide +kernel
theorem dX4_canTell_48 : decode cX4_canTell 48 = .ok (.aload_n 1, 1) := by decide +kernel
theorem dX4_canTell_49 : decode cX4_canTell 49 = .ok (.getfield 160, 3) := by decide +kernel
theorem dX4_canTell_52 : decode cX4_canTell 52 = .ok (.invokevirtual 248, 3) := by decide +kernel
theorem dX4_canTell_55 : decode cX4_canTell 55 = .ok (.ifCond .eq 7, 3) := by decide +kernel
theorem dX4_canTell_58 : decode cX4_canTell 58 = .ok (.iconst 1, 1) := by decide +kernel
theorem dX4_canTell_59 : decode cX4_canTell 59 = .ok (.goto 4, 3) := by decide +kernel
theorem dX4_canTell_62 : decode cX4_canTell 62 = .ok (.iconst 0, 1) := by decide +kernel
theorem dX4_canTell_63 : decode cX4_canTell 63 = .ok (.ireturn, 1) := by decide +kernel
set_option maxRecDepth 20000 in
theorem ggX4_tollOf_Jx4a65c_size_8abf5 : GoodIn wsX4_tollOf wsJx4a65c_size_8abf5 := goodIn_r _ [13, 14, 58, 59, 60] (by decide +kernel) (by decide +kernel)
set_option maxRecDepth 20000 in
theorem gX4_tollOf_Jx4a65c_size_8abf5 : GoodIn wsX4_tollOf (wsV RX4 36 RJx4a65c yJx4a65c_size_8abf5 wsJx4a65c_size_8abf5) := goodIn_app (goodIn_of _ (by decide +kernel)) ggX4_tollOf_Jx4a65c_size_8abf5
set_option maxRecDepth 20000 in
theorem ggX4_tollOf_Jx4a65c_get_915e3 : GoodIn wsX4_tollOf wsJx4a65c_get_915e3 := goodIn_r _ [18, 14, 19, 20, 21, 22, 23, 24, 25, 26, 27, 28, 29, 12, 30, 31, 58, 59, 60] (by decide +kernel) (by decide +kernel)
set_option maxRecDepth 20000 in
theorem gX4_tollOf_Jx4a65c_get_915e3 : GoodIn wsX4_tollOf (wsV RX4 168 RJx4a65c yJx4a65c_get_915e3 wsJx4a65c_get_915e3) := goodIn_app (goodIn_of _ (by decide +kernel)) ggX4_tollOf_Jx4a65c_get_915e3
set_option maxRecDepth 20000 in
theorem ggX4_tollOf_X0_worthOf : GoodIn wsX4_tollOf wsX0_worthOf := goodIn_r _ [36, 37, 38, 39, 40, 41, 42, 35, 43, 44, 61, 62, 63, 64, 65, 66, 54, 55, 56, 57] (by decide +kernel) (by decide +kernel)
set_option maxRecDepth 20000 in
theorem gX4_tollOf_X0_worthOf : GoodIn wsX4_tollOf (wsV RX4 217 RX0 yX0_worthOf wsX0_worthOf) := goodIn_app (goodIn_of _ (by decide +kernel)) ggX4_tollOf_X0_worthOf
theorem dX4_tollOf_0 : decode cX4_tollOf 0 = .ok (.iconst 0, 1) := by decide +kernel
theorem dX4_tollOf_1 : decode cX4_tollOf 1 = .ok (.istore_n 2, 1) := by decide +kernel
theorem dX4_tollOf_2 : decode cX4_tollOf 2 = .ok (.iconst 0, 1) := by decide +kernel
theorem dX4_tollOf_3 : decode cX4_tollOf 3 = .ok (.istore_n 3, 1) := by decide +kernel
theorem dX4_tollOf_4 : decode cX4_tollOf 4 = .ok (.iload_n 3, 1) := by decide +kernel
theorem dX4_tollOf_5 : decode cX4_tollOf 5 = .ok (.aload_n 0, 1) := by decide +kernel
theorem dX4_tollOf_6 : decode cX4_tollOf 6 = .ok (.getfield 16, 3) := by decide +kernel
theorem dX4_tollOf_9 : decode cX4_tollOf 9 = .ok (.invokevirtual 36, 3) := by decide +kernel
theorem dX4_tollOf_12 : decode cX4_tollOf 12 = .ok (.if_icmp .ge 45, 3) := by decide +kernel
theorem dX4_tollOf_15 : decode cX4_tollOf 15 = .ok (.aload_n 0, 1) := by decide +kernel
theorem dX4_tollOf_16 : decode cX4_tollOf 16 = .ok (.getfield 16, 3) := by decide +kernel
theorem dX4_tollOf_19 : decode cX4_tollOf 19 = .ok (.iload_n 3, 1) := by decide +kernel
theorem dX4_tollOf_20 : decode cX4_tollOf 20 = .ok (.invokevirtual 168, 3) := by decide +kernel
theorem dX4_tollOf_23 : decode cX4_tollOf 23 = .ok (.checkcast 88, 3) := by decide +kernel
theorem dX4_tollOf_26 : decode cX4_tollOf 26 = .ok (.astore 4, 2) := by decide +kernel
theorem dX4_tollOf_28 : decode cX4_tollOf 28 = .ok (.aload 4, 2) := by decide +kernel
theorem dX4_tollOf_30 : decode cX4_tollOf 30 = .ok (.getfield 252, 3) := by decide +kernel
theorem dX4_tollOf_33 : decode cX4_tollOf 33 = .ok (.ifCond .eq 18, 3) := by decide +kernel
theorem dX4_tollOf_36 : decode cX4_tollOf 36 = .ok (.iload_n 2, 1) := by decide +kernel
theorem dX4_tollOf_37 : decode cX4_tollOf 37 = .ok (.aload 4, 2) := by decide +kernel
theorem dX4_tollOf_39 : decode cX4_tollOf 39 = .ok (.aload_n 1, 1) := by decide +kernel
theorem dX4_tollOf_40 : decode cX4_tollOf 40 = .ok (.aload_n 0, 1) := by decide +kernel
theorem dX4_tollOf_41 : decode cX4_tollOf 41 = .ok (.getfield 25, 3) := by decide +kernel
theorem dX4_tollOf_44 : decode cX4_tollOf 44 = .ok (.invokevirtual 217, 3) := by decide +kernel
theorem dX4_tollOf_47 : decode cX4_tollOf 47 = .ok (.invokestatic 256, 3) := by decide +kernel
theorem dX4_tollOf_50 : decode cX4_tollOf 50 = .ok (.istore_n 2, 1) := by decide +kernel
theorem dX4_tollOf_51 : decode cX4_tollOf 51 = .ok (.iinc 3 1, 3) := by decide +kernel
theorem dX4_tollOf_54 : decode cX4_tollOf 54 = .ok (.goto (-50), 3) := by decide +kernel
theorem dX4_tollOf_57 : decode cX4_tollOf 57 = .ok (.iload_n 2, 1) := by decide +kernel
theorem dX4_tollOf_58 : decode cX4_tollOf 58 = .ok (.ireturn, 1) := by decide +kernel
set_option maxRecDepth 20000 in
theorem ggX4_letGuardsHear_Jx4a65c_size_8abf5 : GoodIn wsX4_letGuardsHear wsJx4a65c_size_8abf5 := goodIn_r _ [10, 11, 75, 76, 77] (by decide +kernel) (by decide +kernel)
set_option maxRecDepth 20000 in
theorem gX4_letGuardsHear_Jx4a65c_size_8abf5 : GoodIn wsX4_letGuardsHear (wsV RX4 36 RJx4a65c yJx4a65c_size_8abf5 wsJx4a65c_size_8abf5) := goodIn_app (goodIn_of _ (by decide +kernel)) ggX4_letGuardsHear_Jx4a65c_size_8abf5
set_option maxRecDepth 20000 in
theorem ggX4_letGuardsHear_Jx4a65c_get_915e3 : GoodIn wsX4_letGuardsHear wsJx4a65c_get_915e3 := goodIn_r _ [15, 11, 16, 17, 18, 19, 20, 21, 22, 23, 24, 25, 26, 9, 27, 28, 75, 76, 77] (by decide +kernel) (by decide +kernel)
set_option maxRecDepth 20000 in
theorem gX4_letGuardsHear_Jx4a65c_get_915e3 : GoodIn wsX4_letGuardsHear (wsV RX4 168 RJx4a65c yJx4a65c_get_915e3 wsJx4a65c_get_915e3) := goodIn_app (goodIn_of _ (by decide +kernel)) ggX4_letGuardsHear_Jx4a65c_get_915e3
set_option maxRecDepth 20000 in
theorem ggX4_letGuardsHear_X0_hear : GoodIn wsX4_letGuardsHear wsX0_hear := goodIn_r _ [33, 34, 35, 36, 37, 38, 39, 40, 41, 42, 43, 44, 45, 46, 47, 48, 32, 49, 50, 51, 52, 53, 54, 55, 65, 66, 67, 68, 69, 70, 71, 72, 73, 74] (by decide +kernel) (by decide +kernel)
set_option maxRecDepth 20000 in
theorem gX4_letGuardsHear_X0_hear : GoodIn wsX4_letGuardsHear (wsV RX4 262 RX0 yX0_hear wsX0_hear) := goodIn_app (goodIn_of _ (by decide +kernel)) ggX4_letGuardsHear_X0_hear
theorem dX4_letGuardsHear_0 : decode cX4_letGuardsHear 0 = .ok (.iconst 0, 1) := by decide +kernel
theorem dX4_letGuardsHear_1 : decode cX4_letGuardsHear 1 = .ok (.istore_n 2, 1) := by decide +kernel
theorem dX4_letGuardsHear_2 : decode cX4_letGuardsHear 2 = .ok (.iload_n 2, 1) := by decide +kernel
theorem dX4_letGuardsHear_3 : decode cX4_letGuardsHear 3 = .ok (.aload_n 0, 1) := by decide +kernel
theorem dX4_letGuardsHear_4 : decode cX4_letGuardsHear 4 = .ok (.getfield 16, 3) := by decide +kernel
theorem dX4_letGuardsHear_7 : decode cX4_letGuardsHear 7 = .ok (.invokevirtual 36, 3) := by decide +kernel
theorem dX4_letGuardsHear_10 : decode cX4_letGuardsHear 10 = .ok (.if_icmp .ge 37, 3) := by decide +kernel
theorem dX4_letGuardsHear_13 : decode cX4_letGuardsHear 13 = .ok (.aload_n 0, 1) := by decide +kernel
theorem dX4_letGuardsHear_14 : decode cX4_letGuardsHear 14 = .ok (.getfield 16, 3) := by decide +kernel
theorem dX4_letGuardsHear_17 : decode cX4_letGuardsHear 17 = .ok (.iload_n 2, 1) := by decide +kernel
theorem dX4_letGuardsHear_18 : decode cX4_letGuardsHear 18 = .ok (.invokevirtual 168, 3) := by decide +kernel
theorem dX4_letGuardsHear_21 : decode cX4_letGuardsHear 21 = .ok (.checkcast 88, 3) := by decide +kernel
theorem dX4_letGuardsHear_24 : decode cX4_letGuardsHear 24 = .ok (.astore_n 3, 1) := by decide +kernel
theorem dX4_letGuardsHear_25 : decode cX4_letGuardsHear 25 = .ok (.aload_n 3, 1) := by decide +kernel
theorem dX4_letGuardsHear_26 : decode cX4_letGuardsHear 26 = .ok (.getfield 252, 3) := by decide +kernel
theorem dX4_letGuardsHear_29 : decode cX4_letGuardsHear 29 = .ok (.ifCond .eq 12, 3) := by decide +kernel
theorem dX4_letGuardsHear_32 : decode cX4_letGuardsHear 32 = .ok (.aload_n 3, 1) := by decide +kernel
theorem dX4_letGuardsHear_33 : decode cX4_letGuardsHear 33 = .ok (.aload_n 1, 1) := by decide +kernel
theorem dX4_letGuardsHear_34 : decode cX4_letGuardsHear 34 = .ok (.aload_n 0, 1) := by decide +kernel
theorem dX4_letGuardsHear_35 : decode cX4_letGuardsHear 35 = .ok (.getfield 25, 3) := by decide +kernel
theorem dX4_letGuardsHear_38 : decode cX4_letGuardsHear 38 = .ok (.invokevirtual 262, 3) := by decide +kernel
theorem dX4_letGuardsHear_41 : decode cX4_letGuardsHear 41 = .ok (.iinc 2 1, 3) := by decide +kernel
theorem dX4_letGuardsHear_44 : decode cX4_letGuardsHear 44 = .ok (.goto (-42), 3) := by decide +kernel
theorem dX4_letGuardsHear_47 : decode cX4_letGuardsHear 47 = .ok (.aload_n 0, 1) := by decide +kernel
theorem dX4_letGuardsHear_48 : decode cX4_letGuardsHear 48 = .ok (.aload_n 1, 1) := by decide +kernel
theorem dX4_letGuardsHear_49 : decode cX4_letGuardsHear 49 = .ok (.getfield 266, 3) := by decide +kernel
theorem dX4_letGuardsHear_52 : decode cX4_letGuardsHear 52 = .ok (.putfield 25, 3) := by decide +kernel
theorem dX4_letGuardsHear_55 : decode cX4_letGuardsHear 55 = .ok (.return_, 1) := by decide +kernel
set_option maxRecDepth 20000 in
theorem ggX4_guardsAwake_Jx4a65c_size_8abf5 : GoodIn wsX4_guardsAwake wsJx4a65c_size_8abf5 := goodIn_r _ [8, 9, 40, 41, 42] (by decide +kernel) (by decide +kernel)
set_option maxRecDepth 20000 in
theorem gX4_guardsAwake_Jx4a65c_size_8abf5 : GoodIn wsX4_guardsAwake (wsV RX4 36 RJx4a65c yJx4a65c_size_8abf5 wsJx4a65c_size_8abf5) := goodIn_app (goodIn_of _ (by decide +kernel)) ggX4_guardsAwake_Jx4a65c_size_8abf5
set_option maxRecDepth 20000 in
theorem ggX4_guardsAwake_Jx4a65c_get_915e3 : GoodIn wsX4_guardsAwake wsJx4a65c_get_915e3 := goodIn_r _ [13, 9, 14, 15, 16, 17, 18, 19, 20, 21, 22, 23, 24, 7, 25, 26, 40, 41, 42] (by decide +kernel) (by decide +kernel)
set_option maxRecDepth 20000 in
theorem gX4_guardsAwake_Jx4a65c_get_915e3 : GoodIn wsX4_guardsAwake (wsV RX4 168 RJx4a65c yJx4a65c_get_915e3 wsJx4a65c_get_915e3) := goodIn_app (goodIn_of _ (by decide +kernel)) ggX4_guardsAwake_Jx4a65c_get_915e3
theorem dX4_guardsAwake_0 : decode cX4_guardsAwake 0 = .ok (.iconst 0, 1) := by decide +kernel
theorem dX4_guardsAwake_1 : decode cX4_guardsAwake 1 = .ok (.istore_n 1, 1) := by decide +kernel
theorem dX4_guardsAwake_2 : decode cX4_guardsAwake 2 = .ok (.iconst 0, 1) := by decide +kernel
theorem dX4_guardsAwake_3 : decode cX4_guardsAwake 3 = .ok (.istore_n 2, 1) := by decide +kernel
theorem dX4_guardsAwake_4 : decode cX4_guardsAwake 4 = .ok (.iload_n 2, 1) := by decide +kernel
theorem dX4_guardsAwake_5 : decode cX4_guardsAwake 5 = .ok (.aload_n 0, 1) := by decide +kernel
theorem dX4_guardsAwake_6 : decode cX4_guardsAwake 6 = .ok (.getfield 16, 3) := by decide +kernel
theorem dX4_guardsAwake_9 : decode cX4_guardsAwake 9 = .ok (.invokevirtual 36, 3) := by decide +kernel
theorem dX4_guardsAwake_12 : decode cX4_guardsAwake 12 = .ok (.if_icmp .ge 29, 3) := by decide +kernel
theorem dX4_guardsAwake_15 : decode cX4_guardsAwake 15 = .ok (.aload_n 0, 1) := by decide +kernel
theorem dX4_guardsAwake_16 : decode cX4_guardsAwake 16 = .ok (.getfield 16, 3) := by decide +kernel
theorem dX4_guardsAwake_19 : decode cX4_guardsAwake 19 = .ok (.iload_n 2, 1) := by decide +kernel
theorem dX4_guardsAwake_20 : decode cX4_guardsAwake 20 = .ok (.invokevirtual 168, 3) := by decide +kernel
theorem dX4_guardsAwake_23 : decode cX4_guardsAwake 23 = .ok (.checkcast 88, 3) := by decide +kernel
theorem dX4_guardsAwake_26 : decode cX4_guardsAwake 26 = .ok (.getfield 252, 3) := by decide +kernel
theorem dX4_guardsAwake_29 : decode cX4_guardsAwake 29 = .ok (.ifCond .eq 6, 3) := by decide +kernel
theorem dX4_guardsAwake_32 : decode cX4_guardsAwake 32 = .ok (.iinc 1 1, 3) := by decide +kernel
theorem dX4_guardsAwake_35 : decode cX4_guardsAwake 35 = .ok (.iinc 2 1, 3) := by decide +kernel
theorem dX4_guardsAwake_38 : decode cX4_guardsAwake 38 = .ok (.goto (-34), 3) := by decide +kernel
theorem dX4_guardsAwake_41 : decode cX4_guardsAwake 41 = .ok (.iload_n 1, 1) := by decide +kernel
theorem dX4_guardsAwake_42 : decode cX4_guardsAwake 42 = .ok (.ireturn, 1) := by decide +kernel
set_option maxRecDepth 20000 in
theorem ggX4_travellersInState_Jx4a65c_size_8abf5 : GoodIn wsX4_travellersInState wsJx4a65c_size_8abf5 := goodIn_r _ [8, 9, 41, 42, 43] (by decide +kernel) (by decide +kernel)
set_option maxRecDepth 20000 in
theorem gX4_travellersInState_Jx4a65c_size_8abf5 : GoodIn wsX4_travellersInState (wsV RX4 36 RJx4a65c yJx4a65c_size_8abf5 wsJx4a65c_size_8abf5) := goodIn_app (goodIn_of _ (by decide +kernel)) ggX4_travellersInState_Jx4a65c_size_8abf5
set_option maxRecDepth 20000 in
theorem ggX4_travellersInState_Jx4a65c_get_915e3 : GoodIn wsX4_travellersInState wsJx4a65c_get_915e3 := goodIn_r _ [13, 9, 14, 15, 16, 17, 18, 19, 20, 21, 22, 23, 24, 7, 25, 26, 41, 42, 43] (by decide +kernel) (by decide +kernel)
set_option maxRecDepth 20000 in
theorem gX4_travellersInState_Jx4a65c_get_915e3 : GoodIn wsX4_travellersInState (wsV RX4 168 RJx4a65c yJx4a65c_get_915e3 wsJx4a65c_get_915e3) := goodIn_app (goodIn_of _ (by decide +kernel)) ggX4_travellersInState_Jx4a65c_get_915e3
theorem dX4_travellersInState_0 : decode cX4_travellersInState 0 = .ok (.iconst 0, 1) := by decide +kernel
theorem dX4_travellersInState_1 : decode cX4_travellersInState 1 = .ok (.istore_n 2, 1) := by decide +kernel
theorem dX4_travellersInState_2 : decode cX4_travellersInState 2 = .ok (.iconst 0, 1) := by decide +kernel
theorem dX4_travellersInState_3 : decode cX4_travellersInState 3 = .ok (.istore_n 3, 1) := by decide +kernel
theorem dX4_travellersInState_4 : decode cX4_travellersInState 4 = .ok (.iload_n 3, 1) := by decide +kernel
theorem dX4_travellersInState_5 : decode cX4_travellersInState 5 = .ok (.aload_n 0, 1) := by decide +kernel
theorem dX4_travellersInState_6 : decode cX4_travellersInState 6 = .ok (.getfield 19, 3) := by decide +kernel
theorem dX4_travellersInState_9 : decode cX4_travellersInState 9 = .ok (.invokevirtual 36, 3) := by decide +kernel
theorem dX4_travellersInState_12 : decode cX4_travellersInState 12 = .ok (.if_icmp .ge 30, 3) := by decide +kernel
theorem dX4_travellersInState_15 : decode cX4_travellersInState 15 = .ok (.aload_n 0, 1) := by decide +kernel
theorem dX4_travellersInState_16 : decode cX4_travellersInState 16 = .ok (.getfield 19, 3) := by decide +kernel
theorem dX4_travellersInState_19 : decode cX4_travellersInState 19 = .ok (.iload_n 3, 1) := by decide +kernel
theorem dX4_travellersInState_20 : decode cX4_travellersInState 20 = .ok (.invokevirtual 168, 3) := by decide +kernel
theorem dX4_travellersInState_23 : decode cX4_travellersInState 23 = .ok (.checkcast 95, 3) := by decide +kernel
theorem dX4_travellersInState_26 : decode cX4_travellersInState 26 = .ok (.getfield 148, 3) := by decide +kernel
theorem dX4_travellersInState_29 : decode cX4_travellersInState 29 = .ok (.iload_n 1, 1) := by decide +kernel
theorem dX4_travellersInState_30 : decode cX4_travellersInState 30 = .ok (.if_icmp .ne 6, 3) := by decide +kernel
theorem dX4_travellersInState_33 : decode cX4_travellersInState 33 = .ok (.iinc 2 1, 3) := by decide +kernel
theorem dX4_travellersInState_36 : decode cX4_travellersInState 36 = .ok (.iinc 3 1, 3) := by decide +kernel
theorem dX4_travellersInState_39 : decode cX4_travellersInState 39 = .ok (.goto (-35), 3) := by decide +kernel
theorem dX4_travellersInState_42 : decode cX4_travellersInState 42 = .ok (.iload_n 2, 1) := by decide +kernel
theorem dX4_travellersInState_43 : decode cX4_travellersInState 43 = .ok (.ireturn, 1) := by decide +kernel
set_option maxRecDepth 20000 in
theorem ggX4_openPlots_Jx4a65c_size_8abf5 : GoodIn wsX4_openPlots wsJx4a65c_size_8abf5 := goodIn_r _ [7, 8, 42, 43, 44] (by decide +kernel) (by decide +kernel)
set_option maxRecDepth 20000 in
theorem gX4_openPlots_Jx4a65c_size_8abf5 : GoodIn wsX4_openPlots (wsV RX4 36 RJx4a65c yJx4a65c_size_8abf5 wsJx4a65c_size_8abf5) := goodIn_app (goodIn_of _ (by decide +kernel)) ggX4_openPlots_Jx4a65c_size_8abf5
set_option maxRecDepth 20000 in
theorem ggX4_openPlots_Jx4a65c_get_915e3 : GoodIn wsX4_openPlots wsJx4a65c_get_915e3 := goodIn_r _ [12, 8, 13, 14, 15, 16, 17, 18, 19, 20, 21, 22, 23, 6, 24, 25, 42, 43, 44] (by decide +kernel) (by decide +kernel)
set_option maxRecDepth 20000 in
theorem gX4_openPlots_Jx4a65c_get_915e3 : GoodIn wsX4_openPlots (wsV RX4 168 RJx4a65c yJx4a65c_get_915e3 wsJx4a65c_get_915e3) := goodIn_app (goodIn_of _ (by decide +kernel)) ggX4_openPlots_Jx4a65c_get_915e3
set_option maxRecDepth 20000 in
theorem ggX4_openPlots_X1_isOpen : GoodIn wsX4_openPlots wsX1_isOpen := goodIn_r _ [30, 31, 32, 45, 46, 47, 48, 49, 50, 51, 52, 53, 54, 55, 56] (by decide +kernel) (by decide +kernel)
set_option maxRecDepth 20000 in
theorem gX4_openPlots_X1_isOpen : GoodIn wsX4_openPlots (wsV RX4 151 RX1 yX1_isOpen wsX1_isOpen) := goodIn_app (goodIn_of _ (by decide +kernel)) ggX4_openPlots_X1_isOpen
theorem dX4_openPlots_0 : decode cX4_openPlots 0 = .ok (.iconst 0, 1) := by decide +kernel
theorem dX4_openPlots_1 : decode cX4_openPlots 1 = .ok (.istore_n 1, 1) := by decide +kernel
theorem dX4_openPlots_2 : decode cX4_openPlots 2 = .ok (.iconst 0, 1) := by decide +kernel
theorem dX4_openPlots_3 : decode cX4_openPlots 3 = .ok (.istore_n 2, 1) := by decide +kernel
theorem dX4_openPlots_4 : decode cX4_openPlots 4 = .ok (.iload_n 2, 1) := by decide +kernel
theorem dX4_openPlots_5 : decode cX4_openPlots 5 = .ok (.aload_n 0, 1) := by decide +kernel
theorem dX4_openPlots_6 : decode cX4_openPlots 6 = .ok (.getfield 22, 3) := by decide +kernel
theorem dX4_openPlots_9 : decode cX4_openPlots 9 = .ok (.invokevirtual 36, 3) := by decide +kernel
theorem dX4_openPlots_12 : decode cX4_openPlots 12 = .ok (.if_icmp .ge 29, 3) := by decide +kernel
theorem dX4_openPlots_15 : decode cX4_openPlots 15 = .ok (.aload_n 0, 1) := by decide +kernel
theorem dX4_openPlots_16 : decode cX4_openPlots 16 = .ok (.getfield 22, 3) := by decide +kernel
theorem dX4_openPlots_19 : decode cX4_openPlots 19 = .ok (.iload_n 2, 1) := by decide +kernel
theorem dX4_openPlots_20 : decode cX4_openPlots 20 = .ok (.invokevirtual 168, 3) := by decide +kernel
theorem dX4_openPlots_23 : decode cX4_openPlots 23 = .ok (.checkcast 118, 3) := by decide +kernel
theorem dX4_openPlots_26 : decode cX4_openPlots 26 = .ok (.invokevirtual 151, 3) := by decide +kernel
theorem dX4_openPlots_29 : decode cX4_openPlots 29 = .ok (.ifCond .eq 6, 3) := by decide +kernel
theorem dX4_openPlots_32 : decode cX4_openPlots 32 = .ok (.iinc 1 1, 3) := by decide +kernel
theorem dX4_openPlots_35 : decode cX4_openPlots 35 = .ok (.iinc 2 1, 3) := by decide +kernel
theorem dX4_openPlots_38 : decode cX4_openPlots 38 = .ok (.goto (-34), 3) := by decide +kernel
theorem dX4_openPlots_41 : decode cX4_openPlots 41 = .ok (.iload_n 1, 1) := by decide +kernel
theorem dX4_openPlots_42 : decode cX4_openPlots 42 = .ok (.ireturn, 1) := by decide +kernel
set_option maxRecDepth 20000 in
theorem ggX4_endingsReservedBy_Jx4a65c_size_8abf5 : GoodIn wsX4_endingsReservedBy wsJx4a65c_size_8abf5 := goodIn_r _ [8, 9, 42, 43, 44] (by decide +kernel) (by decide +kernel)
set_option maxRecDepth 20000 in
theorem gX4_endingsReservedBy_Jx4a65c_size_8abf5 : GoodIn wsX4_endingsReservedBy (wsV RX4 36 RJx4a65c yJx4a65c_size_8abf5 wsJx4a65c_size_8abf5) := goodIn_app (goodIn_of _ (by decide +kernel)) ggX4_endingsReservedBy_Jx4a65c_size_8abf5
set_option maxRecDepth 20000 in
theorem ggX4_endingsReservedBy_Jx4a65c_get_915e3 : GoodIn wsX4_endingsReservedBy wsJx4a65c_get_915e3 := goodIn_r _ [13, 9, 14, 15, 16, 17, 18, 19, 20, 21, 22, 23, 24, 7, 25, 26, 42, 43, 44] (by decide +kernel) (by decide +kernel)
set_option maxRecDepth 20000 in
theorem gX4_endingsReservedBy_Jx4a65c_get_915e3 : GoodIn wsX4_endingsReservedBy (wsV RX4 168 RJx4a65c yJx4a65c_get_915e3 wsJx4a65c_get_915e3) := goodIn_app (goodIn_of _ (by decide +kernel)) ggX4_endingsReservedBy_Jx4a65c_get_915e3
theorem dX4_endingsReservedBy_0 : decode cX4_endingsReservedBy 0 = .ok (.iconst 0, 1) := by decide +kernel
theorem dX4_endingsReservedBy_1 : decode cX4_endingsReservedBy 1 = .ok (.istore_n 2, 1) := by decide +kernel
theorem dX4_endingsReservedBy_2 : decode cX4_endingsReservedBy 2 = .ok (.iconst 0, 1) := by decide +kernel
theorem dX4_endingsReservedBy_3 : decode cX4_endingsReservedBy 3 = .ok (.istore_n 3, 1) := by decide +kernel
theorem dX4_endingsReservedBy_4 : decode cX4_endingsReservedBy 4 = .ok (.iload_n 3, 1) := by decide +kernel
theorem dX4_endingsReservedBy_5 : decode cX4_endingsReservedBy 5 = .ok (.aload_n 0, 1) := by decide +kernel
theorem dX4_endingsReservedBy_6 : decode cX4_endingsReservedBy 6 = .ok (.getfield 22, 3) := by decide +kernel
theorem dX4_endingsReservedBy_9 : decode cX4_endingsReservedBy 9 = .ok (.invokevirtual 36, 3) := by decide +kernel
theorem dX4_endingsReservedBy_12 : decode cX4_endingsReservedBy 12 = .ok (.if_icmp .ge 30, 3) := by decide +kernel
theorem dX4_endingsReservedBy_15 : decode cX4_endingsReservedBy 15 = .ok (.aload_n 0, 1) := by decide +kernel
theorem dX4_endingsReservedBy_16 : decode cX4_endingsReservedBy 16 = .ok (.getfield 22, 3) := by decide +kernel
theorem dX4_endingsReservedBy_19 : decode cX4_endingsReservedBy 19 = .ok (.iload_n 3, 1) := by decide +kernel
theorem dX4_endingsReservedBy_20 : decode cX4_endingsReservedBy 20 = .ok (.invokevirtual 168, 3) := by decide +kernel
theorem dX4_endingsReservedBy_23 : decode cX4_endingsReservedBy 23 = .ok (.checkcast 118, 3) := by decide +kernel
theorem dX4_endingsReservedBy_26 : decode cX4_endingsReservedBy 26 = .ok (.getfield 155, 3) := by decide +kernel
theorem dX4_endingsReservedBy_29 : decode cX4_endingsReservedBy 29 = .ok (.iload_n 1, 1) := by decide +kernel
theorem dX4_endingsReservedBy_30 : decode cX4_endingsReservedBy 30 = .ok (.if_icmp .ne 6, 3) := by decide +kernel
theorem dX4_endingsReservedBy_33 : decode cX4_endingsReservedBy 33 = .ok (.iinc 2 1, 3) := by decide +kernel
theorem dX4_endingsReservedBy_36 : decode cX4_endingsReservedBy 36 = .ok (.iinc 3 1, 3) := by decide +kernel
theorem dX4_endingsReservedBy_39 : decode cX4_endingsReservedBy 39 = .ok (.goto (-35), 3) := by decide +kernel
theorem dX4_endingsReservedBy_42 : decode cX4_endingsReservedBy 42 = .ok (.iload_n 2, 1) := by decide +kernel
theorem dX4_endingsReservedBy_43 : decode cX4_endingsReservedBy 43 = .ok (.ireturn, 1) := by decide +kernel
set_option maxRecDepth 20000 in
theorem ggX4_answerOfGate_Jx4a65c_size_8abf5 : GoodIn wsX4_answerOfGate wsJx4a65c_size_8abf5 := goodIn_r _ [12, 13, 65, 66, 67] (by decide +kernel) (by decide +kernel)
set_option maxRecDepth 20000 in
theorem gX4_answerOfGate_Jx4a65c_size_8abf5 : GoodIn wsX4_answerOfGate (wsV RX4 36 RJx4a65c yJx4a65c_size_8abf5 wsJx4a65c_size_8abf5) := goodIn_app (goodIn_of _ (by decide +kernel)) ggX4_answerOfGate_Jx4a65c_size_8abf5
set_option maxRecDepth 20000 in
theorem ggX4_answerOfGate_X4_guardsAwake : GoodIn wsX4_answerOfGate wsX4_guardsAwake := goodIn_r _ [18, 4, 19, 20, 8, 9, 10, 11, 12, 13, 21, 22, 23, 24, 25, 26, 27, 28, 29, 30, 31, 32, 33, 34, 35, 36, 37, 56, 57, 58, 59, 60, 61, 62, 63, 64, 68, 69, 70, 71, 65, 66, 67] (by decide +kernel) (by decide +kernel)
set_option maxRecDepth 20000 in
theorem gX4_answerOfGate_X4_guardsAwake : GoodIn wsX4_answerOfGate (wsV RX4 165 RX4 yX4_guardsAwake wsX4_guardsAwake) := goodIn_app (goodIn_of _ (by decide +kernel)) ggX4_answerOfGate_X4_guardsAwake
set_option maxRecDepth 20000 in
theorem ggX4_answerOfGate_X4_travellersInState : GoodIn wsX4_answerOfGate wsX4_travellersInState := goodIn_r _ [41, 5, 42, 43, 8, 9, 10, 11, 12, 13, 21, 22, 23, 24, 25, 26, 27, 28, 29, 30, 31, 32, 33, 34, 35, 36, 37, 56, 57, 58, 59, 60, 61, 62, 63, 64, 72, 73, 74, 75, 76, 65, 66, 67] (by decide +kernel) (by decide +kernel)
set_option maxRecDepth 20000 in
theorem gX4_answerOfGate_X4_travellersInState : GoodIn wsX4_answerOfGate (wsV RX4 269 RX4 yX4_travellersInState wsX4_travellersInState) := goodIn_app (goodIn_of _ (by decide +kernel)) ggX4_answerOfGate_X4_travellersInState
set_option maxRecDepth 20000 in
theorem ggX4_answerOfGate_X4_openPlots : GoodIn wsX4_answerOfGate wsX4_openPlots := goodIn_r _ [47, 6, 48, 8, 9, 10, 11, 12, 13, 21, 22, 23, 24, 25, 26, 27, 28, 29, 30, 31, 32, 33, 34, 35, 36, 37, 49, 50, 51, 52, 53, 54, 55, 56, 57, 58, 59, 60, 61, 62, 63, 64, 65, 66, 67, 77, 78, 79, 80, 81, 82, 83, 84, 85, 86, 87, 88] (by decide +kernel) (by decide +kernel)
set_option maxRecDepth 20000 in
theorem gX4_answerOfGate_X4_openPlots : GoodIn wsX4_answerOfGate (wsV RX4 272 RX4 yX4_openPlots wsX4_openPlots) := goodIn_app (goodIn_of _ (by decide +kernel)) ggX4_answerOfGate_X4_openPlots
theorem dX4_answerOfGate_0 : decode cX4_answerOfGate 0 = .ok (.iload_n 1, 1) := by decide +kernel
theorem dX4_answerOfGate_1 : decode cX4_answerOfGate 1 = .ok (.tableswitch 119 0 9 #[55, 60, 68, 73, 81, 86, 94, 100, 106, 114], 55) := by decide +kernel
theorem dX4_answerOfGate_56 : decode cX4_answerOfGate 56 = .ok (.aload_n 0, 1) := by decide +kernel
theorem dX4_answerOfGate_57 : decode cX4_answerOfGate 57 = .ok (.getfield 177, 3) := by decide +kernel
theorem dX4_answerOfGate_60 : decode cX4_answerOfGate 60 = .ok (.ireturn, 1) := by decide +kernel
theorem dX4_answerOfGate_61 : decode cX4_answerOfGate 61 = .ok (.aload_n 0, 1) := by decide +kernel
theorem dX4_answerOfGate_62 : decode cX4_answerOfGate 62 = .ok (.getfield 10, 3) := by decide +kernel
theorem dX4_answerOfGate_65 : decode cX4_answerOfGate 65 = .ok (.invokevirtual 36, 3) := by decide +kernel
theorem dX4_answerOfGate_68 : decode cX4_answerOfGate 68 = .ok (.ireturn, 1) := by decide +kernel
theorem dX4_answerOfGate_69 : decode cX4_answerOfGate 69 = .ok (.aload_n 0, 1) := by decide +kernel
theorem dX4_answerOfGate_70 : decode cX4_answerOfGate 70 = .ok (.getfield 75, 3) := by decide +kernel
theorem dX4_answerOfGate_73 : decode cX4_answerOfGate 73 = .ok (.ireturn, 1) := by decide +kernel
theorem dX4_answerOfGate_74 : decode cX4_answerOfGate 74 = .ok (.aload_n 0, 1) := by decide +kernel
theorem dX4_answerOfGate_75 : decode cX4_answerOfGate 75 = .ok (.getfield 16, 3) := by decide +kernel
theorem dX4_answerOfGate_78 : decode cX4_answerOfGate 78 = .ok (.invokevirtual 36, 3) := by decide +kernel
theorem dX4_answerOfGate_81 : decode cX4_answerOfGate 81 = .ok (.ireturn, 1) := by decide +kernel
theorem dX4_answerOfGate_82 : decode cX4_answerOfGate 82 = .ok (.aload_n 0, 1) := by decide +kernel
theorem dX4_answerOfGate_83 : decode cX4_answerOfGate 83 = .ok (.invokevirtual 165, 3) := by decide +kernel
theorem dX4_answerOfGate_86 : decode cX4_answerOfGate 86 = .ok (.ireturn, 1) := by decide +kernel
theorem dX4_answerOfGate_87 : decode cX4_answerOfGate 87 = .ok (.aload_n 0, 1) := by decide +kernel
theorem dX4_answerOfGate_88 : decode cX4_answerOfGate 88 = .ok (.getfield 19, 3) := by decide +kernel
theorem dX4_answerOfGate_91 : decode cX4_answerOfGate 91 = .ok (.invokevirtual 36, 3) := by decide +kernel
theorem dX4_answerOfGate_94 : decode cX4_answerOfGate 94 = .ok (.ireturn, 1) := by decide +kernel
theorem dX4_answerOfGate_95 : decode cX4_answerOfGate 95 = .ok (.aload_n 0, 1) := by decide +kernel
theorem dX4_answerOfGate_96 : decode cX4_answerOfGate 96 = .ok (.iconst 0, 1) := by decide +kernel
theorem dX4_answerOfGate_97 : decode cX4_answerOfGate 97 = .ok (.invokevirtual 269, 3) := by decide +kernel
theorem dX4_answerOfGate_100 : decode cX4_answerOfGate 100 = .ok (.ireturn, 1) := by decide +kernel
theorem dX4_answerOfGate_101 : decode cX4_answerOfGate 101 = .ok (.aload_n 0, 1) := by decide +kernel
theorem dX4_answerOfGate_102 : decode cX4_answerOfGate 102 = .ok (.iconst 1, 1) := by decide +kernel
theorem dX4_answerOfGate_103 : decode cX4_answerOfGate 103 = .ok (.invokevirtual 269, 3) := by decide +kernel
theorem dX4_answerOfGate_106 : decode cX4_answerOfGate 106 = .ok (.ireturn, 1) := by decide +kernel
theorem dX4_answerOfGate_107 : decode cX4_answerOfGate 107 = .ok (.aload_n 0, 1) := by decide +kernel
theorem dX4_answerOfGate_108 : decode cX4_answerOfGate 108 = .ok (.getfield 22, 3) := by decide +kernel
theorem dX4_answerOfGate_111 : decode cX4_answerOfGate 111 = .ok (.invokevirtual 36, 3) := by decide +kernel
theorem dX4_answerOfGate_114 : decode cX4_answerOfGate 114 = .ok (.ireturn, 1) := by decide +kernel
theorem dX4_answerOfGate_115 : decode cX4_answerOfGate 115 = .ok (.aload_n 0, 1) := by decide +kernel
theorem dX4_answerOfGate_116 : decode cX4_answerOfGate 116 = .ok (.invokevirtual 272, 3) := by decide +kernel
theorem dX4_answerOfGate_119 : decode cX4_answerOfGate 119 = .ok (.ireturn, 1) := by decide +kernel
theorem dX4_answerOfGate_120 : decode cX4_answerOfGate 120 = .ok (.aload_n 0, 1) := by decide +kernel
theorem dX4_answerOfGate_121 : decode cX4_answerOfGate 121 = .ok (.getfield 143, 3) := by decide +kernel
theorem dX4_answerOfGate_124 : decode cX4_answerOfGate 124 = .ok (.ireturn, 1) := by decide +kernel
set_option maxRecDepth 20000 in
theorem ggX4_answerOfTraveller_X4_endingsReservedBy : GoodIn wsX4_answerOfTraveller wsX4_endingsReservedBy := goodIn_r _ [10, 11, 12, 13, 14, 15, 16, 17, 18, 19, 20, 21, 22, 23, 24, 25, 26, 27, 28, 29, 30, 31, 32, 33, 34, 35, 36, 42, 43, 44, 45, 46, 47, 48, 49, 50, 51, 52, 53, 54, 55, 56, 57, 58, 59] (by decide +kernel) (by decide +kernel)
set_option maxRecDepth 20000 in
theorem gX4_answerOfTraveller_X4_endingsReservedBy : GoodIn wsX4_answerOfTraveller (wsV RX4 278 RX4 yX4_endingsReservedBy wsX4_endingsReservedBy) := goodIn_app (goodIn_of _ (by decide +kernel)) ggX4_answerOfTraveller_X4_endingsReservedBy
theorem dX4_answerOfTraveller_0 : decode cX4_answerOfTraveller 0 = .ok (.iload_n 2, 1) := by decide +kernel
theorem dX4_answerOfTraveller_1 : decode cX4_answerOfTraveller 1 = .ok (.tableswitch 51 0 3 #[31, 36, 41, 46], 31) := by decide +kernel
theorem dX4_answerOfTraveller_32 : decode cX4_answerOfTraveller 32 = .ok (.aload_n 1, 1) := by decide +kernel
theorem dX4_answerOfTraveller_33 : decode cX4_answerOfTraveller 33 = .ok (.getfield 275, 3) := by decide +kernel
theorem dX4_answerOfTraveller_36 : decode cX4_answerOfTraveller 36 = .ok (.ireturn, 1) := by decide +kernel
theorem dX4_answerOfTraveller_37 : decode cX4_answerOfTraveller 37 = .ok (.aload_n 1, 1) := by decide +kernel
theorem dX4_answerOfTraveller_38 : decode cX4_answerOfTraveller 38 = .ok (.getfield 139, 3) := by decide +kernel
theorem dX4_answerOfTraveller_41 : decode cX4_answerOfTraveller 41 = .ok (.ireturn, 1) := by decide +kernel
theorem dX4_answerOfTraveller_42 : decode cX4_answerOfTraveller 42 = .ok (.aload_n 1, 1) := by decide +kernel
theorem dX4_answerOfTraveller_43 : decode cX4_answerOfTraveller 43 = .ok (.getfield 148, 3) := by decide +kernel
theorem dX4_answerOfTraveller_46 : decode cX4_answerOfTraveller 46 = .ok (.ireturn, 1) := by decide +kernel
theorem dX4_answerOfTraveller_47 : decode cX4_answerOfTraveller 47 = .ok (.aload_n 1, 1) := by decide +kernel
theorem dX4_answerOfTraveller_48 : decode cX4_answerOfTraveller 48 = .ok (.getfield 136, 3) := by decide +kernel
theorem dX4_answerOfTraveller_51 : decode cX4_answerOfTraveller 51 = .ok (.ireturn, 1) := by decide +kernel
theorem dX4_answerOfTraveller_52 : decode cX4_answerOfTraveller 52 = .ok (.aload_n 0, 1) := by decide +kernel
theorem dX4_answerOfTraveller_53 : decode cX4_answerOfTraveller 53 = .ok (.aload_n 1, 1) := by decide +kernel
theorem dX4_answerOfTraveller_54 : decode cX4_answerOfTraveller 54 = .ok (.getfield 160, 3) := by decide +kernel
theorem dX4_answerOfTraveller_57 : decode cX4_answerOfTraveller 57 = .ok (.invokevirtual 278, 3) := by decide +kernel
theorem dX4_answerOfTraveller_60 : decode cX4_answerOfTraveller 60 = .ok (.ireturn, 1) := by decide +kernel
set_option maxRecDepth 20000 in
theorem ggX4_mostWonderBehind_Jx4a65c_size_8abf5 : GoodIn wsX4_mostWonderBehind wsJx4a65c_size_8abf5 := goodIn_r _ [13, 14, 47, 48, 49] (by decide +kernel) (by decide +kernel)
set_option maxRecDepth 20000 in
theorem gX4_mostWonderBehind_Jx4a65c_size_8abf5 : GoodIn wsX4_mostWonderBehind (wsV RX4 36 RJx4a65c yJx4a65c_size_8abf5 wsJx4a65c_size_8abf5) := goodIn_app (goodIn_of _ (by decide +kernel)) ggX4_mostWonderBehind_Jx4a65c_size_8abf5
set_option maxRecDepth 20000 in
theorem ggX4_mostWonderBehind_Jx4a65c_get_915e3 : GoodIn wsX4_mostWonderBehind wsJx4a65c_get_915e3 := goodIn_r _ [18, 14, 19, 20, 21, 22, 23, 24, 25, 26, 27, 28, 29, 12, 30, 31, 47, 48, 49] (by decide +kernel) (by decide +kernel)
set_option maxRecDepth 20000 in
theorem gX4_mostWonderBehind_Jx4a65c_get_915e3 : GoodIn wsX4_mostWonderBehind (wsV RX4 168 RJx4a65c yJx4a65c_get_915e3 wsJx4a65c_get_915e3) := goodIn_app (goodIn_of _ (by decide +kernel)) ggX4_mostWonderBehind_Jx4a65c_get_915e3
set_option maxRecDepth 20000 in
theorem ggX4_mostWonderBehind_X2_asSet : GoodIn wsX4_mostWonderBehind wsX2_asSet := goodIn_r _ [36, 37, 41, 42, 43, 44, 45, 46] (by decide +kernel) (by decide +kernel)
set_option maxRecDepth 20000 in
theorem gX4_mostWonderBehind_X2_asSet : GoodIn wsX4_mostWonderBehind (wsV RX4 83 RX2 yX2_asSet wsX2_asSet) := goodIn_app (goodIn_of _ (by decide +kernel)) ggX4_mostWonderBehind_X2_asSet
set_option maxRecDepth 20000 in
theorem ggX4_mostWonderBehind_X4_mostWonderBehind : GoodIn wsX4_mostWonderBehind wsX4_mostWonderBehind := goodIn_r _ [0, 1, 2, 3, 4, 5, 6, 7, 8, 9, 10, 11, 12, 13, 14, 15, 16, 17, 18, 19, 20, 21, 22, 23, 24, 25, 26, 27, 28, 29, 30, 31, 32, 33, 34, 35, 36, 37, 38, 39, 40, 41, 42, 43, 44, 45, 46, 47, 48, 49] (by decide +kernel) (by decide +kernel)
set_option maxRecDepth 20000 in
theorem gX4_mostWonderBehind_X4_mostWonderBehind : GoodIn wsX4_mostWonderBehind (va_wsS RX4 228 yX4_mostWonderBehind wsX4_mostWonderBehind) := goodIn_app (goodIn_of _ (by decide +kernel)) ggX4_mostWonderBehind_X4_mostWonderBehind
theorem dX4_mostWonderBehind_0 : decode cX4_mostWonderBehind 0 = .ok (.iload_n 3, 1) := by decide +kernel
theorem dX4_mostWonderBehind_1 : decode cX4_mostWonderBehind 1 = .ok (.ifCond .gt 5, 3) := by decide +kernel
theorem dX4_mostWonderBehind_4 : decode cX4_mostWonderBehind 4 = .ok (.iconst (-1), 1) := by decide +kernel
theorem dX4_mostWonderBehind_5 : decode cX4_mostWonderBehind 5 = .ok (.ireturn, 1) := by decide +kernel
theorem dX4_mostWonderBehind_6 : decode cX4_mostWonderBehind 6 = .ok (.iconst (-1), 1) := by decide +kernel
theorem dX4_mostWonderBehind_7 : decode cX4_mostWonderBehind 7 = .ok (.istore 4, 2) := by decide +kernel
theorem dX4_mostWonderBehind_9 : decode cX4_mostWonderBehind 9 = .ok (.aload_n 1, 1) := by decide +kernel
theorem dX4_mostWonderBehind_10 : decode cX4_mostWonderBehind 10 = .ok (.getfield 80, 3) := by decide +kernel
theorem dX4_mostWonderBehind_13 : decode cX4_mostWonderBehind 13 = .ok (.iload_n 2, 1) := by decide +kernel
theorem dX4_mostWonderBehind_14 : decode cX4_mostWonderBehind 14 = .ok (.iconst (-1), 1) := by decide +kernel
theorem dX4_mostWonderBehind_15 : decode cX4_mostWonderBehind 15 = .ok (.ixor, 1) := by decide +kernel
theorem dX4_mostWonderBehind_16 : decode cX4_mostWonderBehind 16 = .ok (.iand, 1) := by decide +kernel
theorem dX4_mostWonderBehind_17 : decode cX4_mostWonderBehind 17 = .ok (.istore 5, 2) := by decide +kernel
theorem dX4_mostWonderBehind_19 : decode cX4_mostWonderBehind 19 = .ok (.iconst 0, 1) := by decide +kernel
theorem dX4_mostWonderBehind_20 : decode cX4_mostWonderBehind 20 = .ok (.istore 6, 2) := by decide +kernel
theorem dX4_mostWonderBehind_22 : decode cX4_mostWonderBehind 22 = .ok (.iload 6, 2) := by decide +kernel
theorem dX4_mostWonderBehind_24 : decode cX4_mostWonderBehind 24 = .ok (.aload_n 0, 1) := by decide +kernel
theorem dX4_mostWonderBehind_25 : decode cX4_mostWonderBehind 25 = .ok (.invokevirtual 36, 3) := by decide +kernel
theorem dX4_mostWonderBehind_28 : decode cX4_mostWonderBehind 28 = .ok (.if_icmp .ge 89, 3) := by decide +kernel
theorem dX4_mostWonderBehind_31 : decode cX4_mostWonderBehind 31 = .ok (.iload 5, 2) := by decide +kernel
theorem dX4_mostWonderBehind_33 : decode cX4_mostWonderBehind 33 = .ok (.iload 6, 2) := by decide +kernel
theorem dX4_mostWonderBehind_35 : decode cX4_mostWonderBehind 35 = .ok (.ishr, 1) := by decide +kernel
theorem dX4_mostWonderBehind_36 : decode cX4_mostWonderBehind 36 = .ok (.ifCond .eq 81, 3) := by decide +kernel
theorem dX4_mostWonderBehind_39 : decode cX4_mostWonderBehind 39 = .ok (.iload 5, 2) := by decide +kernel
theorem dX4_mostWonderBehind_41 : decode cX4_mostWonderBehind 41 = .ok (.iload 6, 2) := by decide +kernel
theorem dX4_mostWonderBehind_43 : decode cX4_mostWonderBehind 43 = .ok (.ishr, 1) := by decide +kernel
theorem dX4_mostWonderBehind_44 : decode cX4_mostWonderBehind 44 = .ok (.iconst 1, 1) := by decide +kernel
theorem dX4_mostWonderBehind_45 : decode cX4_mostWonderBehind 45 = .ok (.iand, 1) := by decide +kernel
theorem dX4_mostWonderBehind_46 : decode cX4_mostWonderBehind 46 = .ok (.ifCond .eq 65, 3) := by decide +kernel
theorem dX4_mostWonderBehind_49 : decode cX4_mostWonderBehind 49 = .ok (.aload_n 0, 1) := by decide +kernel
theorem dX4_mostWonderBehind_50 : decode cX4_mostWonderBehind 50 = .ok (.iload 6, 2) := by decide +kernel
theorem dX4_mostWonderBehind_52 : decode cX4_mostWonderBehind 52 = .ok (.invokevirtual 168, 3) := by decide +kernel
theorem dX4_mostWonderBehind_55 : decode cX4_mostWonderBehind 55 = .ok (.checkcast 45, 3) := by decide +kernel
theorem dX4_mostWonderBehind_58 : decode cX4_mostWonderBehind 58 = .ok (.astore 7, 2) := by decide +kernel
theorem dX4_mostWonderBehind_60 : decode cX4_mostWonderBehind 60 = .ok (.aload 7, 2) := by decide +kernel
theorem dX4_mostWonderBehind_62 : decode cX4_mostWonderBehind 62 = .ok (.getfield 63, 3) := by decide +kernel
theorem dX4_mostWonderBehind_65 : decode cX4_mostWonderBehind 65 = .ok (.iconst 2, 1) := by decide +kernel
theorem dX4_mostWonderBehind_66 : decode cX4_mostWonderBehind 66 = .ok (.if_icmp .ne 7, 3) := by decide +kernel
theorem dX4_mostWonderBehind_69 : decode cX4_mostWonderBehind 69 = .ok (.iconst 0, 1) := by decide +kernel
theorem dX4_mostWonderBehind_70 : decode cX4_mostWonderBehind 70 = .ok (.goto 19, 3) := by decide +kernel
theorem dX4_mostWonderBehind_73 : decode cX4_mostWonderBehind 73 = .ok (.aload_n 0, 1) := by decide +kernel
theorem dX4_mostWonderBehind_74 : decode cX4_mostWonderBehind 74 = .ok (.aload 7, 2) := by decide +kernel
theorem dX4_mostWonderBehind_76 : decode cX4_mostWonderBehind 76 = .ok (.iload_n 2, 1) := by decide +kernel
theorem dX4_mostWonderBehind_77 : decode cX4_mostWonderBehind 77 = .ok (.aload 7, 2) := by decide +kernel
theorem dX4_mostWonderBehind_79 : decode cX4_mostWonderBehind 79 = .ok (.invokevirtual 83, 3) := by decide +kernel
theorem dX4_mostWonderBehind_82 : decode cX4_mostWonderBehind 82 = .ok (.ior, 1) := by decide +kernel
theorem dX4_mostWonderBehind_83 : decode cX4_mostWonderBehind 83 = .ok (.iload_n 3, 1) := by decide +kernel
theorem dX4_mostWonderBehind_84 : decode cX4_mostWonderBehind 84 = .ok (.iconst 1, 1) := by decide +kernel
theorem dX4_mostWonderBehind_85 : decode cX4_mostWonderBehind 85 = .ok (.isub, 1) := by decide +kernel
theorem dX4_mostWonderBehind_86 : decode cX4_mostWonderBehind 86 = .ok (.invokestatic 228, 3) := by decide +kernel
theorem dX4_mostWonderBehind_89 : decode cX4_mostWonderBehind 89 = .ok (.istore 8, 2) := by decide +kernel
theorem dX4_mostWonderBehind_91 : decode cX4_mostWonderBehind 91 = .ok (.iload 8, 2) := by decide +kernel
theorem dX4_mostWonderBehind_93 : decode cX4_mostWonderBehind 93 = .ok (.ifCond .lt 18, 3) := by decide +kernel
theorem dX4_mostWonderBehind_96 : decode cX4_mostWonderBehind 96 = .ok (.iload 4, 2) := by decide +kernel
theorem dX4_mostWonderBehind_98 : decode cX4_mostWonderBehind 98 = .ok (.aload 7, 2) := by decide +kernel
theorem dX4_mostWonderBehind_100 : decode cX4_mostWonderBehind 100 = .ok (.getfield 281, 3) := by decide +kernel
theorem dX4_mostWonderBehind_103 : decode cX4_mostWonderBehind 103 = .ok (.iload 8, 2) := by decide +kernel
theorem dX4_mostWonderBehind_105 : decode cX4_mostWonderBehind 105 = .ok (.iadd, 1) := by decide +kernel
theorem dX4_mostWonderBehind_106 : decode cX4_mostWonderBehind 106 = .ok (.invokestatic 256, 3) := by decide +kernel
theorem dX4_mostWonderBehind_109 : decode cX4_mostWonderBehind 109 = .ok (.istore 4, 2) := by decide +kernel
theorem dX4_mostWonderBehind_111 : decode cX4_mostWonderBehind 111 = .ok (.iinc 6 1, 3) := by decide +kernel
theorem dX4_mostWonderBehind_114 : decode cX4_mostWonderBehind 114 = .ok (.goto (-92), 3) := by decide +kernel
theorem dX4_mostWonderBehind_117 : decode cX4_mostWonderBehind 117 = .ok (.iload 4, 2) := by decide +kernel
theorem dX4_mostWonderBehind_119 : decode cX4_mostWonderBehind 119 = .ok (.ireturn, 1) := by decide +kernel
