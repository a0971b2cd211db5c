theorem dX5_init_0 : decode cX5_init 0 = .ok (.aload_n 0, 1) := by decide +kernel
theorem dX5_init_1 : decode cX5_init 1 = .ok (.invokespecial 1, 3) := by decide +kernel
theorem dX5_init_4 : decode cX5_init 4 = .ok (.aload_n 0, 1) := by decide +kernel
theorem dX5_init_5 : decode cX5_init 5 = .ok (.bipush 24, 2) := by decide +kernel
theorem dX5_init_7 : decode cX5_init 7 = .ok (.newarray .int, 2) := by decide +kernel
theorem dX5_init_9 : decode cX5_init 9 = .ok (.putfield 9, 3) := by decide +kernel
theorem dX5_init_12 : decode cX5_init 12 = .ok (.aload_n 0, 1) := by decide +kernel
theorem dX5_init_13 : decode cX5_init 13 = .ok (.bipush 24, 2) := by decide +kernel
theorem dX5_init_15 : decode cX5_init 15 = .ok (.newarray .int, 2) := by decide +kernel
theorem dX5_init_17 : decode cX5_init 17 = .ok (.putfield 13, 3) := by decide +kernel
theorem dX5_init_20 : decode cX5_init 20 = .ok (.aload_n 0, 1) := by decide +kernel
theorem dX5_init_21 : decode cX5_init 21 = .ok (.bipush 24, 2) := by decide +kernel
theorem dX5_init_23 : decode cX5_init 23 = .ok (.newarray .int, 2) := by decide +kernel
theorem dX5_init_25 : decode cX5_init 25 = .ok (.putfield 16, 3) := by decide +kernel
theorem dX5_init_28 : decode cX5_init 28 = .ok (.aload_n 0, 1) := by decide +kernel
theorem dX5_init_29 : decode cX5_init 29 = .ok (.bipush 24, 2) := by decide +kernel
theorem dX5_init_31 : decode cX5_init 31 = .ok (.newarray .int, 2) := by decide +kernel
theorem dX5_init_33 : decode cX5_init 33 = .ok (.putfield 19, 3) := by decide +kernel
theorem dX5_init_36 : decode cX5_init 36 = .ok (.aload_n 0, 1) := by decide +kernel
theorem dX5_init_37 : decode cX5_init 37 = .ok (.bipush 24, 2) := by decide +kernel
theorem dX5_init_39 : decode cX5_init 39 = .ok (.newarray .int, 2) := by decide +kernel
theorem dX5_init_41 : decode cX5_init 41 = .ok (.putfield 22, 3) := by decide +kernel
theorem dX5_init_44 : decode cX5_init 44 = .ok (.aload_n 0, 1) := by decide +kernel
theorem dX5_init_45 : decode cX5_init 45 = .ok (.iconst (-1), 1) := by decide +kernel
theorem dX5_init_46 : decode cX5_init 46 = .ok (.putfield 25, 3) := by decide +kernel
theorem dX5_init_49 : decode cX5_init 49 = .ok (.aload_n 0, 1) := by decide +kernel
theorem dX5_init_50 : decode cX5_init 50 = .ok (.iconst 4, 1) := by decide +kernel
theorem dX5_init_51 : decode cX5_init 51 = .ok (.newarray .int, 2) := by decide +kernel
theorem dX5_init_53 : decode cX5_init 53 = .ok (.putfield 29, 3) := by decide +kernel
theorem dX5_init_56 : decode cX5_init 56 = .ok (.aload_n 0, 1) := by decide +kernel
theorem dX5_init_57 : decode cX5_init 57 = .ok (.iconst 4, 1) := by decide +kernel
theorem dX5_init_58 : decode cX5_init 58 = .ok (.newarray .int, 2) := by decide +kernel
theorem dX5_init_60 : decode cX5_init 60 = .ok (.putfield 32, 3) := by decide +kernel
theorem dX5_init_63 : decode cX5_init 63 = .ok (.aload_n 0, 1) := by decide +kernel
theorem dX5_init_64 : decode cX5_init 64 = .ok (.bipush 96, 2) := by decide +kernel
theorem dX5_init_66 : decode cX5_init 66 = .ok (.newarray .int, 2) := by decide +kernel
theorem dX5_init_68 : decode cX5_init 68 = .ok (.putfield 35, 3) := by decide +kernel
theorem dX5_init_71 : decode cX5_init 71 = .ok (.aload_n 0, 1) := by decide +kernel
theorem dX5_init_72 : decode cX5_init 72 = .ok (.bipush 12, 2) := by decide +kernel
theorem dX5_init_74 : decode cX5_init 74 = .ok (.newarray .int, 2) := by decide +kernel
theorem dX5_init_76 : decode cX5_init 76 = .ok (.putfield 38, 3) := by decide +kernel
theorem dX5_init_79 : decode cX5_init 79 = .ok (.aload_n 0, 1) := by decide +kernel
theorem dX5_init_80 : decode cX5_init 80 = .ok (.bipush 12, 2) := by decide +kernel
theorem dX5_init_82 : decode cX5_init 82 = .ok (.newarray .int, 2) := by decide +kernel
theorem dX5_init_84 : decode cX5_init 84 = .ok (.putfield 41, 3) := by decide +kernel
theorem dX5_init_87 : decode cX5_init 87 = .ok (.aload_n 0, 1) := by decide +kernel
theorem dX5_init_88 : decode cX5_init 88 = .ok (.bipush 12, 2) := by decide +kernel
theorem dX5_init_90 : decode cX5_init 90 = .ok (.newarray .int, 2) := by decide +kernel
theorem dX5_init_92 : decode cX5_init 92 = .ok (.putfield 44, 3) := by decide +kernel
theorem dX5_init_95 : decode cX5_init 95 = .ok (.aload_n 0, 1) := by decide +kernel
theorem dX5_init_96 : decode cX5_init 96 = .ok (.bipush 12, 2) := by decide +kernel
theorem dX5_init_98 : decode cX5_init 98 = .ok (.newarray .int, 2) := by decide +kernel
theorem dX5_init_100 : decode cX5_init 100 = .ok (.putfield 47, 3) := by decide +kernel
theorem dX5_init_103 : decode cX5_init 103 = .ok (.aload_n 0, 1) := by decide +kernel
theorem dX5_init_104 : decode cX5_init 104 = .ok (.bipush 8, 2) := by decide +kernel
theorem dX5_init_106 : decode cX5_init 106 = .ok (.newarray .int, 2) := by decide +kernel
theorem dX5_init_108 : decode cX5_init 108 = .ok (.putfield 50, 3) := by decide +kernel
theorem dX5_init_111 : decode cX5_init 111 = .ok (.aload_n 0, 1) := by decide +kernel
theorem dX5_init_112 : decode cX5_init 112 = .ok (.bipush 64, 2) := by decide +kernel
theorem dX5_init_114 : decode cX5_init 114 = .ok (.newarray .int, 2) := by decide +kernel
theorem dX5_init_116 : decode cX5_init 116 = .ok (.putfield 53, 3) := by decide +kernel
theorem dX5_init_119 : decode cX5_init 119 = .ok (.aload_n 0, 1) := by decide +kernel
theorem dX5_init_120 : decode cX5_init 120 = .ok (.bipush 8, 2) := by decide +kernel
theorem dX5_init_122 : decode cX5_init 122 = .ok (.newarray .int, 2) := by decide +kernel
theorem dX5_init_124 : decode cX5_init 124 = .ok (.putfield 56, 3) := by decide +kernel
theorem dX5_init_127 : decode cX5_init 127 = .ok (.return_, 1) := by decide +kernel
theorem dX5_thrown_0 : decode cX5_thrown 0 = .ok (.aload_n 0, 1) := by decide +kernel
theorem dX5_thrown_1 : decode cX5_thrown 1 = .ok (.getfield 59, 3) := by decide +kernel
theorem dX5_thrown_4 : decode cX5_thrown 4 = .ok (.ireturn, 1) := by decide +kernel
theorem dX5_no_0 : decode cX5_no 0 = .ok (.aload_n 0, 1) := by decide +kernel
theorem dX5_no_1 : decode cX5_no 1 = .ok (.iload_n 1, 1) := by decide +kernel
theorem dX5_no_2 : decode cX5_no 2 = .ok (.putfield 59, 3) := by decide +kernel
theorem dX5_no_5 : decode cX5_no 5 = .ok (.iconst 0, 1) := by decide +kernel
theorem dX5_no_6 : decode cX5_no 6 = .ok (.ireturn, 1) := by decide +kernel
theorem dX5_isIn_0 : decode cX5_isIn 0 = .ok (.iload_n 0, 1) := by decide +kernel
theorem dX5_isIn_1 : decode cX5_isIn 1 = .ok (.iload_n 1, 1) := by decide +kernel
theorem dX5_isIn_2 : decode cX5_isIn 2 = .ok (.if_icmp .lt 12, 3) := by decide +kernel
theorem dX5_isIn_5 : decode cX5_isIn 5 = .ok (.iload_n 0, 1) := by decide +kernel
theorem dX5_isIn_6 : decode cX5_isIn 6 = .ok (.iload_n 2, 1) := by decide +kernel
theorem dX5_isIn_7 : decode cX5_isIn 7 = .ok (.if_icmp .gt 7, 3) := by decide +kernel
theorem dX5_isIn_10 : decode cX5_isIn 10 = .ok (.iconst 1, 1) := by decide +kernel
theorem dX5_isIn_11 : decode cX5_isIn 11 = .ok (.goto 4, 3) := by decide +kernel
theorem dX5_isIn_14 : decode cX5_isIn 14 = .ok (.iconst 0, 1) := by decide +kernel
theorem dX5_isIn_15 : decode cX5_isIn 15 = .ok (.ireturn, 1) := by decide +kernel
set_option maxRecDepth 20000 in
theorem ggX5_isScene_X5_isIn : GoodIn wsX5_isScene wsX5_isIn := goodIn_r _ [5] (by decide +kernel) (by decide +kernel)
set_option maxRecDepth 20000 in
theorem gX5_isScene_X5_isIn : GoodIn wsX5_isScene (va_wsS RX5 65 yX5_isIn wsX5_isIn) := goodIn_app (goodIn_of _ (by decide +kernel)) ggX5_isScene_X5_isIn
theorem dX5_isScene_0 : decode cX5_isScene 0 = .ok (.iload_n 1, 1) := by decide +kernel
theorem dX5_isScene_1 : decode cX5_isScene 1 = .ok (.iconst 0, 1) := by decide +kernel
theorem dX5_isScene_2 : decode cX5_isScene 2 = .ok (.aload_n 0, 1) := by decide +kernel
theorem dX5_isScene_3 : decode cX5_isScene 3 = .ok (.getfield 62, 3) := by decide +kernel
theorem dX5_isScene_6 : decode cX5_isScene 6 = .ok (.iconst 1, 1) := by decide +kernel
theorem dX5_isScene_7 : decode cX5_isScene 7 = .ok (.isub, 1) := by decide +kernel
theorem dX5_isScene_8 : decode cX5_isScene 8 = .ok (.invokestatic 65, 3) := by decide +kernel
theorem dX5_isScene_11 : decode cX5_isScene 11 = .ok (.ireturn, 1) := by decide +kernel
set_option maxRecDepth 20000 in
theorem ggX5_isGuard_X5_isIn : GoodIn wsX5_isGuard wsX5_isIn := goodIn_r _ [5] (by decide +kernel) (by decide +kernel)
set_option maxRecDepth 20000 in
theorem gX5_isGuard_X5_isIn : GoodIn wsX5_isGuard (va_wsS RX5 65 yX5_isIn wsX5_isIn) := goodIn_app (goodIn_of _ (by decide +kernel)) ggX5_isGuard_X5_isIn
theorem dX5_isGuard_0 : decode cX5_isGuard 0 = .ok (.iload_n 1, 1) := by decide +kernel
theorem dX5_isGuard_1 : decode cX5_isGuard 1 = .ok (.iconst 0, 1) := by decide +kernel
theorem dX5_isGuard_2 : decode cX5_isGuard 2 = .ok (.aload_n 0, 1) := by decide +kernel
theorem dX5_isGuard_3 : decode cX5_isGuard 3 = .ok (.getfield 69, 3) := by decide +kernel
theorem dX5_isGuard_6 : decode cX5_isGuard 6 = .ok (.iconst 1, 1) := by decide +kernel
theorem dX5_isGuard_7 : decode cX5_isGuard 7 = .ok (.isub, 1) := by decide +kernel
theorem dX5_isGuard_8 : decode cX5_isGuard 8 = .ok (.invokestatic 65, 3) := by decide +kernel
theorem dX5_isGuard_11 : decode cX5_isGuard 11 = .ok (.ireturn, 1) := by decide +kernel
set_option maxRecDepth 20000 in
theorem ggX5_isTraveller_X5_isIn : GoodIn wsX5_isTraveller wsX5_isIn := goodIn_r _ [5] (by decide +kernel) (by decide +kernel)
set_option maxRecDepth 20000 in
theorem gX5_isTraveller_X5_isIn : GoodIn wsX5_isTraveller (va_wsS RX5 65 yX5_isIn wsX5_isIn) := goodIn_app (goodIn_of _ (by decide +kernel)) ggX5_isTraveller_X5_isIn
theorem dX5_isTraveller_0 : decode cX5_isTraveller 0 = .ok (.iload_n 1, 1) := by decide +kernel
theorem dX5_isTraveller_1 : decode cX5_isTraveller 1 = .ok (.iconst 0, 1) := by decide +kernel
theorem dX5_isTraveller_2 : decode cX5_isTraveller 2 = .ok (.aload_n 0, 1) := by decide +kernel
theorem dX5_isTraveller_3 : decode cX5_isTraveller 3 = .ok (.getfield 72, 3) := by decide +kernel
theorem dX5_isTraveller_6 : decode cX5_isTraveller 6 = .ok (.iconst 1, 1) := by decide +kernel
theorem dX5_isTraveller_7 : decode cX5_isTraveller 7 = .ok (.isub, 1) := by decide +kernel
theorem dX5_isTraveller_8 : decode cX5_isTraveller 8 = .ok (.invokestatic 65, 3) := by decide +kernel
theorem dX5_isTraveller_11 : decode cX5_isTraveller 11 = .ok (.ireturn, 1) := by decide +kernel
set_option maxRecDepth 20000 in
theorem ggX5_isPlot_X5_isIn : GoodIn wsX5_isPlot wsX5_isIn := goodIn_r _ [5] (by decide +kernel) (by decide +kernel)
set_option maxRecDepth 20000 in
theorem gX5_isPlot_X5_isIn : GoodIn wsX5_isPlot (va_wsS RX5 65 yX5_isIn wsX5_isIn) := goodIn_app (goodIn_of _ (by decide +kernel)) ggX5_isPlot_X5_isIn
theorem dX5_isPlot_0 : decode cX5_isPlot 0 = .ok (.iload_n 1, 1) := by decide +kernel
theorem dX5_isPlot_1 : decode cX5_isPlot 1 = .ok (.iconst 0, 1) := by decide +kernel
theorem dX5_isPlot_2 : decode cX5_isPlot 2 = .ok (.aload_n 0, 1) := by decide +kernel
theorem dX5_isPlot_3 : decode cX5_isPlot 3 = .ok (.getfield 75, 3) := by decide +kernel
theorem dX5_isPlot_6 : decode cX5_isPlot 6 = .ok (.iconst 1, 1) := by decide +kernel
theorem dX5_isPlot_7 : decode cX5_isPlot 7 = .ok (.isub, 1) := by decide +kernel
theorem dX5_isPlot_8 : decode cX5_isPlot 8 = .ok (.invokestatic 65, 3) := by decide +kernel
theorem dX5_isPlot_11 : decode cX5_isPlot 11 = .ok (.ireturn, 1) := by decide +kernel
theorem dX5_has_0 : decode cX5_has 0 = .ok (.iload_n 0, 1) := by decide +kernel
theorem dX5_has_1 : decode cX5_has 1 = .ok (.iload_n 1, 1) := by decide +kernel
theorem dX5_has_2 : decode cX5_has 2 = .ok (.ishr, 1) := by decide +kernel
theorem dX5_has_3 : decode cX5_has 3 = .ok (.iconst 1, 1) := by decide +kernel
theorem dX5_has_4 : decode cX5_has 4 = .ok (.iand, 1) := by decide +kernel
theorem dX5_has_5 : decode cX5_has 5 = .ok (.iconst 1, 1) := by decide +kernel
theorem dX5_has_6 : decode cX5_has 6 = .ok (.if_icmp .ne 7, 3) := by decide +kernel
theorem dX5_has_9 : decode cX5_has 9 = .ok (.iconst 1, 1) := by decide +kernel
theorem dX5_has_10 : decode cX5_has 10 = .ok (.goto 4, 3) := by decide +kernel
theorem dX5_has_13 : decode cX5_has 13 = .ok (.iconst 0, 1) := by decide +kernel
theorem dX5_has_14 : decode cX5_has 14 = .ok (.ireturn, 1) := by decide +kernel
set_option maxRecDepth 20000 in
theorem ggX5_pairs_J6_bitCount_0f7a4 : GoodIn wsX5_pairs wsJ6_bitCount_0f7a4 := goodIn_r _ [6, 7, 8, 9] (by decide +kernel) (by decide +kernel)
set_option maxRecDepth 20000 in
theorem gX5_pairs_J6_bitCount_0f7a4 : GoodIn wsX5_pairs (va_wsS RX5 78 yJ6_bitCount_0f7a4 wsJ6_bitCount_0f7a4) := goodIn_app (goodIn_of _ (by decide +kernel)) ggX5_pairs_J6_bitCount_0f7a4
theorem dX5_pairs_0 : decode cX5_pairs 0 = .ok (.iconst 0, 1) := by decide +kernel
theorem dX5_pairs_1 : decode cX5_pairs 1 = .ok (.istore_n 1, 1) := by decide +kernel
theorem dX5_pairs_2 : decode cX5_pairs 2 = .ok (.iconst 0, 1) := by decide +kernel
theorem dX5_pairs_3 : decode cX5_pairs 3 = .ok (.istore_n 2, 1) := by decide +kernel
theorem dX5_pairs_4 : decode cX5_pairs 4 = .ok (.iload_n 2, 1) := by decide +kernel
theorem dX5_pairs_5 : decode cX5_pairs 5 = .ok (.aload_n 0, 1) := by decide +kernel
theorem dX5_pairs_6 : decode cX5_pairs 6 = .ok (.getfield 62, 3) := by decide +kernel
theorem dX5_pairs_9 : decode cX5_pairs 9 = .ok (.if_icmp .ge 21, 3) := by decide +kernel
theorem dX5_pairs_12 : decode cX5_pairs 12 = .ok (.iload_n 1, 1) := by decide +kernel
theorem dX5_pairs_13 : decode cX5_pairs 13 = .ok (.aload_n 0, 1) := by decide +kernel
theorem dX5_pairs_14 : decode cX5_pairs 14 = .ok (.getfield 19, 3) := by decide +kernel
theorem dX5_pairs_17 : decode cX5_pairs 17 = .ok (.iload_n 2, 1) := by decide +kernel
theorem dX5_pairs_18 : decode cX5_pairs 18 = .ok (.iaload, 1) := by decide +kernel
theorem dX5_pairs_19 : decode cX5_pairs 19 = .ok (.invokestatic 78, 3) := by decide +kernel
theorem dX5_pairs_22 : decode cX5_pairs 22 = .ok (.iadd, 1) := by decide +kernel
theorem dX5_pairs_23 : decode cX5_pairs 23 = .ok (.istore_n 1, 1) := by decide +kernel
theorem dX5_pairs_24 : decode cX5_pairs 24 = .ok (.iinc 2 1, 3) := by decide +kernel
theorem dX5_pairs_27 : decode cX5_pairs 27 = .ok (.goto (-23), 3) := by decide +kernel
theorem dX5_pairs_30 : decode cX5_pairs 30 = .ok (.iload_n 1, 1) := by decide +kernel
theorem dX5_pairs_31 : decode cX5_pairs 31 = .ok (.ireturn, 1) := by decide +kernel
set_option maxRecDepth 20000 in
theorem ggX5_make_X5_isIn : GoodIn wsX5_make wsX5_isIn := goodIn_r _ [9] (by decide +kernel) (by decide +kernel)
set_option maxRecDepth 20000 in
theorem gX5_make_X5_isIn : GoodIn wsX5_make (va_wsS RX5 65 yX5_isIn wsX5_isIn) := goodIn_app (goodIn_of _ (by decide +kernel)) ggX5_make_X5_isIn
set_option maxRecDepth 20000 in
theorem ggX5_make_X5_no : GoodIn wsX5_make wsX5_no := goodIn_r _ [13, 1, 14, 15, 16, 17, 18, 19, 20, 21, 22, 23, 24, 25, 26, 27, 28, 29, 30, 31, 32, 33, 34, 35, 36] (by decide +kernel) (by decide +kernel)
set_option maxRecDepth 20000 in
theorem gX5_make_X5_no : GoodIn wsX5_make (wsV RX5 84 RX5 yX5_no wsX5_no) := goodIn_app (goodIn_of _ (by decide +kernel)) ggX5_make_X5_no
theorem dX5_make_0 : decode cX5_make 0 = .ok (.aload_n 0, 1) := by decide +kernel
theorem dX5_make_1 : decode cX5_make 1 = .ok (.iconst 0, 1) := by decide +kernel
theorem dX5_make_2 : decode cX5_make 2 = .ok (.putfield 59, 3) := by decide +kernel
theorem dX5_make_5 : decode cX5_make 5 = .ok (.iload_n 1, 1) := by decide +kernel
theorem dX5_make_6 : decode cX5_make 6 = .ok (.iconst 0, 1) := by decide +kernel
theorem dX5_make_7 : decode cX5_make 7 = .ok (.iconst 2, 1) := by decide +kernel
theorem dX5_make_8 : decode cX5_make 8 = .ok (.invokestatic 65, 3) := by decide +kernel
theorem dX5_make_11 : decode cX5_make 11 = .ok (.ifCond .eq 22, 3) := by decide +kernel
theorem dX5_make_14 : decode cX5_make 14 = .ok (.iload_n 2, 1) := by decide +kernel
theorem dX5_make_15 : decode cX5_make 15 = .ok (.iconst 1, 1) := by decide +kernel
theorem dX5_make_16 : decode cX5_make 16 = .ok (.bipush 20, 2) := by decide +kernel
theorem dX5_make_18 : decode cX5_make 18 = .ok (.invokestatic 65, 3) := by decide +kernel
theorem dX5_make_21 : decode cX5_make 21 = .ok (.ifCond .eq 12, 3) := by decide +kernel
theorem dX5_make_24 : decode cX5_make 24 = .ok (.iload_n 3, 1) := by decide +kernel
theorem dX5_make_25 : decode cX5_make 25 = .ok (.iconst 0, 1) := by decide +kernel
theorem dX5_make_26 : decode cX5_make 26 = .ok (.iconst 5, 1) := by decide +kernel
theorem dX5_make_27 : decode cX5_make 27 = .ok (.invokestatic 65, 3) := by decide +kernel
theorem dX5_make_30 : decode cX5_make 30 = .ok (.ifCond .ne 9, 3) := by decide +kernel
theorem dX5_make_33 : decode cX5_make 33 = .ok (.aload_n 0, 1) := by decide +kernel
theorem dX5_make_34 : decode cX5_make 34 = .ok (.iconst 1, 1) := by decide +kernel
theorem dX5_make_35 : decode cX5_make 35 = .ok (.invokevirtual 84, 3) := by decide +kernel
theorem dX5_make_38 : decode cX5_make 38 = .ok (.ireturn, 1) := by decide +kernel
theorem dX5_make_39 : decode cX5_make 39 = .ok (.aload_n 0, 1) := by decide +kernel
theorem dX5_make_40 : decode cX5_make 40 = .ok (.getfield 62, 3) := by decide +kernel
theorem dX5_make_43 : decode cX5_make 43 = .ok (.bipush 24, 2) := by decide +kernel
theorem dX5_make_45 : decode cX5_make 45 = .ok (.if_icmp .ne 9, 3) := by decide +kernel
theorem dX5_make_48 : decode cX5_make 48 = .ok (.aload_n 0, 1) := by decide +kernel
theorem dX5_make_49 : decode cX5_make 49 = .ok (.iconst 2, 1) := by decide +kernel
theorem dX5_make_50 : decode cX5_make 50 = .ok (.invokevirtual 84, 3) := by decide +kernel
theorem dX5_make_53 : decode cX5_make 53 = .ok (.ireturn, 1) := by decide +kernel
theorem dX5_make_54 : decode cX5_make 54 = .ok (.aload_n 0, 1) := by decide +kernel
theorem dX5_make_55 : decode cX5_make 55 = .ok (.getfield 9, 3) := by decide +kernel
theorem dX5_make_58 : decode cX5_make 58 = .ok (.aload_n 0, 1) := by decide +kernel
theorem dX5_make_59 : decode cX5_make 59 = .ok (.getfield 62, 3) := by decide +kernel
theorem dX5_make_62 : decode cX5_make 62 = .ok (.iload_n 1, 1) := by decide +kernel
theorem dX5_make_63 : decode cX5_make 63 = .ok (.iastore, 1) := by decide +kernel
theorem dX5_make_64 : decode cX5_make 64 = .ok (.aload_n 0, 1) := by decide +kernel
theorem dX5_make_65 : decode cX5_make 65 = .ok (.getfield 13, 3) := by decide +kernel
theorem dX5_make_68 : decode cX5_make 68 = .ok (.aload_n 0, 1) := by decide +kernel
theorem dX5_make_69 : decode cX5_make 69 = .ok (.getfield 62, 3) := by decide +kernel
theorem dX5_make_72 : decode cX5_make 72 = .ok (.iload_n 2, 1) := by decide +kernel
theorem dX5_make_73 : decode cX5_make 73 = .ok (.iastore, 1) := by decide +kernel
theorem dX5_make_74 : decode cX5_make 74 = .ok (.aload_n 0, 1) := by decide +kernel
theorem dX5_make_75 : decode cX5_make 75 = .ok (.getfield 16, 3) := by decide +kernel
theorem dX5_make_78 : decode cX5_make 78 = .ok (.aload_n 0, 1) := by decide +kernel
theorem dX5_make_79 : decode cX5_make 79 = .ok (.getfield 62, 3) := by decide +kernel
theorem dX5_make_82 : decode cX5_make 82 = .ok (.iload_n 3, 1) := by decide +kernel
theorem dX5_make_83 : decode cX5_make 83 = .ok (.iastore, 1) := by decide +kernel
theorem dX5_make_84 : decode cX5_make 84 = .ok (.aload_n 0, 1) := by decide +kernel
theorem dX5_make_85 : decode cX5_make 85 = .ok (.dup, 1) := by decide +kernel
theorem dX5_make_86 : decode cX5_make 86 = .ok (.getfield 62, 3) := by decide +kernel
theorem dX5_make_89 : decode cX5_make 89 = .ok (.iconst 1, 1) := by decide +kernel
theorem dX5_make_90 : decode cX5_make 90 = .ok (.iadd, 1) := by decide +kernel
theorem dX5_make_91 : decode cX5_make 91 = .ok (.putfield 62, 3) := by decide +kernel
theorem dX5_make_94 : decode cX5_make 94 = .ok (.aload_n 0, 1) := by decide +kernel
theorem dX5_make_95 : decode cX5_make 95 = .ok (.getfield 62, 3) := by decide +kernel
theorem dX5_make_98 : decode cX5_make 98 = .ok (.iconst 1, 1) := by decide +kernel
theorem dX5_make_99 : decode cX5_make 99 = .ok (.isub, 1) := by decide +kernel
theorem dX5_make_100 : decode cX5_make 100 = .ok (.ireturn, 1) := by decide +kernel
set_option maxRecDepth 20000 in
theorem ggX5_follow_X5_isScene : GoodIn wsX5_follow wsX5_isScene := goodIn_r _ [8, 9, 10, 11, 7, 12, 31, 32, 33, 34, 35, 36, 37, 38, 39, 40, 41, 42, 43, 44, 45, 46, 47, 48, 49, 50, 51, 52, 53] (by decide +kernel) (by decide +kernel)
set_option maxRecDepth 20000 in
theorem gX5_follow_X5_isScene : GoodIn wsX5_follow (wsV RX5 87 RX5 yX5_isScene wsX5_isScene) := goodIn_app (goodIn_of _ (by decide +kernel)) ggX5_follow_X5_isScene
set_option maxRecDepth 20000 in
theorem ggX5_follow_X5_no : GoodIn wsX5_follow wsX5_no := goodIn_r _ [16, 1, 31, 32, 33, 34, 35, 36, 37, 38, 39, 40, 41, 42, 43, 44, 45, 46, 47, 48, 49, 50, 51, 52, 53] (by decide +kernel) (by decide +kernel)
set_option maxRecDepth 20000 in
theorem gX5_follow_X5_no : GoodIn wsX5_follow (wsV RX5 84 RX5 yX5_no wsX5_no) := goodIn_app (goodIn_of _ (by decide +kernel)) ggX5_follow_X5_no
set_option maxRecDepth 20000 in
theorem ggX5_follow_X5_has : GoodIn wsX5_follow wsX5_has := goodIn_r _ [19] (by decide +kernel) (by decide +kernel)
set_option maxRecDepth 20000 in
theorem gX5_follow_X5_has : GoodIn wsX5_follow (va_wsS RX5 91 yX5_has wsX5_has) := goodIn_app (goodIn_of _ (by decide +kernel)) ggX5_follow_X5_has
set_option maxRecDepth 20000 in
theorem ggX5_follow_X5_pairs : GoodIn wsX5_follow wsX5_pairs := goodIn_r _ [23, 9, 3, 24, 25, 26, 27, 28, 29, 30, 31, 32, 33, 34, 35, 36, 37, 38, 39, 40, 41, 42, 43, 44, 45, 46, 47, 48, 49, 50, 51, 52, 53] (by decide +kernel) (by decide +kernel)
set_option maxRecDepth 20000 in
theorem gX5_follow_X5_pairs : GoodIn wsX5_follow (wsV RX5 95 RX5 yX5_pairs wsX5_pairs) := goodIn_app (goodIn_of _ (by decide +kernel)) ggX5_follow_X5_pairs
theorem dX5_follow_0 : decode cX5_follow 0 = .ok (.aload_n 0, 1) := by decide +kernel
theorem dX5_follow_1 : decode cX5_follow 1 = .ok (.iconst 0, 1) := by decide +kernel
theorem dX5_follow_2 : decode cX5_follow 2 = .ok (.putfield 59, 3) := by decide +kernel
theorem dX5_follow_5 : decode cX5_follow 5 = .ok (.aload_n 0, 1) := by decide +kernel
theorem dX5_follow_6 : decode cX5_follow 6 = .ok (.iload_n 1, 1) := by decide +kernel
theorem dX5_follow_7 : decode cX5_follow 7 = .ok (.invokevirtual 87, 3) := by decide +kernel
theorem dX5_follow_10 : decode cX5_follow 10 = .ok (.ifCond .eq 11, 3) := by decide +kernel
theorem dX5_follow_13 : decode cX5_follow 13 = .ok (.aload_n 0, 1) := by decide +kernel
theorem dX5_follow_14 : decode cX5_follow 14 = .ok (.iload_n 2, 1) := by decide +kernel
theorem dX5_follow_15 : decode cX5_follow 15 = .ok (.invokevirtual 87, 3) := by decide +kernel
theorem dX5_follow_18 : decode cX5_follow 18 = .ok (.ifCond .ne 9, 3) := by decide +kernel
theorem dX5_follow_21 : decode cX5_follow 21 = .ok (.aload_n 0, 1) := by decide +kernel
theorem dX5_follow_22 : decode cX5_follow 22 = .ok (.iconst 1, 1) := by decide +kernel
theorem dX5_follow_23 : decode cX5_follow 23 = .ok (.invokevirtual 84, 3) := by decide +kernel
theorem dX5_follow_26 : decode cX5_follow 26 = .ok (.ireturn, 1) := by decide +kernel
theorem dX5_follow_27 : decode cX5_follow 27 = .ok (.aload_n 0, 1) := by decide +kernel
theorem dX5_follow_28 : decode cX5_follow 28 = .ok (.getfield 9, 3) := by decide +kernel
theorem dX5_follow_31 : decode cX5_follow 31 = .ok (.iload_n 1, 1) := by decide +kernel
theorem dX5_follow_32 : decode cX5_follow 32 = .ok (.iaload, 1) := by decide +kernel
theorem dX5_follow_33 : decode cX5_follow 33 = .ok (.iconst 2, 1) := by decide +kernel
theorem dX5_follow_34 : decode cX5_follow 34 = .ok (.if_icmp .eq 17, 3) := by decide +kernel
theorem dX5_follow_37 : decode cX5_follow 37 = .ok (.aload_n 0, 1) := by decide +kernel
theorem dX5_follow_38 : decode cX5_follow 38 = .ok (.getfield 9, 3) := by decide +kernel
theorem dX5_follow_41 : decode cX5_follow 41 = .ok (.iload_n 2, 1) := by decide +kernel
theorem dX5_follow_42 : decode cX5_follow 42 = .ok (.iaload, 1) := by decide +kernel
theorem dX5_follow_43 : decode cX5_follow 43 = .ok (.ifCond .eq 8, 3) := by decide +kernel
theorem dX5_follow_46 : decode cX5_follow 46 = .ok (.iload_n 1, 1) := by decide +kernel
theorem dX5_follow_47 : decode cX5_follow 47 = .ok (.iload_n 2, 1) := by decide +kernel
theorem dX5_follow_48 : decode cX5_follow 48 = .ok (.if_icmp .ne 9, 3) := by decide +kernel
theorem dX5_follow_51 : decode cX5_follow 51 = .ok (.aload_n 0, 1) := by decide +kernel
theorem dX5_follow_52 : decode cX5_follow 52 = .ok (.iconst 2, 1) := by decide +kernel
theorem dX5_follow_53 : decode cX5_follow 53 = .ok (.invokevirtual 84, 3) := by decide +kernel
theorem dX5_follow_56 : decode cX5_follow 56 = .ok (.ireturn, 1) := by decide +kernel
theorem dX5_follow_57 : decode cX5_follow 57 = .ok (.aload_n 0, 1) := by decide +kernel
theorem dX5_follow_58 : decode cX5_follow 58 = .ok (.getfield 19, 3) := by decide +kernel
theorem dX5_follow_61 : decode cX5_follow 61 = .ok (.iload_n 1, 1) := by decide +kernel
theorem dX5_follow_62 : decode cX5_follow 62 = .ok (.iaload, 1) := by decide +kernel
theorem dX5_follow_63 : decode cX5_follow 63 = .ok (.iload_n 2, 1) := by decide +kernel
theorem dX5_follow_64 : decode cX5_follow 64 = .ok (.invokestatic 91, 3) := by decide +kernel
theorem dX5_follow_67 : decode cX5_follow 67 = .ok (.ifCond .ne 18, 3) := by decide +kernel
theorem dX5_follow_70 : decode cX5_follow 70 = .ok (.aload_n 0, 1) := by decide +kernel
theorem dX5_follow_71 : decode cX5_follow 71 = .ok (.invokevirtual 95, 3) := by decide +kernel
theorem dX5_follow_74 : decode cX5_follow 74 = .ok (.bipush 60, 2) := by decide +kernel
theorem dX5_follow_76 : decode cX5_follow 76 = .ok (.if_icmp .ne 9, 3) := by decide +kernel
theorem dX5_follow_79 : decode cX5_follow 79 = .ok (.aload_n 0, 1) := by decide +kernel
theorem dX5_follow_80 : decode cX5_follow 80 = .ok (.iconst 3, 1) := by decide +kernel
theorem dX5_follow_81 : decode cX5_follow 81 = .ok (.invokevirtual 84, 3) := by decide +kernel
theorem dX5_follow_84 : decode cX5_follow 84 = .ok (.ireturn, 1) := by decide +kernel
theorem dX5_follow_85 : decode cX5_follow 85 = .ok (.aload_n 0, 1) := by decide +kernel
theorem dX5_follow_86 : decode cX5_follow 86 = .ok (.getfield 19, 3) := by decide +kernel
theorem dX5_follow_89 : decode cX5_follow 89 = .ok (.iload_n 1, 1) := by decide +kernel
theorem dX5_follow_90 : decode cX5_follow 90 = .ok (.dup2, 1) := by decide +kernel
theorem dX5_follow_91 : decode cX5_follow 91 = .ok (.iaload, 1) := by decide +kernel
theorem dX5_follow_92 : decode cX5_follow 92 = .ok (.iconst 1, 1) := by decide +kernel
theorem dX5_follow_93 : decode cX5_follow 93 = .ok (.iload_n 2, 1) := by decide +kernel
theorem dX5_follow_94 : decode cX5_follow 94 = .ok (.ishl, 1) := by decide +kernel
theorem dX5_follow_95 : decode cX5_follow 95 = .ok (.ior, 1) := by decide +kernel
theorem dX5_follow_96 : decode cX5_follow 96 = .ok (.iastore, 1) := by decide +kernel
theorem dX5_follow_97 : decode cX5_follow 97 = .ok (.aload_n 0, 1) := by decide +kernel
theorem dX5_follow_98 : decode cX5_follow 98 = .ok (.invokevirtual 95, 3) := by decide +kernel
theorem dX5_follow_101 : decode cX5_follow 101 = .ok (.ireturn, 1) := by decide +kernel
set_option maxRecDepth 20000 in
theorem ggX5_post_X5_no : GoodIn wsX5_post wsX5_no := goodIn_r _ [8, 1, 9, 10, 11, 12, 13, 14, 15, 16, 17, 18, 19, 20, 21, 22, 23, 24, 25, 26, 27, 28, 29, 30, 31] (by decide +kernel) (by decide +kernel)
set_option maxRecDepth 20000 in
theorem gX5_post_X5_no : GoodIn wsX5_post (wsV RX5 84 RX5 yX5_no wsX5_no) := goodIn_app (goodIn_of _ (by decide +kernel)) ggX5_post_X5_no
theorem dX5_post_0 : decode cX5_post 0 = .ok (.aload_n 0, 1) := by decide +kernel
theorem dX5_post_1 : decode cX5_post 1 = .ok (.iconst 0, 1) := by decide +kernel
theorem dX5_post_2 : decode cX5_post 2 = .ok (.putfield 59, 3) := by decide +kernel
theorem dX5_post_5 : decode cX5_post 5 = .ok (.aload_n 0, 1) := by decide +kernel
theorem dX5_post_6 : decode cX5_post 6 = .ok (.getfield 69, 3) := by decide +kernel
theorem dX5_post_9 : decode cX5_post 9 = .ok (.iconst 4, 1) := by decide +kernel
theorem dX5_post_10 : decode cX5_post 10 = .ok (.if_icmp .ne 9, 3) := by decide +kernel
theorem dX5_post_13 : decode cX5_post 13 = .ok (.aload_n 0, 1) := by decide +kernel
theorem dX5_post_14 : decode cX5_post 14 = .ok (.iconst 1, 1) := by decide +kernel
theorem dX5_post_15 : decode cX5_post 15 = .ok (.invokevirtual 84, 3) := by decide +kernel
theorem dX5_post_18 : decode cX5_post 18 = .ok (.ireturn, 1) := by decide +kernel
theorem dX5_post_19 : decode cX5_post 19 = .ok (.aload_n 0, 1) := by decide +kernel
theorem dX5_post_20 : decode cX5_post 20 = .ok (.getfield 32, 3) := by decide +kernel
theorem dX5_post_23 : decode cX5_post 23 = .ok (.aload_n 0, 1) := by decide +kernel
theorem dX5_post_24 : decode cX5_post 24 = .ok (.getfield 69, 3) := by decide +kernel
theorem dX5_post_27 : decode cX5_post 27 = .ok (.bipush 20, 2) := by decide +kernel
theorem dX5_post_29 : decode cX5_post 29 = .ok (.iastore, 1) := by decide +kernel
theorem dX5_post_30 : decode cX5_post 30 = .ok (.aload_n 0, 1) := by decide +kernel
theorem dX5_post_31 : decode cX5_post 31 = .ok (.dup, 1) := by decide +kernel
theorem dX5_post_32 : decode cX5_post 32 = .ok (.getfield 69, 3) := by decide +kernel
theorem dX5_post_35 : decode cX5_post 35 = .ok (.iconst 1, 1) := by decide +kernel
theorem dX5_post_36 : decode cX5_post 36 = .ok (.iadd, 1) := by decide +kernel
theorem dX5_post_37 : decode cX5_post 37 = .ok (.putfield 69, 3) := by decide +kernel
theorem dX5_post_40 : decode cX5_post 40 = .ok (.aload_n 0, 1) := by decide +kernel
theorem dX5_post_41 : decode cX5_post 41 = .ok (.getfield 69, 3) := by decide +kernel
theorem dX5_post_44 : decode cX5_post 44 = .ok (.iconst 1, 1) := by decide +kernel
theorem dX5_post_45 : decode cX5_post 45 = .ok (.isub, 1) := by decide +kernel
theorem dX5_post_46 : decode cX5_post 46 = .ok (.ireturn, 1) := by decide +kernel
set_option maxRecDepth 20000 in
theorem ggX5_come_X5_no : GoodIn wsX5_come wsX5_no := goodIn_r _ [9, 1, 10, 11, 12, 13, 14, 15, 16, 17, 18, 19, 20, 21, 22, 23, 24, 25, 26, 27, 28, 29, 30, 31, 32] (by decide +kernel) (by decide +kernel)
set_option maxRecDepth 20000 in
theorem gX5_come_X5_no : GoodIn wsX5_come (wsV RX5 84 RX5 yX5_no wsX5_no) := goodIn_app (goodIn_of _ (by decide +kernel)) ggX5_come_X5_no
theorem dX5_come_0 : decode cX5_come 0 = .ok (.aload_n 0, 1) := by decide +kernel
theorem dX5_come_1 : decode cX5_come 1 = .ok (.iconst 0, 1) := by decide +kernel
theorem dX5_come_2 : decode cX5_come 2 = .ok (.putfield 59, 3) := by decide +kernel
theorem dX5_come_5 : decode cX5_come 5 = .ok (.iload_n 1, 1) := by decide +kernel
theorem dX5_come_6 : decode cX5_come 6 = .ok (.ifCond .lt 12, 3) := by decide +kernel
theorem dX5_come_9 : decode cX5_come 9 = .ok (.iload_n 1, 1) := by decide +kernel
theorem dX5_come_10 : decode cX5_come 10 = .ok (.aload_n 0, 1) := by decide +kernel
theorem dX5_come_11 : decode cX5_come 11 = .ok (.getfield 62, 3) := by decide +kernel
theorem dX5_come_14 : decode cX5_come 14 = .ok (.ishr, 1) := by decide +kernel
theorem dX5_come_15 : decode cX5_come 15 = .ok (.ifCond .eq 9, 3) := by decide +kernel
theorem dX5_come_18 : decode cX5_come 18 = .ok (.aload_n 0, 1) := by decide +kernel
theorem dX5_come_19 : decode cX5_come 19 = .ok (.iconst 1, 1) := by decide +kernel
theorem dX5_come_20 : decode cX5_come 20 = .ok (.invokevirtual 84, 3) := by decide +kernel
theorem dX5_come_23 : decode cX5_come 23 = .ok (.ireturn, 1) := by decide +kernel
theorem dX5_come_24 : decode cX5_come 24 = .ok (.aload_n 0, 1) := by decide +kernel
theorem dX5_come_25 : decode cX5_come 25 = .ok (.getfield 72, 3) := by decide +kernel
theorem dX5_come_28 : decode cX5_come 28 = .ok (.bipush 12, 2) := by decide +kernel
theorem dX5_come_30 : decode cX5_come 30 = .ok (.if_icmp .ne 9, 3) := by decide +kernel
theorem dX5_come_33 : decode cX5_come 33 = .ok (.aload_n 0, 1) := by decide +kernel
theorem dX5_come_34 : decode cX5_come 34 = .ok (.iconst 2, 1) := by decide +kernel
theorem dX5_come_35 : decode cX5_come 35 = .ok (.invokevirtual 84, 3) := by decide +kernel
theorem dX5_come_38 : decode cX5_come 38 = .ok (.ireturn, 1) := by decide +kernel
theorem dX5_come_39 : decode cX5_come 39 = .ok (.aload_n 0, 1) := by decide +kernel
theorem dX5_come_40 : decode cX5_come 40 = .ok (.getfield 38, 3) := by decide +kernel
theorem dX5_come_43 : decode cX5_come 43 = .ok (.aload_n 0, 1) := by decide +kernel
theorem dX5_come_44 : decode cX5_come 44 = .ok (.getfield 72, 3) := by decide +kernel
theorem dX5_come_47 : decode cX5_come 47 = .ok (.iload_n 1, 1) := by decide +kernel
theorem dX5_come_48 : decode cX5_come 48 = .ok (.iastore, 1) := by decide +kernel
theorem dX5_come_49 : decode cX5_come 49 = .ok (.aload_n 0, 1) := by decide +kernel
theorem dX5_come_50 : decode cX5_come 50 = .ok (.dup, 1) := by decide +kernel
theorem dX5_come_51 : decode cX5_come 51 = .ok (.getfield 72, 3) := by decide +kernel
theorem dX5_come_54 : decode cX5_come 54 = .ok (.iconst 1, 1) := by decide +kernel
theorem dX5_come_55 : decode cX5_come 55 = .ok (.iadd, 1) := by decide +kernel
theorem dX5_come_56 : decode cX5_come 56 = .ok (.putfield 72, 3) := by decide +kernel
theorem dX5_come_59 : decode cX5_come 59 = .ok (.aload_n 0, 1) := by decide +kernel
theorem dX5_come_60 : decode cX5_come 60 = .ok (.getfield 72, 3) := by decide +kernel
theorem dX5_come_63 : decode cX5_come 63 = .ok (.iconst 1, 1) := by decide +kernel
theorem dX5_come_64 : decode cX5_come 64 = .ok (.isub, 1) := by decide +kernel
theorem dX5_come_65 : decode cX5_come 65 = .ok (.ireturn, 1) := by decide +kernel
theorem dX5_last_0 : decode cX5_last 0 = .ok (.aload_n 0, 1) := by decide +kernel
theorem dX5_last_1 : decode cX5_last 1 = .ok (.getfield 53, 3) := by decide +kernel
theorem dX5_last_4 : decode cX5_last 4 = .ok (.bipush 8, 2) := by decide +kernel
theorem dX5_last_6 : decode cX5_last 6 = .ok (.iload_n 1, 1) := by decide +kernel
theorem dX5_last_7 : decode cX5_last 7 = .ok (.imul, 1) := by decide +kernel
theorem dX5_last_8 : decode cX5_last 8 = .ok (.aload_n 0, 1) := by decide +kernel
theorem dX5_last_9 : decode cX5_last 9 = .ok (.getfield 50, 3) := by decide +kernel
theorem dX5_last_12 : decode cX5_last 12 = .ok (.iload_n 1, 1) := by decide +kernel
theorem dX5_last_13 : decode cX5_last 13 = .ok (.iaload, 1) := by decide +kernel
theorem dX5_last_14 : decode cX5_last 14 = .ok (.iadd, 1) := by decide +kernel
theorem dX5_last_15 : decode cX5_last 15 = .ok (.iconst 1, 1) := by decide +kernel
theorem dX5_last_16 : decode cX5_last 16 = .ok (.isub, 1) := by decide +kernel
theorem dX5_last_17 : decode cX5_last 17 = .ok (.iaload, 1) := by decide +kernel
theorem dX5_last_18 : decode cX5_last 18 = .ok (.ireturn, 1) := by decide +kernel
set_option maxRecDepth 20000 in
theorem ggX5_isOpen_X5_last : GoodIn wsX5_isOpen wsX5_last := goodIn_r _ [6, 7, 8, 9, 10, 11, 12, 13, 14, 15, 16, 17, 18, 19, 20, 21, 22, 23, 24, 25, 26, 27, 28, 29, 30, 31] (by decide +kernel) (by decide +kernel)
set_option maxRecDepth 20000 in
theorem gX5_isOpen_X5_last : GoodIn wsX5_isOpen (wsV RX5 99 RX5 yX5_last wsX5_last) := goodIn_app (goodIn_of _ (by decide +kernel)) ggX5_isOpen_X5_last
theorem dX5_isOpen_0 : decode cX5_isOpen 0 = .ok (.aload_n 0, 1) := by decide +kernel
theorem dX5_isOpen_1 : decode cX5_isOpen 1 = .ok (.getfield 9, 3) := by decide +kernel
theorem dX5_isOpen_4 : decode cX5_isOpen 4 = .ok (.aload_n 0, 1) := by decide +kernel
theorem dX5_isOpen_5 : decode cX5_isOpen 5 = .ok (.iload_n 1, 1) := by decide +kernel
theorem dX5_isOpen_6 : decode cX5_isOpen 6 = .ok (.invokevirtual 99, 3) := by decide +kernel
theorem dX5_isOpen_9 : decode cX5_isOpen 9 = .ok (.iaload, 1) := by decide +kernel
theorem dX5_isOpen_10 : decode cX5_isOpen 10 = .ok (.iconst 2, 1) := by decide +kernel
theorem dX5_isOpen_11 : decode cX5_isOpen 11 = .ok (.if_icmp .eq 7, 3) := by decide +kernel
theorem dX5_isOpen_14 : decode cX5_isOpen 14 = .ok (.iconst 1, 1) := by decide +kernel
theorem dX5_isOpen_15 : decode cX5_isOpen 15 = .ok (.goto 4, 3) := by decide +kernel
theorem dX5_isOpen_18 : decode cX5_isOpen 18 = .ok (.iconst 0, 1) := by decide +kernel
theorem dX5_isOpen_19 : decode cX5_isOpen 19 = .ok (.ireturn, 1) := by decide +kernel
set_option maxRecDepth 20000 in
theorem ggX5_can_X5_has : GoodIn wsX5_can wsX5_has := goodIn_r _ [11] (by decide +kernel) (by decide +kernel)
set_option maxRecDepth 20000 in
theorem gX5_can_X5_has : GoodIn wsX5_can (va_wsS RX5 91 yX5_has wsX5_has) := goodIn_app (goodIn_of _ (by decide +kernel)) ggX5_can_X5_has
set_option maxRecDepth 20000 in
theorem ggX5_can_X5_isOpen : GoodIn wsX5_can wsX5_isOpen := goodIn_r _ [15, 3, 16, 17, 18, 10, 19, 20, 5, 21, 22, 23, 24, 25, 26, 27, 28, 29, 30, 31, 32, 33, 34, 35, 36, 37, 38, 39, 40, 41, 42, 43] (by decide +kernel) (by decide +kernel)
set_option maxRecDepth 20000 in
theorem gX5_can_X5_isOpen : GoodIn wsX5_can (wsV RX5 102 RX5 yX5_isOpen wsX5_isOpen) := goodIn_app (goodIn_of _ (by decide +kernel)) ggX5_can_X5_isOpen
set_option maxRecDepth 20000 in
theorem ggX5_can_X5_last : GoodIn wsX5_can wsX5_last := goodIn_r _ [19, 20, 5, 21, 22, 23, 24, 25, 26, 27, 28, 29, 30, 31, 32, 33, 34, 35, 36, 37, 38, 39, 40, 41, 42, 43] (by decide +kernel) (by decide +kernel)
set_option maxRecDepth 20000 in
theorem gX5_can_X5_last : GoodIn wsX5_can (wsV RX5 99 RX5 yX5_last wsX5_last) := goodIn_app (goodIn_of _ (by decide +kernel)) ggX5_can_X5_last
theorem dX5_can_0 : decode cX5_can 0 = .ok (.aload_n 0, 1) := by decide +kernel
theorem dX5_can_1 : decode cX5_can 1 = .ok (.getfield 44, 3) := by decide +kernel
theorem dX5_can_4 : decode cX5_can 4 = .ok (.iload_n 1, 1) := by decide +kernel
theorem dX5_can_5 : decode cX5_can 5 = .ok (.iaload, 1) := by decide +kernel
theorem dX5_can_6 : decode cX5_can 6 = .ok (.ifCond .ne 16, 3) := by decide +kernel
theorem dX5_can_9 : decode cX5_can 9 = .ok (.aload_n 0, 1) := by decide +kernel
theorem dX5_can_10 : decode cX5_can 10 = .ok (.getfield 38, 3) := by decide +kernel
theorem dX5_can_13 : decode cX5_can 13 = .ok (.iload_n 1, 1) := by decide +kernel
theorem dX5_can_14 : decode cX5_can 14 = .ok (.iaload, 1) := by decide +kernel
theorem dX5_can_15 : decode cX5_can 15 = .ok (.iload_n 2, 1) := by decide +kernel
theorem dX5_can_16 : decode cX5_can 16 = .ok (.invokestatic 91, 3) := by decide +kernel
theorem dX5_can_19 : decode cX5_can 19 = .ok (.ifCond .ne 5, 3) := by decide +kernel
theorem dX5_can_22 : decode cX5_can 22 = .ok (.iconst 0, 1) := by decide +kernel
theorem dX5_can_23 : decode cX5_can 23 = .ok (.ireturn, 1) := by decide +kernel
theorem dX5_can_24 : decode cX5_can 24 = .ok (.aload_n 0, 1) := by decide +kernel
theorem dX5_can_25 : decode cX5_can 25 = .ok (.getfield 9, 3) := by decide +kernel
theorem dX5_can_28 : decode cX5_can 28 = .ok (.iload_n 2, 1) := by decide +kernel
theorem dX5_can_29 : decode cX5_can 29 = .ok (.iaload, 1) := by decide +kernel
theorem dX5_can_30 : decode cX5_can 30 = .ok (.ifCond .ne 18, 3) := by decide +kernel
theorem dX5_can_33 : decode cX5_can 33 = .ok (.aload_n 0, 1) := by decide +kernel
theorem dX5_can_34 : decode cX5_can 34 = .ok (.getfield 75, 3) := by decide +kernel
theorem dX5_can_37 : decode cX5_can 37 = .ok (.bipush 8, 2) := by decide +kernel
theorem dX5_can_39 : decode cX5_can 39 = .ok (.if_icmp .ge 7, 3) := by decide +kernel
theorem dX5_can_42 : decode cX5_can 42 = .ok (.iconst 1, 1) := by decide +kernel
theorem dX5_can_43 : decode cX5_can 43 = .ok (.goto 4, 3) := by decide +kernel
theorem dX5_can_46 : decode cX5_can 46 = .ok (.iconst 0, 1) := by decide +kernel
theorem dX5_can_47 : decode cX5_can 47 = .ok (.ireturn, 1) := by decide +kernel
theorem dX5_can_48 : decode cX5_can 48 = .ok (.aload_n 0, 1) := by decide +kernel
theorem dX5_can_49 : decode cX5_can 49 = .ok (.iload_n 3, 1) := by decide +kernel
theorem dX5_can_50 : decode cX5_can 50 = .ok (.invokevirtual 102, 3) := by decide +kernel
theorem dX5_can_53 : decode cX5_can 53 = .ok (.ifCond .eq 31, 3) := by decide +kernel
theorem dX5_can_56 : decode cX5_can 56 = .ok (.aload_n 0, 1) := by decide +kernel
theorem dX5_can_57 : decode cX5_can 57 = .ok (.getfield 50, 3) := by decide +kernel
theorem dX5_can_60 : decode cX5_can 60 = .ok (.iload_n 3, 1) := by decide +kernel
theorem dX5_can_61 : decode cX5_can 61 = .ok (.iaload, 1) := by decide +kernel
theorem dX5_can_62 : decode cX5_can 62 = .ok (.bipush 8, 2) := by decide +kernel
theorem dX5_can_64 : decode cX5_can 64 = .ok (.if_icmp .eq 20, 3) := by decide +kernel
theorem dX5_can_67 : decode cX5_can 67 = .ok (.aload_n 0, 1) := by decide +kernel
theorem dX5_can_68 : decode cX5_can 68 = .ok (.getfield 19, 3) := by decide +kernel
theorem dX5_can_71 : decode cX5_can 71 = .ok (.aload_n 0, 1) := by decide +kernel
theorem dX5_can_72 : decode cX5_can 72 = .ok (.iload_n 3, 1) := by decide +kernel
theorem dX5_can_73 : decode cX5_can 73 = .ok (.invokevirtual 99, 3) := by decide +kernel
theorem dX5_can_76 : decode cX5_can 76 = .ok (.iaload, 1) := by decide +kernel
theorem dX5_can_77 : decode cX5_can 77 = .ok (.iload_n 2, 1) := by decide +kernel
theorem dX5_can_78 : decode cX5_can 78 = .ok (.invokestatic 91, 3) := by decide +kernel
theorem dX5_can_81 : decode cX5_can 81 = .ok (.ifCond .ne 5, 3) := by decide +kernel
theorem dX5_can_84 : decode cX5_can 84 = .ok (.iconst 0, 1) := by decide +kernel
theorem dX5_can_85 : decode cX5_can 85 = .ok (.ireturn, 1) := by decide +kernel
theorem dX5_can_86 : decode cX5_can 86 = .ok (.aload_n 0, 1) := by decide +kernel
theorem dX5_can_87 : decode cX5_can 87 = .ok (.getfield 9, 3) := by decide +kernel
theorem dX5_can_90 : decode cX5_can 90 = .ok (.iload_n 2, 1) := by decide +kernel
theorem dX5_can_91 : decode cX5_can 91 = .ok (.iaload, 1) := by decide +kernel
theorem dX5_can_92 : decode cX5_can 92 = .ok (.iconst 2, 1) := by decide +kernel
theorem dX5_can_93 : decode cX5_can 93 = .ok (.if_icmp .ne 23, 3) := by decide +kernel
theorem dX5_can_96 : decode cX5_can 96 = .ok (.aload_n 0, 1) := by decide +kernel
theorem dX5_can_97 : decode cX5_can 97 = .ok (.getfield 56, 3) := by decide +kernel
theorem dX5_can_100 : decode cX5_can 100 = .ok (.iload_n 3, 1) := by decide +kernel
theorem dX5_can_101 : decode cX5_can 101 = .ok (.iaload, 1) := by decide +kernel
theorem dX5_can_102 : decode cX5_can 102 = .ok (.iconst (-1), 1) := by decide +kernel
theorem dX5_can_103 : decode cX5_can 103 = .ok (.if_icmp .eq 13, 3) := by decide +kernel
theorem dX5_can_106 : decode cX5_can 106 = .ok (.aload_n 0, 1) := by decide +kernel
theorem dX5_can_107 : decode cX5_can 107 = .ok (.getfield 56, 3) := by decide +kernel
theorem dX5_can_110 : decode cX5_can 110 = .ok (.iload_n 3, 1) := by decide +kernel
theorem dX5_can_111 : decode cX5_can 111 = .ok (.iaload, 1) := by decide +kernel
theorem dX5_can_112 : decode cX5_can 112 = .ok (.iload_n 1, 1) := by decide +kernel
theorem dX5_can_113 : decode cX5_can 113 = .ok (.if_icmp .ne 7, 3) := by decide +kernel
theorem dX5_can_116 : decode cX5_can 116 = .ok (.iconst 1, 1) := by decide +kernel
theorem dX5_can_117 : decode cX5_can 117 = .ok (.goto 4, 3) := by decide +kernel
theorem dX5_can_120 : decode cX5_can 120 = .ok (.iconst 0, 1) := by decide +kernel
theorem dX5_can_121 : decode cX5_can 121 = .ok (.ireturn, 1) := by decide +kernel
theorem dX5_worthOf_0 : decode cX5_worthOf 0 = .ok (.aload_n 0, 1) := by decide +kernel
theorem dX5_worthOf_1 : decode cX5_worthOf 1 = .ok (.getfield 13, 3) := by decide +kernel
theorem dX5_worthOf_4 : decode cX5_worthOf 4 = .ok (.iload_n 2, 1) := by decide +kernel
theorem dX5_worthOf_5 : decode cX5_worthOf 5 = .ok (.iaload, 1) := by decide +kernel
theorem dX5_worthOf_6 : decode cX5_worthOf 6 = .ok (.iconst 1, 1) := by decide +kernel
theorem dX5_worthOf_7 : decode cX5_worthOf 7 = .ok (.aload_n 0, 1) := by decide +kernel
theorem dX5_worthOf_8 : decode cX5_worthOf 8 = .ok (.getfield 35, 3) := by decide +kernel
theorem dX5_worthOf_11 : decode cX5_worthOf 11 = .ok (.bipush 24, 2) := by decide +kernel
theorem dX5_worthOf_13 : decode cX5_worthOf 13 = .ok (.iload_n 1, 1) := by decide +kernel
theorem dX5_worthOf_14 : decode cX5_worthOf 14 = .ok (.imul, 1) := by decide +kernel
theorem dX5_worthOf_15 : decode cX5_worthOf 15 = .ok (.iload_n 2, 1) := by decide +kernel
theorem dX5_worthOf_16 : decode cX5_worthOf 16 = .ok (.iadd, 1) := by decide +kernel
theorem dX5_worthOf_17 : decode cX5_worthOf 17 = .ok (.iaload, 1) := by decide +kernel
theorem dX5_worthOf_18 : decode cX5_worthOf 18 = .ok (.iadd, 1) := by decide +kernel
theorem dX5_worthOf_19 : decode cX5_worthOf 19 = .ok (.idiv, 1) := by decide +kernel
theorem dX5_worthOf_20 : decode cX5_worthOf 20 = .ok (.aload_n 0, 1) := by decide +kernel
theorem dX5_worthOf_21 : decode cX5_worthOf 21 = .ok (.getfield 16, 3) := by decide +kernel
theorem dX5_worthOf_24 : decode cX5_worthOf 24 = .ok (.iload_n 2, 1) := by decide +kernel
theorem dX5_worthOf_25 : decode cX5_worthOf 25 = .ok (.iaload, 1) := by decide +kernel
theorem dX5_worthOf_26 : decode cX5_worthOf 26 = .ok (.aload_n 0, 1) := by decide +kernel
theorem dX5_worthOf_27 : decode cX5_worthOf 27 = .ok (.getfield 25, 3) := by decide +kernel
theorem dX5_worthOf_30 : decode cX5_worthOf 30 = .ok (.if_icmp .ne 7, 3) := by decide +kernel
theorem dX5_worthOf_33 : decode cX5_worthOf 33 = .ok (.iconst 0, 1) := by decide +kernel
theorem dX5_worthOf_34 : decode cX5_worthOf 34 = .ok (.goto 4, 3) := by decide +kernel
theorem dX5_worthOf_37 : decode cX5_worthOf 37 = .ok (.iconst 2, 1) := by decide +kernel
theorem dX5_worthOf_38 : decode cX5_worthOf 38 = .ok (.iadd, 1) := by decide +kernel
theorem dX5_worthOf_39 : decode cX5_worthOf 39 = .ok (.ireturn, 1) := by decide +kernel
set_option maxRecDepth 20000 in
theorem ggX5_toll_X5_worthOf : GoodIn wsX5_toll wsX5_worthOf := goodIn_r _ [11, 12, 13, 14, 15, 16, 17, 18, 19, 20, 21, 22, 23, 24, 25, 26, 27, 28, 29, 30, 31, 32, 33, 34, 35, 36, 37, 38] (by decide +kernel) (by decide +kernel)
set_option maxRecDepth 20000 in
theorem gX5_toll_X5_worthOf : GoodIn wsX5_toll (wsV RX5 105 RX5 yX5_worthOf wsX5_worthOf) := goodIn_app (goodIn_of _ (by decide +kernel)) ggX5_toll_X5_worthOf
theorem dX5_toll_0 : decode cX5_toll 0 = .ok (.iconst 0, 1) := by decide +kernel
theorem dX5_toll_1 : decode cX5_toll 1 = .ok (.istore_n 2, 1) := by decide +kernel
theorem dX5_toll_2 : decode cX5_toll 2 = .ok (.iconst 0, 1) := by decide +kernel
theorem dX5_toll_3 : decode cX5_toll 3 = .ok (.istore_n 3, 1) := by decide +kernel
theorem dX5_toll_4 : decode cX5_toll 4 = .ok (.iload_n 3, 1) := by decide +kernel
theorem dX5_toll_5 : decode cX5_toll 5 = .ok (.aload_n 0, 1) := by decide +kernel
theorem dX5_toll_6 : decode cX5_toll 6 = .ok (.getfield 69, 3) := by decide +kernel
theorem dX5_toll_9 : decode cX5_toll 9 = .ok (.if_icmp .ge 29, 3) := by decide +kernel
theorem dX5_toll_12 : decode cX5_toll 12 = .ok (.aload_n 0, 1) := by decide +kernel
theorem dX5_toll_13 : decode cX5_toll 13 = .ok (.getfield 29, 3) := by decide +kernel
theorem dX5_toll_16 : decode cX5_toll 16 = .ok (.iload_n 3, 1) := by decide +kernel
theorem dX5_toll_17 : decode cX5_toll 17 = .ok (.iaload, 1) := by decide +kernel
theorem dX5_toll_18 : decode cX5_toll 18 = .ok (.ifCond .ne 14, 3) := by decide +kernel
theorem dX5_toll_21 : decode cX5_toll 21 = .ok (.iload_n 2, 1) := by decide +kernel
theorem dX5_toll_22 : decode cX5_toll 22 = .ok (.aload_n 0, 1) := by decide +kernel
theorem dX5_toll_23 : decode cX5_toll 23 = .ok (.iload_n 3, 1) := by decide +kernel
theorem dX5_toll_24 : decode cX5_toll 24 = .ok (.iload_n 1, 1) := by decide +kernel
theorem dX5_toll_25 : decode cX5_toll 25 = .ok (.invokevirtual 105, 3) := by decide +kernel
theorem dX5_toll_28 : decode cX5_toll 28 = .ok (.invokestatic 109, 3) := by decide +kernel
theorem dX5_toll_31 : decode cX5_toll 31 = .ok (.istore_n 2, 1) := by decide +kernel
theorem dX5_toll_32 : decode cX5_toll 32 = .ok (.iinc 3 1, 3) := by decide +kernel
theorem dX5_toll_35 : decode cX5_toll 35 = .ok (.goto (-31), 3) := by decide +kernel
theorem dX5_toll_38 : decode cX5_toll 38 = .ok (.iload_n 2, 1) := by decide +kernel
theorem dX5_toll_39 : decode cX5_toll 39 = .ok (.ireturn, 1) := by decide +kernel
set_option maxRecDepth 20000 in
theorem ggX5_listen_X5_worthOf : GoodIn wsX5_listen wsX5_worthOf := goodIn_r _ [15, 16, 2, 17, 18, 19, 20, 21, 22, 23, 24, 25, 26, 27, 28, 29, 30, 31, 32, 33, 34, 35, 36, 37, 38, 39, 40, 41] (by decide +kernel) (by decide +kernel)
set_option maxRecDepth 20000 in
theorem gX5_listen_X5_worthOf : GoodIn wsX5_listen (wsV RX5 105 RX5 yX5_worthOf wsX5_worthOf) := goodIn_app (goodIn_of _ (by decide +kernel)) ggX5_listen_X5_worthOf
theorem dX5_listen_0 : decode cX5_listen 0 = .ok (.aload_n 0, 1) := by decide +kernel
theorem dX5_listen_1 : decode cX5_listen 1 = .ok (.getfield 29, 3) := by decide +kernel
theorem dX5_listen_4 : decode cX5_listen 4 = .ok (.iload_n 1, 1) := by decide +kernel
theorem dX5_listen_5 : decode cX5_listen 5 = .ok (.iaload, 1) := by decide +kernel
theorem dX5_listen_6 : decode cX5_listen 6 = .ok (.iconst 1, 1) := by decide +kernel
theorem dX5_listen_7 : decode cX5_listen 7 = .ok (.if_icmp .ne 4, 3) := by decide +kernel
theorem dX5_listen_10 : decode cX5_listen 10 = .ok (.return_, 1) := by decide +kernel
theorem dX5_listen_11 : decode cX5_listen 11 = .ok (.aload_n 0, 1) := by decide +kernel
theorem dX5_listen_12 : decode cX5_listen 12 = .ok (.iload_n 1, 1) := by decide +kernel
theorem dX5_listen_13 : decode cX5_listen 13 = .ok (.iload_n 2, 1) := by decide +kernel
theorem dX5_listen_14 : decode cX5_listen 14 = .ok (.invokevirtual 105, 3) := by decide +kernel
theorem dX5_listen_17 : decode cX5_listen 17 = .ok (.istore_n 3, 1) := by decide +kernel
theorem dX5_listen_18 : decode cX5_listen 18 = .ok (.aload_n 0, 1) := by decide +kernel
theorem dX5_listen_19 : decode cX5_listen 19 = .ok (.getfield 35, 3) := by decide +kernel
theorem dX5_listen_22 : decode cX5_listen 22 = .ok (.bipush 24, 2) := by decide +kernel
theorem dX5_listen_24 : decode cX5_listen 24 = .ok (.iload_n 1, 1) := by decide +kernel
theorem dX5_listen_25 : decode cX5_listen 25 = .ok (.imul, 1) := by decide +kernel
theorem dX5_listen_26 : decode cX5_listen 26 = .ok (.iload_n 2, 1) := by decide +kernel
theorem dX5_listen_27 : decode cX5_listen 27 = .ok (.iadd, 1) := by decide +kernel
theorem dX5_listen_28 : decode cX5_listen 28 = .ok (.dup2, 1) := by decide +kernel
theorem dX5_listen_29 : decode cX5_listen 29 = .ok (.iaload, 1) := by decide +kernel
theorem dX5_listen_30 : decode cX5_listen 30 = .ok (.iconst 1, 1) := by decide +kernel
theorem dX5_listen_31 : decode cX5_listen 31 = .ok (.iadd, 1) := by decide +kernel
theorem dX5_listen_32 : decode cX5_listen 32 = .ok (.iastore, 1) := by decide +kernel
theorem dX5_listen_33 : decode cX5_listen 33 = .ok (.aload_n 0, 1) := by decide +kernel
theorem dX5_listen_34 : decode cX5_listen 34 = .ok (.getfield 32, 3) := by decide +kernel
theorem dX5_listen_37 : decode cX5_listen 37 = .ok (.iload_n 1, 1) := by decide +kernel
theorem dX5_listen_38 : decode cX5_listen 38 = .ok (.iload_n 3, 1) := by decide +kernel
theorem dX5_listen_39 : decode cX5_listen 39 = .ok (.iconst 3, 1) := by decide +kernel
theorem dX5_listen_40 : decode cX5_listen 40 = .ok (.if_icmp .le 19, 3) := by decide +kernel
theorem dX5_listen_43 : decode cX5_listen 43 = .ok (.bipush 30, 2) := by decide +kernel
theorem dX5_listen_45 : decode cX5_listen 45 = .ok (.aload_n 0, 1) := by decide +kernel
theorem dX5_listen_46 : decode cX5_listen 46 = .ok (.getfield 32, 3) := by decide +kernel
theorem dX5_listen_49 : decode cX5_listen 49 = .ok (.iload_n 1, 1) := by decide +kernel
theorem dX5_listen_50 : decode cX5_listen 50 = .ok (.iaload, 1) := by decide +kernel
theorem dX5_listen_51 : decode cX5_listen 51 = .ok (.iconst 3, 1) := by decide +kernel
theorem dX5_listen_52 : decode cX5_listen 52 = .ok (.iadd, 1) := by decide +kernel
theorem dX5_listen_53 : decode cX5_listen 53 = .ok (.invokestatic 114, 3) := by decide +kernel
theorem dX5_listen_56 : decode cX5_listen 56 = .ok (.goto 15, 3) := by decide +kernel
theorem dX5_listen_59 : decode cX5_listen 59 = .ok (.iconst 0, 1) := by decide +kernel
theorem dX5_listen_60 : decode cX5_listen 60 = .ok (.aload_n 0, 1) := by decide +kernel
theorem dX5_listen_61 : decode cX5_listen 61 = .ok (.getfield 32, 3) := by decide +kernel
theorem dX5_listen_64 : decode cX5_listen 64 = .ok (.iload_n 1, 1) := by decide +kernel
theorem dX5_listen_65 : decode cX5_listen 65 = .ok (.iaload, 1) := by decide +kernel
theorem dX5_listen_66 : decode cX5_listen 66 = .ok (.iconst 4, 1) := by decide +kernel
theorem dX5_listen_67 : decode cX5_listen 67 = .ok (.isub, 1) := by decide +kernel
theorem dX5_listen_68 : decode cX5_listen 68 = .ok (.invokestatic 109, 3) := by decide +kernel
theorem dX5_listen_71 : decode cX5_listen 71 = .ok (.iastore, 1) := by decide +kernel
theorem dX5_listen_72 : decode cX5_listen 72 = .ok (.aload_n 0, 1) := by decide +kernel
theorem dX5_listen_73 : decode cX5_listen 73 = .ok (.getfield 32, 3) := by decide +kernel
theorem dX5_listen_76 : decode cX5_listen 76 = .ok (.iload_n 1, 1) := by decide +kernel
theorem dX5_listen_77 : decode cX5_listen 77 = .ok (.iaload, 1) := by decide +kernel
theorem dX5_listen_78 : decode cX5_listen 78 = .ok (.ifCond .ne 10, 3) := by decide +kernel
theorem dX5_listen_81 : decode cX5_listen 81 = .ok (.aload_n 0, 1) := by decide +kernel
theorem dX5_listen_82 : decode cX5_listen 82 = .ok (.getfield 29, 3) := by decide +kernel
theorem dX5_listen_85 : decode cX5_listen 85 = .ok (.iload_n 1, 1) := by decide +kernel
theorem dX5_listen_86 : decode cX5_listen 86 = .ok (.iconst 1, 1) := by decide +kernel
theorem dX5_listen_87 : decode cX5_listen 87 = .ok (.iastore, 1) := by decide +kernel
theorem dX5_listen_88 : decode cX5_listen 88 = .ok (.return_, 1) := by decide +kernel
set_option maxRecDepth 20000 in
theorem ggX5_tell_X5_isTraveller : GoodIn wsX5_tell wsX5_isTraveller := goodIn_r _ [18, 19, 20, 21, 17, 22, 77, 78, 79, 80, 81, 82, 83, 84, 85, 86, 87, 88, 89, 90, 91, 92, 93, 94, 95, 96, 97, 98, 99] (by decide +kernel) (by decide +kernel)
set_option maxRecDepth 20000 in
theorem gX5_tell_X5_isTraveller : GoodIn wsX5_tell (wsV RX5 117 RX5 yX5_isTraveller wsX5_isTraveller) := goodIn_app (goodIn_of _ (by decide +kernel)) ggX5_tell_X5_isTraveller
set_option maxRecDepth 20000 in
theorem ggX5_tell_X5_isScene : GoodIn wsX5_tell wsX5_isScene := goodIn_r _ [26, 27, 20, 21, 17, 22, 77, 78, 79, 80, 81, 82, 83, 84, 85, 86, 87, 88, 89, 90, 91, 92, 93, 94, 95, 96, 97, 98, 99] (by decide +kernel) (by decide +kernel)
set_option maxRecDepth 20000 in
theorem gX5_tell_X5_isScene : GoodIn wsX5_tell (wsV RX5 87 RX5 yX5_isScene wsX5_isScene) := goodIn_app (goodIn_of _ (by decide +kernel)) ggX5_tell_X5_isScene
set_option maxRecDepth 20000 in
theorem ggX5_tell_X5_isPlot : GoodIn wsX5_tell wsX5_isPlot := goodIn_r _ [31, 3, 20, 21, 17, 22, 77, 78, 79, 80, 81, 82, 83, 84, 85, 86, 87, 88, 89, 90, 91, 92, 93, 94, 95, 96, 97, 98, 99] (by decide +kernel) (by decide +kernel)
set_option maxRecDepth 20000 in
theorem gX5_tell_X5_isPlot : GoodIn wsX5_tell (wsV RX5 120 RX5 yX5_isPlot wsX5_isPlot) := goodIn_app (goodIn_of _ (by decide +kernel)) ggX5_tell_X5_isPlot
set_option maxRecDepth 20000 in
theorem ggX5_tell_X5_no : GoodIn wsX5_tell wsX5_no := goodIn_r _ [35, 1, 77, 78, 79, 80, 81, 82, 83, 84, 85, 86, 87, 88, 89, 90, 91, 92, 93, 94, 95, 96, 97, 98, 99] (by decide +kernel) (by decide +kernel)
set_option maxRecDepth 20000 in
theorem gX5_tell_X5_no : GoodIn wsX5_tell (wsV RX5 84 RX5 yX5_no wsX5_no) := goodIn_app (goodIn_of _ (by decide +kernel)) ggX5_tell_X5_no
set_option maxRecDepth 20000 in
theorem ggX5_tell_X5_can : GoodIn wsX5_tell wsX5_can := goodIn_r _ [39, 40, 41, 2, 3, 4, 42, 5, 43, 44, 17, 45, 46, 47, 48, 49, 50, 51, 52, 53, 6, 77, 78, 79, 80, 81, 82, 83, 84, 85, 86, 87, 88, 89, 90, 91, 92, 93, 94, 95, 96, 97, 98, 99] (by decide +kernel) (by decide +kernel)
set_option maxRecDepth 20000 in
theorem gX5_tell_X5_can : GoodIn wsX5_tell (wsV RX5 123 RX5 yX5_can wsX5_can) := goodIn_app (goodIn_of _ (by decide +kernel)) ggX5_tell_X5_can
set_option maxRecDepth 20000 in
theorem ggX5_tell_X5_toll : GoodIn wsX5_tell wsX5_toll := goodIn_r _ [57, 7, 58, 59, 60, 61, 62, 63, 64, 65, 17, 66, 67, 68, 8, 9, 77, 78, 79, 80, 81, 82, 83, 84, 85, 86, 87, 88, 89, 90, 91, 92, 93, 94, 95, 96, 97, 98, 99] (by decide +kernel) (by decide +kernel)
set_option maxRecDepth 20000 in
theorem gX5_tell_X5_toll : GoodIn wsX5_tell (wsV RX5 126 RX5 yX5_toll wsX5_toll) := goodIn_app (goodIn_of _ (by decide +kernel)) ggX5_tell_X5_toll
set_option maxRecDepth 20000 in
theorem ggX5_tell_X5_listen : GoodIn wsX5_tell wsX5_listen := goodIn_r _ [72, 58, 68, 73, 74, 75, 61, 76, 59, 60, 62, 63, 64, 65, 17, 66, 67, 8, 9, 77, 78, 79, 80, 81, 82, 83, 84, 85, 86, 87, 88, 89, 90, 91, 92, 93, 94, 95, 96, 97, 98, 99] (by decide +kernel) (by decide +kernel)
set_option maxRecDepth 20000 in
theorem gX5_tell_X5_listen : GoodIn wsX5_tell (wsV RX5 129 RX5 yX5_listen wsX5_listen) := goodIn_app (goodIn_of _ (by decide +kernel)) ggX5_tell_X5_listen
theorem dX5_tell_0 : decode cX5_tell 0 = .ok (.aload_n 0, 1) := by decide +kernel
theorem dX5_tell_1 : decode cX5_tell 1 = .ok (.iconst 0, 1) := by decide +kernel
theorem dX5_tell_2 : decode cX5_tell 2 = .ok (.putfield 59, 3) := by decide +kernel
theorem dX5_tell_5 : decode cX5_tell 5 = .ok (.aload_n 0, 1) := by decide +kernel
theorem dX5_tell_6 : decode cX5_tell 6 = .ok (.iload_n 1, 1) := by decide +kernel
theorem dX5_tell_7 : decode cX5_tell 7 = .ok (.invokevirtual 117, 3) := by decide +kernel
theorem dX5_tell_10 : decode cX5_tell 10 = .ok (.ifCond .eq 28, 3) := by decide +kernel
theorem dX5_tell_13 : decode cX5_tell 13 = .ok (.aload_n 0, 1) := by decide +kernel
theorem dX5_tell_14 : decode cX5_tell 14 = .ok (.iload_n 2, 1) := by decide +kernel
theorem dX5_tell_15 : decode cX5_tell 15 = .ok (.invokevirtual 87, 3) := by decide +kernel
theorem dX5_tell_18 : decode cX5_tell 18 = .ok (.ifCond .eq 20, 3) := by decide +kernel
theorem dX5_tell_21 : decode cX5_tell 21 = .ok (.aload_n 0, 1) := by decide +kernel
theorem dX5_tell_22 : decode cX5_tell 22 = .ok (.getfield 9, 3) := by decide +kernel
theorem dX5_tell_25 : decode cX5_tell 25 = .ok (.iload_n 2, 1) := by decide +kernel
theorem dX5_tell_26 : decode cX5_tell 26 = .ok (.iaload, 1) := by decide +kernel
theorem dX5_tell_27 : decode cX5_tell 27 = .ok (.ifCond .eq 17, 3) := by decide +kernel
theorem dX5_tell_30 : decode cX5_tell 30 = .ok (.aload_n 0, 1) := by decide +kernel
theorem dX5_tell_31 : decode cX5_tell 31 = .ok (.iload_n 3, 1) := by decide +kernel
theorem dX5_tell_32 : decode cX5_tell 32 = .ok (.invokevirtual 120, 3) := by decide +kernel
theorem dX5_tell_35 : decode cX5_tell 35 = .ok (.ifCond .ne 9, 3) := by decide +kernel
theorem dX5_tell_38 : decode cX5_tell 38 = .ok (.aload_n 0, 1) := by decide +kernel
theorem dX5_tell_39 : decode cX5_tell 39 = .ok (.iconst 1, 1) := by decide +kernel
theorem dX5_tell_40 : decode cX5_tell 40 = .ok (.invokevirtual 84, 3) := by decide +kernel
theorem dX5_tell_43 : decode cX5_tell 43 = .ok (.ireturn, 1) := by decide +kernel
theorem dX5_tell_44 : decode cX5_tell 44 = .ok (.aload_n 0, 1) := by decide +kernel
theorem dX5_tell_45 : decode cX5_tell 45 = .ok (.iload_n 1, 1) := by decide +kernel
theorem dX5_tell_46 : decode cX5_tell 46 = .ok (.iload_n 2, 1) := by decide +kernel
theorem dX5_tell_47 : decode cX5_tell 47 = .ok (.iload_n 3, 1) := by decide +kernel
theorem dX5_tell_48 : decode cX5_tell 48 = .ok (.invokevirtual 123, 3) := by decide +kernel
theorem dX5_tell_51 : decode cX5_tell 51 = .ok (.ifCond .ne 9, 3) := by decide +kernel
theorem dX5_tell_54 : decode cX5_tell 54 = .ok (.aload_n 0, 1) := by decide +kernel
theorem dX5_tell_55 : decode cX5_tell 55 = .ok (.iconst 2, 1) := by decide +kernel
theorem dX5_tell_56 : decode cX5_tell 56 = .ok (.invokevirtual 84, 3) := by decide +kernel
theorem dX5_tell_59 : decode cX5_tell 59 = .ok (.ireturn, 1) := by decide +kernel
theorem dX5_tell_60 : decode cX5_tell 60 = .ok (.iload_n 3, 1) := by decide +kernel
theorem dX5_tell_61 : decode cX5_tell 61 = .ok (.istore 4, 2) := by decide +kernel
theorem dX5_tell_63 : decode cX5_tell 63 = .ok (.aload_n 0, 1) := by decide +kernel
theorem dX5_tell_64 : decode cX5_tell 64 = .ok (.getfield 9, 3) := by decide +kernel
theorem dX5_tell_67 : decode cX5_tell 67 = .ok (.iload_n 2, 1) := by decide +kernel
theorem dX5_tell_68 : decode cX5_tell 68 = .ok (.iaload, 1) := by decide +kernel
theorem dX5_tell_69 : decode cX5_tell 69 = .ok (.ifCond .ne 35, 3) := by decide +kernel
theorem dX5_tell_72 : decode cX5_tell 72 = .ok (.aload_n 0, 1) := by decide +kernel
theorem dX5_tell_73 : decode cX5_tell 73 = .ok (.getfield 75, 3) := by decide +kernel
theorem dX5_tell_76 : decode cX5_tell 76 = .ok (.istore 4, 2) := by decide +kernel
theorem dX5_tell_78 : decode cX5_tell 78 = .ok (.aload_n 0, 1) := by decide +kernel
theorem dX5_tell_79 : decode cX5_tell 79 = .ok (.getfield 50, 3) := by decide +kernel
theorem dX5_tell_82 : decode cX5_tell 82 = .ok (.iload 4, 2) := by decide +kernel
theorem dX5_tell_84 : decode cX5_tell 84 = .ok (.iconst 0, 1) := by decide +kernel
theorem dX5_tell_85 : decode cX5_tell 85 = .ok (.iastore, 1) := by decide +kernel
theorem dX5_tell_86 : decode cX5_tell 86 = .ok (.aload_n 0, 1) := by decide +kernel
theorem dX5_tell_87 : decode cX5_tell 87 = .ok (.getfield 56, 3) := by decide +kernel
theorem dX5_tell_90 : decode cX5_tell 90 = .ok (.iload 4, 2) := by decide +kernel
theorem dX5_tell_92 : decode cX5_tell 92 = .ok (.iconst (-1), 1) := by decide +kernel
theorem dX5_tell_93 : decode cX5_tell 93 = .ok (.iastore, 1) := by decide +kernel
theorem dX5_tell_94 : decode cX5_tell 94 = .ok (.aload_n 0, 1) := by decide +kernel
theorem dX5_tell_95 : decode cX5_tell 95 = .ok (.dup, 1) := by decide +kernel
theorem dX5_tell_96 : decode cX5_tell 96 = .ok (.getfield 75, 3) := by decide +kernel
theorem dX5_tell_99 : decode cX5_tell 99 = .ok (.iconst 1, 1) := by decide +kernel
theorem dX5_tell_100 : decode cX5_tell 100 = .ok (.iadd, 1) := by decide +kernel
theorem dX5_tell_101 : decode cX5_tell 101 = .ok (.putfield 75, 3) := by decide +kernel
theorem dX5_tell_104 : decode cX5_tell 104 = .ok (.aload_n 0, 1) := by decide +kernel
theorem dX5_tell_105 : decode cX5_tell 105 = .ok (.getfield 53, 3) := by decide +kernel
theorem dX5_tell_108 : decode cX5_tell 108 = .ok (.bipush 8, 2) := by decide +kernel
theorem dX5_tell_110 : decode cX5_tell 110 = .ok (.iload 4, 2) := by decide +kernel
theorem dX5_tell_112 : decode cX5_tell 112 = .ok (.imul, 1) := by decide +kernel
theorem dX5_tell_113 : decode cX5_tell 113 = .ok (.aload_n 0, 1) := by decide +kernel
theorem dX5_tell_114 : decode cX5_tell 114 = .ok (.getfield 50, 3) := by decide +kernel
theorem dX5_tell_117 : decode cX5_tell 117 = .ok (.iload 4, 2) := by decide +kernel
theorem dX5_tell_119 : decode cX5_tell 119 = .ok (.iaload, 1) := by decide +kernel
theorem dX5_tell_120 : decode cX5_tell 120 = .ok (.iadd, 1) := by decide +kernel
theorem dX5_tell_121 : decode cX5_tell 121 = .ok (.iload_n 2, 1) := by decide +kernel
theorem dX5_tell_122 : decode cX5_tell 122 = .ok (.iastore, 1) := by decide +kernel
theorem dX5_tell_123 : decode cX5_tell 123 = .ok (.aload_n 0, 1) := by decide +kernel
theorem dX5_tell_124 : decode cX5_tell 124 = .ok (.getfield 50, 3) := by decide +kernel
theorem dX5_tell_127 : decode cX5_tell 127 = .ok (.iload 4, 2) := by decide +kernel
theorem dX5_tell_129 : decode cX5_tell 129 = .ok (.dup2, 1) := by decide +kernel
theorem dX5_tell_130 : decode cX5_tell 130 = .ok (.iaload, 1) := by decide +kernel
theorem dX5_tell_131 : decode cX5_tell 131 = .ok (.iconst 1, 1) := by decide +kernel
theorem dX5_tell_132 : decode cX5_tell 132 = .ok (.iadd, 1) := by decide +kernel
theorem dX5_tell_133 : decode cX5_tell 133 = .ok (.iastore, 1) := by decide +kernel
theorem dX5_tell_134 : decode cX5_tell 134 = .ok (.aload_n 0, 1) := by decide +kernel
theorem dX5_tell_135 : decode cX5_tell 135 = .ok (.iload_n 2, 1) := by decide +kernel
theorem dX5_tell_136 : decode cX5_tell 136 = .ok (.invokevirtual 126, 3) := by decide +kernel
theorem dX5_tell_139 : decode cX5_tell 139 = .ok (.istore 5, 2) := by decide +kernel
theorem dX5_tell_141 : decode cX5_tell 141 = .ok (.iconst 0, 1) := by decide +kernel
theorem dX5_tell_142 : decode cX5_tell 142 = .ok (.istore 6, 2) := by decide +kernel
theorem dX5_tell_144 : decode cX5_tell 144 = .ok (.iload 6, 2) := by decide +kernel
theorem dX5_tell_146 : decode cX5_tell 146 = .ok (.aload_n 0, 1) := by decide +kernel
theorem dX5_tell_147 : decode cX5_tell 147 = .ok (.getfield 69, 3) := by decide +kernel
theorem dX5_tell_150 : decode cX5_tell 150 = .ok (.if_icmp .ge 16, 3) := by decide +kernel
theorem dX5_tell_153 : decode cX5_tell 153 = .ok (.aload_n 0, 1) := by decide +kernel
theorem dX5_tell_154 : decode cX5_tell 154 = .ok (.iload 6, 2) := by decide +kernel
theorem dX5_tell_156 : decode cX5_tell 156 = .ok (.iload_n 2, 1) := by decide +kernel
theorem dX5_tell_157 : decode cX5_tell 157 = .ok (.invokevirtual 129, 3) := by decide +kernel
theorem dX5_tell_160 : decode cX5_tell 160 = .ok (.iinc 6 1, 3) := by decide +kernel
theorem dX5_tell_163 : decode cX5_tell 163 = .ok (.goto (-19), 3) := by decide +kernel
theorem dX5_tell_166 : decode cX5_tell 166 = .ok (.aload_n 0, 1) := by decide +kernel
theorem dX5_tell_167 : decode cX5_tell 167 = .ok (.aload_n 0, 1) := by decide +kernel
theorem dX5_tell_168 : decode cX5_tell 168 = .ok (.getfield 16, 3) := by decide +kernel
theorem dX5_tell_171 : decode cX5_tell 171 = .ok (.iload_n 2, 1) := by decide +kernel
theorem dX5_tell_172 : decode cX5_tell 172 = .ok (.iaload, 1) := by decide +kernel
theorem dX5_tell_173 : decode cX5_tell 173 = .ok (.putfield 25, 3) := by decide +kernel
theorem dX5_tell_176 : decode cX5_tell 176 = .ok (.aload_n 0, 1) := by decide +kernel
theorem dX5_tell_177 : decode cX5_tell 177 = .ok (.getfield 22, 3) := by decide +kernel
theorem dX5_tell_180 : decode cX5_tell 180 = .ok (.iload_n 2, 1) := by decide +kernel
theorem dX5_tell_181 : decode cX5_tell 181 = .ok (.dup2, 1) := by decide +kernel
theorem dX5_tell_182 : decode cX5_tell 182 = .ok (.iaload, 1) := by decide +kernel
theorem dX5_tell_183 : decode cX5_tell 183 = .ok (.iconst 1, 1) := by decide +kernel
theorem dX5_tell_184 : decode cX5_tell 184 = .ok (.iadd, 1) := by decide +kernel
theorem dX5_tell_185 : decode cX5_tell 185 = .ok (.iastore, 1) := by decide +kernel
theorem dX5_tell_186 : decode cX5_tell 186 = .ok (.aload_n 0, 1) := by decide +kernel
theorem dX5_tell_187 : decode cX5_tell 187 = .ok (.getfield 47, 3) := by decide +kernel
theorem dX5_tell_190 : decode cX5_tell 190 = .ok (.iload_n 1, 1) := by decide +kernel
theorem dX5_tell_191 : decode cX5_tell 191 = .ok (.dup2, 1) := by decide +kernel
theorem dX5_tell_192 : decode cX5_tell 192 = .ok (.iaload, 1) := by decide +kernel
theorem dX5_tell_193 : decode cX5_tell 193 = .ok (.iconst 1, 1) := by decide +kernel
theorem dX5_tell_194 : decode cX5_tell 194 = .ok (.iadd, 1) := by decide +kernel
theorem dX5_tell_195 : decode cX5_tell 195 = .ok (.iastore, 1) := by decide +kernel
theorem dX5_tell_196 : decode cX5_tell 196 = .ok (.aload_n 0, 1) := by decide +kernel
theorem dX5_tell_197 : decode cX5_tell 197 = .ok (.getfield 41, 3) := by decide +kernel
theorem dX5_tell_200 : decode cX5_tell 200 = .ok (.iload_n 1, 1) := by decide +kernel
theorem dX5_tell_201 : decode cX5_tell 201 = .ok (.dup2, 1) := by decide +kernel
theorem dX5_tell_202 : decode cX5_tell 202 = .ok (.iaload, 1) := by decide +kernel
theorem dX5_tell_203 : decode cX5_tell 203 = .ok (.iload 5, 2) := by decide +kernel
theorem dX5_tell_205 : decode cX5_tell 205 = .ok (.iadd, 1) := by decide +kernel
theorem dX5_tell_206 : decode cX5_tell 206 = .ok (.iastore, 1) := by decide +kernel
theorem dX5_tell_207 : decode cX5_tell 207 = .ok (.aload_n 0, 1) := by decide +kernel
theorem dX5_tell_208 : decode cX5_tell 208 = .ok (.dup, 1) := by decide +kernel
theorem dX5_tell_209 : decode cX5_tell 209 = .ok (.getfield 133, 3) := by decide +kernel
theorem dX5_tell_212 : decode cX5_tell 212 = .ok (.iload 5, 2) := by decide +kernel
theorem dX5_tell_214 : decode cX5_tell 214 = .ok (.iadd, 1) := by decide +kernel
theorem dX5_tell_215 : decode cX5_tell 215 = .ok (.putfield 133, 3) := by decide +kernel
theorem dX5_tell_218 : decode cX5_tell 218 = .ok (.iload 5, 2) := by decide +kernel
theorem dX5_tell_220 : decode cX5_tell 220 = .ok (.ireturn, 1) := by decide +kernel
set_option maxRecDepth 20000 in
theorem ggX5_reserve_X5_isTraveller : GoodIn wsX5_reserve wsX5_isTraveller := goodIn_r _ [9, 10, 11, 12, 8, 13, 34, 35, 36, 37, 38, 39, 40, 41, 42, 43, 44, 45, 46, 47, 48, 49, 50, 51, 52, 53, 54, 55, 56] (by decide +kernel) (by decide +kernel)
set_option maxRecDepth 20000 in
theorem gX5_reserve_X5_isTraveller : GoodIn wsX5_reserve (wsV RX5 117 RX5 yX5_isTraveller wsX5_isTraveller) := goodIn_app (goodIn_of _ (by decide +kernel)) ggX5_reserve_X5_isTraveller
set_option maxRecDepth 20000 in
theorem ggX5_reserve_X5_isPlot : GoodIn wsX5_reserve wsX5_isPlot := goodIn_r _ [17, 18, 11, 12, 8, 13, 34, 35, 36, 37, 38, 39, 40, 41, 42, 43, 44, 45, 46, 47, 48, 49, 50, 51, 52, 53, 54, 55, 56] (by decide +kernel) (by decide +kernel)
set_option maxRecDepth 20000 in
theorem gX5_reserve_X5_isPlot : GoodIn wsX5_reserve (wsV RX5 120 RX5 yX5_isPlot wsX5_isPlot) := goodIn_app (goodIn_of _ (by decide +kernel)) ggX5_reserve_X5_isPlot
set_option maxRecDepth 20000 in
theorem ggX5_reserve_X5_no : GoodIn wsX5_reserve wsX5_no := goodIn_r _ [22, 1, 34, 35, 36, 37, 38, 39, 40, 41, 42, 43, 44, 45, 46, 47, 48, 49, 50, 51, 52, 53, 54, 55, 56] (by decide +kernel) (by decide +kernel)
set_option maxRecDepth 20000 in
theorem gX5_reserve_X5_no : GoodIn wsX5_reserve (wsV RX5 84 RX5 yX5_no wsX5_no) := goodIn_app (goodIn_of _ (by decide +kernel)) ggX5_reserve_X5_no
set_option maxRecDepth 20000 in
theorem ggX5_reserve_X5_isOpen : GoodIn wsX5_reserve wsX5_isOpen := goodIn_r _ [26, 27, 28, 29, 30, 8, 31, 32, 33, 34, 35, 36, 37, 38, 39, 40, 41, 42, 43, 44, 45, 46, 47, 48, 49, 50, 51, 52, 53, 54, 55, 56] (by decide +kernel) (by decide +kernel)
set_option maxRecDepth 20000 in
theorem gX5_reserve_X5_isOpen : GoodIn wsX5_reserve (wsV RX5 102 RX5 yX5_isOpen wsX5_isOpen) := goodIn_app (goodIn_of _ (by decide +kernel)) ggX5_reserve_X5_isOpen
theorem dX5_reserve_0 : decode cX5_reserve 0 = .ok (.aload_n 0, 1) := by decide +kernel
theorem dX5_reserve_1 : decode cX5_reserve 1 = .ok (.iconst 0, 1) := by decide +kernel
theorem dX5_reserve_2 : decode cX5_reserve 2 = .ok (.putfield 59, 3) := by decide +kernel
theorem dX5_reserve_5 : decode cX5_reserve 5 = .ok (.aload_n 0, 1) := by decide +kernel
theorem dX5_reserve_6 : decode cX5_reserve 6 = .ok (.iload_n 1, 1) := by decide +kernel
theorem dX5_reserve_7 : decode cX5_reserve 7 = .ok (.invokevirtual 117, 3) := by decide +kernel
theorem dX5_reserve_10 : decode cX5_reserve 10 = .ok (.ifCond .eq 11, 3) := by decide +kernel
theorem dX5_reserve_13 : decode cX5_reserve 13 = .ok (.aload_n 0, 1) := by decide +kernel
theorem dX5_reserve_14 : decode cX5_reserve 14 = .ok (.iload_n 2, 1) := by decide +kernel
theorem dX5_reserve_15 : decode cX5_reserve 15 = .ok (.invokevirtual 120, 3) := by decide +kernel
theorem dX5_reserve_18 : decode cX5_reserve 18 = .ok (.ifCond .ne 9, 3) := by decide +kernel
theorem dX5_reserve_21 : decode cX5_reserve 21 = .ok (.aload_n 0, 1) := by decide +kernel
theorem dX5_reserve_22 : decode cX5_reserve 22 = .ok (.iconst 1, 1) := by decide +kernel
theorem dX5_reserve_23 : decode cX5_reserve 23 = .ok (.invokevirtual 84, 3) := by decide +kernel
theorem dX5_reserve_26 : decode cX5_reserve 26 = .ok (.ireturn, 1) := by decide +kernel
theorem dX5_reserve_27 : decode cX5_reserve 27 = .ok (.aload_n 0, 1) := by decide +kernel
theorem dX5_reserve_28 : decode cX5_reserve 28 = .ok (.getfield 44, 3) := by decide +kernel
theorem dX5_reserve_31 : decode cX5_reserve 31 = .ok (.iload_n 1, 1) := by decide +kernel
theorem dX5_reserve_32 : decode cX5_reserve 32 = .ok (.iaload, 1) := by decide +kernel
theorem dX5_reserve_33 : decode cX5_reserve 33 = .ok (.ifCond .ne 31, 3) := by decide +kernel
theorem dX5_reserve_36 : decode cX5_reserve 36 = .ok (.aload_n 0, 1) := by decide +kernel
theorem dX5_reserve_37 : decode cX5_reserve 37 = .ok (.getfield 41, 3) := by decide +kernel
theorem dX5_reserve_40 : decode cX5_reserve 40 = .ok (.iload_n 1, 1) := by decide +kernel
theorem dX5_reserve_41 : decode cX5_reserve 41 = .ok (.iaload, 1) := by decide +kernel
theorem dX5_reserve_42 : decode cX5_reserve 42 = .ok (.iconst 5, 1) := by decide +kernel
theorem dX5_reserve_43 : decode cX5_reserve 43 = .ok (.if_icmp .lt 21, 3) := by decide +kernel
theorem dX5_reserve_46 : decode cX5_reserve 46 = .ok (.aload_n 0, 1) := by decide +kernel
theorem dX5_reserve_47 : decode cX5_reserve 47 = .ok (.iload_n 2, 1) := by decide +kernel
theorem dX5_reserve_48 : decode cX5_reserve 48 = .ok (.invokevirtual 102, 3) := by decide +kernel
theorem dX5_reserve_51 : decode cX5_reserve 51 = .ok (.ifCond .eq 13, 3) := by decide +kernel
theorem dX5_reserve_54 : decode cX5_reserve 54 = .ok (.aload_n 0, 1) := by decide +kernel
theorem dX5_reserve_55 : decode cX5_reserve 55 = .ok (.getfield 56, 3) := by decide +kernel
theorem dX5_reserve_58 : decode cX5_reserve 58 = .ok (.iload_n 2, 1) := by decide +kernel
theorem dX5_reserve_59 : decode cX5_reserve 59 = .ok (.iaload, 1) := by decide +kernel
theorem dX5_reserve_60 : decode cX5_reserve 60 = .ok (.iconst (-1), 1) := by decide +kernel
theorem dX5_reserve_61 : decode cX5_reserve 61 = .ok (.if_icmp .eq 9, 3) := by decide +kernel
theorem dX5_reserve_64 : decode cX5_reserve 64 = .ok (.aload_n 0, 1) := by decide +kernel
theorem dX5_reserve_65 : decode cX5_reserve 65 = .ok (.iconst 2, 1) := by decide +kernel
theorem dX5_reserve_66 : decode cX5_reserve 66 = .ok (.invokevirtual 84, 3) := by decide +kernel
theorem dX5_reserve_69 : decode cX5_reserve 69 = .ok (.ireturn, 1) := by decide +kernel
theorem dX5_reserve_70 : decode cX5_reserve 70 = .ok (.aload_n 0, 1) := by decide +kernel
theorem dX5_reserve_71 : decode cX5_reserve 71 = .ok (.getfield 56, 3) := by decide +kernel
theorem dX5_reserve_74 : decode cX5_reserve 74 = .ok (.iload_n 2, 1) := by decide +kernel
theorem dX5_reserve_75 : decode cX5_reserve 75 = .ok (.iload_n 1, 1) := by decide +kernel
theorem dX5_reserve_76 : decode cX5_reserve 76 = .ok (.iastore, 1) := by decide +kernel
theorem dX5_reserve_77 : decode cX5_reserve 77 = .ok (.aload_n 0, 1) := by decide +kernel
theorem dX5_reserve_78 : decode cX5_reserve 78 = .ok (.getfield 41, 3) := by decide +kernel
theorem dX5_reserve_81 : decode cX5_reserve 81 = .ok (.iload_n 1, 1) := by decide +kernel
theorem dX5_reserve_82 : decode cX5_reserve 82 = .ok (.dup2, 1) := by decide +kernel
theorem dX5_reserve_83 : decode cX5_reserve 83 = .ok (.iaload, 1) := by decide +kernel
theorem dX5_reserve_84 : decode cX5_reserve 84 = .ok (.iconst 5, 1) := by decide +kernel
theorem dX5_reserve_85 : decode cX5_reserve 85 = .ok (.isub, 1) := by decide +kernel
theorem dX5_reserve_86 : decode cX5_reserve 86 = .ok (.iastore, 1) := by decide +kernel
theorem dX5_reserve_87 : decode cX5_reserve 87 = .ok (.aload_n 0, 1) := by decide +kernel
theorem dX5_reserve_88 : decode cX5_reserve 88 = .ok (.getfield 41, 3) := by decide +kernel
theorem dX5_reserve_91 : decode cX5_reserve 91 = .ok (.iload_n 1, 1) := by decide +kernel
theorem dX5_reserve_92 : decode cX5_reserve 92 = .ok (.iaload, 1) := by decide +kernel
theorem dX5_reserve_93 : decode cX5_reserve 93 = .ok (.ireturn, 1) := by decide +kernel
theorem dX5_awake_0 : decode cX5_awake 0 = .ok (.iconst 0, 1) := by decide +kernel
theorem dX5_awake_1 : decode cX5_awake 1 = .ok (.istore_n 1, 1) := by decide +kernel
theorem dX5_awake_2 : decode cX5_awake 2 = .ok (.iconst 0, 1) := by decide +kernel
theorem dX5_awake_3 : decode cX5_awake 3 = .ok (.istore_n 2, 1) := by decide +kernel
theorem dX5_awake_4 : decode cX5_awake 4 = .ok (.iload_n 2, 1) := by decide +kernel
theorem dX5_awake_5 : decode cX5_awake 5 = .ok (.aload_n 0, 1) := by decide +kernel
theorem dX5_awake_6 : decode cX5_awake 6 = .ok (.getfield 69, 3) := by decide +kernel
theorem dX5_awake_9 : decode cX5_awake 9 = .ok (.if_icmp .ge 20, 3) := by decide +kernel
theorem dX5_awake_12 : decode cX5_awake 12 = .ok (.iload_n 1, 1) := by decide +kernel
theorem dX5_awake_13 : decode cX5_awake 13 = .ok (.iconst 1, 1) := by decide +kernel
theorem dX5_awake_14 : decode cX5_awake 14 = .ok (.aload_n 0, 1) := by decide +kernel
theorem dX5_awake_15 : decode cX5_awake 15 = .ok (.getfield 29, 3) := by decide +kernel
theorem dX5_awake_18 : decode cX5_awake 18 = .ok (.iload_n 2, 1) := by decide +kernel
theorem dX5_awake_19 : decode cX5_awake 19 = .ok (.iaload, 1) := by decide +kernel
theorem dX5_awake_20 : decode cX5_awake 20 = .ok (.isub, 1) := by decide +kernel
theorem dX5_awake_21 : decode cX5_awake 21 = .ok (.iadd, 1) := by decide +kernel
theorem dX5_awake_22 : decode cX5_awake 22 = .ok (.istore_n 1, 1) := by decide +kernel
theorem dX5_awake_23 : decode cX5_awake 23 = .ok (.iinc 2 1, 3) := by decide +kernel
theorem dX5_awake_26 : decode cX5_awake 26 = .ok (.goto (-22), 3) := by decide +kernel
theorem dX5_awake_29 : decode cX5_awake 29 = .ok (.iload_n 1, 1) := by decide +kernel
theorem dX5_awake_30 : decode cX5_awake 30 = .ok (.ireturn, 1) := by decide +kernel
set_option maxRecDepth 20000 in
theorem ggX5_pass_X5_isTraveller : GoodIn wsX5_pass wsX5_isTraveller := goodIn_r _ [8, 9, 10, 11, 7, 12, 23, 24, 25, 26, 27, 28, 29, 30, 31, 32, 33, 34, 35, 36, 37, 38, 39, 40, 41, 42, 43, 44, 45] (by decide +kernel) (by decide +kernel)
set_option maxRecDepth 20000 in
theorem gX5_pass_X5_isTraveller : GoodIn wsX5_pass (wsV RX5 117 RX5 yX5_isTraveller wsX5_isTraveller) := goodIn_app (goodIn_of _ (by decide +kernel)) ggX5_pass_X5_isTraveller
set_option maxRecDepth 20000 in
theorem ggX5_pass_X5_no : GoodIn wsX5_pass wsX5_no := goodIn_r _ [16, 1, 23, 24, 25, 26, 27, 28, 29, 30, 31, 32, 33, 34, 35, 36, 37, 38, 39, 40, 41, 42, 43, 44, 45] (by decide +kernel) (by decide +kernel)
set_option maxRecDepth 20000 in
theorem gX5_pass_X5_no : GoodIn wsX5_pass (wsV RX5 84 RX5 yX5_no wsX5_no) := goodIn_app (goodIn_of _ (by decide +kernel)) ggX5_pass_X5_no
set_option maxRecDepth 20000 in
theorem ggX5_pass_X5_awake : GoodIn wsX5_pass wsX5_awake := goodIn_r _ [20, 21, 22, 23, 24, 25, 26, 27, 28, 29, 30, 31, 32, 33, 34, 35, 36, 37, 38, 39, 40, 41, 42, 43, 44, 45] (by decide +kernel) (by decide +kernel)
set_option maxRecDepth 20000 in
theorem gX5_pass_X5_awake : GoodIn wsX5_pass (wsV RX5 136 RX5 yX5_awake wsX5_awake) := goodIn_app (goodIn_of _ (by decide +kernel)) ggX5_pass_X5_awake
theorem dX5_pass_0 : decode cX5_pass 0 = .ok (.aload_n 0, 1) := by decide +kernel
theorem dX5_pass_1 : decode cX5_pass 1 = .ok (.iconst 0, 1) := by decide +kernel
theorem dX5_pass_2 : decode cX5_pass 2 = .ok (.putfield 59, 3) := by decide +kernel
theorem dX5_pass_5 : decode cX5_pass 5 = .ok (.aload_n 0, 1) := by decide +kernel
theorem dX5_pass_6 : decode cX5_pass 6 = .ok (.iload_n 1, 1) := by decide +kernel
theorem dX5_pass_7 : decode cX5_pass 7 = .ok (.invokevirtual 117, 3) := by decide +kernel
theorem dX5_pass_10 : decode cX5_pass 10 = .ok (.ifCond .ne 17, 3) := by decide +kernel
theorem dX5_pass_13 : decode cX5_pass 13 = .ok (.aload_n 0, 1) := by decide +kernel
theorem dX5_pass_14 : decode cX5_pass 14 = .ok (.iconst 1, 1) := by decide +kernel
theorem dX5_pass_15 : decode cX5_pass 15 = .ok (.invokevirtual 84, 3) := by decide +kernel
theorem dX5_pass_18 : decode cX5_pass 18 = .ok (.ifCond .eq 7, 3) := by decide +kernel
theorem dX5_pass_21 : decode cX5_pass 21 = .ok (.iconst 1, 1) := by decide +kernel
theorem dX5_pass_22 : decode cX5_pass 22 = .ok (.goto 4, 3) := by decide +kernel
theorem dX5_pass_25 : decode cX5_pass 25 = .ok (.iconst 0, 1) := by decide +kernel
theorem dX5_pass_26 : decode cX5_pass 26 = .ok (.ireturn, 1) := by decide +kernel
theorem dX5_pass_27 : decode cX5_pass 27 = .ok (.aload_n 0, 1) := by decide +kernel
theorem dX5_pass_28 : decode cX5_pass 28 = .ok (.getfield 44, 3) := by decide +kernel
theorem dX5_pass_31 : decode cX5_pass 31 = .ok (.iload_n 1, 1) := by decide +kernel
theorem dX5_pass_32 : decode cX5_pass 32 = .ok (.iaload, 1) := by decide +kernel
theorem dX5_pass_33 : decode cX5_pass 33 = .ok (.ifCond .eq 17, 3) := by decide +kernel
theorem dX5_pass_36 : decode cX5_pass 36 = .ok (.aload_n 0, 1) := by decide +kernel
theorem dX5_pass_37 : decode cX5_pass 37 = .ok (.iconst 2, 1) := by decide +kernel
theorem dX5_pass_38 : decode cX5_pass 38 = .ok (.invokevirtual 84, 3) := by decide +kernel
theorem dX5_pass_41 : decode cX5_pass 41 = .ok (.ifCond .eq 7, 3) := by decide +kernel
theorem dX5_pass_44 : decode cX5_pass 44 = .ok (.iconst 1, 1) := by decide +kernel
theorem dX5_pass_45 : decode cX5_pass 45 = .ok (.goto 4, 3) := by decide +kernel
theorem dX5_pass_48 : decode cX5_pass 48 = .ok (.iconst 0, 1) := by decide +kernel
theorem dX5_pass_49 : decode cX5_pass 49 = .ok (.ireturn, 1) := by decide +kernel
theorem dX5_pass_50 : decode cX5_pass 50 = .ok (.aload_n 0, 1) := by decide +kernel
theorem dX5_pass_51 : decode cX5_pass 51 = .ok (.getfield 41, 3) := by decide +kernel
theorem dX5_pass_54 : decode cX5_pass 54 = .ok (.iload_n 1, 1) := by decide +kernel
theorem dX5_pass_55 : decode cX5_pass 55 = .ok (.iaload, 1) := by decide +kernel
theorem dX5_pass_56 : decode cX5_pass 56 = .ok (.bipush 15, 2) := by decide +kernel
theorem dX5_pass_58 : decode cX5_pass 58 = .ok (.if_icmp .ge 12, 3) := by decide +kernel
theorem dX5_pass_61 : decode cX5_pass 61 = .ok (.aload_n 0, 1) := by decide +kernel
theorem dX5_pass_62 : decode cX5_pass 62 = .ok (.invokevirtual 136, 3) := by decide +kernel
theorem dX5_pass_65 : decode cX5_pass 65 = .ok (.ifCond .le 5, 3) := by decide +kernel
theorem dX5_pass_68 : decode cX5_pass 68 = .ok (.iconst 0, 1) := by decide +kernel
theorem dX5_pass_69 : decode cX5_pass 69 = .ok (.ireturn, 1) := by decide +kernel
theorem dX5_pass_70 : decode cX5_pass 70 = .ok (.aload_n 0, 1) := by decide +kernel
theorem dX5_pass_71 : decode cX5_pass 71 = .ok (.getfield 44, 3) := by decide +kernel
theorem dX5_pass_74 : decode cX5_pass 74 = .ok (.iload_n 1, 1) := by decide +kernel
theorem dX5_pass_75 : decode cX5_pass 75 = .ok (.iconst 1, 1) := by decide +kernel
theorem dX5_pass_76 : decode cX5_pass 76 = .ok (.iastore, 1) := by decide +kernel
theorem dX5_pass_77 : decode cX5_pass 77 = .ok (.iconst 1, 1) := by decide +kernel
theorem dX5_pass_78 : decode cX5_pass 78 = .ok (.ireturn, 1) := by decide +kernel
set_option maxRecDepth 20000 in
theorem ggX5_send_X5_isTraveller : GoodIn wsX5_send wsX5_isTraveller := goodIn_r _ [10, 11, 12, 13, 9, 14, 19, 20, 21, 22, 23, 24, 25, 26, 27, 28, 29, 30, 31, 32, 33, 34, 35, 36, 37, 38, 39, 40, 41] (by decide +kernel) (by decide +kernel)
set_option maxRecDepth 20000 in
theorem gX5_send_X5_isTraveller : GoodIn wsX5_send (wsV RX5 117 RX5 yX5_isTraveller wsX5_isTraveller) := goodIn_app (goodIn_of _ (by decide +kernel)) ggX5_send_X5_isTraveller
set_option maxRecDepth 20000 in
theorem ggX5_send_X5_no : GoodIn wsX5_send wsX5_no := goodIn_r _ [18, 1, 19, 20, 21, 22, 23, 24, 25, 26, 27, 28, 29, 30, 31, 32, 33, 34, 35, 36, 37, 38, 39, 40, 41] (by decide +kernel) (by decide +kernel)
set_option maxRecDepth 20000 in
theorem gX5_send_X5_no : GoodIn wsX5_send (wsV RX5 84 RX5 yX5_no wsX5_no) := goodIn_app (goodIn_of _ (by decide +kernel)) ggX5_send_X5_no
theorem dX5_send_0 : decode cX5_send 0 = .ok (.aload_n 0, 1) := by decide +kernel
theorem dX5_send_1 : decode cX5_send 1 = .ok (.iconst 0, 1) := by decide +kernel
theorem dX5_send_2 : decode cX5_send 2 = .ok (.putfield 59, 3) := by decide +kernel
theorem dX5_send_5 : decode cX5_send 5 = .ok (.aload_n 0, 1) := by decide +kernel
theorem dX5_send_6 : decode cX5_send 6 = .ok (.iload_n 1, 1) := by decide +kernel
theorem dX5_send_7 : decode cX5_send 7 = .ok (.invokevirtual 117, 3) := by decide +kernel
theorem dX5_send_10 : decode cX5_send 10 = .ok (.ifCond .ne 9, 3) := by decide +kernel
theorem dX5_send_13 : decode cX5_send 13 = .ok (.aload_n 0, 1) := by decide +kernel
theorem dX5_send_14 : decode cX5_send 14 = .ok (.iconst 1, 1) := by decide +kernel
theorem dX5_send_15 : decode cX5_send 15 = .ok (.invokevirtual 84, 3) := by decide +kernel
theorem dX5_send_18 : decode cX5_send 18 = .ok (.ireturn, 1) := by decide +kernel
theorem dX5_send_19 : decode cX5_send 19 = .ok (.aload_n 0, 1) := by decide +kernel
theorem dX5_send_20 : decode cX5_send 20 = .ok (.getfield 44, 3) := by decide +kernel
theorem dX5_send_23 : decode cX5_send 23 = .ok (.iload_n 1, 1) := by decide +kernel
theorem dX5_send_24 : decode cX5_send 24 = .ok (.iaload, 1) := by decide +kernel
theorem dX5_send_25 : decode cX5_send 25 = .ok (.ifCond .eq 9, 3) := by decide +kernel
theorem dX5_send_28 : decode cX5_send 28 = .ok (.aload_n 0, 1) := by decide +kernel
theorem dX5_send_29 : decode cX5_send 29 = .ok (.iconst 2, 1) := by decide +kernel
theorem dX5_send_30 : decode cX5_send 30 = .ok (.invokevirtual 84, 3) := by decide +kernel
theorem dX5_send_33 : decode cX5_send 33 = .ok (.ireturn, 1) := by decide +kernel
theorem dX5_send_34 : decode cX5_send 34 = .ok (.aload_n 0, 1) := by decide +kernel
theorem dX5_send_35 : decode cX5_send 35 = .ok (.getfield 44, 3) := by decide +kernel
theorem dX5_send_38 : decode cX5_send 38 = .ok (.iload_n 1, 1) := by decide +kernel
theorem dX5_send_39 : decode cX5_send 39 = .ok (.iconst 2, 1) := by decide +kernel
theorem dX5_send_40 : decode cX5_send 40 = .ok (.iastore, 1) := by decide +kernel
theorem dX5_send_41 : decode cX5_send 41 = .ok (.iconst 0, 1) := by decide +kernel
theorem dX5_send_42 : decode cX5_send 42 = .ok (.istore_n 2, 1) := by decide +kernel
theorem dX5_send_43 : decode cX5_send 43 = .ok (.iload_n 2, 1) := by decide +kernel
theorem dX5_send_44 : decode cX5_send 44 = .ok (.aload_n 0, 1) := by decide +kernel
theorem dX5_send_45 : decode cX5_send 45 = .ok (.getfield 75, 3) := by decide +kernel
theorem dX5_send_48 : decode cX5_send 48 = .ok (.if_icmp .ge 26, 3) := by decide +kernel
theorem dX5_send_51 : decode cX5_send 51 = .ok (.aload_n 0, 1) := by decide +kernel
theorem dX5_send_52 : decode cX5_send 52 = .ok (.getfield 56, 3) := by decide +kernel
theorem dX5_send_55 : decode cX5_send 55 = .ok (.iload_n 2, 1) := by decide +kernel
theorem dX5_send_56 : decode cX5_send 56 = .ok (.iaload, 1) := by decide +kernel
theorem dX5_send_57 : decode cX5_send 57 = .ok (.iload_n 1, 1) := by decide +kernel
theorem dX5_send_58 : decode cX5_send 58 = .ok (.if_icmp .ne 10, 3) := by decide +kernel
theorem dX5_send_61 : decode cX5_send 61 = .ok (.aload_n 0, 1) := by decide +kernel
theorem dX5_send_62 : decode cX5_send 62 = .ok (.getfield 56, 3) := by decide +kernel
theorem dX5_send_65 : decode cX5_send 65 = .ok (.iload_n 2, 1) := by decide +kernel
theorem dX5_send_66 : decode cX5_send 66 = .ok (.iconst (-1), 1) := by decide +kernel
theorem dX5_send_67 : decode cX5_send 67 = .ok (.iastore, 1) := by decide +kernel
theorem dX5_send_68 : decode cX5_send 68 = .ok (.iinc 2 1, 3) := by decide +kernel
theorem dX5_send_71 : decode cX5_send 71 = .ok (.goto (-28), 3) := by decide +kernel
theorem dX5_send_74 : decode cX5_send 74 = .ok (.aload_n 0, 1) := by decide +kernel
theorem dX5_send_75 : decode cX5_send 75 = .ok (.getfield 41, 3) := by decide +kernel
theorem dX5_send_78 : decode cX5_send 78 = .ok (.iload_n 1, 1) := by decide +kernel
theorem dX5_send_79 : decode cX5_send 79 = .ok (.iaload, 1) := by decide +kernel
theorem dX5_send_80 : decode cX5_send 80 = .ok (.ireturn, 1) := by decide +kernel
theorem dX5_later_0 : decode cX5_later 0 = .ok (.iload_n 1, 1) := by decide +kernel
theorem dX5_later_1 : decode cX5_later 1 = .ok (.iconst 1, 1) := by decide +kernel
theorem dX5_later_2 : decode cX5_later 2 = .ok (.if_icmp .ne 24, 3) := by decide +kernel
theorem dX5_later_5 : decode cX5_later 5 = .ok (.iload_n 0, 1) := by decide +kernel
theorem dX5_later_6 : decode cX5_later 6 = .ok (.iconst 5, 1) := by decide +kernel
theorem dX5_later_7 : decode cX5_later 7 = .ok (.iadd, 1) := by decide +kernel
theorem dX5_later_8 : decode cX5_later 8 = .ok (.bipush 10, 2) := by decide +kernel
theorem dX5_later_10 : decode cX5_later 10 = .ok (.if_icmp .ge 12, 3) := by decide +kernel
theorem dX5_later_13 : decode cX5_later 13 = .ok (.bipush 100, 2) := by decide +kernel
theorem dX5_later_15 : decode cX5_later 15 = .ok (.iload_n 0, 1) := by decide +kernel
theorem dX5_later_16 : decode cX5_later 16 = .ok (.iadd, 1) := by decide +kernel
theorem dX5_later_17 : decode cX5_later 17 = .ok (.iconst 5, 1) := by decide +kernel
theorem dX5_later_18 : decode cX5_later 18 = .ok (.iadd, 1) := by decide +kernel
theorem dX5_later_19 : decode cX5_later 19 = .ok (.goto 6, 3) := by decide +kernel
theorem dX5_later_22 : decode cX5_later 22 = .ok (.iload_n 0, 1) := by decide +kernel
theorem dX5_later_23 : decode cX5_later 23 = .ok (.iconst 5, 1) := by decide +kernel
theorem dX5_later_24 : decode cX5_later 24 = .ok (.iadd, 1) := by decide +kernel
theorem dX5_later_25 : decode cX5_later 25 = .ok (.ireturn, 1) := by decide +kernel
theorem dX5_later_26 : decode cX5_later 26 = .ok (.iload_n 0, 1) := by decide +kernel
theorem dX5_later_27 : decode cX5_later 27 = .ok (.iconst 1, 1) := by decide +kernel
theorem dX5_later_28 : decode cX5_later 28 = .ok (.if_icmp .le 9, 3) := by decide +kernel
theorem dX5_later_31 : decode cX5_later 31 = .ok (.iload_n 0, 1) := by decide +kernel
theorem dX5_later_32 : decode cX5_later 32 = .ok (.iconst 1, 1) := by decide +kernel
theorem dX5_later_33 : decode cX5_later 33 = .ok (.isub, 1) := by decide +kernel
theorem dX5_later_34 : decode cX5_later 34 = .ok (.goto 5, 3) := by decide +kernel
theorem dX5_later_37 : decode cX5_later 37 = .ok (.bipush 100, 2) := by decide +kernel
theorem dX5_later_39 : decode cX5_later 39 = .ok (.ireturn, 1) := by decide +kernel
set_option maxRecDepth 20000 in
theorem ggX5_watch_X5_isIn : GoodIn wsX5_watch wsX5_isIn := goodIn_r _ [9] (by decide +kernel) (by decide +kernel)
set_option maxRecDepth 20000 in
theorem gX5_watch_X5_isIn : GoodIn wsX5_watch (va_wsS RX5 65 yX5_isIn wsX5_isIn) := goodIn_app (goodIn_of _ (by decide +kernel)) ggX5_watch_X5_isIn
set_option maxRecDepth 20000 in
theorem ggX5_watch_X5_no : GoodIn wsX5_watch wsX5_no := goodIn_r _ [13, 1, 21, 22, 23, 24, 25, 26, 27, 28, 29, 30, 31, 32, 33, 34, 35, 36, 37, 38, 39, 40, 41, 42, 43] (by decide +kernel) (by decide +kernel)
set_option maxRecDepth 20000 in
theorem gX5_watch_X5_no : GoodIn wsX5_watch (wsV RX5 84 RX5 yX5_no wsX5_no) := goodIn_app (goodIn_of _ (by decide +kernel)) ggX5_watch_X5_no
set_option maxRecDepth 20000 in
theorem ggX5_watch_X5_later : GoodIn wsX5_watch wsX5_later := goodIn_r _ [16] (by decide +kernel) (by decide +kernel)
set_option maxRecDepth 20000 in
theorem gX5_watch_X5_later : GoodIn wsX5_watch (va_wsS RX5 139 yX5_later wsX5_later) := goodIn_app (goodIn_of _ (by decide +kernel)) ggX5_watch_X5_later
set_option maxRecDepth 20000 in
theorem ggX5_watch_X5_awake : GoodIn wsX5_watch wsX5_awake := goodIn_r _ [20, 2, 4, 21, 22, 23, 24, 25, 26, 27, 28, 29, 30, 31, 32, 33, 34, 35, 36, 37, 38, 39, 40, 41, 42, 43] (by decide +kernel) (by decide +kernel)
set_option maxRecDepth 20000 in
theorem gX5_watch_X5_awake : GoodIn wsX5_watch (wsV RX5 136 RX5 yX5_awake wsX5_awake) := goodIn_app (goodIn_of _ (by decide +kernel)) ggX5_watch_X5_awake
theorem dX5_watch_0 : decode cX5_watch 0 = .ok (.aload_n 0, 1) := by decide +kernel
theorem dX5_watch_1 : decode cX5_watch 1 = .ok (.iconst 0, 1) := by decide +kernel
theorem dX5_watch_2 : decode cX5_watch 2 = .ok (.putfield 59, 3) := by decide +kernel
theorem dX5_watch_5 : decode cX5_watch 5 = .ok (.iload_n 1, 1) := by decide +kernel
theorem dX5_watch_6 : decode cX5_watch 6 = .ok (.iconst 1, 1) := by decide +kernel
theorem dX5_watch_7 : decode cX5_watch 7 = .ok (.bipush 100, 2) := by decide +kernel
theorem dX5_watch_9 : decode cX5_watch 9 = .ok (.invokestatic 65, 3) := by decide +kernel
theorem dX5_watch_12 : decode cX5_watch 12 = .ok (.ifCond .ne 9, 3) := by decide +kernel
theorem dX5_watch_15 : decode cX5_watch 15 = .ok (.aload_n 0, 1) := by decide +kernel
theorem dX5_watch_16 : decode cX5_watch 16 = .ok (.iconst 1, 1) := by decide +kernel
theorem dX5_watch_17 : decode cX5_watch 17 = .ok (.invokevirtual 84, 3) := by decide +kernel
theorem dX5_watch_20 : decode cX5_watch 20 = .ok (.ireturn, 1) := by decide +kernel
theorem dX5_watch_21 : decode cX5_watch 21 = .ok (.iconst 0, 1) := by decide +kernel
theorem dX5_watch_22 : decode cX5_watch 22 = .ok (.istore_n 2, 1) := by decide +kernel
theorem dX5_watch_23 : decode cX5_watch 23 = .ok (.iload_n 2, 1) := by decide +kernel
theorem dX5_watch_24 : decode cX5_watch 24 = .ok (.iload_n 1, 1) := by decide +kernel
theorem dX5_watch_25 : decode cX5_watch 25 = .ok (.if_icmp .ge 64, 3) := by decide +kernel
theorem dX5_watch_28 : decode cX5_watch 28 = .ok (.iconst 0, 1) := by decide +kernel
theorem dX5_watch_29 : decode cX5_watch 29 = .ok (.istore_n 3, 1) := by decide +kernel
theorem dX5_watch_30 : decode cX5_watch 30 = .ok (.iload_n 3, 1) := by decide +kernel
theorem dX5_watch_31 : decode cX5_watch 31 = .ok (.aload_n 0, 1) := by decide +kernel
theorem dX5_watch_32 : decode cX5_watch 32 = .ok (.getfield 69, 3) := by decide +kernel
theorem dX5_watch_35 : decode cX5_watch 35 = .ok (.if_icmp .ge 48, 3) := by decide +kernel
theorem dX5_watch_38 : decode cX5_watch 38 = .ok (.aload_n 0, 1) := by decide +kernel
theorem dX5_watch_39 : decode cX5_watch 39 = .ok (.getfield 32, 3) := by decide +kernel
theorem dX5_watch_42 : decode cX5_watch 42 = .ok (.iload_n 3, 1) := by decide +kernel
theorem dX5_watch_43 : decode cX5_watch 43 = .ok (.iaload, 1) := by decide +kernel
theorem dX5_watch_44 : decode cX5_watch 44 = .ok (.aload_n 0, 1) := by decide +kernel
theorem dX5_watch_45 : decode cX5_watch 45 = .ok (.getfield 29, 3) := by decide +kernel
theorem dX5_watch_48 : decode cX5_watch 48 = .ok (.iload_n 3, 1) := by decide +kernel
theorem dX5_watch_49 : decode cX5_watch 49 = .ok (.iaload, 1) := by decide +kernel
theorem dX5_watch_50 : decode cX5_watch 50 = .ok (.invokestatic 139, 3) := by decide +kernel
theorem dX5_watch_53 : decode cX5_watch 53 = .ok (.istore 4, 2) := by decide +kernel
theorem dX5_watch_55 : decode cX5_watch 55 = .ok (.aload_n 0, 1) := by decide +kernel
theorem dX5_watch_56 : decode cX5_watch 56 = .ok (.getfield 29, 3) := by decide +kernel
theorem dX5_watch_59 : decode cX5_watch 59 = .ok (.iload_n 3, 1) := by decide +kernel
theorem dX5_watch_60 : decode cX5_watch 60 = .ok (.iload 4, 2) := by decide +kernel
theorem dX5_watch_62 : decode cX5_watch 62 = .ok (.bipush 100, 2) := by decide +kernel
theorem dX5_watch_64 : decode cX5_watch 64 = .ok (.idiv, 1) := by decide +kernel
theorem dX5_watch_65 : decode cX5_watch 65 = .ok (.iastore, 1) := by decide +kernel
theorem dX5_watch_66 : decode cX5_watch 66 = .ok (.aload_n 0, 1) := by decide +kernel
theorem dX5_watch_67 : decode cX5_watch 67 = .ok (.getfield 32, 3) := by decide +kernel
theorem dX5_watch_70 : decode cX5_watch 70 = .ok (.iload_n 3, 1) := by decide +kernel
theorem dX5_watch_71 : decode cX5_watch 71 = .ok (.iload 4, 2) := by decide +kernel
theorem dX5_watch_73 : decode cX5_watch 73 = .ok (.bipush 100, 2) := by decide +kernel
theorem dX5_watch_75 : decode cX5_watch 75 = .ok (.irem, 1) := by decide +kernel
theorem dX5_watch_76 : decode cX5_watch 76 = .ok (.iastore, 1) := by decide +kernel
theorem dX5_watch_77 : decode cX5_watch 77 = .ok (.iinc 3 1, 3) := by decide +kernel
theorem dX5_watch_80 : decode cX5_watch 80 = .ok (.goto (-50), 3) := by decide +kernel
theorem dX5_watch_83 : decode cX5_watch 83 = .ok (.iinc 2 1, 3) := by decide +kernel
theorem dX5_watch_86 : decode cX5_watch 86 = .ok (.goto (-63), 3) := by decide +kernel
theorem dX5_watch_89 : decode cX5_watch 89 = .ok (.aload_n 0, 1) := by decide +kernel
theorem dX5_watch_90 : decode cX5_watch 90 = .ok (.dup, 1) := by decide +kernel
theorem dX5_watch_91 : decode cX5_watch 91 = .ok (.getfield 142, 3) := by decide +kernel
theorem dX5_watch_94 : decode cX5_watch 94 = .ok (.iload_n 1, 1) := by decide +kernel
theorem dX5_watch_95 : decode cX5_watch 95 = .ok (.iadd, 1) := by decide +kernel
theorem dX5_watch_96 : decode cX5_watch 96 = .ok (.putfield 142, 3) := by decide +kernel
theorem dX5_watch_99 : decode cX5_watch 99 = .ok (.aload_n 0, 1) := by decide +kernel
theorem dX5_watch_100 : decode cX5_watch 100 = .ok (.invokevirtual 136, 3) := by decide +kernel
theorem dX5_watch_103 : decode cX5_watch 103 = .ok (.ireturn, 1) := by decide +kernel
set_option maxRecDepth 20000 in
theorem ggX5_sceneTold_J6_bitCount_0f7a4 : GoodIn wsX5_sceneTold wsJ6_bitCount_0f7a4 := goodIn_r _ [9, 10, 11, 12] (by decide +kernel) (by decide +kernel)
set_option maxRecDepth 20000 in
theorem gX5_sceneTold_J6_bitCount_0f7a4 : GoodIn wsX5_sceneTold (va_wsS RX5 78 yJ6_bitCount_0f7a4 wsJ6_bitCount_0f7a4) := goodIn_app (goodIn_of _ (by decide +kernel)) ggX5_sceneTold_J6_bitCount_0f7a4
theorem dX5_sceneTold_0 : decode cX5_sceneTold 0 = .ok (.iload_n 2, 1) := by decide +kernel
theorem dX5_sceneTold_1 : decode cX5_sceneTold 1 = .ok (.ifCond .ne 12, 3) := by decide +kernel
theorem dX5_sceneTold_4 : decode cX5_sceneTold 4 = .ok (.aload_n 0, 1) := by decide +kernel
theorem dX5_sceneTold_5 : decode cX5_sceneTold 5 = .ok (.getfield 9, 3) := by decide +kernel
theorem dX5_sceneTold_8 : decode cX5_sceneTold 8 = .ok (.iload_n 1, 1) := by decide +kernel
theorem dX5_sceneTold_9 : decode cX5_sceneTold 9 = .ok (.iaload, 1) := by decide +kernel
theorem dX5_sceneTold_10 : decode cX5_sceneTold 10 = .ok (.goto 54, 3) := by decide +kernel
theorem dX5_sceneTold_13 : decode cX5_sceneTold 13 = .ok (.iload_n 2, 1) := by decide +kernel
theorem dX5_sceneTold_14 : decode cX5_sceneTold 14 = .ok (.iconst 1, 1) := by decide +kernel
theorem dX5_sceneTold_15 : decode cX5_sceneTold 15 = .ok (.if_icmp .ne 12, 3) := by decide +kernel
theorem dX5_sceneTold_18 : decode cX5_sceneTold 18 = .ok (.aload_n 0, 1) := by decide +kernel
theorem dX5_sceneTold_19 : decode cX5_sceneTold 19 = .ok (.getfield 13, 3) := by decide +kernel
theorem dX5_sceneTold_22 : decode cX5_sceneTold 22 = .ok (.iload_n 1, 1) := by decide +kernel
theorem dX5_sceneTold_23 : decode cX5_sceneTold 23 = .ok (.iaload, 1) := by decide +kernel
theorem dX5_sceneTold_24 : decode cX5_sceneTold 24 = .ok (.goto 40, 3) := by decide +kernel
theorem dX5_sceneTold_27 : decode cX5_sceneTold 27 = .ok (.iload_n 2, 1) := by decide +kernel
theorem dX5_sceneTold_28 : decode cX5_sceneTold 28 = .ok (.iconst 2, 1) := by decide +kernel
theorem dX5_sceneTold_29 : decode cX5_sceneTold 29 = .ok (.if_icmp .ne 12, 3) := by decide +kernel
theorem dX5_sceneTold_32 : decode cX5_sceneTold 32 = .ok (.aload_n 0, 1) := by decide +kernel
theorem dX5_sceneTold_33 : decode cX5_sceneTold 33 = .ok (.getfield 16, 3) := by decide +kernel
theorem dX5_sceneTold_36 : decode cX5_sceneTold 36 = .ok (.iload_n 1, 1) := by decide +kernel
theorem dX5_sceneTold_37 : decode cX5_sceneTold 37 = .ok (.iaload, 1) := by decide +kernel
theorem dX5_sceneTold_38 : decode cX5_sceneTold 38 = .ok (.goto 26, 3) := by decide +kernel
theorem dX5_sceneTold_41 : decode cX5_sceneTold 41 = .ok (.iload_n 2, 1) := by decide +kernel
theorem dX5_sceneTold_42 : decode cX5_sceneTold 42 = .ok (.iconst 3, 1) := by decide +kernel
theorem dX5_sceneTold_43 : decode cX5_sceneTold 43 = .ok (.if_icmp .ne 15, 3) := by decide +kernel
theorem dX5_sceneTold_46 : decode cX5_sceneTold 46 = .ok (.aload_n 0, 1) := by decide +kernel
theorem dX5_sceneTold_47 : decode cX5_sceneTold 47 = .ok (.getfield 19, 3) := by decide +kernel
theorem dX5_sceneTold_50 : decode cX5_sceneTold 50 = .ok (.iload_n 1, 1) := by decide +kernel
theorem dX5_sceneTold_51 : decode cX5_sceneTold 51 = .ok (.iaload, 1) := by decide +kernel
theorem dX5_sceneTold_52 : decode cX5_sceneTold 52 = .ok (.invokestatic 78, 3) := by decide +kernel
theorem dX5_sceneTold_55 : decode cX5_sceneTold 55 = .ok (.goto 9, 3) := by decide +kernel
theorem dX5_sceneTold_58 : decode cX5_sceneTold 58 = .ok (.aload_n 0, 1) := by decide +kernel
theorem dX5_sceneTold_59 : decode cX5_sceneTold 59 = .ok (.getfield 22, 3) := by decide +kernel
theorem dX5_sceneTold_62 : decode cX5_sceneTold 62 = .ok (.iload_n 1, 1) := by decide +kernel
theorem dX5_sceneTold_63 : decode cX5_sceneTold 63 = .ok (.iaload, 1) := by decide +kernel
theorem dX5_sceneTold_64 : decode cX5_sceneTold 64 = .ok (.ireturn, 1) := by decide +kernel
set_option maxRecDepth 20000 in
theorem ggX5_scene_X5_isScene : GoodIn wsX5_scene wsX5_isScene := goodIn_r _ [6, 7, 8, 9, 5, 10, 31, 32, 33, 34, 35, 36, 37, 38, 39, 40, 41, 42, 43, 44, 45, 46, 47, 48, 49, 50, 51, 52, 53] (by decide +kernel) (by decide +kernel)
set_option maxRecDepth 20000 in
theorem gX5_scene_X5_isScene : GoodIn wsX5_scene (wsV RX5 87 RX5 yX5_isScene wsX5_isScene) := goodIn_app (goodIn_of _ (by decide +kernel)) ggX5_scene_X5_isScene
set_option maxRecDepth 20000 in
theorem ggX5_scene_X5_isIn : GoodIn wsX5_scene wsX5_isIn := goodIn_r _ [10] (by decide +kernel) (by decide +kernel)
set_option maxRecDepth 20000 in
theorem gX5_scene_X5_isIn : GoodIn wsX5_scene (va_wsS RX5 65 yX5_isIn wsX5_isIn) := goodIn_app (goodIn_of _ (by decide +kernel)) ggX5_scene_X5_isIn
set_option maxRecDepth 20000 in
theorem ggX5_scene_X5_sceneTold : GoodIn wsX5_scene wsX5_sceneTold := goodIn_r _ [14, 15, 16, 17, 18, 19, 20, 21, 22, 23, 24, 25, 26, 31, 32, 33, 34, 35, 36, 37, 38, 39, 40, 41, 42, 43, 44, 45, 46, 47, 48, 49, 50, 51, 52, 53] (by decide +kernel) (by decide +kernel)
set_option maxRecDepth 20000 in
theorem gX5_scene_X5_sceneTold : GoodIn wsX5_scene (wsV RX5 145 RX5 yX5_sceneTold wsX5_sceneTold) := goodIn_app (goodIn_of _ (by decide +kernel)) ggX5_scene_X5_sceneTold
set_option maxRecDepth 20000 in
theorem ggX5_scene_X5_no : GoodIn wsX5_scene wsX5_no := goodIn_r _ [30, 1, 31, 32, 33, 34, 35, 36, 37, 38, 39, 40, 41, 42, 43, 44, 45, 46, 47, 48, 49, 50, 51, 52, 53] (by decide +kernel) (by decide +kernel)
set_option maxRecDepth 20000 in
theorem gX5_scene_X5_no : GoodIn wsX5_scene (wsV RX5 84 RX5 yX5_no wsX5_no) := goodIn_app (goodIn_of _ (by decide +kernel)) ggX5_scene_X5_no
theorem dX5_scene_0 : decode cX5_scene 0 = .ok (.aload_n 0, 1) := by decide +kernel
theorem dX5_scene_1 : decode cX5_scene 1 = .ok (.iconst 0, 1) := by decide +kernel
theorem dX5_scene_2 : decode cX5_scene 2 = .ok (.putfield 59, 3) := by decide +kernel
theorem dX5_scene_5 : decode cX5_scene 5 = .ok (.aload_n 0, 1) := by decide +kernel
theorem dX5_scene_6 : decode cX5_scene 6 = .ok (.iload_n 1, 1) := by decide +kernel
theorem dX5_scene_7 : decode cX5_scene 7 = .ok (.invokevirtual 87, 3) := by decide +kernel
theorem dX5_scene_10 : decode cX5_scene 10 = .ok (.ifCond .eq 21, 3) := by decide +kernel
theorem dX5_scene_13 : decode cX5_scene 13 = .ok (.iload_n 2, 1) := by decide +kernel
theorem dX5_scene_14 : decode cX5_scene 14 = .ok (.iconst 0, 1) := by decide +kernel
theorem dX5_scene_15 : decode cX5_scene 15 = .ok (.iconst 4, 1) := by decide +kernel
theorem dX5_scene_16 : decode cX5_scene 16 = .ok (.invokestatic 65, 3) := by decide +kernel
theorem dX5_scene_19 : decode cX5_scene 19 = .ok (.ifCond .eq 12, 3) := by decide +kernel
theorem dX5_scene_22 : decode cX5_scene 22 = .ok (.aload_n 0, 1) := by decide +kernel
theorem dX5_scene_23 : decode cX5_scene 23 = .ok (.iload_n 1, 1) := by decide +kernel
theorem dX5_scene_24 : decode cX5_scene 24 = .ok (.iload_n 2, 1) := by decide +kernel
theorem dX5_scene_25 : decode cX5_scene 25 = .ok (.invokevirtual 145, 3) := by decide +kernel
theorem dX5_scene_28 : decode cX5_scene 28 = .ok (.goto 8, 3) := by decide +kernel
theorem dX5_scene_31 : decode cX5_scene 31 = .ok (.aload_n 0, 1) := by decide +kernel
theorem dX5_scene_32 : decode cX5_scene 32 = .ok (.iconst 1, 1) := by decide +kernel
theorem dX5_scene_33 : decode cX5_scene 33 = .ok (.invokevirtual 84, 3) := by decide +kernel
theorem dX5_scene_36 : decode cX5_scene 36 = .ok (.ireturn, 1) := by decide +kernel
theorem dX5_guardTold_0 : decode cX5_guardTold 0 = .ok (.iconst 0, 1) := by decide +kernel
theorem dX5_guardTold_1 : decode cX5_guardTold 1 = .ok (.istore_n 3, 1) := by decide +kernel
theorem dX5_guardTold_2 : decode cX5_guardTold 2 = .ok (.iconst 0, 1) := by decide +kernel
theorem dX5_guardTold_3 : decode cX5_guardTold 3 = .ok (.istore 4, 2) := by decide +kernel
theorem dX5_guardTold_5 : decode cX5_guardTold 5 = .ok (.iload 4, 2) := by decide +kernel
theorem dX5_guardTold_7 : decode cX5_guardTold 7 = .ok (.bipush 24, 2) := by decide +kernel
theorem dX5_guardTold_9 : decode cX5_guardTold 9 = .ok (.if_icmp .ge 24, 3) := by decide +kernel
theorem dX5_guardTold_12 : decode cX5_guardTold 12 = .ok (.iload_n 3, 1) := by decide +kernel
theorem dX5_guardTold_13 : decode cX5_guardTold 13 = .ok (.aload_n 0, 1) := by decide +kernel
theorem dX5_guardTold_14 : decode cX5_guardTold 14 = .ok (.getfield 35, 3) := by decide +kernel
theorem dX5_guardTold_17 : decode cX5_guardTold 17 = .ok (.bipush 24, 2) := by decide +kernel
theorem dX5_guardTold_19 : decode cX5_guardTold 19 = .ok (.iload_n 1, 1) := by decide +kernel
theorem dX5_guardTold_20 : decode cX5_guardTold 20 = .ok (.imul, 1) := by decide +kernel
theorem dX5_guardTold_21 : decode cX5_guardTold 21 = .ok (.iload 4, 2) := by decide +kernel
theorem dX5_guardTold_23 : decode cX5_guardTold 23 = .ok (.iadd, 1) := by decide +kernel
theorem dX5_guardTold_24 : decode cX5_guardTold 24 = .ok (.iaload, 1) := by decide +kernel
theorem dX5_guardTold_25 : decode cX5_guardTold 25 = .ok (.iadd, 1) := by decide +kernel
theorem dX5_guardTold_26 : decode cX5_guardTold 26 = .ok (.istore_n 3, 1) := by decide +kernel
theorem dX5_guardTold_27 : decode cX5_guardTold 27 = .ok (.iinc 4 1, 3) := by decide +kernel
theorem dX5_guardTold_30 : decode cX5_guardTold 30 = .ok (.goto (-25), 3) := by decide +kernel
theorem dX5_guardTold_33 : decode cX5_guardTold 33 = .ok (.iload_n 2, 1) := by decide +kernel
theorem dX5_guardTold_34 : decode cX5_guardTold 34 = .ok (.ifCond .ne 14, 3) := by decide +kernel
theorem dX5_guardTold_37 : decode cX5_guardTold 37 = .ok (.iconst 1, 1) := by decide +kernel
theorem dX5_guardTold_38 : decode cX5_guardTold 38 = .ok (.aload_n 0, 1) := by decide +kernel
theorem dX5_guardTold_39 : decode cX5_guardTold 39 = .ok (.getfield 29, 3) := by decide +kernel
theorem dX5_guardTold_42 : decode cX5_guardTold 42 = .ok (.iload_n 1, 1) := by decide +kernel
theorem dX5_guardTold_43 : decode cX5_guardTold 43 = .ok (.iaload, 1) := by decide +kernel
theorem dX5_guardTold_44 : decode cX5_guardTold 44 = .ok (.isub, 1) := by decide +kernel
theorem dX5_guardTold_45 : decode cX5_guardTold 45 = .ok (.goto 18, 3) := by decide +kernel
theorem dX5_guardTold_48 : decode cX5_guardTold 48 = .ok (.iload_n 2, 1) := by decide +kernel
theorem dX5_guardTold_49 : decode cX5_guardTold 49 = .ok (.iconst 1, 1) := by decide +kernel
theorem dX5_guardTold_50 : decode cX5_guardTold 50 = .ok (.if_icmp .ne 12, 3) := by decide +kernel
theorem dX5_guardTold_53 : decode cX5_guardTold 53 = .ok (.aload_n 0, 1) := by decide +kernel
theorem dX5_guardTold_54 : decode cX5_guardTold 54 = .ok (.getfield 32, 3) := by decide +kernel
theorem dX5_guardTold_57 : decode cX5_guardTold 57 = .ok (.iload_n 1, 1) := by decide +kernel
theorem dX5_guardTold_58 : decode cX5_guardTold 58 = .ok (.iaload, 1) := by decide +kernel
theorem dX5_guardTold_59 : decode cX5_guardTold 59 = .ok (.goto 4, 3) := by decide +kernel
theorem dX5_guardTold_62 : decode cX5_guardTold 62 = .ok (.iload_n 3, 1) := by decide +kernel
theorem dX5_guardTold_63 : decode cX5_guardTold 63 = .ok (.ireturn, 1) := by decide +kernel
set_option maxRecDepth 20000 in
theorem ggX5_guard_X5_isGuard : GoodIn wsX5_guard wsX5_isGuard := goodIn_r _ [6, 7, 8, 9, 5, 10, 22, 23, 24, 25, 26, 27, 28, 29, 30, 31, 32, 33, 34, 35, 36, 37, 38, 39, 40, 41, 42, 43, 44] (by decide +kernel) (by decide +kernel)
set_option maxRecDepth 20000 in
theorem gX5_guard_X5_isGuard : GoodIn wsX5_guard (wsV RX5 148 RX5 yX5_isGuard wsX5_isGuard) := goodIn_app (goodIn_of _ (by decide +kernel)) ggX5_guard_X5_isGuard
set_option maxRecDepth 20000 in
theorem ggX5_guard_X5_isIn : GoodIn wsX5_guard wsX5_isIn := goodIn_r _ [10] (by decide +kernel) (by decide +kernel)
set_option maxRecDepth 20000 in
theorem gX5_guard_X5_isIn : GoodIn wsX5_guard (va_wsS RX5 65 yX5_isIn wsX5_isIn) := goodIn_app (goodIn_of _ (by decide +kernel)) ggX5_guard_X5_isIn
set_option maxRecDepth 20000 in
theorem ggX5_guard_X5_guardTold : GoodIn wsX5_guard wsX5_guardTold := goodIn_r _ [14, 15, 16, 17, 22, 23, 24, 25, 26, 27, 28, 29, 30, 31, 32, 33, 34, 35, 36, 37, 38, 39, 40, 41, 42, 43, 44] (by decide +kernel) (by decide +kernel)
set_option maxRecDepth 20000 in
theorem gX5_guard_X5_guardTold : GoodIn wsX5_guard (wsV RX5 151 RX5 yX5_guardTold wsX5_guardTold) := goodIn_app (goodIn_of _ (by decide +kernel)) ggX5_guard_X5_guardTold
set_option maxRecDepth 20000 in
theorem ggX5_guard_X5_no : GoodIn wsX5_guard wsX5_no := goodIn_r _ [21, 1, 22, 23, 24, 25, 26, 27, 28, 29, 30, 31, 32, 33, 34, 35, 36, 37, 38, 39, 40, 41, 42, 43, 44] (by decide +kernel) (by decide +kernel)
set_option maxRecDepth 20000 in
theorem gX5_guard_X5_no : GoodIn wsX5_guard (wsV RX5 84 RX5 yX5_no wsX5_no) := goodIn_app (goodIn_of _ (by decide +kernel)) ggX5_guard_X5_no
theorem dX5_guard_0 : decode cX5_guard 0 = .ok (.aload_n 0, 1) := by decide +kernel
theorem dX5_guard_1 : decode cX5_guard 1 = .ok (.iconst 0, 1) := by decide +kernel
theorem dX5_guard_2 : decode cX5_guard 2 = .ok (.putfield 59, 3) := by decide +kernel
theorem dX5_guard_5 : decode cX5_guard 5 = .ok (.aload_n 0, 1) := by decide +kernel
theorem dX5_guard_6 : decode cX5_guard 6 = .ok (.iload_n 1, 1) := by decide +kernel
theorem dX5_guard_7 : decode cX5_guard 7 = .ok (.invokevirtual 148, 3) := by decide +kernel
theorem dX5_guard_10 : decode cX5_guard 10 = .ok (.ifCond .eq 21, 3) := by decide +kernel
theorem dX5_guard_13 : decode cX5_guard 13 = .ok (.iload_n 2, 1) := by decide +kernel
theorem dX5_guard_14 : decode cX5_guard 14 = .ok (.iconst 0, 1) := by decide +kernel
theorem dX5_guard_15 : decode cX5_guard 15 = .ok (.iconst 2, 1) := by decide +kernel
theorem dX5_guard_16 : decode cX5_guard 16 = .ok (.invokestatic 65, 3) := by decide +kernel
theorem dX5_guard_19 : decode cX5_guard 19 = .ok (.ifCond .eq 12, 3) := by decide +kernel
theorem dX5_guard_22 : decode cX5_guard 22 = .ok (.aload_n 0, 1) := by decide +kernel
theorem dX5_guard_23 : decode cX5_guard 23 = .ok (.iload_n 1, 1) := by decide +kernel
theorem dX5_guard_24 : decode cX5_guard 24 = .ok (.iload_n 2, 1) := by decide +kernel
theorem dX5_guard_25 : decode cX5_guard 25 = .ok (.invokevirtual 151, 3) := by decide +kernel
theorem dX5_guard_28 : decode cX5_guard 28 = .ok (.goto 8, 3) := by decide +kernel
theorem dX5_guard_31 : decode cX5_guard 31 = .ok (.aload_n 0, 1) := by decide +kernel
theorem dX5_guard_32 : decode cX5_guard 32 = .ok (.iconst 1, 1) := by decide +kernel
theorem dX5_guard_33 : decode cX5_guard 33 = .ok (.invokevirtual 84, 3) := by decide +kernel
theorem dX5_guard_36 : decode cX5_guard 36 = .ok (.ireturn, 1) := by decide +kernel
theorem dX5_travellerTold_0 : decode cX5_travellerTold 0 = .ok (.iconst 0, 1) := by decide +kernel
theorem dX5_travellerTold_1 : decode cX5_travellerTold 1 = .ok (.istore_n 3, 1) := by decide +kernel
theorem dX5_travellerTold_2 : decode cX5_travellerTold 2 = .ok (.iconst 0, 1) := by decide +kernel
theorem dX5_travellerTold_3 : decode cX5_travellerTold 3 = .ok (.istore 4, 2) := by decide +kernel
theorem dX5_travellerTold_5 : decode cX5_travellerTold 5 = .ok (.iload 4, 2) := by decide +kernel
theorem dX5_travellerTold_7 : decode cX5_travellerTold 7 = .ok (.aload_n 0, 1) := by decide +kernel
theorem dX5_travellerTold_8 : decode cX5_travellerTold 8 = .ok (.getfield 75, 3) := by decide +kernel
theorem dX5_travellerTold_11 : decode cX5_travellerTold 11 = .ok (.if_icmp .ge 28, 3) := by decide +kernel
theorem dX5_travellerTold_14 : decode cX5_travellerTold 14 = .ok (.iload_n 3, 1) := by decide +kernel
theorem dX5_travellerTold_15 : decode cX5_travellerTold 15 = .ok (.aload_n 0, 1) := by decide +kernel
theorem dX5_travellerTold_16 : decode cX5_travellerTold 16 = .ok (.getfield 56, 3) := by decide +kernel
theorem dX5_travellerTold_19 : decode cX5_travellerTold 19 = .ok (.iload 4, 2) := by decide +kernel
theorem dX5_travellerTold_21 : decode cX5_travellerTold 21 = .ok (.iaload, 1) := by decide +kernel
theorem dX5_travellerTold_22 : decode cX5_travellerTold 22 = .ok (.iload_n 1, 1) := by decide +kernel
theorem dX5_travellerTold_23 : decode cX5_travellerTold 23 = .ok (.if_icmp .ne 7, 3) := by decide +kernel
theorem dX5_travellerTold_26 : decode cX5_travellerTold 26 = .ok (.iconst 1, 1) := by decide +kernel
theorem dX5_travellerTold_27 : decode cX5_travellerTold 27 = .ok (.goto 4, 3) := by decide +kernel
theorem dX5_travellerTold_30 : decode cX5_travellerTold 30 = .ok (.iconst 0, 1) := by decide +kernel
theorem dX5_travellerTold_31 : decode cX5_travellerTold 31 = .ok (.iadd, 1) := by decide +kernel
theorem dX5_travellerTold_32 : decode cX5_travellerTold 32 = .ok (.istore_n 3, 1) := by decide +kernel
theorem dX5_travellerTold_33 : decode cX5_travellerTold 33 = .ok (.iinc 4 1, 3) := by decide +kernel
theorem dX5_travellerTold_36 : decode cX5_travellerTold 36 = .ok (.goto (-31), 3) := by decide +kernel
theorem dX5_travellerTold_39 : decode cX5_travellerTold 39 = .ok (.iconst 5, 1) := by decide +kernel
theorem dX5_travellerTold_40 : decode cX5_travellerTold 40 = .ok (.newarray .int, 2) := by decide +kernel
theorem dX5_travellerTold_42 : decode cX5_travellerTold 42 = .ok (.dup, 1) := by decide +kernel
theorem dX5_travellerTold_43 : decode cX5_travellerTold 43 = .ok (.iconst 0, 1) := by decide +kernel
theorem dX5_travellerTold_44 : decode cX5_travellerTold 44 = .ok (.aload_n 0, 1) := by decide +kernel
theorem dX5_travellerTold_45 : decode cX5_travellerTold 45 = .ok (.getfield 38, 3) := by decide +kernel
theorem dX5_travellerTold_48 : decode cX5_travellerTold 48 = .ok (.iload_n 1, 1) := by decide +kernel
theorem dX5_travellerTold_49 : decode cX5_travellerTold 49 = .ok (.iaload, 1) := by decide +kernel
theorem dX5_travellerTold_50 : decode cX5_travellerTold 50 = .ok (.iastore, 1) := by decide +kernel
theorem dX5_travellerTold_51 : decode cX5_travellerTold 51 = .ok (.dup, 1) := by decide +kernel
theorem dX5_travellerTold_52 : decode cX5_travellerTold 52 = .ok (.iconst 1, 1) := by decide +kernel
theorem dX5_travellerTold_53 : decode cX5_travellerTold 53 = .ok (.aload_n 0, 1) := by decide +kernel
theorem dX5_travellerTold_54 : decode cX5_travellerTold 54 = .ok (.getfield 41, 3) := by decide +kernel
theorem dX5_travellerTold_57 : decode cX5_travellerTold 57 = .ok (.iload_n 1, 1) := by decide +kernel
theorem dX5_travellerTold_58 : decode cX5_travellerTold 58 = .ok (.iaload, 1) := by decide +kernel
theorem dX5_travellerTold_59 : decode cX5_travellerTold 59 = .ok (.iastore, 1) := by decide +kernel
theorem dX5_travellerTold_60 : decode cX5_travellerTold 60 = .ok (.dup, 1) := by decide +kernel
theorem dX5_travellerTold_61 : decode cX5_travellerTold 61 = .ok (.iconst 2, 1) := by decide +kernel
theorem dX5_travellerTold_62 : decode cX5_travellerTold 62 = .ok (.aload_n 0, 1) := by decide +kernel
theorem dX5_travellerTold_63 : decode cX5_travellerTold 63 = .ok (.getfield 44, 3) := by decide +kernel
theorem dX5_travellerTold_66 : decode cX5_travellerTold 66 = .ok (.iload_n 1, 1) := by decide +kernel
theorem dX5_travellerTold_67 : decode cX5_travellerTold 67 = .ok (.iaload, 1) := by decide +kernel
theorem dX5_travellerTold_68 : decode cX5_travellerTold 68 = .ok (.iastore, 1) := by decide +kernel
theorem dX5_travellerTold_69 : decode cX5_travellerTold 69 = .ok (.dup, 1) := by decide +kernel
theorem dX5_travellerTold_70 : decode cX5_travellerTold 70 = .ok (.iconst 3, 1) := by decide +kernel
theorem dX5_travellerTold_71 : decode cX5_travellerTold 71 = .ok (.aload_n 0, 1) := by decide +kernel
theorem dX5_travellerTold_72 : decode cX5_travellerTold 72 = .ok (.getfield 47, 3) := by decide +kernel
theorem dX5_travellerTold_75 : decode cX5_travellerTold 75 = .ok (.iload_n 1, 1) := by decide +kernel
theorem dX5_travellerTold_76 : decode cX5_travellerTold 76 = .ok (.iaload, 1) := by decide +kernel
theorem dX5_travellerTold_77 : decode cX5_travellerTold 77 = .ok (.iastore, 1) := by decide +kernel
theorem dX5_travellerTold_78 : decode cX5_travellerTold 78 = .ok (.dup, 1) := by decide +kernel
theorem dX5_travellerTold_79 : decode cX5_travellerTold 79 = .ok (.iconst 4, 1) := by decide +kernel
theorem dX5_travellerTold_80 : decode cX5_travellerTold 80 = .ok (.iload_n 3, 1) := by decide +kernel
theorem dX5_travellerTold_81 : decode cX5_travellerTold 81 = .ok (.iastore, 1) := by decide +kernel
theorem dX5_travellerTold_82 : decode cX5_travellerTold 82 = .ok (.astore 4, 2) := by decide +kernel
theorem dX5_travellerTold_84 : decode cX5_travellerTold 84 = .ok (.aload 4, 2) := by decide +kernel
theorem dX5_travellerTold_86 : decode cX5_travellerTold 86 = .ok (.iload_n 2, 1) := by decide +kernel
theorem dX5_travellerTold_87 : decode cX5_travellerTold 87 = .ok (.iaload, 1) := by decide +kernel
theorem dX5_travellerTold_88 : decode cX5_travellerTold 88 = .ok (.ireturn, 1) := by decide +kernel
set_option maxRecDepth 20000 in
theorem ggX5_traveller_X5_isTraveller : GoodIn wsX5_traveller wsX5_isTraveller := goodIn_r _ [6, 7, 8, 9, 5, 10, 26, 27, 28, 29, 30, 31, 32, 33, 34, 35, 36, 37, 38, 39, 40, 41, 42, 43, 44, 45, 46, 47, 48] (by decide +kernel) (by decide +kernel)
set_option maxRecDepth 20000 in
theorem gX5_traveller_X5_isTraveller : GoodIn wsX5_traveller (wsV RX5 117 RX5 yX5_isTraveller wsX5_isTraveller) := goodIn_app (goodIn_of _ (by decide +kernel)) ggX5_traveller_X5_isTraveller
set_option maxRecDepth 20000 in
theorem ggX5_traveller_X5_isIn : GoodIn wsX5_traveller wsX5_isIn := goodIn_r _ [10] (by decide +kernel) (by decide +kernel)
set_option maxRecDepth 20000 in
theorem gX5_traveller_X5_isIn : GoodIn wsX5_traveller (va_wsS RX5 65 yX5_isIn wsX5_isIn) := goodIn_app (goodIn_of _ (by decide +kernel)) ggX5_traveller_X5_isIn
set_option maxRecDepth 20000 in
theorem ggX5_traveller_X5_travellerTold : GoodIn wsX5_traveller wsX5_travellerTold := goodIn_r _ [14, 15, 16, 17, 18, 19, 20, 21, 26, 27, 28, 29, 30, 31, 32, 33, 34, 35, 36, 37, 38, 39, 40, 41, 42, 43, 44, 45, 46, 47, 48] (by decide +kernel) (by decide +kernel)
set_option maxRecDepth 20000 in
theorem gX5_traveller_X5_travellerTold : GoodIn wsX5_traveller (wsV RX5 154 RX5 yX5_travellerTold wsX5_travellerTold) := goodIn_app (goodIn_of _ (by decide +kernel)) ggX5_traveller_X5_travellerTold
set_option maxRecDepth 20000 in
theorem ggX5_traveller_X5_no : GoodIn wsX5_traveller wsX5_no := goodIn_r _ [25, 1, 26, 27, 28, 29, 30, 31, 32, 33, 34, 35, 36, 37, 38, 39, 40, 41, 42, 43, 44, 45, 46, 47, 48] (by decide +kernel) (by decide +kernel)
set_option maxRecDepth 20000 in
theorem gX5_traveller_X5_no : GoodIn wsX5_traveller (wsV RX5 84 RX5 yX5_no wsX5_no) := goodIn_app (goodIn_of _ (by decide +kernel)) ggX5_traveller_X5_no
theorem dX5_traveller_0 : decode cX5_traveller 0 = .ok (.aload_n 0, 1) := by decide +kernel
theorem dX5_traveller_1 : decode cX5_traveller 1 = .ok (.iconst 0, 1) := by decide +kernel
theorem dX5_traveller_2 : decode cX5_traveller 2 = .ok (.putfield 59, 3) := by decide +kernel
theorem dX5_traveller_5 : decode cX5_traveller 5 = .ok (.aload_n 0, 1) := by decide +kernel
theorem dX5_traveller_6 : decode cX5_traveller 6 = .ok (.iload_n 1, 1) := by decide +kernel
theorem dX5_traveller_7 : decode cX5_traveller 7 = .ok (.invokevirtual 117, 3) := by decide +kernel
theorem dX5_traveller_10 : decode cX5_traveller 10 = .ok (.ifCond .eq 21, 3) := by decide +kernel
theorem dX5_traveller_13 : decode cX5_traveller 13 = .ok (.iload_n 2, 1) := by decide +kernel
theorem dX5_traveller_14 : decode cX5_traveller 14 = .ok (.iconst 0, 1) := by decide +kernel
theorem dX5_traveller_15 : decode cX5_traveller 15 = .ok (.iconst 4, 1) := by decide +kernel
theorem dX5_traveller_16 : decode cX5_traveller 16 = .ok (.invokestatic 65, 3) := by decide +kernel
theorem dX5_traveller_19 : decode cX5_traveller 19 = .ok (.ifCond .eq 12, 3) := by decide +kernel
theorem dX5_traveller_22 : decode cX5_traveller 22 = .ok (.aload_n 0, 1) := by decide +kernel
theorem dX5_traveller_23 : decode cX5_traveller 23 = .ok (.iload_n 1, 1) := by decide +kernel
theorem dX5_traveller_24 : decode cX5_traveller 24 = .ok (.iload_n 2, 1) := by decide +kernel
theorem dX5_traveller_25 : decode cX5_traveller 25 = .ok (.invokevirtual 154, 3) := by decide +kernel
theorem dX5_traveller_28 : decode cX5_traveller 28 = .ok (.goto 8, 3) := by decide +kernel
theorem dX5_traveller_31 : decode cX5_traveller 31 = .ok (.aload_n 0, 1) := by decide +kernel
theorem dX5_traveller_32 : decode cX5_traveller 32 = .ok (.iconst 1, 1) := by decide +kernel
theorem dX5_traveller_33 : decode cX5_traveller 33 = .ok (.invokevirtual 84, 3) := by decide +kernel
theorem dX5_traveller_36 : decode cX5_traveller 36 = .ok (.ireturn, 1) := by decide +kernel
set_option maxRecDepth 20000 in
theorem ggX5_plotTold_X5_isOpen : GoodIn wsX5_plotTold wsX5_isOpen := goodIn_r _ [9, 10, 11, 12, 13, 8, 14, 3, 1, 15, 16, 17, 18, 19, 20, 21, 22, 23, 24, 25, 26, 27, 28, 29, 30, 31, 32, 33, 34, 35, 36, 37] (by decide +kernel) (by decide +kernel)
set_option maxRecDepth 20000 in
theorem gX5_plotTold_X5_isOpen : GoodIn wsX5_plotTold (wsV RX5 102 RX5 yX5_isOpen wsX5_isOpen) := goodIn_app (goodIn_of _ (by decide +kernel)) ggX5_plotTold_X5_isOpen
theorem dX5_plotTold_0 : decode cX5_plotTold 0 = .ok (.iconst 0, 1) := by decide +kernel
theorem dX5_plotTold_1 : decode cX5_plotTold 1 = .ok (.istore_n 3, 1) := by decide +kernel
theorem dX5_plotTold_2 : decode cX5_plotTold 2 = .ok (.iconst 0, 1) := by decide +kernel
theorem dX5_plotTold_3 : decode cX5_plotTold 3 = .ok (.istore 4, 2) := by decide +kernel
theorem dX5_plotTold_5 : decode cX5_plotTold 5 = .ok (.iload 4, 2) := by decide +kernel
theorem dX5_plotTold_7 : decode cX5_plotTold 7 = .ok (.aload_n 0, 1) := by decide +kernel
theorem dX5_plotTold_8 : decode cX5_plotTold 8 = .ok (.getfield 50, 3) := by decide +kernel
theorem dX5_plotTold_11 : decode cX5_plotTold 11 = .ok (.iload_n 1, 1) := by decide +kernel
theorem dX5_plotTold_12 : decode cX5_plotTold 12 = .ok (.iaload, 1) := by decide +kernel
theorem dX5_plotTold_13 : decode cX5_plotTold 13 = .ok (.if_icmp .ge 29, 3) := by decide +kernel
theorem dX5_plotTold_16 : decode cX5_plotTold 16 = .ok (.iload_n 3, 1) := by decide +kernel
theorem dX5_plotTold_17 : decode cX5_plotTold 17 = .ok (.aload_n 0, 1) := by decide +kernel
theorem dX5_plotTold_18 : decode cX5_plotTold 18 = .ok (.getfield 13, 3) := by decide +kernel
theorem dX5_plotTold_21 : decode cX5_plotTold 21 = .ok (.aload_n 0, 1) := by decide +kernel
theorem dX5_plotTold_22 : decode cX5_plotTold 22 = .ok (.getfield 53, 3) := by decide +kernel
theorem dX5_plotTold_25 : decode cX5_plotTold 25 = .ok (.bipush 8, 2) := by decide +kernel
theorem dX5_plotTold_27 : decode cX5_plotTold 27 = .ok (.iload_n 1, 1) := by decide +kernel
theorem dX5_plotTold_28 : decode cX5_plotTold 28 = .ok (.imul, 1) := by decide +kernel
theorem dX5_plotTold_29 : decode cX5_plotTold 29 = .ok (.iload 4, 2) := by decide +kernel
theorem dX5_plotTold_31 : decode cX5_plotTold 31 = .ok (.iadd, 1) := by decide +kernel
theorem dX5_plotTold_32 : decode cX5_plotTold 32 = .ok (.iaload, 1) := by decide +kernel
theorem dX5_plotTold_33 : decode cX5_plotTold 33 = .ok (.iaload, 1) := by decide +kernel
theorem dX5_plotTold_34 : decode cX5_plotTold 34 = .ok (.iadd, 1) := by decide +kernel
theorem dX5_plotTold_35 : decode cX5_plotTold 35 = .ok (.istore_n 3, 1) := by decide +kernel
theorem dX5_plotTold_36 : decode cX5_plotTold 36 = .ok (.iinc 4 1, 3) := by decide +kernel
theorem dX5_plotTold_39 : decode cX5_plotTold 39 = .ok (.goto (-34), 3) := by decide +kernel
theorem dX5_plotTold_42 : decode cX5_plotTold 42 = .ok (.iload_n 2, 1) := by decide +kernel
theorem dX5_plotTold_43 : decode cX5_plotTold 43 = .ok (.ifCond .ne 12, 3) := by decide +kernel
theorem dX5_plotTold_46 : decode cX5_plotTold 46 = .ok (.aload_n 0, 1) := by decide +kernel
theorem dX5_plotTold_47 : decode cX5_plotTold 47 = .ok (.getfield 50, 3) := by decide +kernel
theorem dX5_plotTold_50 : decode cX5_plotTold 50 = .ok (.iload_n 1, 1) := by decide +kernel
theorem dX5_plotTold_51 : decode cX5_plotTold 51 = .ok (.iaload, 1) := by decide +kernel
theorem dX5_plotTold_52 : decode cX5_plotTold 52 = .ok (.goto 39, 3) := by decide +kernel
theorem dX5_plotTold_55 : decode cX5_plotTold 55 = .ok (.iload_n 2, 1) := by decide +kernel
theorem dX5_plotTold_56 : decode cX5_plotTold 56 = .ok (.iconst 1, 1) := by decide +kernel
theorem dX5_plotTold_57 : decode cX5_plotTold 57 = .ok (.if_icmp .ne 19, 3) := by decide +kernel
theorem dX5_plotTold_60 : decode cX5_plotTold 60 = .ok (.aload_n 0, 1) := by decide +kernel
theorem dX5_plotTold_61 : decode cX5_plotTold 61 = .ok (.iload_n 1, 1) := by decide +kernel
theorem dX5_plotTold_62 : decode cX5_plotTold 62 = .ok (.invokevirtual 102, 3) := by decide +kernel
theorem dX5_plotTold_65 : decode cX5_plotTold 65 = .ok (.ifCond .eq 7, 3) := by decide +kernel
theorem dX5_plotTold_68 : decode cX5_plotTold 68 = .ok (.iconst 1, 1) := by decide +kernel
theorem dX5_plotTold_69 : decode cX5_plotTold 69 = .ok (.goto 22, 3) := by decide +kernel
theorem dX5_plotTold_72 : decode cX5_plotTold 72 = .ok (.iconst 0, 1) := by decide +kernel
theorem dX5_plotTold_73 : decode cX5_plotTold 73 = .ok (.goto 18, 3) := by decide +kernel
theorem dX5_plotTold_76 : decode cX5_plotTold 76 = .ok (.iload_n 2, 1) := by decide +kernel
theorem dX5_plotTold_77 : decode cX5_plotTold 77 = .ok (.iconst 2, 1) := by decide +kernel
theorem dX5_plotTold_78 : decode cX5_plotTold 78 = .ok (.if_icmp .ne 12, 3) := by decide +kernel
theorem dX5_plotTold_81 : decode cX5_plotTold 81 = .ok (.aload_n 0, 1) := by decide +kernel
theorem dX5_plotTold_82 : decode cX5_plotTold 82 = .ok (.getfield 56, 3) := by decide +kernel
theorem dX5_plotTold_85 : decode cX5_plotTold 85 = .ok (.iload_n 1, 1) := by decide +kernel
theorem dX5_plotTold_86 : decode cX5_plotTold 86 = .ok (.iaload, 1) := by decide +kernel
theorem dX5_plotTold_87 : decode cX5_plotTold 87 = .ok (.goto 4, 3) := by decide +kernel
theorem dX5_plotTold_90 : decode cX5_plotTold 90 = .ok (.iload_n 3, 1) := by decide +kernel
theorem dX5_plotTold_91 : decode cX5_plotTold 91 = .ok (.ireturn, 1) := by decide +kernel
set_option maxRecDepth 20000 in
theorem ggX5_plot_X5_isPlot : GoodIn wsX5_plot wsX5_isPlot := goodIn_r _ [6, 7, 8, 9, 5, 10, 32, 33, 34, 35, 36, 37, 38, 39, 40, 41, 42, 43, 44, 45, 46, 47, 48, 49, 50, 51, 52, 53, 54] (by decide +kernel) (by decide +kernel)
set_option maxRecDepth 20000 in
theorem gX5_plot_X5_isPlot : GoodIn wsX5_plot (wsV RX5 120 RX5 yX5_isPlot wsX5_isPlot) := goodIn_app (goodIn_of _ (by decide +kernel)) ggX5_plot_X5_isPlot
set_option maxRecDepth 20000 in
theorem ggX5_plot_X5_isIn : GoodIn wsX5_plot wsX5_isIn := goodIn_r _ [10] (by decide +kernel) (by decide +kernel)
set_option maxRecDepth 20000 in
theorem gX5_plot_X5_isIn : GoodIn wsX5_plot (va_wsS RX5 65 yX5_isIn wsX5_isIn) := goodIn_app (goodIn_of _ (by decide +kernel)) ggX5_plot_X5_isIn
set_option maxRecDepth 20000 in
theorem ggX5_plot_X5_plotTold : GoodIn wsX5_plot wsX5_plotTold := goodIn_r _ [14, 15, 16, 17, 18, 19, 20, 21, 5, 22, 23, 24, 25, 26, 27, 32, 33, 34, 35, 36, 37, 38, 39, 40, 41, 42, 43, 44, 45, 46, 47, 48, 49, 50, 51, 52, 53, 54] (by decide +kernel) (by decide +kernel)
set_option maxRecDepth 20000 in
theorem gX5_plot_X5_plotTold : GoodIn wsX5_plot (wsV RX5 157 RX5 yX5_plotTold wsX5_plotTold) := goodIn_app (goodIn_of _ (by decide +kernel)) ggX5_plot_X5_plotTold
set_option maxRecDepth 20000 in
theorem ggX5_plot_X5_no : GoodIn wsX5_plot wsX5_no := goodIn_r _ [31, 1, 32, 33, 34, 35, 36, 37, 38, 39, 40, 41, 42, 43, 44, 45, 46, 47, 48, 49, 50, 51, 52, 53, 54] (by decide +kernel) (by decide +kernel)
set_option maxRecDepth 20000 in
theorem gX5_plot_X5_no : GoodIn wsX5_plot (wsV RX5 84 RX5 yX5_no wsX5_no) := goodIn_app (goodIn_of _ (by decide +kernel)) ggX5_plot_X5_no
theorem dX5_plot_0 : decode cX5_plot 0 = .ok (.aload_n 0, 1) := by decide +kernel
theorem dX5_plot_1 : decode cX5_plot 1 = .ok (.iconst 0, 1) := by decide +kernel
theorem dX5_plot_2 : decode cX5_plot 2 = .ok (.putfield 59, 3) := by decide +kernel
theorem dX5_plot_5 : decode cX5_plot 5 = .ok (.aload_n 0, 1) := by decide +kernel
theorem dX5_plot_6 : decode cX5_plot 6 = .ok (.iload_n 1, 1) := by decide +kernel
theorem dX5_plot_7 : decode cX5_plot 7 = .ok (.invokevirtual 120, 3) := by decide +kernel
theorem dX5_plot_10 : decode cX5_plot 10 = .ok (.ifCond .eq 21, 3) := by decide +kernel
theorem dX5_plot_13 : decode cX5_plot 13 = .ok (.iload_n 2, 1) := by decide +kernel
theorem dX5_plot_14 : decode cX5_plot 14 = .ok (.iconst 0, 1) := by decide +kernel
theorem dX5_plot_15 : decode cX5_plot 15 = .ok (.iconst 3, 1) := by decide +kernel
theorem dX5_plot_16 : decode cX5_plot 16 = .ok (.invokestatic 65, 3) := by decide +kernel
theorem dX5_plot_19 : decode cX5_plot 19 = .ok (.ifCond .eq 12, 3) := by decide +kernel
theorem dX5_plot_22 : decode cX5_plot 22 = .ok (.aload_n 0, 1) := by decide +kernel
theorem dX5_plot_23 : decode cX5_plot 23 = .ok (.iload_n 1, 1) := by decide +kernel
theorem dX5_plot_24 : decode cX5_plot 24 = .ok (.iload_n 2, 1) := by decide +kernel
theorem dX5_plot_25 : decode cX5_plot 25 = .ok (.invokevirtual 157, 3) := by decide +kernel
theorem dX5_plot_28 : decode cX5_plot 28 = .ok (.goto 8, 3) := by decide +kernel
theorem dX5_plot_31 : decode cX5_plot 31 = .ok (.aload_n 0, 1) := by decide +kernel
theorem dX5_plot_32 : decode cX5_plot 32 = .ok (.iconst 1, 1) := by decide +kernel
theorem dX5_plot_33 : decode cX5_plot 33 = .ok (.invokevirtual 84, 3) := by decide +kernel
theorem dX5_plot_36 : decode cX5_plot 36 = .ok (.ireturn, 1) := by decide +kernel
set_option maxRecDepth 20000 in
theorem ggX5_told_X5_isPlot : GoodIn wsX5_told wsX5_isPlot := goodIn_r _ [8, 9, 10, 11, 7, 12, 17, 18, 19, 20, 21, 22, 23, 24, 25, 26, 27, 28, 29, 30, 31, 32, 33, 34, 35, 36, 37, 38, 39] (by decide +kernel) (by decide +kernel)
set_option maxRecDepth 20000 in
theorem gX5_told_X5_isPlot : GoodIn wsX5_told (wsV RX5 120 RX5 yX5_isPlot wsX5_isPlot) := goodIn_app (goodIn_of _ (by decide +kernel)) ggX5_told_X5_isPlot
set_option maxRecDepth 20000 in
theorem ggX5_told_X5_isIn : GoodIn wsX5_told wsX5_isIn := goodIn_r _ [12] (by decide +kernel) (by decide +kernel)
set_option maxRecDepth 20000 in
theorem gX5_told_X5_isIn : GoodIn wsX5_told (va_wsS RX5 65 yX5_isIn wsX5_isIn) := goodIn_app (goodIn_of _ (by decide +kernel)) ggX5_told_X5_isIn
set_option maxRecDepth 20000 in
theorem ggX5_told_X5_no : GoodIn wsX5_told wsX5_no := goodIn_r _ [16, 1, 17, 18, 19, 20, 21, 22, 23, 24, 25, 26, 27, 28, 29, 30, 31, 32, 33, 34, 35, 36, 37, 38, 39] (by decide +kernel) (by decide +kernel)
set_option maxRecDepth 20000 in
theorem gX5_told_X5_no : GoodIn wsX5_told (wsV RX5 84 RX5 yX5_no wsX5_no) := goodIn_app (goodIn_of _ (by decide +kernel)) ggX5_told_X5_no
theorem dX5_told_0 : decode cX5_told 0 = .ok (.aload_n 0, 1) := by decide +kernel
theorem dX5_told_1 : decode cX5_told 1 = .ok (.iconst 0, 1) := by decide +kernel
theorem dX5_told_2 : decode cX5_told 2 = .ok (.putfield 59, 3) := by decide +kernel
theorem dX5_told_5 : decode cX5_told 5 = .ok (.aload_n 0, 1) := by decide +kernel
theorem dX5_told_6 : decode cX5_told 6 = .ok (.iload_n 1, 1) := by decide +kernel
theorem dX5_told_7 : decode cX5_told 7 = .ok (.invokevirtual 120, 3) := by decide +kernel
theorem dX5_told_10 : decode cX5_told 10 = .ok (.ifCond .eq 33, 3) := by decide +kernel
theorem dX5_told_13 : decode cX5_told 13 = .ok (.iload_n 2, 1) := by decide +kernel
theorem dX5_told_14 : decode cX5_told 14 = .ok (.iconst 0, 1) := by decide +kernel
theorem dX5_told_15 : decode cX5_told 15 = .ok (.aload_n 0, 1) := by decide +kernel
theorem dX5_told_16 : decode cX5_told 16 = .ok (.getfield 50, 3) := by decide +kernel
theorem dX5_told_19 : decode cX5_told 19 = .ok (.iload_n 1, 1) := by decide +kernel
theorem dX5_told_20 : decode cX5_told 20 = .ok (.iaload, 1) := by decide +kernel
theorem dX5_told_21 : decode cX5_told 21 = .ok (.iconst 1, 1) := by decide +kernel
theorem dX5_told_22 : decode cX5_told 22 = .ok (.isub, 1) := by decide +kernel
theorem dX5_told_23 : decode cX5_told 23 = .ok (.invokestatic 65, 3) := by decide +kernel
theorem dX5_told_26 : decode cX5_told 26 = .ok (.ifCond .eq 17, 3) := by decide +kernel
theorem dX5_told_29 : decode cX5_told 29 = .ok (.aload_n 0, 1) := by decide +kernel
theorem dX5_told_30 : decode cX5_told 30 = .ok (.getfield 53, 3) := by decide +kernel
theorem dX5_told_33 : decode cX5_told 33 = .ok (.bipush 8, 2) := by decide +kernel
theorem dX5_told_35 : decode cX5_told 35 = .ok (.iload_n 1, 1) := by decide +kernel
theorem dX5_told_36 : decode cX5_told 36 = .ok (.imul, 1) := by decide +kernel
theorem dX5_told_37 : decode cX5_told 37 = .ok (.iload_n 2, 1) := by decide +kernel
theorem dX5_told_38 : decode cX5_told 38 = .ok (.iadd, 1) := by decide +kernel
theorem dX5_told_39 : decode cX5_told 39 = .ok (.iaload, 1) := by decide +kernel
theorem dX5_told_40 : decode cX5_told 40 = .ok (.goto 8, 3) := by decide +kernel
theorem dX5_told_43 : decode cX5_told 43 = .ok (.aload_n 0, 1) := by decide +kernel
theorem dX5_told_44 : decode cX5_told 44 = .ok (.iconst 1, 1) := by decide +kernel
theorem dX5_told_45 : decode cX5_told 45 = .ok (.invokevirtual 84, 3) := by decide +kernel
theorem dX5_told_48 : decode cX5_told 48 = .ok (.ireturn, 1) := by decide +kernel
set_option maxRecDepth 20000 in
theorem ggX5_counted_X5_isOpen : GoodIn wsX5_counted wsX5_isOpen := goodIn_r _ [13, 14, 15, 16, 17, 12, 18, 19, 20, 38, 39, 40, 41, 42, 43, 44, 45, 46, 47, 48, 49, 50, 51, 52, 53, 54, 55, 56, 57, 58, 59, 60] (by decide +kernel) (by decide +kernel)
set_option maxRecDepth 20000 in
theorem gX5_counted_X5_isOpen : GoodIn wsX5_counted (wsV RX5 102 RX5 yX5_isOpen wsX5_isOpen) := goodIn_app (goodIn_of _ (by decide +kernel)) ggX5_counted_X5_isOpen
set_option maxRecDepth 20000 in
theorem ggX5_counted_X5_pairs : GoodIn wsX5_counted wsX5_pairs := goodIn_r _ [24, 6, 25, 26, 27, 28, 29, 30, 31, 32, 38, 39, 40, 41, 42, 43, 44, 45, 46, 47, 48, 49, 50, 51, 52, 53, 54, 55, 56, 57, 58, 59, 60] (by decide +kernel) (by decide +kernel)
set_option maxRecDepth 20000 in
theorem gX5_counted_X5_pairs : GoodIn wsX5_counted (wsV RX5 95 RX5 yX5_pairs wsX5_pairs) := goodIn_app (goodIn_of _ (by decide +kernel)) ggX5_counted_X5_pairs
set_option maxRecDepth 20000 in
theorem ggX5_counted_X5_awake : GoodIn wsX5_counted wsX5_awake := goodIn_r _ [36, 7, 37, 38, 39, 40, 41, 42, 43, 44, 45, 46, 47, 48, 49, 50, 51, 52, 53, 54, 55, 56, 57, 58, 59, 60] (by decide +kernel) (by decide +kernel)
set_option maxRecDepth 20000 in
theorem gX5_counted_X5_awake : GoodIn wsX5_counted (wsV RX5 136 RX5 yX5_awake wsX5_awake) := goodIn_app (goodIn_of _ (by decide +kernel)) ggX5_counted_X5_awake
theorem dX5_counted_0 : decode cX5_counted 0 = .ok (.iconst 0, 1) := by decide +kernel
theorem dX5_counted_1 : decode cX5_counted 1 = .ok (.istore_n 2, 1) := by decide +kernel
theorem dX5_counted_2 : decode cX5_counted 2 = .ok (.iconst 0, 1) := by decide +kernel
theorem dX5_counted_3 : decode cX5_counted 3 = .ok (.istore_n 3, 1) := by decide +kernel
theorem dX5_counted_4 : decode cX5_counted 4 = .ok (.iconst 0, 1) := by decide +kernel
theorem dX5_counted_5 : decode cX5_counted 5 = .ok (.istore 4, 2) := by decide +kernel
theorem dX5_counted_7 : decode cX5_counted 7 = .ok (.iconst 0, 1) := by decide +kernel
theorem dX5_counted_8 : decode cX5_counted 8 = .ok (.istore 5, 2) := by decide +kernel
theorem dX5_counted_10 : decode cX5_counted 10 = .ok (.iload 5, 2) := by decide +kernel
theorem dX5_counted_12 : decode cX5_counted 12 = .ok (.aload_n 0, 1) := by decide +kernel
theorem dX5_counted_13 : decode cX5_counted 13 = .ok (.getfield 72, 3) := by decide +kernel
theorem dX5_counted_16 : decode cX5_counted 16 = .ok (.if_icmp .ge 46, 3) := by decide +kernel
theorem dX5_counted_19 : decode cX5_counted 19 = .ok (.iload_n 2, 1) := by decide +kernel
theorem dX5_counted_20 : decode cX5_counted 20 = .ok (.aload_n 0, 1) := by decide +kernel
theorem dX5_counted_21 : decode cX5_counted 21 = .ok (.getfield 44, 3) := by decide +kernel
theorem dX5_counted_24 : decode cX5_counted 24 = .ok (.iload 5, 2) := by decide +kernel
theorem dX5_counted_26 : decode cX5_counted 26 = .ok (.iaload, 1) := by decide +kernel
theorem dX5_counted_27 : decode cX5_counted 27 = .ok (.ifCond .ne 7, 3) := by decide +kernel
theorem dX5_counted_30 : decode cX5_counted 30 = .ok (.iconst 1, 1) := by decide +kernel
theorem dX5_counted_31 : decode cX5_counted 31 = .ok (.goto 4, 3) := by decide +kernel
theorem dX5_counted_34 : decode cX5_counted 34 = .ok (.iconst 0, 1) := by decide +kernel
theorem dX5_counted_35 : decode cX5_counted 35 = .ok (.iadd, 1) := by decide +kernel
theorem dX5_counted_36 : decode cX5_counted 36 = .ok (.istore_n 2, 1) := by decide +kernel
theorem dX5_counted_37 : decode cX5_counted 37 = .ok (.iload_n 3, 1) := by decide +kernel
theorem dX5_counted_38 : decode cX5_counted 38 = .ok (.aload_n 0, 1) := by decide +kernel
theorem dX5_counted_39 : decode cX5_counted 39 = .ok (.getfield 44, 3) := by decide +kernel
theorem dX5_counted_42 : decode cX5_counted 42 = .ok (.iload 5, 2) := by decide +kernel
theorem dX5_counted_44 : decode cX5_counted 44 = .ok (.iaload, 1) := by decide +kernel
theorem dX5_counted_45 : decode cX5_counted 45 = .ok (.iconst 1, 1) := by decide +kernel
theorem dX5_counted_46 : decode cX5_counted 46 = .ok (.if_icmp .ne 7, 3) := by decide +kernel
theorem dX5_counted_49 : decode cX5_counted 49 = .ok (.iconst 1, 1) := by decide +kernel
theorem dX5_counted_50 : decode cX5_counted 50 = .ok (.goto 4, 3) := by decide +kernel
theorem dX5_counted_53 : decode cX5_counted 53 = .ok (.iconst 0, 1) := by decide +kernel
theorem dX5_counted_54 : decode cX5_counted 54 = .ok (.iadd, 1) := by decide +kernel
theorem dX5_counted_55 : decode cX5_counted 55 = .ok (.istore_n 3, 1) := by decide +kernel
theorem dX5_counted_56 : decode cX5_counted 56 = .ok (.iinc 5 1, 3) := by decide +kernel
theorem dX5_counted_59 : decode cX5_counted 59 = .ok (.goto (-49), 3) := by decide +kernel
theorem dX5_counted_62 : decode cX5_counted 62 = .ok (.iconst 0, 1) := by decide +kernel
theorem dX5_counted_63 : decode cX5_counted 63 = .ok (.istore 5, 2) := by decide +kernel
theorem dX5_counted_65 : decode cX5_counted 65 = .ok (.iload 5, 2) := by decide +kernel
theorem dX5_counted_67 : decode cX5_counted 67 = .ok (.aload_n 0, 1) := by decide +kernel
theorem dX5_counted_68 : decode cX5_counted 68 = .ok (.getfield 75, 3) := by decide +kernel
theorem dX5_counted_71 : decode cX5_counted 71 = .ok (.if_icmp .ge 28, 3) := by decide +kernel
theorem dX5_counted_74 : decode cX5_counted 74 = .ok (.iload 4, 2) := by decide +kernel
theorem dX5_counted_76 : decode cX5_counted 76 = .ok (.aload_n 0, 1) := by decide +kernel
theorem dX5_counted_77 : decode cX5_counted 77 = .ok (.iload 5, 2) := by decide +kernel
theorem dX5_counted_79 : decode cX5_counted 79 = .ok (.invokevirtual 102, 3) := by decide +kernel
theorem dX5_counted_82 : decode cX5_counted 82 = .ok (.ifCond .eq 7, 3) := by decide +kernel
theorem dX5_counted_85 : decode cX5_counted 85 = .ok (.iconst 1, 1) := by decide +kernel
theorem dX5_counted_86 : decode cX5_counted 86 = .ok (.goto 4, 3) := by decide +kernel
theorem dX5_counted_89 : decode cX5_counted 89 = .ok (.iconst 0, 1) := by decide +kernel
theorem dX5_counted_90 : decode cX5_counted 90 = .ok (.iadd, 1) := by decide +kernel
theorem dX5_counted_91 : decode cX5_counted 91 = .ok (.istore 4, 2) := by decide +kernel
theorem dX5_counted_93 : decode cX5_counted 93 = .ok (.iinc 5 1, 3) := by decide +kernel
theorem dX5_counted_96 : decode cX5_counted 96 = .ok (.goto (-31), 3) := by decide +kernel
theorem dX5_counted_99 : decode cX5_counted 99 = .ok (.bipush 11, 2) := by decide +kernel
theorem dX5_counted_101 : decode cX5_counted 101 = .ok (.newarray .int, 2) := by decide +kernel
theorem dX5_counted_103 : decode cX5_counted 103 = .ok (.dup, 1) := by decide +kernel
theorem dX5_counted_104 : decode cX5_counted 104 = .ok (.iconst 0, 1) := by decide +kernel
theorem dX5_counted_105 : decode cX5_counted 105 = .ok (.aload_n 0, 1) := by decide +kernel
theorem dX5_counted_106 : decode cX5_counted 106 = .ok (.getfield 142, 3) := by decide +kernel
theorem dX5_counted_109 : decode cX5_counted 109 = .ok (.iastore, 1) := by decide +kernel
theorem dX5_counted_110 : decode cX5_counted 110 = .ok (.dup, 1) := by decide +kernel
theorem dX5_counted_111 : decode cX5_counted 111 = .ok (.iconst 1, 1) := by decide +kernel
theorem dX5_counted_112 : decode cX5_counted 112 = .ok (.aload_n 0, 1) := by decide +kernel
theorem dX5_counted_113 : decode cX5_counted 113 = .ok (.getfield 62, 3) := by decide +kernel
theorem dX5_counted_116 : decode cX5_counted 116 = .ok (.iastore, 1) := by decide +kernel
theorem dX5_counted_117 : decode cX5_counted 117 = .ok (.dup, 1) := by decide +kernel
theorem dX5_counted_118 : decode cX5_counted 118 = .ok (.iconst 2, 1) := by decide +kernel
theorem dX5_counted_119 : decode cX5_counted 119 = .ok (.aload_n 0, 1) := by decide +kernel
theorem dX5_counted_120 : decode cX5_counted 120 = .ok (.invokevirtual 95, 3) := by decide +kernel
theorem dX5_counted_123 : decode cX5_counted 123 = .ok (.iastore, 1) := by decide +kernel
theorem dX5_counted_124 : decode cX5_counted 124 = .ok (.dup, 1) := by decide +kernel
theorem dX5_counted_125 : decode cX5_counted 125 = .ok (.iconst 3, 1) := by decide +kernel
theorem dX5_counted_126 : decode cX5_counted 126 = .ok (.aload_n 0, 1) := by decide +kernel
theorem dX5_counted_127 : decode cX5_counted 127 = .ok (.getfield 69, 3) := by decide +kernel
theorem dX5_counted_130 : decode cX5_counted 130 = .ok (.iastore, 1) := by decide +kernel
theorem dX5_counted_131 : decode cX5_counted 131 = .ok (.dup, 1) := by decide +kernel
theorem dX5_counted_132 : decode cX5_counted 132 = .ok (.iconst 4, 1) := by decide +kernel
theorem dX5_counted_133 : decode cX5_counted 133 = .ok (.aload_n 0, 1) := by decide +kernel
theorem dX5_counted_134 : decode cX5_counted 134 = .ok (.invokevirtual 136, 3) := by decide +kernel
theorem dX5_counted_137 : decode cX5_counted 137 = .ok (.iastore, 1) := by decide +kernel
theorem dX5_counted_138 : decode cX5_counted 138 = .ok (.dup, 1) := by decide +kernel
theorem dX5_counted_139 : decode cX5_counted 139 = .ok (.iconst 5, 1) := by decide +kernel
theorem dX5_counted_140 : decode cX5_counted 140 = .ok (.aload_n 0, 1) := by decide +kernel
theorem dX5_counted_141 : decode cX5_counted 141 = .ok (.getfield 72, 3) := by decide +kernel
theorem dX5_counted_144 : decode cX5_counted 144 = .ok (.iastore, 1) := by decide +kernel
theorem dX5_counted_145 : decode cX5_counted 145 = .ok (.dup, 1) := by decide +kernel
theorem dX5_counted_146 : decode cX5_counted 146 = .ok (.bipush 6, 2) := by decide +kernel
theorem dX5_counted_148 : decode cX5_counted 148 = .ok (.iload_n 2, 1) := by decide +kernel
theorem dX5_counted_149 : decode cX5_counted 149 = .ok (.iastore, 1) := by decide +kernel
theorem dX5_counted_150 : decode cX5_counted 150 = .ok (.dup, 1) := by decide +kernel
theorem dX5_counted_151 : decode cX5_counted 151 = .ok (.bipush 7, 2) := by decide +kernel
theorem dX5_counted_153 : decode cX5_counted 153 = .ok (.iload_n 3, 1) := by decide +kernel
theorem dX5_counted_154 : decode cX5_counted 154 = .ok (.iastore, 1) := by decide +kernel
theorem dX5_counted_155 : decode cX5_counted 155 = .ok (.dup, 1) := by decide +kernel
theorem dX5_counted_156 : decode cX5_counted 156 = .ok (.bipush 8, 2) := by decide +kernel
theorem dX5_counted_158 : decode cX5_counted 158 = .ok (.aload_n 0, 1) := by decide +kernel
theorem dX5_counted_159 : decode cX5_counted 159 = .ok (.getfield 75, 3) := by decide +kernel
theorem dX5_counted_162 : decode cX5_counted 162 = .ok (.iastore, 1) := by decide +kernel
theorem dX5_counted_163 : decode cX5_counted 163 = .ok (.dup, 1) := by decide +kernel
theorem dX5_counted_164 : decode cX5_counted 164 = .ok (.bipush 9, 2) := by decide +kernel
theorem dX5_counted_166 : decode cX5_counted 166 = .ok (.iload 4, 2) := by decide +kernel
theorem dX5_counted_168 : decode cX5_counted 168 = .ok (.iastore, 1) := by decide +kernel
theorem dX5_counted_169 : decode cX5_counted 169 = .ok (.dup, 1) := by decide +kernel
theorem dX5_counted_170 : decode cX5_counted 170 = .ok (.bipush 10, 2) := by decide +kernel
theorem dX5_counted_172 : decode cX5_counted 172 = .ok (.aload_n 0, 1) := by decide +kernel
theorem dX5_counted_173 : decode cX5_counted 173 = .ok (.getfield 133, 3) := by decide +kernel
theorem dX5_counted_176 : decode cX5_counted 176 = .ok (.iastore, 1) := by decide +kernel
theorem dX5_counted_177 : decode cX5_counted 177 = .ok (.astore 5, 2) := by decide +kernel
theorem dX5_counted_179 : decode cX5_counted 179 = .ok (.aload 5, 2) := by decide +kernel
theorem dX5_counted_181 : decode cX5_counted 181 = .ok (.iload_n 1, 1) := by decide +kernel
theorem dX5_counted_182 : decode cX5_counted 182 = .ok (.iaload, 1) := by decide +kernel
theorem dX5_counted_183 : decode cX5_counted 183 = .ok (.ireturn, 1) := by decide +kernel
set_option maxRecDepth 20000 in
theorem ggX5_count_X5_isIn : GoodIn wsX5_count wsX5_isIn := goodIn_r _ [5] (by decide +kernel) (by decide +kernel)
set_option maxRecDepth 20000 in
theorem gX5_count_X5_isIn : GoodIn wsX5_count (va_wsS RX5 65 yX5_isIn wsX5_isIn) := goodIn_app (goodIn_of _ (by decide +kernel)) ggX5_count_X5_isIn
set_option maxRecDepth 20000 in
theorem ggX5_count_X5_counted : GoodIn wsX5_count wsX5_counted := goodIn_r _ [9, 10, 11, 12, 13, 14, 15, 16, 17, 18, 19, 20, 4, 21, 22, 23, 24, 25, 26, 27, 28, 29, 30, 31, 32, 33, 34, 35, 36, 37, 38, 39, 40, 41, 42, 43, 44, 45, 50, 51, 52, 53, 54, 55, 56, 57, 58, 59, 60, 61, 62, 63, 64, 65, 66, 67, 68, 69, 70, 71, 72] (by decide +kernel) (by decide +kernel)
set_option maxRecDepth 20000 in
theorem gX5_count_X5_counted : GoodIn wsX5_count (wsV RX5 160 RX5 yX5_counted wsX5_counted) := goodIn_app (goodIn_of _ (by decide +kernel)) ggX5_count_X5_counted
set_option maxRecDepth 20000 in
theorem ggX5_count_X5_no : GoodIn wsX5_count wsX5_no := goodIn_r _ [49, 1, 50, 51, 52, 53, 54, 55, 56, 57, 58, 59, 60, 61, 62, 63, 64, 65, 66, 67, 68, 69, 70, 71, 72] (by decide +kernel) (by decide +kernel)
set_option maxRecDepth 20000 in
theorem gX5_count_X5_no : GoodIn wsX5_count (wsV RX5 84 RX5 yX5_no wsX5_no) := goodIn_app (goodIn_of _ (by decide +kernel)) ggX5_count_X5_no
theorem dX5_count_0 : decode cX5_count 0 = .ok (.aload_n 0, 1) := by decide +kernel
theorem dX5_count_1 : decode cX5_count 1 = .ok (.iconst 0, 1) := by decide +kernel
theorem dX5_count_2 : decode cX5_count 2 = .ok (.putfield 59, 3) := by decide +kernel
theorem dX5_count_5 : decode cX5_count 5 = .ok (.iload_n 1, 1) := by decide +kernel
theorem dX5_count_6 : decode cX5_count 6 = .ok (.iconst 0, 1) := by decide +kernel
theorem dX5_count_7 : decode cX5_count 7 = .ok (.bipush 10, 2) := by decide +kernel
theorem dX5_count_9 : decode cX5_count 9 = .ok (.invokestatic 65, 3) := by decide +kernel
theorem dX5_count_12 : decode cX5_count 12 = .ok (.ifCond .eq 11, 3) := by decide +kernel
theorem dX5_count_15 : decode cX5_count 15 = .ok (.aload_n 0, 1) := by decide +kernel
theorem dX5_count_16 : decode cX5_count 16 = .ok (.iload_n 1, 1) := by decide +kernel
theorem dX5_count_17 : decode cX5_count 17 = .ok (.invokevirtual 160, 3) := by decide +kernel
theorem dX5_count_20 : decode cX5_count 20 = .ok (.goto 8, 3) := by decide +kernel
theorem dX5_count_23 : decode cX5_count 23 = .ok (.aload_n 0, 1) := by decide +kernel
theorem dX5_count_24 : decode cX5_count 24 = .ok (.iconst 1, 1) := by decide +kernel
theorem dX5_count_25 : decode cX5_count 25 = .ok (.invokevirtual 84, 3) := by decide +kernel
theorem dX5_count_28 : decode cX5_count 28 = .ok (.ireturn, 1) := by decide +kernel
set_option maxRecDepth 20000 in
theorem ggX5_worth_X5_isGuard : GoodIn wsX5_worth wsX5_isGuard := goodIn_r _ [6, 7, 8, 9, 5, 10, 28, 29, 30, 31, 32, 33, 34, 35, 36, 37, 38, 39, 40, 41, 42, 43, 44, 45, 46, 47, 48, 49, 50] (by decide +kernel) (by decide +kernel)
set_option maxRecDepth 20000 in
theorem gX5_worth_X5_isGuard : GoodIn wsX5_worth (wsV RX5 148 RX5 yX5_isGuard wsX5_isGuard) := goodIn_app (goodIn_of _ (by decide +kernel)) ggX5_worth_X5_isGuard
set_option maxRecDepth 20000 in
theorem ggX5_worth_X5_isScene : GoodIn wsX5_worth wsX5_isScene := goodIn_r _ [14, 15, 8, 9, 5, 10, 28, 29, 30, 31, 32, 33, 34, 35, 36, 37, 38, 39, 40, 41, 42, 43, 44, 45, 46, 47, 48, 49, 50] (by decide +kernel) (by decide +kernel)
set_option maxRecDepth 20000 in
theorem gX5_worth_X5_isScene : GoodIn wsX5_worth (wsV RX5 87 RX5 yX5_isScene wsX5_isScene) := goodIn_app (goodIn_of _ (by decide +kernel)) ggX5_worth_X5_isScene
set_option maxRecDepth 20000 in
theorem ggX5_worth_X5_worthOf : GoodIn wsX5_worth wsX5_worthOf := goodIn_r _ [19, 20, 21, 22, 23, 28, 29, 30, 31, 32, 33, 34, 35, 36, 37, 38, 39, 40, 41, 42, 43, 44, 45, 46, 47, 48, 49, 50] (by decide +kernel) (by decide +kernel)
set_option maxRecDepth 20000 in
theorem gX5_worth_X5_worthOf : GoodIn wsX5_worth (wsV RX5 105 RX5 yX5_worthOf wsX5_worthOf) := goodIn_app (goodIn_of _ (by decide +kernel)) ggX5_worth_X5_worthOf
set_option maxRecDepth 20000 in
theorem ggX5_worth_X5_no : GoodIn wsX5_worth wsX5_no := goodIn_r _ [27, 1, 28, 29, 30, 31, 32, 33, 34, 35, 36, 37, 38, 39, 40, 41, 42, 43, 44, 45, 46, 47, 48, 49, 50] (by decide +kernel) (by decide +kernel)
set_option maxRecDepth 20000 in
theorem gX5_worth_X5_no : GoodIn wsX5_worth (wsV RX5 84 RX5 yX5_no wsX5_no) := goodIn_app (goodIn_of _ (by decide +kernel)) ggX5_worth_X5_no
theorem dX5_worth_0 : decode cX5_worth 0 = .ok (.aload_n 0, 1) := by decide +kernel
theorem dX5_worth_1 : decode cX5_worth 1 = .ok (.iconst 0, 1) := by decide +kernel
theorem dX5_worth_2 : decode cX5_worth 2 = .ok (.putfield 59, 3) := by decide +kernel
theorem dX5_worth_5 : decode cX5_worth 5 = .ok (.aload_n 0, 1) := by decide +kernel
theorem dX5_worth_6 : decode cX5_worth 6 = .ok (.iload_n 1, 1) := by decide +kernel
theorem dX5_worth_7 : decode cX5_worth 7 = .ok (.invokevirtual 148, 3) := by decide +kernel
theorem dX5_worth_10 : decode cX5_worth 10 = .ok (.ifCond .eq 20, 3) := by decide +kernel
theorem dX5_worth_13 : decode cX5_worth 13 = .ok (.aload_n 0, 1) := by decide +kernel
theorem dX5_worth_14 : decode cX5_worth 14 = .ok (.iload_n 2, 1) := by decide +kernel
theorem dX5_worth_15 : decode cX5_worth 15 = .ok (.invokevirtual 87, 3) := by decide +kernel
theorem dX5_worth_18 : decode cX5_worth 18 = .ok (.ifCond .eq 12, 3) := by decide +kernel
theorem dX5_worth_21 : decode cX5_worth 21 = .ok (.aload_n 0, 1) := by decide +kernel
theorem dX5_worth_22 : decode cX5_worth 22 = .ok (.iload_n 1, 1) := by decide +kernel
theorem dX5_worth_23 : decode cX5_worth 23 = .ok (.iload_n 2, 1) := by decide +kernel
theorem dX5_worth_24 : decode cX5_worth 24 = .ok (.invokevirtual 105, 3) := by decide +kernel
theorem dX5_worth_27 : decode cX5_worth 27 = .ok (.goto 8, 3) := by decide +kernel
theorem dX5_worth_30 : decode cX5_worth 30 = .ok (.aload_n 0, 1) := by decide +kernel
theorem dX5_worth_31 : decode cX5_worth 31 = .ok (.iconst 1, 1) := by decide +kernel
theorem dX5_worth_32 : decode cX5_worth 32 = .ok (.invokevirtual 84, 3) := by decide +kernel
theorem dX5_worth_35 : decode cX5_worth 35 = .ok (.ireturn, 1) := by decide +kernel
set_option maxRecDepth 20000 in
theorem ggX5_best_X5_isTraveller : GoodIn wsX5_best wsX5_isTraveller := goodIn_r _ [7, 8, 9, 10, 6, 11, 61, 62, 63, 64, 65, 66, 67, 68, 69, 70, 71, 72, 73, 74, 75, 76, 77, 78, 79, 80, 81, 82, 83] (by decide +kernel) (by decide +kernel)
set_option maxRecDepth 20000 in
theorem gX5_best_X5_isTraveller : GoodIn wsX5_best (wsV RX5 117 RX5 yX5_isTraveller wsX5_isTraveller) := goodIn_app (goodIn_of _ (by decide +kernel)) ggX5_best_X5_isTraveller
set_option maxRecDepth 20000 in
theorem ggX5_best_X5_isPlot : GoodIn wsX5_best wsX5_isPlot := goodIn_r _ [15, 16, 9, 10, 6, 11, 61, 62, 63, 64, 65, 66, 67, 68, 69, 70, 71, 72, 73, 74, 75, 76, 77, 78, 79, 80, 81, 82, 83] (by decide +kernel) (by decide +kernel)
set_option maxRecDepth 20000 in
theorem gX5_best_X5_isPlot : GoodIn wsX5_best (wsV RX5 120 RX5 yX5_isPlot wsX5_isPlot) := goodIn_app (goodIn_of _ (by decide +kernel)) ggX5_best_X5_isPlot
set_option maxRecDepth 20000 in
theorem ggX5_best_X5_no : GoodIn wsX5_best wsX5_no := goodIn_r _ [20, 1, 61, 62, 63, 64, 65, 66, 67, 68, 69, 70, 71, 72, 73, 74, 75, 76, 77, 78, 79, 80, 81, 82, 83] (by decide +kernel) (by decide +kernel)
set_option maxRecDepth 20000 in
theorem gX5_best_X5_no : GoodIn wsX5_best (wsV RX5 84 RX5 yX5_no wsX5_no) := goodIn_app (goodIn_of _ (by decide +kernel)) ggX5_best_X5_no
set_option maxRecDepth 20000 in
theorem ggX5_best_X5_can : GoodIn wsX5_best wsX5_can := goodIn_r _ [24, 25, 26, 27, 16, 28, 29, 30, 31, 32, 6, 33, 34, 35, 36, 37, 38, 39, 40, 41, 42, 61, 62, 63, 64, 65, 66, 67, 68, 69, 70, 71, 72, 73, 74, 75, 76, 77, 78, 79, 80, 81, 82, 83] (by decide +kernel) (by decide +kernel)
set_option maxRecDepth 20000 in
theorem gX5_best_X5_can : GoodIn wsX5_best (wsV RX5 123 RX5 yX5_can wsX5_can) := goodIn_app (goodIn_of _ (by decide +kernel)) ggX5_best_X5_can
set_option maxRecDepth 20000 in
theorem ggX5_best_X5_toll : GoodIn wsX5_best wsX5_toll := goodIn_r _ [46, 47, 48, 49, 50, 51, 52, 53, 54, 55, 6, 56, 57, 58, 59, 60, 61, 62, 63, 64, 65, 66, 67, 68, 69, 70, 71, 72, 73, 74, 75, 76, 77, 78, 79, 80, 81, 82, 83] (by decide +kernel) (by decide +kernel)
set_option maxRecDepth 20000 in
theorem gX5_best_X5_toll : GoodIn wsX5_best (wsV RX5 126 RX5 yX5_toll wsX5_toll) := goodIn_app (goodIn_of _ (by decide +kernel)) ggX5_best_X5_toll
theorem dX5_best_0 : decode cX5_best 0 = .ok (.aload_n 0, 1) := by decide +kernel
theorem dX5_best_1 : decode cX5_best 1 = .ok (.iconst 0, 1) := by decide +kernel
theorem dX5_best_2 : decode cX5_best 2 = .ok (.putfield 59, 3) := by decide +kernel
theorem dX5_best_5 : decode cX5_best 5 = .ok (.aload_n 0, 1) := by decide +kernel
theorem dX5_best_6 : decode cX5_best 6 = .ok (.iload_n 1, 1) := by decide +kernel
theorem dX5_best_7 : decode cX5_best 7 = .ok (.invokevirtual 117, 3) := by decide +kernel
theorem dX5_best_10 : decode cX5_best 10 = .ok (.ifCond .eq 11, 3) := by decide +kernel
theorem dX5_best_13 : decode cX5_best 13 = .ok (.aload_n 0, 1) := by decide +kernel
theorem dX5_best_14 : decode cX5_best 14 = .ok (.iload_n 2, 1) := by decide +kernel
theorem dX5_best_15 : decode cX5_best 15 = .ok (.invokevirtual 120, 3) := by decide +kernel
theorem dX5_best_18 : decode cX5_best 18 = .ok (.ifCond .ne 9, 3) := by decide +kernel
theorem dX5_best_21 : decode cX5_best 21 = .ok (.aload_n 0, 1) := by decide +kernel
theorem dX5_best_22 : decode cX5_best 22 = .ok (.iconst 1, 1) := by decide +kernel
theorem dX5_best_23 : decode cX5_best 23 = .ok (.invokevirtual 84, 3) := by decide +kernel
theorem dX5_best_26 : decode cX5_best 26 = .ok (.ireturn, 1) := by decide +kernel
theorem dX5_best_27 : decode cX5_best 27 = .ok (.iconst (-1), 1) := by decide +kernel
theorem dX5_best_28 : decode cX5_best 28 = .ok (.istore_n 3, 1) := by decide +kernel
theorem dX5_best_29 : decode cX5_best 29 = .ok (.iconst 0, 1) := by decide +kernel
theorem dX5_best_30 : decode cX5_best 30 = .ok (.istore 4, 2) := by decide +kernel
theorem dX5_best_32 : decode cX5_best 32 = .ok (.iload 4, 2) := by decide +kernel
theorem dX5_best_34 : decode cX5_best 34 = .ok (.aload_n 0, 1) := by decide +kernel
theorem dX5_best_35 : decode cX5_best 35 = .ok (.getfield 62, 3) := by decide +kernel
theorem dX5_best_38 : decode cX5_best 38 = .ok (.if_icmp .ge 42, 3) := by decide +kernel
theorem dX5_best_41 : decode cX5_best 41 = .ok (.aload_n 0, 1) := by decide +kernel
theorem dX5_best_42 : decode cX5_best 42 = .ok (.iload_n 1, 1) := by decide +kernel
theorem dX5_best_43 : decode cX5_best 43 = .ok (.iload 4, 2) := by decide +kernel
theorem dX5_best_45 : decode cX5_best 45 = .ok (.iload_n 2, 1) := by decide +kernel
theorem dX5_best_46 : decode cX5_best 46 = .ok (.invokevirtual 123, 3) := by decide +kernel
theorem dX5_best_49 : decode cX5_best 49 = .ok (.ifCond .eq 25, 3) := by decide +kernel
theorem dX5_best_52 : decode cX5_best 52 = .ok (.iload_n 3, 1) := by decide +kernel
theorem dX5_best_53 : decode cX5_best 53 = .ok (.iconst (-1), 1) := by decide +kernel
theorem dX5_best_54 : decode cX5_best 54 = .ok (.if_icmp .eq 17, 3) := by decide +kernel
theorem dX5_best_57 : decode cX5_best 57 = .ok (.aload_n 0, 1) := by decide +kernel
theorem dX5_best_58 : decode cX5_best 58 = .ok (.iload 4, 2) := by decide +kernel
theorem dX5_best_60 : decode cX5_best 60 = .ok (.invokevirtual 126, 3) := by decide +kernel
theorem dX5_best_63 : decode cX5_best 63 = .ok (.aload_n 0, 1) := by decide +kernel
theorem dX5_best_64 : decode cX5_best 64 = .ok (.iload_n 3, 1) := by decide +kernel
theorem dX5_best_65 : decode cX5_best 65 = .ok (.invokevirtual 126, 3) := by decide +kernel
theorem dX5_best_68 : decode cX5_best 68 = .ok (.if_icmp .le 6, 3) := by decide +kernel
theorem dX5_best_71 : decode cX5_best 71 = .ok (.iload 4, 2) := by decide +kernel
theorem dX5_best_73 : decode cX5_best 73 = .ok (.istore_n 3, 1) := by decide +kernel
theorem dX5_best_74 : decode cX5_best 74 = .ok (.iinc 4 1, 3) := by decide +kernel
theorem dX5_best_77 : decode cX5_best 77 = .ok (.goto (-45), 3) := by decide +kernel
theorem dX5_best_80 : decode cX5_best 80 = .ok (.iload_n 3, 1) := by decide +kernel
theorem dX5_best_81 : decode cX5_best 81 = .ok (.ireturn, 1) := by decide +kernel
set_option maxRecDepth 20000 in
theorem ggX5_wonders_X5_has : GoodIn wsX5_wonders wsX5_has := goodIn_r _ [12] (by decide +kernel) (by decide +kernel)
set_option maxRecDepth 20000 in
theorem gX5_wonders_X5_has : GoodIn wsX5_wonders (va_wsS RX5 91 yX5_has wsX5_has) := goodIn_app (goodIn_of _ (by decide +kernel)) ggX5_wonders_X5_has
set_option maxRecDepth 20000 in
theorem ggX5_wonders_X5_wonders : GoodIn wsX5_wonders wsX5_wonders := goodIn_r _ [0, 1, 2, 3, 4, 5, 6, 7, 8, 9, 10, 11, 12, 13, 14, 15, 16, 17, 18, 19, 20, 21, 22, 23, 24, 25, 26, 27, 28, 29, 30, 31, 32, 33, 34, 35, 36, 37, 38] (by decide +kernel) (by decide +kernel)
set_option maxRecDepth 20000 in
theorem gX5_wonders_X5_wonders : GoodIn wsX5_wonders (wsV RX5 163 RX5 yX5_wonders wsX5_wonders) := goodIn_app (goodIn_of _ (by decide +kernel)) ggX5_wonders_X5_wonders
theorem dX5_wonders_0 : decode cX5_wonders 0 = .ok (.iconst (-1), 1) := by decide +kernel
theorem dX5_wonders_1 : decode cX5_wonders 1 = .ok (.istore 4, 2) := by decide +kernel
theorem dX5_wonders_3 : decode cX5_wonders 3 = .ok (.iconst 0, 1) := by decide +kernel
theorem dX5_wonders_4 : decode cX5_wonders 4 = .ok (.istore 5, 2) := by decide +kernel
theorem dX5_wonders_6 : decode cX5_wonders 6 = .ok (.iload 5, 2) := by decide +kernel
theorem dX5_wonders_8 : decode cX5_wonders 8 = .ok (.aload_n 0, 1) := by decide +kernel
theorem dX5_wonders_9 : decode cX5_wonders 9 = .ok (.getfield 62, 3) := by decide +kernel
theorem dX5_wonders_12 : decode cX5_wonders 12 = .ok (.if_icmp .ge 94, 3) := by decide +kernel
theorem dX5_wonders_15 : decode cX5_wonders 15 = .ok (.iload_n 2, 1) := by decide +kernel
theorem dX5_wonders_16 : decode cX5_wonders 16 = .ok (.ifCond .le 90, 3) := by decide +kernel
theorem dX5_wonders_19 : decode cX5_wonders 19 = .ok (.aload_n 0, 1) := by decide +kernel
theorem dX5_wonders_20 : decode cX5_wonders 20 = .ok (.getfield 19, 3) := by decide +kernel
theorem dX5_wonders_23 : decode cX5_wonders 23 = .ok (.iload_n 1, 1) := by decide +kernel
theorem dX5_wonders_24 : decode cX5_wonders 24 = .ok (.iaload, 1) := by decide +kernel
theorem dX5_wonders_25 : decode cX5_wonders 25 = .ok (.iload 5, 2) := by decide +kernel
theorem dX5_wonders_27 : decode cX5_wonders 27 = .ok (.invokestatic 91, 3) := by decide +kernel
theorem dX5_wonders_30 : decode cX5_wonders 30 = .ok (.ifCond .eq 70, 3) := by decide +kernel
theorem dX5_wonders_33 : decode cX5_wonders 33 = .ok (.iload_n 3, 1) := by decide +kernel
theorem dX5_wonders_34 : decode cX5_wonders 34 = .ok (.iload 5, 2) := by decide +kernel
theorem dX5_wonders_36 : decode cX5_wonders 36 = .ok (.invokestatic 91, 3) := by decide +kernel
theorem dX5_wonders_39 : decode cX5_wonders 39 = .ok (.ifCond .eq 6, 3) := by decide +kernel
theorem dX5_wonders_42 : decode cX5_wonders 42 = .ok (.goto 58, 3) := by decide +kernel
theorem dX5_wonders_45 : decode cX5_wonders 45 = .ok (.aload_n 0, 1) := by decide +kernel
theorem dX5_wonders_46 : decode cX5_wonders 46 = .ok (.getfield 9, 3) := by decide +kernel
theorem dX5_wonders_49 : decode cX5_wonders 49 = .ok (.iload 5, 2) := by decide +kernel
theorem dX5_wonders_51 : decode cX5_wonders 51 = .ok (.iaload, 1) := by decide +kernel
theorem dX5_wonders_52 : decode cX5_wonders 52 = .ok (.iconst 2, 1) := by decide +kernel
theorem dX5_wonders_53 : decode cX5_wonders 53 = .ok (.if_icmp .ne 7, 3) := by decide +kernel
theorem dX5_wonders_56 : decode cX5_wonders 56 = .ok (.iconst 0, 1) := by decide +kernel
theorem dX5_wonders_57 : decode cX5_wonders 57 = .ok (.goto 18, 3) := by decide +kernel
theorem dX5_wonders_60 : decode cX5_wonders 60 = .ok (.aload_n 0, 1) := by decide +kernel
theorem dX5_wonders_61 : decode cX5_wonders 61 = .ok (.iload 5, 2) := by decide +kernel
theorem dX5_wonders_63 : decode cX5_wonders 63 = .ok (.iload_n 2, 1) := by decide +kernel
theorem dX5_wonders_64 : decode cX5_wonders 64 = .ok (.iconst 1, 1) := by decide +kernel
theorem dX5_wonders_65 : decode cX5_wonders 65 = .ok (.isub, 1) := by decide +kernel
theorem dX5_wonders_66 : decode cX5_wonders 66 = .ok (.iload_n 3, 1) := by decide +kernel
theorem dX5_wonders_67 : decode cX5_wonders 67 = .ok (.iconst 1, 1) := by decide +kernel
theorem dX5_wonders_68 : decode cX5_wonders 68 = .ok (.iload 5, 2) := by decide +kernel
theorem dX5_wonders_70 : decode cX5_wonders 70 = .ok (.ishl, 1) := by decide +kernel
theorem dX5_wonders_71 : decode cX5_wonders 71 = .ok (.ior, 1) := by decide +kernel
theorem dX5_wonders_72 : decode cX5_wonders 72 = .ok (.invokevirtual 163, 3) := by decide +kernel
theorem dX5_wonders_75 : decode cX5_wonders 75 = .ok (.istore 6, 2) := by decide +kernel
theorem dX5_wonders_77 : decode cX5_wonders 77 = .ok (.iload 6, 2) := by decide +kernel
theorem dX5_wonders_79 : decode cX5_wonders 79 = .ok (.iconst (-1), 1) := by decide +kernel
theorem dX5_wonders_80 : decode cX5_wonders 80 = .ok (.if_icmp .eq 20, 3) := by decide +kernel
theorem dX5_wonders_83 : decode cX5_wonders 83 = .ok (.iload 4, 2) := by decide +kernel
theorem dX5_wonders_85 : decode cX5_wonders 85 = .ok (.aload_n 0, 1) := by decide +kernel
theorem dX5_wonders_86 : decode cX5_wonders 86 = .ok (.getfield 13, 3) := by decide +kernel
theorem dX5_wonders_89 : decode cX5_wonders 89 = .ok (.iload 5, 2) := by decide +kernel
theorem dX5_wonders_91 : decode cX5_wonders 91 = .ok (.iaload, 1) := by decide +kernel
theorem dX5_wonders_92 : decode cX5_wonders 92 = .ok (.iload 6, 2) := by decide +kernel
theorem dX5_wonders_94 : decode cX5_wonders 94 = .ok (.iadd, 1) := by decide +kernel
theorem dX5_wonders_95 : decode cX5_wonders 95 = .ok (.invokestatic 109, 3) := by decide +kernel
theorem dX5_wonders_98 : decode cX5_wonders 98 = .ok (.istore 4, 2) := by decide +kernel
theorem dX5_wonders_100 : decode cX5_wonders 100 = .ok (.iinc 5 1, 3) := by decide +kernel
theorem dX5_wonders_103 : decode cX5_wonders 103 = .ok (.goto (-97), 3) := by decide +kernel
theorem dX5_wonders_106 : decode cX5_wonders 106 = .ok (.iload 4, 2) := by decide +kernel
theorem dX5_wonders_108 : decode cX5_wonders 108 = .ok (.ireturn, 1) := by decide +kernel
set_option maxRecDepth 20000 in
theorem ggX5_most_X5_isPlot : GoodIn wsX5_most wsX5_isPlot := goodIn_r _ [8, 9, 10, 11, 7, 12, 40, 41, 42, 43, 44, 45, 46, 47, 48, 49, 50, 51, 52, 53, 54, 55, 56, 57, 58, 59, 60, 61, 62] (by decide +kernel) (by decide +kernel)
set_option maxRecDepth 20000 in
theorem gX5_most_X5_isPlot : GoodIn wsX5_most (wsV RX5 120 RX5 yX5_isPlot wsX5_isPlot) := goodIn_app (goodIn_of _ (by decide +kernel)) ggX5_most_X5_isPlot
set_option maxRecDepth 20000 in
theorem ggX5_most_X5_no : GoodIn wsX5_most wsX5_no := goodIn_r _ [16, 1, 40, 41, 42, 43, 44, 45, 46, 47, 48, 49, 50, 51, 52, 53, 54, 55, 56, 57, 58, 59, 60, 61, 62] (by decide +kernel) (by decide +kernel)
set_option maxRecDepth 20000 in
theorem gX5_most_X5_no : GoodIn wsX5_most (wsV RX5 84 RX5 yX5_no wsX5_no) := goodIn_app (goodIn_of _ (by decide +kernel)) ggX5_most_X5_no
set_option maxRecDepth 20000 in
theorem ggX5_most_X5_isOpen : GoodIn wsX5_most wsX5_isOpen := goodIn_r _ [20, 21, 22, 23, 24, 7, 25, 3, 2, 40, 41, 42, 43, 44, 45, 46, 47, 48, 49, 50, 51, 52, 53, 54, 55, 56, 57, 58, 59, 60, 61, 62] (by decide +kernel) (by decide +kernel)
set_option maxRecDepth 20000 in
theorem gX5_most_X5_isOpen : GoodIn wsX5_most (wsV RX5 102 RX5 yX5_isOpen wsX5_isOpen) := goodIn_app (goodIn_of _ (by decide +kernel)) ggX5_most_X5_isOpen
set_option maxRecDepth 20000 in
theorem ggX5_most_X5_last : GoodIn wsX5_most wsX5_last := goodIn_r _ [25, 3, 2, 40, 41, 42, 43, 44, 45, 46, 47, 48, 49, 50, 51, 52, 53, 54, 55, 56, 57, 58, 59, 60, 61, 62] (by decide +kernel) (by decide +kernel)
set_option maxRecDepth 20000 in
theorem gX5_most_X5_last : GoodIn wsX5_most (wsV RX5 99 RX5 yX5_last wsX5_last) := goodIn_app (goodIn_of _ (by decide +kernel)) ggX5_most_X5_last
set_option maxRecDepth 20000 in
theorem ggX5_most_X5_wonders : GoodIn wsX5_most wsX5_wonders := goodIn_r _ [29, 30, 31, 21, 32, 33, 34, 35, 36, 37, 38, 7, 39, 26, 27, 28, 40, 41, 42, 43, 44, 45, 46, 47, 48, 49, 50, 51, 52, 53, 54, 55, 56, 57, 58, 59, 60, 61, 62] (by decide +kernel) (by decide +kernel)
set_option maxRecDepth 20000 in
theorem gX5_most_X5_wonders : GoodIn wsX5_most (wsV RX5 163 RX5 yX5_wonders wsX5_wonders) := goodIn_app (goodIn_of _ (by decide +kernel)) ggX5_most_X5_wonders
theorem dX5_most_0 : decode cX5_most 0 = .ok (.aload_n 0, 1) := by decide +kernel
theorem dX5_most_1 : decode cX5_most 1 = .ok (.iconst 0, 1) := by decide +kernel
theorem dX5_most_2 : decode cX5_most 2 = .ok (.putfield 59, 3) := by decide +kernel
theorem dX5_most_5 : decode cX5_most 5 = .ok (.aload_n 0, 1) := by decide +kernel
theorem dX5_most_6 : decode cX5_most 6 = .ok (.iload_n 1, 1) := by decide +kernel
theorem dX5_most_7 : decode cX5_most 7 = .ok (.invokevirtual 120, 3) := by decide +kernel
theorem dX5_most_10 : decode cX5_most 10 = .ok (.ifCond .ne 9, 3) := by decide +kernel
theorem dX5_most_13 : decode cX5_most 13 = .ok (.aload_n 0, 1) := by decide +kernel
theorem dX5_most_14 : decode cX5_most 14 = .ok (.iconst 1, 1) := by decide +kernel
theorem dX5_most_15 : decode cX5_most 15 = .ok (.invokevirtual 84, 3) := by decide +kernel
theorem dX5_most_18 : decode cX5_most 18 = .ok (.ireturn, 1) := by decide +kernel
theorem dX5_most_19 : decode cX5_most 19 = .ok (.aload_n 0, 1) := by decide +kernel
theorem dX5_most_20 : decode cX5_most 20 = .ok (.iload_n 1, 1) := by decide +kernel
theorem dX5_most_21 : decode cX5_most 21 = .ok (.invokevirtual 102, 3) := by decide +kernel
theorem dX5_most_24 : decode cX5_most 24 = .ok (.ifCond .ne 5, 3) := by decide +kernel
theorem dX5_most_27 : decode cX5_most 27 = .ok (.iconst 0, 1) := by decide +kernel
theorem dX5_most_28 : decode cX5_most 28 = .ok (.ireturn, 1) := by decide +kernel
theorem dX5_most_29 : decode cX5_most 29 = .ok (.iconst 0, 1) := by decide +kernel
theorem dX5_most_30 : decode cX5_most 30 = .ok (.istore_n 2, 1) := by decide +kernel
theorem dX5_most_31 : decode cX5_most 31 = .ok (.iconst 0, 1) := by decide +kernel
theorem dX5_most_32 : decode cX5_most 32 = .ok (.istore_n 3, 1) := by decide +kernel
theorem dX5_most_33 : decode cX5_most 33 = .ok (.iload_n 3, 1) := by decide +kernel
theorem dX5_most_34 : decode cX5_most 34 = .ok (.aload_n 0, 1) := by decide +kernel
theorem dX5_most_35 : decode cX5_most 35 = .ok (.getfield 50, 3) := by decide +kernel
theorem dX5_most_38 : decode cX5_most 38 = .ok (.iload_n 1, 1) := by decide +kernel
theorem dX5_most_39 : decode cX5_most 39 = .ok (.iaload, 1) := by decide +kernel
theorem dX5_most_40 : decode cX5_most 40 = .ok (.if_icmp .ge 25, 3) := by decide +kernel
theorem dX5_most_43 : decode cX5_most 43 = .ok (.iload_n 2, 1) := by decide +kernel
theorem dX5_most_44 : decode cX5_most 44 = .ok (.iconst 1, 1) := by decide +kernel
theorem dX5_most_45 : decode cX5_most 45 = .ok (.aload_n 0, 1) := by decide +kernel
theorem dX5_most_46 : decode cX5_most 46 = .ok (.getfield 53, 3) := by decide +kernel
theorem dX5_most_49 : decode cX5_most 49 = .ok (.bipush 8, 2) := by decide +kernel
theorem dX5_most_51 : decode cX5_most 51 = .ok (.iload_n 1, 1) := by decide +kernel
theorem dX5_most_52 : decode cX5_most 52 = .ok (.imul, 1) := by decide +kernel
theorem dX5_most_53 : decode cX5_most 53 = .ok (.iload_n 3, 1) := by decide +kernel
theorem dX5_most_54 : decode cX5_most 54 = .ok (.iadd, 1) := by decide +kernel
theorem dX5_most_55 : decode cX5_most 55 = .ok (.iaload, 1) := by decide +kernel
theorem dX5_most_56 : decode cX5_most 56 = .ok (.ishl, 1) := by decide +kernel
theorem dX5_most_57 : decode cX5_most 57 = .ok (.ior, 1) := by decide +kernel
theorem dX5_most_58 : decode cX5_most 58 = .ok (.istore_n 2, 1) := by decide +kernel
theorem dX5_most_59 : decode cX5_most 59 = .ok (.iinc 3 1, 3) := by decide +kernel
theorem dX5_most_62 : decode cX5_most 62 = .ok (.goto (-29), 3) := by decide +kernel
theorem dX5_most_65 : decode cX5_most 65 = .ok (.aload_n 0, 1) := by decide +kernel
theorem dX5_most_66 : decode cX5_most 66 = .ok (.aload_n 0, 1) := by decide +kernel
theorem dX5_most_67 : decode cX5_most 67 = .ok (.iload_n 1, 1) := by decide +kernel
theorem dX5_most_68 : decode cX5_most 68 = .ok (.invokevirtual 99, 3) := by decide +kernel
theorem dX5_most_71 : decode cX5_most 71 = .ok (.bipush 8, 2) := by decide +kernel
theorem dX5_most_73 : decode cX5_most 73 = .ok (.aload_n 0, 1) := by decide +kernel
theorem dX5_most_74 : decode cX5_most 74 = .ok (.getfield 50, 3) := by decide +kernel
theorem dX5_most_77 : decode cX5_most 77 = .ok (.iload_n 1, 1) := by decide +kernel
theorem dX5_most_78 : decode cX5_most 78 = .ok (.iaload, 1) := by decide +kernel
theorem dX5_most_79 : decode cX5_most 79 = .ok (.isub, 1) := by decide +kernel
theorem dX5_most_80 : decode cX5_most 80 = .ok (.iload_n 2, 1) := by decide +kernel
theorem dX5_most_81 : decode cX5_most 81 = .ok (.invokevirtual 163, 3) := by decide +kernel
theorem dX5_most_84 : decode cX5_most 84 = .ok (.ireturn, 1) := by decide +kernel
set_option maxRecDepth 20000 in
theorem ggX5_sleeps_X5_isGuard : GoodIn wsX5_sleeps wsX5_isGuard := goodIn_r _ [8, 9, 10, 11, 7, 12, 20, 21, 22, 23, 24, 25, 26, 27, 28, 29, 30, 31, 32, 33, 34, 35, 36, 37, 38, 39, 40, 41, 42] (by decide +kernel) (by decide +kernel)
set_option maxRecDepth 20000 in
theorem gX5_sleeps_X5_isGuard : GoodIn wsX5_sleeps (wsV RX5 148 RX5 yX5_isGuard wsX5_isGuard) := goodIn_app (goodIn_of _ (by decide +kernel)) ggX5_sleeps_X5_isGuard
set_option maxRecDepth 20000 in
theorem ggX5_sleeps_X5_no : GoodIn wsX5_sleeps wsX5_no := goodIn_r _ [16, 1, 20, 21, 22, 23, 24, 25, 26, 27, 28, 29, 30, 31, 32, 33, 34, 35, 36, 37, 38, 39, 40, 41, 42] (by decide +kernel) (by decide +kernel)
set_option maxRecDepth 20000 in
theorem gX5_sleeps_X5_no : GoodIn wsX5_sleeps (wsV RX5 84 RX5 yX5_no wsX5_no) := goodIn_app (goodIn_of _ (by decide +kernel)) ggX5_sleeps_X5_no
set_option maxRecDepth 20000 in
theorem ggX5_sleeps_X5_later : GoodIn wsX5_sleeps wsX5_later := goodIn_r _ [19] (by decide +kernel) (by decide +kernel)
set_option maxRecDepth 20000 in
theorem gX5_sleeps_X5_later : GoodIn wsX5_sleeps (va_wsS RX5 139 yX5_later wsX5_later) := goodIn_app (goodIn_of _ (by decide +kernel)) ggX5_sleeps_X5_later
theorem dX5_sleeps_0 : decode cX5_sleeps 0 = .ok (.aload_n 0, 1) := by decide +kernel
theorem dX5_sleeps_1 : decode cX5_sleeps 1 = .ok (.iconst 0, 1) := by decide +kernel
theorem dX5_sleeps_2 : decode cX5_sleeps 2 = .ok (.putfield 59, 3) := by decide +kernel
theorem dX5_sleeps_5 : decode cX5_sleeps 5 = .ok (.aload_n 0, 1) := by decide +kernel
theorem dX5_sleeps_6 : decode cX5_sleeps 6 = .ok (.iload_n 1, 1) := by decide +kernel
theorem dX5_sleeps_7 : decode cX5_sleeps 7 = .ok (.invokevirtual 148, 3) := by decide +kernel
theorem dX5_sleeps_10 : decode cX5_sleeps 10 = .ok (.ifCond .ne 9, 3) := by decide +kernel
theorem dX5_sleeps_13 : decode cX5_sleeps 13 = .ok (.aload_n 0, 1) := by decide +kernel
theorem dX5_sleeps_14 : decode cX5_sleeps 14 = .ok (.iconst 1, 1) := by decide +kernel
theorem dX5_sleeps_15 : decode cX5_sleeps 15 = .ok (.invokevirtual 84, 3) := by decide +kernel
theorem dX5_sleeps_18 : decode cX5_sleeps 18 = .ok (.ireturn, 1) := by decide +kernel
theorem dX5_sleeps_19 : decode cX5_sleeps 19 = .ok (.bipush 100, 2) := by decide +kernel
theorem dX5_sleeps_21 : decode cX5_sleeps 21 = .ok (.aload_n 0, 1) := by decide +kernel
theorem dX5_sleeps_22 : decode cX5_sleeps 22 = .ok (.getfield 29, 3) := by decide +kernel
theorem dX5_sleeps_25 : decode cX5_sleeps 25 = .ok (.iload_n 1, 1) := by decide +kernel
theorem dX5_sleeps_26 : decode cX5_sleeps 26 = .ok (.iaload, 1) := by decide +kernel
theorem dX5_sleeps_27 : decode cX5_sleeps 27 = .ok (.imul, 1) := by decide +kernel
theorem dX5_sleeps_28 : decode cX5_sleeps 28 = .ok (.aload_n 0, 1) := by decide +kernel
theorem dX5_sleeps_29 : decode cX5_sleeps 29 = .ok (.getfield 32, 3) := by decide +kernel
theorem dX5_sleeps_32 : decode cX5_sleeps 32 = .ok (.iload_n 1, 1) := by decide +kernel
theorem dX5_sleeps_33 : decode cX5_sleeps 33 = .ok (.iaload, 1) := by decide +kernel
theorem dX5_sleeps_34 : decode cX5_sleeps 34 = .ok (.iadd, 1) := by decide +kernel
theorem dX5_sleeps_35 : decode cX5_sleeps 35 = .ok (.istore_n 2, 1) := by decide +kernel
theorem dX5_sleeps_36 : decode cX5_sleeps 36 = .ok (.iconst 1, 1) := by decide +kernel
theorem dX5_sleeps_37 : decode cX5_sleeps 37 = .ok (.istore_n 3, 1) := by decide +kernel
theorem dX5_sleeps_38 : decode cX5_sleeps 38 = .ok (.iload_n 3, 1) := by decide +kernel
theorem dX5_sleeps_39 : decode cX5_sleeps 39 = .ok (.bipush 100, 2) := by decide +kernel
theorem dX5_sleeps_41 : decode cX5_sleeps 41 = .ok (.if_icmp .gt 36, 3) := by decide +kernel
theorem dX5_sleeps_44 : decode cX5_sleeps 44 = .ok (.iload_n 2, 1) := by decide +kernel
theorem dX5_sleeps_45 : decode cX5_sleeps 45 = .ok (.bipush 100, 2) := by decide +kernel
theorem dX5_sleeps_47 : decode cX5_sleeps 47 = .ok (.irem, 1) := by decide +kernel
theorem dX5_sleeps_48 : decode cX5_sleeps 48 = .ok (.iload_n 2, 1) := by decide +kernel
theorem dX5_sleeps_49 : decode cX5_sleeps 49 = .ok (.bipush 100, 2) := by decide +kernel
theorem dX5_sleeps_51 : decode cX5_sleeps 51 = .ok (.idiv, 1) := by decide +kernel
theorem dX5_sleeps_52 : decode cX5_sleeps 52 = .ok (.invokestatic 139, 3) := by decide +kernel
theorem dX5_sleeps_55 : decode cX5_sleeps 55 = .ok (.istore_n 2, 1) := by decide +kernel
theorem dX5_sleeps_56 : decode cX5_sleeps 56 = .ok (.iload_n 2, 1) := by decide +kernel
theorem dX5_sleeps_57 : decode cX5_sleeps 57 = .ok (.bipush 100, 2) := by decide +kernel
theorem dX5_sleeps_59 : decode cX5_sleeps 59 = .ok (.idiv, 1) := by decide +kernel
theorem dX5_sleeps_60 : decode cX5_sleeps 60 = .ok (.aload_n 0, 1) := by decide +kernel
theorem dX5_sleeps_61 : decode cX5_sleeps 61 = .ok (.getfield 29, 3) := by decide +kernel
theorem dX5_sleeps_64 : decode cX5_sleeps 64 = .ok (.iload_n 1, 1) := by decide +kernel
theorem dX5_sleeps_65 : decode cX5_sleeps 65 = .ok (.iaload, 1) := by decide +kernel
theorem dX5_sleeps_66 : decode cX5_sleeps 66 = .ok (.if_icmp .eq 5, 3) := by decide +kernel
theorem dX5_sleeps_69 : decode cX5_sleeps 69 = .ok (.iload_n 3, 1) := by decide +kernel
theorem dX5_sleeps_70 : decode cX5_sleeps 70 = .ok (.ireturn, 1) := by decide +kernel
theorem dX5_sleeps_71 : decode cX5_sleeps 71 = .ok (.iinc 3 1, 3) := by decide +kernel
theorem dX5_sleeps_74 : decode cX5_sleeps 74 = .ok (.goto (-36), 3) := by decide +kernel
theorem dX5_sleeps_77 : decode cX5_sleeps 77 = .ok (.iconst (-1), 1) := by decide +kernel
theorem dX5_sleeps_78 : decode cX5_sleeps 78 = .ok (.ireturn, 1) := by decide +kernel
theorem dX5_mean_0 : decode cX5_mean 0 = .ok (.aload_n 0, 1) := by decide +kernel
theorem dX5_mean_1 : decode cX5_mean 1 = .ok (.iconst 0, 1) := by decide +kernel
theorem dX5_mean_2 : decode cX5_mean 2 = .ok (.putfield 59, 3) := by decide +kernel
theorem dX5_mean_5 : decode cX5_mean 5 = .ok (.iconst 0, 1) := by decide +kernel
theorem dX5_mean_6 : decode cX5_mean 6 = .ok (.istore_n 1, 1) := by decide +kernel
theorem dX5_mean_7 : decode cX5_mean 7 = .ok (.iconst 0, 1) := by decide +kernel
theorem dX5_mean_8 : decode cX5_mean 8 = .ok (.istore_n 2, 1) := by decide +kernel
theorem dX5_mean_9 : decode cX5_mean 9 = .ok (.iload_n 2, 1) := by decide +kernel
theorem dX5_mean_10 : decode cX5_mean 10 = .ok (.aload_n 0, 1) := by decide +kernel
theorem dX5_mean_11 : decode cX5_mean 11 = .ok (.getfield 62, 3) := by decide +kernel
theorem dX5_mean_14 : decode cX5_mean 14 = .ok (.if_icmp .ge 18, 3) := by decide +kernel
theorem dX5_mean_17 : decode cX5_mean 17 = .ok (.iload_n 1, 1) := by decide +kernel
theorem dX5_mean_18 : decode cX5_mean 18 = .ok (.aload_n 0, 1) := by decide +kernel
theorem dX5_mean_19 : decode cX5_mean 19 = .ok (.getfield 22, 3) := by decide +kernel
theorem dX5_mean_22 : decode cX5_mean 22 = .ok (.iload_n 2, 1) := by decide +kernel
theorem dX5_mean_23 : decode cX5_mean 23 = .ok (.iaload, 1) := by decide +kernel
theorem dX5_mean_24 : decode cX5_mean 24 = .ok (.iadd, 1) := by decide +kernel
theorem dX5_mean_25 : decode cX5_mean 25 = .ok (.istore_n 1, 1) := by decide +kernel
theorem dX5_mean_26 : decode cX5_mean 26 = .ok (.iinc 2 1, 3) := by decide +kernel
theorem dX5_mean_29 : decode cX5_mean 29 = .ok (.goto (-20), 3) := by decide +kernel
theorem dX5_mean_32 : decode cX5_mean 32 = .ok (.iload_n 1, 1) := by decide +kernel
theorem dX5_mean_33 : decode cX5_mean 33 = .ok (.ifCond .ne 7, 3) := by decide +kernel
theorem dX5_mean_36 : decode cX5_mean 36 = .ok (.dconst 0, 1) := by decide +kernel
theorem dX5_mean_37 : decode cX5_mean 37 = .ok (.goto 11, 3) := by decide +kernel
theorem dX5_mean_40 : decode cX5_mean 40 = .ok (.aload_n 0, 1) := by decide +kernel
theorem dX5_mean_41 : decode cX5_mean 41 = .ok (.getfield 133, 3) := by decide +kernel
theorem dX5_mean_44 : decode cX5_mean 44 = .ok (.i2d, 1) := by decide +kernel
theorem dX5_mean_45 : decode cX5_mean 45 = .ok (.iload_n 1, 1) := by decide +kernel
theorem dX5_mean_46 : decode cX5_mean 46 = .ok (.i2d, 1) := by decide +kernel
theorem dX5_mean_47 : decode cX5_mean 47 = .ok (.ddiv, 1) := by decide +kernel
theorem dX5_mean_48 : decode cX5_mean 48 = .ok (.dreturn, 1) := by decide +kernel
set_option maxRecDepth 20000 in
theorem ggX5_digest_X5_counted : GoodIn wsX5_digest wsX5_counted := goodIn_r _ [14, 6, 15, 7, 16, 17, 4, 5, 18, 19, 20, 21, 13, 22, 23, 24, 25, 26, 27, 9, 8, 28, 29, 30, 31, 32, 33, 34, 35, 36, 37, 38, 39, 40, 41, 42, 43, 44, 70, 71, 72, 73, 74, 75, 76, 77, 78, 79, 80, 81, 82, 83, 84, 85, 86, 87, 88, 89, 90, 91, 92] (by decide +kernel) (by decide +kernel)
set_option maxRecDepth 20000 in
theorem gX5_digest_X5_counted : GoodIn wsX5_digest (wsV RX5 160 RX5 yX5_counted wsX5_counted) := goodIn_app (goodIn_of _ (by decide +kernel)) ggX5_digest_X5_counted
set_option maxRecDepth 20000 in
theorem ggX5_digest_X5_sceneTold : GoodIn wsX5_digest wsX5_sceneTold := goodIn_r _ [48, 23, 49, 50, 32, 51, 33, 34, 35, 36, 37, 38, 39, 70, 71, 72, 73, 74, 75, 76, 77, 78, 79, 80, 81, 82, 83, 84, 85, 86, 87, 88, 89, 90, 91, 92] (by decide +kernel) (by decide +kernel)
set_option maxRecDepth 20000 in
theorem gX5_digest_X5_sceneTold : GoodIn wsX5_digest (wsV RX5 145 RX5 yX5_sceneTold wsX5_sceneTold) := goodIn_app (goodIn_of _ (by decide +kernel)) ggX5_digest_X5_sceneTold
set_option maxRecDepth 20000 in
theorem ggX5_digest_X5_guardTold : GoodIn wsX5_digest wsX5_guardTold := goodIn_r _ [55, 56, 44, 57, 70, 71, 72, 73, 74, 75, 76, 77, 78, 79, 80, 81, 82, 83, 84, 85, 86, 87, 88, 89, 90, 91, 92] (by decide +kernel) (by decide +kernel)
set_option maxRecDepth 20000 in
theorem gX5_digest_X5_guardTold : GoodIn wsX5_digest (wsV RX5 151 RX5 yX5_guardTold wsX5_guardTold) := goodIn_app (goodIn_of _ (by decide +kernel)) ggX5_digest_X5_guardTold
set_option maxRecDepth 20000 in
theorem ggX5_digest_X5_travellerTold : GoodIn wsX5_digest wsX5_travellerTold := goodIn_r _ [61, 7, 62, 16, 63, 64, 15, 65, 70, 71, 72, 73, 74, 75, 76, 77, 78, 79, 80, 81, 82, 83, 84, 85, 86, 87, 88, 89, 90, 91, 92] (by decide +kernel) (by decide +kernel)
set_option maxRecDepth 20000 in
theorem gX5_digest_X5_travellerTold : GoodIn wsX5_digest (wsV RX5 154 RX5 yX5_travellerTold wsX5_travellerTold) := goodIn_app (goodIn_of _ (by decide +kernel)) ggX5_digest_X5_travellerTold
set_option maxRecDepth 20000 in
theorem ggX5_digest_X5_plotTold : GoodIn wsX5_digest wsX5_plotTold := goodIn_r _ [69, 8, 49, 9, 62, 19, 20, 21, 13, 22, 23, 24, 25, 26, 27, 70, 71, 72, 73, 74, 75, 76, 77, 78, 79, 80, 81, 82, 83, 84, 85, 86, 87, 88, 89, 90, 91, 92] (by decide +kernel) (by decide +kernel)
set_option maxRecDepth 20000 in
theorem gX5_digest_X5_plotTold : GoodIn wsX5_digest (wsV RX5 157 RX5 yX5_plotTold wsX5_plotTold) := goodIn_app (goodIn_of _ (by decide +kernel)) ggX5_digest_X5_plotTold
theorem dX5_digest_0 : decode cX5_digest 0 = .ok (.aload_n 0, 1) := by decide +kernel
theorem dX5_digest_1 : decode cX5_digest 1 = .ok (.iconst 0, 1) := by decide +kernel
theorem dX5_digest_2 : decode cX5_digest 2 = .ok (.putfield 59, 3) := by decide +kernel
theorem dX5_digest_5 : decode cX5_digest 5 = .ok (.ldc2_w 167, 3) := by decide +kernel
theorem dX5_digest_8 : decode cX5_digest 8 = .ok (.lstore_n 1, 1) := by decide +kernel
theorem dX5_digest_9 : decode cX5_digest 9 = .ok (.iconst 0, 1) := by decide +kernel
theorem dX5_digest_10 : decode cX5_digest 10 = .ok (.istore_n 3, 1) := by decide +kernel
theorem dX5_digest_11 : decode cX5_digest 11 = .ok (.iload_n 3, 1) := by decide +kernel
theorem dX5_digest_12 : decode cX5_digest 12 = .ok (.bipush 11, 2) := by decide +kernel
theorem dX5_digest_14 : decode cX5_digest 14 = .ok (.if_icmp .ge 22, 3) := by decide +kernel
theorem dX5_digest_17 : decode cX5_digest 17 = .ok (.lload_n 1, 1) := by decide +kernel
theorem dX5_digest_18 : decode cX5_digest 18 = .ok (.ldc2_w 169, 3) := by decide +kernel
theorem dX5_digest_21 : decode cX5_digest 21 = .ok (.lmul, 1) := by decide +kernel
theorem dX5_digest_22 : decode cX5_digest 22 = .ok (.aload_n 0, 1) := by decide +kernel
theorem dX5_digest_23 : decode cX5_digest 23 = .ok (.iload_n 3, 1) := by decide +kernel
theorem dX5_digest_24 : decode cX5_digest 24 = .ok (.invokevirtual 160, 3) := by decide +kernel
theorem dX5_digest_27 : decode cX5_digest 27 = .ok (.i2l, 1) := by decide +kernel
theorem dX5_digest_28 : decode cX5_digest 28 = .ok (.ladd, 1) := by decide +kernel
theorem dX5_digest_29 : decode cX5_digest 29 = .ok (.lstore_n 1, 1) := by decide +kernel
theorem dX5_digest_30 : decode cX5_digest 30 = .ok (.iinc 3 1, 3) := by decide +kernel
theorem dX5_digest_33 : decode cX5_digest 33 = .ok (.goto (-22), 3) := by decide +kernel
theorem dX5_digest_36 : decode cX5_digest 36 = .ok (.iconst 0, 1) := by decide +kernel
theorem dX5_digest_37 : decode cX5_digest 37 = .ok (.istore_n 3, 1) := by decide +kernel
theorem dX5_digest_38 : decode cX5_digest 38 = .ok (.iload_n 3, 1) := by decide +kernel
theorem dX5_digest_39 : decode cX5_digest 39 = .ok (.aload_n 0, 1) := by decide +kernel
theorem dX5_digest_40 : decode cX5_digest 40 = .ok (.getfield 62, 3) := by decide +kernel
theorem dX5_digest_43 : decode cX5_digest 43 = .ok (.if_icmp .ge 39, 3) := by decide +kernel
theorem dX5_digest_46 : decode cX5_digest 46 = .ok (.iconst 0, 1) := by decide +kernel
theorem dX5_digest_47 : decode cX5_digest 47 = .ok (.istore 4, 2) := by decide +kernel
theorem dX5_digest_49 : decode cX5_digest 49 = .ok (.iload 4, 2) := by decide +kernel
theorem dX5_digest_51 : decode cX5_digest 51 = .ok (.iconst 5, 1) := by decide +kernel
theorem dX5_digest_52 : decode cX5_digest 52 = .ok (.if_icmp .ge 24, 3) := by decide +kernel
theorem dX5_digest_55 : decode cX5_digest 55 = .ok (.lload_n 1, 1) := by decide +kernel
theorem dX5_digest_56 : decode cX5_digest 56 = .ok (.ldc2_w 169, 3) := by decide +kernel
theorem dX5_digest_59 : decode cX5_digest 59 = .ok (.lmul, 1) := by decide +kernel
theorem dX5_digest_60 : decode cX5_digest 60 = .ok (.aload_n 0, 1) := by decide +kernel
theorem dX5_digest_61 : decode cX5_digest 61 = .ok (.iload_n 3, 1) := by decide +kernel
theorem dX5_digest_62 : decode cX5_digest 62 = .ok (.iload 4, 2) := by decide +kernel
theorem dX5_digest_64 : decode cX5_digest 64 = .ok (.invokevirtual 145, 3) := by decide +kernel
theorem dX5_digest_67 : decode cX5_digest 67 = .ok (.i2l, 1) := by decide +kernel
theorem dX5_digest_68 : decode cX5_digest 68 = .ok (.ladd, 1) := by decide +kernel
theorem dX5_digest_69 : decode cX5_digest 69 = .ok (.lstore_n 1, 1) := by decide +kernel
theorem dX5_digest_70 : decode cX5_digest 70 = .ok (.iinc 4 1, 3) := by decide +kernel
theorem dX5_digest_73 : decode cX5_digest 73 = .ok (.goto (-24), 3) := by decide +kernel
theorem dX5_digest_76 : decode cX5_digest 76 = .ok (.iinc 3 1, 3) := by decide +kernel
theorem dX5_digest_79 : decode cX5_digest 79 = .ok (.goto (-41), 3) := by decide +kernel
theorem dX5_digest_82 : decode cX5_digest 82 = .ok (.iconst 0, 1) := by decide +kernel
theorem dX5_digest_83 : decode cX5_digest 83 = .ok (.istore_n 3, 1) := by decide +kernel
theorem dX5_digest_84 : decode cX5_digest 84 = .ok (.iload_n 3, 1) := by decide +kernel
theorem dX5_digest_85 : decode cX5_digest 85 = .ok (.aload_n 0, 1) := by decide +kernel
theorem dX5_digest_86 : decode cX5_digest 86 = .ok (.getfield 69, 3) := by decide +kernel
theorem dX5_digest_89 : decode cX5_digest 89 = .ok (.if_icmp .ge 39, 3) := by decide +kernel
theorem dX5_digest_92 : decode cX5_digest 92 = .ok (.iconst 0, 1) := by decide +kernel
theorem dX5_digest_93 : decode cX5_digest 93 = .ok (.istore 4, 2) := by decide +kernel
theorem dX5_digest_95 : decode cX5_digest 95 = .ok (.iload 4, 2) := by decide +kernel
theorem dX5_digest_97 : decode cX5_digest 97 = .ok (.iconst 3, 1) := by decide +kernel
theorem dX5_digest_98 : decode cX5_digest 98 = .ok (.if_icmp .ge 24, 3) := by decide +kernel
theorem dX5_digest_101 : decode cX5_digest 101 = .ok (.lload_n 1, 1) := by decide +kernel
theorem dX5_digest_102 : decode cX5_digest 102 = .ok (.ldc2_w 169, 3) := by decide +kernel
theorem dX5_digest_105 : decode cX5_digest 105 = .ok (.lmul, 1) := by decide +kernel
theorem dX5_digest_106 : decode cX5_digest 106 = .ok (.aload_n 0, 1) := by decide +kernel
theorem dX5_digest_107 : decode cX5_digest 107 = .ok (.iload_n 3, 1) := by decide +kernel
theorem dX5_digest_108 : decode cX5_digest 108 = .ok (.iload 4, 2) := by decide +kernel
theorem dX5_digest_110 : decode cX5_digest 110 = .ok (.invokevirtual 151, 3) := by decide +kernel
theorem dX5_digest_113 : decode cX5_digest 113 = .ok (.i2l, 1) := by decide +kernel
theorem dX5_digest_114 : decode cX5_digest 114 = .ok (.ladd, 1) := by decide +kernel
theorem dX5_digest_115 : decode cX5_digest 115 = .ok (.lstore_n 1, 1) := by decide +kernel
theorem dX5_digest_116 : decode cX5_digest 116 = .ok (.iinc 4 1, 3) := by decide +kernel
theorem dX5_digest_119 : decode cX5_digest 119 = .ok (.goto (-24), 3) := by decide +kernel
theorem dX5_digest_122 : decode cX5_digest 122 = .ok (.iinc 3 1, 3) := by decide +kernel
theorem dX5_digest_125 : decode cX5_digest 125 = .ok (.goto (-41), 3) := by decide +kernel
theorem dX5_digest_128 : decode cX5_digest 128 = .ok (.iconst 0, 1) := by decide +kernel
theorem dX5_digest_129 : decode cX5_digest 129 = .ok (.istore_n 3, 1) := by decide +kernel
theorem dX5_digest_130 : decode cX5_digest 130 = .ok (.iload_n 3, 1) := by decide +kernel
theorem dX5_digest_131 : decode cX5_digest 131 = .ok (.aload_n 0, 1) := by decide +kernel
theorem dX5_digest_132 : decode cX5_digest 132 = .ok (.getfield 72, 3) := by decide +kernel
theorem dX5_digest_135 : decode cX5_digest 135 = .ok (.if_icmp .ge 39, 3) := by decide +kernel
theorem dX5_digest_138 : decode cX5_digest 138 = .ok (.iconst 0, 1) := by decide +kernel
theorem dX5_digest_139 : decode cX5_digest 139 = .ok (.istore 4, 2) := by decide +kernel
theorem dX5_digest_141 : decode cX5_digest 141 = .ok (.iload 4, 2) := by decide +kernel
theorem dX5_digest_143 : decode cX5_digest 143 = .ok (.iconst 5, 1) := by decide +kernel
theorem dX5_digest_144 : decode cX5_digest 144 = .ok (.if_icmp .ge 24, 3) := by decide +kernel
theorem dX5_digest_147 : decode cX5_digest 147 = .ok (.lload_n 1, 1) := by decide +kernel
theorem dX5_digest_148 : decode cX5_digest 148 = .ok (.ldc2_w 169, 3) := by decide +kernel
theorem dX5_digest_151 : decode cX5_digest 151 = .ok (.lmul, 1) := by decide +kernel
theorem dX5_digest_152 : decode cX5_digest 152 = .ok (.aload_n 0, 1) := by decide +kernel
theorem dX5_digest_153 : decode cX5_digest 153 = .ok (.iload_n 3, 1) := by decide +kernel
theorem dX5_digest_154 : decode cX5_digest 154 = .ok (.iload 4, 2) := by decide +kernel
theorem dX5_digest_156 : decode cX5_digest 156 = .ok (.invokevirtual 154, 3) := by decide +kernel
theorem dX5_digest_159 : decode cX5_digest 159 = .ok (.i2l, 1) := by decide +kernel
theorem dX5_digest_160 : decode cX5_digest 160 = .ok (.ladd, 1) := by decide +kernel
theorem dX5_digest_161 : decode cX5_digest 161 = .ok (.lstore_n 1, 1) := by decide +kernel
theorem dX5_digest_162 : decode cX5_digest 162 = .ok (.iinc 4 1, 3) := by decide +kernel
theorem dX5_digest_165 : decode cX5_digest 165 = .ok (.goto (-24), 3) := by decide +kernel
theorem dX5_digest_168 : decode cX5_digest 168 = .ok (.iinc 3 1, 3) := by decide +kernel
theorem dX5_digest_171 : decode cX5_digest 171 = .ok (.goto (-41), 3) := by decide +kernel
theorem dX5_digest_174 : decode cX5_digest 174 = .ok (.iconst 0, 1) := by decide +kernel
theorem dX5_digest_175 : decode cX5_digest 175 = .ok (.istore_n 3, 1) := by decide +kernel
theorem dX5_digest_176 : decode cX5_digest 176 = .ok (.iload_n 3, 1) := by decide +kernel
theorem dX5_digest_177 : decode cX5_digest 177 = .ok (.aload_n 0, 1) := by decide +kernel
theorem dX5_digest_178 : decode cX5_digest 178 = .ok (.getfield 75, 3) := by decide +kernel
theorem dX5_digest_181 : decode cX5_digest 181 = .ok (.if_icmp .ge 79, 3) := by decide +kernel
theorem dX5_digest_184 : decode cX5_digest 184 = .ok (.iconst 0, 1) := by decide +kernel
theorem dX5_digest_185 : decode cX5_digest 185 = .ok (.istore 4, 2) := by decide +kernel
theorem dX5_digest_187 : decode cX5_digest 187 = .ok (.iload 4, 2) := by decide +kernel
theorem dX5_digest_189 : decode cX5_digest 189 = .ok (.iconst 4, 1) := by decide +kernel
theorem dX5_digest_190 : decode cX5_digest 190 = .ok (.if_icmp .ge 24, 3) := by decide +kernel
theorem dX5_digest_193 : decode cX5_digest 193 = .ok (.lload_n 1, 1) := by decide +kernel
theorem dX5_digest_194 : decode cX5_digest 194 = .ok (.ldc2_w 169, 3) := by decide +kernel
theorem dX5_digest_197 : decode cX5_digest 197 = .ok (.lmul, 1) := by decide +kernel
theorem dX5_digest_198 : decode cX5_digest 198 = .ok (.aload_n 0, 1) := by decide +kernel
theorem dX5_digest_199 : decode cX5_digest 199 = .ok (.iload_n 3, 1) := by decide +kernel
theorem dX5_digest_200 : decode cX5_digest 200 = .ok (.iload 4, 2) := by decide +kernel
theorem dX5_digest_202 : decode cX5_digest 202 = .ok (.invokevirtual 157, 3) := by decide +kernel
theorem dX5_digest_205 : decode cX5_digest 205 = .ok (.i2l, 1) := by decide +kernel
theorem dX5_digest_206 : decode cX5_digest 206 = .ok (.ladd, 1) := by decide +kernel
theorem dX5_digest_207 : decode cX5_digest 207 = .ok (.lstore_n 1, 1) := by decide +kernel
theorem dX5_digest_208 : decode cX5_digest 208 = .ok (.iinc 4 1, 3) := by decide +kernel
theorem dX5_digest_211 : decode cX5_digest 211 = .ok (.goto (-24), 3) := by decide +kernel
theorem dX5_digest_214 : decode cX5_digest 214 = .ok (.iconst 0, 1) := by decide +kernel
theorem dX5_digest_215 : decode cX5_digest 215 = .ok (.istore 4, 2) := by decide +kernel
theorem dX5_digest_217 : decode cX5_digest 217 = .ok (.iload 4, 2) := by decide +kernel
theorem dX5_digest_219 : decode cX5_digest 219 = .ok (.aload_n 0, 1) := by decide +kernel
theorem dX5_digest_220 : decode cX5_digest 220 = .ok (.getfield 50, 3) := by decide +kernel
theorem dX5_digest_223 : decode cX5_digest 223 = .ok (.iload_n 3, 1) := by decide +kernel
theorem dX5_digest_224 : decode cX5_digest 224 = .ok (.iaload, 1) := by decide +kernel
theorem dX5_digest_225 : decode cX5_digest 225 = .ok (.if_icmp .ge 29, 3) := by decide +kernel
theorem dX5_digest_228 : decode cX5_digest 228 = .ok (.lload_n 1, 1) := by decide +kernel
theorem dX5_digest_229 : decode cX5_digest 229 = .ok (.ldc2_w 169, 3) := by decide +kernel
theorem dX5_digest_232 : decode cX5_digest 232 = .ok (.lmul, 1) := by decide +kernel
theorem dX5_digest_233 : decode cX5_digest 233 = .ok (.aload_n 0, 1) := by decide +kernel
theorem dX5_digest_234 : decode cX5_digest 234 = .ok (.getfield 53, 3) := by decide +kernel
theorem dX5_digest_237 : decode cX5_digest 237 = .ok (.bipush 8, 2) := by decide +kernel
theorem dX5_digest_239 : decode cX5_digest 239 = .ok (.iload_n 3, 1) := by decide +kernel
theorem dX5_digest_240 : decode cX5_digest 240 = .ok (.imul, 1) := by decide +kernel
theorem dX5_digest_241 : decode cX5_digest 241 = .ok (.iload 4, 2) := by decide +kernel
theorem dX5_digest_243 : decode cX5_digest 243 = .ok (.iadd, 1) := by decide +kernel
theorem dX5_digest_244 : decode cX5_digest 244 = .ok (.iaload, 1) := by decide +kernel
theorem dX5_digest_245 : decode cX5_digest 245 = .ok (.i2l, 1) := by decide +kernel
theorem dX5_digest_246 : decode cX5_digest 246 = .ok (.ladd, 1) := by decide +kernel
theorem dX5_digest_247 : decode cX5_digest 247 = .ok (.lstore_n 1, 1) := by decide +kernel
theorem dX5_digest_248 : decode cX5_digest 248 = .ok (.iinc 4 1, 3) := by decide +kernel
theorem dX5_digest_251 : decode cX5_digest 251 = .ok (.goto (-34), 3) := by decide +kernel
theorem dX5_digest_254 : decode cX5_digest 254 = .ok (.iinc 3 1, 3) := by decide +kernel
theorem dX5_digest_257 : decode cX5_digest 257 = .ok (.goto (-81), 3) := by decide +kernel
theorem dX5_digest_260 : decode cX5_digest 260 = .ok (.lload_n 1, 1) := by decide +kernel
theorem dX5_digest_261 : decode cX5_digest 261 = .ok (.lreturn, 1) := by decide +kernel
