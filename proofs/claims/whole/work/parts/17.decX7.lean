set_option maxRecDepth 20000 in
theorem ggX7_init_X3_init : GoodIn wsX7_init wsX3_init := goodIn_r _ [36, 37, 2, 3, 38, 39, 40, 41, 42, 43, 44, 45, 46, 95, 96, 97, 98, 99] (by decide +kernel) (by decide +kernel)
set_option maxRecDepth 20000 in
theorem gX7_init_X3_init : GoodIn wsX7_init (wsX3_init) := ggX7_init_X3_init
set_option maxRecDepth 20000 in
theorem ggX7_init_X2_init : GoodIn wsX7_init wsX2_init := goodIn_r _ [48, 49, 2, 3, 38, 50, 51, 52, 53, 54, 110, 111, 112, 113, 114, 115, 116, 117, 118, 119] (by decide +kernel) (by decide +kernel)
set_option maxRecDepth 20000 in
theorem gX7_init_X2_init_n24 : GoodIn wsX7_init (wsX2_init) := ggX7_init_X2_init
set_option maxRecDepth 20000 in
theorem ggX7_init_X4_init : GoodIn wsX7_init wsX4_init := goodIn_r _ [56, 57, 2, 3, 38, 58, 59, 60, 61, 62, 120, 121, 122, 123, 124, 125] (by decide +kernel) (by decide +kernel)
set_option maxRecDepth 20000 in
theorem gX7_init_X4_init_n31 : GoodIn wsX7_init (wsX4_init) := ggX7_init_X4_init
set_option maxRecDepth 20000 in
theorem ggX7_init_X6_init : GoodIn wsX7_init wsX6_init := goodIn_r _ [65, 66, 2, 3, 38, 67, 68, 69, 70, 71, 126, 127, 128, 129, 130, 131, 132, 133, 134, 135, 136, 137] (by decide +kernel) (by decide +kernel)
set_option maxRecDepth 20000 in
theorem gX7_init_X6_init : GoodIn wsX7_init (wsX6_init) := ggX7_init_X6_init
set_option maxRecDepth 20000 in
theorem ggX7_init_X1_init : GoodIn wsX7_init wsX1_init := goodIn_r _ [74, 75, 2, 3, 38, 76, 77, 78, 79, 80, 81, 138, 139, 140, 141, 142, 143] (by decide +kernel) (by decide +kernel)
set_option maxRecDepth 20000 in
theorem gX7_init_X1_init : GoodIn wsX7_init (wsX1_init) := ggX7_init_X1_init
set_option maxRecDepth 20000 in
theorem ggX7_init_X0_init : GoodIn wsX7_init wsX0_init := goodIn_r _ [84, 85, 2, 3, 38, 86, 87, 88, 144, 145, 146] (by decide +kernel) (by decide +kernel)
set_option maxRecDepth 20000 in
theorem gX7_init_X0_init : GoodIn wsX7_init (wsX0_init) := ggX7_init_X0_init
set_option maxRecDepth 20000 in
theorem ggX7_init_X5_init : GoodIn wsX7_init wsX5_init := goodIn_r _ [91, 92, 2, 3, 93, 94, 147, 148] (by decide +kernel) (by decide +kernel)
set_option maxRecDepth 20000 in
theorem gX7_init_X5_init : GoodIn wsX7_init (wsX5_init) := ggX7_init_X5_init
theorem dX7_init_0 : decode cX7_init 0 = .ok (.aload_n 0, 1) := by decide +kernel
theorem dX7_init_1 : decode cX7_init 1 = .ok (.invokespecial 3, 3) := by decide +kernel
theorem dX7_init_4 : decode cX7_init 4 = .ok (.aload_n 0, 1) := by decide +kernel
theorem dX7_init_5 : decode cX7_init 5 = .ok (.new 9, 3) := by decide +kernel
theorem dX7_init_8 : decode cX7_init 8 = .ok (.dup, 1) := by decide +kernel
theorem dX7_init_9 : decode cX7_init 9 = .ok (.invokespecial 11, 3) := by decide +kernel
theorem dX7_init_12 : decode cX7_init 12 = .ok (.putfield 12, 3) := by decide +kernel
theorem dX7_init_15 : decode cX7_init 15 = .ok (.aload_n 0, 1) := by decide +kernel
theorem dX7_init_16 : decode cX7_init 16 = .ok (.new 9, 3) := by decide +kernel
theorem dX7_init_19 : decode cX7_init 19 = .ok (.dup, 1) := by decide +kernel
theorem dX7_init_20 : decode cX7_init 20 = .ok (.invokespecial 11, 3) := by decide +kernel
theorem dX7_init_23 : decode cX7_init 23 = .ok (.putfield 16, 3) := by decide +kernel
theorem dX7_init_26 : decode cX7_init 26 = .ok (.aload_n 0, 1) := by decide +kernel
theorem dX7_init_27 : decode cX7_init 27 = .ok (.new 9, 3) := by decide +kernel
theorem dX7_init_30 : decode cX7_init 30 = .ok (.dup, 1) := by decide +kernel
theorem dX7_init_31 : decode cX7_init 31 = .ok (.invokespecial 11, 3) := by decide +kernel
theorem dX7_init_34 : decode cX7_init 34 = .ok (.putfield 19, 3) := by decide +kernel
theorem dX7_init_37 : decode cX7_init 37 = .ok (.aload_n 0, 1) := by decide +kernel
theorem dX7_init_38 : decode cX7_init 38 = .ok (.new 22, 3) := by decide +kernel
theorem dX7_init_41 : decode cX7_init 41 = .ok (.dup, 1) := by decide +kernel
theorem dX7_init_42 : decode cX7_init 42 = .ok (.invokespecial 24, 3) := by decide +kernel
theorem dX7_init_45 : decode cX7_init 45 = .ok (.putfield 25, 3) := by decide +kernel
theorem dX7_init_48 : decode cX7_init 48 = .ok (.aload_n 0, 1) := by decide +kernel
theorem dX7_init_49 : decode cX7_init 49 = .ok (.new 29, 3) := by decide +kernel
theorem dX7_init_52 : decode cX7_init 52 = .ok (.dup, 1) := by decide +kernel
theorem dX7_init_53 : decode cX7_init 53 = .ok (.invokespecial 31, 3) := by decide +kernel
theorem dX7_init_56 : decode cX7_init 56 = .ok (.putfield 32, 3) := by decide +kernel
theorem dX7_init_59 : decode cX7_init 59 = .ok (.aload_n 0, 1) := by decide +kernel
theorem dX7_init_60 : decode cX7_init 60 = .ok (.new 36, 3) := by decide +kernel
theorem dX7_init_63 : decode cX7_init 63 = .ok (.dup, 1) := by decide +kernel
theorem dX7_init_64 : decode cX7_init 64 = .ok (.aload_n 0, 1) := by decide +kernel
theorem dX7_init_65 : decode cX7_init 65 = .ok (.getfield 12, 3) := by decide +kernel
theorem dX7_init_68 : decode cX7_init 68 = .ok (.aload_n 0, 1) := by decide +kernel
theorem dX7_init_69 : decode cX7_init 69 = .ok (.getfield 25, 3) := by decide +kernel
theorem dX7_init_72 : decode cX7_init 72 = .ok (.aload_n 0, 1) := by decide +kernel
theorem dX7_init_73 : decode cX7_init 73 = .ok (.getfield 32, 3) := by decide +kernel
theorem dX7_init_76 : decode cX7_init 76 = .ok (.invokespecial 38, 3) := by decide +kernel
theorem dX7_init_79 : decode cX7_init 79 = .ok (.putfield 41, 3) := by decide +kernel
theorem dX7_init_82 : decode cX7_init 82 = .ok (.aload_n 0, 1) := by decide +kernel
theorem dX7_init_83 : decode cX7_init 83 = .ok (.new 45, 3) := by decide +kernel
theorem dX7_init_86 : decode cX7_init 86 = .ok (.dup, 1) := by decide +kernel
theorem dX7_init_87 : decode cX7_init 87 = .ok (.aload_n 0, 1) := by decide +kernel
theorem dX7_init_88 : decode cX7_init 88 = .ok (.getfield 12, 3) := by decide +kernel
theorem dX7_init_91 : decode cX7_init 91 = .ok (.invokespecial 47, 3) := by decide +kernel
theorem dX7_init_94 : decode cX7_init 94 = .ok (.putfield 50, 3) := by decide +kernel
theorem dX7_init_97 : decode cX7_init 97 = .ok (.aload_n 0, 1) := by decide +kernel
theorem dX7_init_98 : decode cX7_init 98 = .ok (.new 54, 3) := by decide +kernel
theorem dX7_init_101 : decode cX7_init 101 = .ok (.dup, 1) := by decide +kernel
theorem dX7_init_102 : decode cX7_init 102 = .ok (.aload_n 0, 1) := by decide +kernel
theorem dX7_init_103 : decode cX7_init 103 = .ok (.getfield 12, 3) := by decide +kernel
theorem dX7_init_106 : decode cX7_init 106 = .ok (.invokespecial 56, 3) := by decide +kernel
theorem dX7_init_109 : decode cX7_init 109 = .ok (.putfield 57, 3) := by decide +kernel
theorem dX7_init_112 : decode cX7_init 112 = .ok (.aload_n 0, 1) := by decide +kernel
theorem dX7_init_113 : decode cX7_init 113 = .ok (.new 61, 3) := by decide +kernel
theorem dX7_init_116 : decode cX7_init 116 = .ok (.dup, 1) := by decide +kernel
theorem dX7_init_117 : decode cX7_init 117 = .ok (.aload_n 0, 1) := by decide +kernel
theorem dX7_init_118 : decode cX7_init 118 = .ok (.getfield 12, 3) := by decide +kernel
theorem dX7_init_121 : decode cX7_init 121 = .ok (.aload_n 0, 1) := by decide +kernel
theorem dX7_init_122 : decode cX7_init 122 = .ok (.getfield 32, 3) := by decide +kernel
theorem dX7_init_125 : decode cX7_init 125 = .ok (.invokespecial 63, 3) := by decide +kernel
theorem dX7_init_128 : decode cX7_init 128 = .ok (.putfield 66, 3) := by decide +kernel
theorem dX7_init_131 : decode cX7_init 131 = .ok (.return_, 1) := by decide +kernel
set_option maxRecDepth 20000 in
theorem ggX7_hull_X7_isHull : GoodIn wsX7_hull wsX7_isHull := goodIn_r _ [7] (by decide +kernel) (by decide +kernel)
set_option maxRecDepth 20000 in
theorem gX7_hull_X7_isHull : GoodIn wsX7_hull (va_wsS RX7 70 yX7_isHull wsX7_isHull) := goodIn_app (goodIn_of _ (by decide +kernel)) ggX7_hull_X7_isHull
set_option maxRecDepth 20000 in
theorem ggX7_hull_X7_isWithin : GoodIn wsX7_hull wsX7_isWithin := goodIn_r _ [10] (by decide +kernel) (by decide +kernel)
set_option maxRecDepth 20000 in
theorem gX7_hull_X7_isWithin : GoodIn wsX7_hull (va_wsS RX7 74 yX7_isWithin wsX7_isWithin) := goodIn_app (goodIn_of _ (by decide +kernel)) ggX7_hull_X7_isWithin
set_option maxRecDepth 20000 in
theorem ggX7_hull_X7_swap : GoodIn wsX7_hull wsX7_swap := goodIn_r _ [13, 14, 15, 6, 16, 17, 18, 19] (by decide +kernel) (by decide +kernel)
set_option maxRecDepth 20000 in
theorem gX7_hull_X7_swap : GoodIn wsX7_hull (va_wsS RX7 82 yX7_swap wsX7_swap) := goodIn_app (goodIn_of _ (by decide +kernel)) ggX7_hull_X7_swap
theorem dX7_hull_0 : decode cX7_hull 0 = .ok (.iload_n 1, 1) := by decide +kernel
theorem dX7_hull_1 : decode cX7_hull 1 = .ok (.invokestatic 70, 3) := by decide +kernel
theorem dX7_hull_4 : decode cX7_hull 4 = .ok (.ifCond .ne 5, 3) := by decide +kernel
theorem dX7_hull_7 : decode cX7_hull 7 = .ok (.iconst (-1), 1) := by decide +kernel
theorem dX7_hull_8 : decode cX7_hull 8 = .ok (.ireturn, 1) := by decide +kernel
theorem dX7_hull_9 : decode cX7_hull 9 = .ok (.iload_n 2, 1) := by decide +kernel
theorem dX7_hull_10 : decode cX7_hull 10 = .ok (.ifCond .ne 26, 3) := by decide +kernel
theorem dX7_hull_13 : decode cX7_hull 13 = .ok (.iload_n 3, 1) := by decide +kernel
theorem dX7_hull_14 : decode cX7_hull 14 = .ok (.iconst 0, 1) := by decide +kernel
theorem dX7_hull_15 : decode cX7_hull 15 = .ok (.bipush 31, 2) := by decide +kernel
theorem dX7_hull_17 : decode cX7_hull 17 = .ok (.invokestatic 74, 3) := by decide +kernel
theorem dX7_hull_20 : decode cX7_hull 20 = .ok (.ifCond .eq 16, 3) := by decide +kernel
theorem dX7_hull_23 : decode cX7_hull 23 = .ok (.aload_n 0, 1) := by decide +kernel
theorem dX7_hull_24 : decode cX7_hull 24 = .ok (.getfield 12, 3) := by decide +kernel
theorem dX7_hull_27 : decode cX7_hull 27 = .ok (.getfield 78, 3) := by decide +kernel
theorem dX7_hull_30 : decode cX7_hull 30 = .ok (.iload_n 1, 1) := by decide +kernel
theorem dX7_hull_31 : decode cX7_hull 31 = .ok (.iload_n 3, 1) := by decide +kernel
theorem dX7_hull_32 : decode cX7_hull 32 = .ok (.invokestatic 82, 3) := by decide +kernel
theorem dX7_hull_35 : decode cX7_hull 35 = .ok (.ireturn, 1) := by decide +kernel
theorem dX7_hull_36 : decode cX7_hull 36 = .ok (.iload_n 2, 1) := by decide +kernel
theorem dX7_hull_37 : decode cX7_hull 37 = .ok (.iconst 1, 1) := by decide +kernel
theorem dX7_hull_38 : decode cX7_hull 38 = .ok (.if_icmp .ne 26, 3) := by decide +kernel
theorem dX7_hull_41 : decode cX7_hull 41 = .ok (.iload_n 3, 1) := by decide +kernel
theorem dX7_hull_42 : decode cX7_hull 42 = .ok (.iconst 0, 1) := by decide +kernel
theorem dX7_hull_43 : decode cX7_hull 43 = .ok (.bipush 9, 2) := by decide +kernel
theorem dX7_hull_45 : decode cX7_hull 45 = .ok (.invokestatic 74, 3) := by decide +kernel
theorem dX7_hull_48 : decode cX7_hull 48 = .ok (.ifCond .eq 16, 3) := by decide +kernel
theorem dX7_hull_51 : decode cX7_hull 51 = .ok (.aload_n 0, 1) := by decide +kernel
theorem dX7_hull_52 : decode cX7_hull 52 = .ok (.getfield 12, 3) := by decide +kernel
theorem dX7_hull_55 : decode cX7_hull 55 = .ok (.getfield 86, 3) := by decide +kernel
theorem dX7_hull_58 : decode cX7_hull 58 = .ok (.iload_n 1, 1) := by decide +kernel
theorem dX7_hull_59 : decode cX7_hull 59 = .ok (.iload_n 3, 1) := by decide +kernel
theorem dX7_hull_60 : decode cX7_hull 60 = .ok (.invokestatic 82, 3) := by decide +kernel
theorem dX7_hull_63 : decode cX7_hull 63 = .ok (.ireturn, 1) := by decide +kernel
theorem dX7_hull_64 : decode cX7_hull 64 = .ok (.bipush (-2), 2) := by decide +kernel
theorem dX7_hull_66 : decode cX7_hull 66 = .ok (.ireturn, 1) := by decide +kernel
set_option maxRecDepth 20000 in
theorem ggX7_luck_X7_isName : GoodIn wsX7_luck wsX7_isName := goodIn_r _ [6] (by decide +kernel) (by decide +kernel)
set_option maxRecDepth 20000 in
theorem gX7_luck_X7_isName : GoodIn wsX7_luck (va_wsS RX7 89 yX7_isName wsX7_isName) := goodIn_app (goodIn_of _ (by decide +kernel)) ggX7_luck_X7_isName
set_option maxRecDepth 20000 in
theorem ggX7_luck_X7_isWithin : GoodIn wsX7_luck wsX7_isWithin := goodIn_r _ [9] (by decide +kernel) (by decide +kernel)
set_option maxRecDepth 20000 in
theorem gX7_luck_X7_isWithin : GoodIn wsX7_luck (va_wsS RX7 74 yX7_isWithin wsX7_isWithin) := goodIn_app (goodIn_of _ (by decide +kernel)) ggX7_luck_X7_isWithin
set_option maxRecDepth 20000 in
theorem ggX7_luck_X7_swap : GoodIn wsX7_luck wsX7_swap := goodIn_r _ [12, 13, 14, 5, 15, 16, 17, 18] (by decide +kernel) (by decide +kernel)
set_option maxRecDepth 20000 in
theorem gX7_luck_X7_swap : GoodIn wsX7_luck (va_wsS RX7 82 yX7_swap wsX7_swap) := goodIn_app (goodIn_of _ (by decide +kernel)) ggX7_luck_X7_swap
theorem dX7_luck_0 : decode cX7_luck 0 = .ok (.iload_n 1, 1) := by decide +kernel
theorem dX7_luck_1 : decode cX7_luck 1 = .ok (.invokestatic 89, 3) := by decide +kernel
theorem dX7_luck_4 : decode cX7_luck 4 = .ok (.ifCond .ne 5, 3) := by decide +kernel
theorem dX7_luck_7 : decode cX7_luck 7 = .ok (.iconst (-1), 1) := by decide +kernel
theorem dX7_luck_8 : decode cX7_luck 8 = .ok (.ireturn, 1) := by decide +kernel
theorem dX7_luck_9 : decode cX7_luck 9 = .ok (.iload_n 2, 1) := by decide +kernel
theorem dX7_luck_10 : decode cX7_luck 10 = .ok (.iconst 0, 1) := by decide +kernel
theorem dX7_luck_11 : decode cX7_luck 11 = .ok (.bipush 10, 2) := by decide +kernel
theorem dX7_luck_13 : decode cX7_luck 13 = .ok (.invokestatic 74, 3) := by decide +kernel
theorem dX7_luck_16 : decode cX7_luck 16 = .ok (.ifCond .eq 18, 3) := by decide +kernel
theorem dX7_luck_19 : decode cX7_luck 19 = .ok (.aload_n 0, 1) := by decide +kernel
theorem dX7_luck_20 : decode cX7_luck 20 = .ok (.getfield 12, 3) := by decide +kernel
theorem dX7_luck_23 : decode cX7_luck 23 = .ok (.getfield 92, 3) := by decide +kernel
theorem dX7_luck_26 : decode cX7_luck 26 = .ok (.iload_n 1, 1) := by decide +kernel
theorem dX7_luck_27 : decode cX7_luck 27 = .ok (.iload_n 2, 1) := by decide +kernel
theorem dX7_luck_28 : decode cX7_luck 28 = .ok (.invokestatic 82, 3) := by decide +kernel
theorem dX7_luck_31 : decode cX7_luck 31 = .ok (.goto 5, 3) := by decide +kernel
theorem dX7_luck_34 : decode cX7_luck 34 = .ok (.bipush (-2), 2) := by decide +kernel
theorem dX7_luck_36 : decode cX7_luck 36 = .ok (.ireturn, 1) := by decide +kernel
set_option maxRecDepth 20000 in
theorem ggX7_worth_X7_isHull : GoodIn wsX7_worth wsX7_isHull := goodIn_r _ [6] (by decide +kernel) (by decide +kernel)
set_option maxRecDepth 20000 in
theorem gX7_worth_X7_isHull : GoodIn wsX7_worth (va_wsS RX7 70 yX7_isHull wsX7_isHull) := goodIn_app (goodIn_of _ (by decide +kernel)) ggX7_worth_X7_isHull
set_option maxRecDepth 20000 in
theorem ggX7_worth_X7_isName : GoodIn wsX7_worth wsX7_isName := goodIn_r _ [9] (by decide +kernel) (by decide +kernel)
set_option maxRecDepth 20000 in
theorem gX7_worth_X7_isName : GoodIn wsX7_worth (va_wsS RX7 89 yX7_isName wsX7_isName) := goodIn_app (goodIn_of _ (by decide +kernel)) ggX7_worth_X7_isName
set_option maxRecDepth 20000 in
theorem ggX7_worth_X7_isWithin : GoodIn wsX7_worth wsX7_isWithin := goodIn_r _ [12] (by decide +kernel) (by decide +kernel)
set_option maxRecDepth 20000 in
theorem gX7_worth_X7_isWithin : GoodIn wsX7_worth (va_wsS RX7 74 yX7_isWithin wsX7_isWithin) := goodIn_app (goodIn_of _ (by decide +kernel)) ggX7_worth_X7_isWithin
set_option maxRecDepth 20000 in
theorem ggX7_worth_X7_swap : GoodIn wsX7_worth wsX7_swap := goodIn_r _ [15, 16, 17, 5, 18, 19, 20, 21] (by decide +kernel) (by decide +kernel)
set_option maxRecDepth 20000 in
theorem gX7_worth_X7_swap : GoodIn wsX7_worth (va_wsS RX7 82 yX7_swap wsX7_swap) := goodIn_app (goodIn_of _ (by decide +kernel)) ggX7_worth_X7_swap
theorem dX7_worth_0 : decode cX7_worth 0 = .ok (.iload_n 1, 1) := by decide +kernel
theorem dX7_worth_1 : decode cX7_worth 1 = .ok (.invokestatic 70, 3) := by decide +kernel
theorem dX7_worth_4 : decode cX7_worth 4 = .ok (.ifCond .eq 10, 3) := by decide +kernel
theorem dX7_worth_7 : decode cX7_worth 7 = .ok (.iload_n 2, 1) := by decide +kernel
theorem dX7_worth_8 : decode cX7_worth 8 = .ok (.invokestatic 89, 3) := by decide +kernel
theorem dX7_worth_11 : decode cX7_worth 11 = .ok (.ifCond .ne 5, 3) := by decide +kernel
theorem dX7_worth_14 : decode cX7_worth 14 = .ok (.iconst (-1), 1) := by decide +kernel
theorem dX7_worth_15 : decode cX7_worth 15 = .ok (.ireturn, 1) := by decide +kernel
theorem dX7_worth_16 : decode cX7_worth 16 = .ok (.iload_n 3, 1) := by decide +kernel
theorem dX7_worth_17 : decode cX7_worth 17 = .ok (.iconst 0, 1) := by decide +kernel
theorem dX7_worth_18 : decode cX7_worth 18 = .ok (.bipush 99, 2) := by decide +kernel
theorem dX7_worth_20 : decode cX7_worth 20 = .ok (.invokestatic 74, 3) := by decide +kernel
theorem dX7_worth_23 : decode cX7_worth 23 = .ok (.ifCond .eq 22, 3) := by decide +kernel
theorem dX7_worth_26 : decode cX7_worth 26 = .ok (.aload_n 0, 1) := by decide +kernel
theorem dX7_worth_27 : decode cX7_worth 27 = .ok (.getfield 12, 3) := by decide +kernel
theorem dX7_worth_30 : decode cX7_worth 30 = .ok (.getfield 95, 3) := by decide +kernel
theorem dX7_worth_33 : decode cX7_worth 33 = .ok (.iload_n 1, 1) := by decide +kernel
theorem dX7_worth_34 : decode cX7_worth 34 = .ok (.iconst 5, 1) := by decide +kernel
theorem dX7_worth_35 : decode cX7_worth 35 = .ok (.imul, 1) := by decide +kernel
theorem dX7_worth_36 : decode cX7_worth 36 = .ok (.iload_n 2, 1) := by decide +kernel
theorem dX7_worth_37 : decode cX7_worth 37 = .ok (.iadd, 1) := by decide +kernel
theorem dX7_worth_38 : decode cX7_worth 38 = .ok (.iload_n 3, 1) := by decide +kernel
theorem dX7_worth_39 : decode cX7_worth 39 = .ok (.invokestatic 82, 3) := by decide +kernel
theorem dX7_worth_42 : decode cX7_worth 42 = .ok (.goto 5, 3) := by decide +kernel
theorem dX7_worth_45 : decode cX7_worth 45 = .ok (.bipush (-2), 2) := by decide +kernel
theorem dX7_worth_47 : decode cX7_worth 47 = .ok (.ireturn, 1) := by decide +kernel
set_option maxRecDepth 20000 in
theorem ggX7_rank_X7_isName : GoodIn wsX7_rank wsX7_isName := goodIn_r _ [6] (by decide +kernel) (by decide +kernel)
set_option maxRecDepth 20000 in
theorem gX7_rank_X7_isName : GoodIn wsX7_rank (va_wsS RX7 89 yX7_isName wsX7_isName) := goodIn_app (goodIn_of _ (by decide +kernel)) ggX7_rank_X7_isName
set_option maxRecDepth 20000 in
theorem ggX7_rank_X7_holdsEachHullOnce : GoodIn wsX7_rank wsX7_holdsEachHullOnce := goodIn_r _ [9, 10, 11, 12, 5, 13, 14, 15, 16] (by decide +kernel) (by decide +kernel)
set_option maxRecDepth 20000 in
theorem gX7_rank_X7_holdsEachHullOnce : GoodIn wsX7_rank (va_wsS RX7 98 yX7_holdsEachHullOnce wsX7_holdsEachHullOnce) := goodIn_app (goodIn_of _ (by decide +kernel)) ggX7_rank_X7_holdsEachHullOnce
set_option maxRecDepth 20000 in
theorem ggX7_rank_X7_swap : GoodIn wsX7_rank wsX7_swap := goodIn_r _ [19, 20, 21, 5, 22, 23, 24, 25] (by decide +kernel) (by decide +kernel)
set_option maxRecDepth 20000 in
theorem gX7_rank_X7_swap : GoodIn wsX7_rank (va_wsS RX7 82 yX7_swap wsX7_swap) := goodIn_app (goodIn_of _ (by decide +kernel)) ggX7_rank_X7_swap
theorem dX7_rank_0 : decode cX7_rank 0 = .ok (.iload_n 1, 1) := by decide +kernel
theorem dX7_rank_1 : decode cX7_rank 1 = .ok (.invokestatic 89, 3) := by decide +kernel
theorem dX7_rank_4 : decode cX7_rank 4 = .ok (.ifCond .ne 5, 3) := by decide +kernel
theorem dX7_rank_7 : decode cX7_rank 7 = .ok (.iconst (-1), 1) := by decide +kernel
theorem dX7_rank_8 : decode cX7_rank 8 = .ok (.ireturn, 1) := by decide +kernel
theorem dX7_rank_9 : decode cX7_rank 9 = .ok (.iload_n 2, 1) := by decide +kernel
theorem dX7_rank_10 : decode cX7_rank 10 = .ok (.invokestatic 98, 3) := by decide +kernel
theorem dX7_rank_13 : decode cX7_rank 13 = .ok (.ifCond .eq 18, 3) := by decide +kernel
theorem dX7_rank_16 : decode cX7_rank 16 = .ok (.aload_n 0, 1) := by decide +kernel
theorem dX7_rank_17 : decode cX7_rank 17 = .ok (.getfield 12, 3) := by decide +kernel
theorem dX7_rank_20 : decode cX7_rank 20 = .ok (.getfield 101, 3) := by decide +kernel
theorem dX7_rank_23 : decode cX7_rank 23 = .ok (.iload_n 1, 1) := by decide +kernel
theorem dX7_rank_24 : decode cX7_rank 24 = .ok (.iload_n 2, 1) := by decide +kernel
theorem dX7_rank_25 : decode cX7_rank 25 = .ok (.invokestatic 82, 3) := by decide +kernel
theorem dX7_rank_28 : decode cX7_rank 28 = .ok (.goto 5, 3) := by decide +kernel
theorem dX7_rank_31 : decode cX7_rank 31 = .ok (.bipush (-2), 2) := by decide +kernel
theorem dX7_rank_33 : decode cX7_rank 33 = .ok (.ireturn, 1) := by decide +kernel
set_option maxRecDepth 20000 in
theorem ggX7_say_X7_isWithin : GoodIn wsX7_say wsX7_isWithin := goodIn_r _ [5] (by decide +kernel) (by decide +kernel)
set_option maxRecDepth 20000 in
theorem gX7_say_X7_isWithin : GoodIn wsX7_say (va_wsS RX7 74 yX7_isWithin wsX7_isWithin) := goodIn_app (goodIn_of _ (by decide +kernel)) ggX7_say_X7_isWithin
set_option maxRecDepth 20000 in
theorem ggX7_say_X2_add : GoodIn wsX7_say wsX2_add := goodIn_r _ [10, 11, 12, 23, 24, 25, 26, 27, 28, 29, 30, 31, 32] (by decide +kernel) (by decide +kernel)
set_option maxRecDepth 20000 in
theorem gX7_say_X2_add : GoodIn wsX7_say (wsV RX7 104 RX2 yX2_add wsX2_add) := goodIn_app (goodIn_of _ (by decide +kernel)) ggX7_say_X2_add
theorem dX7_say_0 : decode cX7_say 0 = .ok (.iload_n 1, 1) := by decide +kernel
theorem dX7_say_1 : decode cX7_say 1 = .ok (.bipush 33, 2) := by decide +kernel
theorem dX7_say_3 : decode cX7_say 3 = .ok (.bipush 126, 2) := by decide +kernel
theorem dX7_say_5 : decode cX7_say 5 = .ok (.invokestatic 74, 3) := by decide +kernel
theorem dX7_say_8 : decode cX7_say 8 = .ok (.ifCond .ne 6, 3) := by decide +kernel
theorem dX7_say_11 : decode cX7_say 11 = .ok (.bipush (-2), 2) := by decide +kernel
theorem dX7_say_13 : decode cX7_say 13 = .ok (.ireturn, 1) := by decide +kernel
theorem dX7_say_14 : decode cX7_say 14 = .ok (.aload_n 0, 1) := by decide +kernel
theorem dX7_say_15 : decode cX7_say 15 = .ok (.getfield 25, 3) := by decide +kernel
theorem dX7_say_18 : decode cX7_say 18 = .ok (.iload_n 1, 1) := by decide +kernel
theorem dX7_say_19 : decode cX7_say 19 = .ok (.invokevirtual 104, 3) := by decide +kernel
theorem dX7_say_22 : decode cX7_say 22 = .ok (.ireturn, 1) := by decide +kernel
theorem dX7_wipe_0 : decode cX7_wipe 0 = .ok (.aload_n 0, 1) := by decide +kernel
theorem dX7_wipe_1 : decode cX7_wipe 1 = .ok (.getfield 25, 3) := by decide +kernel
theorem dX7_wipe_4 : decode cX7_wipe 4 = .ok (.getfield 108, 3) := by decide +kernel
theorem dX7_wipe_7 : decode cX7_wipe 7 = .ok (.istore_n 1, 1) := by decide +kernel
theorem dX7_wipe_8 : decode cX7_wipe 8 = .ok (.aload_n 0, 1) := by decide +kernel
theorem dX7_wipe_9 : decode cX7_wipe 9 = .ok (.getfield 25, 3) := by decide +kernel
theorem dX7_wipe_12 : decode cX7_wipe 12 = .ok (.iconst 0, 1) := by decide +kernel
theorem dX7_wipe_13 : decode cX7_wipe 13 = .ok (.putfield 108, 3) := by decide +kernel
theorem dX7_wipe_16 : decode cX7_wipe 16 = .ok (.iload_n 1, 1) := by decide +kernel
theorem dX7_wipe_17 : decode cX7_wipe 17 = .ok (.ireturn, 1) := by decide +kernel
set_option maxRecDepth 20000 in
theorem ggX7_fault_X2_read : GoodIn wsX7_fault wsX2_read := goodIn_r _ [6, 7, 8, 9, 10, 11, 12, 13, 14, 15, 5, 16, 17, 18, 19, 20, 21, 22, 23, 24, 25, 26, 27, 28, 29, 30, 31, 32, 33, 34, 35, 36, 37, 38, 39, 40, 41, 42, 43, 54, 55, 56, 57, 58, 59, 60, 61, 62, 63] (by decide +kernel) (by decide +kernel)
set_option maxRecDepth 20000 in
theorem gX7_fault_X2_read : GoodIn wsX7_fault (wsV RX7 112 RX2 yX2_read wsX2_read) := goodIn_app (goodIn_of _ (by decide +kernel)) ggX7_fault_X2_read
theorem dX7_fault_0 : decode cX7_fault 0 = .ok (.aload_n 0, 1) := by decide +kernel
theorem dX7_fault_1 : decode cX7_fault 1 = .ok (.getfield 25, 3) := by decide +kernel
theorem dX7_fault_4 : decode cX7_fault 4 = .ok (.invokevirtual 112, 3) := by decide +kernel
theorem dX7_fault_7 : decode cX7_fault 7 = .ok (.ireturn, 1) := by decide +kernel
set_option maxRecDepth 20000 in
theorem ggX7_judge_X7_isWithin : GoodIn wsX7_judge wsX7_isWithin := goodIn_r _ [8] (by decide +kernel) (by decide +kernel)
set_option maxRecDepth 20000 in
theorem gX7_judge_X7_isWithin : GoodIn wsX7_judge (va_wsS RX7 74 yX7_isWithin wsX7_isWithin) := goodIn_app (goodIn_of _ (by decide +kernel)) ggX7_judge_X7_isWithin
set_option maxRecDepth 20000 in
theorem ggX7_judge_X2_read : GoodIn wsX7_judge wsX2_read := goodIn_r _ [13, 14, 15, 16, 17, 18, 19, 20, 21, 22, 12, 23, 24, 25, 26, 27, 28, 29, 30, 31, 32, 33, 7, 34, 35, 36, 37, 38, 39, 40, 41, 42, 43, 44, 45, 46, 47, 48, 49, 149, 150, 151, 152, 153, 154, 155, 156, 157, 158] (by decide +kernel) (by decide +kernel)
set_option maxRecDepth 20000 in
theorem gX7_judge_X2_read : GoodIn wsX7_judge (wsV RX7 112 RX2 yX2_read wsX2_read) := goodIn_app (goodIn_of _ (by decide +kernel)) ggX7_judge_X2_read
set_option maxRecDepth 20000 in
theorem ggX7_judge_X6_tell : GoodIn wsX7_judge wsX6_tell := goodIn_r _ [54, 55, 56, 57, 58, 59, 60, 61, 62, 63, 64, 65, 66, 67, 68, 69, 70, 71, 72, 7, 73, 74, 75, 76, 53, 77, 78, 79, 80, 81, 82, 83, 84, 85, 86, 87, 88, 89, 90, 91, 92, 93, 94, 95, 96, 97, 98, 99, 33, 34, 100, 101, 102, 103, 104, 105, 106, 107, 108, 109, 110, 111, 112, 113, 114, 115, 116, 117, 118, 119, 120, 121, 122, 123, 124, 125, 126, 127, 128, 129, 130, 131, 132, 133, 134, 135, 136, 137, 138, 159, 160, 161, 162, 163, 164, 165, 166, 167, 168, 169, 170, 149, 150, 151, 152, 153, 154, 155, 156, 157, 158, 171, 172, 173, 174, 175, 176, 177, 178, 179, 180, 181] (by decide +kernel) (by decide +kernel)
set_option maxRecDepth 20000 in
theorem gX7_judge_X6_tell : GoodIn wsX7_judge (wsV RX7 119 RX6 yX6_tell wsX6_tell) := goodIn_app (goodIn_of _ (by decide +kernel)) ggX7_judge_X6_tell
theorem dX7_judge_0 : decode cX7_judge 0 = .ok (.iload_n 1, 1) := by decide +kernel
theorem dX7_judge_1 : decode cX7_judge 1 = .ok (.iconst 0, 1) := by decide +kernel
theorem dX7_judge_2 : decode cX7_judge 2 = .ok (.iconst 1, 1) := by decide +kernel
theorem dX7_judge_3 : decode cX7_judge 3 = .ok (.invokestatic 74, 3) := by decide +kernel
theorem dX7_judge_6 : decode cX7_judge 6 = .ok (.ifCond .ne 6, 3) := by decide +kernel
theorem dX7_judge_9 : decode cX7_judge 9 = .ok (.bipush (-2), 2) := by decide +kernel
theorem dX7_judge_11 : decode cX7_judge 11 = .ok (.ireturn, 1) := by decide +kernel
theorem dX7_judge_12 : decode cX7_judge 12 = .ok (.aload_n 0, 1) := by decide +kernel
theorem dX7_judge_13 : decode cX7_judge 13 = .ok (.getfield 25, 3) := by decide +kernel
theorem dX7_judge_16 : decode cX7_judge 16 = .ok (.invokevirtual 112, 3) := by decide +kernel
theorem dX7_judge_19 : decode cX7_judge 19 = .ok (.bipush (-6), 2) := by decide +kernel
theorem dX7_judge_21 : decode cX7_judge 21 = .ok (.if_icmp .eq 6, 3) := by decide +kernel
theorem dX7_judge_24 : decode cX7_judge 24 = .ok (.bipush (-5), 2) := by decide +kernel
theorem dX7_judge_26 : decode cX7_judge 26 = .ok (.ireturn, 1) := by decide +kernel
theorem dX7_judge_27 : decode cX7_judge 27 = .ok (.aload_n 0, 1) := by decide +kernel
theorem dX7_judge_28 : decode cX7_judge 28 = .ok (.getfield 25, 3) := by decide +kernel
theorem dX7_judge_31 : decode cX7_judge 31 = .ok (.getfield 116, 3) := by decide +kernel
theorem dX7_judge_34 : decode cX7_judge 34 = .ok (.ifCond .le 6, 3) := by decide +kernel
theorem dX7_judge_37 : decode cX7_judge 37 = .ok (.bipush (-3), 2) := by decide +kernel
theorem dX7_judge_39 : decode cX7_judge 39 = .ok (.ireturn, 1) := by decide +kernel
theorem dX7_judge_40 : decode cX7_judge 40 = .ok (.aload_n 0, 1) := by decide +kernel
theorem dX7_judge_41 : decode cX7_judge 41 = .ok (.getfield 41, 3) := by decide +kernel
theorem dX7_judge_44 : decode cX7_judge 44 = .ok (.invokevirtual 119, 3) := by decide +kernel
theorem dX7_judge_47 : decode cX7_judge 47 = .ok (.istore_n 2, 1) := by decide +kernel
theorem dX7_judge_48 : decode cX7_judge 48 = .ok (.iload_n 2, 1) := by decide +kernel
theorem dX7_judge_49 : decode cX7_judge 49 = .ok (.bipush (-6), 2) := by decide +kernel
theorem dX7_judge_51 : decode cX7_judge 51 = .ok (.if_icmp .eq 7, 3) := by decide +kernel
theorem dX7_judge_54 : decode cX7_judge 54 = .ok (.iload_n 1, 1) := by decide +kernel
theorem dX7_judge_55 : decode cX7_judge 55 = .ok (.ifCond .ne 7, 3) := by decide +kernel
theorem dX7_judge_58 : decode cX7_judge 58 = .ok (.iload_n 2, 1) := by decide +kernel
theorem dX7_judge_59 : decode cX7_judge 59 = .ok (.goto 10, 3) := by decide +kernel
theorem dX7_judge_62 : decode cX7_judge 62 = .ok (.aload_n 0, 1) := by decide +kernel
theorem dX7_judge_63 : decode cX7_judge 63 = .ok (.getfield 41, 3) := by decide +kernel
theorem dX7_judge_66 : decode cX7_judge 66 = .ok (.getfield 122, 3) := by decide +kernel
theorem dX7_judge_69 : decode cX7_judge 69 = .ok (.ireturn, 1) := by decide +kernel
set_option maxRecDepth 20000 in
theorem ggX7_log_X7_isAboutLog : GoodIn wsX7_log wsX7_isAboutLog := goodIn_r _ [12, 13, 14, 11, 15] (by decide +kernel) (by decide +kernel)
set_option maxRecDepth 20000 in
theorem gX7_log_X7_isAboutLog : GoodIn wsX7_log (va_wsS RX7 125 yX7_isAboutLog wsX7_isAboutLog) := goodIn_app (goodIn_of _ (by decide +kernel)) ggX7_log_X7_isAboutLog
set_option maxRecDepth 20000 in
theorem ggX7_log_X2_read : GoodIn wsX7_log wsX2_read := goodIn_r _ [20, 21, 22, 23, 24, 25, 26, 27, 28, 29, 19, 30, 31, 32, 33, 34, 35, 36, 37, 38, 39, 40, 11, 41, 42, 43, 44, 45, 46, 47, 48, 49, 50, 51, 52, 53, 54, 55, 56, 161, 162, 163, 164, 165, 166, 167, 168, 169, 170] (by decide +kernel) (by decide +kernel)
set_option maxRecDepth 20000 in
theorem gX7_log_X2_read : GoodIn wsX7_log (wsV RX7 112 RX2 yX2_read wsX2_read) := goodIn_app (goodIn_of _ (by decide +kernel)) ggX7_log_X2_read
set_option maxRecDepth 20000 in
theorem ggX7_log_X6_tell : GoodIn wsX7_log wsX6_tell := goodIn_r _ [61, 62, 63, 64, 65, 66, 67, 68, 69, 70, 71, 72, 73, 74, 75, 76, 77, 78, 79, 11, 80, 81, 82, 83, 60, 84, 85, 86, 87, 88, 89, 90, 91, 92, 93, 94, 95, 96, 97, 98, 99, 100, 101, 102, 103, 104, 105, 106, 40, 41, 107, 108, 109, 110, 111, 112, 113, 114, 115, 116, 117, 118, 119, 120, 121, 122, 123, 124, 125, 126, 127, 128, 129, 130, 131, 132, 133, 134, 135, 136, 137, 138, 139, 140, 141, 142, 143, 144, 145, 177, 178, 179, 180, 181, 182, 183, 184, 185, 186, 187, 188, 161, 162, 163, 164, 165, 166, 167, 168, 169, 170, 171, 172, 173, 174, 175, 176, 189, 190, 191, 192, 193] (by decide +kernel) (by decide +kernel)
set_option maxRecDepth 20000 in
theorem gX7_log_X6_tell : GoodIn wsX7_log (wsV RX7 119 RX6 yX6_tell wsX6_tell) := goodIn_app (goodIn_of _ (by decide +kernel)) ggX7_log_X6_tell
set_option maxRecDepth 20000 in
theorem ggX7_log_X7_at : GoodIn wsX7_log wsX7_at := goodIn_r _ [90] (by decide +kernel) (by decide +kernel)
set_option maxRecDepth 20000 in
theorem gX7_log_X7_at : GoodIn wsX7_log (va_wsS RX7 131 yX7_at wsX7_at) := goodIn_app (goodIn_of _ (by decide +kernel)) ggX7_log_X7_at
set_option maxRecDepth 20000 in
theorem ggX7_log_X4_dayAtHome : GoodIn wsX7_log wsX4_dayAtHome := goodIn_r _ [150, 74, 78, 76, 89, 11, 90, 171, 172, 173, 174, 175, 176] (by decide +kernel) (by decide +kernel)
set_option maxRecDepth 20000 in
theorem gX7_log_X4_dayAtHome : GoodIn wsX7_log (wsV RX7 138 RX4 yX4_dayAtHome wsX4_dayAtHome) := goodIn_app (goodIn_of _ (by decide +kernel)) ggX7_log_X4_dayAtHome
theorem dX7_log_0 : decode cX7_log 0 = .ok (.iload_n 1, 1) := by decide +kernel
theorem dX7_log_1 : decode cX7_log 1 = .ok (.invokestatic 125, 3) := by decide +kernel
theorem dX7_log_4 : decode cX7_log 4 = .ok (.ifCond .ne 6, 3) := by decide +kernel
theorem dX7_log_7 : decode cX7_log 7 = .ok (.bipush (-2), 2) := by decide +kernel
theorem dX7_log_9 : decode cX7_log 9 = .ok (.ireturn, 1) := by decide +kernel
theorem dX7_log_10 : decode cX7_log 10 = .ok (.aload_n 0, 1) := by decide +kernel
theorem dX7_log_11 : decode cX7_log 11 = .ok (.getfield 25, 3) := by decide +kernel
theorem dX7_log_14 : decode cX7_log 14 = .ok (.invokevirtual 112, 3) := by decide +kernel
theorem dX7_log_17 : decode cX7_log 17 = .ok (.bipush (-6), 2) := by decide +kernel
theorem dX7_log_19 : decode cX7_log 19 = .ok (.if_icmp .eq 6, 3) := by decide +kernel
theorem dX7_log_22 : decode cX7_log 22 = .ok (.bipush (-5), 2) := by decide +kernel
theorem dX7_log_24 : decode cX7_log 24 = .ok (.ireturn, 1) := by decide +kernel
theorem dX7_log_25 : decode cX7_log 25 = .ok (.aload_n 0, 1) := by decide +kernel
theorem dX7_log_26 : decode cX7_log 26 = .ok (.getfield 25, 3) := by decide +kernel
theorem dX7_log_29 : decode cX7_log 29 = .ok (.getfield 116, 3) := by decide +kernel
theorem dX7_log_32 : decode cX7_log 32 = .ok (.ifCond .gt 15, 3) := by decide +kernel
theorem dX7_log_35 : decode cX7_log 35 = .ok (.aload_n 0, 1) := by decide +kernel
theorem dX7_log_36 : decode cX7_log 36 = .ok (.getfield 41, 3) := by decide +kernel
theorem dX7_log_39 : decode cX7_log 39 = .ok (.invokevirtual 119, 3) := by decide +kernel
theorem dX7_log_42 : decode cX7_log 42 = .ok (.bipush (-6), 2) := by decide +kernel
theorem dX7_log_44 : decode cX7_log 44 = .ok (.if_icmp .eq 6, 3) := by decide +kernel
theorem dX7_log_47 : decode cX7_log 47 = .ok (.bipush (-3), 2) := by decide +kernel
theorem dX7_log_49 : decode cX7_log 49 = .ok (.ireturn, 1) := by decide +kernel
theorem dX7_log_50 : decode cX7_log 50 = .ok (.iload_n 1, 1) := by decide +kernel
theorem dX7_log_51 : decode cX7_log 51 = .ok (.bipush 10, 2) := by decide +kernel
theorem dX7_log_53 : decode cX7_log 53 = .ok (.irem, 1) := by decide +kernel
theorem dX7_log_54 : decode cX7_log 54 = .ok (.istore_n 2, 1) := by decide +kernel
theorem dX7_log_55 : decode cX7_log 55 = .ok (.iload_n 1, 1) := by decide +kernel
theorem dX7_log_56 : decode cX7_log 56 = .ok (.bipush 10, 2) := by decide +kernel
theorem dX7_log_58 : decode cX7_log 58 = .ok (.idiv, 1) := by decide +kernel
theorem dX7_log_59 : decode cX7_log 59 = .ok (.tableswitch 74 1 4 #[29, 41, 53, 62], 29) := by decide +kernel
theorem dX7_log_88 : decode cX7_log 88 = .ok (.aload_n 0, 1) := by decide +kernel
theorem dX7_log_89 : decode cX7_log 89 = .ok (.getfield 32, 3) := by decide +kernel
theorem dX7_log_92 : decode cX7_log 92 = .ok (.getfield 128, 3) := by decide +kernel
theorem dX7_log_95 : decode cX7_log 95 = .ok (.iload_n 2, 1) := by decide +kernel
theorem dX7_log_96 : decode cX7_log 96 = .ok (.invokestatic 131, 3) := by decide +kernel
theorem dX7_log_99 : decode cX7_log 99 = .ok (.ireturn, 1) := by decide +kernel
theorem dX7_log_100 : decode cX7_log 100 = .ok (.aload_n 0, 1) := by decide +kernel
theorem dX7_log_101 : decode cX7_log 101 = .ok (.getfield 32, 3) := by decide +kernel
theorem dX7_log_104 : decode cX7_log 104 = .ok (.getfield 135, 3) := by decide +kernel
theorem dX7_log_107 : decode cX7_log 107 = .ok (.iload_n 2, 1) := by decide +kernel
theorem dX7_log_108 : decode cX7_log 108 = .ok (.invokestatic 131, 3) := by decide +kernel
theorem dX7_log_111 : decode cX7_log 111 = .ok (.ireturn, 1) := by decide +kernel
theorem dX7_log_112 : decode cX7_log 112 = .ok (.aload_n 0, 1) := by decide +kernel
theorem dX7_log_113 : decode cX7_log 113 = .ok (.getfield 32, 3) := by decide +kernel
theorem dX7_log_116 : decode cX7_log 116 = .ok (.iload_n 2, 1) := by decide +kernel
theorem dX7_log_117 : decode cX7_log 117 = .ok (.invokevirtual 138, 3) := by decide +kernel
theorem dX7_log_120 : decode cX7_log 120 = .ok (.ireturn, 1) := by decide +kernel
theorem dX7_log_121 : decode cX7_log 121 = .ok (.aload_n 0, 1) := by decide +kernel
theorem dX7_log_122 : decode cX7_log 122 = .ok (.getfield 32, 3) := by decide +kernel
theorem dX7_log_125 : decode cX7_log 125 = .ok (.getfield 141, 3) := by decide +kernel
theorem dX7_log_128 : decode cX7_log 128 = .ok (.iload_n 2, 1) := by decide +kernel
theorem dX7_log_129 : decode cX7_log 129 = .ok (.invokestatic 131, 3) := by decide +kernel
theorem dX7_log_132 : decode cX7_log 132 = .ok (.ireturn, 1) := by decide +kernel
theorem dX7_log_133 : decode cX7_log 133 = .ok (.aload_n 0, 1) := by decide +kernel
theorem dX7_log_134 : decode cX7_log 134 = .ok (.getfield 25, 3) := by decide +kernel
theorem dX7_log_137 : decode cX7_log 137 = .ok (.getfield 144, 3) := by decide +kernel
theorem dX7_log_140 : decode cX7_log 140 = .ok (.ireturn, 1) := by decide +kernel
set_option maxRecDepth 20000 in
theorem ggX7_who_X7_refusalOf : GoodIn wsX7_who wsX7_refusalOf := goodIn_r _ [9, 1, 10, 11, 12, 8, 13, 14, 15, 16, 17, 18, 19, 20, 21, 22, 23, 24, 25, 26, 27, 28, 29, 30, 31, 32, 33, 34, 35, 36, 37, 38, 39, 40, 41, 42, 43, 44, 45, 46, 47, 48, 49, 50, 51, 52, 53, 54, 148, 149, 150, 151, 152, 153, 154, 155, 156, 157, 158, 159, 160, 161, 162, 163, 164, 165, 166, 167] (by decide +kernel) (by decide +kernel)
set_option maxRecDepth 20000 in
theorem gX7_who_X7_refusalOf : GoodIn wsX7_who (wsV RX7 147 RX7 yX7_refusalOf wsX7_refusalOf) := goodIn_app (goodIn_of _ (by decide +kernel)) ggX7_who_X7_refusalOf
set_option maxRecDepth 20000 in
theorem ggX7_who_X6_ask : GoodIn wsX7_who wsX6_ask := goodIn_r _ [59, 60, 61, 168, 169, 170, 171, 172, 173, 174, 175, 176, 177, 178, 179] (by decide +kernel) (by decide +kernel)
set_option maxRecDepth 20000 in
theorem gX7_who_X6_ask : GoodIn wsX7_who (wsV RX7 151 RX6 yX6_ask wsX6_ask) := goodIn_app (goodIn_of _ (by decide +kernel)) ggX7_who_X6_ask
set_option maxRecDepth 20000 in
theorem ggX7_who_X6_tell : GoodIn wsX7_who wsX6_tell := goodIn_r _ [65, 66, 67, 68, 69, 70, 71, 72, 73, 74, 75, 76, 77, 78, 79, 80, 81, 82, 83, 8, 84, 85, 86, 87, 58, 88, 89, 90, 91, 92, 93, 94, 95, 96, 97, 98, 61, 60, 99, 100, 101, 102, 103, 104, 105, 106, 107, 108, 38, 39, 109, 110, 111, 112, 113, 114, 115, 116, 117, 118, 119, 120, 121, 122, 123, 124, 125, 126, 127, 128, 129, 130, 131, 132, 133, 134, 135, 136, 137, 138, 139, 140, 141, 142, 143, 144, 145, 146, 147, 168, 169, 170, 171, 172, 173, 174, 175, 176, 177, 178, 179, 158, 159, 160, 161, 162, 163, 164, 165, 166, 167, 180, 181, 182, 183, 184, 185, 186, 187, 188, 189, 190] (by decide +kernel) (by decide +kernel)
set_option maxRecDepth 20000 in
theorem gX7_who_X6_tell : GoodIn wsX7_who (wsV RX7 119 RX6 yX6_tell wsX6_tell) := goodIn_app (goodIn_of _ (by decide +kernel)) ggX7_who_X6_tell
theorem dX7_who_0 : decode cX7_who 0 = .ok (.aload_n 0, 1) := by decide +kernel
theorem dX7_who_1 : decode cX7_who 1 = .ok (.iload_n 1, 1) := by decide +kernel
theorem dX7_who_2 : decode cX7_who 2 = .ok (.iload_n 2, 1) := by decide +kernel
theorem dX7_who_3 : decode cX7_who 3 = .ok (.invokevirtual 147, 3) := by decide +kernel
theorem dX7_who_6 : decode cX7_who 6 = .ok (.istore_n 3, 1) := by decide +kernel
theorem dX7_who_7 : decode cX7_who 7 = .ok (.iload_n 3, 1) := by decide +kernel
theorem dX7_who_8 : decode cX7_who 8 = .ok (.ifCond .eq 5, 3) := by decide +kernel
theorem dX7_who_11 : decode cX7_who 11 = .ok (.iload_n 3, 1) := by decide +kernel
theorem dX7_who_12 : decode cX7_who 12 = .ok (.ireturn, 1) := by decide +kernel
theorem dX7_who_13 : decode cX7_who 13 = .ok (.aload_n 0, 1) := by decide +kernel
theorem dX7_who_14 : decode cX7_who 14 = .ok (.getfield 25, 3) := by decide +kernel
theorem dX7_who_17 : decode cX7_who 17 = .ok (.getfield 116, 3) := by decide +kernel
theorem dX7_who_20 : decode cX7_who 20 = .ok (.ifCond .le 6, 3) := by decide +kernel
theorem dX7_who_23 : decode cX7_who 23 = .ok (.bipush (-3), 2) := by decide +kernel
theorem dX7_who_25 : decode cX7_who 25 = .ok (.ireturn, 1) := by decide +kernel
theorem dX7_who_26 : decode cX7_who 26 = .ok (.aload_n 0, 1) := by decide +kernel
theorem dX7_who_27 : decode cX7_who 27 = .ok (.getfield 41, 3) := by decide +kernel
theorem dX7_who_30 : decode cX7_who 30 = .ok (.iload_n 1, 1) := by decide +kernel
theorem dX7_who_31 : decode cX7_who 31 = .ok (.iload_n 2, 1) := by decide +kernel
theorem dX7_who_32 : decode cX7_who 32 = .ok (.invokevirtual 151, 3) := by decide +kernel
theorem dX7_who_35 : decode cX7_who 35 = .ok (.aload_n 0, 1) := by decide +kernel
theorem dX7_who_36 : decode cX7_who 36 = .ok (.getfield 41, 3) := by decide +kernel
theorem dX7_who_39 : decode cX7_who 39 = .ok (.invokevirtual 119, 3) := by decide +kernel
theorem dX7_who_42 : decode cX7_who 42 = .ok (.bipush (-6), 2) := by decide +kernel
theorem dX7_who_44 : decode cX7_who 44 = .ok (.if_icmp .ne 13, 3) := by decide +kernel
theorem dX7_who_47 : decode cX7_who 47 = .ok (.aload_n 0, 1) := by decide +kernel
theorem dX7_who_48 : decode cX7_who 48 = .ok (.getfield 41, 3) := by decide +kernel
theorem dX7_who_51 : decode cX7_who 51 = .ok (.getfield 155, 3) := by decide +kernel
theorem dX7_who_54 : decode cX7_who 54 = .ok (.goto 5, 3) := by decide +kernel
theorem dX7_who_57 : decode cX7_who 57 = .ok (.bipush (-3), 2) := by decide +kernel
theorem dX7_who_59 : decode cX7_who 59 = .ok (.ireturn, 1) := by decide +kernel
set_option maxRecDepth 20000 in
theorem ggX7_filled_X2_read : GoodIn wsX7_filled wsX2_read := goodIn_r _ [10, 11, 12, 13, 14, 15, 16, 17, 18, 19, 9, 20, 21, 22, 23, 24, 25, 26, 27, 28, 29, 30, 31, 32, 33, 34, 35, 36, 37, 38, 39, 40, 41, 42, 43, 44, 45, 46, 47, 180, 181, 182, 183, 184, 185, 186, 187, 188, 189] (by decide +kernel) (by decide +kernel)
set_option maxRecDepth 20000 in
theorem gX7_filled_X2_read : GoodIn wsX7_filled (wsV RX7 112 RX2 yX2_read wsX2_read) := goodIn_app (goodIn_of _ (by decide +kernel)) ggX7_filled_X2_read
set_option maxRecDepth 20000 in
theorem ggX7_filled_X6_tryAll : GoodIn wsX7_filled wsX6_tryAll := goodIn_r _ [52, 53, 54, 55, 56, 57, 58, 31, 59, 60, 61, 62, 51, 63, 64, 65, 66, 67, 68, 69, 70, 71, 72, 73, 74, 75, 76, 77, 78, 79, 80, 81, 82, 83, 84, 85, 86, 87, 88, 89, 90, 91, 92, 93, 94, 95, 96, 97, 98, 99, 100, 101, 102, 103, 104, 105, 30, 32, 106, 107, 108, 109, 110, 111, 112, 113, 114, 115, 116, 117, 118, 119, 120, 121, 122, 123, 124, 125, 126, 127, 128, 129, 130, 131, 132, 133, 134, 135, 136, 137, 138, 139, 140, 141, 142, 143, 144, 145, 146, 147, 148, 149, 150, 151, 152, 153, 168, 169, 170, 171, 172, 173, 174, 175, 176, 177, 178, 179, 180, 181, 182, 183, 184, 185, 186, 187, 188, 189, 190, 191, 192, 193, 194, 195, 196, 197, 198, 199, 200] (by decide +kernel) (by decide +kernel)
set_option maxRecDepth 20000 in
theorem gX7_filled_X6_tryAll : GoodIn wsX7_filled (wsV RX7 158 RX6 yX6_tryAll wsX6_tryAll) := goodIn_app (goodIn_of _ (by decide +kernel)) ggX7_filled_X6_tryAll
set_option maxRecDepth 20000 in
theorem ggX7_filled_X7_isWithin : GoodIn wsX7_filled wsX7_isWithin := goodIn_r _ [156] (by decide +kernel) (by decide +kernel)
set_option maxRecDepth 20000 in
theorem gX7_filled_X7_isWithin : GoodIn wsX7_filled (va_wsS RX7 74 yX7_isWithin wsX7_isWithin) := goodIn_app (goodIn_of _ (by decide +kernel)) ggX7_filled_X7_isWithin
set_option maxRecDepth 20000 in
theorem ggX7_filled_X7_at : GoodIn wsX7_filled wsX7_at := goodIn_r _ [89] (by decide +kernel) (by decide +kernel)
set_option maxRecDepth 20000 in
theorem gX7_filled_X7_at : GoodIn wsX7_filled (va_wsS RX7 131 yX7_at wsX7_at) := goodIn_app (goodIn_of _ (by decide +kernel)) ggX7_filled_X7_at
theorem dX7_filled_0 : decode cX7_filled 0 = .ok (.aload_n 0, 1) := by decide +kernel
theorem dX7_filled_1 : decode cX7_filled 1 = .ok (.getfield 25, 3) := by decide +kernel
theorem dX7_filled_4 : decode cX7_filled 4 = .ok (.invokevirtual 112, 3) := by decide +kernel
theorem dX7_filled_7 : decode cX7_filled 7 = .ok (.bipush (-6), 2) := by decide +kernel
theorem dX7_filled_9 : decode cX7_filled 9 = .ok (.if_icmp .eq 6, 3) := by decide +kernel
theorem dX7_filled_12 : decode cX7_filled 12 = .ok (.bipush (-5), 2) := by decide +kernel
theorem dX7_filled_14 : decode cX7_filled 14 = .ok (.ireturn, 1) := by decide +kernel
theorem dX7_filled_15 : decode cX7_filled 15 = .ok (.aload_n 0, 1) := by decide +kernel
theorem dX7_filled_16 : decode cX7_filled 16 = .ok (.getfield 41, 3) := by decide +kernel
theorem dX7_filled_19 : decode cX7_filled 19 = .ok (.invokevirtual 158, 3) := by decide +kernel
theorem dX7_filled_22 : decode cX7_filled 22 = .ok (.iload_n 1, 1) := by decide +kernel
theorem dX7_filled_23 : decode cX7_filled 23 = .ok (.iconst (-1), 1) := by decide +kernel
theorem dX7_filled_24 : decode cX7_filled 24 = .ok (.if_icmp .ne 11, 3) := by decide +kernel
theorem dX7_filled_27 : decode cX7_filled 27 = .ok (.aload_n 0, 1) := by decide +kernel
theorem dX7_filled_28 : decode cX7_filled 28 = .ok (.getfield 41, 3) := by decide +kernel
theorem dX7_filled_31 : decode cX7_filled 31 = .ok (.getfield 161, 3) := by decide +kernel
theorem dX7_filled_34 : decode cX7_filled 34 = .ok (.ireturn, 1) := by decide +kernel
theorem dX7_filled_35 : decode cX7_filled 35 = .ok (.iload_n 1, 1) := by decide +kernel
theorem dX7_filled_36 : decode cX7_filled 36 = .ok (.iconst 0, 1) := by decide +kernel
theorem dX7_filled_37 : decode cX7_filled 37 = .ok (.aload_n 0, 1) := by decide +kernel
theorem dX7_filled_38 : decode cX7_filled 38 = .ok (.getfield 25, 3) := by decide +kernel
theorem dX7_filled_41 : decode cX7_filled 41 = .ok (.getfield 116, 3) := by decide +kernel
theorem dX7_filled_44 : decode cX7_filled 44 = .ok (.iconst 1, 1) := by decide +kernel
theorem dX7_filled_45 : decode cX7_filled 45 = .ok (.isub, 1) := by decide +kernel
theorem dX7_filled_46 : decode cX7_filled 46 = .ok (.invokestatic 74, 3) := by decide +kernel
theorem dX7_filled_49 : decode cX7_filled 49 = .ok (.ifCond .eq 17, 3) := by decide +kernel
theorem dX7_filled_52 : decode cX7_filled 52 = .ok (.aload_n 0, 1) := by decide +kernel
theorem dX7_filled_53 : decode cX7_filled 53 = .ok (.getfield 41, 3) := by decide +kernel
theorem dX7_filled_56 : decode cX7_filled 56 = .ok (.getfield 164, 3) := by decide +kernel
theorem dX7_filled_59 : decode cX7_filled 59 = .ok (.iload_n 1, 1) := by decide +kernel
theorem dX7_filled_60 : decode cX7_filled 60 = .ok (.invokestatic 131, 3) := by decide +kernel
theorem dX7_filled_63 : decode cX7_filled 63 = .ok (.goto 5, 3) := by decide +kernel
theorem dX7_filled_66 : decode cX7_filled 66 = .ok (.bipush (-6), 2) := by decide +kernel
theorem dX7_filled_68 : decode cX7_filled 68 = .ok (.ireturn, 1) := by decide +kernel
set_option maxRecDepth 20000 in
theorem ggX7_could_X7_refusalOf : GoodIn wsX7_could wsX7_refusalOf := goodIn_r _ [8, 9, 10, 11, 12, 7, 13, 14, 15, 16, 17, 18, 19, 20, 21, 22, 23, 24, 25, 26, 27, 28, 29, 30, 31, 32, 33, 34, 35, 36, 37, 38, 39, 40, 41, 42, 43, 44, 45, 46, 47, 48, 49, 50, 51, 52, 53, 54, 165, 166, 167, 168, 169, 170, 171, 172, 173, 174, 187, 188, 189, 190, 191, 192, 193, 194, 195, 196] (by decide +kernel) (by decide +kernel)
set_option maxRecDepth 20000 in
theorem gX7_could_X7_refusalOf : GoodIn wsX7_could (wsV RX7 147 RX7 yX7_refusalOf wsX7_refusalOf) := goodIn_app (goodIn_of _ (by decide +kernel)) ggX7_could_X7_refusalOf
set_option maxRecDepth 20000 in
theorem ggX7_could_X6_ask : GoodIn wsX7_could wsX6_ask := goodIn_r _ [59, 60, 61, 175, 176, 177, 178, 179, 180, 181, 182, 183, 184, 185, 186] (by decide +kernel) (by decide +kernel)
set_option maxRecDepth 20000 in
theorem gX7_could_X6_ask : GoodIn wsX7_could (wsV RX7 151 RX6 yX6_ask wsX6_ask) := goodIn_app (goodIn_of _ (by decide +kernel)) ggX7_could_X6_ask
set_option maxRecDepth 20000 in
theorem ggX7_could_X6_tryAll : GoodIn wsX7_could wsX6_tryAll := goodIn_r _ [65, 66, 67, 68, 69, 70, 71, 7, 72, 73, 74, 75, 58, 76, 77, 78, 79, 80, 81, 82, 83, 84, 85, 86, 87, 88, 89, 90, 91, 92, 93, 94, 95, 96, 97, 98, 99, 100, 101, 102, 103, 104, 105, 106, 61, 60, 107, 108, 109, 110, 111, 112, 113, 114, 115, 116, 38, 39, 117, 118, 119, 120, 121, 122, 123, 124, 125, 126, 127, 128, 129, 130, 131, 132, 133, 134, 135, 136, 137, 138, 139, 140, 141, 142, 143, 144, 145, 146, 147, 148, 149, 150, 151, 152, 153, 154, 155, 156, 157, 158, 159, 160, 161, 162, 163, 164, 175, 176, 177, 178, 179, 180, 181, 182, 183, 184, 185, 186, 187, 188, 189, 190, 191, 192, 193, 194, 195, 196, 197, 198, 199, 200, 201, 202, 203, 204, 205, 206, 207] (by decide +kernel) (by decide +kernel)
set_option maxRecDepth 20000 in
theorem gX7_could_X6_tryAll : GoodIn wsX7_could (wsV RX7 158 RX6 yX6_tryAll wsX6_tryAll) := goodIn_app (goodIn_of _ (by decide +kernel)) ggX7_could_X6_tryAll
theorem dX7_could_0 : decode cX7_could 0 = .ok (.aload_n 0, 1) := by decide +kernel
theorem dX7_could_1 : decode cX7_could 1 = .ok (.iload_n 1, 1) := by decide +kernel
theorem dX7_could_2 : decode cX7_could 2 = .ok (.iload_n 2, 1) := by decide +kernel
theorem dX7_could_3 : decode cX7_could 3 = .ok (.invokevirtual 147, 3) := by decide +kernel
theorem dX7_could_6 : decode cX7_could 6 = .ok (.istore_n 3, 1) := by decide +kernel
theorem dX7_could_7 : decode cX7_could 7 = .ok (.iload_n 3, 1) := by decide +kernel
theorem dX7_could_8 : decode cX7_could 8 = .ok (.ifCond .eq 5, 3) := by decide +kernel
theorem dX7_could_11 : decode cX7_could 11 = .ok (.iload_n 3, 1) := by decide +kernel
theorem dX7_could_12 : decode cX7_could 12 = .ok (.ireturn, 1) := by decide +kernel
theorem dX7_could_13 : decode cX7_could 13 = .ok (.aload_n 0, 1) := by decide +kernel
theorem dX7_could_14 : decode cX7_could 14 = .ok (.getfield 41, 3) := by decide +kernel
theorem dX7_could_17 : decode cX7_could 17 = .ok (.iload_n 1, 1) := by decide +kernel
theorem dX7_could_18 : decode cX7_could 18 = .ok (.iload_n 2, 1) := by decide +kernel
theorem dX7_could_19 : decode cX7_could 19 = .ok (.invokevirtual 151, 3) := by decide +kernel
theorem dX7_could_22 : decode cX7_could 22 = .ok (.aload_n 0, 1) := by decide +kernel
theorem dX7_could_23 : decode cX7_could 23 = .ok (.getfield 41, 3) := by decide +kernel
theorem dX7_could_26 : decode cX7_could 26 = .ok (.invokevirtual 158, 3) := by decide +kernel
theorem dX7_could_29 : decode cX7_could 29 = .ok (.aload_n 0, 1) := by decide +kernel
theorem dX7_could_30 : decode cX7_could 30 = .ok (.getfield 41, 3) := by decide +kernel
theorem dX7_could_33 : decode cX7_could 33 = .ok (.getfield 161, 3) := by decide +kernel
theorem dX7_could_36 : decode cX7_could 36 = .ok (.ifCond .le 13, 3) := by decide +kernel
theorem dX7_could_39 : decode cX7_could 39 = .ok (.aload_n 0, 1) := by decide +kernel
theorem dX7_could_40 : decode cX7_could 40 = .ok (.getfield 41, 3) := by decide +kernel
theorem dX7_could_43 : decode cX7_could 43 = .ok (.getfield 167, 3) := by decide +kernel
theorem dX7_could_46 : decode cX7_could 46 = .ok (.goto 5, 3) := by decide +kernel
theorem dX7_could_49 : decode cX7_could 49 = .ok (.bipush (-3), 2) := by decide +kernel
theorem dX7_could_51 : decode cX7_could 51 = .ok (.ireturn, 1) := by decide +kernel
set_option maxRecDepth 20000 in
theorem ggX7_most_X7_areBits : GoodIn wsX7_most wsX7_areBits := goodIn_r _ [5, 6, 7, 4, 8] (by decide +kernel) (by decide +kernel)
set_option maxRecDepth 20000 in
theorem gX7_most_X7_areBits : GoodIn wsX7_most (va_wsS RX7 170 yX7_areBits wsX7_areBits) := goodIn_app (goodIn_of _ (by decide +kernel)) ggX7_most_X7_areBits
set_option maxRecDepth 20000 in
theorem ggX7_most_X1_open : GoodIn wsX7_most wsX1_open := goodIn_r _ [13, 14, 15, 16, 17, 18, 19, 4, 20, 21, 22, 23, 24, 76, 77, 78, 79, 80, 81, 82, 83, 84, 85, 86] (by decide +kernel) (by decide +kernel)
set_option maxRecDepth 20000 in
theorem gX7_most_X1_open : GoodIn wsX7_most (wsV RX7 174 RX1 yX1_open wsX1_open) := goodIn_app (goodIn_of _ (by decide +kernel)) ggX7_most_X1_open
set_option maxRecDepth 20000 in
theorem ggX7_most_X1_findMost : GoodIn wsX7_most wsX1_findMost := goodIn_r _ [28, 29, 30, 31, 32, 12, 33, 14, 34, 35, 36, 37, 21, 4, 22, 19, 20, 38, 39, 40, 41, 15, 42, 43, 44, 45, 46, 47, 48, 49, 50, 51, 52, 53, 54, 55, 56, 57, 58, 59, 60, 61, 17, 18, 76, 77, 78, 79, 80, 81, 82, 83, 84, 85, 86] (by decide +kernel) (by decide +kernel)
set_option maxRecDepth 20000 in
theorem gX7_most_X1_findMost : GoodIn wsX7_most (wsV RX7 177 RX1 yX1_findMost wsX1_findMost) := goodIn_app (goodIn_of _ (by decide +kernel)) ggX7_most_X1_findMost
set_option maxRecDepth 20000 in
theorem ggX7_most_X1_detail : GoodIn wsX7_most wsX1_detail := goodIn_r _ [65, 17, 15, 42, 43, 44, 45, 46, 47, 48, 4, 49, 50, 51, 76, 77, 78, 79, 80, 81, 82, 83, 84, 85, 86] (by decide +kernel) (by decide +kernel)
set_option maxRecDepth 20000 in
theorem gX7_most_X1_detail : GoodIn wsX7_most (wsV RX7 181 RX1 yX1_detail wsX1_detail) := goodIn_app (goodIn_of _ (by decide +kernel)) ggX7_most_X1_detail
theorem dX7_most_0 : decode cX7_most 0 = .ok (.iload_n 1, 1) := by decide +kernel
theorem dX7_most_1 : decode cX7_most 1 = .ok (.iload_n 2, 1) := by decide +kernel
theorem dX7_most_2 : decode cX7_most 2 = .ok (.invokestatic 170, 3) := by decide +kernel
theorem dX7_most_5 : decode cX7_most 5 = .ok (.ifCond .ne 6, 3) := by decide +kernel
theorem dX7_most_8 : decode cX7_most 8 = .ok (.bipush (-2), 2) := by decide +kernel
theorem dX7_most_10 : decode cX7_most 10 = .ok (.ireturn, 1) := by decide +kernel
theorem dX7_most_11 : decode cX7_most 11 = .ok (.aload_n 0, 1) := by decide +kernel
theorem dX7_most_12 : decode cX7_most 12 = .ok (.getfield 50, 3) := by decide +kernel
theorem dX7_most_15 : decode cX7_most 15 = .ok (.iload_n 1, 1) := by decide +kernel
theorem dX7_most_16 : decode cX7_most 16 = .ok (.iload_n 2, 1) := by decide +kernel
theorem dX7_most_17 : decode cX7_most 17 = .ok (.invokevirtual 174, 3) := by decide +kernel
theorem dX7_most_20 : decode cX7_most 20 = .ok (.aload_n 0, 1) := by decide +kernel
theorem dX7_most_21 : decode cX7_most 21 = .ok (.getfield 50, 3) := by decide +kernel
theorem dX7_most_24 : decode cX7_most 24 = .ok (.iload_n 2, 1) := by decide +kernel
theorem dX7_most_25 : decode cX7_most 25 = .ok (.invokevirtual 177, 3) := by decide +kernel
theorem dX7_most_28 : decode cX7_most 28 = .ok (.aload_n 0, 1) := by decide +kernel
theorem dX7_most_29 : decode cX7_most 29 = .ok (.getfield 50, 3) := by decide +kernel
theorem dX7_most_32 : decode cX7_most 32 = .ok (.iload_n 3, 1) := by decide +kernel
theorem dX7_most_33 : decode cX7_most 33 = .ok (.invokevirtual 181, 3) := by decide +kernel
theorem dX7_most_36 : decode cX7_most 36 = .ok (.ireturn, 1) := by decide +kernel
set_option maxRecDepth 20000 in
theorem ggX7_stable_X7_areBits : GoodIn wsX7_stable wsX7_areBits := goodIn_r _ [5, 6, 7, 4, 8] (by decide +kernel) (by decide +kernel)
set_option maxRecDepth 20000 in
theorem gX7_stable_X7_areBits : GoodIn wsX7_stable (va_wsS RX7 170 yX7_areBits wsX7_areBits) := goodIn_app (goodIn_of _ (by decide +kernel)) ggX7_stable_X7_areBits
set_option maxRecDepth 20000 in
theorem ggX7_stable_X1_open : GoodIn wsX7_stable wsX1_open := goodIn_r _ [13, 14, 15, 16, 17, 18, 19, 4, 20, 21, 22, 23, 24, 87, 88, 89, 90, 91, 92, 93, 94, 95, 96, 97] (by decide +kernel) (by decide +kernel)
set_option maxRecDepth 20000 in
theorem gX7_stable_X1_open : GoodIn wsX7_stable (wsV RX7 174 RX1 yX1_open wsX1_open) := goodIn_app (goodIn_of _ (by decide +kernel)) ggX7_stable_X1_open
set_option maxRecDepth 20000 in
theorem ggX7_stable_X1_findStable : GoodIn wsX7_stable wsX1_findStable := goodIn_r _ [28, 14, 29, 30, 4, 31, 32, 33, 34, 12, 35, 17, 36, 37, 38, 39, 21, 22, 19, 20, 40, 41, 42, 43, 15, 44, 45, 46, 47, 48, 49, 50, 51, 52, 53, 54, 55, 56, 57, 18, 58, 59, 60, 61, 62, 63, 64, 65, 66, 67, 68, 69, 70, 71, 72, 87, 88, 89, 90, 91, 92, 93, 94, 95, 96, 97] (by decide +kernel) (by decide +kernel)
set_option maxRecDepth 20000 in
theorem gX7_stable_X1_findStable : GoodIn wsX7_stable (wsV RX7 184 RX1 yX1_findStable wsX1_findStable) := goodIn_app (goodIn_of _ (by decide +kernel)) ggX7_stable_X1_findStable
set_option maxRecDepth 20000 in
theorem ggX7_stable_X1_detail : GoodIn wsX7_stable wsX1_detail := goodIn_r _ [76, 17, 15, 44, 45, 46, 47, 48, 49, 50, 4, 51, 52, 53, 87, 88, 89, 90, 91, 92, 93, 94, 95, 96, 97] (by decide +kernel) (by decide +kernel)
set_option maxRecDepth 20000 in
theorem gX7_stable_X1_detail : GoodIn wsX7_stable (wsV RX7 181 RX1 yX1_detail wsX1_detail) := goodIn_app (goodIn_of _ (by decide +kernel)) ggX7_stable_X1_detail
theorem dX7_stable_0 : decode cX7_stable 0 = .ok (.iload_n 1, 1) := by decide +kernel
theorem dX7_stable_1 : decode cX7_stable 1 = .ok (.iload_n 2, 1) := by decide +kernel
theorem dX7_stable_2 : decode cX7_stable 2 = .ok (.invokestatic 170, 3) := by decide +kernel
theorem dX7_stable_5 : decode cX7_stable 5 = .ok (.ifCond .ne 6, 3) := by decide +kernel
theorem dX7_stable_8 : decode cX7_stable 8 = .ok (.bipush (-2), 2) := by decide +kernel
theorem dX7_stable_10 : decode cX7_stable 10 = .ok (.ireturn, 1) := by decide +kernel
theorem dX7_stable_11 : decode cX7_stable 11 = .ok (.aload_n 0, 1) := by decide +kernel
theorem dX7_stable_12 : decode cX7_stable 12 = .ok (.getfield 50, 3) := by decide +kernel
theorem dX7_stable_15 : decode cX7_stable 15 = .ok (.iload_n 1, 1) := by decide +kernel
theorem dX7_stable_16 : decode cX7_stable 16 = .ok (.iload_n 2, 1) := by decide +kernel
theorem dX7_stable_17 : decode cX7_stable 17 = .ok (.invokevirtual 174, 3) := by decide +kernel
theorem dX7_stable_20 : decode cX7_stable 20 = .ok (.aload_n 0, 1) := by decide +kernel
theorem dX7_stable_21 : decode cX7_stable 21 = .ok (.getfield 50, 3) := by decide +kernel
theorem dX7_stable_24 : decode cX7_stable 24 = .ok (.invokevirtual 184, 3) := by decide +kernel
theorem dX7_stable_27 : decode cX7_stable 27 = .ok (.aload_n 0, 1) := by decide +kernel
theorem dX7_stable_28 : decode cX7_stable 28 = .ok (.getfield 50, 3) := by decide +kernel
theorem dX7_stable_31 : decode cX7_stable 31 = .ok (.iload_n 3, 1) := by decide +kernel
theorem dX7_stable_32 : decode cX7_stable 32 = .ok (.invokevirtual 181, 3) := by decide +kernel
theorem dX7_stable_35 : decode cX7_stable 35 = .ok (.ireturn, 1) := by decide +kernel
set_option maxRecDepth 20000 in
theorem ggX7_leave_X7_areBits : GoodIn wsX7_leave wsX7_areBits := goodIn_r _ [5, 6, 7, 4, 8] (by decide +kernel) (by decide +kernel)
set_option maxRecDepth 20000 in
theorem gX7_leave_X7_areBits : GoodIn wsX7_leave (va_wsS RX7 170 yX7_areBits wsX7_areBits) := goodIn_app (goodIn_of _ (by decide +kernel)) ggX7_leave_X7_areBits
set_option maxRecDepth 20000 in
theorem ggX7_leave_X7_isWithin : GoodIn wsX7_leave wsX7_isWithin := goodIn_r _ [8] (by decide +kernel) (by decide +kernel)
set_option maxRecDepth 20000 in
theorem gX7_leave_X7_isWithin : GoodIn wsX7_leave (va_wsS RX7 74 yX7_isWithin wsX7_isWithin) := goodIn_app (goodIn_of _ (by decide +kernel)) ggX7_leave_X7_isWithin
set_option maxRecDepth 20000 in
theorem ggX7_leave_X1_open : GoodIn wsX7_leave wsX1_open := goodIn_r _ [13, 14, 15, 16, 17, 18, 19, 4, 20, 21, 22, 23, 24, 73, 74, 75, 76, 77, 78, 79, 80, 81, 82, 83] (by decide +kernel) (by decide +kernel)
set_option maxRecDepth 20000 in
theorem gX7_leave_X1_open : GoodIn wsX7_leave (wsV RX7 174 RX1 yX1_open wsX1_open) := goodIn_app (goodIn_of _ (by decide +kernel)) ggX7_leave_X1_open
set_option maxRecDepth 20000 in
theorem ggX7_leave_X1_takes : GoodIn wsX7_leave wsX1_takes := goodIn_r _ [28, 29, 14, 18, 7, 4, 8, 30, 31, 19, 20, 32, 33, 34, 12, 35, 17, 36, 37, 73, 74, 75, 76, 77, 78] (by decide +kernel) (by decide +kernel)
set_option maxRecDepth 20000 in
theorem gX7_leave_X1_takes : GoodIn wsX7_leave (wsV RX7 187 RX1 yX1_takes wsX1_takes) := goodIn_app (goodIn_of _ (by decide +kernel)) ggX7_leave_X1_takes
set_option maxRecDepth 20000 in
theorem ggX7_leave_X1_firstPair : GoodIn wsX7_leave wsX1_firstPair := goodIn_r _ [41, 14, 17, 18, 19, 4, 20, 42, 43, 44, 12, 45, 15, 46, 47, 48, 49, 50, 51, 52, 53, 30, 31, 54, 55, 56, 57, 58, 59, 60, 61, 62, 21, 22, 73, 74, 75, 76, 77, 78, 79, 80, 81, 82, 83] (by decide +kernel) (by decide +kernel)
set_option maxRecDepth 20000 in
theorem gX7_leave_X1_firstPair : GoodIn wsX7_leave (wsV RX7 190 RX1 yX1_firstPair wsX1_firstPair) := goodIn_app (goodIn_of _ (by decide +kernel)) ggX7_leave_X1_firstPair
theorem dX7_leave_0 : decode cX7_leave 0 = .ok (.iload_n 1, 1) := by decide +kernel
theorem dX7_leave_1 : decode cX7_leave 1 = .ok (.iload_n 2, 1) := by decide +kernel
theorem dX7_leave_2 : decode cX7_leave 2 = .ok (.invokestatic 170, 3) := by decide +kernel
theorem dX7_leave_5 : decode cX7_leave 5 = .ok (.ifCond .eq 13, 3) := by decide +kernel
theorem dX7_leave_8 : decode cX7_leave 8 = .ok (.iload 4, 2) := by decide +kernel
theorem dX7_leave_10 : decode cX7_leave 10 = .ok (.iconst 0, 1) := by decide +kernel
theorem dX7_leave_11 : decode cX7_leave 11 = .ok (.iconst 1, 1) := by decide +kernel
theorem dX7_leave_12 : decode cX7_leave 12 = .ok (.invokestatic 74, 3) := by decide +kernel
theorem dX7_leave_15 : decode cX7_leave 15 = .ok (.ifCond .ne 6, 3) := by decide +kernel
theorem dX7_leave_18 : decode cX7_leave 18 = .ok (.bipush (-2), 2) := by decide +kernel
theorem dX7_leave_20 : decode cX7_leave 20 = .ok (.ireturn, 1) := by decide +kernel
theorem dX7_leave_21 : decode cX7_leave 21 = .ok (.aload_n 0, 1) := by decide +kernel
theorem dX7_leave_22 : decode cX7_leave 22 = .ok (.getfield 50, 3) := by decide +kernel
theorem dX7_leave_25 : decode cX7_leave 25 = .ok (.iload_n 1, 1) := by decide +kernel
theorem dX7_leave_26 : decode cX7_leave 26 = .ok (.iload_n 2, 1) := by decide +kernel
theorem dX7_leave_27 : decode cX7_leave 27 = .ok (.invokevirtual 174, 3) := by decide +kernel
theorem dX7_leave_30 : decode cX7_leave 30 = .ok (.aload_n 0, 1) := by decide +kernel
theorem dX7_leave_31 : decode cX7_leave 31 = .ok (.getfield 50, 3) := by decide +kernel
theorem dX7_leave_34 : decode cX7_leave 34 = .ok (.iload_n 3, 1) := by decide +kernel
theorem dX7_leave_35 : decode cX7_leave 35 = .ok (.invokevirtual 187, 3) := by decide +kernel
theorem dX7_leave_38 : decode cX7_leave 38 = .ok (.ifCond .ne 6, 3) := by decide +kernel
theorem dX7_leave_41 : decode cX7_leave 41 = .ok (.bipush (-3), 2) := by decide +kernel
theorem dX7_leave_43 : decode cX7_leave 43 = .ok (.ireturn, 1) := by decide +kernel
theorem dX7_leave_44 : decode cX7_leave 44 = .ok (.aload_n 0, 1) := by decide +kernel
theorem dX7_leave_45 : decode cX7_leave 45 = .ok (.getfield 50, 3) := by decide +kernel
theorem dX7_leave_48 : decode cX7_leave 48 = .ok (.invokevirtual 190, 3) := by decide +kernel
theorem dX7_leave_51 : decode cX7_leave 51 = .ok (.istore 5, 2) := by decide +kernel
theorem dX7_leave_53 : decode cX7_leave 53 = .ok (.iload 5, 2) := by decide +kernel
theorem dX7_leave_55 : decode cX7_leave 55 = .ok (.bipush (-6), 2) := by decide +kernel
theorem dX7_leave_57 : decode cX7_leave 57 = .ok (.if_icmp .ne 6, 3) := by decide +kernel
theorem dX7_leave_60 : decode cX7_leave 60 = .ok (.bipush (-6), 2) := by decide +kernel
theorem dX7_leave_62 : decode cX7_leave 62 = .ok (.ireturn, 1) := by decide +kernel
theorem dX7_leave_63 : decode cX7_leave 63 = .ok (.iload 4, 2) := by decide +kernel
theorem dX7_leave_65 : decode cX7_leave 65 = .ok (.ifCond .ne 10, 3) := by decide +kernel
theorem dX7_leave_68 : decode cX7_leave 68 = .ok (.iload 5, 2) := by decide +kernel
theorem dX7_leave_70 : decode cX7_leave 70 = .ok (.iconst 5, 1) := by decide +kernel
theorem dX7_leave_71 : decode cX7_leave 71 = .ok (.idiv, 1) := by decide +kernel
theorem dX7_leave_72 : decode cX7_leave 72 = .ok (.goto 7, 3) := by decide +kernel
theorem dX7_leave_75 : decode cX7_leave 75 = .ok (.iload 5, 2) := by decide +kernel
theorem dX7_leave_77 : decode cX7_leave 77 = .ok (.iconst 5, 1) := by decide +kernel
theorem dX7_leave_78 : decode cX7_leave 78 = .ok (.irem, 1) := by decide +kernel
theorem dX7_leave_79 : decode cX7_leave 79 = .ok (.ireturn, 1) := by decide +kernel
set_option maxRecDepth 20000 in
theorem ggX7_voyages_X7_isWithin : GoodIn wsX7_voyages wsX7_isWithin := goodIn_r _ [6] (by decide +kernel) (by decide +kernel)
set_option maxRecDepth 20000 in
theorem gX7_voyages_X7_isWithin : GoodIn wsX7_voyages (va_wsS RX7 74 yX7_isWithin wsX7_isWithin) := goodIn_app (goodIn_of _ (by decide +kernel)) ggX7_voyages_X7_isWithin
set_option maxRecDepth 20000 in
theorem ggX7_voyages_X0_leastDays : GoodIn wsX7_voyages wsX0_leastDays := goodIn_r _ [11, 12, 13, 14, 15, 16, 17, 18, 19, 20, 21, 5, 22, 23, 24, 25, 26, 10, 27, 28, 29, 30, 31, 32, 33, 45, 46, 47, 48, 49, 50, 51, 52] (by decide +kernel) (by decide +kernel)
set_option maxRecDepth 20000 in
theorem gX7_voyages_X0_leastDays : GoodIn wsX7_voyages (wsV RX7 193 RX0 yX0_leastDays wsX0_leastDays) := goodIn_app (goodIn_of _ (by decide +kernel)) ggX7_voyages_X0_leastDays
set_option maxRecDepth 20000 in
theorem ggX7_voyages_X7_at : GoodIn wsX7_voyages wsX7_at := goodIn_r _ [24] (by decide +kernel) (by decide +kernel)
set_option maxRecDepth 20000 in
theorem gX7_voyages_X7_at : GoodIn wsX7_voyages (va_wsS RX7 131 yX7_at wsX7_at) := goodIn_app (goodIn_of _ (by decide +kernel)) ggX7_voyages_X7_at
theorem dX7_voyages_0 : decode cX7_voyages 0 = .ok (.iload_n 1, 1) := by decide +kernel
theorem dX7_voyages_1 : decode cX7_voyages 1 = .ok (.iconst (-1), 1) := by decide +kernel
theorem dX7_voyages_2 : decode cX7_voyages 2 = .ok (.iconst 5, 1) := by decide +kernel
theorem dX7_voyages_3 : decode cX7_voyages 3 = .ok (.invokestatic 74, 3) := by decide +kernel
theorem dX7_voyages_6 : decode cX7_voyages 6 = .ok (.ifCond .ne 6, 3) := by decide +kernel
theorem dX7_voyages_9 : decode cX7_voyages 9 = .ok (.bipush (-2), 2) := by decide +kernel
theorem dX7_voyages_11 : decode cX7_voyages 11 = .ok (.ireturn, 1) := by decide +kernel
theorem dX7_voyages_12 : decode cX7_voyages 12 = .ok (.aload_n 0, 1) := by decide +kernel
theorem dX7_voyages_13 : decode cX7_voyages 13 = .ok (.getfield 57, 3) := by decide +kernel
theorem dX7_voyages_16 : decode cX7_voyages 16 = .ok (.bipush 31, 2) := by decide +kernel
theorem dX7_voyages_18 : decode cX7_voyages 18 = .ok (.invokevirtual 193, 3) := by decide +kernel
theorem dX7_voyages_21 : decode cX7_voyages 21 = .ok (.istore_n 2, 1) := by decide +kernel
theorem dX7_voyages_22 : decode cX7_voyages 22 = .ok (.iload_n 1, 1) := by decide +kernel
theorem dX7_voyages_23 : decode cX7_voyages 23 = .ok (.iconst (-1), 1) := by decide +kernel
theorem dX7_voyages_24 : decode cX7_voyages 24 = .ok (.if_icmp .ne 7, 3) := by decide +kernel
theorem dX7_voyages_27 : decode cX7_voyages 27 = .ok (.iload_n 2, 1) := by decide +kernel
theorem dX7_voyages_28 : decode cX7_voyages 28 = .ok (.goto 14, 3) := by decide +kernel
theorem dX7_voyages_31 : decode cX7_voyages 31 = .ok (.aload_n 0, 1) := by decide +kernel
theorem dX7_voyages_32 : decode cX7_voyages 32 = .ok (.getfield 57, 3) := by decide +kernel
theorem dX7_voyages_35 : decode cX7_voyages 35 = .ok (.getfield 196, 3) := by decide +kernel
theorem dX7_voyages_38 : decode cX7_voyages 38 = .ok (.iload_n 1, 1) := by decide +kernel
theorem dX7_voyages_39 : decode cX7_voyages 39 = .ok (.invokestatic 131, 3) := by decide +kernel
theorem dX7_voyages_42 : decode cX7_voyages 42 = .ok (.ireturn, 1) := by decide +kernel
set_option maxRecDepth 20000 in
theorem ggX7_letGo_X7_isWithin : GoodIn wsX7_letGo wsX7_isWithin := goodIn_r _ [5] (by decide +kernel) (by decide +kernel)
set_option maxRecDepth 20000 in
theorem gX7_letGo_X7_isWithin : GoodIn wsX7_letGo (va_wsS RX7 74 yX7_isWithin wsX7_isWithin) := goodIn_app (goodIn_of _ (by decide +kernel)) ggX7_letGo_X7_isWithin
set_option maxRecDepth 20000 in
theorem ggX7_letGo_X0_leastDays : GoodIn wsX7_letGo wsX0_leastDays := goodIn_r _ [10, 11, 12, 13, 14, 15, 16, 17, 18, 19, 20, 4, 21, 22, 23, 24, 25, 9, 26, 27, 28, 29, 30, 31, 32, 43, 44, 45, 46, 47, 48, 49, 50] (by decide +kernel) (by decide +kernel)
set_option maxRecDepth 20000 in
theorem gX7_letGo_X0_leastDays : GoodIn wsX7_letGo (wsV RX7 193 RX0 yX0_leastDays wsX0_leastDays) := goodIn_app (goodIn_of _ (by decide +kernel)) ggX7_letGo_X0_leastDays
theorem dX7_letGo_0 : decode cX7_letGo 0 = .ok (.iload_n 1, 1) := by decide +kernel
theorem dX7_letGo_1 : decode cX7_letGo 1 = .ok (.iconst 0, 1) := by decide +kernel
theorem dX7_letGo_2 : decode cX7_letGo 2 = .ok (.iconst 1, 1) := by decide +kernel
theorem dX7_letGo_3 : decode cX7_letGo 3 = .ok (.invokestatic 74, 3) := by decide +kernel
theorem dX7_letGo_6 : decode cX7_letGo 6 = .ok (.ifCond .ne 6, 3) := by decide +kernel
theorem dX7_letGo_9 : decode cX7_letGo 9 = .ok (.bipush (-2), 2) := by decide +kernel
theorem dX7_letGo_11 : decode cX7_letGo 11 = .ok (.ireturn, 1) := by decide +kernel
theorem dX7_letGo_12 : decode cX7_letGo 12 = .ok (.bipush (-6), 2) := by decide +kernel
theorem dX7_letGo_14 : decode cX7_letGo 14 = .ok (.istore_n 2, 1) := by decide +kernel
theorem dX7_letGo_15 : decode cX7_letGo 15 = .ok (.bipush (-6), 2) := by decide +kernel
theorem dX7_letGo_17 : decode cX7_letGo 17 = .ok (.istore_n 3, 1) := by decide +kernel
theorem dX7_letGo_18 : decode cX7_letGo 18 = .ok (.iconst 0, 1) := by decide +kernel
theorem dX7_letGo_19 : decode cX7_letGo 19 = .ok (.istore 4, 2) := by decide +kernel
theorem dX7_letGo_21 : decode cX7_letGo 21 = .ok (.iload 4, 2) := by decide +kernel
theorem dX7_letGo_23 : decode cX7_letGo 23 = .ok (.iconst 5, 1) := by decide +kernel
theorem dX7_letGo_24 : decode cX7_letGo 24 = .ok (.if_icmp .ge 52, 3) := by decide +kernel
theorem dX7_letGo_27 : decode cX7_letGo 27 = .ok (.aload_n 0, 1) := by decide +kernel
theorem dX7_letGo_28 : decode cX7_letGo 28 = .ok (.getfield 57, 3) := by decide +kernel
theorem dX7_letGo_31 : decode cX7_letGo 31 = .ok (.bipush 31, 2) := by decide +kernel
theorem dX7_letGo_33 : decode cX7_letGo 33 = .ok (.iconst 1, 1) := by decide +kernel
theorem dX7_letGo_34 : decode cX7_letGo 34 = .ok (.iload 4, 2) := by decide +kernel
theorem dX7_letGo_36 : decode cX7_letGo 36 = .ok (.ishl, 1) := by decide +kernel
theorem dX7_letGo_37 : decode cX7_letGo 37 = .ok (.iconst (-1), 1) := by decide +kernel
theorem dX7_letGo_38 : decode cX7_letGo 38 = .ok (.ixor, 1) := by decide +kernel
theorem dX7_letGo_39 : decode cX7_letGo 39 = .ok (.iand, 1) := by decide +kernel
theorem dX7_letGo_40 : decode cX7_letGo 40 = .ok (.invokevirtual 193, 3) := by decide +kernel
theorem dX7_letGo_43 : decode cX7_letGo 43 = .ok (.istore 5, 2) := by decide +kernel
theorem dX7_letGo_45 : decode cX7_letGo 45 = .ok (.iload 5, 2) := by decide +kernel
theorem dX7_letGo_47 : decode cX7_letGo 47 = .ok (.bipush (-6), 2) := by decide +kernel
theorem dX7_letGo_49 : decode cX7_letGo 49 = .ok (.if_icmp .eq 21, 3) := by decide +kernel
theorem dX7_letGo_52 : decode cX7_letGo 52 = .ok (.iload_n 2, 1) := by decide +kernel
theorem dX7_letGo_53 : decode cX7_letGo 53 = .ok (.bipush (-6), 2) := by decide +kernel
theorem dX7_letGo_55 : decode cX7_letGo 55 = .ok (.if_icmp .eq 9, 3) := by decide +kernel
theorem dX7_letGo_58 : decode cX7_letGo 58 = .ok (.iload 5, 2) := by decide +kernel
theorem dX7_letGo_60 : decode cX7_letGo 60 = .ok (.iload_n 3, 1) := by decide +kernel
theorem dX7_letGo_61 : decode cX7_letGo 61 = .ok (.if_icmp .ge 9, 3) := by decide +kernel
theorem dX7_letGo_64 : decode cX7_letGo 64 = .ok (.iload 4, 2) := by decide +kernel
theorem dX7_letGo_66 : decode cX7_letGo 66 = .ok (.istore_n 2, 1) := by decide +kernel
theorem dX7_letGo_67 : decode cX7_letGo 67 = .ok (.iload 5, 2) := by decide +kernel
theorem dX7_letGo_69 : decode cX7_letGo 69 = .ok (.istore_n 3, 1) := by decide +kernel
theorem dX7_letGo_70 : decode cX7_letGo 70 = .ok (.iinc 4 1, 3) := by decide +kernel
theorem dX7_letGo_73 : decode cX7_letGo 73 = .ok (.goto (-52), 3) := by decide +kernel
theorem dX7_letGo_76 : decode cX7_letGo 76 = .ok (.iload_n 1, 1) := by decide +kernel
theorem dX7_letGo_77 : decode cX7_letGo 77 = .ok (.ifCond .ne 7, 3) := by decide +kernel
theorem dX7_letGo_80 : decode cX7_letGo 80 = .ok (.iload_n 2, 1) := by decide +kernel
theorem dX7_letGo_81 : decode cX7_letGo 81 = .ok (.goto 4, 3) := by decide +kernel
theorem dX7_letGo_84 : decode cX7_letGo 84 = .ok (.iload_n 3, 1) := by decide +kernel
theorem dX7_letGo_85 : decode cX7_letGo 85 = .ok (.ireturn, 1) := by decide +kernel
set_option maxRecDepth 20000 in
theorem ggX7_home_X7_isName : GoodIn wsX7_home wsX7_isName := goodIn_r _ [6] (by decide +kernel) (by decide +kernel)
set_option maxRecDepth 20000 in
theorem gX7_home_X7_isName : GoodIn wsX7_home (va_wsS RX7 89 yX7_isName wsX7_isName) := goodIn_app (goodIn_of _ (by decide +kernel)) ggX7_home_X7_isName
set_option maxRecDepth 20000 in
theorem ggX7_home_X7_isWithin : GoodIn wsX7_home wsX7_isWithin := goodIn_r _ [9] (by decide +kernel) (by decide +kernel)
set_option maxRecDepth 20000 in
theorem gX7_home_X7_isWithin : GoodIn wsX7_home (va_wsS RX7 74 yX7_isWithin wsX7_isWithin) := goodIn_app (goodIn_of _ (by decide +kernel)) ggX7_home_X7_isWithin
set_option maxRecDepth 20000 in
theorem ggX7_home_X7_chanceHome : GoodIn wsX7_home wsX7_chanceHome := goodIn_r _ [13, 14, 15, 16, 17, 5, 18, 19, 20, 21, 22, 23, 24, 25, 26, 27, 28, 29, 30, 31, 32, 33, 34, 35, 36, 37, 38, 39] (by decide +kernel) (by decide +kernel)
set_option maxRecDepth 20000 in
theorem gX7_home_X7_chanceHome : GoodIn wsX7_home (wsV RX7 201 RX7 yX7_chanceHome wsX7_chanceHome) := goodIn_app (goodIn_of _ (by decide +kernel)) ggX7_home_X7_chanceHome
theorem dX7_home_0 : decode cX7_home 0 = .ok (.iload_n 1, 1) := by decide +kernel
theorem dX7_home_1 : decode cX7_home 1 = .ok (.invokestatic 89, 3) := by decide +kernel
theorem dX7_home_4 : decode cX7_home 4 = .ok (.ifCond .ne 7, 3) := by decide +kernel
theorem dX7_home_7 : decode cX7_home 7 = .ok (.ldc2_w 197, 3) := by decide +kernel
theorem dX7_home_10 : decode cX7_home 10 = .ok (.lreturn, 1) := by decide +kernel
theorem dX7_home_11 : decode cX7_home 11 = .ok (.iload_n 2, 1) := by decide +kernel
theorem dX7_home_12 : decode cX7_home 12 = .ok (.iconst 1, 1) := by decide +kernel
theorem dX7_home_13 : decode cX7_home 13 = .ok (.bipush 7, 2) := by decide +kernel
theorem dX7_home_15 : decode cX7_home 15 = .ok (.invokestatic 74, 3) := by decide +kernel
theorem dX7_home_18 : decode cX7_home 18 = .ok (.ifCond .eq 12, 3) := by decide +kernel
theorem dX7_home_21 : decode cX7_home 21 = .ok (.iload_n 3, 1) := by decide +kernel
theorem dX7_home_22 : decode cX7_home 22 = .ok (.iconst 0, 1) := by decide +kernel
theorem dX7_home_23 : decode cX7_home 23 = .ok (.iconst 1, 1) := by decide +kernel
theorem dX7_home_24 : decode cX7_home 24 = .ok (.invokestatic 74, 3) := by decide +kernel
theorem dX7_home_27 : decode cX7_home 27 = .ok (.ifCond .ne 7, 3) := by decide +kernel
theorem dX7_home_30 : decode cX7_home 30 = .ok (.ldc2_w 199, 3) := by decide +kernel
theorem dX7_home_33 : decode cX7_home 33 = .ok (.lreturn, 1) := by decide +kernel
theorem dX7_home_34 : decode cX7_home 34 = .ok (.aload_n 0, 1) := by decide +kernel
theorem dX7_home_35 : decode cX7_home 35 = .ok (.iload_n 1, 1) := by decide +kernel
theorem dX7_home_36 : decode cX7_home 36 = .ok (.iload_n 2, 1) := by decide +kernel
theorem dX7_home_37 : decode cX7_home 37 = .ok (.iload_n 3, 1) := by decide +kernel
theorem dX7_home_38 : decode cX7_home 38 = .ok (.invokevirtual 201, 3) := by decide +kernel
theorem dX7_home_41 : decode cX7_home 41 = .ok (.lreturn, 1) := by decide +kernel
set_option maxRecDepth 20000 in
theorem ggX7_asks_X7_isName : GoodIn wsX7_asks wsX7_isName := goodIn_r _ [4] (by decide +kernel) (by decide +kernel)
set_option maxRecDepth 20000 in
theorem gX7_asks_X7_isName : GoodIn wsX7_asks (va_wsS RX7 89 yX7_isName wsX7_isName) := goodIn_app (goodIn_of _ (by decide +kernel)) ggX7_asks_X7_isName
set_option maxRecDepth 20000 in
theorem ggX7_asks_X7_isWithin : GoodIn wsX7_asks wsX7_isWithin := goodIn_r _ [7] (by decide +kernel) (by decide +kernel)
set_option maxRecDepth 20000 in
theorem gX7_asks_X7_isWithin : GoodIn wsX7_asks (va_wsS RX7 74 yX7_isWithin wsX7_isWithin) := goodIn_app (goodIn_of _ (by decide +kernel)) ggX7_asks_X7_isWithin
set_option maxRecDepth 20000 in
theorem ggX7_asks_X7_chanceHome : GoodIn wsX7_asks wsX7_chanceHome := goodIn_r _ [11, 12, 13, 14, 15, 3, 16, 17, 18, 19, 20, 21, 22, 26, 27, 28, 29, 30, 31, 32, 33, 34, 35, 36, 37, 38, 39, 40] (by decide +kernel) (by decide +kernel)
set_option maxRecDepth 20000 in
theorem gX7_asks_X7_chanceHome : GoodIn wsX7_asks (wsV RX7 201 RX7 yX7_chanceHome wsX7_chanceHome) := goodIn_app (goodIn_of _ (by decide +kernel)) ggX7_asks_X7_chanceHome
set_option maxRecDepth 20000 in
theorem ggX7_asks_X7_cutUp : GoodIn wsX7_asks wsX7_cutUp := goodIn_r _ [25] (by decide +kernel) (by decide +kernel)
set_option maxRecDepth 20000 in
theorem gX7_asks_X7_cutUp : GoodIn wsX7_asks (va_wsS RX7 205 yX7_cutUp wsX7_cutUp) := goodIn_app (goodIn_of _ (by decide +kernel)) ggX7_asks_X7_cutUp
theorem dX7_asks_0 : decode cX7_asks 0 = .ok (.iload_n 1, 1) := by decide +kernel
theorem dX7_asks_1 : decode cX7_asks 1 = .ok (.invokestatic 89, 3) := by decide +kernel
theorem dX7_asks_4 : decode cX7_asks 4 = .ok (.ifCond .ne 5, 3) := by decide +kernel
theorem dX7_asks_7 : decode cX7_asks 7 = .ok (.iconst (-1), 1) := by decide +kernel
theorem dX7_asks_8 : decode cX7_asks 8 = .ok (.ireturn, 1) := by decide +kernel
theorem dX7_asks_9 : decode cX7_asks 9 = .ok (.iload_n 2, 1) := by decide +kernel
theorem dX7_asks_10 : decode cX7_asks 10 = .ok (.iconst 1, 1) := by decide +kernel
theorem dX7_asks_11 : decode cX7_asks 11 = .ok (.bipush 7, 2) := by decide +kernel
theorem dX7_asks_13 : decode cX7_asks 13 = .ok (.invokestatic 74, 3) := by decide +kernel
theorem dX7_asks_16 : decode cX7_asks 16 = .ok (.ifCond .eq 14, 3) := by decide +kernel
theorem dX7_asks_19 : decode cX7_asks 19 = .ok (.iload_n 3, 1) := by decide +kernel
theorem dX7_asks_20 : decode cX7_asks 20 = .ok (.iconst 0, 1) := by decide +kernel
theorem dX7_asks_21 : decode cX7_asks 21 = .ok (.sipush 999, 3) := by decide +kernel
theorem dX7_asks_24 : decode cX7_asks 24 = .ok (.invokestatic 74, 3) := by decide +kernel
theorem dX7_asks_27 : decode cX7_asks 27 = .ok (.ifCond .ne 6, 3) := by decide +kernel
theorem dX7_asks_30 : decode cX7_asks 30 = .ok (.bipush (-2), 2) := by decide +kernel
theorem dX7_asks_32 : decode cX7_asks 32 = .ok (.ireturn, 1) := by decide +kernel
theorem dX7_asks_33 : decode cX7_asks 33 = .ok (.aload_n 0, 1) := by decide +kernel
theorem dX7_asks_34 : decode cX7_asks 34 = .ok (.iload_n 1, 1) := by decide +kernel
theorem dX7_asks_35 : decode cX7_asks 35 = .ok (.iload_n 2, 1) := by decide +kernel
theorem dX7_asks_36 : decode cX7_asks 36 = .ok (.iconst 1, 1) := by decide +kernel
theorem dX7_asks_37 : decode cX7_asks 37 = .ok (.invokevirtual 201, 3) := by decide +kernel
theorem dX7_asks_40 : decode cX7_asks 40 = .ok (.lstore 4, 2) := by decide +kernel
theorem dX7_asks_42 : decode cX7_asks 42 = .ok (.lload 4, 2) := by decide +kernel
theorem dX7_asks_44 : decode cX7_asks 44 = .ok (.aload_n 0, 1) := by decide +kernel
theorem dX7_asks_45 : decode cX7_asks 45 = .ok (.iload_n 1, 1) := by decide +kernel
theorem dX7_asks_46 : decode cX7_asks 46 = .ok (.iload_n 2, 1) := by decide +kernel
theorem dX7_asks_47 : decode cX7_asks 47 = .ok (.iconst 0, 1) := by decide +kernel
theorem dX7_asks_48 : decode cX7_asks 48 = .ok (.invokevirtual 201, 3) := by decide +kernel
theorem dX7_asks_51 : decode cX7_asks 51 = .ok (.lsub, 1) := by decide +kernel
theorem dX7_asks_52 : decode cX7_asks 52 = .ok (.lstore 6, 2) := by decide +kernel
theorem dX7_asks_54 : decode cX7_asks 54 = .ok (.iload_n 3, 1) := by decide +kernel
theorem dX7_asks_55 : decode cX7_asks 55 = .ok (.i2l, 1) := by decide +kernel
theorem dX7_asks_56 : decode cX7_asks 56 = .ok (.lload 6, 2) := by decide +kernel
theorem dX7_asks_58 : decode cX7_asks 58 = .ok (.lmul, 1) := by decide +kernel
theorem dX7_asks_59 : decode cX7_asks 59 = .ok (.lload 4, 2) := by decide +kernel
theorem dX7_asks_61 : decode cX7_asks 61 = .ok (.invokestatic 205, 3) := by decide +kernel
theorem dX7_asks_64 : decode cX7_asks 64 = .ok (.l2i, 1) := by decide +kernel
theorem dX7_asks_65 : decode cX7_asks 65 = .ok (.ireturn, 1) := by decide +kernel
set_option maxRecDepth 20000 in
theorem ggX7_winter_X7_isWithin : GoodIn wsX7_winter wsX7_isWithin := goodIn_r _ [6] (by decide +kernel) (by decide +kernel)
set_option maxRecDepth 20000 in
theorem gX7_winter_X7_isWithin : GoodIn wsX7_winter (va_wsS RX7 74 yX7_isWithin wsX7_isWithin) := goodIn_app (goodIn_of _ (by decide +kernel)) ggX7_winter_X7_isWithin
set_option maxRecDepth 20000 in
theorem ggX7_winter_X5_pass : GoodIn wsX7_winter wsX5_pass := goodIn_r _ [11, 12, 13, 14, 15, 16, 17, 18, 19, 20, 21, 22, 23, 24, 5, 25, 26, 27, 28, 29, 30, 31, 32, 33, 34, 35, 36, 10, 37, 38, 39, 40, 41, 42, 43, 44, 45, 46, 47, 48, 49, 50, 51, 52, 53, 54, 55, 56, 57, 58, 59, 60, 61, 62, 63, 64, 65, 66, 67, 68, 69, 70, 71, 94, 95, 96, 97, 98, 99, 100, 101, 102, 103, 104, 105, 106] (by decide +kernel) (by decide +kernel)
set_option maxRecDepth 20000 in
theorem gX7_winter_X5_pass : GoodIn wsX7_winter (wsV RX7 209 RX5 yX5_pass wsX5_pass) := goodIn_app (goodIn_of _ (by decide +kernel)) ggX7_winter_X5_pass
set_option maxRecDepth 20000 in
theorem ggX7_winter_X4_drownedHulls : GoodIn wsX7_winter wsX4_drownedHulls := goodIn_r _ [75, 18, 96, 97, 98, 99, 100, 101] (by decide +kernel) (by decide +kernel)
set_option maxRecDepth 20000 in
theorem gX7_winter_X4_drownedHulls : GoodIn wsX7_winter (wsV RX7 212 RX4 yX4_drownedHulls wsX4_drownedHulls) := goodIn_app (goodIn_of _ (by decide +kernel)) ggX7_winter_X4_drownedHulls
set_option maxRecDepth 20000 in
theorem ggX7_winter_X4_drownedNames : GoodIn wsX7_winter wsX4_drownedNames := goodIn_r _ [79, 19, 96, 97, 98, 99, 100, 101] (by decide +kernel) (by decide +kernel)
set_option maxRecDepth 20000 in
theorem gX7_winter_X4_drownedNames : GoodIn wsX7_winter (wsV RX7 215 RX4 yX4_drownedNames wsX4_drownedNames) := goodIn_app (goodIn_of _ (by decide +kernel)) ggX7_winter_X4_drownedNames
set_option maxRecDepth 20000 in
theorem ggX7_winter_X4_allHomes : GoodIn wsX7_winter wsX4_allHomes := goodIn_r _ [83, 20, 96, 97, 98, 99, 100, 101] (by decide +kernel) (by decide +kernel)
set_option maxRecDepth 20000 in
theorem gX7_winter_X4_allHomes : GoodIn wsX7_winter (wsV RX7 218 RX4 yX4_allHomes wsX4_allHomes) := goodIn_app (goodIn_of _ (by decide +kernel)) ggX7_winter_X4_allHomes
theorem dX7_winter_0 : decode cX7_winter 0 = .ok (.iload_n 1, 1) := by decide +kernel
theorem dX7_winter_1 : decode cX7_winter 1 = .ok (.iconst 0, 1) := by decide +kernel
theorem dX7_winter_2 : decode cX7_winter 2 = .ok (.sipush 9999, 3) := by decide +kernel
theorem dX7_winter_5 : decode cX7_winter 5 = .ok (.invokestatic 74, 3) := by decide +kernel
theorem dX7_winter_8 : decode cX7_winter 8 = .ok (.ifCond .eq 22, 3) := by decide +kernel
theorem dX7_winter_11 : decode cX7_winter 11 = .ok (.iload_n 2, 1) := by decide +kernel
theorem dX7_winter_12 : decode cX7_winter 12 = .ok (.iconst 1, 1) := by decide +kernel
theorem dX7_winter_13 : decode cX7_winter 13 = .ok (.bipush 60, 2) := by decide +kernel
theorem dX7_winter_15 : decode cX7_winter 15 = .ok (.invokestatic 74, 3) := by decide +kernel
theorem dX7_winter_18 : decode cX7_winter 18 = .ok (.ifCond .eq 12, 3) := by decide +kernel
theorem dX7_winter_21 : decode cX7_winter 21 = .ok (.iload_n 3, 1) := by decide +kernel
theorem dX7_winter_22 : decode cX7_winter 22 = .ok (.iconst 0, 1) := by decide +kernel
theorem dX7_winter_23 : decode cX7_winter 23 = .ok (.iconst 2, 1) := by decide +kernel
theorem dX7_winter_24 : decode cX7_winter 24 = .ok (.invokestatic 74, 3) := by decide +kernel
theorem dX7_winter_27 : decode cX7_winter 27 = .ok (.ifCond .ne 6, 3) := by decide +kernel
theorem dX7_winter_30 : decode cX7_winter 30 = .ok (.bipush (-2), 2) := by decide +kernel
theorem dX7_winter_32 : decode cX7_winter 32 = .ok (.ireturn, 1) := by decide +kernel
theorem dX7_winter_33 : decode cX7_winter 33 = .ok (.aload_n 0, 1) := by decide +kernel
theorem dX7_winter_34 : decode cX7_winter 34 = .ok (.getfield 66, 3) := by decide +kernel
theorem dX7_winter_37 : decode cX7_winter 37 = .ok (.iload_n 1, 1) := by decide +kernel
theorem dX7_winter_38 : decode cX7_winter 38 = .ok (.iload_n 2, 1) := by decide +kernel
theorem dX7_winter_39 : decode cX7_winter 39 = .ok (.invokevirtual 209, 3) := by decide +kernel
theorem dX7_winter_42 : decode cX7_winter 42 = .ok (.iload_n 3, 1) := by decide +kernel
theorem dX7_winter_43 : decode cX7_winter 43 = .ok (.lookupswitch 41 #[(0, 25), (1, 33)], 25) := by decide +kernel
theorem dX7_winter_68 : decode cX7_winter 68 = .ok (.aload_n 0, 1) := by decide +kernel
theorem dX7_winter_69 : decode cX7_winter 69 = .ok (.getfield 32, 3) := by decide +kernel
theorem dX7_winter_72 : decode cX7_winter 72 = .ok (.invokevirtual 212, 3) := by decide +kernel
theorem dX7_winter_75 : decode cX7_winter 75 = .ok (.ireturn, 1) := by decide +kernel
theorem dX7_winter_76 : decode cX7_winter 76 = .ok (.aload_n 0, 1) := by decide +kernel
theorem dX7_winter_77 : decode cX7_winter 77 = .ok (.getfield 32, 3) := by decide +kernel
theorem dX7_winter_80 : decode cX7_winter 80 = .ok (.invokevirtual 215, 3) := by decide +kernel
theorem dX7_winter_83 : decode cX7_winter 83 = .ok (.ireturn, 1) := by decide +kernel
theorem dX7_winter_84 : decode cX7_winter 84 = .ok (.aload_n 0, 1) := by decide +kernel
theorem dX7_winter_85 : decode cX7_winter 85 = .ok (.getfield 32, 3) := by decide +kernel
theorem dX7_winter_88 : decode cX7_winter 88 = .ok (.invokevirtual 218, 3) := by decide +kernel
theorem dX7_winter_91 : decode cX7_winter 91 = .ok (.ireturn, 1) := by decide +kernel
set_option maxRecDepth 20000 in
theorem ggX7_image_X7_isWithin : GoodIn wsX7_image wsX7_isWithin := goodIn_r _ [6] (by decide +kernel) (by decide +kernel)
set_option maxRecDepth 20000 in
theorem gX7_image_X7_isWithin : GoodIn wsX7_image (va_wsS RX7 74 yX7_isWithin wsX7_isWithin) := goodIn_app (goodIn_of _ (by decide +kernel)) ggX7_image_X7_isWithin
set_option maxRecDepth 20000 in
theorem ggX7_image_X7_imageOf : GoodIn wsX7_image wsX7_imageOf := goodIn_r _ [10, 11, 12, 25, 26, 27, 28, 29, 30, 31, 32, 33, 34] (by decide +kernel) (by decide +kernel)
set_option maxRecDepth 20000 in
theorem gX7_image_X7_imageOf : GoodIn wsX7_image (wsV RX7 221 RX7 yX7_imageOf wsX7_imageOf) := goodIn_app (goodIn_of _ (by decide +kernel)) ggX7_image_X7_imageOf
set_option maxRecDepth 20000 in
theorem ggX7_image_X3_copy : GoodIn wsX7_image wsX3_copy := goodIn_r _ [17, 18, 19, 20, 21, 22, 23, 5, 24, 35, 36, 37, 38, 39] (by decide +kernel) (by decide +kernel)
set_option maxRecDepth 20000 in
theorem gX7_image_X3_copy : GoodIn wsX7_image (wsV RX7 225 RX3 yX3_copy wsX3_copy) := goodIn_app (goodIn_of _ (by decide +kernel)) ggX7_image_X3_copy
theorem dX7_image_0 : decode cX7_image 0 = .ok (.iload_n 1, 1) := by decide +kernel
theorem dX7_image_1 : decode cX7_image 1 = .ok (.iconst 0, 1) := by decide +kernel
theorem dX7_image_2 : decode cX7_image 2 = .ok (.iconst 1, 1) := by decide +kernel
theorem dX7_image_3 : decode cX7_image 3 = .ok (.invokestatic 74, 3) := by decide +kernel
theorem dX7_image_6 : decode cX7_image 6 = .ok (.ifCond .ne 6, 3) := by decide +kernel
theorem dX7_image_9 : decode cX7_image 9 = .ok (.bipush (-2), 2) := by decide +kernel
theorem dX7_image_11 : decode cX7_image 11 = .ok (.ireturn, 1) := by decide +kernel
theorem dX7_image_12 : decode cX7_image 12 = .ok (.aload_n 0, 1) := by decide +kernel
theorem dX7_image_13 : decode cX7_image 13 = .ok (.iload_n 1, 1) := by decide +kernel
theorem dX7_image_14 : decode cX7_image 14 = .ok (.invokevirtual 221, 3) := by decide +kernel
theorem dX7_image_17 : decode cX7_image 17 = .ok (.aload_n 0, 1) := by decide +kernel
theorem dX7_image_18 : decode cX7_image 18 = .ok (.getfield 12, 3) := by decide +kernel
theorem dX7_image_21 : decode cX7_image 21 = .ok (.invokevirtual 225, 3) := by decide +kernel
theorem dX7_image_24 : decode cX7_image 24 = .ok (.aload_n 0, 1) := by decide +kernel
theorem dX7_image_25 : decode cX7_image 25 = .ok (.dup, 1) := by decide +kernel
theorem dX7_image_26 : decode cX7_image 26 = .ok (.getfield 228, 3) := by decide +kernel
theorem dX7_image_29 : decode cX7_image 29 = .ok (.iconst 1, 1) := by decide +kernel
theorem dX7_image_30 : decode cX7_image 30 = .ok (.iload_n 1, 1) := by decide +kernel
theorem dX7_image_31 : decode cX7_image 31 = .ok (.ishl, 1) := by decide +kernel
theorem dX7_image_32 : decode cX7_image 32 = .ok (.ior, 1) := by decide +kernel
theorem dX7_image_33 : decode cX7_image 33 = .ok (.putfield 228, 3) := by decide +kernel
theorem dX7_image_36 : decode cX7_image 36 = .ok (.iconst 1, 1) := by decide +kernel
theorem dX7_image_37 : decode cX7_image 37 = .ok (.ireturn, 1) := by decide +kernel
set_option maxRecDepth 20000 in
theorem ggX7_restore_X7_isWithin : GoodIn wsX7_restore wsX7_isWithin := goodIn_r _ [6] (by decide +kernel) (by decide +kernel)
set_option maxRecDepth 20000 in
theorem gX7_restore_X7_isWithin : GoodIn wsX7_restore (va_wsS RX7 74 yX7_isWithin wsX7_isWithin) := goodIn_app (goodIn_of _ (by decide +kernel)) ggX7_restore_X7_isWithin
set_option maxRecDepth 20000 in
theorem ggX7_restore_X7_hasBit : GoodIn wsX7_restore wsX7_hasBit := goodIn_r _ [9] (by decide +kernel) (by decide +kernel)
set_option maxRecDepth 20000 in
theorem gX7_restore_X7_hasBit : GoodIn wsX7_restore (va_wsS RX7 231 yX7_hasBit wsX7_hasBit) := goodIn_app (goodIn_of _ (by decide +kernel)) ggX7_restore_X7_hasBit
set_option maxRecDepth 20000 in
theorem ggX7_restore_X7_imageOf : GoodIn wsX7_restore wsX7_imageOf := goodIn_r _ [13, 14, 15, 28, 29, 30, 31, 32, 33, 34, 35, 36, 37] (by decide +kernel) (by decide +kernel)
set_option maxRecDepth 20000 in
theorem gX7_restore_X7_imageOf : GoodIn wsX7_restore (wsV RX7 221 RX7 yX7_imageOf wsX7_imageOf) := goodIn_app (goodIn_of _ (by decide +kernel)) ggX7_restore_X7_imageOf
set_option maxRecDepth 20000 in
theorem ggX7_restore_X3_copy : GoodIn wsX7_restore wsX3_copy := goodIn_r _ [20, 21, 22, 23, 24, 25, 26, 5, 27, 38, 39, 40, 41, 42] (by decide +kernel) (by decide +kernel)
set_option maxRecDepth 20000 in
theorem gX7_restore_X3_copy : GoodIn wsX7_restore (wsV RX7 225 RX3 yX3_copy wsX3_copy) := goodIn_app (goodIn_of _ (by decide +kernel)) ggX7_restore_X3_copy
theorem dX7_restore_0 : decode cX7_restore 0 = .ok (.iload_n 1, 1) := by decide +kernel
theorem dX7_restore_1 : decode cX7_restore 1 = .ok (.iconst 0, 1) := by decide +kernel
theorem dX7_restore_2 : decode cX7_restore 2 = .ok (.iconst 1, 1) := by decide +kernel
theorem dX7_restore_3 : decode cX7_restore 3 = .ok (.invokestatic 74, 3) := by decide +kernel
theorem dX7_restore_6 : decode cX7_restore 6 = .ok (.ifCond .ne 6, 3) := by decide +kernel
theorem dX7_restore_9 : decode cX7_restore 9 = .ok (.bipush (-2), 2) := by decide +kernel
theorem dX7_restore_11 : decode cX7_restore 11 = .ok (.ireturn, 1) := by decide +kernel
theorem dX7_restore_12 : decode cX7_restore 12 = .ok (.aload_n 0, 1) := by decide +kernel
theorem dX7_restore_13 : decode cX7_restore 13 = .ok (.getfield 228, 3) := by decide +kernel
theorem dX7_restore_16 : decode cX7_restore 16 = .ok (.iload_n 1, 1) := by decide +kernel
theorem dX7_restore_17 : decode cX7_restore 17 = .ok (.invokestatic 231, 3) := by decide +kernel
theorem dX7_restore_20 : decode cX7_restore 20 = .ok (.ifCond .ne 6, 3) := by decide +kernel
theorem dX7_restore_23 : decode cX7_restore 23 = .ok (.bipush (-3), 2) := by decide +kernel
theorem dX7_restore_25 : decode cX7_restore 25 = .ok (.ireturn, 1) := by decide +kernel
theorem dX7_restore_26 : decode cX7_restore 26 = .ok (.aload_n 0, 1) := by decide +kernel
theorem dX7_restore_27 : decode cX7_restore 27 = .ok (.getfield 12, 3) := by decide +kernel
theorem dX7_restore_30 : decode cX7_restore 30 = .ok (.aload_n 0, 1) := by decide +kernel
theorem dX7_restore_31 : decode cX7_restore 31 = .ok (.iload_n 1, 1) := by decide +kernel
theorem dX7_restore_32 : decode cX7_restore 32 = .ok (.invokevirtual 221, 3) := by decide +kernel
theorem dX7_restore_35 : decode cX7_restore 35 = .ok (.invokevirtual 225, 3) := by decide +kernel
theorem dX7_restore_38 : decode cX7_restore 38 = .ok (.iconst 1, 1) := by decide +kernel
theorem dX7_restore_39 : decode cX7_restore 39 = .ok (.ireturn, 1) := by decide +kernel
set_option maxRecDepth 20000 in
theorem ggX7_told_X7_isWithin : GoodIn wsX7_told wsX7_isWithin := goodIn_r _ [12] (by decide +kernel) (by decide +kernel)
set_option maxRecDepth 20000 in
theorem gX7_told_X7_isWithin : GoodIn wsX7_told (va_wsS RX7 74 yX7_isWithin wsX7_isWithin) := goodIn_app (goodIn_of _ (by decide +kernel)) ggX7_told_X7_isWithin
set_option maxRecDepth 20000 in
theorem ggX7_told_X7_at : GoodIn wsX7_told wsX7_at := goodIn_r _ [15] (by decide +kernel) (by decide +kernel)
set_option maxRecDepth 20000 in
theorem gX7_told_X7_at : GoodIn wsX7_told (va_wsS RX7 131 yX7_at wsX7_at) := goodIn_app (goodIn_of _ (by decide +kernel)) ggX7_told_X7_at
theorem dX7_told_0 : decode cX7_told 0 = .ok (.iload_n 1, 1) := by decide +kernel
theorem dX7_told_1 : decode cX7_told 1 = .ok (.ifCond .ne 11, 3) := by decide +kernel
theorem dX7_told_4 : decode cX7_told 4 = .ok (.aload_n 0, 1) := by decide +kernel
theorem dX7_told_5 : decode cX7_told 5 = .ok (.getfield 25, 3) := by decide +kernel
theorem dX7_told_8 : decode cX7_told 8 = .ok (.getfield 108, 3) := by decide +kernel
theorem dX7_told_11 : decode cX7_told 11 = .ok (.ireturn, 1) := by decide +kernel
theorem dX7_told_12 : decode cX7_told 12 = .ok (.iload_n 1, 1) := by decide +kernel
theorem dX7_told_13 : decode cX7_told 13 = .ok (.bipush 10, 2) := by decide +kernel
theorem dX7_told_15 : decode cX7_told 15 = .ok (.bipush 15, 2) := by decide +kernel
theorem dX7_told_17 : decode cX7_told 17 = .ok (.invokestatic 74, 3) := by decide +kernel
theorem dX7_told_20 : decode cX7_told 20 = .ok (.ifCond .eq 18, 3) := by decide +kernel
theorem dX7_told_23 : decode cX7_told 23 = .ok (.aload_n 0, 1) := by decide +kernel
theorem dX7_told_24 : decode cX7_told 24 = .ok (.getfield 12, 3) := by decide +kernel
theorem dX7_told_27 : decode cX7_told 27 = .ok (.getfield 78, 3) := by decide +kernel
theorem dX7_told_30 : decode cX7_told 30 = .ok (.iload_n 1, 1) := by decide +kernel
theorem dX7_told_31 : decode cX7_told 31 = .ok (.bipush 10, 2) := by decide +kernel
theorem dX7_told_33 : decode cX7_told 33 = .ok (.isub, 1) := by decide +kernel
theorem dX7_told_34 : decode cX7_told 34 = .ok (.invokestatic 131, 3) := by decide +kernel
theorem dX7_told_37 : decode cX7_told 37 = .ok (.ireturn, 1) := by decide +kernel
theorem dX7_told_38 : decode cX7_told 38 = .ok (.iload_n 1, 1) := by decide +kernel
theorem dX7_told_39 : decode cX7_told 39 = .ok (.bipush 20, 2) := by decide +kernel
theorem dX7_told_41 : decode cX7_told 41 = .ok (.bipush 25, 2) := by decide +kernel
theorem dX7_told_43 : decode cX7_told 43 = .ok (.invokestatic 74, 3) := by decide +kernel
theorem dX7_told_46 : decode cX7_told 46 = .ok (.ifCond .eq 18, 3) := by decide +kernel
theorem dX7_told_49 : decode cX7_told 49 = .ok (.aload_n 0, 1) := by decide +kernel
theorem dX7_told_50 : decode cX7_told 50 = .ok (.getfield 12, 3) := by decide +kernel
theorem dX7_told_53 : decode cX7_told 53 = .ok (.getfield 86, 3) := by decide +kernel
theorem dX7_told_56 : decode cX7_told 56 = .ok (.iload_n 1, 1) := by decide +kernel
theorem dX7_told_57 : decode cX7_told 57 = .ok (.bipush 20, 2) := by decide +kernel
theorem dX7_told_59 : decode cX7_told 59 = .ok (.isub, 1) := by decide +kernel
theorem dX7_told_60 : decode cX7_told 60 = .ok (.invokestatic 131, 3) := by decide +kernel
theorem dX7_told_63 : decode cX7_told 63 = .ok (.ireturn, 1) := by decide +kernel
theorem dX7_told_64 : decode cX7_told 64 = .ok (.iload_n 1, 1) := by decide +kernel
theorem dX7_told_65 : decode cX7_told 65 = .ok (.bipush 30, 2) := by decide +kernel
theorem dX7_told_67 : decode cX7_told 67 = .ok (.bipush 34, 2) := by decide +kernel
theorem dX7_told_69 : decode cX7_told 69 = .ok (.invokestatic 74, 3) := by decide +kernel
theorem dX7_told_72 : decode cX7_told 72 = .ok (.ifCond .eq 18, 3) := by decide +kernel
theorem dX7_told_75 : decode cX7_told 75 = .ok (.aload_n 0, 1) := by decide +kernel
theorem dX7_told_76 : decode cX7_told 76 = .ok (.getfield 12, 3) := by decide +kernel
theorem dX7_told_79 : decode cX7_told 79 = .ok (.getfield 92, 3) := by decide +kernel
theorem dX7_told_82 : decode cX7_told 82 = .ok (.iload_n 1, 1) := by decide +kernel
theorem dX7_told_83 : decode cX7_told 83 = .ok (.bipush 30, 2) := by decide +kernel
theorem dX7_told_85 : decode cX7_told 85 = .ok (.isub, 1) := by decide +kernel
theorem dX7_told_86 : decode cX7_told 86 = .ok (.invokestatic 131, 3) := by decide +kernel
theorem dX7_told_89 : decode cX7_told 89 = .ok (.ireturn, 1) := by decide +kernel
theorem dX7_told_90 : decode cX7_told 90 = .ok (.iload_n 1, 1) := by decide +kernel
theorem dX7_told_91 : decode cX7_told 91 = .ok (.bipush 40, 2) := by decide +kernel
theorem dX7_told_93 : decode cX7_told 93 = .ok (.bipush 44, 2) := by decide +kernel
theorem dX7_told_95 : decode cX7_told 95 = .ok (.invokestatic 74, 3) := by decide +kernel
theorem dX7_told_98 : decode cX7_told 98 = .ok (.ifCond .eq 18, 3) := by decide +kernel
theorem dX7_told_101 : decode cX7_told 101 = .ok (.aload_n 0, 1) := by decide +kernel
theorem dX7_told_102 : decode cX7_told 102 = .ok (.getfield 12, 3) := by decide +kernel
theorem dX7_told_105 : decode cX7_told 105 = .ok (.getfield 101, 3) := by decide +kernel
theorem dX7_told_108 : decode cX7_told 108 = .ok (.iload_n 1, 1) := by decide +kernel
theorem dX7_told_109 : decode cX7_told 109 = .ok (.bipush 40, 2) := by decide +kernel
theorem dX7_told_111 : decode cX7_told 111 = .ok (.isub, 1) := by decide +kernel
theorem dX7_told_112 : decode cX7_told 112 = .ok (.invokestatic 131, 3) := by decide +kernel
theorem dX7_told_115 : decode cX7_told 115 = .ok (.ireturn, 1) := by decide +kernel
theorem dX7_told_116 : decode cX7_told 116 = .ok (.iload_n 1, 1) := by decide +kernel
theorem dX7_told_117 : decode cX7_told 117 = .ok (.bipush 100, 2) := by decide +kernel
theorem dX7_told_119 : decode cX7_told 119 = .ok (.sipush 129, 3) := by decide +kernel
theorem dX7_told_122 : decode cX7_told 122 = .ok (.invokestatic 74, 3) := by decide +kernel
theorem dX7_told_125 : decode cX7_told 125 = .ok (.ifCond .eq 20, 3) := by decide +kernel
theorem dX7_told_128 : decode cX7_told 128 = .ok (.aload_n 0, 1) := by decide +kernel
theorem dX7_told_129 : decode cX7_told 129 = .ok (.getfield 12, 3) := by decide +kernel
theorem dX7_told_132 : decode cX7_told 132 = .ok (.getfield 95, 3) := by decide +kernel
theorem dX7_told_135 : decode cX7_told 135 = .ok (.iload_n 1, 1) := by decide +kernel
theorem dX7_told_136 : decode cX7_told 136 = .ok (.bipush 100, 2) := by decide +kernel
theorem dX7_told_138 : decode cX7_told 138 = .ok (.isub, 1) := by decide +kernel
theorem dX7_told_139 : decode cX7_told 139 = .ok (.invokestatic 131, 3) := by decide +kernel
theorem dX7_told_142 : decode cX7_told 142 = .ok (.goto 5, 3) := by decide +kernel
theorem dX7_told_145 : decode cX7_told 145 = .ok (.bipush (-2), 2) := by decide +kernel
theorem dX7_told_147 : decode cX7_told 147 = .ok (.ireturn, 1) := by decide +kernel
theorem dX7_isWithin_0 : decode cX7_isWithin 0 = .ok (.iload_n 0, 1) := by decide +kernel
theorem dX7_isWithin_1 : decode cX7_isWithin 1 = .ok (.iload_n 1, 1) := by decide +kernel
theorem dX7_isWithin_2 : decode cX7_isWithin 2 = .ok (.if_icmp .lt 12, 3) := by decide +kernel
theorem dX7_isWithin_5 : decode cX7_isWithin 5 = .ok (.iload_n 0, 1) := by decide +kernel
theorem dX7_isWithin_6 : decode cX7_isWithin 6 = .ok (.iload_n 2, 1) := by decide +kernel
theorem dX7_isWithin_7 : decode cX7_isWithin 7 = .ok (.if_icmp .gt 7, 3) := by decide +kernel
theorem dX7_isWithin_10 : decode cX7_isWithin 10 = .ok (.iconst 1, 1) := by decide +kernel
theorem dX7_isWithin_11 : decode cX7_isWithin 11 = .ok (.goto 4, 3) := by decide +kernel
theorem dX7_isWithin_14 : decode cX7_isWithin 14 = .ok (.iconst 0, 1) := by decide +kernel
theorem dX7_isWithin_15 : decode cX7_isWithin 15 = .ok (.ireturn, 1) := by decide +kernel
theorem dX7_isHull_0 : decode cX7_isHull 0 = .ok (.iload_n 0, 1) := by decide +kernel
theorem dX7_isHull_1 : decode cX7_isHull 1 = .ok (.ifCond .lt 13, 3) := by decide +kernel
theorem dX7_isHull_4 : decode cX7_isHull 4 = .ok (.iload_n 0, 1) := by decide +kernel
theorem dX7_isHull_5 : decode cX7_isHull 5 = .ok (.bipush 6, 2) := by decide +kernel
theorem dX7_isHull_7 : decode cX7_isHull 7 = .ok (.if_icmp .ge 7, 3) := by decide +kernel
theorem dX7_isHull_10 : decode cX7_isHull 10 = .ok (.iconst 1, 1) := by decide +kernel
theorem dX7_isHull_11 : decode cX7_isHull 11 = .ok (.goto 4, 3) := by decide +kernel
theorem dX7_isHull_14 : decode cX7_isHull 14 = .ok (.iconst 0, 1) := by decide +kernel
theorem dX7_isHull_15 : decode cX7_isHull 15 = .ok (.ireturn, 1) := by decide +kernel
theorem dX7_isName_0 : decode cX7_isName 0 = .ok (.iload_n 0, 1) := by decide +kernel
theorem dX7_isName_1 : decode cX7_isName 1 = .ok (.ifCond .lt 12, 3) := by decide +kernel
theorem dX7_isName_4 : decode cX7_isName 4 = .ok (.iload_n 0, 1) := by decide +kernel
theorem dX7_isName_5 : decode cX7_isName 5 = .ok (.iconst 5, 1) := by decide +kernel
theorem dX7_isName_6 : decode cX7_isName 6 = .ok (.if_icmp .ge 7, 3) := by decide +kernel
theorem dX7_isName_9 : decode cX7_isName 9 = .ok (.iconst 1, 1) := by decide +kernel
theorem dX7_isName_10 : decode cX7_isName 10 = .ok (.goto 4, 3) := by decide +kernel
theorem dX7_isName_13 : decode cX7_isName 13 = .ok (.iconst 0, 1) := by decide +kernel
theorem dX7_isName_14 : decode cX7_isName 14 = .ok (.ireturn, 1) := by decide +kernel
set_option maxRecDepth 20000 in
theorem ggX7_areBits_X7_isWithin : GoodIn wsX7_areBits wsX7_isWithin := goodIn_r _ [4] (by decide +kernel) (by decide +kernel)
set_option maxRecDepth 20000 in
theorem gX7_areBits_X7_isWithin : GoodIn wsX7_areBits (va_wsS RX7 74 yX7_isWithin wsX7_isWithin) := goodIn_app (goodIn_of _ (by decide +kernel)) ggX7_areBits_X7_isWithin
theorem dX7_areBits_0 : decode cX7_areBits 0 = .ok (.iload_n 0, 1) := by decide +kernel
theorem dX7_areBits_1 : decode cX7_areBits 1 = .ok (.iconst 0, 1) := by decide +kernel
theorem dX7_areBits_2 : decode cX7_areBits 2 = .ok (.bipush 63, 2) := by decide +kernel
theorem dX7_areBits_4 : decode cX7_areBits 4 = .ok (.invokestatic 74, 3) := by decide +kernel
theorem dX7_areBits_7 : decode cX7_areBits 7 = .ok (.ifCond .eq 17, 3) := by decide +kernel
theorem dX7_areBits_10 : decode cX7_areBits 10 = .ok (.iload_n 1, 1) := by decide +kernel
theorem dX7_areBits_11 : decode cX7_areBits 11 = .ok (.iconst 0, 1) := by decide +kernel
theorem dX7_areBits_12 : decode cX7_areBits 12 = .ok (.bipush 31, 2) := by decide +kernel
theorem dX7_areBits_14 : decode cX7_areBits 14 = .ok (.invokestatic 74, 3) := by decide +kernel
theorem dX7_areBits_17 : decode cX7_areBits 17 = .ok (.ifCond .eq 7, 3) := by decide +kernel
theorem dX7_areBits_20 : decode cX7_areBits 20 = .ok (.iconst 1, 1) := by decide +kernel
theorem dX7_areBits_21 : decode cX7_areBits 21 = .ok (.goto 4, 3) := by decide +kernel
theorem dX7_areBits_24 : decode cX7_areBits 24 = .ok (.iconst 0, 1) := by decide +kernel
theorem dX7_areBits_25 : decode cX7_areBits 25 = .ok (.ireturn, 1) := by decide +kernel
theorem dX7_hasBit_0 : decode cX7_hasBit 0 = .ok (.iload_n 1, 1) := by decide +kernel
theorem dX7_hasBit_1 : decode cX7_hasBit 1 = .ok (.ifCond .lt 16, 3) := by decide +kernel
theorem dX7_hasBit_4 : decode cX7_hasBit 4 = .ok (.iload_n 0, 1) := by decide +kernel
theorem dX7_hasBit_5 : decode cX7_hasBit 5 = .ok (.iload_n 1, 1) := by decide +kernel
theorem dX7_hasBit_6 : decode cX7_hasBit 6 = .ok (.ishr, 1) := by decide +kernel
theorem dX7_hasBit_7 : decode cX7_hasBit 7 = .ok (.iconst 1, 1) := by decide +kernel
theorem dX7_hasBit_8 : decode cX7_hasBit 8 = .ok (.iand, 1) := by decide +kernel
theorem dX7_hasBit_9 : decode cX7_hasBit 9 = .ok (.iconst 1, 1) := by decide +kernel
theorem dX7_hasBit_10 : decode cX7_hasBit 10 = .ok (.if_icmp .ne 7, 3) := by decide +kernel
theorem dX7_hasBit_13 : decode cX7_hasBit 13 = .ok (.iconst 1, 1) := by decide +kernel
theorem dX7_hasBit_14 : decode cX7_hasBit 14 = .ok (.goto 4, 3) := by decide +kernel
theorem dX7_hasBit_17 : decode cX7_hasBit 17 = .ok (.iconst 0, 1) := by decide +kernel
theorem dX7_hasBit_18 : decode cX7_hasBit 18 = .ok (.ireturn, 1) := by decide +kernel
set_option maxRecDepth 20000 in
theorem ggX7_holdsEachHullOnce_X7_isWithin : GoodIn wsX7_holdsEachHullOnce wsX7_isWithin := goodIn_r _ [5] (by decide +kernel) (by decide +kernel)
set_option maxRecDepth 20000 in
theorem gX7_holdsEachHullOnce_X7_isWithin : GoodIn wsX7_holdsEachHullOnce (va_wsS RX7 74 yX7_isWithin wsX7_isWithin) := goodIn_app (goodIn_of _ (by decide +kernel)) ggX7_holdsEachHullOnce_X7_isWithin
set_option maxRecDepth 20000 in
theorem ggX7_holdsEachHullOnce_X7_isHull : GoodIn wsX7_holdsEachHullOnce wsX7_isHull := goodIn_r _ [8] (by decide +kernel) (by decide +kernel)
set_option maxRecDepth 20000 in
theorem gX7_holdsEachHullOnce_X7_isHull : GoodIn wsX7_holdsEachHullOnce (va_wsS RX7 70 yX7_isHull wsX7_isHull) := goodIn_app (goodIn_of _ (by decide +kernel)) ggX7_holdsEachHullOnce_X7_isHull
theorem dX7_holdsEachHullOnce_0 : decode cX7_holdsEachHullOnce 0 = .ok (.iload_n 0, 1) := by decide +kernel
theorem dX7_holdsEachHullOnce_1 : decode cX7_holdsEachHullOnce 1 = .ok (.iconst 0, 1) := by decide +kernel
theorem dX7_holdsEachHullOnce_2 : decode cX7_holdsEachHullOnce 2 = .ok (.ldc 234, 2) := by decide +kernel
theorem dX7_holdsEachHullOnce_4 : decode cX7_holdsEachHullOnce 4 = .ok (.invokestatic 74, 3) := by decide +kernel
theorem dX7_holdsEachHullOnce_7 : decode cX7_holdsEachHullOnce 7 = .ok (.ifCond .ne 5, 3) := by decide +kernel
theorem dX7_holdsEachHullOnce_10 : decode cX7_holdsEachHullOnce 10 = .ok (.iconst 0, 1) := by decide +kernel
theorem dX7_holdsEachHullOnce_11 : decode cX7_holdsEachHullOnce 11 = .ok (.ireturn, 1) := by decide +kernel
theorem dX7_holdsEachHullOnce_12 : decode cX7_holdsEachHullOnce 12 = .ok (.iconst 0, 1) := by decide +kernel
theorem dX7_holdsEachHullOnce_13 : decode cX7_holdsEachHullOnce 13 = .ok (.istore_n 1, 1) := by decide +kernel
theorem dX7_holdsEachHullOnce_14 : decode cX7_holdsEachHullOnce 14 = .ok (.iload_n 0, 1) := by decide +kernel
theorem dX7_holdsEachHullOnce_15 : decode cX7_holdsEachHullOnce 15 = .ok (.istore_n 2, 1) := by decide +kernel
theorem dX7_holdsEachHullOnce_16 : decode cX7_holdsEachHullOnce 16 = .ok (.iconst 0, 1) := by decide +kernel
theorem dX7_holdsEachHullOnce_17 : decode cX7_holdsEachHullOnce 17 = .ok (.istore_n 3, 1) := by decide +kernel
theorem dX7_holdsEachHullOnce_18 : decode cX7_holdsEachHullOnce 18 = .ok (.iload_n 3, 1) := by decide +kernel
theorem dX7_holdsEachHullOnce_19 : decode cX7_holdsEachHullOnce 19 = .ok (.bipush 6, 2) := by decide +kernel
theorem dX7_holdsEachHullOnce_21 : decode cX7_holdsEachHullOnce 21 = .ok (.if_icmp .ge 37, 3) := by decide +kernel
theorem dX7_holdsEachHullOnce_24 : decode cX7_holdsEachHullOnce 24 = .ok (.iload_n 2, 1) := by decide +kernel
theorem dX7_holdsEachHullOnce_25 : decode cX7_holdsEachHullOnce 25 = .ok (.bipush 10, 2) := by decide +kernel
theorem dX7_holdsEachHullOnce_27 : decode cX7_holdsEachHullOnce 27 = .ok (.irem, 1) := by decide +kernel
theorem dX7_holdsEachHullOnce_28 : decode cX7_holdsEachHullOnce 28 = .ok (.istore 4, 2) := by decide +kernel
theorem dX7_holdsEachHullOnce_30 : decode cX7_holdsEachHullOnce 30 = .ok (.iload 4, 2) := by decide +kernel
theorem dX7_holdsEachHullOnce_32 : decode cX7_holdsEachHullOnce 32 = .ok (.invokestatic 70, 3) := by decide +kernel
theorem dX7_holdsEachHullOnce_35 : decode cX7_holdsEachHullOnce 35 = .ok (.ifCond .ne 5, 3) := by decide +kernel
theorem dX7_holdsEachHullOnce_38 : decode cX7_holdsEachHullOnce 38 = .ok (.iconst 0, 1) := by decide +kernel
theorem dX7_holdsEachHullOnce_39 : decode cX7_holdsEachHullOnce 39 = .ok (.ireturn, 1) := by decide +kernel
theorem dX7_holdsEachHullOnce_40 : decode cX7_holdsEachHullOnce 40 = .ok (.iload_n 1, 1) := by decide +kernel
theorem dX7_holdsEachHullOnce_41 : decode cX7_holdsEachHullOnce 41 = .ok (.iconst 1, 1) := by decide +kernel
theorem dX7_holdsEachHullOnce_42 : decode cX7_holdsEachHullOnce 42 = .ok (.iload 4, 2) := by decide +kernel
theorem dX7_holdsEachHullOnce_44 : decode cX7_holdsEachHullOnce 44 = .ok (.ishl, 1) := by decide +kernel
theorem dX7_holdsEachHullOnce_45 : decode cX7_holdsEachHullOnce 45 = .ok (.ior, 1) := by decide +kernel
theorem dX7_holdsEachHullOnce_46 : decode cX7_holdsEachHullOnce 46 = .ok (.istore_n 1, 1) := by decide +kernel
theorem dX7_holdsEachHullOnce_47 : decode cX7_holdsEachHullOnce 47 = .ok (.iload_n 2, 1) := by decide +kernel
theorem dX7_holdsEachHullOnce_48 : decode cX7_holdsEachHullOnce 48 = .ok (.bipush 10, 2) := by decide +kernel
theorem dX7_holdsEachHullOnce_50 : decode cX7_holdsEachHullOnce 50 = .ok (.idiv, 1) := by decide +kernel
theorem dX7_holdsEachHullOnce_51 : decode cX7_holdsEachHullOnce 51 = .ok (.istore_n 2, 1) := by decide +kernel
theorem dX7_holdsEachHullOnce_52 : decode cX7_holdsEachHullOnce 52 = .ok (.iinc 3 1, 3) := by decide +kernel
theorem dX7_holdsEachHullOnce_55 : decode cX7_holdsEachHullOnce 55 = .ok (.goto (-37), 3) := by decide +kernel
theorem dX7_holdsEachHullOnce_58 : decode cX7_holdsEachHullOnce 58 = .ok (.iload_n 1, 1) := by decide +kernel
theorem dX7_holdsEachHullOnce_59 : decode cX7_holdsEachHullOnce 59 = .ok (.bipush 63, 2) := by decide +kernel
theorem dX7_holdsEachHullOnce_61 : decode cX7_holdsEachHullOnce 61 = .ok (.if_icmp .ne 7, 3) := by decide +kernel
theorem dX7_holdsEachHullOnce_64 : decode cX7_holdsEachHullOnce 64 = .ok (.iconst 1, 1) := by decide +kernel
theorem dX7_holdsEachHullOnce_65 : decode cX7_holdsEachHullOnce 65 = .ok (.goto 4, 3) := by decide +kernel
theorem dX7_holdsEachHullOnce_68 : decode cX7_holdsEachHullOnce 68 = .ok (.iconst 0, 1) := by decide +kernel
theorem dX7_holdsEachHullOnce_69 : decode cX7_holdsEachHullOnce 69 = .ok (.ireturn, 1) := by decide +kernel
set_option maxRecDepth 20000 in
theorem ggX7_isAboutLog_X7_isWithin : GoodIn wsX7_isAboutLog wsX7_isWithin := goodIn_r _ [4] (by decide +kernel) (by decide +kernel)
set_option maxRecDepth 20000 in
theorem gX7_isAboutLog_X7_isWithin : GoodIn wsX7_isAboutLog (va_wsS RX7 74 yX7_isWithin wsX7_isWithin) := goodIn_app (goodIn_of _ (by decide +kernel)) ggX7_isAboutLog_X7_isWithin
theorem dX7_isAboutLog_0 : decode cX7_isAboutLog 0 = .ok (.iload_n 0, 1) := by decide +kernel
theorem dX7_isAboutLog_1 : decode cX7_isAboutLog 1 = .ok (.ifCond .eq 47, 3) := by decide +kernel
theorem dX7_isAboutLog_4 : decode cX7_isAboutLog 4 = .ok (.iload_n 0, 1) := by decide +kernel
theorem dX7_isAboutLog_5 : decode cX7_isAboutLog 5 = .ok (.bipush 10, 2) := by decide +kernel
theorem dX7_isAboutLog_7 : decode cX7_isAboutLog 7 = .ok (.bipush 15, 2) := by decide +kernel
theorem dX7_isAboutLog_9 : decode cX7_isAboutLog 9 = .ok (.invokestatic 74, 3) := by decide +kernel
theorem dX7_isAboutLog_12 : decode cX7_isAboutLog 12 = .ok (.ifCond .ne 36, 3) := by decide +kernel
theorem dX7_isAboutLog_15 : decode cX7_isAboutLog 15 = .ok (.iload_n 0, 1) := by decide +kernel
theorem dX7_isAboutLog_16 : decode cX7_isAboutLog 16 = .ok (.bipush 20, 2) := by decide +kernel
theorem dX7_isAboutLog_18 : decode cX7_isAboutLog 18 = .ok (.bipush 24, 2) := by decide +kernel
theorem dX7_isAboutLog_20 : decode cX7_isAboutLog 20 = .ok (.invokestatic 74, 3) := by decide +kernel
theorem dX7_isAboutLog_23 : decode cX7_isAboutLog 23 = .ok (.ifCond .ne 25, 3) := by decide +kernel
theorem dX7_isAboutLog_26 : decode cX7_isAboutLog 26 = .ok (.iload_n 0, 1) := by decide +kernel
theorem dX7_isAboutLog_27 : decode cX7_isAboutLog 27 = .ok (.bipush 30, 2) := by decide +kernel
theorem dX7_isAboutLog_29 : decode cX7_isAboutLog 29 = .ok (.bipush 34, 2) := by decide +kernel
theorem dX7_isAboutLog_31 : decode cX7_isAboutLog 31 = .ok (.invokestatic 74, 3) := by decide +kernel
theorem dX7_isAboutLog_34 : decode cX7_isAboutLog 34 = .ok (.ifCond .ne 14, 3) := by decide +kernel
theorem dX7_isAboutLog_37 : decode cX7_isAboutLog 37 = .ok (.iload_n 0, 1) := by decide +kernel
theorem dX7_isAboutLog_38 : decode cX7_isAboutLog 38 = .ok (.bipush 40, 2) := by decide +kernel
theorem dX7_isAboutLog_40 : decode cX7_isAboutLog 40 = .ok (.bipush 44, 2) := by decide +kernel
theorem dX7_isAboutLog_42 : decode cX7_isAboutLog 42 = .ok (.invokestatic 74, 3) := by decide +kernel
theorem dX7_isAboutLog_45 : decode cX7_isAboutLog 45 = .ok (.ifCond .eq 7, 3) := by decide +kernel
theorem dX7_isAboutLog_48 : decode cX7_isAboutLog 48 = .ok (.iconst 1, 1) := by decide +kernel
theorem dX7_isAboutLog_49 : decode cX7_isAboutLog 49 = .ok (.goto 4, 3) := by decide +kernel
theorem dX7_isAboutLog_52 : decode cX7_isAboutLog 52 = .ok (.iconst 0, 1) := by decide +kernel
theorem dX7_isAboutLog_53 : decode cX7_isAboutLog 53 = .ok (.ireturn, 1) := by decide +kernel
set_option maxRecDepth 20000 in
theorem ggX7_refusalOf_X7_isName : GoodIn wsX7_refusalOf wsX7_isName := goodIn_r _ [6] (by decide +kernel) (by decide +kernel)
set_option maxRecDepth 20000 in
theorem gX7_refusalOf_X7_isName : GoodIn wsX7_refusalOf (va_wsS RX7 89 yX7_isName wsX7_isName) := goodIn_app (goodIn_of _ (by decide +kernel)) ggX7_refusalOf_X7_isName
set_option maxRecDepth 20000 in
theorem ggX7_refusalOf_X2_read : GoodIn wsX7_refusalOf wsX2_read := goodIn_r _ [11, 12, 13, 14, 15, 16, 17, 18, 19, 20, 10, 21, 22, 23, 24, 25, 26, 27, 28, 29, 30, 31, 5, 32, 33, 34, 35, 36, 37, 38, 39, 40, 41, 42, 43, 44, 45, 46, 47, 58, 59, 60, 61, 62, 63, 64, 65, 66, 67] (by decide +kernel) (by decide +kernel)
set_option maxRecDepth 20000 in
theorem gX7_refusalOf_X2_read : GoodIn wsX7_refusalOf (wsV RX7 112 RX2 yX2_read wsX2_read) := goodIn_app (goodIn_of _ (by decide +kernel)) ggX7_refusalOf_X2_read
theorem dX7_refusalOf_0 : decode cX7_refusalOf 0 = .ok (.iload_n 1, 1) := by decide +kernel
theorem dX7_refusalOf_1 : decode cX7_refusalOf 1 = .ok (.invokestatic 89, 3) := by decide +kernel
theorem dX7_refusalOf_4 : decode cX7_refusalOf 4 = .ok (.ifCond .eq 7, 3) := by decide +kernel
theorem dX7_refusalOf_7 : decode cX7_refusalOf 7 = .ok (.iload_n 2, 1) := by decide +kernel
theorem dX7_refusalOf_8 : decode cX7_refusalOf 8 = .ok (.ifCond .ge 5, 3) := by decide +kernel
theorem dX7_refusalOf_11 : decode cX7_refusalOf 11 = .ok (.iconst (-1), 1) := by decide +kernel
theorem dX7_refusalOf_12 : decode cX7_refusalOf 12 = .ok (.ireturn, 1) := by decide +kernel
theorem dX7_refusalOf_13 : decode cX7_refusalOf 13 = .ok (.aload_n 0, 1) := by decide +kernel
theorem dX7_refusalOf_14 : decode cX7_refusalOf 14 = .ok (.getfield 25, 3) := by decide +kernel
theorem dX7_refusalOf_17 : decode cX7_refusalOf 17 = .ok (.invokevirtual 112, 3) := by decide +kernel
theorem dX7_refusalOf_20 : decode cX7_refusalOf 20 = .ok (.bipush (-6), 2) := by decide +kernel
theorem dX7_refusalOf_22 : decode cX7_refusalOf 22 = .ok (.if_icmp .eq 6, 3) := by decide +kernel
theorem dX7_refusalOf_25 : decode cX7_refusalOf 25 = .ok (.bipush (-5), 2) := by decide +kernel
theorem dX7_refusalOf_27 : decode cX7_refusalOf 27 = .ok (.ireturn, 1) := by decide +kernel
theorem dX7_refusalOf_28 : decode cX7_refusalOf 28 = .ok (.iload_n 2, 1) := by decide +kernel
theorem dX7_refusalOf_29 : decode cX7_refusalOf 29 = .ok (.aload_n 0, 1) := by decide +kernel
theorem dX7_refusalOf_30 : decode cX7_refusalOf 30 = .ok (.getfield 25, 3) := by decide +kernel
theorem dX7_refusalOf_33 : decode cX7_refusalOf 33 = .ok (.getfield 144, 3) := by decide +kernel
theorem dX7_refusalOf_36 : decode cX7_refusalOf 36 = .ok (.if_icmp .le 7, 3) := by decide +kernel
theorem dX7_refusalOf_39 : decode cX7_refusalOf 39 = .ok (.iconst (-1), 1) := by decide +kernel
theorem dX7_refusalOf_40 : decode cX7_refusalOf 40 = .ok (.goto 4, 3) := by decide +kernel
theorem dX7_refusalOf_43 : decode cX7_refusalOf 43 = .ok (.iconst 0, 1) := by decide +kernel
theorem dX7_refusalOf_44 : decode cX7_refusalOf 44 = .ok (.ireturn, 1) := by decide +kernel
theorem dX7_imageOf_0 : decode cX7_imageOf 0 = .ok (.iload_n 1, 1) := by decide +kernel
theorem dX7_imageOf_1 : decode cX7_imageOf 1 = .ok (.ifCond .ne 10, 3) := by decide +kernel
theorem dX7_imageOf_4 : decode cX7_imageOf 4 = .ok (.aload_n 0, 1) := by decide +kernel
theorem dX7_imageOf_5 : decode cX7_imageOf 5 = .ok (.getfield 16, 3) := by decide +kernel
theorem dX7_imageOf_8 : decode cX7_imageOf 8 = .ok (.goto 7, 3) := by decide +kernel
theorem dX7_imageOf_11 : decode cX7_imageOf 11 = .ok (.aload_n 0, 1) := by decide +kernel
theorem dX7_imageOf_12 : decode cX7_imageOf 12 = .ok (.getfield 19, 3) := by decide +kernel
theorem dX7_imageOf_15 : decode cX7_imageOf 15 = .ok (.areturn, 1) := by decide +kernel
theorem dX7_at_0 : decode cX7_at 0 = .ok (.iload_n 1, 1) := by decide +kernel
theorem dX7_at_1 : decode cX7_at 1 = .ok (.ifCond .lt 15, 3) := by decide +kernel
theorem dX7_at_4 : decode cX7_at 4 = .ok (.iload_n 1, 1) := by decide +kernel
theorem dX7_at_5 : decode cX7_at 5 = .ok (.aload_n 0, 1) := by decide +kernel
theorem dX7_at_6 : decode cX7_at 6 = .ok (.arraylength, 1) := by decide +kernel
theorem dX7_at_7 : decode cX7_at 7 = .ok (.if_icmp .ge 9, 3) := by decide +kernel
theorem dX7_at_10 : decode cX7_at 10 = .ok (.aload_n 0, 1) := by decide +kernel
theorem dX7_at_11 : decode cX7_at 11 = .ok (.iload_n 1, 1) := by decide +kernel
theorem dX7_at_12 : decode cX7_at 12 = .ok (.iaload, 1) := by decide +kernel
theorem dX7_at_13 : decode cX7_at 13 = .ok (.goto 4, 3) := by decide +kernel
theorem dX7_at_16 : decode cX7_at 16 = .ok (.iconst 0, 1) := by decide +kernel
theorem dX7_at_17 : decode cX7_at 17 = .ok (.ireturn, 1) := by decide +kernel
theorem dX7_put_0 : decode cX7_put 0 = .ok (.iload_n 1, 1) := by decide +kernel
theorem dX7_put_1 : decode cX7_put 1 = .ok (.ifCond .lt 13, 3) := by decide +kernel
theorem dX7_put_4 : decode cX7_put 4 = .ok (.iload_n 1, 1) := by decide +kernel
theorem dX7_put_5 : decode cX7_put 5 = .ok (.aload_n 0, 1) := by decide +kernel
theorem dX7_put_6 : decode cX7_put 6 = .ok (.arraylength, 1) := by decide +kernel
theorem dX7_put_7 : decode cX7_put 7 = .ok (.if_icmp .ge 7, 3) := by decide +kernel
theorem dX7_put_10 : decode cX7_put 10 = .ok (.aload_n 0, 1) := by decide +kernel
theorem dX7_put_11 : decode cX7_put 11 = .ok (.iload_n 1, 1) := by decide +kernel
theorem dX7_put_12 : decode cX7_put 12 = .ok (.iload_n 2, 1) := by decide +kernel
theorem dX7_put_13 : decode cX7_put 13 = .ok (.iastore, 1) := by decide +kernel
theorem dX7_put_14 : decode cX7_put 14 = .ok (.return_, 1) := by decide +kernel
set_option maxRecDepth 20000 in
theorem ggX7_swap_X7_at : GoodIn wsX7_swap wsX7_at := goodIn_r _ [4] (by decide +kernel) (by decide +kernel)
set_option maxRecDepth 20000 in
theorem gX7_swap_X7_at : GoodIn wsX7_swap (va_wsS RX7 131 yX7_at wsX7_at) := goodIn_app (goodIn_of _ (by decide +kernel)) ggX7_swap_X7_at
set_option maxRecDepth 20000 in
theorem ggX7_swap_X7_put : GoodIn wsX7_swap wsX7_put := goodIn_r _ [7] (by decide +kernel) (by decide +kernel)
set_option maxRecDepth 20000 in
theorem gX7_swap_X7_put : GoodIn wsX7_swap (va_wsS RX7 235 yX7_put wsX7_put) := goodIn_app (goodIn_of _ (by decide +kernel)) ggX7_swap_X7_put
theorem dX7_swap_0 : decode cX7_swap 0 = .ok (.aload_n 0, 1) := by decide +kernel
theorem dX7_swap_1 : decode cX7_swap 1 = .ok (.iload_n 1, 1) := by decide +kernel
theorem dX7_swap_2 : decode cX7_swap 2 = .ok (.invokestatic 131, 3) := by decide +kernel
theorem dX7_swap_5 : decode cX7_swap 5 = .ok (.istore_n 3, 1) := by decide +kernel
theorem dX7_swap_6 : decode cX7_swap 6 = .ok (.aload_n 0, 1) := by decide +kernel
theorem dX7_swap_7 : decode cX7_swap 7 = .ok (.iload_n 1, 1) := by decide +kernel
theorem dX7_swap_8 : decode cX7_swap 8 = .ok (.iload_n 2, 1) := by decide +kernel
theorem dX7_swap_9 : decode cX7_swap 9 = .ok (.invokestatic 235, 3) := by decide +kernel
theorem dX7_swap_12 : decode cX7_swap 12 = .ok (.iload_n 3, 1) := by decide +kernel
theorem dX7_swap_13 : decode cX7_swap 13 = .ok (.ireturn, 1) := by decide +kernel
theorem dX7_fill_0 : decode cX7_fill 0 = .ok (.iconst 0, 1) := by decide +kernel
theorem dX7_fill_1 : decode cX7_fill 1 = .ok (.istore_n 2, 1) := by decide +kernel
theorem dX7_fill_2 : decode cX7_fill 2 = .ok (.iload_n 2, 1) := by decide +kernel
theorem dX7_fill_3 : decode cX7_fill 3 = .ok (.aload_n 0, 1) := by decide +kernel
theorem dX7_fill_4 : decode cX7_fill 4 = .ok (.arraylength, 1) := by decide +kernel
theorem dX7_fill_5 : decode cX7_fill 5 = .ok (.if_icmp .ge 13, 3) := by decide +kernel
theorem dX7_fill_8 : decode cX7_fill 8 = .ok (.aload_n 0, 1) := by decide +kernel
theorem dX7_fill_9 : decode cX7_fill 9 = .ok (.iload_n 2, 1) := by decide +kernel
theorem dX7_fill_10 : decode cX7_fill 10 = .ok (.iload_n 1, 1) := by decide +kernel
theorem dX7_fill_11 : decode cX7_fill 11 = .ok (.iastore, 1) := by decide +kernel
theorem dX7_fill_12 : decode cX7_fill 12 = .ok (.iinc 2 1, 3) := by decide +kernel
theorem dX7_fill_15 : decode cX7_fill 15 = .ok (.goto (-13), 3) := by decide +kernel
theorem dX7_fill_18 : decode cX7_fill 18 = .ok (.return_, 1) := by decide +kernel
theorem dX7_copyRow_0 : decode cX7_copyRow 0 = .ok (.iconst 0, 1) := by decide +kernel
theorem dX7_copyRow_1 : decode cX7_copyRow 1 = .ok (.istore_n 2, 1) := by decide +kernel
theorem dX7_copyRow_2 : decode cX7_copyRow 2 = .ok (.iload_n 2, 1) := by decide +kernel
theorem dX7_copyRow_3 : decode cX7_copyRow 3 = .ok (.aload_n 0, 1) := by decide +kernel
theorem dX7_copyRow_4 : decode cX7_copyRow 4 = .ok (.arraylength, 1) := by decide +kernel
theorem dX7_copyRow_5 : decode cX7_copyRow 5 = .ok (.if_icmp .ge 21, 3) := by decide +kernel
theorem dX7_copyRow_8 : decode cX7_copyRow 8 = .ok (.iload_n 2, 1) := by decide +kernel
theorem dX7_copyRow_9 : decode cX7_copyRow 9 = .ok (.aload_n 1, 1) := by decide +kernel
theorem dX7_copyRow_10 : decode cX7_copyRow 10 = .ok (.arraylength, 1) := by decide +kernel
theorem dX7_copyRow_11 : decode cX7_copyRow 11 = .ok (.if_icmp .ge 15, 3) := by decide +kernel
theorem dX7_copyRow_14 : decode cX7_copyRow 14 = .ok (.aload_n 1, 1) := by decide +kernel
theorem dX7_copyRow_15 : decode cX7_copyRow 15 = .ok (.iload_n 2, 1) := by decide +kernel
theorem dX7_copyRow_16 : decode cX7_copyRow 16 = .ok (.aload_n 0, 1) := by decide +kernel
theorem dX7_copyRow_17 : decode cX7_copyRow 17 = .ok (.iload_n 2, 1) := by decide +kernel
theorem dX7_copyRow_18 : decode cX7_copyRow 18 = .ok (.iaload, 1) := by decide +kernel
theorem dX7_copyRow_19 : decode cX7_copyRow 19 = .ok (.iastore, 1) := by decide +kernel
theorem dX7_copyRow_20 : decode cX7_copyRow 20 = .ok (.iinc 2 1, 3) := by decide +kernel
theorem dX7_copyRow_23 : decode cX7_copyRow 23 = .ok (.goto (-21), 3) := by decide +kernel
theorem dX7_copyRow_26 : decode cX7_copyRow 26 = .ok (.return_, 1) := by decide +kernel
set_option maxRecDepth 20000 in
theorem ggX7_chanceHome_X7_at : GoodIn wsX7_chanceHome wsX7_at := goodIn_r _ [6] (by decide +kernel) (by decide +kernel)
set_option maxRecDepth 20000 in
theorem gX7_chanceHome_X7_at : GoodIn wsX7_chanceHome (va_wsS RX7 131 yX7_at wsX7_at) := goodIn_app (goodIn_of _ (by decide +kernel)) ggX7_chanceHome_X7_at
set_option maxRecDepth 20000 in
theorem ggX7_chanceHome_X7_commonDivisor : GoodIn wsX7_chanceHome wsX7_commonDivisor := goodIn_r _ [9] (by decide +kernel) (by decide +kernel)
set_option maxRecDepth 20000 in
theorem gX7_chanceHome_X7_commonDivisor : GoodIn wsX7_chanceHome (va_wsS RX7 239 yX7_commonDivisor wsX7_commonDivisor) := goodIn_app (goodIn_of _ (by decide +kernel)) ggX7_chanceHome_X7_commonDivisor
set_option maxRecDepth 20000 in
theorem ggX7_chanceHome_X7_power : GoodIn wsX7_chanceHome wsX7_power := goodIn_r _ [12] (by decide +kernel) (by decide +kernel)
set_option maxRecDepth 20000 in
theorem gX7_chanceHome_X7_power : GoodIn wsX7_chanceHome (va_wsS RX7 242 yX7_power wsX7_power) := goodIn_app (goodIn_of _ (by decide +kernel)) ggX7_chanceHome_X7_power
theorem dX7_chanceHome_0 : decode cX7_chanceHome 0 = .ok (.bipush 90, 2) := by decide +kernel
theorem dX7_chanceHome_2 : decode cX7_chanceHome 2 = .ok (.aload_n 0, 1) := by decide +kernel
theorem dX7_chanceHome_3 : decode cX7_chanceHome 3 = .ok (.getfield 12, 3) := by decide +kernel
theorem dX7_chanceHome_6 : decode cX7_chanceHome 6 = .ok (.getfield 92, 3) := by decide +kernel
theorem dX7_chanceHome_9 : decode cX7_chanceHome 9 = .ok (.iload_n 1, 1) := by decide +kernel
theorem dX7_chanceHome_10 : decode cX7_chanceHome 10 = .ok (.invokestatic 131, 3) := by decide +kernel
theorem dX7_chanceHome_13 : decode cX7_chanceHome 13 = .ok (.iadd, 1) := by decide +kernel
theorem dX7_chanceHome_14 : decode cX7_chanceHome 14 = .ok (.istore 4, 2) := by decide +kernel
theorem dX7_chanceHome_16 : decode cX7_chanceHome 16 = .ok (.iload 4, 2) := by decide +kernel
theorem dX7_chanceHome_18 : decode cX7_chanceHome 18 = .ok (.bipush 100, 2) := by decide +kernel
theorem dX7_chanceHome_20 : decode cX7_chanceHome 20 = .ok (.invokestatic 239, 3) := by decide +kernel
theorem dX7_chanceHome_23 : decode cX7_chanceHome 23 = .ok (.istore 5, 2) := by decide +kernel
theorem dX7_chanceHome_25 : decode cX7_chanceHome 25 = .ok (.iload_n 3, 1) := by decide +kernel
theorem dX7_chanceHome_26 : decode cX7_chanceHome 26 = .ok (.ifCond .ne 8, 3) := by decide +kernel
theorem dX7_chanceHome_29 : decode cX7_chanceHome 29 = .ok (.iload 4, 2) := by decide +kernel
theorem dX7_chanceHome_31 : decode cX7_chanceHome 31 = .ok (.goto 5, 3) := by decide +kernel
theorem dX7_chanceHome_34 : decode cX7_chanceHome 34 = .ok (.bipush 100, 2) := by decide +kernel
theorem dX7_chanceHome_36 : decode cX7_chanceHome 36 = .ok (.istore 6, 2) := by decide +kernel
theorem dX7_chanceHome_38 : decode cX7_chanceHome 38 = .ok (.iload 5, 2) := by decide +kernel
theorem dX7_chanceHome_40 : decode cX7_chanceHome 40 = .ok (.ifCond .le 16, 3) := by decide +kernel
theorem dX7_chanceHome_43 : decode cX7_chanceHome 43 = .ok (.iload 6, 2) := by decide +kernel
theorem dX7_chanceHome_45 : decode cX7_chanceHome 45 = .ok (.iload 5, 2) := by decide +kernel
theorem dX7_chanceHome_47 : decode cX7_chanceHome 47 = .ok (.idiv, 1) := by decide +kernel
theorem dX7_chanceHome_48 : decode cX7_chanceHome 48 = .ok (.i2l, 1) := by decide +kernel
theorem dX7_chanceHome_49 : decode cX7_chanceHome 49 = .ok (.iload_n 2, 1) := by decide +kernel
theorem dX7_chanceHome_50 : decode cX7_chanceHome 50 = .ok (.invokestatic 242, 3) := by decide +kernel
theorem dX7_chanceHome_53 : decode cX7_chanceHome 53 = .ok (.goto 4, 3) := by decide +kernel
theorem dX7_chanceHome_56 : decode cX7_chanceHome 56 = .ok (.lconst 1, 1) := by decide +kernel
theorem dX7_chanceHome_57 : decode cX7_chanceHome 57 = .ok (.lreturn, 1) := by decide +kernel
theorem dX7_commonDivisor_0 : decode cX7_commonDivisor 0 = .ok (.iload_n 1, 1) := by decide +kernel
theorem dX7_commonDivisor_1 : decode cX7_commonDivisor 1 = .ok (.istore_n 2, 1) := by decide +kernel
theorem dX7_commonDivisor_2 : decode cX7_commonDivisor 2 = .ok (.iload_n 2, 1) := by decide +kernel
theorem dX7_commonDivisor_3 : decode cX7_commonDivisor 3 = .ok (.iconst 1, 1) := by decide +kernel
theorem dX7_commonDivisor_4 : decode cX7_commonDivisor 4 = .ok (.if_icmp .le 23, 3) := by decide +kernel
theorem dX7_commonDivisor_7 : decode cX7_commonDivisor 7 = .ok (.iload_n 0, 1) := by decide +kernel
theorem dX7_commonDivisor_8 : decode cX7_commonDivisor 8 = .ok (.iload_n 2, 1) := by decide +kernel
theorem dX7_commonDivisor_9 : decode cX7_commonDivisor 9 = .ok (.irem, 1) := by decide +kernel
theorem dX7_commonDivisor_10 : decode cX7_commonDivisor 10 = .ok (.ifCond .ne 11, 3) := by decide +kernel
theorem dX7_commonDivisor_13 : decode cX7_commonDivisor 13 = .ok (.iload_n 1, 1) := by decide +kernel
theorem dX7_commonDivisor_14 : decode cX7_commonDivisor 14 = .ok (.iload_n 2, 1) := by decide +kernel
theorem dX7_commonDivisor_15 : decode cX7_commonDivisor 15 = .ok (.irem, 1) := by decide +kernel
theorem dX7_commonDivisor_16 : decode cX7_commonDivisor 16 = .ok (.ifCond .ne 5, 3) := by decide +kernel
theorem dX7_commonDivisor_19 : decode cX7_commonDivisor 19 = .ok (.iload_n 2, 1) := by decide +kernel
theorem dX7_commonDivisor_20 : decode cX7_commonDivisor 20 = .ok (.ireturn, 1) := by decide +kernel
theorem dX7_commonDivisor_21 : decode cX7_commonDivisor 21 = .ok (.iinc 2 (-1), 3) := by decide +kernel
theorem dX7_commonDivisor_24 : decode cX7_commonDivisor 24 = .ok (.goto (-22), 3) := by decide +kernel
theorem dX7_commonDivisor_27 : decode cX7_commonDivisor 27 = .ok (.iconst 1, 1) := by decide +kernel
theorem dX7_commonDivisor_28 : decode cX7_commonDivisor 28 = .ok (.ireturn, 1) := by decide +kernel
theorem dX7_power_0 : decode cX7_power 0 = .ok (.lconst 1, 1) := by decide +kernel
theorem dX7_power_1 : decode cX7_power 1 = .ok (.lstore_n 3, 1) := by decide +kernel
theorem dX7_power_2 : decode cX7_power 2 = .ok (.iconst 0, 1) := by decide +kernel
theorem dX7_power_3 : decode cX7_power 3 = .ok (.istore 5, 2) := by decide +kernel
theorem dX7_power_5 : decode cX7_power 5 = .ok (.iload 5, 2) := by decide +kernel
theorem dX7_power_7 : decode cX7_power 7 = .ok (.iload_n 2, 1) := by decide +kernel
theorem dX7_power_8 : decode cX7_power 8 = .ok (.if_icmp .ge 13, 3) := by decide +kernel
theorem dX7_power_11 : decode cX7_power 11 = .ok (.lload_n 3, 1) := by decide +kernel
theorem dX7_power_12 : decode cX7_power 12 = .ok (.lload_n 0, 1) := by decide +kernel
theorem dX7_power_13 : decode cX7_power 13 = .ok (.lmul, 1) := by decide +kernel
theorem dX7_power_14 : decode cX7_power 14 = .ok (.lstore_n 3, 1) := by decide +kernel
theorem dX7_power_15 : decode cX7_power 15 = .ok (.iinc 5 1, 3) := by decide +kernel
theorem dX7_power_18 : decode cX7_power 18 = .ok (.goto (-13), 3) := by decide +kernel
theorem dX7_power_21 : decode cX7_power 21 = .ok (.lload_n 3, 1) := by decide +kernel
theorem dX7_power_22 : decode cX7_power 22 = .ok (.lreturn, 1) := by decide +kernel
theorem dX7_cutUp_0 : decode cX7_cutUp 0 = .ok (.lload_n 2, 1) := by decide +kernel
theorem dX7_cutUp_1 : decode cX7_cutUp 1 = .ok (.lconst 0, 1) := by decide +kernel
theorem dX7_cutUp_2 : decode cX7_cutUp 2 = .ok (.lcmp, 1) := by decide +kernel
theorem dX7_cutUp_3 : decode cX7_cutUp 3 = .ok (.ifCond .le 13, 3) := by decide +kernel
theorem dX7_cutUp_6 : decode cX7_cutUp 6 = .ok (.lload_n 0, 1) := by decide +kernel
theorem dX7_cutUp_7 : decode cX7_cutUp 7 = .ok (.lload_n 2, 1) := by decide +kernel
theorem dX7_cutUp_8 : decode cX7_cutUp 8 = .ok (.ladd, 1) := by decide +kernel
theorem dX7_cutUp_9 : decode cX7_cutUp 9 = .ok (.lconst 1, 1) := by decide +kernel
theorem dX7_cutUp_10 : decode cX7_cutUp 10 = .ok (.lsub, 1) := by decide +kernel
theorem dX7_cutUp_11 : decode cX7_cutUp 11 = .ok (.lload_n 2, 1) := by decide +kernel
theorem dX7_cutUp_12 : decode cX7_cutUp 12 = .ok (.ldiv, 1) := by decide +kernel
theorem dX7_cutUp_13 : decode cX7_cutUp 13 = .ok (.goto 4, 3) := by decide +kernel
theorem dX7_cutUp_16 : decode cX7_cutUp 16 = .ok (.lconst 0, 1) := by decide +kernel
theorem dX7_cutUp_17 : decode cX7_cutUp 17 = .ok (.lreturn, 1) := by decide +kernel
