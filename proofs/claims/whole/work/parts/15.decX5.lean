theorem dX5_init_0 : decode cX5_init 0 = .ok (.aload_n 0, 1) := by decide +kernel
theorem dX5_init_1 : decode cX5_init 1 = .ok (.invokespecial 3, 3) := by decide +kernel
theorem dX5_init_4 : decode cX5_init 4 = .ok (.aload_n 0, 1) := by decide +kernel
theorem dX5_init_5 : decode cX5_init 5 = .ok (.aload_n 1, 1) := by decide +kernel
theorem dX5_init_6 : decode cX5_init 6 = .ok (.putfield 9, 3) := by decide +kernel
theorem dX5_init_9 : decode cX5_init 9 = .ok (.aload_n 0, 1) := by decide +kernel
theorem dX5_init_10 : decode cX5_init 10 = .ok (.aload_n 2, 1) := by decide +kernel
theorem dX5_init_11 : decode cX5_init 11 = .ok (.putfield 15, 3) := by decide +kernel
theorem dX5_init_14 : decode cX5_init 14 = .ok (.return_, 1) := by decide +kernel
set_option maxRecDepth 20000 in
theorem ggX5_pass_X4_calm : GoodIn wsX5_pass wsX4_calm := goodIn_r _ [6, 7, 8, 9, 10, 11, 12, 13, 14, 15, 65, 66, 67, 68, 69, 70] (by decide +kernel) (by decide +kernel)
set_option maxRecDepth 20000 in
theorem gX5_pass_X4_calm : GoodIn wsX5_pass (wsV RX5 19 RX4 yX4_calm wsX4_calm) := goodIn_app (goodIn_of _ (by decide +kernel)) ggX5_pass_X4_calm
set_option maxRecDepth 20000 in
theorem ggX5_pass_X4_dawn : GoodIn wsX5_pass wsX4_dawn := goodIn_r _ [19, 12, 8, 10, 7, 9, 20, 14, 21, 22, 23, 65, 66, 67, 68, 69, 70] (by decide +kernel) (by decide +kernel)
set_option maxRecDepth 20000 in
theorem gX5_pass_X4_dawn : GoodIn wsX5_pass (wsV RX5 24 RX4 yX4_dawn wsX4_dawn) := goodIn_app (goodIn_of _ (by decide +kernel)) ggX5_pass_X4_dawn
set_option maxRecDepth 20000 in
theorem ggX5_pass_X5_setOut : GoodIn wsX5_pass wsX5_setOut := goodIn_r _ [28, 29, 30, 1, 31, 32, 14, 33, 34, 35, 36, 27, 37, 38, 39, 40, 41, 42, 43, 44, 20, 21, 45, 46, 47, 48, 49, 5, 50, 7, 8, 11, 10, 12, 22, 23, 63, 64, 71, 72, 73, 74, 75, 65, 66, 67, 68, 69, 70] (by decide +kernel) (by decide +kernel)
set_option maxRecDepth 20000 in
theorem gX5_pass_X5_setOut : GoodIn wsX5_pass (wsV RX5 28 RX5 yX5_setOut wsX5_setOut) := goodIn_app (goodIn_of _ (by decide +kernel)) ggX5_pass_X5_setOut
set_option maxRecDepth 20000 in
theorem ggX5_pass_X5_storm : GoodIn wsX5_pass wsX5_storm := goodIn_r _ [54, 1, 31, 55, 29, 56, 32, 14, 33, 57, 58, 59, 60, 61, 5, 62, 7, 8, 10, 12, 22, 23, 63, 64, 65, 66, 67, 68, 69, 70, 71, 72, 73, 74, 75] (by decide +kernel) (by decide +kernel)
set_option maxRecDepth 20000 in
theorem gX5_pass_X5_storm : GoodIn wsX5_pass (wsV RX5 31 RX5 yX5_storm wsX5_storm) := goodIn_app (goodIn_of _ (by decide +kernel)) ggX5_pass_X5_storm
theorem dX5_pass_0 : decode cX5_pass 0 = .ok (.aload_n 0, 1) := by decide +kernel
theorem dX5_pass_1 : decode cX5_pass 1 = .ok (.getfield 15, 3) := by decide +kernel
theorem dX5_pass_4 : decode cX5_pass 4 = .ok (.invokevirtual 19, 3) := by decide +kernel
theorem dX5_pass_7 : decode cX5_pass 7 = .ok (.iload_n 1, 1) := by decide +kernel
theorem dX5_pass_8 : decode cX5_pass 8 = .ok (.istore_n 3, 1) := by decide +kernel
theorem dX5_pass_9 : decode cX5_pass 9 = .ok (.iconst 0, 1) := by decide +kernel
theorem dX5_pass_10 : decode cX5_pass 10 = .ok (.istore 4, 2) := by decide +kernel
theorem dX5_pass_12 : decode cX5_pass 12 = .ok (.iload 4, 2) := by decide +kernel
theorem dX5_pass_14 : decode cX5_pass 14 = .ok (.iload_n 2, 1) := by decide +kernel
theorem dX5_pass_15 : decode cX5_pass 15 = .ok (.if_icmp .ge 28, 3) := by decide +kernel
theorem dX5_pass_18 : decode cX5_pass 18 = .ok (.aload_n 0, 1) := by decide +kernel
theorem dX5_pass_19 : decode cX5_pass 19 = .ok (.getfield 15, 3) := by decide +kernel
theorem dX5_pass_22 : decode cX5_pass 22 = .ok (.iload 4, 2) := by decide +kernel
theorem dX5_pass_24 : decode cX5_pass 24 = .ok (.invokevirtual 24, 3) := by decide +kernel
theorem dX5_pass_27 : decode cX5_pass 27 = .ok (.aload_n 0, 1) := by decide +kernel
theorem dX5_pass_28 : decode cX5_pass 28 = .ok (.invokevirtual 28, 3) := by decide +kernel
theorem dX5_pass_31 : decode cX5_pass 31 = .ok (.aload_n 0, 1) := by decide +kernel
theorem dX5_pass_32 : decode cX5_pass 32 = .ok (.iload_n 3, 1) := by decide +kernel
theorem dX5_pass_33 : decode cX5_pass 33 = .ok (.invokevirtual 31, 3) := by decide +kernel
theorem dX5_pass_36 : decode cX5_pass 36 = .ok (.istore_n 3, 1) := by decide +kernel
theorem dX5_pass_37 : decode cX5_pass 37 = .ok (.iinc 4 1, 3) := by decide +kernel
theorem dX5_pass_40 : decode cX5_pass 40 = .ok (.goto (-28), 3) := by decide +kernel
theorem dX5_pass_43 : decode cX5_pass 43 = .ok (.return_, 1) := by decide +kernel
set_option maxRecDepth 20000 in
theorem ggX5_setOut_X7_at : GoodIn wsX5_setOut wsX7_at := goodIn_r _ [7] (by decide +kernel) (by decide +kernel)
set_option maxRecDepth 20000 in
theorem gX5_setOut_X7_at_n41 : GoodIn wsX5_setOut (wsX7_at) := ggX5_setOut_X7_at
set_option maxRecDepth 20000 in
theorem ggX5_setOut_X5_leastName : GoodIn wsX5_setOut wsX5_leastName := goodIn_r _ [12, 3, 13, 1, 5, 6, 7, 14, 15, 16, 17, 18, 19, 20, 21, 22, 23, 36, 37, 43, 44, 45, 46, 47, 48, 38, 39, 40, 41, 42] (by decide +kernel) (by decide +kernel)
set_option maxRecDepth 20000 in
theorem gX5_setOut_X5_leastName : GoodIn wsX5_setOut (wsV RX5 48 RX5 yX5_leastName wsX5_leastName) := goodIn_app (goodIn_of _ (by decide +kernel)) ggX5_setOut_X5_leastName
set_option maxRecDepth 20000 in
theorem ggX5_setOut_X4_sail : GoodIn wsX5_setOut wsX4_sail := goodIn_r _ [28, 29, 30, 31, 32, 33, 34, 6, 35, 43, 44, 45, 46, 47, 48] (by decide +kernel) (by decide +kernel)
set_option maxRecDepth 20000 in
theorem gX5_setOut_X4_sail : GoodIn wsX5_setOut (wsV RX5 51 RX4 yX4_sail wsX4_sail) := goodIn_app (goodIn_of _ (by decide +kernel)) ggX5_setOut_X4_sail
theorem dX5_setOut_0 : decode cX5_setOut 0 = .ok (.iconst 0, 1) := by decide +kernel
theorem dX5_setOut_1 : decode cX5_setOut 1 = .ok (.istore_n 1, 1) := by decide +kernel
theorem dX5_setOut_2 : decode cX5_setOut 2 = .ok (.iload_n 1, 1) := by decide +kernel
theorem dX5_setOut_3 : decode cX5_setOut 3 = .ok (.bipush 6, 2) := by decide +kernel
theorem dX5_setOut_5 : decode cX5_setOut 5 = .ok (.if_icmp .ge 68, 3) := by decide +kernel
theorem dX5_setOut_8 : decode cX5_setOut 8 = .ok (.aload_n 0, 1) := by decide +kernel
theorem dX5_setOut_9 : decode cX5_setOut 9 = .ok (.getfield 9, 3) := by decide +kernel
theorem dX5_setOut_12 : decode cX5_setOut 12 = .ok (.getfield 35, 3) := by decide +kernel
theorem dX5_setOut_15 : decode cX5_setOut 15 = .ok (.iload_n 1, 1) := by decide +kernel
theorem dX5_setOut_16 : decode cX5_setOut 16 = .ok (.invokestatic 41, 3) := by decide +kernel
theorem dX5_setOut_19 : decode cX5_setOut 19 = .ok (.istore_n 2, 1) := by decide +kernel
theorem dX5_setOut_20 : decode cX5_setOut 20 = .ok (.iload_n 2, 1) := by decide +kernel
theorem dX5_setOut_21 : decode cX5_setOut 21 = .ok (.ifCond .le 27, 3) := by decide +kernel
theorem dX5_setOut_24 : decode cX5_setOut 24 = .ok (.aload_n 0, 1) := by decide +kernel
theorem dX5_setOut_25 : decode cX5_setOut 25 = .ok (.getfield 15, 3) := by decide +kernel
theorem dX5_setOut_28 : decode cX5_setOut 28 = .ok (.getfield 45, 3) := by decide +kernel
theorem dX5_setOut_31 : decode cX5_setOut 31 = .ok (.iload_n 1, 1) := by decide +kernel
theorem dX5_setOut_32 : decode cX5_setOut 32 = .ok (.invokestatic 41, 3) := by decide +kernel
theorem dX5_setOut_35 : decode cX5_setOut 35 = .ok (.bipush (-6), 2) := by decide +kernel
theorem dX5_setOut_37 : decode cX5_setOut 37 = .ok (.if_icmp .ne 11, 3) := by decide +kernel
theorem dX5_setOut_40 : decode cX5_setOut 40 = .ok (.aload_n 0, 1) := by decide +kernel
theorem dX5_setOut_41 : decode cX5_setOut 41 = .ok (.iload_n 1, 1) := by decide +kernel
theorem dX5_setOut_42 : decode cX5_setOut 42 = .ok (.invokevirtual 48, 3) := by decide +kernel
theorem dX5_setOut_45 : decode cX5_setOut 45 = .ok (.goto 5, 3) := by decide +kernel
theorem dX5_setOut_48 : decode cX5_setOut 48 = .ok (.bipush (-6), 2) := by decide +kernel
theorem dX5_setOut_50 : decode cX5_setOut 50 = .ok (.istore_n 3, 1) := by decide +kernel
theorem dX5_setOut_51 : decode cX5_setOut 51 = .ok (.iload_n 3, 1) := by decide +kernel
theorem dX5_setOut_52 : decode cX5_setOut 52 = .ok (.bipush (-6), 2) := by decide +kernel
theorem dX5_setOut_54 : decode cX5_setOut 54 = .ok (.if_icmp .eq 13, 3) := by decide +kernel
theorem dX5_setOut_57 : decode cX5_setOut 57 = .ok (.aload_n 0, 1) := by decide +kernel
theorem dX5_setOut_58 : decode cX5_setOut 58 = .ok (.getfield 15, 3) := by decide +kernel
theorem dX5_setOut_61 : decode cX5_setOut 61 = .ok (.iload_n 1, 1) := by decide +kernel
theorem dX5_setOut_62 : decode cX5_setOut 62 = .ok (.iload_n 3, 1) := by decide +kernel
theorem dX5_setOut_63 : decode cX5_setOut 63 = .ok (.iload_n 2, 1) := by decide +kernel
theorem dX5_setOut_64 : decode cX5_setOut 64 = .ok (.invokevirtual 51, 3) := by decide +kernel
theorem dX5_setOut_67 : decode cX5_setOut 67 = .ok (.iinc 1 1, 3) := by decide +kernel
theorem dX5_setOut_70 : decode cX5_setOut 70 = .ok (.goto (-68), 3) := by decide +kernel
theorem dX5_setOut_73 : decode cX5_setOut 73 = .ok (.return_, 1) := by decide +kernel
set_option maxRecDepth 20000 in
theorem ggX5_leastName_X7_at : GoodIn wsX5_leastName wsX7_at := goodIn_r _ [6] (by decide +kernel) (by decide +kernel)
set_option maxRecDepth 20000 in
theorem gX5_leastName_X7_at_n41 : GoodIn wsX5_leastName (wsX7_at) := ggX5_leastName_X7_at
set_option maxRecDepth 20000 in
theorem ggX5_leastName_X3_lets : GoodIn wsX5_leastName wsX3_lets := goodIn_r _ [11, 12, 13, 5, 14, 15, 16, 25, 26, 27, 28, 29] (by decide +kernel) (by decide +kernel)
set_option maxRecDepth 20000 in
theorem gX5_leastName_X3_lets : GoodIn wsX5_leastName (wsV RX5 58 RX3 yX3_lets wsX3_lets) := goodIn_app (goodIn_of _ (by decide +kernel)) ggX5_leastName_X3_lets
theorem dX5_leastName_0 : decode cX5_leastName 0 = .ok (.iconst 0, 1) := by decide +kernel
theorem dX5_leastName_1 : decode cX5_leastName 1 = .ok (.istore_n 2, 1) := by decide +kernel
theorem dX5_leastName_2 : decode cX5_leastName 2 = .ok (.iload_n 2, 1) := by decide +kernel
theorem dX5_leastName_3 : decode cX5_leastName 3 = .ok (.iconst 5, 1) := by decide +kernel
theorem dX5_leastName_4 : decode cX5_leastName 4 = .ok (.if_icmp .ge 39, 3) := by decide +kernel
theorem dX5_leastName_7 : decode cX5_leastName 7 = .ok (.aload_n 0, 1) := by decide +kernel
theorem dX5_leastName_8 : decode cX5_leastName 8 = .ok (.getfield 15, 3) := by decide +kernel
theorem dX5_leastName_11 : decode cX5_leastName 11 = .ok (.getfield 55, 3) := by decide +kernel
theorem dX5_leastName_14 : decode cX5_leastName 14 = .ok (.iload_n 2, 1) := by decide +kernel
theorem dX5_leastName_15 : decode cX5_leastName 15 = .ok (.invokestatic 41, 3) := by decide +kernel
theorem dX5_leastName_18 : decode cX5_leastName 18 = .ok (.bipush (-6), 2) := by decide +kernel
theorem dX5_leastName_20 : decode cX5_leastName 20 = .ok (.if_icmp .ne 17, 3) := by decide +kernel
theorem dX5_leastName_23 : decode cX5_leastName 23 = .ok (.aload_n 0, 1) := by decide +kernel
theorem dX5_leastName_24 : decode cX5_leastName 24 = .ok (.getfield 9, 3) := by decide +kernel
theorem dX5_leastName_27 : decode cX5_leastName 27 = .ok (.iload_n 1, 1) := by decide +kernel
theorem dX5_leastName_28 : decode cX5_leastName 28 = .ok (.iload_n 2, 1) := by decide +kernel
theorem dX5_leastName_29 : decode cX5_leastName 29 = .ok (.invokevirtual 58, 3) := by decide +kernel
theorem dX5_leastName_32 : decode cX5_leastName 32 = .ok (.ifCond .eq 5, 3) := by decide +kernel
theorem dX5_leastName_35 : decode cX5_leastName 35 = .ok (.iload_n 2, 1) := by decide +kernel
theorem dX5_leastName_36 : decode cX5_leastName 36 = .ok (.ireturn, 1) := by decide +kernel
theorem dX5_leastName_37 : decode cX5_leastName 37 = .ok (.iinc 2 1, 3) := by decide +kernel
theorem dX5_leastName_40 : decode cX5_leastName 40 = .ok (.goto (-38), 3) := by decide +kernel
theorem dX5_leastName_43 : decode cX5_leastName 43 = .ok (.bipush (-6), 2) := by decide +kernel
theorem dX5_leastName_45 : decode cX5_leastName 45 = .ok (.ireturn, 1) := by decide +kernel
set_option maxRecDepth 20000 in
theorem ggX5_storm_X7_at : GoodIn wsX5_storm wsX7_at := goodIn_r _ [8] (by decide +kernel) (by decide +kernel)
set_option maxRecDepth 20000 in
theorem gX5_storm_X7_at_n41 : GoodIn wsX5_storm (wsX7_at) := ggX5_storm_X7_at
set_option maxRecDepth 20000 in
theorem ggX5_storm_X7_isName : GoodIn wsX5_storm wsX7_isName := goodIn_r _ [10] (by decide +kernel) (by decide +kernel)
set_option maxRecDepth 20000 in
theorem gX5_storm_X7_isName_n62 : GoodIn wsX5_storm (wsX7_isName) := ggX5_storm_X7_isName
set_option maxRecDepth 20000 in
theorem ggX5_storm_X4_drown : GoodIn wsX5_storm wsX4_drown := goodIn_r _ [15, 16, 17, 18, 19, 6, 7, 8, 20, 21, 24, 25, 26, 27, 28, 29] (by decide +kernel) (by decide +kernel)
set_option maxRecDepth 20000 in
theorem gX5_storm_X4_drown : GoodIn wsX5_storm (wsV RX5 70 RX4 yX4_drown wsX4_drown) := goodIn_app (goodIn_of _ (by decide +kernel)) ggX5_storm_X4_drown
theorem dX5_storm_0 : decode cX5_storm 0 = .ok (.iload_n 1, 1) := by decide +kernel
theorem dX5_storm_1 : decode cX5_storm 1 = .ok (.istore_n 2, 1) := by decide +kernel
theorem dX5_storm_2 : decode cX5_storm 2 = .ok (.iconst 0, 1) := by decide +kernel
theorem dX5_storm_3 : decode cX5_storm 3 = .ok (.istore_n 3, 1) := by decide +kernel
theorem dX5_storm_4 : decode cX5_storm 4 = .ok (.iload_n 3, 1) := by decide +kernel
theorem dX5_storm_5 : decode cX5_storm 5 = .ok (.bipush 6, 2) := by decide +kernel
theorem dX5_storm_7 : decode cX5_storm 7 = .ok (.if_icmp .ge 72, 3) := by decide +kernel
theorem dX5_storm_10 : decode cX5_storm 10 = .ok (.aload_n 0, 1) := by decide +kernel
theorem dX5_storm_11 : decode cX5_storm 11 = .ok (.getfield 15, 3) := by decide +kernel
theorem dX5_storm_14 : decode cX5_storm 14 = .ok (.getfield 45, 3) := by decide +kernel
theorem dX5_storm_17 : decode cX5_storm 17 = .ok (.iload_n 3, 1) := by decide +kernel
theorem dX5_storm_18 : decode cX5_storm 18 = .ok (.invokestatic 41, 3) := by decide +kernel
theorem dX5_storm_21 : decode cX5_storm 21 = .ok (.istore 4, 2) := by decide +kernel
theorem dX5_storm_23 : decode cX5_storm 23 = .ok (.iload 4, 2) := by decide +kernel
theorem dX5_storm_25 : decode cX5_storm 25 = .ok (.invokestatic 62, 3) := by decide +kernel
theorem dX5_storm_28 : decode cX5_storm 28 = .ok (.ifCond .eq 45, 3) := by decide +kernel
theorem dX5_storm_31 : decode cX5_storm 31 = .ok (.bipush 75, 2) := by decide +kernel
theorem dX5_storm_33 : decode cX5_storm 33 = .ok (.iload_n 2, 1) := by decide +kernel
theorem dX5_storm_34 : decode cX5_storm 34 = .ok (.imul, 1) := by decide +kernel
theorem dX5_storm_35 : decode cX5_storm 35 = .ok (.bipush 74, 2) := by decide +kernel
theorem dX5_storm_37 : decode cX5_storm 37 = .ok (.iadd, 1) := by decide +kernel
theorem dX5_storm_38 : decode cX5_storm 38 = .ok (.ldc 66, 2) := by decide +kernel
theorem dX5_storm_40 : decode cX5_storm 40 = .ok (.irem, 1) := by decide +kernel
theorem dX5_storm_41 : decode cX5_storm 41 = .ok (.istore_n 2, 1) := by decide +kernel
theorem dX5_storm_42 : decode cX5_storm 42 = .ok (.iload_n 2, 1) := by decide +kernel
theorem dX5_storm_43 : decode cX5_storm 43 = .ok (.bipush 100, 2) := by decide +kernel
theorem dX5_storm_45 : decode cX5_storm 45 = .ok (.irem, 1) := by decide +kernel
theorem dX5_storm_46 : decode cX5_storm 46 = .ok (.bipush 10, 2) := by decide +kernel
theorem dX5_storm_48 : decode cX5_storm 48 = .ok (.aload_n 0, 1) := by decide +kernel
theorem dX5_storm_49 : decode cX5_storm 49 = .ok (.getfield 9, 3) := by decide +kernel
theorem dX5_storm_52 : decode cX5_storm 52 = .ok (.getfield 67, 3) := by decide +kernel
theorem dX5_storm_55 : decode cX5_storm 55 = .ok (.iload 4, 2) := by decide +kernel
theorem dX5_storm_57 : decode cX5_storm 57 = .ok (.invokestatic 41, 3) := by decide +kernel
theorem dX5_storm_60 : decode cX5_storm 60 = .ok (.isub, 1) := by decide +kernel
theorem dX5_storm_61 : decode cX5_storm 61 = .ok (.if_icmp .ge 12, 3) := by decide +kernel
theorem dX5_storm_64 : decode cX5_storm 64 = .ok (.aload_n 0, 1) := by decide +kernel
theorem dX5_storm_65 : decode cX5_storm 65 = .ok (.getfield 15, 3) := by decide +kernel
theorem dX5_storm_68 : decode cX5_storm 68 = .ok (.iload 4, 2) := by decide +kernel
theorem dX5_storm_70 : decode cX5_storm 70 = .ok (.invokevirtual 70, 3) := by decide +kernel
theorem dX5_storm_73 : decode cX5_storm 73 = .ok (.iinc 3 1, 3) := by decide +kernel
theorem dX5_storm_76 : decode cX5_storm 76 = .ok (.goto (-72), 3) := by decide +kernel
theorem dX5_storm_79 : decode cX5_storm 79 = .ok (.iload_n 2, 1) := by decide +kernel
theorem dX5_storm_80 : decode cX5_storm 80 = .ok (.ireturn, 1) := by decide +kernel
