theorem dX2_init_0 : decode cX2_init 0 = .ok (.aload_n 0, 1) := by decide +kernel
theorem dX2_init_1 : decode cX2_init 1 = .ok (.invokespecial 3, 3) := by decide +kernel
theorem dX2_init_4 : decode cX2_init 4 = .ok (.aload_n 0, 1) := by decide +kernel
theorem dX2_init_5 : decode cX2_init 5 = .ok (.bipush 48, 2) := by decide +kernel
theorem dX2_init_7 : decode cX2_init 7 = .ok (.newarray .int, 2) := by decide +kernel
theorem dX2_init_9 : decode cX2_init 9 = .ok (.putfield 9, 3) := by decide +kernel
theorem dX2_init_12 : decode cX2_init 12 = .ok (.aload_n 0, 1) := by decide +kernel
theorem dX2_init_13 : decode cX2_init 13 = .ok (.bipush 48, 2) := by decide +kernel
theorem dX2_init_15 : decode cX2_init 15 = .ok (.newarray .int, 2) := by decide +kernel
theorem dX2_init_17 : decode cX2_init 17 = .ok (.putfield 15, 3) := by decide +kernel
theorem dX2_init_20 : decode cX2_init 20 = .ok (.aload_n 0, 1) := by decide +kernel
theorem dX2_init_21 : decode cX2_init 21 = .ok (.bipush 48, 2) := by decide +kernel
theorem dX2_init_23 : decode cX2_init 23 = .ok (.newarray .int, 2) := by decide +kernel
theorem dX2_init_25 : decode cX2_init 25 = .ok (.putfield 18, 3) := by decide +kernel
theorem dX2_init_28 : decode cX2_init 28 = .ok (.aload_n 0, 1) := by decide +kernel
theorem dX2_init_29 : decode cX2_init 29 = .ok (.bipush 48, 2) := by decide +kernel
theorem dX2_init_31 : decode cX2_init 31 = .ok (.newarray .int, 2) := by decide +kernel
theorem dX2_init_33 : decode cX2_init 33 = .ok (.putfield 21, 3) := by decide +kernel
theorem dX2_init_36 : decode cX2_init 36 = .ok (.aload_n 0, 1) := by decide +kernel
theorem dX2_init_37 : decode cX2_init 37 = .ok (.bipush 48, 2) := by decide +kernel
theorem dX2_init_39 : decode cX2_init 39 = .ok (.newarray .int, 2) := by decide +kernel
theorem dX2_init_41 : decode cX2_init 41 = .ok (.putfield 24, 3) := by decide +kernel
theorem dX2_init_44 : decode cX2_init 44 = .ok (.return_, 1) := by decide +kernel
theorem dX2_add_0 : decode cX2_add 0 = .ok (.aload_n 0, 1) := by decide +kernel
theorem dX2_add_1 : decode cX2_add 1 = .ok (.getfield 27, 3) := by decide +kernel
theorem dX2_add_4 : decode cX2_add 4 = .ok (.ifCond .lt 12, 3) := by decide +kernel
theorem dX2_add_7 : decode cX2_add 7 = .ok (.aload_n 0, 1) := by decide +kernel
theorem dX2_add_8 : decode cX2_add 8 = .ok (.getfield 27, 3) := by decide +kernel
theorem dX2_add_11 : decode cX2_add 11 = .ok (.bipush 48, 2) := by decide +kernel
theorem dX2_add_13 : decode cX2_add 13 = .ok (.if_icmp .lt 6, 3) := by decide +kernel
theorem dX2_add_16 : decode cX2_add 16 = .ok (.bipush (-4), 2) := by decide +kernel
theorem dX2_add_18 : decode cX2_add 18 = .ok (.ireturn, 1) := by decide +kernel
theorem dX2_add_19 : decode cX2_add 19 = .ok (.aload_n 0, 1) := by decide +kernel
theorem dX2_add_20 : decode cX2_add 20 = .ok (.getfield 9, 3) := by decide +kernel
theorem dX2_add_23 : decode cX2_add 23 = .ok (.aload_n 0, 1) := by decide +kernel
theorem dX2_add_24 : decode cX2_add 24 = .ok (.getfield 27, 3) := by decide +kernel
theorem dX2_add_27 : decode cX2_add 27 = .ok (.iload_n 1, 1) := by decide +kernel
theorem dX2_add_28 : decode cX2_add 28 = .ok (.iastore, 1) := by decide +kernel
theorem dX2_add_29 : decode cX2_add 29 = .ok (.aload_n 0, 1) := by decide +kernel
theorem dX2_add_30 : decode cX2_add 30 = .ok (.dup, 1) := by decide +kernel
theorem dX2_add_31 : decode cX2_add 31 = .ok (.getfield 27, 3) := by decide +kernel
theorem dX2_add_34 : decode cX2_add 34 = .ok (.iconst 1, 1) := by decide +kernel
theorem dX2_add_35 : decode cX2_add 35 = .ok (.iadd, 1) := by decide +kernel
theorem dX2_add_36 : decode cX2_add 36 = .ok (.putfield 27, 3) := by decide +kernel
theorem dX2_add_39 : decode cX2_add 39 = .ok (.aload_n 0, 1) := by decide +kernel
theorem dX2_add_40 : decode cX2_add 40 = .ok (.getfield 27, 3) := by decide +kernel
theorem dX2_add_43 : decode cX2_add 43 = .ok (.ireturn, 1) := by decide +kernel
set_option maxRecDepth 20000 in
theorem ggX2_read_X2_takes : GoodIn wsX2_read wsX2_takes := goodIn_r _ [11, 4, 12, 13, 14, 10, 15, 3, 2, 16, 17, 18, 19, 20, 1, 21, 22, 23, 24, 25, 26, 27, 28, 29, 30, 31, 32, 33, 34, 35, 36, 37, 38, 39, 40, 41, 42, 43, 44, 45, 46, 47, 48] (by decide +kernel) (by decide +kernel)
set_option maxRecDepth 20000 in
theorem gX2_read_X2_takes : GoodIn wsX2_read (wsV RX2 43 RX2 yX2_takes wsX2_takes) := goodIn_app (goodIn_of _ (by decide +kernel)) ggX2_read_X2_takes
theorem dX2_read_0 : decode cX2_read 0 = .ok (.aload_n 0, 1) := by decide +kernel
theorem dX2_read_1 : decode cX2_read 1 = .ok (.iconst 0, 1) := by decide +kernel
theorem dX2_read_2 : decode cX2_read 2 = .ok (.putfield 31, 3) := by decide +kernel
theorem dX2_read_5 : decode cX2_read 5 = .ok (.aload_n 0, 1) := by decide +kernel
theorem dX2_read_6 : decode cX2_read 6 = .ok (.iconst 0, 1) := by decide +kernel
theorem dX2_read_7 : decode cX2_read 7 = .ok (.putfield 34, 3) := by decide +kernel
theorem dX2_read_10 : decode cX2_read 10 = .ok (.aload_n 0, 1) := by decide +kernel
theorem dX2_read_11 : decode cX2_read 11 = .ok (.iconst 0, 1) := by decide +kernel
theorem dX2_read_12 : decode cX2_read 12 = .ok (.putfield 37, 3) := by decide +kernel
theorem dX2_read_15 : decode cX2_read 15 = .ok (.aload_n 0, 1) := by decide +kernel
theorem dX2_read_16 : decode cX2_read 16 = .ok (.iconst 0, 1) := by decide +kernel
theorem dX2_read_17 : decode cX2_read 17 = .ok (.putfield 40, 3) := by decide +kernel
theorem dX2_read_20 : decode cX2_read 20 = .ok (.iconst 0, 1) := by decide +kernel
theorem dX2_read_21 : decode cX2_read 21 = .ok (.istore_n 1, 1) := by decide +kernel
theorem dX2_read_22 : decode cX2_read 22 = .ok (.iload_n 1, 1) := by decide +kernel
theorem dX2_read_23 : decode cX2_read 23 = .ok (.aload_n 0, 1) := by decide +kernel
theorem dX2_read_24 : decode cX2_read 24 = .ok (.getfield 27, 3) := by decide +kernel
theorem dX2_read_27 : decode cX2_read 27 = .ok (.if_icmp .ge 30, 3) := by decide +kernel
theorem dX2_read_30 : decode cX2_read 30 = .ok (.iload_n 1, 1) := by decide +kernel
theorem dX2_read_31 : decode cX2_read 31 = .ok (.bipush 48, 2) := by decide +kernel
theorem dX2_read_33 : decode cX2_read 33 = .ok (.if_icmp .ge 24, 3) := by decide +kernel
theorem dX2_read_36 : decode cX2_read 36 = .ok (.aload_n 0, 1) := by decide +kernel
theorem dX2_read_37 : decode cX2_read 37 = .ok (.aload_n 0, 1) := by decide +kernel
theorem dX2_read_38 : decode cX2_read 38 = .ok (.getfield 9, 3) := by decide +kernel
theorem dX2_read_41 : decode cX2_read 41 = .ok (.iload_n 1, 1) := by decide +kernel
theorem dX2_read_42 : decode cX2_read 42 = .ok (.iaload, 1) := by decide +kernel
theorem dX2_read_43 : decode cX2_read 43 = .ok (.invokevirtual 43, 3) := by decide +kernel
theorem dX2_read_46 : decode cX2_read 46 = .ok (.ifCond .ne 5, 3) := by decide +kernel
theorem dX2_read_49 : decode cX2_read 49 = .ok (.iload_n 1, 1) := by decide +kernel
theorem dX2_read_50 : decode cX2_read 50 = .ok (.ireturn, 1) := by decide +kernel
theorem dX2_read_51 : decode cX2_read 51 = .ok (.iinc 1 1, 3) := by decide +kernel
theorem dX2_read_54 : decode cX2_read 54 = .ok (.goto (-32), 3) := by decide +kernel
theorem dX2_read_57 : decode cX2_read 57 = .ok (.aload_n 0, 1) := by decide +kernel
theorem dX2_read_58 : decode cX2_read 58 = .ok (.getfield 40, 3) := by decide +kernel
theorem dX2_read_61 : decode cX2_read 61 = .ok (.ifCond .ne 8, 3) := by decide +kernel
theorem dX2_read_64 : decode cX2_read 64 = .ok (.bipush (-6), 2) := by decide +kernel
theorem dX2_read_66 : decode cX2_read 66 = .ok (.goto 7, 3) := by decide +kernel
theorem dX2_read_69 : decode cX2_read 69 = .ok (.aload_n 0, 1) := by decide +kernel
theorem dX2_read_70 : decode cX2_read 70 = .ok (.getfield 27, 3) := by decide +kernel
theorem dX2_read_73 : decode cX2_read 73 = .ok (.ireturn, 1) := by decide +kernel
set_option maxRecDepth 20000 in
theorem ggX2_takes_X2_takesStart : GoodIn wsX2_takes wsX2_takesStart := goodIn_r _ [6, 7, 1, 8, 9, 10, 11, 5, 12, 13, 14, 15, 16, 17, 18, 19, 20, 21, 22, 33, 34, 35, 36, 37, 38, 39, 40, 41, 42] (by decide +kernel) (by decide +kernel)
set_option maxRecDepth 20000 in
theorem gX2_takes_X2_takesStart : GoodIn wsX2_takes (wsV RX2 47 RX2 yX2_takesStart wsX2_takesStart) := goodIn_app (goodIn_of _ (by decide +kernel)) ggX2_takes_X2_takesStart
set_option maxRecDepth 20000 in
theorem ggX2_takes_X2_takesDays : GoodIn wsX2_takes wsX2_takesDays := goodIn_r _ [26, 27, 14, 15, 16, 17, 9, 10, 11, 5, 12, 13, 1, 33, 34, 35, 36, 37, 38, 39, 40, 41, 42] (by decide +kernel) (by decide +kernel)
set_option maxRecDepth 20000 in
theorem gX2_takes_X2_takesDays : GoodIn wsX2_takes (wsV RX2 50 RX2 yX2_takesDays wsX2_takesDays) := goodIn_app (goodIn_of _ (by decide +kernel)) ggX2_takes_X2_takesDays
set_option maxRecDepth 20000 in
theorem ggX2_takes_X2_takesName : GoodIn wsX2_takes wsX2_takesName := goodIn_r _ [31, 32, 14, 1, 15, 16, 17, 9, 10, 11, 5, 12, 13, 33, 34, 35, 36, 37, 38, 39, 40, 41, 42] (by decide +kernel) (by decide +kernel)
set_option maxRecDepth 20000 in
theorem gX2_takes_X2_takesName : GoodIn wsX2_takes (wsV RX2 53 RX2 yX2_takesName wsX2_takesName) := goodIn_app (goodIn_of _ (by decide +kernel)) ggX2_takes_X2_takesName
theorem dX2_takes_0 : decode cX2_takes 0 = .ok (.aload_n 0, 1) := by decide +kernel
theorem dX2_takes_1 : decode cX2_takes 1 = .ok (.getfield 40, 3) := by decide +kernel
theorem dX2_takes_4 : decode cX2_takes 4 = .ok (.lookupswitch 40 #[(0, 28), (2, 34)], 28) := by decide +kernel
theorem dX2_takes_32 : decode cX2_takes 32 = .ok (.aload_n 0, 1) := by decide +kernel
theorem dX2_takes_33 : decode cX2_takes 33 = .ok (.iload_n 1, 1) := by decide +kernel
theorem dX2_takes_34 : decode cX2_takes 34 = .ok (.invokevirtual 47, 3) := by decide +kernel
theorem dX2_takes_37 : decode cX2_takes 37 = .ok (.ireturn, 1) := by decide +kernel
theorem dX2_takes_38 : decode cX2_takes 38 = .ok (.aload_n 0, 1) := by decide +kernel
theorem dX2_takes_39 : decode cX2_takes 39 = .ok (.iload_n 1, 1) := by decide +kernel
theorem dX2_takes_40 : decode cX2_takes 40 = .ok (.invokevirtual 50, 3) := by decide +kernel
theorem dX2_takes_43 : decode cX2_takes 43 = .ok (.ireturn, 1) := by decide +kernel
theorem dX2_takes_44 : decode cX2_takes 44 = .ok (.aload_n 0, 1) := by decide +kernel
theorem dX2_takes_45 : decode cX2_takes 45 = .ok (.iload_n 1, 1) := by decide +kernel
theorem dX2_takes_46 : decode cX2_takes 46 = .ok (.invokevirtual 53, 3) := by decide +kernel
theorem dX2_takes_49 : decode cX2_takes 49 = .ok (.ireturn, 1) := by decide +kernel
set_option maxRecDepth 20000 in
theorem ggX2_takesStart_X2_close : GoodIn wsX2_takesStart wsX2_close := goodIn_r _ [8, 9, 10, 2, 11, 12, 13, 19, 20, 21, 22, 23, 24, 25, 26, 27, 28] (by decide +kernel) (by decide +kernel)
set_option maxRecDepth 20000 in
theorem gX2_takesStart_X2_close : GoodIn wsX2_takesStart (wsV RX2 56 RX2 yX2_close wsX2_close) := goodIn_app (goodIn_of _ (by decide +kernel)) ggX2_takesStart_X2_close
set_option maxRecDepth 20000 in
theorem ggX2_takesStart_X2_startsSail : GoodIn wsX2_takesStart wsX2_startsSail := goodIn_r _ [17, 18, 10, 2, 11, 12, 13, 19, 20, 21, 22, 23, 24, 25, 26, 27, 28] (by decide +kernel) (by decide +kernel)
set_option maxRecDepth 20000 in
theorem gX2_takesStart_X2_startsSail : GoodIn wsX2_takesStart (wsV RX2 60 RX2 yX2_startsSail wsX2_startsSail) := goodIn_app (goodIn_of _ (by decide +kernel)) ggX2_takesStart_X2_startsSail
theorem dX2_takesStart_0 : decode cX2_takesStart 0 = .ok (.iload_n 1, 1) := by decide +kernel
theorem dX2_takesStart_1 : decode cX2_takesStart 1 = .ok (.bipush 46, 2) := by decide +kernel
theorem dX2_takesStart_3 : decode cX2_takesStart 3 = .ok (.if_icmp .ne 20, 3) := by decide +kernel
theorem dX2_takesStart_6 : decode cX2_takesStart 6 = .ok (.aload_n 0, 1) := by decide +kernel
theorem dX2_takesStart_7 : decode cX2_takesStart 7 = .ok (.dup, 1) := by decide +kernel
theorem dX2_takesStart_8 : decode cX2_takesStart 8 = .ok (.getfield 37, 3) := by decide +kernel
theorem dX2_takesStart_11 : decode cX2_takesStart 11 = .ok (.iconst 1, 1) := by decide +kernel
theorem dX2_takesStart_12 : decode cX2_takesStart 12 = .ok (.iadd, 1) := by decide +kernel
theorem dX2_takesStart_13 : decode cX2_takesStart 13 = .ok (.putfield 37, 3) := by decide +kernel
theorem dX2_takesStart_16 : decode cX2_takesStart 16 = .ok (.aload_n 0, 1) := by decide +kernel
theorem dX2_takesStart_17 : decode cX2_takesStart 17 = .ok (.iconst 2, 1) := by decide +kernel
theorem dX2_takesStart_18 : decode cX2_takesStart 18 = .ok (.invokevirtual 56, 3) := by decide +kernel
theorem dX2_takesStart_21 : decode cX2_takesStart 21 = .ok (.iconst 1, 1) := by decide +kernel
theorem dX2_takesStart_22 : decode cX2_takesStart 22 = .ok (.ireturn, 1) := by decide +kernel
theorem dX2_takesStart_23 : decode cX2_takesStart 23 = .ok (.iload_n 1, 1) := by decide +kernel
theorem dX2_takesStart_24 : decode cX2_takesStart 24 = .ok (.bipush 33, 2) := by decide +kernel
theorem dX2_takesStart_26 : decode cX2_takesStart 26 = .ok (.if_icmp .ne 10, 3) := by decide +kernel
theorem dX2_takesStart_29 : decode cX2_takesStart 29 = .ok (.aload_n 0, 1) := by decide +kernel
theorem dX2_takesStart_30 : decode cX2_takesStart 30 = .ok (.iconst 3, 1) := by decide +kernel
theorem dX2_takesStart_31 : decode cX2_takesStart 31 = .ok (.putfield 40, 3) := by decide +kernel
theorem dX2_takesStart_34 : decode cX2_takesStart 34 = .ok (.iconst 1, 1) := by decide +kernel
theorem dX2_takesStart_35 : decode cX2_takesStart 35 = .ok (.ireturn, 1) := by decide +kernel
theorem dX2_takesStart_36 : decode cX2_takesStart 36 = .ok (.iload_n 1, 1) := by decide +kernel
theorem dX2_takesStart_37 : decode cX2_takesStart 37 = .ok (.bipush 63, 2) := by decide +kernel
theorem dX2_takesStart_39 : decode cX2_takesStart 39 = .ok (.if_icmp .ne 27, 3) := by decide +kernel
theorem dX2_takesStart_42 : decode cX2_takesStart 42 = .ok (.aload_n 0, 1) := by decide +kernel
theorem dX2_takesStart_43 : decode cX2_takesStart 43 = .ok (.getfield 34, 3) := by decide +kernel
theorem dX2_takesStart_46 : decode cX2_takesStart 46 = .ok (.iconst 4, 1) := by decide +kernel
theorem dX2_takesStart_47 : decode cX2_takesStart 47 = .ok (.if_icmp .ge 19, 3) := by decide +kernel
theorem dX2_takesStart_50 : decode cX2_takesStart 50 = .ok (.aload_n 0, 1) := by decide +kernel
theorem dX2_takesStart_51 : decode cX2_takesStart 51 = .ok (.dup, 1) := by decide +kernel
theorem dX2_takesStart_52 : decode cX2_takesStart 52 = .ok (.getfield 34, 3) := by decide +kernel
theorem dX2_takesStart_55 : decode cX2_takesStart 55 = .ok (.iconst 1, 1) := by decide +kernel
theorem dX2_takesStart_56 : decode cX2_takesStart 56 = .ok (.iadd, 1) := by decide +kernel
theorem dX2_takesStart_57 : decode cX2_takesStart 57 = .ok (.putfield 34, 3) := by decide +kernel
theorem dX2_takesStart_60 : decode cX2_takesStart 60 = .ok (.aload_n 0, 1) := by decide +kernel
theorem dX2_takesStart_61 : decode cX2_takesStart 61 = .ok (.iconst (-1), 1) := by decide +kernel
theorem dX2_takesStart_62 : decode cX2_takesStart 62 = .ok (.invokevirtual 60, 3) := by decide +kernel
theorem dX2_takesStart_65 : decode cX2_takesStart 65 = .ok (.ireturn, 1) := by decide +kernel
theorem dX2_takesStart_66 : decode cX2_takesStart 66 = .ok (.iload_n 1, 1) := by decide +kernel
theorem dX2_takesStart_67 : decode cX2_takesStart 67 = .ok (.bipush 65, 2) := by decide +kernel
theorem dX2_takesStart_69 : decode cX2_takesStart 69 = .ok (.if_icmp .lt 24, 3) := by decide +kernel
theorem dX2_takesStart_72 : decode cX2_takesStart 72 = .ok (.iload_n 1, 1) := by decide +kernel
theorem dX2_takesStart_73 : decode cX2_takesStart 73 = .ok (.bipush 70, 2) := by decide +kernel
theorem dX2_takesStart_75 : decode cX2_takesStart 75 = .ok (.if_icmp .gt 18, 3) := by decide +kernel
theorem dX2_takesStart_78 : decode cX2_takesStart 78 = .ok (.aload_n 0, 1) := by decide +kernel
theorem dX2_takesStart_79 : decode cX2_takesStart 79 = .ok (.iload_n 1, 1) := by decide +kernel
theorem dX2_takesStart_80 : decode cX2_takesStart 80 = .ok (.bipush 65, 2) := by decide +kernel
theorem dX2_takesStart_82 : decode cX2_takesStart 82 = .ok (.isub, 1) := by decide +kernel
theorem dX2_takesStart_83 : decode cX2_takesStart 83 = .ok (.invokevirtual 60, 3) := by decide +kernel
theorem dX2_takesStart_86 : decode cX2_takesStart 86 = .ok (.ifCond .eq 7, 3) := by decide +kernel
theorem dX2_takesStart_89 : decode cX2_takesStart 89 = .ok (.iconst 1, 1) := by decide +kernel
theorem dX2_takesStart_90 : decode cX2_takesStart 90 = .ok (.goto 4, 3) := by decide +kernel
theorem dX2_takesStart_93 : decode cX2_takesStart 93 = .ok (.iconst 0, 1) := by decide +kernel
theorem dX2_takesStart_94 : decode cX2_takesStart 94 = .ok (.ireturn, 1) := by decide +kernel
set_option maxRecDepth 20000 in
theorem ggX2_startsSail_X7_put : GoodIn wsX2_startsSail wsX7_put := goodIn_r _ [6] (by decide +kernel) (by decide +kernel)
set_option maxRecDepth 20000 in
theorem gX2_startsSail_X7_put_n63 : GoodIn wsX2_startsSail (wsX7_put) := ggX2_startsSail_X7_put
theorem dX2_startsSail_0 : decode cX2_startsSail 0 = .ok (.aload_n 0, 1) := by decide +kernel
theorem dX2_startsSail_1 : decode cX2_startsSail 1 = .ok (.getfield 18, 3) := by decide +kernel
theorem dX2_startsSail_4 : decode cX2_startsSail 4 = .ok (.aload_n 0, 1) := by decide +kernel
theorem dX2_startsSail_5 : decode cX2_startsSail 5 = .ok (.getfield 31, 3) := by decide +kernel
theorem dX2_startsSail_8 : decode cX2_startsSail 8 = .ok (.iload_n 1, 1) := by decide +kernel
theorem dX2_startsSail_9 : decode cX2_startsSail 9 = .ok (.invokestatic 63, 3) := by decide +kernel
theorem dX2_startsSail_12 : decode cX2_startsSail 12 = .ok (.aload_n 0, 1) := by decide +kernel
theorem dX2_startsSail_13 : decode cX2_startsSail 13 = .ok (.iconst 1, 1) := by decide +kernel
theorem dX2_startsSail_14 : decode cX2_startsSail 14 = .ok (.putfield 40, 3) := by decide +kernel
theorem dX2_startsSail_17 : decode cX2_startsSail 17 = .ok (.iconst 1, 1) := by decide +kernel
theorem dX2_startsSail_18 : decode cX2_startsSail 18 = .ok (.ireturn, 1) := by decide +kernel
set_option maxRecDepth 20000 in
theorem ggX2_takesName_X7_put : GoodIn wsX2_takesName wsX7_put := goodIn_r _ [6] (by decide +kernel) (by decide +kernel)
set_option maxRecDepth 20000 in
theorem gX2_takesName_X7_put_n63 : GoodIn wsX2_takesName (wsX7_put) := ggX2_takesName_X7_put
set_option maxRecDepth 20000 in
theorem ggX2_takesName_X2_close : GoodIn wsX2_takesName wsX2_close := goodIn_r _ [11, 12, 2, 3, 4, 5, 6, 13, 14, 15, 16, 17, 18, 19, 20, 21, 22] (by decide +kernel) (by decide +kernel)
set_option maxRecDepth 20000 in
theorem gX2_takesName_X2_close : GoodIn wsX2_takesName (wsV RX2 56 RX2 yX2_close wsX2_close) := goodIn_app (goodIn_of _ (by decide +kernel)) ggX2_takesName_X2_close
theorem dX2_takesName_0 : decode cX2_takesName 0 = .ok (.iload_n 1, 1) := by decide +kernel
theorem dX2_takesName_1 : decode cX2_takesName 1 = .ok (.bipush 97, 2) := by decide +kernel
theorem dX2_takesName_3 : decode cX2_takesName 3 = .ok (.if_icmp .lt 9, 3) := by decide +kernel
theorem dX2_takesName_6 : decode cX2_takesName 6 = .ok (.iload_n 1, 1) := by decide +kernel
theorem dX2_takesName_7 : decode cX2_takesName 7 = .ok (.bipush 101, 2) := by decide +kernel
theorem dX2_takesName_9 : decode cX2_takesName 9 = .ok (.if_icmp .le 5, 3) := by decide +kernel
theorem dX2_takesName_12 : decode cX2_takesName 12 = .ok (.iconst 0, 1) := by decide +kernel
theorem dX2_takesName_13 : decode cX2_takesName 13 = .ok (.ireturn, 1) := by decide +kernel
theorem dX2_takesName_14 : decode cX2_takesName 14 = .ok (.aload_n 0, 1) := by decide +kernel
theorem dX2_takesName_15 : decode cX2_takesName 15 = .ok (.getfield 21, 3) := by decide +kernel
theorem dX2_takesName_18 : decode cX2_takesName 18 = .ok (.aload_n 0, 1) := by decide +kernel
theorem dX2_takesName_19 : decode cX2_takesName 19 = .ok (.getfield 31, 3) := by decide +kernel
theorem dX2_takesName_22 : decode cX2_takesName 22 = .ok (.iload_n 1, 1) := by decide +kernel
theorem dX2_takesName_23 : decode cX2_takesName 23 = .ok (.bipush 97, 2) := by decide +kernel
theorem dX2_takesName_25 : decode cX2_takesName 25 = .ok (.isub, 1) := by decide +kernel
theorem dX2_takesName_26 : decode cX2_takesName 26 = .ok (.invokestatic 63, 3) := by decide +kernel
theorem dX2_takesName_29 : decode cX2_takesName 29 = .ok (.aload_n 0, 1) := by decide +kernel
theorem dX2_takesName_30 : decode cX2_takesName 30 = .ok (.getfield 40, 3) := by decide +kernel
theorem dX2_takesName_33 : decode cX2_takesName 33 = .ok (.iconst 1, 1) := by decide +kernel
theorem dX2_takesName_34 : decode cX2_takesName 34 = .ok (.if_icmp .ne 11, 3) := by decide +kernel
theorem dX2_takesName_37 : decode cX2_takesName 37 = .ok (.aload_n 0, 1) := by decide +kernel
theorem dX2_takesName_38 : decode cX2_takesName 38 = .ok (.iconst 2, 1) := by decide +kernel
theorem dX2_takesName_39 : decode cX2_takesName 39 = .ok (.putfield 40, 3) := by decide +kernel
theorem dX2_takesName_42 : decode cX2_takesName 42 = .ok (.goto 8, 3) := by decide +kernel
theorem dX2_takesName_45 : decode cX2_takesName 45 = .ok (.aload_n 0, 1) := by decide +kernel
theorem dX2_takesName_46 : decode cX2_takesName 46 = .ok (.iconst 1, 1) := by decide +kernel
theorem dX2_takesName_47 : decode cX2_takesName 47 = .ok (.invokevirtual 56, 3) := by decide +kernel
theorem dX2_takesName_50 : decode cX2_takesName 50 = .ok (.iconst 1, 1) := by decide +kernel
theorem dX2_takesName_51 : decode cX2_takesName 51 = .ok (.ireturn, 1) := by decide +kernel
set_option maxRecDepth 20000 in
theorem ggX2_takesDays_X7_put : GoodIn wsX2_takesDays wsX7_put := goodIn_r _ [5] (by decide +kernel) (by decide +kernel)
set_option maxRecDepth 20000 in
theorem gX2_takesDays_X7_put_n63 : GoodIn wsX2_takesDays (wsX7_put) := ggX2_takesDays_X7_put
set_option maxRecDepth 20000 in
theorem ggX2_takesDays_X2_close : GoodIn wsX2_takesDays wsX2_close := goodIn_r _ [10, 11, 2, 12, 3, 4, 5, 13, 14, 15, 16, 17, 18, 19, 20, 21, 22] (by decide +kernel) (by decide +kernel)
set_option maxRecDepth 20000 in
theorem gX2_takesDays_X2_close : GoodIn wsX2_takesDays (wsV RX2 56 RX2 yX2_close wsX2_close) := goodIn_app (goodIn_of _ (by decide +kernel)) ggX2_takesDays_X2_close
theorem dX2_takesDays_0 : decode cX2_takesDays 0 = .ok (.iload_n 1, 1) := by decide +kernel
theorem dX2_takesDays_1 : decode cX2_takesDays 1 = .ok (.bipush 49, 2) := by decide +kernel
theorem dX2_takesDays_3 : decode cX2_takesDays 3 = .ok (.if_icmp .lt 9, 3) := by decide +kernel
theorem dX2_takesDays_6 : decode cX2_takesDays 6 = .ok (.iload_n 1, 1) := by decide +kernel
theorem dX2_takesDays_7 : decode cX2_takesDays 7 = .ok (.bipush 57, 2) := by decide +kernel
theorem dX2_takesDays_9 : decode cX2_takesDays 9 = .ok (.if_icmp .le 5, 3) := by decide +kernel
theorem dX2_takesDays_12 : decode cX2_takesDays 12 = .ok (.iconst 0, 1) := by decide +kernel
theorem dX2_takesDays_13 : decode cX2_takesDays 13 = .ok (.ireturn, 1) := by decide +kernel
theorem dX2_takesDays_14 : decode cX2_takesDays 14 = .ok (.aload_n 0, 1) := by decide +kernel
theorem dX2_takesDays_15 : decode cX2_takesDays 15 = .ok (.getfield 24, 3) := by decide +kernel
theorem dX2_takesDays_18 : decode cX2_takesDays 18 = .ok (.aload_n 0, 1) := by decide +kernel
theorem dX2_takesDays_19 : decode cX2_takesDays 19 = .ok (.getfield 31, 3) := by decide +kernel
theorem dX2_takesDays_22 : decode cX2_takesDays 22 = .ok (.iload_n 1, 1) := by decide +kernel
theorem dX2_takesDays_23 : decode cX2_takesDays 23 = .ok (.bipush 48, 2) := by decide +kernel
theorem dX2_takesDays_25 : decode cX2_takesDays 25 = .ok (.isub, 1) := by decide +kernel
theorem dX2_takesDays_26 : decode cX2_takesDays 26 = .ok (.invokestatic 63, 3) := by decide +kernel
theorem dX2_takesDays_29 : decode cX2_takesDays 29 = .ok (.aload_n 0, 1) := by decide +kernel
theorem dX2_takesDays_30 : decode cX2_takesDays 30 = .ok (.iconst 0, 1) := by decide +kernel
theorem dX2_takesDays_31 : decode cX2_takesDays 31 = .ok (.invokevirtual 56, 3) := by decide +kernel
theorem dX2_takesDays_34 : decode cX2_takesDays 34 = .ok (.iconst 1, 1) := by decide +kernel
theorem dX2_takesDays_35 : decode cX2_takesDays 35 = .ok (.ireturn, 1) := by decide +kernel
set_option maxRecDepth 20000 in
theorem ggX2_close_X7_put : GoodIn wsX2_close wsX7_put := goodIn_r _ [6] (by decide +kernel) (by decide +kernel)
set_option maxRecDepth 20000 in
theorem gX2_close_X7_put_n63 : GoodIn wsX2_close (wsX7_put) := ggX2_close_X7_put
theorem dX2_close_0 : decode cX2_close 0 = .ok (.aload_n 0, 1) := by decide +kernel
theorem dX2_close_1 : decode cX2_close 1 = .ok (.getfield 15, 3) := by decide +kernel
theorem dX2_close_4 : decode cX2_close 4 = .ok (.aload_n 0, 1) := by decide +kernel
theorem dX2_close_5 : decode cX2_close 5 = .ok (.getfield 31, 3) := by decide +kernel
theorem dX2_close_8 : decode cX2_close 8 = .ok (.iload_n 1, 1) := by decide +kernel
theorem dX2_close_9 : decode cX2_close 9 = .ok (.invokestatic 63, 3) := by decide +kernel
theorem dX2_close_12 : decode cX2_close 12 = .ok (.aload_n 0, 1) := by decide +kernel
theorem dX2_close_13 : decode cX2_close 13 = .ok (.dup, 1) := by decide +kernel
theorem dX2_close_14 : decode cX2_close 14 = .ok (.getfield 31, 3) := by decide +kernel
theorem dX2_close_17 : decode cX2_close 17 = .ok (.iconst 1, 1) := by decide +kernel
theorem dX2_close_18 : decode cX2_close 18 = .ok (.iadd, 1) := by decide +kernel
theorem dX2_close_19 : decode cX2_close 19 = .ok (.putfield 31, 3) := by decide +kernel
theorem dX2_close_22 : decode cX2_close 22 = .ok (.aload_n 0, 1) := by decide +kernel
theorem dX2_close_23 : decode cX2_close 23 = .ok (.iconst 0, 1) := by decide +kernel
theorem dX2_close_24 : decode cX2_close 24 = .ok (.putfield 40, 3) := by decide +kernel
theorem dX2_close_27 : decode cX2_close 27 = .ok (.return_, 1) := by decide +kernel
