theorem dX1_init_0 : decode cX1_init 0 = .ok (.aload_n 0, 1) := by decide +kernel
theorem dX1_init_1 : decode cX1_init 1 = .ok (.invokespecial 3, 3) := by decide +kernel
theorem dX1_init_4 : decode cX1_init 4 = .ok (.aload_n 0, 1) := by decide +kernel
theorem dX1_init_5 : decode cX1_init 5 = .ok (.bipush 6, 2) := by decide +kernel
theorem dX1_init_7 : decode cX1_init 7 = .ok (.newarray .int, 2) := by decide +kernel
theorem dX1_init_9 : decode cX1_init 9 = .ok (.putfield 9, 3) := by decide +kernel
theorem dX1_init_12 : decode cX1_init 12 = .ok (.aload_n 0, 1) := by decide +kernel
theorem dX1_init_13 : decode cX1_init 13 = .ok (.bipush 6, 2) := by decide +kernel
theorem dX1_init_15 : decode cX1_init 15 = .ok (.newarray .int, 2) := by decide +kernel
theorem dX1_init_17 : decode cX1_init 17 = .ok (.putfield 15, 3) := by decide +kernel
theorem dX1_init_20 : decode cX1_init 20 = .ok (.aload_n 0, 1) := by decide +kernel
theorem dX1_init_21 : decode cX1_init 21 = .ok (.bipush 6, 2) := by decide +kernel
theorem dX1_init_23 : decode cX1_init 23 = .ok (.newarray .int, 2) := by decide +kernel
theorem dX1_init_25 : decode cX1_init 25 = .ok (.putfield 18, 3) := by decide +kernel
theorem dX1_init_28 : decode cX1_init 28 = .ok (.aload_n 0, 1) := by decide +kernel
theorem dX1_init_29 : decode cX1_init 29 = .ok (.iconst 5, 1) := by decide +kernel
theorem dX1_init_30 : decode cX1_init 30 = .ok (.newarray .int, 2) := by decide +kernel
theorem dX1_init_32 : decode cX1_init 32 = .ok (.putfield 21, 3) := by decide +kernel
theorem dX1_init_35 : decode cX1_init 35 = .ok (.aload_n 0, 1) := by decide +kernel
theorem dX1_init_36 : decode cX1_init 36 = .ok (.sipush 224, 3) := by decide +kernel
theorem dX1_init_39 : decode cX1_init 39 = .ok (.newarray .int, 2) := by decide +kernel
theorem dX1_init_41 : decode cX1_init 41 = .ok (.putfield 24, 3) := by decide +kernel
theorem dX1_init_44 : decode cX1_init 44 = .ok (.aload_n 0, 1) := by decide +kernel
theorem dX1_init_45 : decode cX1_init 45 = .ok (.aload_n 1, 1) := by decide +kernel
theorem dX1_init_46 : decode cX1_init 46 = .ok (.putfield 27, 3) := by decide +kernel
theorem dX1_init_49 : decode cX1_init 49 = .ok (.return_, 1) := by decide +kernel
set_option maxRecDepth 20000 in
theorem ggX1_open_X7_hasBit : GoodIn wsX1_open wsX7_hasBit := goodIn_r _ [8] (by decide +kernel) (by decide +kernel)
set_option maxRecDepth 20000 in
theorem gX1_open_X7_hasBit_n31 : GoodIn wsX1_open (wsX7_hasBit) := ggX1_open_X7_hasBit
set_option maxRecDepth 20000 in
theorem ggX1_open_X7_at : GoodIn wsX1_open wsX7_at := goodIn_r _ [10] (by decide +kernel) (by decide +kernel)
set_option maxRecDepth 20000 in
theorem gX1_open_X7_at_n40 : GoodIn wsX1_open (wsX7_at) := ggX1_open_X7_at
set_option maxRecDepth 20000 in
theorem ggX1_open_X7_fill : GoodIn wsX1_open wsX7_fill := goodIn_r _ [12] (by decide +kernel) (by decide +kernel)
set_option maxRecDepth 20000 in
theorem gX1_open_X7_fill_n44 : GoodIn wsX1_open (wsX7_fill) := ggX1_open_X7_fill
theorem dX1_open_0 : decode cX1_open 0 = .ok (.iconst 0, 1) := by decide +kernel
theorem dX1_open_1 : decode cX1_open 1 = .ok (.istore_n 3, 1) := by decide +kernel
theorem dX1_open_2 : decode cX1_open 2 = .ok (.iload_n 3, 1) := by decide +kernel
theorem dX1_open_3 : decode cX1_open 3 = .ok (.bipush 6, 2) := by decide +kernel
theorem dX1_open_5 : decode cX1_open 5 = .ok (.if_icmp .ge 40, 3) := by decide +kernel
theorem dX1_open_8 : decode cX1_open 8 = .ok (.aload_n 0, 1) := by decide +kernel
theorem dX1_open_9 : decode cX1_open 9 = .ok (.getfield 9, 3) := by decide +kernel
theorem dX1_open_12 : decode cX1_open 12 = .ok (.iload_n 3, 1) := by decide +kernel
theorem dX1_open_13 : decode cX1_open 13 = .ok (.iload_n 1, 1) := by decide +kernel
theorem dX1_open_14 : decode cX1_open 14 = .ok (.iload_n 3, 1) := by decide +kernel
theorem dX1_open_15 : decode cX1_open 15 = .ok (.invokestatic 31, 3) := by decide +kernel
theorem dX1_open_18 : decode cX1_open 18 = .ok (.ifCond .eq 19, 3) := by decide +kernel
theorem dX1_open_21 : decode cX1_open 21 = .ok (.aload_n 0, 1) := by decide +kernel
theorem dX1_open_22 : decode cX1_open 22 = .ok (.getfield 27, 3) := by decide +kernel
theorem dX1_open_25 : decode cX1_open 25 = .ok (.getfield 35, 3) := by decide +kernel
theorem dX1_open_28 : decode cX1_open 28 = .ok (.iload_n 3, 1) := by decide +kernel
theorem dX1_open_29 : decode cX1_open 29 = .ok (.invokestatic 40, 3) := by decide +kernel
theorem dX1_open_32 : decode cX1_open 32 = .ok (.iload_n 2, 1) := by decide +kernel
theorem dX1_open_33 : decode cX1_open 33 = .ok (.iand, 1) := by decide +kernel
theorem dX1_open_34 : decode cX1_open 34 = .ok (.goto 4, 3) := by decide +kernel
theorem dX1_open_37 : decode cX1_open 37 = .ok (.iconst 0, 1) := by decide +kernel
theorem dX1_open_38 : decode cX1_open 38 = .ok (.iastore, 1) := by decide +kernel
theorem dX1_open_39 : decode cX1_open 39 = .ok (.iinc 3 1, 3) := by decide +kernel
theorem dX1_open_42 : decode cX1_open 42 = .ok (.goto (-40), 3) := by decide +kernel
theorem dX1_open_45 : decode cX1_open 45 = .ok (.aload_n 0, 1) := by decide +kernel
theorem dX1_open_46 : decode cX1_open 46 = .ok (.getfield 18, 3) := by decide +kernel
theorem dX1_open_49 : decode cX1_open 49 = .ok (.bipush (-6), 2) := by decide +kernel
theorem dX1_open_51 : decode cX1_open 51 = .ok (.invokestatic 44, 3) := by decide +kernel
theorem dX1_open_54 : decode cX1_open 54 = .ok (.aload_n 0, 1) := by decide +kernel
theorem dX1_open_55 : decode cX1_open 55 = .ok (.getfield 21, 3) := by decide +kernel
theorem dX1_open_58 : decode cX1_open 58 = .ok (.bipush (-6), 2) := by decide +kernel
theorem dX1_open_60 : decode cX1_open 60 = .ok (.invokestatic 44, 3) := by decide +kernel
theorem dX1_open_63 : decode cX1_open 63 = .ok (.return_, 1) := by decide +kernel
set_option maxRecDepth 20000 in
theorem ggX1_give_X7_put : GoodIn wsX1_give wsX7_put := goodIn_r _ [5] (by decide +kernel) (by decide +kernel)
set_option maxRecDepth 20000 in
theorem gX1_give_X7_put_n48 : GoodIn wsX1_give (wsX7_put) := ggX1_give_X7_put
theorem dX1_give_0 : decode cX1_give 0 = .ok (.aload_n 0, 1) := by decide +kernel
theorem dX1_give_1 : decode cX1_give 1 = .ok (.getfield 18, 3) := by decide +kernel
theorem dX1_give_4 : decode cX1_give 4 = .ok (.iload_n 1, 1) := by decide +kernel
theorem dX1_give_5 : decode cX1_give 5 = .ok (.iload_n 2, 1) := by decide +kernel
theorem dX1_give_6 : decode cX1_give 6 = .ok (.invokestatic 48, 3) := by decide +kernel
theorem dX1_give_9 : decode cX1_give 9 = .ok (.aload_n 0, 1) := by decide +kernel
theorem dX1_give_10 : decode cX1_give 10 = .ok (.getfield 21, 3) := by decide +kernel
theorem dX1_give_13 : decode cX1_give 13 = .ok (.iload_n 2, 1) := by decide +kernel
theorem dX1_give_14 : decode cX1_give 14 = .ok (.iload_n 1, 1) := by decide +kernel
theorem dX1_give_15 : decode cX1_give 15 = .ok (.invokestatic 48, 3) := by decide +kernel
theorem dX1_give_18 : decode cX1_give 18 = .ok (.return_, 1) := by decide +kernel
set_option maxRecDepth 20000 in
theorem ggX1_detail_X3_worthOf : GoodIn wsX1_detail wsX3_worthOf := goodIn_r _ [7, 8, 9, 10, 11, 12, 13, 20, 21, 22, 23, 24] (by decide +kernel) (by decide +kernel)
set_option maxRecDepth 20000 in
theorem gX1_detail_X3_worthOf : GoodIn wsX1_detail (wsV RX1 52 RX3 yX3_worthOf wsX3_worthOf) := goodIn_app (goodIn_of _ (by decide +kernel)) ggX1_detail_X3_worthOf
set_option maxRecDepth 20000 in
theorem ggX1_detail_X7_isHull : GoodIn wsX1_detail wsX7_isHull := goodIn_r _ [11] (by decide +kernel) (by decide +kernel)
set_option maxRecDepth 20000 in
theorem gX1_detail_X7_isHull_n56 : GoodIn wsX1_detail (wsX7_isHull) := ggX1_detail_X7_isHull
theorem dX1_detail_0 : decode cX1_detail 0 = .ok (.iconst 0, 1) := by decide +kernel
theorem dX1_detail_1 : decode cX1_detail 1 = .ok (.istore_n 2, 1) := by decide +kernel
theorem dX1_detail_2 : decode cX1_detail 2 = .ok (.iconst 0, 1) := by decide +kernel
theorem dX1_detail_3 : decode cX1_detail 3 = .ok (.istore_n 3, 1) := by decide +kernel
theorem dX1_detail_4 : decode cX1_detail 4 = .ok (.iconst 0, 1) := by decide +kernel
theorem dX1_detail_5 : decode cX1_detail 5 = .ok (.istore 4, 2) := by decide +kernel
theorem dX1_detail_7 : decode cX1_detail 7 = .ok (.iload 4, 2) := by decide +kernel
theorem dX1_detail_9 : decode cX1_detail 9 = .ok (.bipush 6, 2) := by decide +kernel
theorem dX1_detail_11 : decode cX1_detail 11 = .ok (.if_icmp .ge 43, 3) := by decide +kernel
theorem dX1_detail_14 : decode cX1_detail 14 = .ok (.aload_n 0, 1) := by decide +kernel
theorem dX1_detail_15 : decode cX1_detail 15 = .ok (.getfield 18, 3) := by decide +kernel
theorem dX1_detail_18 : decode cX1_detail 18 = .ok (.iload 4, 2) := by decide +kernel
theorem dX1_detail_20 : decode cX1_detail 20 = .ok (.iaload, 1) := by decide +kernel
theorem dX1_detail_21 : decode cX1_detail 21 = .ok (.bipush (-6), 2) := by decide +kernel
theorem dX1_detail_23 : decode cX1_detail 23 = .ok (.if_icmp .eq 25, 3) := by decide +kernel
theorem dX1_detail_26 : decode cX1_detail 26 = .ok (.iinc 2 1, 3) := by decide +kernel
theorem dX1_detail_29 : decode cX1_detail 29 = .ok (.iload_n 3, 1) := by decide +kernel
theorem dX1_detail_30 : decode cX1_detail 30 = .ok (.aload_n 0, 1) := by decide +kernel
theorem dX1_detail_31 : decode cX1_detail 31 = .ok (.getfield 27, 3) := by decide +kernel
theorem dX1_detail_34 : decode cX1_detail 34 = .ok (.iload 4, 2) := by decide +kernel
theorem dX1_detail_36 : decode cX1_detail 36 = .ok (.aload_n 0, 1) := by decide +kernel
theorem dX1_detail_37 : decode cX1_detail 37 = .ok (.getfield 18, 3) := by decide +kernel
theorem dX1_detail_40 : decode cX1_detail 40 = .ok (.iload 4, 2) := by decide +kernel
theorem dX1_detail_42 : decode cX1_detail 42 = .ok (.iaload, 1) := by decide +kernel
theorem dX1_detail_43 : decode cX1_detail 43 = .ok (.invokevirtual 52, 3) := by decide +kernel
theorem dX1_detail_46 : decode cX1_detail 46 = .ok (.iadd, 1) := by decide +kernel
theorem dX1_detail_47 : decode cX1_detail 47 = .ok (.istore_n 3, 1) := by decide +kernel
theorem dX1_detail_48 : decode cX1_detail 48 = .ok (.iinc 4 1, 3) := by decide +kernel
theorem dX1_detail_51 : decode cX1_detail 51 = .ok (.goto (-44), 3) := by decide +kernel
theorem dX1_detail_54 : decode cX1_detail 54 = .ok (.iload_n 1, 1) := by decide +kernel
theorem dX1_detail_55 : decode cX1_detail 55 = .ok (.bipush (-2), 2) := by decide +kernel
theorem dX1_detail_57 : decode cX1_detail 57 = .ok (.if_icmp .ne 5, 3) := by decide +kernel
theorem dX1_detail_60 : decode cX1_detail 60 = .ok (.iload_n 2, 1) := by decide +kernel
theorem dX1_detail_61 : decode cX1_detail 61 = .ok (.ireturn, 1) := by decide +kernel
theorem dX1_detail_62 : decode cX1_detail 62 = .ok (.iload_n 1, 1) := by decide +kernel
theorem dX1_detail_63 : decode cX1_detail 63 = .ok (.iconst (-1), 1) := by decide +kernel
theorem dX1_detail_64 : decode cX1_detail 64 = .ok (.if_icmp .ne 5, 3) := by decide +kernel
theorem dX1_detail_67 : decode cX1_detail 67 = .ok (.iload_n 3, 1) := by decide +kernel
theorem dX1_detail_68 : decode cX1_detail 68 = .ok (.ireturn, 1) := by decide +kernel
theorem dX1_detail_69 : decode cX1_detail 69 = .ok (.iload_n 1, 1) := by decide +kernel
theorem dX1_detail_70 : decode cX1_detail 70 = .ok (.invokestatic 56, 3) := by decide +kernel
theorem dX1_detail_73 : decode cX1_detail 73 = .ok (.ifCond .eq 12, 3) := by decide +kernel
theorem dX1_detail_76 : decode cX1_detail 76 = .ok (.aload_n 0, 1) := by decide +kernel
theorem dX1_detail_77 : decode cX1_detail 77 = .ok (.getfield 18, 3) := by decide +kernel
theorem dX1_detail_80 : decode cX1_detail 80 = .ok (.iload_n 1, 1) := by decide +kernel
theorem dX1_detail_81 : decode cX1_detail 81 = .ok (.iaload, 1) := by decide +kernel
theorem dX1_detail_82 : decode cX1_detail 82 = .ok (.goto 5, 3) := by decide +kernel
theorem dX1_detail_85 : decode cX1_detail 85 = .ok (.bipush (-6), 2) := by decide +kernel
theorem dX1_detail_87 : decode cX1_detail 87 = .ok (.ireturn, 1) := by decide +kernel
set_option maxRecDepth 20000 in
theorem ggX1_findMost_X1_bestGain : GoodIn wsX1_findMost wsX1_bestGain := goodIn_r _ [6, 1, 7, 8, 9, 10, 11, 12, 13, 14, 15, 16, 17, 18, 19, 5, 20, 21, 22, 23, 24, 25, 26, 27, 28, 29, 30, 31, 44, 45, 46, 47, 48, 49, 50, 51, 52, 53, 54] (by decide +kernel) (by decide +kernel)
set_option maxRecDepth 20000 in
theorem gX1_findMost_X1_bestGain : GoodIn wsX1_findMost (wsV RX1 60 RX1 yX1_bestGain wsX1_bestGain) := goodIn_app (goodIn_of _ (by decide +kernel)) ggX1_findMost_X1_bestGain
set_option maxRecDepth 20000 in
theorem ggX1_findMost_X7_put : GoodIn wsX1_findMost wsX7_put := goodIn_r _ [33] (by decide +kernel) (by decide +kernel)
set_option maxRecDepth 20000 in
theorem gX1_findMost_X7_put_n48 : GoodIn wsX1_findMost (wsX7_put) := ggX1_findMost_X7_put
set_option maxRecDepth 20000 in
theorem ggX1_findMost_X1_firstOfBest : GoodIn wsX1_findMost wsX1_firstOfBest := goodIn_r _ [37, 7, 1, 12, 13, 14, 15, 16, 17, 18, 19, 5, 20, 21, 22, 23, 24, 25, 26, 27, 28, 29, 30, 31, 44, 45, 46, 47, 48, 49, 50, 51, 52, 53, 54] (by decide +kernel) (by decide +kernel)
set_option maxRecDepth 20000 in
theorem gX1_findMost_X1_firstOfBest : GoodIn wsX1_findMost (wsV RX1 63 RX1 yX1_firstOfBest wsX1_firstOfBest) := goodIn_app (goodIn_of _ (by decide +kernel)) ggX1_findMost_X1_firstOfBest
set_option maxRecDepth 20000 in
theorem ggX1_findMost_X1_give : GoodIn wsX1_findMost wsX1_give := goodIn_r _ [41, 42, 43, 32, 13, 33, 44, 45, 46, 47, 48, 49] (by decide +kernel) (by decide +kernel)
set_option maxRecDepth 20000 in
theorem gX1_findMost_X1_give : GoodIn wsX1_findMost (wsV RX1 66 RX1 yX1_give wsX1_give) := goodIn_app (goodIn_of _ (by decide +kernel)) ggX1_findMost_X1_give
theorem dX1_findMost_0 : decode cX1_findMost 0 = .ok (.iconst 5, 1) := by decide +kernel
theorem dX1_findMost_1 : decode cX1_findMost 1 = .ok (.istore_n 2, 1) := by decide +kernel
theorem dX1_findMost_2 : decode cX1_findMost 2 = .ok (.iload_n 2, 1) := by decide +kernel
theorem dX1_findMost_3 : decode cX1_findMost 3 = .ok (.ifCond .lt 42, 3) := by decide +kernel
theorem dX1_findMost_6 : decode cX1_findMost 6 = .ok (.iconst 0, 1) := by decide +kernel
theorem dX1_findMost_7 : decode cX1_findMost 7 = .ok (.istore_n 3, 1) := by decide +kernel
theorem dX1_findMost_8 : decode cX1_findMost 8 = .ok (.iload_n 3, 1) := by decide +kernel
theorem dX1_findMost_9 : decode cX1_findMost 9 = .ok (.bipush 32, 2) := by decide +kernel
theorem dX1_findMost_11 : decode cX1_findMost 11 = .ok (.if_icmp .ge 28, 3) := by decide +kernel
theorem dX1_findMost_14 : decode cX1_findMost 14 = .ok (.aload_n 0, 1) := by decide +kernel
theorem dX1_findMost_15 : decode cX1_findMost 15 = .ok (.getfield 24, 3) := by decide +kernel
theorem dX1_findMost_18 : decode cX1_findMost 18 = .ok (.iload_n 2, 1) := by decide +kernel
theorem dX1_findMost_19 : decode cX1_findMost 19 = .ok (.bipush 32, 2) := by decide +kernel
theorem dX1_findMost_21 : decode cX1_findMost 21 = .ok (.imul, 1) := by decide +kernel
theorem dX1_findMost_22 : decode cX1_findMost 22 = .ok (.iload_n 3, 1) := by decide +kernel
theorem dX1_findMost_23 : decode cX1_findMost 23 = .ok (.iadd, 1) := by decide +kernel
theorem dX1_findMost_24 : decode cX1_findMost 24 = .ok (.aload_n 0, 1) := by decide +kernel
theorem dX1_findMost_25 : decode cX1_findMost 25 = .ok (.iload_n 2, 1) := by decide +kernel
theorem dX1_findMost_26 : decode cX1_findMost 26 = .ok (.iload_n 3, 1) := by decide +kernel
theorem dX1_findMost_27 : decode cX1_findMost 27 = .ok (.invokevirtual 60, 3) := by decide +kernel
theorem dX1_findMost_30 : decode cX1_findMost 30 = .ok (.invokestatic 48, 3) := by decide +kernel
theorem dX1_findMost_33 : decode cX1_findMost 33 = .ok (.iinc 3 1, 3) := by decide +kernel
theorem dX1_findMost_36 : decode cX1_findMost 36 = .ok (.goto (-28), 3) := by decide +kernel
theorem dX1_findMost_39 : decode cX1_findMost 39 = .ok (.iinc 2 (-1), 3) := by decide +kernel
theorem dX1_findMost_42 : decode cX1_findMost 42 = .ok (.goto (-40), 3) := by decide +kernel
theorem dX1_findMost_45 : decode cX1_findMost 45 = .ok (.iload_n 1, 1) := by decide +kernel
theorem dX1_findMost_46 : decode cX1_findMost 46 = .ok (.istore_n 2, 1) := by decide +kernel
theorem dX1_findMost_47 : decode cX1_findMost 47 = .ok (.iconst 0, 1) := by decide +kernel
theorem dX1_findMost_48 : decode cX1_findMost 48 = .ok (.istore_n 3, 1) := by decide +kernel
theorem dX1_findMost_49 : decode cX1_findMost 49 = .ok (.iload_n 3, 1) := by decide +kernel
theorem dX1_findMost_50 : decode cX1_findMost 50 = .ok (.bipush 6, 2) := by decide +kernel
theorem dX1_findMost_52 : decode cX1_findMost 52 = .ok (.if_icmp .ge 40, 3) := by decide +kernel
theorem dX1_findMost_55 : decode cX1_findMost 55 = .ok (.aload_n 0, 1) := by decide +kernel
theorem dX1_findMost_56 : decode cX1_findMost 56 = .ok (.iload_n 3, 1) := by decide +kernel
theorem dX1_findMost_57 : decode cX1_findMost 57 = .ok (.iload_n 2, 1) := by decide +kernel
theorem dX1_findMost_58 : decode cX1_findMost 58 = .ok (.invokevirtual 63, 3) := by decide +kernel
theorem dX1_findMost_61 : decode cX1_findMost 61 = .ok (.istore 4, 2) := by decide +kernel
theorem dX1_findMost_63 : decode cX1_findMost 63 = .ok (.iload 4, 2) := by decide +kernel
theorem dX1_findMost_65 : decode cX1_findMost 65 = .ok (.bipush (-6), 2) := by decide +kernel
theorem dX1_findMost_67 : decode cX1_findMost 67 = .ok (.if_icmp .eq 19, 3) := by decide +kernel
theorem dX1_findMost_70 : decode cX1_findMost 70 = .ok (.aload_n 0, 1) := by decide +kernel
theorem dX1_findMost_71 : decode cX1_findMost 71 = .ok (.iload_n 3, 1) := by decide +kernel
theorem dX1_findMost_72 : decode cX1_findMost 72 = .ok (.iload 4, 2) := by decide +kernel
theorem dX1_findMost_74 : decode cX1_findMost 74 = .ok (.invokevirtual 66, 3) := by decide +kernel
theorem dX1_findMost_77 : decode cX1_findMost 77 = .ok (.iload_n 2, 1) := by decide +kernel
theorem dX1_findMost_78 : decode cX1_findMost 78 = .ok (.iconst 1, 1) := by decide +kernel
theorem dX1_findMost_79 : decode cX1_findMost 79 = .ok (.iload 4, 2) := by decide +kernel
theorem dX1_findMost_81 : decode cX1_findMost 81 = .ok (.ishl, 1) := by decide +kernel
theorem dX1_findMost_82 : decode cX1_findMost 82 = .ok (.iconst (-1), 1) := by decide +kernel
theorem dX1_findMost_83 : decode cX1_findMost 83 = .ok (.ixor, 1) := by decide +kernel
theorem dX1_findMost_84 : decode cX1_findMost 84 = .ok (.iand, 1) := by decide +kernel
theorem dX1_findMost_85 : decode cX1_findMost 85 = .ok (.istore_n 2, 1) := by decide +kernel
theorem dX1_findMost_86 : decode cX1_findMost 86 = .ok (.iinc 3 1, 3) := by decide +kernel
theorem dX1_findMost_89 : decode cX1_findMost 89 = .ok (.goto (-40), 3) := by decide +kernel
theorem dX1_findMost_92 : decode cX1_findMost 92 = .ok (.return_, 1) := by decide +kernel
set_option maxRecDepth 20000 in
theorem ggX1_bestGain_X7_at : GoodIn wsX1_bestGain wsX7_at := goodIn_r _ [9] (by decide +kernel) (by decide +kernel)
set_option maxRecDepth 20000 in
theorem gX1_bestGain_X7_at_n40 : GoodIn wsX1_bestGain (wsX7_at) := ggX1_bestGain_X7_at
set_option maxRecDepth 20000 in
theorem ggX1_bestGain_X7_hasBit : GoodIn wsX1_bestGain wsX7_hasBit := goodIn_r _ [11] (by decide +kernel) (by decide +kernel)
set_option maxRecDepth 20000 in
theorem gX1_bestGain_X7_hasBit_n31 : GoodIn wsX1_bestGain (wsX7_hasBit) := ggX1_bestGain_X7_hasBit
set_option maxRecDepth 20000 in
theorem ggX1_bestGain_X1_gain : GoodIn wsX1_bestGain wsX1_gain := goodIn_r _ [16, 17, 1, 18, 19, 20, 21, 22, 23, 24, 8, 25, 26, 27, 7, 9, 28, 29, 30, 31, 32, 33, 34, 35, 36, 37, 38] (by decide +kernel) (by decide +kernel)
set_option maxRecDepth 20000 in
theorem gX1_bestGain_X1_gain : GoodIn wsX1_bestGain (wsV RX1 70 RX1 yX1_gain wsX1_gain) := goodIn_app (goodIn_of _ (by decide +kernel)) ggX1_bestGain_X1_gain
theorem dX1_bestGain_0 : decode cX1_bestGain 0 = .ok (.aload_n 0, 1) := by decide +kernel
theorem dX1_bestGain_1 : decode cX1_bestGain 1 = .ok (.getfield 24, 3) := by decide +kernel
theorem dX1_bestGain_4 : decode cX1_bestGain 4 = .ok (.iload_n 1, 1) := by decide +kernel
theorem dX1_bestGain_5 : decode cX1_bestGain 5 = .ok (.iconst 1, 1) := by decide +kernel
theorem dX1_bestGain_6 : decode cX1_bestGain 6 = .ok (.iadd, 1) := by decide +kernel
theorem dX1_bestGain_7 : decode cX1_bestGain 7 = .ok (.bipush 32, 2) := by decide +kernel
theorem dX1_bestGain_9 : decode cX1_bestGain 9 = .ok (.imul, 1) := by decide +kernel
theorem dX1_bestGain_10 : decode cX1_bestGain 10 = .ok (.iload_n 2, 1) := by decide +kernel
theorem dX1_bestGain_11 : decode cX1_bestGain 11 = .ok (.iadd, 1) := by decide +kernel
theorem dX1_bestGain_12 : decode cX1_bestGain 12 = .ok (.invokestatic 40, 3) := by decide +kernel
theorem dX1_bestGain_15 : decode cX1_bestGain 15 = .ok (.istore_n 3, 1) := by decide +kernel
theorem dX1_bestGain_16 : decode cX1_bestGain 16 = .ok (.iconst 0, 1) := by decide +kernel
theorem dX1_bestGain_17 : decode cX1_bestGain 17 = .ok (.istore 4, 2) := by decide +kernel
theorem dX1_bestGain_19 : decode cX1_bestGain 19 = .ok (.iload 4, 2) := by decide +kernel
theorem dX1_bestGain_21 : decode cX1_bestGain 21 = .ok (.iconst 5, 1) := by decide +kernel
theorem dX1_bestGain_22 : decode cX1_bestGain 22 = .ok (.if_icmp .ge 40, 3) := by decide +kernel
theorem dX1_bestGain_25 : decode cX1_bestGain 25 = .ok (.aload_n 0, 1) := by decide +kernel
theorem dX1_bestGain_26 : decode cX1_bestGain 26 = .ok (.getfield 9, 3) := by decide +kernel
theorem dX1_bestGain_29 : decode cX1_bestGain 29 = .ok (.iload_n 1, 1) := by decide +kernel
theorem dX1_bestGain_30 : decode cX1_bestGain 30 = .ok (.invokestatic 40, 3) := by decide +kernel
theorem dX1_bestGain_33 : decode cX1_bestGain 33 = .ok (.iload_n 2, 1) := by decide +kernel
theorem dX1_bestGain_34 : decode cX1_bestGain 34 = .ok (.iand, 1) := by decide +kernel
theorem dX1_bestGain_35 : decode cX1_bestGain 35 = .ok (.iload 4, 2) := by decide +kernel
theorem dX1_bestGain_37 : decode cX1_bestGain 37 = .ok (.invokestatic 31, 3) := by decide +kernel
theorem dX1_bestGain_40 : decode cX1_bestGain 40 = .ok (.ifCond .eq 16, 3) := by decide +kernel
theorem dX1_bestGain_43 : decode cX1_bestGain 43 = .ok (.iload_n 3, 1) := by decide +kernel
theorem dX1_bestGain_44 : decode cX1_bestGain 44 = .ok (.aload_n 0, 1) := by decide +kernel
theorem dX1_bestGain_45 : decode cX1_bestGain 45 = .ok (.iload_n 1, 1) := by decide +kernel
theorem dX1_bestGain_46 : decode cX1_bestGain 46 = .ok (.iload 4, 2) := by decide +kernel
theorem dX1_bestGain_48 : decode cX1_bestGain 48 = .ok (.iload_n 2, 1) := by decide +kernel
theorem dX1_bestGain_49 : decode cX1_bestGain 49 = .ok (.invokevirtual 70, 3) := by decide +kernel
theorem dX1_bestGain_52 : decode cX1_bestGain 52 = .ok (.invokestatic 74, 3) := by decide +kernel
theorem dX1_bestGain_55 : decode cX1_bestGain 55 = .ok (.istore_n 3, 1) := by decide +kernel
theorem dX1_bestGain_56 : decode cX1_bestGain 56 = .ok (.iinc 4 1, 3) := by decide +kernel
theorem dX1_bestGain_59 : decode cX1_bestGain 59 = .ok (.goto (-40), 3) := by decide +kernel
theorem dX1_bestGain_62 : decode cX1_bestGain 62 = .ok (.iload_n 3, 1) := by decide +kernel
theorem dX1_bestGain_63 : decode cX1_bestGain 63 = .ok (.ireturn, 1) := by decide +kernel
set_option maxRecDepth 20000 in
theorem ggX1_gain_X3_worthOf : GoodIn wsX1_gain wsX3_worthOf := goodIn_r _ [7, 8, 9, 10, 11, 12, 13, 22, 23, 24, 25, 26] (by decide +kernel) (by decide +kernel)
set_option maxRecDepth 20000 in
theorem gX1_gain_X3_worthOf : GoodIn wsX1_gain (wsV RX1 52 RX3 yX3_worthOf wsX3_worthOf) := goodIn_app (goodIn_of _ (by decide +kernel)) ggX1_gain_X3_worthOf
set_option maxRecDepth 20000 in
theorem ggX1_gain_X7_at : GoodIn wsX1_gain wsX7_at := goodIn_r _ [15] (by decide +kernel) (by decide +kernel)
set_option maxRecDepth 20000 in
theorem gX1_gain_X7_at_n40 : GoodIn wsX1_gain (wsX7_at) := ggX1_gain_X7_at
theorem dX1_gain_0 : decode cX1_gain 0 = .ok (.sipush 1000, 3) := by decide +kernel
theorem dX1_gain_3 : decode cX1_gain 3 = .ok (.aload_n 0, 1) := by decide +kernel
theorem dX1_gain_4 : decode cX1_gain 4 = .ok (.getfield 27, 3) := by decide +kernel
theorem dX1_gain_7 : decode cX1_gain 7 = .ok (.iload_n 1, 1) := by decide +kernel
theorem dX1_gain_8 : decode cX1_gain 8 = .ok (.iload_n 2, 1) := by decide +kernel
theorem dX1_gain_9 : decode cX1_gain 9 = .ok (.invokevirtual 52, 3) := by decide +kernel
theorem dX1_gain_12 : decode cX1_gain 12 = .ok (.iadd, 1) := by decide +kernel
theorem dX1_gain_13 : decode cX1_gain 13 = .ok (.aload_n 0, 1) := by decide +kernel
theorem dX1_gain_14 : decode cX1_gain 14 = .ok (.getfield 24, 3) := by decide +kernel
theorem dX1_gain_17 : decode cX1_gain 17 = .ok (.iload_n 1, 1) := by decide +kernel
theorem dX1_gain_18 : decode cX1_gain 18 = .ok (.iconst 1, 1) := by decide +kernel
theorem dX1_gain_19 : decode cX1_gain 19 = .ok (.iadd, 1) := by decide +kernel
theorem dX1_gain_20 : decode cX1_gain 20 = .ok (.bipush 32, 2) := by decide +kernel
theorem dX1_gain_22 : decode cX1_gain 22 = .ok (.imul, 1) := by decide +kernel
theorem dX1_gain_23 : decode cX1_gain 23 = .ok (.iload_n 3, 1) := by decide +kernel
theorem dX1_gain_24 : decode cX1_gain 24 = .ok (.iconst 1, 1) := by decide +kernel
theorem dX1_gain_25 : decode cX1_gain 25 = .ok (.iload_n 2, 1) := by decide +kernel
theorem dX1_gain_26 : decode cX1_gain 26 = .ok (.ishl, 1) := by decide +kernel
theorem dX1_gain_27 : decode cX1_gain 27 = .ok (.iconst (-1), 1) := by decide +kernel
theorem dX1_gain_28 : decode cX1_gain 28 = .ok (.ixor, 1) := by decide +kernel
theorem dX1_gain_29 : decode cX1_gain 29 = .ok (.iand, 1) := by decide +kernel
theorem dX1_gain_30 : decode cX1_gain 30 = .ok (.iadd, 1) := by decide +kernel
theorem dX1_gain_31 : decode cX1_gain 31 = .ok (.invokestatic 40, 3) := by decide +kernel
theorem dX1_gain_34 : decode cX1_gain 34 = .ok (.iadd, 1) := by decide +kernel
theorem dX1_gain_35 : decode cX1_gain 35 = .ok (.ireturn, 1) := by decide +kernel
set_option maxRecDepth 20000 in
theorem ggX1_firstOfBest_X7_at : GoodIn wsX1_firstOfBest wsX7_at := goodIn_r _ [5] (by decide +kernel) (by decide +kernel)
set_option maxRecDepth 20000 in
theorem gX1_firstOfBest_X7_at_n40 : GoodIn wsX1_firstOfBest (wsX7_at) := ggX1_firstOfBest_X7_at
set_option maxRecDepth 20000 in
theorem ggX1_firstOfBest_X7_hasBit : GoodIn wsX1_firstOfBest wsX7_hasBit := goodIn_r _ [7] (by decide +kernel) (by decide +kernel)
set_option maxRecDepth 20000 in
theorem gX1_firstOfBest_X7_hasBit_n31 : GoodIn wsX1_firstOfBest (wsX7_hasBit) := ggX1_firstOfBest_X7_hasBit
set_option maxRecDepth 20000 in
theorem ggX1_firstOfBest_X1_gain : GoodIn wsX1_firstOfBest wsX1_gain := goodIn_r _ [12, 13, 2, 14, 15, 16, 17, 18, 19, 20, 4, 21, 22, 23, 3, 5, 24, 25, 26, 27, 28, 29, 30, 31, 32, 33, 34] (by decide +kernel) (by decide +kernel)
set_option maxRecDepth 20000 in
theorem gX1_firstOfBest_X1_gain : GoodIn wsX1_firstOfBest (wsV RX1 70 RX1 yX1_gain wsX1_gain) := goodIn_app (goodIn_of _ (by decide +kernel)) ggX1_firstOfBest_X1_gain
theorem dX1_firstOfBest_0 : decode cX1_firstOfBest 0 = .ok (.iconst 0, 1) := by decide +kernel
theorem dX1_firstOfBest_1 : decode cX1_firstOfBest 1 = .ok (.istore_n 3, 1) := by decide +kernel
theorem dX1_firstOfBest_2 : decode cX1_firstOfBest 2 = .ok (.iload_n 3, 1) := by decide +kernel
theorem dX1_firstOfBest_3 : decode cX1_firstOfBest 3 = .ok (.iconst 5, 1) := by decide +kernel
theorem dX1_firstOfBest_4 : decode cX1_firstOfBest 4 = .ok (.if_icmp .ge 55, 3) := by decide +kernel
theorem dX1_firstOfBest_7 : decode cX1_firstOfBest 7 = .ok (.aload_n 0, 1) := by decide +kernel
theorem dX1_firstOfBest_8 : decode cX1_firstOfBest 8 = .ok (.getfield 9, 3) := by decide +kernel
theorem dX1_firstOfBest_11 : decode cX1_firstOfBest 11 = .ok (.iload_n 1, 1) := by decide +kernel
theorem dX1_firstOfBest_12 : decode cX1_firstOfBest 12 = .ok (.invokestatic 40, 3) := by decide +kernel
theorem dX1_firstOfBest_15 : decode cX1_firstOfBest 15 = .ok (.iload_n 2, 1) := by decide +kernel
theorem dX1_firstOfBest_16 : decode cX1_firstOfBest 16 = .ok (.iand, 1) := by decide +kernel
theorem dX1_firstOfBest_17 : decode cX1_firstOfBest 17 = .ok (.iload_n 3, 1) := by decide +kernel
theorem dX1_firstOfBest_18 : decode cX1_firstOfBest 18 = .ok (.invokestatic 31, 3) := by decide +kernel
theorem dX1_firstOfBest_21 : decode cX1_firstOfBest 21 = .ok (.istore 4, 2) := by decide +kernel
theorem dX1_firstOfBest_23 : decode cX1_firstOfBest 23 = .ok (.iload 4, 2) := by decide +kernel
theorem dX1_firstOfBest_25 : decode cX1_firstOfBest 25 = .ok (.ifCond .eq 28, 3) := by decide +kernel
theorem dX1_firstOfBest_28 : decode cX1_firstOfBest 28 = .ok (.aload_n 0, 1) := by decide +kernel
theorem dX1_firstOfBest_29 : decode cX1_firstOfBest 29 = .ok (.iload_n 1, 1) := by decide +kernel
theorem dX1_firstOfBest_30 : decode cX1_firstOfBest 30 = .ok (.iload_n 3, 1) := by decide +kernel
theorem dX1_firstOfBest_31 : decode cX1_firstOfBest 31 = .ok (.iload_n 2, 1) := by decide +kernel
theorem dX1_firstOfBest_32 : decode cX1_firstOfBest 32 = .ok (.invokevirtual 70, 3) := by decide +kernel
theorem dX1_firstOfBest_35 : decode cX1_firstOfBest 35 = .ok (.aload_n 0, 1) := by decide +kernel
theorem dX1_firstOfBest_36 : decode cX1_firstOfBest 36 = .ok (.getfield 24, 3) := by decide +kernel
theorem dX1_firstOfBest_39 : decode cX1_firstOfBest 39 = .ok (.iload_n 1, 1) := by decide +kernel
theorem dX1_firstOfBest_40 : decode cX1_firstOfBest 40 = .ok (.bipush 32, 2) := by decide +kernel
theorem dX1_firstOfBest_42 : decode cX1_firstOfBest 42 = .ok (.imul, 1) := by decide +kernel
theorem dX1_firstOfBest_43 : decode cX1_firstOfBest 43 = .ok (.iload_n 2, 1) := by decide +kernel
theorem dX1_firstOfBest_44 : decode cX1_firstOfBest 44 = .ok (.iadd, 1) := by decide +kernel
theorem dX1_firstOfBest_45 : decode cX1_firstOfBest 45 = .ok (.invokestatic 40, 3) := by decide +kernel
theorem dX1_firstOfBest_48 : decode cX1_firstOfBest 48 = .ok (.if_icmp .ne 5, 3) := by decide +kernel
theorem dX1_firstOfBest_51 : decode cX1_firstOfBest 51 = .ok (.iload_n 3, 1) := by decide +kernel
theorem dX1_firstOfBest_52 : decode cX1_firstOfBest 52 = .ok (.ireturn, 1) := by decide +kernel
theorem dX1_firstOfBest_53 : decode cX1_firstOfBest 53 = .ok (.iinc 3 1, 3) := by decide +kernel
theorem dX1_firstOfBest_56 : decode cX1_firstOfBest 56 = .ok (.goto (-54), 3) := by decide +kernel
theorem dX1_firstOfBest_59 : decode cX1_firstOfBest 59 = .ok (.bipush (-6), 2) := by decide +kernel
theorem dX1_firstOfBest_61 : decode cX1_firstOfBest 61 = .ok (.ireturn, 1) := by decide +kernel
set_option maxRecDepth 20000 in
theorem ggX1_findStable_X7_copyRow : GoodIn wsX1_findStable wsX7_copyRow := goodIn_r _ [5] (by decide +kernel) (by decide +kernel)
set_option maxRecDepth 20000 in
theorem gX1_findStable_X7_copyRow_n79 : GoodIn wsX1_findStable (wsX7_copyRow) := ggX1_findStable_X7_copyRow
set_option maxRecDepth 20000 in
theorem ggX1_findStable_X1_firstAsking : GoodIn wsX1_findStable wsX1_firstAsking := goodIn_r _ [10, 11, 2, 55, 56, 57, 58, 59, 60] (by decide +kernel) (by decide +kernel)
set_option maxRecDepth 20000 in
theorem gX1_findStable_X1_firstAsking : GoodIn wsX1_findStable (wsV RX1 83 RX1 yX1_firstAsking wsX1_firstAsking) := goodIn_app (goodIn_of _ (by decide +kernel)) ggX1_findStable_X1_firstAsking
set_option maxRecDepth 20000 in
theorem ggX1_findStable_X1_favourite : GoodIn wsX1_findStable wsX1_favourite := goodIn_r _ [15, 2, 16, 4, 17, 18, 19, 20, 21, 22, 9, 23, 24, 25, 26, 27, 28, 29, 30, 31, 32, 33, 34, 55, 56, 57, 58, 59, 60, 61, 62, 63, 64, 65] (by decide +kernel) (by decide +kernel)
set_option maxRecDepth 20000 in
theorem gX1_findStable_X1_favourite : GoodIn wsX1_findStable (wsV RX1 87 RX1 yX1_favourite wsX1_favourite) := goodIn_app (goodIn_of _ (by decide +kernel)) ggX1_findStable_X1_favourite
set_option maxRecDepth 20000 in
theorem ggX1_findStable_X1_askFor : GoodIn wsX1_findStable wsX1_askFor := goodIn_r _ [38, 2, 39, 11, 16, 4, 17, 40, 41, 42, 43, 44, 9, 45, 24, 46, 47, 48, 28, 49, 50, 51, 52, 53, 54, 55, 56, 57, 58, 59, 60, 61, 62, 63, 64, 65] (by decide +kernel) (by decide +kernel)
set_option maxRecDepth 20000 in
theorem gX1_findStable_X1_askFor : GoodIn wsX1_findStable (wsV RX1 91 RX1 yX1_askFor wsX1_askFor) := goodIn_app (goodIn_of _ (by decide +kernel)) ggX1_findStable_X1_askFor
theorem dX1_findStable_0 : decode cX1_findStable 0 = .ok (.aload_n 0, 1) := by decide +kernel
theorem dX1_findStable_1 : decode cX1_findStable 1 = .ok (.getfield 9, 3) := by decide +kernel
theorem dX1_findStable_4 : decode cX1_findStable 4 = .ok (.aload_n 0, 1) := by decide +kernel
theorem dX1_findStable_5 : decode cX1_findStable 5 = .ok (.getfield 15, 3) := by decide +kernel
theorem dX1_findStable_8 : decode cX1_findStable 8 = .ok (.invokestatic 79, 3) := by decide +kernel
theorem dX1_findStable_11 : decode cX1_findStable 11 = .ok (.iconst 0, 1) := by decide +kernel
theorem dX1_findStable_12 : decode cX1_findStable 12 = .ok (.istore_n 1, 1) := by decide +kernel
theorem dX1_findStable_13 : decode cX1_findStable 13 = .ok (.iload_n 1, 1) := by decide +kernel
theorem dX1_findStable_14 : decode cX1_findStable 14 = .ok (.bipush 30, 2) := by decide +kernel
theorem dX1_findStable_16 : decode cX1_findStable 16 = .ok (.if_icmp .ge 31, 3) := by decide +kernel
theorem dX1_findStable_19 : decode cX1_findStable 19 = .ok (.aload_n 0, 1) := by decide +kernel
theorem dX1_findStable_20 : decode cX1_findStable 20 = .ok (.invokevirtual 83, 3) := by decide +kernel
theorem dX1_findStable_23 : decode cX1_findStable 23 = .ok (.istore_n 2, 1) := by decide +kernel
theorem dX1_findStable_24 : decode cX1_findStable 24 = .ok (.iload_n 2, 1) := by decide +kernel
theorem dX1_findStable_25 : decode cX1_findStable 25 = .ok (.bipush (-6), 2) := by decide +kernel
theorem dX1_findStable_27 : decode cX1_findStable 27 = .ok (.if_icmp .ne 4, 3) := by decide +kernel
theorem dX1_findStable_30 : decode cX1_findStable 30 = .ok (.return_, 1) := by decide +kernel
theorem dX1_findStable_31 : decode cX1_findStable 31 = .ok (.aload_n 0, 1) := by decide +kernel
theorem dX1_findStable_32 : decode cX1_findStable 32 = .ok (.iload_n 2, 1) := by decide +kernel
theorem dX1_findStable_33 : decode cX1_findStable 33 = .ok (.aload_n 0, 1) := by decide +kernel
theorem dX1_findStable_34 : decode cX1_findStable 34 = .ok (.iload_n 2, 1) := by decide +kernel
theorem dX1_findStable_35 : decode cX1_findStable 35 = .ok (.invokevirtual 87, 3) := by decide +kernel
theorem dX1_findStable_38 : decode cX1_findStable 38 = .ok (.invokevirtual 91, 3) := by decide +kernel
theorem dX1_findStable_41 : decode cX1_findStable 41 = .ok (.iinc 1 1, 3) := by decide +kernel
theorem dX1_findStable_44 : decode cX1_findStable 44 = .ok (.goto (-31), 3) := by decide +kernel
theorem dX1_findStable_47 : decode cX1_findStable 47 = .ok (.return_, 1) := by decide +kernel
theorem dX1_firstAsking_0 : decode cX1_firstAsking 0 = .ok (.iconst 0, 1) := by decide +kernel
theorem dX1_firstAsking_1 : decode cX1_firstAsking 1 = .ok (.istore_n 1, 1) := by decide +kernel
theorem dX1_firstAsking_2 : decode cX1_firstAsking 2 = .ok (.iload_n 1, 1) := by decide +kernel
theorem dX1_firstAsking_3 : decode cX1_firstAsking 3 = .ok (.bipush 6, 2) := by decide +kernel
theorem dX1_firstAsking_5 : decode cX1_firstAsking 5 = .ok (.if_icmp .ge 31, 3) := by decide +kernel
theorem dX1_firstAsking_8 : decode cX1_firstAsking 8 = .ok (.aload_n 0, 1) := by decide +kernel
theorem dX1_firstAsking_9 : decode cX1_firstAsking 9 = .ok (.getfield 18, 3) := by decide +kernel
theorem dX1_firstAsking_12 : decode cX1_firstAsking 12 = .ok (.iload_n 1, 1) := by decide +kernel
theorem dX1_firstAsking_13 : decode cX1_firstAsking 13 = .ok (.iaload, 1) := by decide +kernel
theorem dX1_firstAsking_14 : decode cX1_firstAsking 14 = .ok (.bipush (-6), 2) := by decide +kernel
theorem dX1_firstAsking_16 : decode cX1_firstAsking 16 = .ok (.if_icmp .ne 14, 3) := by decide +kernel
theorem dX1_firstAsking_19 : decode cX1_firstAsking 19 = .ok (.aload_n 0, 1) := by decide +kernel
theorem dX1_firstAsking_20 : decode cX1_firstAsking 20 = .ok (.getfield 15, 3) := by decide +kernel
theorem dX1_firstAsking_23 : decode cX1_firstAsking 23 = .ok (.iload_n 1, 1) := by decide +kernel
theorem dX1_firstAsking_24 : decode cX1_firstAsking 24 = .ok (.iaload, 1) := by decide +kernel
theorem dX1_firstAsking_25 : decode cX1_firstAsking 25 = .ok (.ifCond .eq 5, 3) := by decide +kernel
theorem dX1_firstAsking_28 : decode cX1_firstAsking 28 = .ok (.iload_n 1, 1) := by decide +kernel
theorem dX1_firstAsking_29 : decode cX1_firstAsking 29 = .ok (.ireturn, 1) := by decide +kernel
theorem dX1_firstAsking_30 : decode cX1_firstAsking 30 = .ok (.iinc 1 1, 3) := by decide +kernel
theorem dX1_firstAsking_33 : decode cX1_firstAsking 33 = .ok (.goto (-31), 3) := by decide +kernel
theorem dX1_firstAsking_36 : decode cX1_firstAsking 36 = .ok (.bipush (-6), 2) := by decide +kernel
theorem dX1_firstAsking_38 : decode cX1_firstAsking 38 = .ok (.ireturn, 1) := by decide +kernel
set_option maxRecDepth 20000 in
theorem ggX1_favourite_X7_at : GoodIn wsX1_favourite wsX7_at := goodIn_r _ [4] (by decide +kernel) (by decide +kernel)
set_option maxRecDepth 20000 in
theorem gX1_favourite_X7_at_n40 : GoodIn wsX1_favourite (wsX7_at) := ggX1_favourite_X7_at
set_option maxRecDepth 20000 in
theorem ggX1_favourite_X7_hasBit : GoodIn wsX1_favourite wsX7_hasBit := goodIn_r _ [6] (by decide +kernel) (by decide +kernel)
set_option maxRecDepth 20000 in
theorem gX1_favourite_X7_hasBit_n31 : GoodIn wsX1_favourite (wsX7_hasBit) := ggX1_favourite_X7_hasBit
set_option maxRecDepth 20000 in
theorem ggX1_favourite_X1_hullPrefers : GoodIn wsX1_favourite wsX1_hullPrefers := goodIn_r _ [11, 12, 13, 14, 15, 16, 17, 18, 19, 3, 20, 21, 22, 23, 24, 25, 26, 27, 28, 29, 30, 31, 32, 33] (by decide +kernel) (by decide +kernel)
set_option maxRecDepth 20000 in
theorem gX1_favourite_X1_hullPrefers : GoodIn wsX1_favourite (wsV RX1 94 RX1 yX1_hullPrefers wsX1_hullPrefers) := goodIn_app (goodIn_of _ (by decide +kernel)) ggX1_favourite_X1_hullPrefers
theorem dX1_favourite_0 : decode cX1_favourite 0 = .ok (.bipush (-6), 2) := by decide +kernel
theorem dX1_favourite_2 : decode cX1_favourite 2 = .ok (.istore_n 2, 1) := by decide +kernel
theorem dX1_favourite_3 : decode cX1_favourite 3 = .ok (.iconst 0, 1) := by decide +kernel
theorem dX1_favourite_4 : decode cX1_favourite 4 = .ok (.istore_n 3, 1) := by decide +kernel
theorem dX1_favourite_5 : decode cX1_favourite 5 = .ok (.iload_n 3, 1) := by decide +kernel
theorem dX1_favourite_6 : decode cX1_favourite 6 = .ok (.iconst 5, 1) := by decide +kernel
theorem dX1_favourite_7 : decode cX1_favourite 7 = .ok (.if_icmp .ge 36, 3) := by decide +kernel
theorem dX1_favourite_10 : decode cX1_favourite 10 = .ok (.aload_n 0, 1) := by decide +kernel
theorem dX1_favourite_11 : decode cX1_favourite 11 = .ok (.getfield 15, 3) := by decide +kernel
theorem dX1_favourite_14 : decode cX1_favourite 14 = .ok (.iload_n 1, 1) := by decide +kernel
theorem dX1_favourite_15 : decode cX1_favourite 15 = .ok (.invokestatic 40, 3) := by decide +kernel
theorem dX1_favourite_18 : decode cX1_favourite 18 = .ok (.iload_n 3, 1) := by decide +kernel
theorem dX1_favourite_19 : decode cX1_favourite 19 = .ok (.invokestatic 31, 3) := by decide +kernel
theorem dX1_favourite_22 : decode cX1_favourite 22 = .ok (.ifCond .eq 15, 3) := by decide +kernel
theorem dX1_favourite_25 : decode cX1_favourite 25 = .ok (.aload_n 0, 1) := by decide +kernel
theorem dX1_favourite_26 : decode cX1_favourite 26 = .ok (.iload_n 1, 1) := by decide +kernel
theorem dX1_favourite_27 : decode cX1_favourite 27 = .ok (.iload_n 3, 1) := by decide +kernel
theorem dX1_favourite_28 : decode cX1_favourite 28 = .ok (.iload_n 2, 1) := by decide +kernel
theorem dX1_favourite_29 : decode cX1_favourite 29 = .ok (.invokevirtual 94, 3) := by decide +kernel
theorem dX1_favourite_32 : decode cX1_favourite 32 = .ok (.ifCond .eq 5, 3) := by decide +kernel
theorem dX1_favourite_35 : decode cX1_favourite 35 = .ok (.iload_n 3, 1) := by decide +kernel
theorem dX1_favourite_36 : decode cX1_favourite 36 = .ok (.istore_n 2, 1) := by decide +kernel
theorem dX1_favourite_37 : decode cX1_favourite 37 = .ok (.iinc 3 1, 3) := by decide +kernel
theorem dX1_favourite_40 : decode cX1_favourite 40 = .ok (.goto (-35), 3) := by decide +kernel
theorem dX1_favourite_43 : decode cX1_favourite 43 = .ok (.iload_n 2, 1) := by decide +kernel
theorem dX1_favourite_44 : decode cX1_favourite 44 = .ok (.ireturn, 1) := by decide +kernel
set_option maxRecDepth 20000 in
theorem ggX1_askFor_X7_at : GoodIn wsX1_askFor wsX7_at := goodIn_r _ [6] (by decide +kernel) (by decide +kernel)
set_option maxRecDepth 20000 in
theorem gX1_askFor_X7_at_n40 : GoodIn wsX1_askFor (wsX7_at) := ggX1_askFor_X7_at
set_option maxRecDepth 20000 in
theorem ggX1_askFor_X7_put : GoodIn wsX1_askFor wsX7_put := goodIn_r _ [8] (by decide +kernel) (by decide +kernel)
set_option maxRecDepth 20000 in
theorem gX1_askFor_X7_put_n48 : GoodIn wsX1_askFor (wsX7_put) := ggX1_askFor_X7_put
set_option maxRecDepth 20000 in
theorem ggX1_askFor_X1_namePrefers : GoodIn wsX1_askFor wsX1_namePrefers := goodIn_r _ [13, 14, 15, 16, 17, 18, 19, 20, 4, 5, 6, 25, 26, 27, 28, 29, 30, 31, 32, 33, 34, 35] (by decide +kernel) (by decide +kernel)
set_option maxRecDepth 20000 in
theorem gX1_askFor_X1_namePrefers : GoodIn wsX1_askFor (wsV RX1 98 RX1 yX1_namePrefers wsX1_namePrefers) := goodIn_app (goodIn_of _ (by decide +kernel)) ggX1_askFor_X1_namePrefers
set_option maxRecDepth 20000 in
theorem ggX1_askFor_X1_give : GoodIn wsX1_askFor wsX1_give := goodIn_r _ [24, 3, 2, 7, 5, 8, 25, 26, 27, 28, 29, 30] (by decide +kernel) (by decide +kernel)
set_option maxRecDepth 20000 in
theorem gX1_askFor_X1_give : GoodIn wsX1_askFor (wsV RX1 66 RX1 yX1_give wsX1_give) := goodIn_app (goodIn_of _ (by decide +kernel)) ggX1_askFor_X1_give
theorem dX1_askFor_0 : decode cX1_askFor 0 = .ok (.aload_n 0, 1) := by decide +kernel
theorem dX1_askFor_1 : decode cX1_askFor 1 = .ok (.getfield 15, 3) := by decide +kernel
theorem dX1_askFor_4 : decode cX1_askFor 4 = .ok (.iload_n 1, 1) := by decide +kernel
theorem dX1_askFor_5 : decode cX1_askFor 5 = .ok (.aload_n 0, 1) := by decide +kernel
theorem dX1_askFor_6 : decode cX1_askFor 6 = .ok (.getfield 15, 3) := by decide +kernel
theorem dX1_askFor_9 : decode cX1_askFor 9 = .ok (.iload_n 1, 1) := by decide +kernel
theorem dX1_askFor_10 : decode cX1_askFor 10 = .ok (.invokestatic 40, 3) := by decide +kernel
theorem dX1_askFor_13 : decode cX1_askFor 13 = .ok (.iconst 1, 1) := by decide +kernel
theorem dX1_askFor_14 : decode cX1_askFor 14 = .ok (.iload_n 2, 1) := by decide +kernel
theorem dX1_askFor_15 : decode cX1_askFor 15 = .ok (.ishl, 1) := by decide +kernel
theorem dX1_askFor_16 : decode cX1_askFor 16 = .ok (.iconst (-1), 1) := by decide +kernel
theorem dX1_askFor_17 : decode cX1_askFor 17 = .ok (.ixor, 1) := by decide +kernel
theorem dX1_askFor_18 : decode cX1_askFor 18 = .ok (.iand, 1) := by decide +kernel
theorem dX1_askFor_19 : decode cX1_askFor 19 = .ok (.invokestatic 48, 3) := by decide +kernel
theorem dX1_askFor_22 : decode cX1_askFor 22 = .ok (.aload_n 0, 1) := by decide +kernel
theorem dX1_askFor_23 : decode cX1_askFor 23 = .ok (.getfield 21, 3) := by decide +kernel
theorem dX1_askFor_26 : decode cX1_askFor 26 = .ok (.iload_n 2, 1) := by decide +kernel
theorem dX1_askFor_27 : decode cX1_askFor 27 = .ok (.invokestatic 40, 3) := by decide +kernel
theorem dX1_askFor_30 : decode cX1_askFor 30 = .ok (.istore_n 3, 1) := by decide +kernel
theorem dX1_askFor_31 : decode cX1_askFor 31 = .ok (.aload_n 0, 1) := by decide +kernel
theorem dX1_askFor_32 : decode cX1_askFor 32 = .ok (.iload_n 2, 1) := by decide +kernel
theorem dX1_askFor_33 : decode cX1_askFor 33 = .ok (.iload_n 1, 1) := by decide +kernel
theorem dX1_askFor_34 : decode cX1_askFor 34 = .ok (.iload_n 3, 1) := by decide +kernel
theorem dX1_askFor_35 : decode cX1_askFor 35 = .ok (.invokevirtual 98, 3) := by decide +kernel
theorem dX1_askFor_38 : decode cX1_askFor 38 = .ok (.ifCond .ne 4, 3) := by decide +kernel
theorem dX1_askFor_41 : decode cX1_askFor 41 = .ok (.return_, 1) := by decide +kernel
theorem dX1_askFor_42 : decode cX1_askFor 42 = .ok (.iload_n 3, 1) := by decide +kernel
theorem dX1_askFor_43 : decode cX1_askFor 43 = .ok (.bipush (-6), 2) := by decide +kernel
theorem dX1_askFor_45 : decode cX1_askFor 45 = .ok (.if_icmp .eq 13, 3) := by decide +kernel
theorem dX1_askFor_48 : decode cX1_askFor 48 = .ok (.aload_n 0, 1) := by decide +kernel
theorem dX1_askFor_49 : decode cX1_askFor 49 = .ok (.getfield 18, 3) := by decide +kernel
theorem dX1_askFor_52 : decode cX1_askFor 52 = .ok (.iload_n 3, 1) := by decide +kernel
theorem dX1_askFor_53 : decode cX1_askFor 53 = .ok (.bipush (-6), 2) := by decide +kernel
theorem dX1_askFor_55 : decode cX1_askFor 55 = .ok (.invokestatic 48, 3) := by decide +kernel
theorem dX1_askFor_58 : decode cX1_askFor 58 = .ok (.aload_n 0, 1) := by decide +kernel
theorem dX1_askFor_59 : decode cX1_askFor 59 = .ok (.iload_n 1, 1) := by decide +kernel
theorem dX1_askFor_60 : decode cX1_askFor 60 = .ok (.iload_n 2, 1) := by decide +kernel
theorem dX1_askFor_61 : decode cX1_askFor 61 = .ok (.invokevirtual 66, 3) := by decide +kernel
theorem dX1_askFor_64 : decode cX1_askFor 64 = .ok (.return_, 1) := by decide +kernel
set_option maxRecDepth 20000 in
theorem ggX1_hullPrefers_X3_worthOf : GoodIn wsX1_hullPrefers wsX3_worthOf := goodIn_r _ [6, 7, 8, 9, 10, 11, 12, 19, 20, 21, 22, 23] (by decide +kernel) (by decide +kernel)
set_option maxRecDepth 20000 in
theorem gX1_hullPrefers_X3_worthOf : GoodIn wsX1_hullPrefers (wsV RX1 52 RX3 yX3_worthOf wsX3_worthOf) := goodIn_app (goodIn_of _ (by decide +kernel)) ggX1_hullPrefers_X3_worthOf
theorem dX1_hullPrefers_0 : decode cX1_hullPrefers 0 = .ok (.iload_n 3, 1) := by decide +kernel
theorem dX1_hullPrefers_1 : decode cX1_hullPrefers 1 = .ok (.bipush (-6), 2) := by decide +kernel
theorem dX1_hullPrefers_3 : decode cX1_hullPrefers 3 = .ok (.if_icmp .ne 5, 3) := by decide +kernel
theorem dX1_hullPrefers_6 : decode cX1_hullPrefers 6 = .ok (.iconst 1, 1) := by decide +kernel
theorem dX1_hullPrefers_7 : decode cX1_hullPrefers 7 = .ok (.ireturn, 1) := by decide +kernel
theorem dX1_hullPrefers_8 : decode cX1_hullPrefers 8 = .ok (.aload_n 0, 1) := by decide +kernel
theorem dX1_hullPrefers_9 : decode cX1_hullPrefers 9 = .ok (.getfield 27, 3) := by decide +kernel
theorem dX1_hullPrefers_12 : decode cX1_hullPrefers 12 = .ok (.iload_n 1, 1) := by decide +kernel
theorem dX1_hullPrefers_13 : decode cX1_hullPrefers 13 = .ok (.iload_n 2, 1) := by decide +kernel
theorem dX1_hullPrefers_14 : decode cX1_hullPrefers 14 = .ok (.invokevirtual 52, 3) := by decide +kernel
theorem dX1_hullPrefers_17 : decode cX1_hullPrefers 17 = .ok (.aload_n 0, 1) := by decide +kernel
theorem dX1_hullPrefers_18 : decode cX1_hullPrefers 18 = .ok (.getfield 27, 3) := by decide +kernel
theorem dX1_hullPrefers_21 : decode cX1_hullPrefers 21 = .ok (.iload_n 1, 1) := by decide +kernel
theorem dX1_hullPrefers_22 : decode cX1_hullPrefers 22 = .ok (.iload_n 3, 1) := by decide +kernel
theorem dX1_hullPrefers_23 : decode cX1_hullPrefers 23 = .ok (.invokevirtual 52, 3) := by decide +kernel
theorem dX1_hullPrefers_26 : decode cX1_hullPrefers 26 = .ok (.isub, 1) := by decide +kernel
theorem dX1_hullPrefers_27 : decode cX1_hullPrefers 27 = .ok (.istore 4, 2) := by decide +kernel
theorem dX1_hullPrefers_29 : decode cX1_hullPrefers 29 = .ok (.iload 4, 2) := by decide +kernel
theorem dX1_hullPrefers_31 : decode cX1_hullPrefers 31 = .ok (.ifCond .gt 13, 3) := by decide +kernel
theorem dX1_hullPrefers_34 : decode cX1_hullPrefers 34 = .ok (.iload 4, 2) := by decide +kernel
theorem dX1_hullPrefers_36 : decode cX1_hullPrefers 36 = .ok (.ifCond .ne 12, 3) := by decide +kernel
theorem dX1_hullPrefers_39 : decode cX1_hullPrefers 39 = .ok (.iload_n 2, 1) := by decide +kernel
theorem dX1_hullPrefers_40 : decode cX1_hullPrefers 40 = .ok (.iload_n 3, 1) := by decide +kernel
theorem dX1_hullPrefers_41 : decode cX1_hullPrefers 41 = .ok (.if_icmp .ge 7, 3) := by decide +kernel
theorem dX1_hullPrefers_44 : decode cX1_hullPrefers 44 = .ok (.iconst 1, 1) := by decide +kernel
theorem dX1_hullPrefers_45 : decode cX1_hullPrefers 45 = .ok (.goto 4, 3) := by decide +kernel
theorem dX1_hullPrefers_48 : decode cX1_hullPrefers 48 = .ok (.iconst 0, 1) := by decide +kernel
theorem dX1_hullPrefers_49 : decode cX1_hullPrefers 49 = .ok (.ireturn, 1) := by decide +kernel
set_option maxRecDepth 20000 in
theorem ggX1_namePrefers_X3_placeOf : GoodIn wsX1_namePrefers wsX3_placeOf := goodIn_r _ [6, 7, 8, 9, 10, 17, 18, 19, 20, 21] (by decide +kernel) (by decide +kernel)
set_option maxRecDepth 20000 in
theorem gX1_namePrefers_X3_placeOf : GoodIn wsX1_namePrefers (wsV RX1 101 RX3 yX3_placeOf wsX3_placeOf) := goodIn_app (goodIn_of _ (by decide +kernel)) ggX1_namePrefers_X3_placeOf
theorem dX1_namePrefers_0 : decode cX1_namePrefers 0 = .ok (.iload_n 3, 1) := by decide +kernel
theorem dX1_namePrefers_1 : decode cX1_namePrefers 1 = .ok (.bipush (-6), 2) := by decide +kernel
theorem dX1_namePrefers_3 : decode cX1_namePrefers 3 = .ok (.if_icmp .eq 24, 3) := by decide +kernel
theorem dX1_namePrefers_6 : decode cX1_namePrefers 6 = .ok (.aload_n 0, 1) := by decide +kernel
theorem dX1_namePrefers_7 : decode cX1_namePrefers 7 = .ok (.getfield 27, 3) := by decide +kernel
theorem dX1_namePrefers_10 : decode cX1_namePrefers 10 = .ok (.iload_n 1, 1) := by decide +kernel
theorem dX1_namePrefers_11 : decode cX1_namePrefers 11 = .ok (.iload_n 2, 1) := by decide +kernel
theorem dX1_namePrefers_12 : decode cX1_namePrefers 12 = .ok (.invokevirtual 101, 3) := by decide +kernel
theorem dX1_namePrefers_15 : decode cX1_namePrefers 15 = .ok (.aload_n 0, 1) := by decide +kernel
theorem dX1_namePrefers_16 : decode cX1_namePrefers 16 = .ok (.getfield 27, 3) := by decide +kernel
theorem dX1_namePrefers_19 : decode cX1_namePrefers 19 = .ok (.iload_n 1, 1) := by decide +kernel
theorem dX1_namePrefers_20 : decode cX1_namePrefers 20 = .ok (.iload_n 3, 1) := by decide +kernel
theorem dX1_namePrefers_21 : decode cX1_namePrefers 21 = .ok (.invokevirtual 101, 3) := by decide +kernel
theorem dX1_namePrefers_24 : decode cX1_namePrefers 24 = .ok (.if_icmp .ge 7, 3) := by decide +kernel
theorem dX1_namePrefers_27 : decode cX1_namePrefers 27 = .ok (.iconst 1, 1) := by decide +kernel
theorem dX1_namePrefers_28 : decode cX1_namePrefers 28 = .ok (.goto 4, 3) := by decide +kernel
theorem dX1_namePrefers_31 : decode cX1_namePrefers 31 = .ok (.iconst 0, 1) := by decide +kernel
theorem dX1_namePrefers_32 : decode cX1_namePrefers 32 = .ok (.ireturn, 1) := by decide +kernel
set_option maxRecDepth 20000 in
theorem ggX1_takes_X7_isWithin : GoodIn wsX1_takes wsX7_isWithin := goodIn_r _ [6] (by decide +kernel) (by decide +kernel)
set_option maxRecDepth 20000 in
theorem gX1_takes_X7_isWithin_n105 : GoodIn wsX1_takes (wsX7_isWithin) := ggX1_takes_X7_isWithin
set_option maxRecDepth 20000 in
theorem ggX1_takes_X7_isName : GoodIn wsX1_takes wsX7_isName := goodIn_r _ [8] (by decide +kernel) (by decide +kernel)
set_option maxRecDepth 20000 in
theorem gX1_takes_X7_isName_n108 : GoodIn wsX1_takes (wsX7_isName) := ggX1_takes_X7_isName
set_option maxRecDepth 20000 in
theorem ggX1_takes_X7_hasBit : GoodIn wsX1_takes wsX7_hasBit := goodIn_r _ [10] (by decide +kernel) (by decide +kernel)
set_option maxRecDepth 20000 in
theorem gX1_takes_X7_hasBit_n31 : GoodIn wsX1_takes (wsX7_hasBit) := ggX1_takes_X7_hasBit
set_option maxRecDepth 20000 in
theorem ggX1_takes_X1_give : GoodIn wsX1_takes wsX1_give := goodIn_r _ [15, 16, 3, 17, 5, 18, 19, 20, 21, 22, 23, 24] (by decide +kernel) (by decide +kernel)
set_option maxRecDepth 20000 in
theorem gX1_takes_X1_give : GoodIn wsX1_takes (wsV RX1 66 RX1 yX1_give wsX1_give) := goodIn_app (goodIn_of _ (by decide +kernel)) ggX1_takes_X1_give
theorem dX1_takes_0 : decode cX1_takes 0 = .ok (.iload_n 1, 1) := by decide +kernel
theorem dX1_takes_1 : decode cX1_takes 1 = .ok (.iconst 0, 1) := by decide +kernel
theorem dX1_takes_2 : decode cX1_takes 2 = .ok (.ldc 104, 2) := by decide +kernel
theorem dX1_takes_4 : decode cX1_takes 4 = .ok (.invokestatic 105, 3) := by decide +kernel
theorem dX1_takes_7 : decode cX1_takes 7 = .ok (.ifCond .ne 5, 3) := by decide +kernel
theorem dX1_takes_10 : decode cX1_takes 10 = .ok (.iconst 0, 1) := by decide +kernel
theorem dX1_takes_11 : decode cX1_takes 11 = .ok (.ireturn, 1) := by decide +kernel
theorem dX1_takes_12 : decode cX1_takes 12 = .ok (.iload_n 1, 1) := by decide +kernel
theorem dX1_takes_13 : decode cX1_takes 13 = .ok (.istore_n 2, 1) := by decide +kernel
theorem dX1_takes_14 : decode cX1_takes 14 = .ok (.iconst 5, 1) := by decide +kernel
theorem dX1_takes_15 : decode cX1_takes 15 = .ok (.istore_n 3, 1) := by decide +kernel
theorem dX1_takes_16 : decode cX1_takes 16 = .ok (.iload_n 3, 1) := by decide +kernel
theorem dX1_takes_17 : decode cX1_takes 17 = .ok (.ifCond .lt 73, 3) := by decide +kernel
theorem dX1_takes_20 : decode cX1_takes 20 = .ok (.iload_n 2, 1) := by decide +kernel
theorem dX1_takes_21 : decode cX1_takes 21 = .ok (.bipush 10, 2) := by decide +kernel
theorem dX1_takes_23 : decode cX1_takes 23 = .ok (.irem, 1) := by decide +kernel
theorem dX1_takes_24 : decode cX1_takes 24 = .ok (.iconst 1, 1) := by decide +kernel
theorem dX1_takes_25 : decode cX1_takes 25 = .ok (.isub, 1) := by decide +kernel
theorem dX1_takes_26 : decode cX1_takes 26 = .ok (.istore 4, 2) := by decide +kernel
theorem dX1_takes_28 : decode cX1_takes 28 = .ok (.iload_n 2, 1) := by decide +kernel
theorem dX1_takes_29 : decode cX1_takes 29 = .ok (.bipush 10, 2) := by decide +kernel
theorem dX1_takes_31 : decode cX1_takes 31 = .ok (.idiv, 1) := by decide +kernel
theorem dX1_takes_32 : decode cX1_takes 32 = .ok (.istore_n 2, 1) := by decide +kernel
theorem dX1_takes_33 : decode cX1_takes 33 = .ok (.iload 4, 2) := by decide +kernel
theorem dX1_takes_35 : decode cX1_takes 35 = .ok (.ifCond .ge 6, 3) := by decide +kernel
theorem dX1_takes_38 : decode cX1_takes 38 = .ok (.goto 46, 3) := by decide +kernel
theorem dX1_takes_41 : decode cX1_takes 41 = .ok (.iload 4, 2) := by decide +kernel
theorem dX1_takes_43 : decode cX1_takes 43 = .ok (.invokestatic 108, 3) := by decide +kernel
theorem dX1_takes_46 : decode cX1_takes 46 = .ok (.ifCond .eq 29, 3) := by decide +kernel
theorem dX1_takes_49 : decode cX1_takes 49 = .ok (.aload_n 0, 1) := by decide +kernel
theorem dX1_takes_50 : decode cX1_takes 50 = .ok (.getfield 9, 3) := by decide +kernel
theorem dX1_takes_53 : decode cX1_takes 53 = .ok (.iload_n 3, 1) := by decide +kernel
theorem dX1_takes_54 : decode cX1_takes 54 = .ok (.iaload, 1) := by decide +kernel
theorem dX1_takes_55 : decode cX1_takes 55 = .ok (.iload 4, 2) := by decide +kernel
theorem dX1_takes_57 : decode cX1_takes 57 = .ok (.invokestatic 31, 3) := by decide +kernel
theorem dX1_takes_60 : decode cX1_takes 60 = .ok (.ifCond .eq 15, 3) := by decide +kernel
theorem dX1_takes_63 : decode cX1_takes 63 = .ok (.aload_n 0, 1) := by decide +kernel
theorem dX1_takes_64 : decode cX1_takes 64 = .ok (.getfield 21, 3) := by decide +kernel
theorem dX1_takes_67 : decode cX1_takes 67 = .ok (.iload 4, 2) := by decide +kernel
theorem dX1_takes_69 : decode cX1_takes 69 = .ok (.iaload, 1) := by decide +kernel
theorem dX1_takes_70 : decode cX1_takes 70 = .ok (.bipush (-6), 2) := by decide +kernel
theorem dX1_takes_72 : decode cX1_takes 72 = .ok (.if_icmp .eq 5, 3) := by decide +kernel
theorem dX1_takes_75 : decode cX1_takes 75 = .ok (.iconst 0, 1) := by decide +kernel
theorem dX1_takes_76 : decode cX1_takes 76 = .ok (.ireturn, 1) := by decide +kernel
theorem dX1_takes_77 : decode cX1_takes 77 = .ok (.aload_n 0, 1) := by decide +kernel
theorem dX1_takes_78 : decode cX1_takes 78 = .ok (.iload_n 3, 1) := by decide +kernel
theorem dX1_takes_79 : decode cX1_takes 79 = .ok (.iload 4, 2) := by decide +kernel
theorem dX1_takes_81 : decode cX1_takes 81 = .ok (.invokevirtual 66, 3) := by decide +kernel
theorem dX1_takes_84 : decode cX1_takes 84 = .ok (.iinc 3 (-1), 3) := by decide +kernel
theorem dX1_takes_87 : decode cX1_takes 87 = .ok (.goto (-71), 3) := by decide +kernel
theorem dX1_takes_90 : decode cX1_takes 90 = .ok (.iconst 1, 1) := by decide +kernel
theorem dX1_takes_91 : decode cX1_takes 91 = .ok (.ireturn, 1) := by decide +kernel
set_option maxRecDepth 20000 in
theorem ggX1_firstPair_X7_hasBit : GoodIn wsX1_firstPair wsX7_hasBit := goodIn_r _ [6] (by decide +kernel) (by decide +kernel)
set_option maxRecDepth 20000 in
theorem gX1_firstPair_X7_hasBit_n31 : GoodIn wsX1_firstPair (wsX7_hasBit) := ggX1_firstPair_X7_hasBit
set_option maxRecDepth 20000 in
theorem ggX1_firstPair_X1_hullPrefers : GoodIn wsX1_firstPair wsX1_hullPrefers := goodIn_r _ [11, 12, 13, 14, 15, 16, 17, 18, 19, 5, 20, 21, 22, 34, 35, 36, 37, 38, 39, 40, 41, 42, 43, 44] (by decide +kernel) (by decide +kernel)
set_option maxRecDepth 20000 in
theorem gX1_firstPair_X1_hullPrefers : GoodIn wsX1_firstPair (wsV RX1 94 RX1 yX1_hullPrefers wsX1_hullPrefers) := goodIn_app (goodIn_of _ (by decide +kernel)) ggX1_firstPair_X1_hullPrefers
set_option maxRecDepth 20000 in
theorem ggX1_firstPair_X1_namePrefers : GoodIn wsX1_firstPair wsX1_namePrefers := goodIn_r _ [26, 12, 27, 28, 29, 16, 30, 31, 32, 5, 33, 34, 35, 36, 37, 38, 39, 40, 41, 42, 43, 44] (by decide +kernel) (by decide +kernel)
set_option maxRecDepth 20000 in
theorem gX1_firstPair_X1_namePrefers : GoodIn wsX1_firstPair (wsV RX1 98 RX1 yX1_namePrefers wsX1_namePrefers) := goodIn_app (goodIn_of _ (by decide +kernel)) ggX1_firstPair_X1_namePrefers
theorem dX1_firstPair_0 : decode cX1_firstPair 0 = .ok (.iconst 0, 1) := by decide +kernel
theorem dX1_firstPair_1 : decode cX1_firstPair 1 = .ok (.istore_n 1, 1) := by decide +kernel
theorem dX1_firstPair_2 : decode cX1_firstPair 2 = .ok (.iload_n 1, 1) := by decide +kernel
theorem dX1_firstPair_3 : decode cX1_firstPair 3 = .ok (.bipush 6, 2) := by decide +kernel
theorem dX1_firstPair_5 : decode cX1_firstPair 5 = .ok (.if_icmp .ge 71, 3) := by decide +kernel
theorem dX1_firstPair_8 : decode cX1_firstPair 8 = .ok (.iconst 0, 1) := by decide +kernel
theorem dX1_firstPair_9 : decode cX1_firstPair 9 = .ok (.istore_n 2, 1) := by decide +kernel
theorem dX1_firstPair_10 : decode cX1_firstPair 10 = .ok (.iload_n 2, 1) := by decide +kernel
theorem dX1_firstPair_11 : decode cX1_firstPair 11 = .ok (.iconst 5, 1) := by decide +kernel
theorem dX1_firstPair_12 : decode cX1_firstPair 12 = .ok (.if_icmp .ge 58, 3) := by decide +kernel
theorem dX1_firstPair_15 : decode cX1_firstPair 15 = .ok (.aload_n 0, 1) := by decide +kernel
theorem dX1_firstPair_16 : decode cX1_firstPair 16 = .ok (.getfield 9, 3) := by decide +kernel
theorem dX1_firstPair_19 : decode cX1_firstPair 19 = .ok (.iload_n 1, 1) := by decide +kernel
theorem dX1_firstPair_20 : decode cX1_firstPair 20 = .ok (.iaload, 1) := by decide +kernel
theorem dX1_firstPair_21 : decode cX1_firstPair 21 = .ok (.iload_n 2, 1) := by decide +kernel
theorem dX1_firstPair_22 : decode cX1_firstPair 22 = .ok (.invokestatic 31, 3) := by decide +kernel
theorem dX1_firstPair_25 : decode cX1_firstPair 25 = .ok (.ifCond .eq 39, 3) := by decide +kernel
theorem dX1_firstPair_28 : decode cX1_firstPair 28 = .ok (.aload_n 0, 1) := by decide +kernel
theorem dX1_firstPair_29 : decode cX1_firstPair 29 = .ok (.iload_n 1, 1) := by decide +kernel
theorem dX1_firstPair_30 : decode cX1_firstPair 30 = .ok (.iload_n 2, 1) := by decide +kernel
theorem dX1_firstPair_31 : decode cX1_firstPair 31 = .ok (.aload_n 0, 1) := by decide +kernel
theorem dX1_firstPair_32 : decode cX1_firstPair 32 = .ok (.getfield 18, 3) := by decide +kernel
theorem dX1_firstPair_35 : decode cX1_firstPair 35 = .ok (.iload_n 1, 1) := by decide +kernel
theorem dX1_firstPair_36 : decode cX1_firstPair 36 = .ok (.iaload, 1) := by decide +kernel
theorem dX1_firstPair_37 : decode cX1_firstPair 37 = .ok (.invokevirtual 94, 3) := by decide +kernel
theorem dX1_firstPair_40 : decode cX1_firstPair 40 = .ok (.ifCond .eq 24, 3) := by decide +kernel
theorem dX1_firstPair_43 : decode cX1_firstPair 43 = .ok (.aload_n 0, 1) := by decide +kernel
theorem dX1_firstPair_44 : decode cX1_firstPair 44 = .ok (.iload_n 2, 1) := by decide +kernel
theorem dX1_firstPair_45 : decode cX1_firstPair 45 = .ok (.iload_n 1, 1) := by decide +kernel
theorem dX1_firstPair_46 : decode cX1_firstPair 46 = .ok (.aload_n 0, 1) := by decide +kernel
theorem dX1_firstPair_47 : decode cX1_firstPair 47 = .ok (.getfield 21, 3) := by decide +kernel
theorem dX1_firstPair_50 : decode cX1_firstPair 50 = .ok (.iload_n 2, 1) := by decide +kernel
theorem dX1_firstPair_51 : decode cX1_firstPair 51 = .ok (.iaload, 1) := by decide +kernel
theorem dX1_firstPair_52 : decode cX1_firstPair 52 = .ok (.invokevirtual 98, 3) := by decide +kernel
theorem dX1_firstPair_55 : decode cX1_firstPair 55 = .ok (.ifCond .eq 9, 3) := by decide +kernel
theorem dX1_firstPair_58 : decode cX1_firstPair 58 = .ok (.iload_n 1, 1) := by decide +kernel
theorem dX1_firstPair_59 : decode cX1_firstPair 59 = .ok (.iconst 5, 1) := by decide +kernel
theorem dX1_firstPair_60 : decode cX1_firstPair 60 = .ok (.imul, 1) := by decide +kernel
theorem dX1_firstPair_61 : decode cX1_firstPair 61 = .ok (.iload_n 2, 1) := by decide +kernel
theorem dX1_firstPair_62 : decode cX1_firstPair 62 = .ok (.iadd, 1) := by decide +kernel
theorem dX1_firstPair_63 : decode cX1_firstPair 63 = .ok (.ireturn, 1) := by decide +kernel
theorem dX1_firstPair_64 : decode cX1_firstPair 64 = .ok (.iinc 2 1, 3) := by decide +kernel
theorem dX1_firstPair_67 : decode cX1_firstPair 67 = .ok (.goto (-57), 3) := by decide +kernel
theorem dX1_firstPair_70 : decode cX1_firstPair 70 = .ok (.iinc 1 1, 3) := by decide +kernel
theorem dX1_firstPair_73 : decode cX1_firstPair 73 = .ok (.goto (-71), 3) := by decide +kernel
theorem dX1_firstPair_76 : decode cX1_firstPair 76 = .ok (.bipush (-6), 2) := by decide +kernel
theorem dX1_firstPair_78 : decode cX1_firstPair 78 = .ok (.ireturn, 1) := by decide +kernel
