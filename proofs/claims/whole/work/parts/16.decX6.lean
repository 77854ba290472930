theorem dX6_init_0 : decode cX6_init 0 = .ok (.aload_n 0, 1) := by decide +kernel
theorem dX6_init_1 : decode cX6_init 1 = .ok (.invokespecial 3, 3) := by decide +kernel
theorem dX6_init_4 : decode cX6_init 4 = .ok (.aload_n 0, 1) := by decide +kernel
theorem dX6_init_5 : decode cX6_init 5 = .ok (.iconst 4, 1) := by decide +kernel
theorem dX6_init_6 : decode cX6_init 6 = .ok (.newarray .int, 2) := by decide +kernel
theorem dX6_init_8 : decode cX6_init 8 = .ok (.putfield 9, 3) := by decide +kernel
theorem dX6_init_11 : decode cX6_init 11 = .ok (.aload_n 0, 1) := by decide +kernel
theorem dX6_init_12 : decode cX6_init 12 = .ok (.iconst 4, 1) := by decide +kernel
theorem dX6_init_13 : decode cX6_init 13 = .ok (.newarray .int, 2) := by decide +kernel
theorem dX6_init_15 : decode cX6_init 15 = .ok (.putfield 15, 3) := by decide +kernel
theorem dX6_init_18 : decode cX6_init 18 = .ok (.aload_n 0, 1) := by decide +kernel
theorem dX6_init_19 : decode cX6_init 19 = .ok (.aload_n 1, 1) := by decide +kernel
theorem dX6_init_20 : decode cX6_init 20 = .ok (.putfield 18, 3) := by decide +kernel
theorem dX6_init_23 : decode cX6_init 23 = .ok (.aload_n 0, 1) := by decide +kernel
theorem dX6_init_24 : decode cX6_init 24 = .ok (.aload_n 2, 1) := by decide +kernel
theorem dX6_init_25 : decode cX6_init 25 = .ok (.putfield 22, 3) := by decide +kernel
theorem dX6_init_28 : decode cX6_init 28 = .ok (.aload_n 0, 1) := by decide +kernel
theorem dX6_init_29 : decode cX6_init 29 = .ok (.aload_n 3, 1) := by decide +kernel
theorem dX6_init_30 : decode cX6_init 30 = .ok (.putfield 26, 3) := by decide +kernel
theorem dX6_init_33 : decode cX6_init 33 = .ok (.return_, 1) := by decide +kernel
theorem dX6_ask_0 : decode cX6_ask 0 = .ok (.aload_n 0, 1) := by decide +kernel
theorem dX6_ask_1 : decode cX6_ask 1 = .ok (.iload_n 1, 1) := by decide +kernel
theorem dX6_ask_2 : decode cX6_ask 2 = .ok (.putfield 30, 3) := by decide +kernel
theorem dX6_ask_5 : decode cX6_ask 5 = .ok (.aload_n 0, 1) := by decide +kernel
theorem dX6_ask_6 : decode cX6_ask 6 = .ok (.iload_n 2, 1) := by decide +kernel
theorem dX6_ask_7 : decode cX6_ask 7 = .ok (.putfield 34, 3) := by decide +kernel
theorem dX6_ask_10 : decode cX6_ask 10 = .ok (.return_, 1) := by decide +kernel
set_option maxRecDepth 20000 in
theorem ggX6_tell_X4_calm : GoodIn wsX6_tell wsX4_calm := goodIn_r _ [11, 12, 13, 14, 15, 16, 17, 18, 19, 20, 111, 112, 113, 114, 115, 116] (by decide +kernel) (by decide +kernel)
set_option maxRecDepth 20000 in
theorem gX6_tell_X4_calm : GoodIn wsX6_tell (wsV RX6 37 RX4 yX4_calm wsX4_calm) := goodIn_app (goodIn_of _ (by decide +kernel)) ggX6_tell_X4_calm
set_option maxRecDepth 20000 in
theorem ggX6_tell_X6_tellPart : GoodIn wsX6_tell wsX6_tellPart := goodIn_r _ [25, 5, 26, 1, 27, 28, 29, 30, 19, 31, 32, 33, 34, 24, 35, 36, 37, 3, 38, 39, 40, 10, 41, 13, 15, 17, 16, 42, 43, 44, 45, 12, 14, 46, 47, 48, 49, 50, 51, 52, 53, 54, 55, 56, 57, 58, 59, 60, 61, 62, 63, 64, 65, 66, 2, 67, 68, 69, 70, 71, 72, 73, 74, 75, 76, 77, 78, 79, 80, 81, 82, 83, 84, 85, 86, 87, 88, 89, 90, 91, 92, 93, 94, 95, 96, 97, 98, 99, 100, 101, 102, 103, 104, 105, 106, 107, 108, 109, 110, 111, 112, 113, 114, 115, 116, 117, 118, 119, 120, 121] (by decide +kernel) (by decide +kernel)
set_option maxRecDepth 20000 in
theorem gX6_tell_X6_tellPart : GoodIn wsX6_tell (wsV RX6 56 RX6 yX6_tellPart wsX6_tellPart) := goodIn_app (goodIn_of _ (by decide +kernel)) ggX6_tell_X6_tellPart
set_option maxRecDepth 20000 in
theorem ggX6_tell_X6_look : GoodIn wsX6_tell wsX6_look := goodIn_r _ [35, 1, 27, 36, 37, 3, 38, 39, 40, 10, 41, 13, 15, 17, 16, 30, 19, 31, 89, 90, 91, 92, 93, 94, 95, 96, 97, 98, 99, 100, 111, 112, 113, 114, 115, 116] (by decide +kernel) (by decide +kernel)
set_option maxRecDepth 20000 in
theorem gX6_tell_X6_look : GoodIn wsX6_tell (wsV RX6 60 RX6 yX6_look wsX6_look) := goodIn_app (goodIn_of _ (by decide +kernel)) ggX6_tell_X6_look
theorem dX6_tell_0 : decode cX6_tell 0 = .ok (.aload_n 0, 1) := by decide +kernel
theorem dX6_tell_1 : decode cX6_tell 1 = .ok (.getfield 26, 3) := by decide +kernel
theorem dX6_tell_4 : decode cX6_tell 4 = .ok (.invokevirtual 37, 3) := by decide +kernel
theorem dX6_tell_7 : decode cX6_tell 7 = .ok (.aload_n 0, 1) := by decide +kernel
theorem dX6_tell_8 : decode cX6_tell 8 = .ok (.iconst 0, 1) := by decide +kernel
theorem dX6_tell_9 : decode cX6_tell 9 = .ok (.putfield 42, 3) := by decide +kernel
theorem dX6_tell_12 : decode cX6_tell 12 = .ok (.aload_n 0, 1) := by decide +kernel
theorem dX6_tell_13 : decode cX6_tell 13 = .ok (.bipush (-6), 2) := by decide +kernel
theorem dX6_tell_15 : decode cX6_tell 15 = .ok (.putfield 45, 3) := by decide +kernel
theorem dX6_tell_18 : decode cX6_tell 18 = .ok (.aload_n 0, 1) := by decide +kernel
theorem dX6_tell_19 : decode cX6_tell 19 = .ok (.iconst 0, 1) := by decide +kernel
theorem dX6_tell_20 : decode cX6_tell 20 = .ok (.putfield 48, 3) := by decide +kernel
theorem dX6_tell_23 : decode cX6_tell 23 = .ok (.iconst 0, 1) := by decide +kernel
theorem dX6_tell_24 : decode cX6_tell 24 = .ok (.istore_n 1, 1) := by decide +kernel
theorem dX6_tell_25 : decode cX6_tell 25 = .ok (.iload_n 1, 1) := by decide +kernel
theorem dX6_tell_26 : decode cX6_tell 26 = .ok (.aload_n 0, 1) := by decide +kernel
theorem dX6_tell_27 : decode cX6_tell 27 = .ok (.getfield 22, 3) := by decide +kernel
theorem dX6_tell_30 : decode cX6_tell 30 = .ok (.getfield 51, 3) := by decide +kernel
theorem dX6_tell_33 : decode cX6_tell 33 = .ok (.if_icmp .ge 33, 3) := by decide +kernel
theorem dX6_tell_36 : decode cX6_tell 36 = .ok (.iload_n 1, 1) := by decide +kernel
theorem dX6_tell_37 : decode cX6_tell 37 = .ok (.bipush 48, 2) := by decide +kernel
theorem dX6_tell_39 : decode cX6_tell 39 = .ok (.if_icmp .ge 27, 3) := by decide +kernel
theorem dX6_tell_42 : decode cX6_tell 42 = .ok (.aload_n 0, 1) := by decide +kernel
theorem dX6_tell_43 : decode cX6_tell 43 = .ok (.aload_n 0, 1) := by decide +kernel
theorem dX6_tell_44 : decode cX6_tell 44 = .ok (.iload_n 1, 1) := by decide +kernel
theorem dX6_tell_45 : decode cX6_tell 45 = .ok (.invokevirtual 56, 3) := by decide +kernel
theorem dX6_tell_48 : decode cX6_tell 48 = .ok (.putfield 48, 3) := by decide +kernel
theorem dX6_tell_51 : decode cX6_tell 51 = .ok (.aload_n 0, 1) := by decide +kernel
theorem dX6_tell_52 : decode cX6_tell 52 = .ok (.getfield 48, 3) := by decide +kernel
theorem dX6_tell_55 : decode cX6_tell 55 = .ok (.ifCond .eq 5, 3) := by decide +kernel
theorem dX6_tell_58 : decode cX6_tell 58 = .ok (.iload_n 1, 1) := by decide +kernel
theorem dX6_tell_59 : decode cX6_tell 59 = .ok (.ireturn, 1) := by decide +kernel
theorem dX6_tell_60 : decode cX6_tell 60 = .ok (.iinc 1 1, 3) := by decide +kernel
theorem dX6_tell_63 : decode cX6_tell 63 = .ok (.goto (-38), 3) := by decide +kernel
theorem dX6_tell_66 : decode cX6_tell 66 = .ok (.aload_n 0, 1) := by decide +kernel
theorem dX6_tell_67 : decode cX6_tell 67 = .ok (.invokevirtual 60, 3) := by decide +kernel
theorem dX6_tell_70 : decode cX6_tell 70 = .ok (.bipush (-6), 2) := by decide +kernel
theorem dX6_tell_72 : decode cX6_tell 72 = .ok (.ireturn, 1) := by decide +kernel
set_option maxRecDepth 20000 in
theorem ggX6_tellPart_X7_at : GoodIn wsX6_tellPart wsX7_at := goodIn_r _ [9] (by decide +kernel) (by decide +kernel)
set_option maxRecDepth 20000 in
theorem gX6_tellPart_X7_at_n66 : GoodIn wsX6_tellPart (wsX7_at) := ggX6_tellPart_X7_at
set_option maxRecDepth 20000 in
theorem ggX6_tellPart_X6_look : GoodIn wsX6_tellPart wsX6_look := goodIn_r _ [14, 3, 4, 15, 16, 17, 18, 19, 20, 21, 22, 23, 24, 25, 26, 7, 8, 9, 77, 78, 79, 80, 81, 82, 83, 84, 85, 86, 87, 88, 99, 100, 101, 102, 103, 104] (by decide +kernel) (by decide +kernel)
set_option maxRecDepth 20000 in
theorem gX6_tellPart_X6_look : GoodIn wsX6_tellPart (wsV RX6 60 RX6 yX6_look wsX6_look) := goodIn_app (goodIn_of _ (by decide +kernel)) ggX6_tellPart_X6_look
set_option maxRecDepth 20000 in
theorem ggX6_tellPart_X4_dawn : GoodIn wsX6_tellPart wsX4_dawn := goodIn_r _ [30, 25, 23, 24, 31, 32, 33, 8, 34, 35, 36, 99, 100, 101, 102, 103, 104] (by decide +kernel) (by decide +kernel)
set_option maxRecDepth 20000 in
theorem gX6_tellPart_X4_dawn : GoodIn wsX6_tellPart (wsV RX6 73 RX4 yX4_dawn wsX4_dawn) := goodIn_app (goodIn_of _ (by decide +kernel)) ggX6_tellPart_X4_dawn
set_option maxRecDepth 20000 in
theorem ggX6_tellPart_X6_tellDrown : GoodIn wsX6_tellPart wsX6_tellDrown := goodIn_r _ [40, 3, 41, 42, 43, 21, 44, 23, 7, 8, 9, 45, 46, 47, 48, 31, 24, 25, 35, 36, 77, 78, 79, 80, 81, 82, 83, 84, 85, 86, 87, 88, 99, 100, 101, 102, 103, 104] (by decide +kernel) (by decide +kernel)
set_option maxRecDepth 20000 in
theorem gX6_tellPart_X6_tellDrown : GoodIn wsX6_tellPart (wsV RX6 80 RX6 yX6_tellDrown wsX6_tellDrown) := goodIn_app (goodIn_of _ (by decide +kernel)) ggX6_tellPart_X6_tellDrown
set_option maxRecDepth 20000 in
theorem ggX6_tellPart_X6_hullAt : GoodIn wsX6_tellPart wsX6_hullAt := goodIn_r _ [52, 1, 53, 54, 55, 7, 8, 9, 77, 78, 79, 80, 81, 82, 83, 84, 85, 86, 87, 88, 89, 90, 91, 92, 93, 94, 95, 96, 97, 98] (by decide +kernel) (by decide +kernel)
set_option maxRecDepth 20000 in
theorem gX6_tellPart_X6_hullAt : GoodIn wsX6_tellPart (wsV RX6 83 RX6 yX6_hullAt wsX6_hullAt) := goodIn_app (goodIn_of _ (by decide +kernel)) ggX6_tellPart_X6_hullAt
set_option maxRecDepth 20000 in
theorem ggX6_tellPart_X6_tellSail : GoodIn wsX6_tellPart wsX6_tellSail := goodIn_r _ [59, 3, 60, 61, 62, 63, 64, 65, 66, 33, 8, 34, 67, 68, 69, 70, 71, 21, 72, 31, 23, 7, 9, 73, 74, 75, 76, 26, 24, 25, 35, 36, 77, 78, 79, 80, 81, 82, 83, 84, 85, 86, 87, 88, 105, 106, 107, 108, 109, 99, 100, 101, 102, 103, 104] (by decide +kernel) (by decide +kernel)
set_option maxRecDepth 20000 in
theorem gX6_tellPart_X6_tellSail : GoodIn wsX6_tellPart (wsV RX6 89 RX6 yX6_tellSail wsX6_tellSail) := goodIn_app (goodIn_of _ (by decide +kernel)) ggX6_tellPart_X6_tellSail
theorem dX6_tellPart_0 : decode cX6_tellPart 0 = .ok (.aload_n 0, 1) := by decide +kernel
theorem dX6_tellPart_1 : decode cX6_tellPart 1 = .ok (.getfield 22, 3) := by decide +kernel
theorem dX6_tellPart_4 : decode cX6_tellPart 4 = .ok (.getfield 63, 3) := by decide +kernel
theorem dX6_tellPart_7 : decode cX6_tellPart 7 = .ok (.iload_n 1, 1) := by decide +kernel
theorem dX6_tellPart_8 : decode cX6_tellPart 8 = .ok (.invokestatic 66, 3) := by decide +kernel
theorem dX6_tellPart_11 : decode cX6_tellPart 11 = .ok (.lookupswitch 63 #[(1, 47), (2, 25)], 25) := by decide +kernel
theorem dX6_tellPart_36 : decode cX6_tellPart 36 = .ok (.aload_n 0, 1) := by decide +kernel
theorem dX6_tellPart_37 : decode cX6_tellPart 37 = .ok (.invokevirtual 60, 3) := by decide +kernel
theorem dX6_tellPart_40 : decode cX6_tellPart 40 = .ok (.aload_n 0, 1) := by decide +kernel
theorem dX6_tellPart_41 : decode cX6_tellPart 41 = .ok (.getfield 26, 3) := by decide +kernel
theorem dX6_tellPart_44 : decode cX6_tellPart 44 = .ok (.aload_n 0, 1) := by decide +kernel
theorem dX6_tellPart_45 : decode cX6_tellPart 45 = .ok (.getfield 26, 3) := by decide +kernel
theorem dX6_tellPart_48 : decode cX6_tellPart 48 = .ok (.getfield 70, 3) := by decide +kernel
theorem dX6_tellPart_51 : decode cX6_tellPart 51 = .ok (.iconst 1, 1) := by decide +kernel
theorem dX6_tellPart_52 : decode cX6_tellPart 52 = .ok (.iadd, 1) := by decide +kernel
theorem dX6_tellPart_53 : decode cX6_tellPart 53 = .ok (.invokevirtual 73, 3) := by decide +kernel
theorem dX6_tellPart_56 : decode cX6_tellPart 56 = .ok (.iconst 0, 1) := by decide +kernel
theorem dX6_tellPart_57 : decode cX6_tellPart 57 = .ok (.ireturn, 1) := by decide +kernel
theorem dX6_tellPart_58 : decode cX6_tellPart 58 = .ok (.aload_n 0, 1) := by decide +kernel
theorem dX6_tellPart_59 : decode cX6_tellPart 59 = .ok (.aload_n 0, 1) := by decide +kernel
theorem dX6_tellPart_60 : decode cX6_tellPart 60 = .ok (.getfield 22, 3) := by decide +kernel
theorem dX6_tellPart_63 : decode cX6_tellPart 63 = .ok (.getfield 77, 3) := by decide +kernel
theorem dX6_tellPart_66 : decode cX6_tellPart 66 = .ok (.iload_n 1, 1) := by decide +kernel
theorem dX6_tellPart_67 : decode cX6_tellPart 67 = .ok (.invokestatic 66, 3) := by decide +kernel
theorem dX6_tellPart_70 : decode cX6_tellPart 70 = .ok (.invokevirtual 80, 3) := by decide +kernel
theorem dX6_tellPart_73 : decode cX6_tellPart 73 = .ok (.ireturn, 1) := by decide +kernel
theorem dX6_tellPart_74 : decode cX6_tellPart 74 = .ok (.aload_n 0, 1) := by decide +kernel
theorem dX6_tellPart_75 : decode cX6_tellPart 75 = .ok (.aload_n 0, 1) := by decide +kernel
theorem dX6_tellPart_76 : decode cX6_tellPart 76 = .ok (.iload_n 1, 1) := by decide +kernel
theorem dX6_tellPart_77 : decode cX6_tellPart 77 = .ok (.invokevirtual 83, 3) := by decide +kernel
theorem dX6_tellPart_80 : decode cX6_tellPart 80 = .ok (.aload_n 0, 1) := by decide +kernel
theorem dX6_tellPart_81 : decode cX6_tellPart 81 = .ok (.getfield 22, 3) := by decide +kernel
theorem dX6_tellPart_84 : decode cX6_tellPart 84 = .ok (.getfield 77, 3) := by decide +kernel
theorem dX6_tellPart_87 : decode cX6_tellPart 87 = .ok (.iload_n 1, 1) := by decide +kernel
theorem dX6_tellPart_88 : decode cX6_tellPart 88 = .ok (.invokestatic 66, 3) := by decide +kernel
theorem dX6_tellPart_91 : decode cX6_tellPart 91 = .ok (.aload_n 0, 1) := by decide +kernel
theorem dX6_tellPart_92 : decode cX6_tellPart 92 = .ok (.getfield 22, 3) := by decide +kernel
theorem dX6_tellPart_95 : decode cX6_tellPart 95 = .ok (.getfield 86, 3) := by decide +kernel
theorem dX6_tellPart_98 : decode cX6_tellPart 98 = .ok (.iload_n 1, 1) := by decide +kernel
theorem dX6_tellPart_99 : decode cX6_tellPart 99 = .ok (.invokestatic 66, 3) := by decide +kernel
theorem dX6_tellPart_102 : decode cX6_tellPart 102 = .ok (.invokevirtual 89, 3) := by decide +kernel
theorem dX6_tellPart_105 : decode cX6_tellPart 105 = .ok (.ireturn, 1) := by decide +kernel
set_option maxRecDepth 20000 in
theorem ggX6_tellDrown_X4_whyNotDrown : GoodIn wsX6_tellDrown wsX4_whyNotDrown := goodIn_r _ [6, 7, 8, 9, 10, 32, 33, 34, 35, 36, 37] (by decide +kernel) (by decide +kernel)
set_option maxRecDepth 20000 in
theorem gX6_tellDrown_X4_whyNotDrown : GoodIn wsX6_tellDrown (wsV RX6 93 RX4 yX4_whyNotDrown wsX4_whyNotDrown) := goodIn_app (goodIn_of _ (by decide +kernel)) ggX6_tellDrown_X4_whyNotDrown
set_option maxRecDepth 20000 in
theorem ggX6_tellDrown_X4_drown : GoodIn wsX6_tellDrown wsX4_drown := goodIn_r _ [14, 15, 7, 16, 17, 8, 9, 10, 18, 19, 32, 33, 34, 35, 36, 37] (by decide +kernel) (by decide +kernel)
set_option maxRecDepth 20000 in
theorem gX6_tellDrown_X4_drown : GoodIn wsX6_tellDrown (wsV RX6 96 RX4 yX4_drown wsX4_drown) := goodIn_app (goodIn_of _ (by decide +kernel)) ggX6_tellDrown_X4_drown
theorem dX6_tellDrown_0 : decode cX6_tellDrown 0 = .ok (.aload_n 0, 1) := by decide +kernel
theorem dX6_tellDrown_1 : decode cX6_tellDrown 1 = .ok (.getfield 26, 3) := by decide +kernel
theorem dX6_tellDrown_4 : decode cX6_tellDrown 4 = .ok (.iload_n 1, 1) := by decide +kernel
theorem dX6_tellDrown_5 : decode cX6_tellDrown 5 = .ok (.invokevirtual 93, 3) := by decide +kernel
theorem dX6_tellDrown_8 : decode cX6_tellDrown 8 = .ok (.istore_n 2, 1) := by decide +kernel
theorem dX6_tellDrown_9 : decode cX6_tellDrown 9 = .ok (.iload_n 2, 1) := by decide +kernel
theorem dX6_tellDrown_10 : decode cX6_tellDrown 10 = .ok (.ifCond .ne 11, 3) := by decide +kernel
theorem dX6_tellDrown_13 : decode cX6_tellDrown 13 = .ok (.aload_n 0, 1) := by decide +kernel
theorem dX6_tellDrown_14 : decode cX6_tellDrown 14 = .ok (.getfield 26, 3) := by decide +kernel
theorem dX6_tellDrown_17 : decode cX6_tellDrown 17 = .ok (.iload_n 1, 1) := by decide +kernel
theorem dX6_tellDrown_18 : decode cX6_tellDrown 18 = .ok (.invokevirtual 96, 3) := by decide +kernel
theorem dX6_tellDrown_21 : decode cX6_tellDrown 21 = .ok (.iload_n 2, 1) := by decide +kernel
theorem dX6_tellDrown_22 : decode cX6_tellDrown 22 = .ok (.ireturn, 1) := by decide +kernel
set_option maxRecDepth 20000 in
theorem ggX6_tellSail_X3_lets : GoodIn wsX6_tellSail wsX3_lets := goodIn_r _ [7, 8, 9, 10, 11, 12, 13, 44, 45, 46, 47, 48] (by decide +kernel) (by decide +kernel)
set_option maxRecDepth 20000 in
theorem gX6_tellSail_X3_lets : GoodIn wsX6_tellSail (wsV RX6 99 RX3 yX3_lets wsX3_lets) := goodIn_app (goodIn_of _ (by decide +kernel)) ggX6_tellSail_X3_lets
set_option maxRecDepth 20000 in
theorem ggX6_tellSail_X4_whyNotSail : GoodIn wsX6_tellSail wsX4_whyNotSail := goodIn_r _ [18, 19, 20, 21, 10, 22, 49, 50, 51, 52, 53, 54] (by decide +kernel) (by decide +kernel)
set_option maxRecDepth 20000 in
theorem gX6_tellSail_X4_whyNotSail : GoodIn wsX6_tellSail (wsV RX6 105 RX4 yX4_whyNotSail wsX4_whyNotSail) := goodIn_app (goodIn_of _ (by decide +kernel)) ggX6_tellSail_X4_whyNotSail
set_option maxRecDepth 20000 in
theorem ggX6_tellSail_X4_sail : GoodIn wsX6_tellSail wsX4_sail := goodIn_r _ [26, 19, 20, 27, 28, 29, 30, 10, 31, 49, 50, 51, 52, 53, 54] (by decide +kernel) (by decide +kernel)
set_option maxRecDepth 20000 in
theorem gX6_tellSail_X4_sail : GoodIn wsX6_tellSail (wsV RX6 109 RX4 yX4_sail wsX4_sail) := goodIn_app (goodIn_of _ (by decide +kernel)) ggX6_tellSail_X4_sail
theorem dX6_tellSail_0 : decode cX6_tellSail 0 = .ok (.aload_n 0, 1) := by decide +kernel
theorem dX6_tellSail_1 : decode cX6_tellSail 1 = .ok (.getfield 26, 3) := by decide +kernel
theorem dX6_tellSail_4 : decode cX6_tellSail 4 = .ok (.iload_n 1, 1) := by decide +kernel
theorem dX6_tellSail_5 : decode cX6_tellSail 5 = .ok (.iload_n 2, 1) := by decide +kernel
theorem dX6_tellSail_6 : decode cX6_tellSail 6 = .ok (.aload_n 0, 1) := by decide +kernel
theorem dX6_tellSail_7 : decode cX6_tellSail 7 = .ok (.getfield 18, 3) := by decide +kernel
theorem dX6_tellSail_10 : decode cX6_tellSail 10 = .ok (.iload_n 1, 1) := by decide +kernel
theorem dX6_tellSail_11 : decode cX6_tellSail 11 = .ok (.iload_n 2, 1) := by decide +kernel
theorem dX6_tellSail_12 : decode cX6_tellSail 12 = .ok (.invokevirtual 99, 3) := by decide +kernel
theorem dX6_tellSail_15 : decode cX6_tellSail 15 = .ok (.invokevirtual 105, 3) := by decide +kernel
theorem dX6_tellSail_18 : decode cX6_tellSail 18 = .ok (.istore 4, 2) := by decide +kernel
theorem dX6_tellSail_20 : decode cX6_tellSail 20 = .ok (.iload 4, 2) := by decide +kernel
theorem dX6_tellSail_22 : decode cX6_tellSail 22 = .ok (.ifCond .ne 13, 3) := by decide +kernel
theorem dX6_tellSail_25 : decode cX6_tellSail 25 = .ok (.aload_n 0, 1) := by decide +kernel
theorem dX6_tellSail_26 : decode cX6_tellSail 26 = .ok (.getfield 26, 3) := by decide +kernel
theorem dX6_tellSail_29 : decode cX6_tellSail 29 = .ok (.iload_n 1, 1) := by decide +kernel
theorem dX6_tellSail_30 : decode cX6_tellSail 30 = .ok (.iload_n 2, 1) := by decide +kernel
theorem dX6_tellSail_31 : decode cX6_tellSail 31 = .ok (.iload_n 3, 1) := by decide +kernel
theorem dX6_tellSail_32 : decode cX6_tellSail 32 = .ok (.invokevirtual 109, 3) := by decide +kernel
theorem dX6_tellSail_35 : decode cX6_tellSail 35 = .ok (.iload 4, 2) := by decide +kernel
theorem dX6_tellSail_37 : decode cX6_tellSail 37 = .ok (.ireturn, 1) := by decide +kernel
set_option maxRecDepth 20000 in
theorem ggX6_hullAt_X7_at : GoodIn wsX6_hullAt wsX7_at := goodIn_r _ [7] (by decide +kernel) (by decide +kernel)
set_option maxRecDepth 20000 in
theorem gX6_hullAt_X7_at_n66 : GoodIn wsX6_hullAt (wsX7_at) := ggX6_hullAt_X7_at
theorem dX6_hullAt_0 : decode cX6_hullAt 0 = .ok (.aload_n 0, 1) := by decide +kernel
theorem dX6_hullAt_1 : decode cX6_hullAt 1 = .ok (.getfield 22, 3) := by decide +kernel
theorem dX6_hullAt_4 : decode cX6_hullAt 4 = .ok (.getfield 113, 3) := by decide +kernel
theorem dX6_hullAt_7 : decode cX6_hullAt 7 = .ok (.iload_n 1, 1) := by decide +kernel
theorem dX6_hullAt_8 : decode cX6_hullAt 8 = .ok (.invokestatic 66, 3) := by decide +kernel
theorem dX6_hullAt_11 : decode cX6_hullAt 11 = .ok (.istore_n 2, 1) := by decide +kernel
theorem dX6_hullAt_12 : decode cX6_hullAt 12 = .ok (.iload_n 2, 1) := by decide +kernel
theorem dX6_hullAt_13 : decode cX6_hullAt 13 = .ok (.iconst (-1), 1) := by decide +kernel
theorem dX6_hullAt_14 : decode cX6_hullAt 14 = .ok (.if_icmp .eq 5, 3) := by decide +kernel
theorem dX6_hullAt_17 : decode cX6_hullAt 17 = .ok (.iload_n 2, 1) := by decide +kernel
theorem dX6_hullAt_18 : decode cX6_hullAt 18 = .ok (.ireturn, 1) := by decide +kernel
theorem dX6_hullAt_19 : decode cX6_hullAt 19 = .ok (.aload_n 0, 1) := by decide +kernel
theorem dX6_hullAt_20 : decode cX6_hullAt 20 = .ok (.dup, 1) := by decide +kernel
theorem dX6_hullAt_21 : decode cX6_hullAt 21 = .ok (.getfield 42, 3) := by decide +kernel
theorem dX6_hullAt_24 : decode cX6_hullAt 24 = .ok (.iconst 1, 1) := by decide +kernel
theorem dX6_hullAt_25 : decode cX6_hullAt 25 = .ok (.iadd, 1) := by decide +kernel
theorem dX6_hullAt_26 : decode cX6_hullAt 26 = .ok (.putfield 42, 3) := by decide +kernel
theorem dX6_hullAt_29 : decode cX6_hullAt 29 = .ok (.aload_n 0, 1) := by decide +kernel
theorem dX6_hullAt_30 : decode cX6_hullAt 30 = .ok (.getfield 9, 3) := by decide +kernel
theorem dX6_hullAt_33 : decode cX6_hullAt 33 = .ok (.aload_n 0, 1) := by decide +kernel
theorem dX6_hullAt_34 : decode cX6_hullAt 34 = .ok (.getfield 42, 3) := by decide +kernel
theorem dX6_hullAt_37 : decode cX6_hullAt 37 = .ok (.iconst 1, 1) := by decide +kernel
theorem dX6_hullAt_38 : decode cX6_hullAt 38 = .ok (.isub, 1) := by decide +kernel
theorem dX6_hullAt_39 : decode cX6_hullAt 39 = .ok (.invokestatic 66, 3) := by decide +kernel
theorem dX6_hullAt_42 : decode cX6_hullAt 42 = .ok (.ireturn, 1) := by decide +kernel
set_option maxRecDepth 20000 in
theorem ggX6_look_X4_bearer : GoodIn wsX6_look wsX4_bearer := goodIn_r _ [10, 11, 12, 13, 14, 15, 16, 17, 30, 31, 32, 33, 34, 35] (by decide +kernel) (by decide +kernel)
set_option maxRecDepth 20000 in
theorem gX6_look_X4_bearer : GoodIn wsX6_look (wsV RX6 116 RX4 yX4_bearer wsX4_bearer) := goodIn_app (goodIn_of _ (by decide +kernel)) ggX6_look_X4_bearer
theorem dX6_look_0 : decode cX6_look 0 = .ok (.aload_n 0, 1) := by decide +kernel
theorem dX6_look_1 : decode cX6_look 1 = .ok (.getfield 26, 3) := by decide +kernel
theorem dX6_look_4 : decode cX6_look 4 = .ok (.getfield 70, 3) := by decide +kernel
theorem dX6_look_7 : decode cX6_look 7 = .ok (.aload_n 0, 1) := by decide +kernel
theorem dX6_look_8 : decode cX6_look 8 = .ok (.getfield 34, 3) := by decide +kernel
theorem dX6_look_11 : decode cX6_look 11 = .ok (.if_icmp .ne 18, 3) := by decide +kernel
theorem dX6_look_14 : decode cX6_look 14 = .ok (.aload_n 0, 1) := by decide +kernel
theorem dX6_look_15 : decode cX6_look 15 = .ok (.aload_n 0, 1) := by decide +kernel
theorem dX6_look_16 : decode cX6_look 16 = .ok (.getfield 26, 3) := by decide +kernel
theorem dX6_look_19 : decode cX6_look 19 = .ok (.aload_n 0, 1) := by decide +kernel
theorem dX6_look_20 : decode cX6_look 20 = .ok (.getfield 30, 3) := by decide +kernel
theorem dX6_look_23 : decode cX6_look 23 = .ok (.invokevirtual 116, 3) := by decide +kernel
theorem dX6_look_26 : decode cX6_look 26 = .ok (.putfield 45, 3) := by decide +kernel
theorem dX6_look_29 : decode cX6_look 29 = .ok (.return_, 1) := by decide +kernel
set_option maxRecDepth 20000 in
theorem ggX6_tryAll_X7_fill : GoodIn wsX6_tryAll wsX7_fill := goodIn_r _ [8] (by decide +kernel) (by decide +kernel)
set_option maxRecDepth 20000 in
theorem gX6_tryAll_X7_fill_n125 : GoodIn wsX6_tryAll (wsX7_fill) := ggX6_tryAll_X7_fill
set_option maxRecDepth 20000 in
theorem ggX6_tryAll_X6_tell : GoodIn wsX6_tryAll wsX6_tell := goodIn_r _ [13, 14, 5, 15, 16, 17, 18, 19, 20, 21, 22, 23, 24, 25, 26, 27, 28, 29, 6, 7, 8, 30, 31, 32, 12, 33, 34, 35, 36, 37, 38, 39, 40, 41, 42, 43, 44, 45, 46, 47, 48, 49, 50, 51, 52, 53, 54, 55, 56, 57, 58, 59, 60, 61, 62, 63, 64, 65, 66, 67, 68, 69, 70, 71, 72, 73, 74, 3, 75, 76, 77, 78, 79, 80, 81, 82, 83, 84, 85, 86, 87, 88, 89, 90, 91, 92, 93, 94, 95, 106, 107, 108, 109, 110, 111, 112, 113, 114, 115, 116, 117, 118, 119, 120, 121, 122, 123, 124, 125, 126, 127, 128, 129, 130, 131, 132, 133, 134, 135, 136, 137, 138] (by decide +kernel) (by decide +kernel)
set_option maxRecDepth 20000 in
theorem gX6_tryAll_X6_tell : GoodIn wsX6_tryAll (wsV RX6 129 RX6 yX6_tell wsX6_tell) := goodIn_app (goodIn_of _ (by decide +kernel)) ggX6_tryAll_X6_tell
set_option maxRecDepth 20000 in
theorem ggX6_tryAll_X6_keepWay : GoodIn wsX6_tryAll wsX6_keepWay := goodIn_r _ [99, 1, 3, 4, 15, 2, 100, 7, 101, 54, 55, 106, 107, 108, 109, 110, 111, 112, 113, 114, 115, 116, 117] (by decide +kernel) (by decide +kernel)
set_option maxRecDepth 20000 in
theorem gX6_tryAll_X6_keepWay : GoodIn wsX6_tryAll (wsV RX6 133 RX6 yX6_keepWay wsX6_keepWay) := goodIn_app (goodIn_of _ (by decide +kernel)) ggX6_tryAll_X6_keepWay
set_option maxRecDepth 20000 in
theorem ggX6_tryAll_X6_turnGaps : GoodIn wsX6_tryAll wsX6_turnGaps := goodIn_r _ [105, 3, 106, 107, 108, 109, 110, 111, 112, 113, 114, 115, 116, 117] (by decide +kernel) (by decide +kernel)
set_option maxRecDepth 20000 in
theorem gX6_tryAll_X6_turnGaps : GoodIn wsX6_tryAll (wsV RX6 136 RX6 yX6_turnGaps wsX6_turnGaps) := goodIn_app (goodIn_of _ (by decide +kernel)) ggX6_tryAll_X6_turnGaps
theorem dX6_tryAll_0 : decode cX6_tryAll 0 = .ok (.aload_n 0, 1) := by decide +kernel
theorem dX6_tryAll_1 : decode cX6_tryAll 1 = .ok (.iconst 0, 1) := by decide +kernel
theorem dX6_tryAll_2 : decode cX6_tryAll 2 = .ok (.putfield 119, 3) := by decide +kernel
theorem dX6_tryAll_5 : decode cX6_tryAll 5 = .ok (.aload_n 0, 1) := by decide +kernel
theorem dX6_tryAll_6 : decode cX6_tryAll 6 = .ok (.iconst 0, 1) := by decide +kernel
theorem dX6_tryAll_7 : decode cX6_tryAll 7 = .ok (.putfield 122, 3) := by decide +kernel
theorem dX6_tryAll_10 : decode cX6_tryAll 10 = .ok (.aload_n 0, 1) := by decide +kernel
theorem dX6_tryAll_11 : decode cX6_tryAll 11 = .ok (.getfield 9, 3) := by decide +kernel
theorem dX6_tryAll_14 : decode cX6_tryAll 14 = .ok (.iconst 0, 1) := by decide +kernel
theorem dX6_tryAll_15 : decode cX6_tryAll 15 = .ok (.invokestatic 125, 3) := by decide +kernel
theorem dX6_tryAll_18 : decode cX6_tryAll 18 = .ok (.aload_n 0, 1) := by decide +kernel
theorem dX6_tryAll_19 : decode cX6_tryAll 19 = .ok (.getfield 15, 3) := by decide +kernel
theorem dX6_tryAll_22 : decode cX6_tryAll 22 = .ok (.bipush (-6), 2) := by decide +kernel
theorem dX6_tryAll_24 : decode cX6_tryAll 24 = .ok (.invokestatic 125, 3) := by decide +kernel
theorem dX6_tryAll_27 : decode cX6_tryAll 27 = .ok (.iconst 1, 1) := by decide +kernel
theorem dX6_tryAll_28 : decode cX6_tryAll 28 = .ok (.istore_n 1, 1) := by decide +kernel
theorem dX6_tryAll_29 : decode cX6_tryAll 29 = .ok (.iconst 0, 1) := by decide +kernel
theorem dX6_tryAll_30 : decode cX6_tryAll 30 = .ok (.istore_n 2, 1) := by decide +kernel
theorem dX6_tryAll_31 : decode cX6_tryAll 31 = .ok (.iload_n 1, 1) := by decide +kernel
theorem dX6_tryAll_32 : decode cX6_tryAll 32 = .ok (.ifCond .eq 38, 3) := by decide +kernel
theorem dX6_tryAll_35 : decode cX6_tryAll 35 = .ok (.iload_n 2, 1) := by decide +kernel
theorem dX6_tryAll_36 : decode cX6_tryAll 36 = .ok (.sipush 1296, 3) := by decide +kernel
theorem dX6_tryAll_39 : decode cX6_tryAll 39 = .ok (.if_icmp .ge 31, 3) := by decide +kernel
theorem dX6_tryAll_42 : decode cX6_tryAll 42 = .ok (.aload_n 0, 1) := by decide +kernel
theorem dX6_tryAll_43 : decode cX6_tryAll 43 = .ok (.invokevirtual 129, 3) := by decide +kernel
theorem dX6_tryAll_46 : decode cX6_tryAll 46 = .ok (.bipush (-6), 2) := by decide +kernel
theorem dX6_tryAll_48 : decode cX6_tryAll 48 = .ok (.if_icmp .ne 7, 3) := by decide +kernel
theorem dX6_tryAll_51 : decode cX6_tryAll 51 = .ok (.aload_n 0, 1) := by decide +kernel
theorem dX6_tryAll_52 : decode cX6_tryAll 52 = .ok (.invokevirtual 133, 3) := by decide +kernel
theorem dX6_tryAll_55 : decode cX6_tryAll 55 = .ok (.aload_n 0, 1) := by decide +kernel
theorem dX6_tryAll_56 : decode cX6_tryAll 56 = .ok (.aload_n 0, 1) := by decide +kernel
theorem dX6_tryAll_57 : decode cX6_tryAll 57 = .ok (.getfield 42, 3) := by decide +kernel
theorem dX6_tryAll_60 : decode cX6_tryAll 60 = .ok (.invokevirtual 136, 3) := by decide +kernel
theorem dX6_tryAll_63 : decode cX6_tryAll 63 = .ok (.istore_n 1, 1) := by decide +kernel
theorem dX6_tryAll_64 : decode cX6_tryAll 64 = .ok (.iinc 2 1, 3) := by decide +kernel
theorem dX6_tryAll_67 : decode cX6_tryAll 67 = .ok (.goto (-36), 3) := by decide +kernel
theorem dX6_tryAll_70 : decode cX6_tryAll 70 = .ok (.return_, 1) := by decide +kernel
set_option maxRecDepth 20000 in
theorem ggX6_keepWay_X7_copyRow : GoodIn wsX6_keepWay wsX7_copyRow := goodIn_r _ [8] (by decide +kernel) (by decide +kernel)
set_option maxRecDepth 20000 in
theorem gX6_keepWay_X7_copyRow_n140 : GoodIn wsX6_keepWay (wsX7_copyRow) := ggX6_keepWay_X7_copyRow
set_option maxRecDepth 20000 in
theorem ggX6_keepWay_X7_isHull : GoodIn wsX6_keepWay wsX7_isHull := goodIn_r _ [10] (by decide +kernel) (by decide +kernel)
set_option maxRecDepth 20000 in
theorem gX6_keepWay_X7_isHull_n144 : GoodIn wsX6_keepWay (wsX7_isHull) := ggX6_keepWay_X7_isHull
theorem dX6_keepWay_0 : decode cX6_keepWay 0 = .ok (.aload_n 0, 1) := by decide +kernel
theorem dX6_keepWay_1 : decode cX6_keepWay 1 = .ok (.getfield 119, 3) := by decide +kernel
theorem dX6_keepWay_4 : decode cX6_keepWay 4 = .ok (.ifCond .ne 14, 3) := by decide +kernel
theorem dX6_keepWay_7 : decode cX6_keepWay 7 = .ok (.aload_n 0, 1) := by decide +kernel
theorem dX6_keepWay_8 : decode cX6_keepWay 8 = .ok (.getfield 9, 3) := by decide +kernel
theorem dX6_keepWay_11 : decode cX6_keepWay 11 = .ok (.aload_n 0, 1) := by decide +kernel
theorem dX6_keepWay_12 : decode cX6_keepWay 12 = .ok (.getfield 15, 3) := by decide +kernel
theorem dX6_keepWay_15 : decode cX6_keepWay 15 = .ok (.invokestatic 140, 3) := by decide +kernel
theorem dX6_keepWay_18 : decode cX6_keepWay 18 = .ok (.aload_n 0, 1) := by decide +kernel
theorem dX6_keepWay_19 : decode cX6_keepWay 19 = .ok (.dup, 1) := by decide +kernel
theorem dX6_keepWay_20 : decode cX6_keepWay 20 = .ok (.getfield 119, 3) := by decide +kernel
theorem dX6_keepWay_23 : decode cX6_keepWay 23 = .ok (.iconst 1, 1) := by decide +kernel
theorem dX6_keepWay_24 : decode cX6_keepWay 24 = .ok (.iadd, 1) := by decide +kernel
theorem dX6_keepWay_25 : decode cX6_keepWay 25 = .ok (.putfield 119, 3) := by decide +kernel
theorem dX6_keepWay_28 : decode cX6_keepWay 28 = .ok (.aload_n 0, 1) := by decide +kernel
theorem dX6_keepWay_29 : decode cX6_keepWay 29 = .ok (.getfield 45, 3) := by decide +kernel
theorem dX6_keepWay_32 : decode cX6_keepWay 32 = .ok (.invokestatic 144, 3) := by decide +kernel
theorem dX6_keepWay_35 : decode cX6_keepWay 35 = .ok (.ifCond .eq 18, 3) := by decide +kernel
theorem dX6_keepWay_38 : decode cX6_keepWay 38 = .ok (.aload_n 0, 1) := by decide +kernel
theorem dX6_keepWay_39 : decode cX6_keepWay 39 = .ok (.dup, 1) := by decide +kernel
theorem dX6_keepWay_40 : decode cX6_keepWay 40 = .ok (.getfield 122, 3) := by decide +kernel
theorem dX6_keepWay_43 : decode cX6_keepWay 43 = .ok (.iconst 1, 1) := by decide +kernel
theorem dX6_keepWay_44 : decode cX6_keepWay 44 = .ok (.aload_n 0, 1) := by decide +kernel
theorem dX6_keepWay_45 : decode cX6_keepWay 45 = .ok (.getfield 45, 3) := by decide +kernel
theorem dX6_keepWay_48 : decode cX6_keepWay 48 = .ok (.ishl, 1) := by decide +kernel
theorem dX6_keepWay_49 : decode cX6_keepWay 49 = .ok (.ior, 1) := by decide +kernel
theorem dX6_keepWay_50 : decode cX6_keepWay 50 = .ok (.putfield 122, 3) := by decide +kernel
theorem dX6_keepWay_53 : decode cX6_keepWay 53 = .ok (.return_, 1) := by decide +kernel
theorem dX6_turnGaps_0 : decode cX6_turnGaps 0 = .ok (.iconst 3, 1) := by decide +kernel
theorem dX6_turnGaps_1 : decode cX6_turnGaps 1 = .ok (.istore_n 2, 1) := by decide +kernel
theorem dX6_turnGaps_2 : decode cX6_turnGaps 2 = .ok (.iload_n 2, 1) := by decide +kernel
theorem dX6_turnGaps_3 : decode cX6_turnGaps 3 = .ok (.ifCond .lt 43, 3) := by decide +kernel
theorem dX6_turnGaps_6 : decode cX6_turnGaps 6 = .ok (.iload_n 2, 1) := by decide +kernel
theorem dX6_turnGaps_7 : decode cX6_turnGaps 7 = .ok (.iload_n 1, 1) := by decide +kernel
theorem dX6_turnGaps_8 : decode cX6_turnGaps 8 = .ok (.if_icmp .ge 25, 3) := by decide +kernel
theorem dX6_turnGaps_11 : decode cX6_turnGaps 11 = .ok (.aload_n 0, 1) := by decide +kernel
theorem dX6_turnGaps_12 : decode cX6_turnGaps 12 = .ok (.getfield 9, 3) := by decide +kernel
theorem dX6_turnGaps_15 : decode cX6_turnGaps 15 = .ok (.iload_n 2, 1) := by decide +kernel
theorem dX6_turnGaps_16 : decode cX6_turnGaps 16 = .ok (.iaload, 1) := by decide +kernel
theorem dX6_turnGaps_17 : decode cX6_turnGaps 17 = .ok (.iconst 5, 1) := by decide +kernel
theorem dX6_turnGaps_18 : decode cX6_turnGaps 18 = .ok (.if_icmp .ge 15, 3) := by decide +kernel
theorem dX6_turnGaps_21 : decode cX6_turnGaps 21 = .ok (.aload_n 0, 1) := by decide +kernel
theorem dX6_turnGaps_22 : decode cX6_turnGaps 22 = .ok (.getfield 9, 3) := by decide +kernel
theorem dX6_turnGaps_25 : decode cX6_turnGaps 25 = .ok (.iload_n 2, 1) := by decide +kernel
theorem dX6_turnGaps_26 : decode cX6_turnGaps 26 = .ok (.dup2, 1) := by decide +kernel
theorem dX6_turnGaps_27 : decode cX6_turnGaps 27 = .ok (.iaload, 1) := by decide +kernel
theorem dX6_turnGaps_28 : decode cX6_turnGaps 28 = .ok (.iconst 1, 1) := by decide +kernel
theorem dX6_turnGaps_29 : decode cX6_turnGaps 29 = .ok (.iadd, 1) := by decide +kernel
theorem dX6_turnGaps_30 : decode cX6_turnGaps 30 = .ok (.iastore, 1) := by decide +kernel
theorem dX6_turnGaps_31 : decode cX6_turnGaps 31 = .ok (.iconst 1, 1) := by decide +kernel
theorem dX6_turnGaps_32 : decode cX6_turnGaps 32 = .ok (.ireturn, 1) := by decide +kernel
theorem dX6_turnGaps_33 : decode cX6_turnGaps 33 = .ok (.aload_n 0, 1) := by decide +kernel
theorem dX6_turnGaps_34 : decode cX6_turnGaps 34 = .ok (.getfield 9, 3) := by decide +kernel
theorem dX6_turnGaps_37 : decode cX6_turnGaps 37 = .ok (.iload_n 2, 1) := by decide +kernel
theorem dX6_turnGaps_38 : decode cX6_turnGaps 38 = .ok (.iconst 0, 1) := by decide +kernel
theorem dX6_turnGaps_39 : decode cX6_turnGaps 39 = .ok (.iastore, 1) := by decide +kernel
theorem dX6_turnGaps_40 : decode cX6_turnGaps 40 = .ok (.iinc 2 (-1), 3) := by decide +kernel
theorem dX6_turnGaps_43 : decode cX6_turnGaps 43 = .ok (.goto (-41), 3) := by decide +kernel
theorem dX6_turnGaps_46 : decode cX6_turnGaps 46 = .ok (.iconst 0, 1) := by decide +kernel
theorem dX6_turnGaps_47 : decode cX6_turnGaps 47 = .ok (.ireturn, 1) := by decide +kernel
