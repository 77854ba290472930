theorem dX4_init_0 : decode cX4_init 0 = .ok (.aload_n 0, 1) := by decide +kernel
theorem dX4_init_1 : decode cX4_init 1 = .ok (.invokespecial 3, 3) := by decide +kernel
theorem dX4_init_4 : decode cX4_init 4 = .ok (.aload_n 0, 1) := by decide +kernel
theorem dX4_init_5 : decode cX4_init 5 = .ok (.bipush 6, 2) := by decide +kernel
theorem dX4_init_7 : decode cX4_init 7 = .ok (.newarray .int, 2) := by decide +kernel
theorem dX4_init_9 : decode cX4_init 9 = .ok (.putfield 9, 3) := by decide +kernel
theorem dX4_init_12 : decode cX4_init 12 = .ok (.aload_n 0, 1) := by decide +kernel
theorem dX4_init_13 : decode cX4_init 13 = .ok (.iconst 5, 1) := by decide +kernel
theorem dX4_init_14 : decode cX4_init 14 = .ok (.newarray .int, 2) := by decide +kernel
theorem dX4_init_16 : decode cX4_init 16 = .ok (.putfield 15, 3) := by decide +kernel
theorem dX4_init_19 : decode cX4_init 19 = .ok (.aload_n 0, 1) := by decide +kernel
theorem dX4_init_20 : decode cX4_init 20 = .ok (.iconst 5, 1) := by decide +kernel
theorem dX4_init_21 : decode cX4_init 21 = .ok (.newarray .int, 2) := by decide +kernel
theorem dX4_init_23 : decode cX4_init 23 = .ok (.putfield 18, 3) := by decide +kernel
theorem dX4_init_26 : decode cX4_init 26 = .ok (.aload_n 0, 1) := by decide +kernel
theorem dX4_init_27 : decode cX4_init 27 = .ok (.iconst 5, 1) := by decide +kernel
theorem dX4_init_28 : decode cX4_init 28 = .ok (.newarray .int, 2) := by decide +kernel
theorem dX4_init_30 : decode cX4_init 30 = .ok (.putfield 21, 3) := by decide +kernel
theorem dX4_init_33 : decode cX4_init 33 = .ok (.aload_n 0, 1) := by decide +kernel
theorem dX4_init_34 : decode cX4_init 34 = .ok (.iconst 5, 1) := by decide +kernel
theorem dX4_init_35 : decode cX4_init 35 = .ok (.newarray .int, 2) := by decide +kernel
theorem dX4_init_37 : decode cX4_init 37 = .ok (.putfield 24, 3) := by decide +kernel
theorem dX4_init_40 : decode cX4_init 40 = .ok (.return_, 1) := by decide +kernel
set_option maxRecDepth 20000 in
theorem ggX4_calm_X7_fill : GoodIn wsX4_calm wsX7_fill := goodIn_r _ [9] (by decide +kernel) (by decide +kernel)
set_option maxRecDepth 20000 in
theorem gX4_calm_X7_fill_n27 : GoodIn wsX4_calm (wsX7_fill) := ggX4_calm_X7_fill
theorem dX4_calm_0 : decode cX4_calm 0 = .ok (.aload_n 0, 1) := by decide +kernel
theorem dX4_calm_1 : decode cX4_calm 1 = .ok (.getfield 9, 3) := by decide +kernel
theorem dX4_calm_4 : decode cX4_calm 4 = .ok (.bipush (-6), 2) := by decide +kernel
theorem dX4_calm_6 : decode cX4_calm 6 = .ok (.invokestatic 27, 3) := by decide +kernel
theorem dX4_calm_9 : decode cX4_calm 9 = .ok (.aload_n 0, 1) := by decide +kernel
theorem dX4_calm_10 : decode cX4_calm 10 = .ok (.getfield 15, 3) := by decide +kernel
theorem dX4_calm_13 : decode cX4_calm 13 = .ok (.bipush (-6), 2) := by decide +kernel
theorem dX4_calm_15 : decode cX4_calm 15 = .ok (.invokestatic 27, 3) := by decide +kernel
theorem dX4_calm_18 : decode cX4_calm 18 = .ok (.aload_n 0, 1) := by decide +kernel
theorem dX4_calm_19 : decode cX4_calm 19 = .ok (.getfield 18, 3) := by decide +kernel
theorem dX4_calm_22 : decode cX4_calm 22 = .ok (.iconst 0, 1) := by decide +kernel
theorem dX4_calm_23 : decode cX4_calm 23 = .ok (.invokestatic 27, 3) := by decide +kernel
theorem dX4_calm_26 : decode cX4_calm 26 = .ok (.aload_n 0, 1) := by decide +kernel
theorem dX4_calm_27 : decode cX4_calm 27 = .ok (.getfield 21, 3) := by decide +kernel
theorem dX4_calm_30 : decode cX4_calm 30 = .ok (.iconst 0, 1) := by decide +kernel
theorem dX4_calm_31 : decode cX4_calm 31 = .ok (.invokestatic 27, 3) := by decide +kernel
theorem dX4_calm_34 : decode cX4_calm 34 = .ok (.aload_n 0, 1) := by decide +kernel
theorem dX4_calm_35 : decode cX4_calm 35 = .ok (.getfield 24, 3) := by decide +kernel
theorem dX4_calm_38 : decode cX4_calm 38 = .ok (.bipush (-6), 2) := by decide +kernel
theorem dX4_calm_40 : decode cX4_calm 40 = .ok (.invokestatic 27, 3) := by decide +kernel
theorem dX4_calm_43 : decode cX4_calm 43 = .ok (.aload_n 0, 1) := by decide +kernel
theorem dX4_calm_44 : decode cX4_calm 44 = .ok (.iconst 0, 1) := by decide +kernel
theorem dX4_calm_45 : decode cX4_calm 45 = .ok (.putfield 31, 3) := by decide +kernel
theorem dX4_calm_48 : decode cX4_calm 48 = .ok (.return_, 1) := by decide +kernel
set_option maxRecDepth 20000 in
theorem ggX4_dawn_X7_isHull : GoodIn wsX4_dawn wsX7_isHull := goodIn_r _ [8] (by decide +kernel) (by decide +kernel)
set_option maxRecDepth 20000 in
theorem gX4_dawn_X7_isHull_n35 : GoodIn wsX4_dawn (wsX7_isHull) := ggX4_dawn_X7_isHull
set_option maxRecDepth 20000 in
theorem ggX4_dawn_X7_put : GoodIn wsX4_dawn wsX7_put := goodIn_r _ [10] (by decide +kernel) (by decide +kernel)
set_option maxRecDepth 20000 in
theorem gX4_dawn_X7_put_n39 : GoodIn wsX4_dawn (wsX7_put) := ggX4_dawn_X7_put
theorem dX4_dawn_0 : decode cX4_dawn 0 = .ok (.aload_n 0, 1) := by decide +kernel
theorem dX4_dawn_1 : decode cX4_dawn 1 = .ok (.iload_n 1, 1) := by decide +kernel
theorem dX4_dawn_2 : decode cX4_dawn 2 = .ok (.putfield 31, 3) := by decide +kernel
theorem dX4_dawn_5 : decode cX4_dawn 5 = .ok (.iconst 0, 1) := by decide +kernel
theorem dX4_dawn_6 : decode cX4_dawn 6 = .ok (.istore_n 2, 1) := by decide +kernel
theorem dX4_dawn_7 : decode cX4_dawn 7 = .ok (.iload_n 2, 1) := by decide +kernel
theorem dX4_dawn_8 : decode cX4_dawn 8 = .ok (.iconst 5, 1) := by decide +kernel
theorem dX4_dawn_9 : decode cX4_dawn 9 = .ok (.if_icmp .ge 64, 3) := by decide +kernel
theorem dX4_dawn_12 : decode cX4_dawn 12 = .ok (.aload_n 0, 1) := by decide +kernel
theorem dX4_dawn_13 : decode cX4_dawn 13 = .ok (.getfield 15, 3) := by decide +kernel
theorem dX4_dawn_16 : decode cX4_dawn 16 = .ok (.iload_n 2, 1) := by decide +kernel
theorem dX4_dawn_17 : decode cX4_dawn 17 = .ok (.iaload, 1) := by decide +kernel
theorem dX4_dawn_18 : decode cX4_dawn 18 = .ok (.invokestatic 35, 3) := by decide +kernel
theorem dX4_dawn_21 : decode cX4_dawn 21 = .ok (.ifCond .eq 46, 3) := by decide +kernel
theorem dX4_dawn_24 : decode cX4_dawn 24 = .ok (.aload_n 0, 1) := by decide +kernel
theorem dX4_dawn_25 : decode cX4_dawn 25 = .ok (.getfield 21, 3) := by decide +kernel
theorem dX4_dawn_28 : decode cX4_dawn 28 = .ok (.iload_n 2, 1) := by decide +kernel
theorem dX4_dawn_29 : decode cX4_dawn 29 = .ok (.iaload, 1) := by decide +kernel
theorem dX4_dawn_30 : decode cX4_dawn 30 = .ok (.iload_n 1, 1) := by decide +kernel
theorem dX4_dawn_31 : decode cX4_dawn 31 = .ok (.if_icmp .gt 36, 3) := by decide +kernel
theorem dX4_dawn_34 : decode cX4_dawn 34 = .ok (.aload_n 0, 1) := by decide +kernel
theorem dX4_dawn_35 : decode cX4_dawn 35 = .ok (.getfield 9, 3) := by decide +kernel
theorem dX4_dawn_38 : decode cX4_dawn 38 = .ok (.aload_n 0, 1) := by decide +kernel
theorem dX4_dawn_39 : decode cX4_dawn 39 = .ok (.getfield 15, 3) := by decide +kernel
theorem dX4_dawn_42 : decode cX4_dawn 42 = .ok (.iload_n 2, 1) := by decide +kernel
theorem dX4_dawn_43 : decode cX4_dawn 43 = .ok (.iaload, 1) := by decide +kernel
theorem dX4_dawn_44 : decode cX4_dawn 44 = .ok (.bipush (-6), 2) := by decide +kernel
theorem dX4_dawn_46 : decode cX4_dawn 46 = .ok (.invokestatic 39, 3) := by decide +kernel
theorem dX4_dawn_49 : decode cX4_dawn 49 = .ok (.aload_n 0, 1) := by decide +kernel
theorem dX4_dawn_50 : decode cX4_dawn 50 = .ok (.getfield 15, 3) := by decide +kernel
theorem dX4_dawn_53 : decode cX4_dawn 53 = .ok (.iload_n 2, 1) := by decide +kernel
theorem dX4_dawn_54 : decode cX4_dawn 54 = .ok (.bipush (-6), 2) := by decide +kernel
theorem dX4_dawn_56 : decode cX4_dawn 56 = .ok (.iastore, 1) := by decide +kernel
theorem dX4_dawn_57 : decode cX4_dawn 57 = .ok (.aload_n 0, 1) := by decide +kernel
theorem dX4_dawn_58 : decode cX4_dawn 58 = .ok (.getfield 18, 3) := by decide +kernel
theorem dX4_dawn_61 : decode cX4_dawn 61 = .ok (.iload_n 2, 1) := by decide +kernel
theorem dX4_dawn_62 : decode cX4_dawn 62 = .ok (.dup2, 1) := by decide +kernel
theorem dX4_dawn_63 : decode cX4_dawn 63 = .ok (.iaload, 1) := by decide +kernel
theorem dX4_dawn_64 : decode cX4_dawn 64 = .ok (.iconst 1, 1) := by decide +kernel
theorem dX4_dawn_65 : decode cX4_dawn 65 = .ok (.iadd, 1) := by decide +kernel
theorem dX4_dawn_66 : decode cX4_dawn 66 = .ok (.iastore, 1) := by decide +kernel
theorem dX4_dawn_67 : decode cX4_dawn 67 = .ok (.iinc 2 1, 3) := by decide +kernel
theorem dX4_dawn_70 : decode cX4_dawn 70 = .ok (.goto (-63), 3) := by decide +kernel
theorem dX4_dawn_73 : decode cX4_dawn 73 = .ok (.return_, 1) := by decide +kernel
set_option maxRecDepth 20000 in
theorem ggX4_sail_X7_put : GoodIn wsX4_sail wsX7_put := goodIn_r _ [8] (by decide +kernel) (by decide +kernel)
set_option maxRecDepth 20000 in
theorem gX4_sail_X7_put_n39 : GoodIn wsX4_sail (wsX7_put) := ggX4_sail_X7_put
theorem dX4_sail_0 : decode cX4_sail 0 = .ok (.aload_n 0, 1) := by decide +kernel
theorem dX4_sail_1 : decode cX4_sail 1 = .ok (.getfield 9, 3) := by decide +kernel
theorem dX4_sail_4 : decode cX4_sail 4 = .ok (.iload_n 1, 1) := by decide +kernel
theorem dX4_sail_5 : decode cX4_sail 5 = .ok (.iload_n 2, 1) := by decide +kernel
theorem dX4_sail_6 : decode cX4_sail 6 = .ok (.invokestatic 39, 3) := by decide +kernel
theorem dX4_sail_9 : decode cX4_sail 9 = .ok (.aload_n 0, 1) := by decide +kernel
theorem dX4_sail_10 : decode cX4_sail 10 = .ok (.getfield 15, 3) := by decide +kernel
theorem dX4_sail_13 : decode cX4_sail 13 = .ok (.iload_n 2, 1) := by decide +kernel
theorem dX4_sail_14 : decode cX4_sail 14 = .ok (.iload_n 1, 1) := by decide +kernel
theorem dX4_sail_15 : decode cX4_sail 15 = .ok (.invokestatic 39, 3) := by decide +kernel
theorem dX4_sail_18 : decode cX4_sail 18 = .ok (.aload_n 0, 1) := by decide +kernel
theorem dX4_sail_19 : decode cX4_sail 19 = .ok (.getfield 24, 3) := by decide +kernel
theorem dX4_sail_22 : decode cX4_sail 22 = .ok (.iload_n 2, 1) := by decide +kernel
theorem dX4_sail_23 : decode cX4_sail 23 = .ok (.iload_n 1, 1) := by decide +kernel
theorem dX4_sail_24 : decode cX4_sail 24 = .ok (.invokestatic 39, 3) := by decide +kernel
theorem dX4_sail_27 : decode cX4_sail 27 = .ok (.aload_n 0, 1) := by decide +kernel
theorem dX4_sail_28 : decode cX4_sail 28 = .ok (.getfield 21, 3) := by decide +kernel
theorem dX4_sail_31 : decode cX4_sail 31 = .ok (.iload_n 2, 1) := by decide +kernel
theorem dX4_sail_32 : decode cX4_sail 32 = .ok (.aload_n 0, 1) := by decide +kernel
theorem dX4_sail_33 : decode cX4_sail 33 = .ok (.getfield 31, 3) := by decide +kernel
theorem dX4_sail_36 : decode cX4_sail 36 = .ok (.iload_n 3, 1) := by decide +kernel
theorem dX4_sail_37 : decode cX4_sail 37 = .ok (.iadd, 1) := by decide +kernel
theorem dX4_sail_38 : decode cX4_sail 38 = .ok (.invokestatic 39, 3) := by decide +kernel
theorem dX4_sail_41 : decode cX4_sail 41 = .ok (.return_, 1) := by decide +kernel
set_option maxRecDepth 20000 in
theorem ggX4_drown_X7_at : GoodIn wsX4_drown wsX7_at := goodIn_r _ [7] (by decide +kernel) (by decide +kernel)
set_option maxRecDepth 20000 in
theorem gX4_drown_X7_at_n43 : GoodIn wsX4_drown (wsX7_at) := ggX4_drown_X7_at
set_option maxRecDepth 20000 in
theorem ggX4_drown_X7_put : GoodIn wsX4_drown wsX7_put := goodIn_r _ [9] (by decide +kernel) (by decide +kernel)
set_option maxRecDepth 20000 in
theorem gX4_drown_X7_put_n39 : GoodIn wsX4_drown (wsX7_put) := ggX4_drown_X7_put
theorem dX4_drown_0 : decode cX4_drown 0 = .ok (.aload_n 0, 1) := by decide +kernel
theorem dX4_drown_1 : decode cX4_drown 1 = .ok (.getfield 9, 3) := by decide +kernel
theorem dX4_drown_4 : decode cX4_drown 4 = .ok (.aload_n 0, 1) := by decide +kernel
theorem dX4_drown_5 : decode cX4_drown 5 = .ok (.getfield 15, 3) := by decide +kernel
theorem dX4_drown_8 : decode cX4_drown 8 = .ok (.iload_n 1, 1) := by decide +kernel
theorem dX4_drown_9 : decode cX4_drown 9 = .ok (.invokestatic 43, 3) := by decide +kernel
theorem dX4_drown_12 : decode cX4_drown 12 = .ok (.bipush (-7), 2) := by decide +kernel
theorem dX4_drown_14 : decode cX4_drown 14 = .ok (.invokestatic 39, 3) := by decide +kernel
theorem dX4_drown_17 : decode cX4_drown 17 = .ok (.aload_n 0, 1) := by decide +kernel
theorem dX4_drown_18 : decode cX4_drown 18 = .ok (.getfield 15, 3) := by decide +kernel
theorem dX4_drown_21 : decode cX4_drown 21 = .ok (.iload_n 1, 1) := by decide +kernel
theorem dX4_drown_22 : decode cX4_drown 22 = .ok (.bipush (-7), 2) := by decide +kernel
theorem dX4_drown_24 : decode cX4_drown 24 = .ok (.invokestatic 39, 3) := by decide +kernel
theorem dX4_drown_27 : decode cX4_drown 27 = .ok (.aload_n 0, 1) := by decide +kernel
theorem dX4_drown_28 : decode cX4_drown 28 = .ok (.getfield 21, 3) := by decide +kernel
theorem dX4_drown_31 : decode cX4_drown 31 = .ok (.iload_n 1, 1) := by decide +kernel
theorem dX4_drown_32 : decode cX4_drown 32 = .ok (.aload_n 0, 1) := by decide +kernel
theorem dX4_drown_33 : decode cX4_drown 33 = .ok (.getfield 31, 3) := by decide +kernel
theorem dX4_drown_36 : decode cX4_drown 36 = .ok (.invokestatic 39, 3) := by decide +kernel
theorem dX4_drown_39 : decode cX4_drown 39 = .ok (.return_, 1) := by decide +kernel
set_option maxRecDepth 20000 in
theorem ggX4_whyNotSail_X7_at : GoodIn wsX4_whyNotSail wsX7_at := goodIn_r _ [5] (by decide +kernel) (by decide +kernel)
set_option maxRecDepth 20000 in
theorem gX4_whyNotSail_X7_at_n43 : GoodIn wsX4_whyNotSail (wsX7_at) := ggX4_whyNotSail_X7_at
theorem dX4_whyNotSail_0 : decode cX4_whyNotSail 0 = .ok (.aload_n 0, 1) := by decide +kernel
theorem dX4_whyNotSail_1 : decode cX4_whyNotSail 1 = .ok (.getfield 9, 3) := by decide +kernel
theorem dX4_whyNotSail_4 : decode cX4_whyNotSail 4 = .ok (.iload_n 1, 1) := by decide +kernel
theorem dX4_whyNotSail_5 : decode cX4_whyNotSail 5 = .ok (.invokestatic 43, 3) := by decide +kernel
theorem dX4_whyNotSail_8 : decode cX4_whyNotSail 8 = .ok (.bipush (-7), 2) := by decide +kernel
theorem dX4_whyNotSail_10 : decode cX4_whyNotSail 10 = .ok (.if_icmp .ne 5, 3) := by decide +kernel
theorem dX4_whyNotSail_13 : decode cX4_whyNotSail 13 = .ok (.iconst 1, 1) := by decide +kernel
theorem dX4_whyNotSail_14 : decode cX4_whyNotSail 14 = .ok (.ireturn, 1) := by decide +kernel
theorem dX4_whyNotSail_15 : decode cX4_whyNotSail 15 = .ok (.aload_n 0, 1) := by decide +kernel
theorem dX4_whyNotSail_16 : decode cX4_whyNotSail 16 = .ok (.getfield 9, 3) := by decide +kernel
theorem dX4_whyNotSail_19 : decode cX4_whyNotSail 19 = .ok (.iload_n 1, 1) := by decide +kernel
theorem dX4_whyNotSail_20 : decode cX4_whyNotSail 20 = .ok (.invokestatic 43, 3) := by decide +kernel
theorem dX4_whyNotSail_23 : decode cX4_whyNotSail 23 = .ok (.bipush (-6), 2) := by decide +kernel
theorem dX4_whyNotSail_25 : decode cX4_whyNotSail 25 = .ok (.if_icmp .eq 5, 3) := by decide +kernel
theorem dX4_whyNotSail_28 : decode cX4_whyNotSail 28 = .ok (.iconst 2, 1) := by decide +kernel
theorem dX4_whyNotSail_29 : decode cX4_whyNotSail 29 = .ok (.ireturn, 1) := by decide +kernel
theorem dX4_whyNotSail_30 : decode cX4_whyNotSail 30 = .ok (.aload_n 0, 1) := by decide +kernel
theorem dX4_whyNotSail_31 : decode cX4_whyNotSail 31 = .ok (.getfield 15, 3) := by decide +kernel
theorem dX4_whyNotSail_34 : decode cX4_whyNotSail 34 = .ok (.iload_n 2, 1) := by decide +kernel
theorem dX4_whyNotSail_35 : decode cX4_whyNotSail 35 = .ok (.invokestatic 43, 3) := by decide +kernel
theorem dX4_whyNotSail_38 : decode cX4_whyNotSail 38 = .ok (.bipush (-7), 2) := by decide +kernel
theorem dX4_whyNotSail_40 : decode cX4_whyNotSail 40 = .ok (.if_icmp .ne 5, 3) := by decide +kernel
theorem dX4_whyNotSail_43 : decode cX4_whyNotSail 43 = .ok (.iconst 3, 1) := by decide +kernel
theorem dX4_whyNotSail_44 : decode cX4_whyNotSail 44 = .ok (.ireturn, 1) := by decide +kernel
theorem dX4_whyNotSail_45 : decode cX4_whyNotSail 45 = .ok (.aload_n 0, 1) := by decide +kernel
theorem dX4_whyNotSail_46 : decode cX4_whyNotSail 46 = .ok (.getfield 15, 3) := by decide +kernel
theorem dX4_whyNotSail_49 : decode cX4_whyNotSail 49 = .ok (.iload_n 2, 1) := by decide +kernel
theorem dX4_whyNotSail_50 : decode cX4_whyNotSail 50 = .ok (.invokestatic 43, 3) := by decide +kernel
theorem dX4_whyNotSail_53 : decode cX4_whyNotSail 53 = .ok (.bipush (-6), 2) := by decide +kernel
theorem dX4_whyNotSail_55 : decode cX4_whyNotSail 55 = .ok (.if_icmp .eq 5, 3) := by decide +kernel
theorem dX4_whyNotSail_58 : decode cX4_whyNotSail 58 = .ok (.iconst 4, 1) := by decide +kernel
theorem dX4_whyNotSail_59 : decode cX4_whyNotSail 59 = .ok (.ireturn, 1) := by decide +kernel
theorem dX4_whyNotSail_60 : decode cX4_whyNotSail 60 = .ok (.iload_n 3, 1) := by decide +kernel
theorem dX4_whyNotSail_61 : decode cX4_whyNotSail 61 = .ok (.ifCond .eq 7, 3) := by decide +kernel
theorem dX4_whyNotSail_64 : decode cX4_whyNotSail 64 = .ok (.iconst 0, 1) := by decide +kernel
theorem dX4_whyNotSail_65 : decode cX4_whyNotSail 65 = .ok (.goto 4, 3) := by decide +kernel
theorem dX4_whyNotSail_68 : decode cX4_whyNotSail 68 = .ok (.iconst 5, 1) := by decide +kernel
theorem dX4_whyNotSail_69 : decode cX4_whyNotSail 69 = .ok (.ireturn, 1) := by decide +kernel
set_option maxRecDepth 20000 in
theorem ggX4_whyNotDrown_X7_at : GoodIn wsX4_whyNotDrown wsX7_at := goodIn_r _ [4] (by decide +kernel) (by decide +kernel)
set_option maxRecDepth 20000 in
theorem gX4_whyNotDrown_X7_at_n43 : GoodIn wsX4_whyNotDrown (wsX7_at) := ggX4_whyNotDrown_X7_at
theorem dX4_whyNotDrown_0 : decode cX4_whyNotDrown 0 = .ok (.aload_n 0, 1) := by decide +kernel
theorem dX4_whyNotDrown_1 : decode cX4_whyNotDrown 1 = .ok (.getfield 15, 3) := by decide +kernel
theorem dX4_whyNotDrown_4 : decode cX4_whyNotDrown 4 = .ok (.iload_n 1, 1) := by decide +kernel
theorem dX4_whyNotDrown_5 : decode cX4_whyNotDrown 5 = .ok (.invokestatic 43, 3) := by decide +kernel
theorem dX4_whyNotDrown_8 : decode cX4_whyNotDrown 8 = .ok (.bipush (-7), 2) := by decide +kernel
theorem dX4_whyNotDrown_10 : decode cX4_whyNotDrown 10 = .ok (.if_icmp .ne 5, 3) := by decide +kernel
theorem dX4_whyNotDrown_13 : decode cX4_whyNotDrown 13 = .ok (.iconst 3, 1) := by decide +kernel
theorem dX4_whyNotDrown_14 : decode cX4_whyNotDrown 14 = .ok (.ireturn, 1) := by decide +kernel
theorem dX4_whyNotDrown_15 : decode cX4_whyNotDrown 15 = .ok (.aload_n 0, 1) := by decide +kernel
theorem dX4_whyNotDrown_16 : decode cX4_whyNotDrown 16 = .ok (.getfield 15, 3) := by decide +kernel
theorem dX4_whyNotDrown_19 : decode cX4_whyNotDrown 19 = .ok (.iload_n 1, 1) := by decide +kernel
theorem dX4_whyNotDrown_20 : decode cX4_whyNotDrown 20 = .ok (.invokestatic 43, 3) := by decide +kernel
theorem dX4_whyNotDrown_23 : decode cX4_whyNotDrown 23 = .ok (.bipush (-6), 2) := by decide +kernel
theorem dX4_whyNotDrown_25 : decode cX4_whyNotDrown 25 = .ok (.if_icmp .ne 7, 3) := by decide +kernel
theorem dX4_whyNotDrown_28 : decode cX4_whyNotDrown 28 = .ok (.iconst 4, 1) := by decide +kernel
theorem dX4_whyNotDrown_29 : decode cX4_whyNotDrown 29 = .ok (.goto 4, 3) := by decide +kernel
theorem dX4_whyNotDrown_32 : decode cX4_whyNotDrown 32 = .ok (.iconst 0, 1) := by decide +kernel
theorem dX4_whyNotDrown_33 : decode cX4_whyNotDrown 33 = .ok (.ireturn, 1) := by decide +kernel
set_option maxRecDepth 20000 in
theorem ggX4_bearer_X7_at : GoodIn wsX4_bearer wsX7_at := goodIn_r _ [7] (by decide +kernel) (by decide +kernel)
set_option maxRecDepth 20000 in
theorem gX4_bearer_X7_at_n43 : GoodIn wsX4_bearer (wsX7_at) := ggX4_bearer_X7_at
theorem dX4_bearer_0 : decode cX4_bearer 0 = .ok (.aload_n 0, 1) := by decide +kernel
theorem dX4_bearer_1 : decode cX4_bearer 1 = .ok (.getfield 15, 3) := by decide +kernel
theorem dX4_bearer_4 : decode cX4_bearer 4 = .ok (.iload_n 1, 1) := by decide +kernel
theorem dX4_bearer_5 : decode cX4_bearer 5 = .ok (.invokestatic 43, 3) := by decide +kernel
theorem dX4_bearer_8 : decode cX4_bearer 8 = .ok (.istore_n 2, 1) := by decide +kernel
theorem dX4_bearer_9 : decode cX4_bearer 9 = .ok (.iload_n 2, 1) := by decide +kernel
theorem dX4_bearer_10 : decode cX4_bearer 10 = .ok (.bipush (-7), 2) := by decide +kernel
theorem dX4_bearer_12 : decode cX4_bearer 12 = .ok (.if_icmp .ne 32, 3) := by decide +kernel
theorem dX4_bearer_15 : decode cX4_bearer 15 = .ok (.aload_n 0, 1) := by decide +kernel
theorem dX4_bearer_16 : decode cX4_bearer 16 = .ok (.getfield 21, 3) := by decide +kernel
theorem dX4_bearer_19 : decode cX4_bearer 19 = .ok (.iload_n 1, 1) := by decide +kernel
theorem dX4_bearer_20 : decode cX4_bearer 20 = .ok (.invokestatic 43, 3) := by decide +kernel
theorem dX4_bearer_23 : decode cX4_bearer 23 = .ok (.aload_n 0, 1) := by decide +kernel
theorem dX4_bearer_24 : decode cX4_bearer 24 = .ok (.getfield 31, 3) := by decide +kernel
theorem dX4_bearer_27 : decode cX4_bearer 27 = .ok (.if_icmp .ne 14, 3) := by decide +kernel
theorem dX4_bearer_30 : decode cX4_bearer 30 = .ok (.aload_n 0, 1) := by decide +kernel
theorem dX4_bearer_31 : decode cX4_bearer 31 = .ok (.getfield 24, 3) := by decide +kernel
theorem dX4_bearer_34 : decode cX4_bearer 34 = .ok (.iload_n 1, 1) := by decide +kernel
theorem dX4_bearer_35 : decode cX4_bearer 35 = .ok (.invokestatic 43, 3) := by decide +kernel
theorem dX4_bearer_38 : decode cX4_bearer 38 = .ok (.goto 5, 3) := by decide +kernel
theorem dX4_bearer_41 : decode cX4_bearer 41 = .ok (.bipush (-6), 2) := by decide +kernel
theorem dX4_bearer_43 : decode cX4_bearer 43 = .ok (.ireturn, 1) := by decide +kernel
theorem dX4_bearer_44 : decode cX4_bearer 44 = .ok (.iload_n 2, 1) := by decide +kernel
theorem dX4_bearer_45 : decode cX4_bearer 45 = .ok (.ireturn, 1) := by decide +kernel
set_option maxRecDepth 20000 in
theorem ggX4_dayAtHome_X7_at : GoodIn wsX4_dayAtHome wsX7_at := goodIn_r _ [6] (by decide +kernel) (by decide +kernel)
set_option maxRecDepth 20000 in
theorem gX4_dayAtHome_X7_at_n43 : GoodIn wsX4_dayAtHome (wsX7_at) := ggX4_dayAtHome_X7_at
theorem dX4_dayAtHome_0 : decode cX4_dayAtHome 0 = .ok (.aload_n 0, 1) := by decide +kernel
theorem dX4_dayAtHome_1 : decode cX4_dayAtHome 1 = .ok (.getfield 15, 3) := by decide +kernel
theorem dX4_dayAtHome_4 : decode cX4_dayAtHome 4 = .ok (.iload_n 1, 1) := by decide +kernel
theorem dX4_dayAtHome_5 : decode cX4_dayAtHome 5 = .ok (.invokestatic 43, 3) := by decide +kernel
theorem dX4_dayAtHome_8 : decode cX4_dayAtHome 8 = .ok (.istore_n 2, 1) := by decide +kernel
theorem dX4_dayAtHome_9 : decode cX4_dayAtHome 9 = .ok (.iload_n 2, 1) := by decide +kernel
theorem dX4_dayAtHome_10 : decode cX4_dayAtHome 10 = .ok (.bipush (-7), 2) := by decide +kernel
theorem dX4_dayAtHome_12 : decode cX4_dayAtHome 12 = .ok (.if_icmp .ne 6, 3) := by decide +kernel
theorem dX4_dayAtHome_15 : decode cX4_dayAtHome 15 = .ok (.bipush (-7), 2) := by decide +kernel
theorem dX4_dayAtHome_17 : decode cX4_dayAtHome 17 = .ok (.ireturn, 1) := by decide +kernel
theorem dX4_dayAtHome_18 : decode cX4_dayAtHome 18 = .ok (.iload_n 2, 1) := by decide +kernel
theorem dX4_dayAtHome_19 : decode cX4_dayAtHome 19 = .ok (.bipush (-6), 2) := by decide +kernel
theorem dX4_dayAtHome_21 : decode cX4_dayAtHome 21 = .ok (.if_icmp .ne 10, 3) := by decide +kernel
theorem dX4_dayAtHome_24 : decode cX4_dayAtHome 24 = .ok (.aload_n 0, 1) := by decide +kernel
theorem dX4_dayAtHome_25 : decode cX4_dayAtHome 25 = .ok (.getfield 31, 3) := by decide +kernel
theorem dX4_dayAtHome_28 : decode cX4_dayAtHome 28 = .ok (.goto 11, 3) := by decide +kernel
theorem dX4_dayAtHome_31 : decode cX4_dayAtHome 31 = .ok (.aload_n 0, 1) := by decide +kernel
theorem dX4_dayAtHome_32 : decode cX4_dayAtHome 32 = .ok (.getfield 21, 3) := by decide +kernel
theorem dX4_dayAtHome_35 : decode cX4_dayAtHome 35 = .ok (.iload_n 1, 1) := by decide +kernel
theorem dX4_dayAtHome_36 : decode cX4_dayAtHome 36 = .ok (.invokestatic 43, 3) := by decide +kernel
theorem dX4_dayAtHome_39 : decode cX4_dayAtHome 39 = .ok (.ireturn, 1) := by decide +kernel
theorem dX4_drownedHulls_0 : decode cX4_drownedHulls 0 = .ok (.iconst 0, 1) := by decide +kernel
theorem dX4_drownedHulls_1 : decode cX4_drownedHulls 1 = .ok (.istore_n 1, 1) := by decide +kernel
theorem dX4_drownedHulls_2 : decode cX4_drownedHulls 2 = .ok (.iconst 0, 1) := by decide +kernel
theorem dX4_drownedHulls_3 : decode cX4_drownedHulls 3 = .ok (.istore_n 2, 1) := by decide +kernel
theorem dX4_drownedHulls_4 : decode cX4_drownedHulls 4 = .ok (.iload_n 2, 1) := by decide +kernel
theorem dX4_drownedHulls_5 : decode cX4_drownedHulls 5 = .ok (.bipush 6, 2) := by decide +kernel
theorem dX4_drownedHulls_7 : decode cX4_drownedHulls 7 = .ok (.if_icmp .ge 23, 3) := by decide +kernel
theorem dX4_drownedHulls_10 : decode cX4_drownedHulls 10 = .ok (.aload_n 0, 1) := by decide +kernel
theorem dX4_drownedHulls_11 : decode cX4_drownedHulls 11 = .ok (.getfield 9, 3) := by decide +kernel
theorem dX4_drownedHulls_14 : decode cX4_drownedHulls 14 = .ok (.iload_n 2, 1) := by decide +kernel
theorem dX4_drownedHulls_15 : decode cX4_drownedHulls 15 = .ok (.iaload, 1) := by decide +kernel
theorem dX4_drownedHulls_16 : decode cX4_drownedHulls 16 = .ok (.bipush (-7), 2) := by decide +kernel
theorem dX4_drownedHulls_18 : decode cX4_drownedHulls 18 = .ok (.if_icmp .ne 6, 3) := by decide +kernel
theorem dX4_drownedHulls_21 : decode cX4_drownedHulls 21 = .ok (.iinc 1 1, 3) := by decide +kernel
theorem dX4_drownedHulls_24 : decode cX4_drownedHulls 24 = .ok (.iinc 2 1, 3) := by decide +kernel
theorem dX4_drownedHulls_27 : decode cX4_drownedHulls 27 = .ok (.goto (-23), 3) := by decide +kernel
theorem dX4_drownedHulls_30 : decode cX4_drownedHulls 30 = .ok (.iload_n 1, 1) := by decide +kernel
theorem dX4_drownedHulls_31 : decode cX4_drownedHulls 31 = .ok (.ireturn, 1) := by decide +kernel
theorem dX4_drownedNames_0 : decode cX4_drownedNames 0 = .ok (.iconst 0, 1) := by decide +kernel
theorem dX4_drownedNames_1 : decode cX4_drownedNames 1 = .ok (.istore_n 1, 1) := by decide +kernel
theorem dX4_drownedNames_2 : decode cX4_drownedNames 2 = .ok (.iconst 0, 1) := by decide +kernel
theorem dX4_drownedNames_3 : decode cX4_drownedNames 3 = .ok (.istore_n 2, 1) := by decide +kernel
theorem dX4_drownedNames_4 : decode cX4_drownedNames 4 = .ok (.iload_n 2, 1) := by decide +kernel
theorem dX4_drownedNames_5 : decode cX4_drownedNames 5 = .ok (.iconst 5, 1) := by decide +kernel
theorem dX4_drownedNames_6 : decode cX4_drownedNames 6 = .ok (.if_icmp .ge 26, 3) := by decide +kernel
theorem dX4_drownedNames_9 : decode cX4_drownedNames 9 = .ok (.aload_n 0, 1) := by decide +kernel
theorem dX4_drownedNames_10 : decode cX4_drownedNames 10 = .ok (.getfield 15, 3) := by decide +kernel
theorem dX4_drownedNames_13 : decode cX4_drownedNames 13 = .ok (.iload_n 2, 1) := by decide +kernel
theorem dX4_drownedNames_14 : decode cX4_drownedNames 14 = .ok (.iaload, 1) := by decide +kernel
theorem dX4_drownedNames_15 : decode cX4_drownedNames 15 = .ok (.bipush (-7), 2) := by decide +kernel
theorem dX4_drownedNames_17 : decode cX4_drownedNames 17 = .ok (.if_icmp .ne 9, 3) := by decide +kernel
theorem dX4_drownedNames_20 : decode cX4_drownedNames 20 = .ok (.iload_n 1, 1) := by decide +kernel
theorem dX4_drownedNames_21 : decode cX4_drownedNames 21 = .ok (.iconst 1, 1) := by decide +kernel
theorem dX4_drownedNames_22 : decode cX4_drownedNames 22 = .ok (.iload_n 2, 1) := by decide +kernel
theorem dX4_drownedNames_23 : decode cX4_drownedNames 23 = .ok (.ishl, 1) := by decide +kernel
theorem dX4_drownedNames_24 : decode cX4_drownedNames 24 = .ok (.ior, 1) := by decide +kernel
theorem dX4_drownedNames_25 : decode cX4_drownedNames 25 = .ok (.istore_n 1, 1) := by decide +kernel
theorem dX4_drownedNames_26 : decode cX4_drownedNames 26 = .ok (.iinc 2 1, 3) := by decide +kernel
theorem dX4_drownedNames_29 : decode cX4_drownedNames 29 = .ok (.goto (-25), 3) := by decide +kernel
theorem dX4_drownedNames_32 : decode cX4_drownedNames 32 = .ok (.iload_n 1, 1) := by decide +kernel
theorem dX4_drownedNames_33 : decode cX4_drownedNames 33 = .ok (.ireturn, 1) := by decide +kernel
theorem dX4_allHomes_0 : decode cX4_allHomes 0 = .ok (.iconst 0, 1) := by decide +kernel
theorem dX4_allHomes_1 : decode cX4_allHomes 1 = .ok (.istore_n 1, 1) := by decide +kernel
theorem dX4_allHomes_2 : decode cX4_allHomes 2 = .ok (.iconst 0, 1) := by decide +kernel
theorem dX4_allHomes_3 : decode cX4_allHomes 3 = .ok (.istore_n 2, 1) := by decide +kernel
theorem dX4_allHomes_4 : decode cX4_allHomes 4 = .ok (.iload_n 2, 1) := by decide +kernel
theorem dX4_allHomes_5 : decode cX4_allHomes 5 = .ok (.iconst 5, 1) := by decide +kernel
theorem dX4_allHomes_6 : decode cX4_allHomes 6 = .ok (.if_icmp .ge 18, 3) := by decide +kernel
theorem dX4_allHomes_9 : decode cX4_allHomes 9 = .ok (.iload_n 1, 1) := by decide +kernel
theorem dX4_allHomes_10 : decode cX4_allHomes 10 = .ok (.aload_n 0, 1) := by decide +kernel
theorem dX4_allHomes_11 : decode cX4_allHomes 11 = .ok (.getfield 18, 3) := by decide +kernel
theorem dX4_allHomes_14 : decode cX4_allHomes 14 = .ok (.iload_n 2, 1) := by decide +kernel
theorem dX4_allHomes_15 : decode cX4_allHomes 15 = .ok (.iaload, 1) := by decide +kernel
theorem dX4_allHomes_16 : decode cX4_allHomes 16 = .ok (.iadd, 1) := by decide +kernel
theorem dX4_allHomes_17 : decode cX4_allHomes 17 = .ok (.istore_n 1, 1) := by decide +kernel
theorem dX4_allHomes_18 : decode cX4_allHomes 18 = .ok (.iinc 2 1, 3) := by decide +kernel
theorem dX4_allHomes_21 : decode cX4_allHomes 21 = .ok (.goto (-17), 3) := by decide +kernel
theorem dX4_allHomes_24 : decode cX4_allHomes 24 = .ok (.iload_n 1, 1) := by decide +kernel
theorem dX4_allHomes_25 : decode cX4_allHomes 25 = .ok (.ireturn, 1) := by decide +kernel
