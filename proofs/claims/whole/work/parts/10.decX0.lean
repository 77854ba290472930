theorem dX0_init_0 : decode cX0_init 0 = .ok (.aload_n 0, 1) := by decide +kernel
theorem dX0_init_1 : decode cX0_init 1 = .ok (.invokespecial 3, 3) := by decide +kernel
theorem dX0_init_4 : decode cX0_init 4 = .ok (.aload_n 0, 1) := by decide +kernel
theorem dX0_init_5 : decode cX0_init 5 = .ok (.iconst 5, 1) := by decide +kernel
theorem dX0_init_6 : decode cX0_init 6 = .ok (.newarray .int, 2) := by decide +kernel
theorem dX0_init_8 : decode cX0_init 8 = .ok (.putfield 9, 3) := by decide +kernel
theorem dX0_init_11 : decode cX0_init 11 = .ok (.aload_n 0, 1) := by decide +kernel
theorem dX0_init_12 : decode cX0_init 12 = .ok (.bipush 6, 2) := by decide +kernel
theorem dX0_init_14 : decode cX0_init 14 = .ok (.newarray .int, 2) := by decide +kernel
theorem dX0_init_16 : decode cX0_init 16 = .ok (.putfield 15, 3) := by decide +kernel
theorem dX0_init_19 : decode cX0_init 19 = .ok (.aload_n 0, 1) := by decide +kernel
theorem dX0_init_20 : decode cX0_init 20 = .ok (.aload_n 1, 1) := by decide +kernel
theorem dX0_init_21 : decode cX0_init 21 = .ok (.putfield 18, 3) := by decide +kernel
theorem dX0_init_24 : decode cX0_init 24 = .ok (.return_, 1) := by decide +kernel
set_option maxRecDepth 20000 in
theorem ggX0_leastDays_X7_fill : GoodIn wsX0_leastDays wsX7_fill := goodIn_r _ [12] (by decide +kernel) (by decide +kernel)
set_option maxRecDepth 20000 in
theorem gX0_leastDays_X7_fill_n22 : GoodIn wsX0_leastDays (wsX7_fill) := ggX0_leastDays_X7_fill
set_option maxRecDepth 20000 in
theorem ggX0_leastDays_X7_at : GoodIn wsX0_leastDays wsX7_at := goodIn_r _ [14] (by decide +kernel) (by decide +kernel)
set_option maxRecDepth 20000 in
theorem gX0_leastDays_X7_at_n31 : GoodIn wsX0_leastDays (wsX7_at) := ggX0_leastDays_X7_at
set_option maxRecDepth 20000 in
theorem ggX0_leastDays_X0_fits : GoodIn wsX0_leastDays wsX0_fits := goodIn_r _ [18, 3, 4, 5, 2, 1, 19, 11, 20, 13, 14, 15, 16, 17, 21, 22, 23, 24, 25, 26, 27, 28, 29, 30, 31, 32] (by decide +kernel) (by decide +kernel)
set_option maxRecDepth 20000 in
theorem gX0_leastDays_X0_fits : GoodIn wsX0_leastDays (va_wsS RX0 44 yX0_fits wsX0_fits) := goodIn_app (goodIn_of _ (by decide +kernel)) ggX0_leastDays_X0_fits
theorem dX0_leastDays_0 : decode cX0_leastDays 0 = .ok (.aload_n 0, 1) := by decide +kernel
theorem dX0_leastDays_1 : decode cX0_leastDays 1 = .ok (.getfield 15, 3) := by decide +kernel
theorem dX0_leastDays_4 : decode cX0_leastDays 4 = .ok (.bipush (-6), 2) := by decide +kernel
theorem dX0_leastDays_6 : decode cX0_leastDays 6 = .ok (.invokestatic 22, 3) := by decide +kernel
theorem dX0_leastDays_9 : decode cX0_leastDays 9 = .ok (.aload_n 0, 1) := by decide +kernel
theorem dX0_leastDays_10 : decode cX0_leastDays 10 = .ok (.getfield 9, 3) := by decide +kernel
theorem dX0_leastDays_13 : decode cX0_leastDays 13 = .ok (.iconst 0, 1) := by decide +kernel
theorem dX0_leastDays_14 : decode cX0_leastDays 14 = .ok (.invokestatic 22, 3) := by decide +kernel
theorem dX0_leastDays_17 : decode cX0_leastDays 17 = .ok (.iconst 0, 1) := by decide +kernel
theorem dX0_leastDays_18 : decode cX0_leastDays 18 = .ok (.istore_n 2, 1) := by decide +kernel
theorem dX0_leastDays_19 : decode cX0_leastDays 19 = .ok (.iconst 0, 1) := by decide +kernel
theorem dX0_leastDays_20 : decode cX0_leastDays 20 = .ok (.istore_n 3, 1) := by decide +kernel
theorem dX0_leastDays_21 : decode cX0_leastDays 21 = .ok (.iconst 0, 1) := by decide +kernel
theorem dX0_leastDays_22 : decode cX0_leastDays 22 = .ok (.istore 4, 2) := by decide +kernel
theorem dX0_leastDays_24 : decode cX0_leastDays 24 = .ok (.iload 4, 2) := by decide +kernel
theorem dX0_leastDays_26 : decode cX0_leastDays 26 = .ok (.bipush 6, 2) := by decide +kernel
theorem dX0_leastDays_28 : decode cX0_leastDays 28 = .ok (.if_icmp .ge 60, 3) := by decide +kernel
theorem dX0_leastDays_31 : decode cX0_leastDays 31 = .ok (.aload_n 0, 1) := by decide +kernel
theorem dX0_leastDays_32 : decode cX0_leastDays 32 = .ok (.getfield 18, 3) := by decide +kernel
theorem dX0_leastDays_35 : decode cX0_leastDays 35 = .ok (.getfield 26, 3) := by decide +kernel
theorem dX0_leastDays_38 : decode cX0_leastDays 38 = .ok (.iload 4, 2) := by decide +kernel
theorem dX0_leastDays_40 : decode cX0_leastDays 40 = .ok (.invokestatic 31, 3) := by decide +kernel
theorem dX0_leastDays_43 : decode cX0_leastDays 43 = .ok (.istore 5, 2) := by decide +kernel
theorem dX0_leastDays_45 : decode cX0_leastDays 45 = .ok (.iload 5, 2) := by decide +kernel
theorem dX0_leastDays_47 : decode cX0_leastDays 47 = .ok (.ifCond .le 23, 3) := by decide +kernel
theorem dX0_leastDays_50 : decode cX0_leastDays 50 = .ok (.aload_n 0, 1) := by decide +kernel
theorem dX0_leastDays_51 : decode cX0_leastDays 51 = .ok (.getfield 18, 3) := by decide +kernel
theorem dX0_leastDays_54 : decode cX0_leastDays 54 = .ok (.getfield 35, 3) := by decide +kernel
theorem dX0_leastDays_57 : decode cX0_leastDays 57 = .ok (.iload 4, 2) := by decide +kernel
theorem dX0_leastDays_59 : decode cX0_leastDays 59 = .ok (.invokestatic 31, 3) := by decide +kernel
theorem dX0_leastDays_62 : decode cX0_leastDays 62 = .ok (.iload_n 1, 1) := by decide +kernel
theorem dX0_leastDays_63 : decode cX0_leastDays 63 = .ok (.iand, 1) := by decide +kernel
theorem dX0_leastDays_64 : decode cX0_leastDays 64 = .ok (.ifCond .ne 6, 3) := by decide +kernel
theorem dX0_leastDays_67 : decode cX0_leastDays 67 = .ok (.bipush (-6), 2) := by decide +kernel
theorem dX0_leastDays_69 : decode cX0_leastDays 69 = .ok (.ireturn, 1) := by decide +kernel
theorem dX0_leastDays_70 : decode cX0_leastDays 70 = .ok (.iload_n 2, 1) := by decide +kernel
theorem dX0_leastDays_71 : decode cX0_leastDays 71 = .ok (.iload 5, 2) := by decide +kernel
theorem dX0_leastDays_73 : decode cX0_leastDays 73 = .ok (.invokestatic 38, 3) := by decide +kernel
theorem dX0_leastDays_76 : decode cX0_leastDays 76 = .ok (.istore_n 2, 1) := by decide +kernel
theorem dX0_leastDays_77 : decode cX0_leastDays 77 = .ok (.iload_n 3, 1) := by decide +kernel
theorem dX0_leastDays_78 : decode cX0_leastDays 78 = .ok (.iload 5, 2) := by decide +kernel
theorem dX0_leastDays_80 : decode cX0_leastDays 80 = .ok (.iadd, 1) := by decide +kernel
theorem dX0_leastDays_81 : decode cX0_leastDays 81 = .ok (.istore_n 3, 1) := by decide +kernel
theorem dX0_leastDays_82 : decode cX0_leastDays 82 = .ok (.iinc 4 1, 3) := by decide +kernel
theorem dX0_leastDays_85 : decode cX0_leastDays 85 = .ok (.goto (-61), 3) := by decide +kernel
theorem dX0_leastDays_88 : decode cX0_leastDays 88 = .ok (.iload_n 2, 1) := by decide +kernel
theorem dX0_leastDays_89 : decode cX0_leastDays 89 = .ok (.istore 4, 2) := by decide +kernel
theorem dX0_leastDays_91 : decode cX0_leastDays 91 = .ok (.iload 4, 2) := by decide +kernel
theorem dX0_leastDays_93 : decode cX0_leastDays 93 = .ok (.iload_n 3, 1) := by decide +kernel
theorem dX0_leastDays_94 : decode cX0_leastDays 94 = .ok (.if_icmp .gt 23, 3) := by decide +kernel
theorem dX0_leastDays_97 : decode cX0_leastDays 97 = .ok (.aload_n 0, 1) := by decide +kernel
theorem dX0_leastDays_98 : decode cX0_leastDays 98 = .ok (.iload_n 1, 1) := by decide +kernel
theorem dX0_leastDays_99 : decode cX0_leastDays 99 = .ok (.iload 4, 2) := by decide +kernel
theorem dX0_leastDays_101 : decode cX0_leastDays 101 = .ok (.iconst 0, 1) := by decide +kernel
theorem dX0_leastDays_102 : decode cX0_leastDays 102 = .ok (.invokestatic 44, 3) := by decide +kernel
theorem dX0_leastDays_105 : decode cX0_leastDays 105 = .ok (.ifCond .eq 6, 3) := by decide +kernel
theorem dX0_leastDays_108 : decode cX0_leastDays 108 = .ok (.iload 4, 2) := by decide +kernel
theorem dX0_leastDays_110 : decode cX0_leastDays 110 = .ok (.ireturn, 1) := by decide +kernel
theorem dX0_leastDays_111 : decode cX0_leastDays 111 = .ok (.iinc 4 1, 3) := by decide +kernel
theorem dX0_leastDays_114 : decode cX0_leastDays 114 = .ok (.goto (-23), 3) := by decide +kernel
theorem dX0_leastDays_117 : decode cX0_leastDays 117 = .ok (.bipush (-6), 2) := by decide +kernel
theorem dX0_leastDays_119 : decode cX0_leastDays 119 = .ok (.ireturn, 1) := by decide +kernel
set_option maxRecDepth 20000 in
theorem ggX0_fits_X7_isHull : GoodIn wsX0_fits wsX7_isHull := goodIn_r _ [8] (by decide +kernel) (by decide +kernel)
set_option maxRecDepth 20000 in
theorem gX0_fits_X7_isHull_n48 : GoodIn wsX0_fits (wsX7_isHull) := ggX0_fits_X7_isHull
set_option maxRecDepth 20000 in
theorem ggX0_fits_X7_at : GoodIn wsX0_fits wsX7_at := goodIn_r _ [10] (by decide +kernel) (by decide +kernel)
set_option maxRecDepth 20000 in
theorem gX0_fits_X7_at_n31 : GoodIn wsX0_fits (wsX7_at) := ggX0_fits_X7_at
set_option maxRecDepth 20000 in
theorem ggX0_fits_X0_fits : GoodIn wsX0_fits wsX0_fits := goodIn_r _ [0, 1, 2, 3, 4, 5, 6, 7, 8, 9, 10, 11, 12, 13, 14, 15, 16, 17, 18, 19, 20, 21, 22, 23, 24, 25] (by decide +kernel) (by decide +kernel)
set_option maxRecDepth 20000 in
theorem gX0_fits_X0_fits : GoodIn wsX0_fits (va_wsS RX0 44 yX0_fits wsX0_fits) := goodIn_app (goodIn_of _ (by decide +kernel)) ggX0_fits_X0_fits
set_option maxRecDepth 20000 in
theorem ggX0_fits_X7_hasBit : GoodIn wsX0_fits wsX7_hasBit := goodIn_r _ [15] (by decide +kernel) (by decide +kernel)
set_option maxRecDepth 20000 in
theorem gX0_fits_X7_hasBit_n52 : GoodIn wsX0_fits (wsX7_hasBit) := ggX0_fits_X7_hasBit
set_option maxRecDepth 20000 in
theorem ggX0_fits_X7_put : GoodIn wsX0_fits wsX7_put := goodIn_r _ [17] (by decide +kernel) (by decide +kernel)
set_option maxRecDepth 20000 in
theorem gX0_fits_X7_put_n56 : GoodIn wsX0_fits (wsX7_put) := ggX0_fits_X7_put
theorem dX0_fits_0 : decode cX0_fits 0 = .ok (.iload_n 3, 1) := by decide +kernel
theorem dX0_fits_1 : decode cX0_fits 1 = .ok (.invokestatic 48, 3) := by decide +kernel
theorem dX0_fits_4 : decode cX0_fits 4 = .ok (.ifCond .ne 5, 3) := by decide +kernel
theorem dX0_fits_7 : decode cX0_fits 7 = .ok (.iconst 1, 1) := by decide +kernel
theorem dX0_fits_8 : decode cX0_fits 8 = .ok (.ireturn, 1) := by decide +kernel
theorem dX0_fits_9 : decode cX0_fits 9 = .ok (.aload_n 0, 1) := by decide +kernel
theorem dX0_fits_10 : decode cX0_fits 10 = .ok (.getfield 18, 3) := by decide +kernel
theorem dX0_fits_13 : decode cX0_fits 13 = .ok (.getfield 26, 3) := by decide +kernel
theorem dX0_fits_16 : decode cX0_fits 16 = .ok (.iload_n 3, 1) := by decide +kernel
theorem dX0_fits_17 : decode cX0_fits 17 = .ok (.invokestatic 31, 3) := by decide +kernel
theorem dX0_fits_20 : decode cX0_fits 20 = .ok (.istore 4, 2) := by decide +kernel
theorem dX0_fits_22 : decode cX0_fits 22 = .ok (.iload 4, 2) := by decide +kernel
theorem dX0_fits_24 : decode cX0_fits 24 = .ok (.ifCond .ne 13, 3) := by decide +kernel
theorem dX0_fits_27 : decode cX0_fits 27 = .ok (.aload_n 0, 1) := by decide +kernel
theorem dX0_fits_28 : decode cX0_fits 28 = .ok (.iload_n 1, 1) := by decide +kernel
theorem dX0_fits_29 : decode cX0_fits 29 = .ok (.iload_n 2, 1) := by decide +kernel
theorem dX0_fits_30 : decode cX0_fits 30 = .ok (.iload_n 3, 1) := by decide +kernel
theorem dX0_fits_31 : decode cX0_fits 31 = .ok (.iconst 1, 1) := by decide +kernel
theorem dX0_fits_32 : decode cX0_fits 32 = .ok (.iadd, 1) := by decide +kernel
theorem dX0_fits_33 : decode cX0_fits 33 = .ok (.invokestatic 44, 3) := by decide +kernel
theorem dX0_fits_36 : decode cX0_fits 36 = .ok (.ireturn, 1) := by decide +kernel
theorem dX0_fits_37 : decode cX0_fits 37 = .ok (.aload_n 0, 1) := by decide +kernel
theorem dX0_fits_38 : decode cX0_fits 38 = .ok (.getfield 18, 3) := by decide +kernel
theorem dX0_fits_41 : decode cX0_fits 41 = .ok (.getfield 35, 3) := by decide +kernel
theorem dX0_fits_44 : decode cX0_fits 44 = .ok (.iload_n 3, 1) := by decide +kernel
theorem dX0_fits_45 : decode cX0_fits 45 = .ok (.invokestatic 31, 3) := by decide +kernel
theorem dX0_fits_48 : decode cX0_fits 48 = .ok (.iload_n 1, 1) := by decide +kernel
theorem dX0_fits_49 : decode cX0_fits 49 = .ok (.iand, 1) := by decide +kernel
theorem dX0_fits_50 : decode cX0_fits 50 = .ok (.istore 5, 2) := by decide +kernel
theorem dX0_fits_52 : decode cX0_fits 52 = .ok (.iconst 0, 1) := by decide +kernel
theorem dX0_fits_53 : decode cX0_fits 53 = .ok (.istore 6, 2) := by decide +kernel
theorem dX0_fits_55 : decode cX0_fits 55 = .ok (.iload 6, 2) := by decide +kernel
theorem dX0_fits_57 : decode cX0_fits 57 = .ok (.iconst 5, 1) := by decide +kernel
theorem dX0_fits_58 : decode cX0_fits 58 = .ok (.if_icmp .ge 88, 3) := by decide +kernel
theorem dX0_fits_61 : decode cX0_fits 61 = .ok (.aload_n 0, 1) := by decide +kernel
theorem dX0_fits_62 : decode cX0_fits 62 = .ok (.getfield 9, 3) := by decide +kernel
theorem dX0_fits_65 : decode cX0_fits 65 = .ok (.iload 6, 2) := by decide +kernel
theorem dX0_fits_67 : decode cX0_fits 67 = .ok (.invokestatic 31, 3) := by decide +kernel
theorem dX0_fits_70 : decode cX0_fits 70 = .ok (.istore 7, 2) := by decide +kernel
theorem dX0_fits_72 : decode cX0_fits 72 = .ok (.iload 5, 2) := by decide +kernel
theorem dX0_fits_74 : decode cX0_fits 74 = .ok (.iload 6, 2) := by decide +kernel
theorem dX0_fits_76 : decode cX0_fits 76 = .ok (.invokestatic 52, 3) := by decide +kernel
theorem dX0_fits_79 : decode cX0_fits 79 = .ok (.ifCond .eq 61, 3) := by decide +kernel
theorem dX0_fits_82 : decode cX0_fits 82 = .ok (.iload 7, 2) := by decide +kernel
theorem dX0_fits_84 : decode cX0_fits 84 = .ok (.iload 4, 2) := by decide +kernel
theorem dX0_fits_86 : decode cX0_fits 86 = .ok (.iadd, 1) := by decide +kernel
theorem dX0_fits_87 : decode cX0_fits 87 = .ok (.iload_n 2, 1) := by decide +kernel
theorem dX0_fits_88 : decode cX0_fits 88 = .ok (.if_icmp .gt 52, 3) := by decide +kernel
theorem dX0_fits_91 : decode cX0_fits 91 = .ok (.aload_n 0, 1) := by decide +kernel
theorem dX0_fits_92 : decode cX0_fits 92 = .ok (.getfield 9, 3) := by decide +kernel
theorem dX0_fits_95 : decode cX0_fits 95 = .ok (.iload 6, 2) := by decide +kernel
theorem dX0_fits_97 : decode cX0_fits 97 = .ok (.iload 7, 2) := by decide +kernel
theorem dX0_fits_99 : decode cX0_fits 99 = .ok (.iload 4, 2) := by decide +kernel
theorem dX0_fits_101 : decode cX0_fits 101 = .ok (.iadd, 1) := by decide +kernel
theorem dX0_fits_102 : decode cX0_fits 102 = .ok (.invokestatic 56, 3) := by decide +kernel
theorem dX0_fits_105 : decode cX0_fits 105 = .ok (.aload_n 0, 1) := by decide +kernel
theorem dX0_fits_106 : decode cX0_fits 106 = .ok (.getfield 15, 3) := by decide +kernel
theorem dX0_fits_109 : decode cX0_fits 109 = .ok (.iload_n 3, 1) := by decide +kernel
theorem dX0_fits_110 : decode cX0_fits 110 = .ok (.iload 6, 2) := by decide +kernel
theorem dX0_fits_112 : decode cX0_fits 112 = .ok (.invokestatic 56, 3) := by decide +kernel
theorem dX0_fits_115 : decode cX0_fits 115 = .ok (.aload_n 0, 1) := by decide +kernel
theorem dX0_fits_116 : decode cX0_fits 116 = .ok (.iload_n 1, 1) := by decide +kernel
theorem dX0_fits_117 : decode cX0_fits 117 = .ok (.iload_n 2, 1) := by decide +kernel
theorem dX0_fits_118 : decode cX0_fits 118 = .ok (.iload_n 3, 1) := by decide +kernel
theorem dX0_fits_119 : decode cX0_fits 119 = .ok (.iconst 1, 1) := by decide +kernel
theorem dX0_fits_120 : decode cX0_fits 120 = .ok (.iadd, 1) := by decide +kernel
theorem dX0_fits_121 : decode cX0_fits 121 = .ok (.invokestatic 44, 3) := by decide +kernel
theorem dX0_fits_124 : decode cX0_fits 124 = .ok (.ifCond .eq 5, 3) := by decide +kernel
theorem dX0_fits_127 : decode cX0_fits 127 = .ok (.iconst 1, 1) := by decide +kernel
theorem dX0_fits_128 : decode cX0_fits 128 = .ok (.ireturn, 1) := by decide +kernel
theorem dX0_fits_129 : decode cX0_fits 129 = .ok (.aload_n 0, 1) := by decide +kernel
theorem dX0_fits_130 : decode cX0_fits 130 = .ok (.getfield 9, 3) := by decide +kernel
theorem dX0_fits_133 : decode cX0_fits 133 = .ok (.iload 6, 2) := by decide +kernel
theorem dX0_fits_135 : decode cX0_fits 135 = .ok (.iload 7, 2) := by decide +kernel
theorem dX0_fits_137 : decode cX0_fits 137 = .ok (.invokestatic 56, 3) := by decide +kernel
theorem dX0_fits_140 : decode cX0_fits 140 = .ok (.iinc 6 1, 3) := by decide +kernel
theorem dX0_fits_143 : decode cX0_fits 143 = .ok (.goto (-88), 3) := by decide +kernel
theorem dX0_fits_146 : decode cX0_fits 146 = .ok (.aload_n 0, 1) := by decide +kernel
theorem dX0_fits_147 : decode cX0_fits 147 = .ok (.getfield 15, 3) := by decide +kernel
theorem dX0_fits_150 : decode cX0_fits 150 = .ok (.iload_n 3, 1) := by decide +kernel
theorem dX0_fits_151 : decode cX0_fits 151 = .ok (.bipush (-6), 2) := by decide +kernel
theorem dX0_fits_153 : decode cX0_fits 153 = .ok (.invokestatic 56, 3) := by decide +kernel
theorem dX0_fits_156 : decode cX0_fits 156 = .ok (.iconst 0, 1) := by decide +kernel
theorem dX0_fits_157 : decode cX0_fits 157 = .ok (.ireturn, 1) := by decide +kernel
