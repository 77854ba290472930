theorem dX8_init_0 : decode cX8_init 0 = .ok (.aload_n 0, 1) := by decide +kernel
theorem dX8_init_1 : decode cX8_init 1 = .ok (.invokespecial 1, 3) := by decide +kernel
theorem dX8_init_4 : decode cX8_init 4 = .ok (.aload_n 0, 1) := by decide +kernel
theorem dX8_init_5 : decode cX8_init 5 = .ok (.bipush 6, 2) := by decide +kernel
theorem dX8_init_7 : decode cX8_init 7 = .ok (.newarray .int, 2) := by decide +kernel
theorem dX8_init_9 : decode cX8_init 9 = .ok (.putfield 7, 3) := by decide +kernel
theorem dX8_init_12 : decode cX8_init 12 = .ok (.aload_n 0, 1) := by decide +kernel
theorem dX8_init_13 : decode cX8_init 13 = .ok (.bipush 6, 2) := by decide +kernel
theorem dX8_init_15 : decode cX8_init 15 = .ok (.newarray .int, 2) := by decide +kernel
theorem dX8_init_17 : decode cX8_init 17 = .ok (.putfield 13, 3) := by decide +kernel
theorem dX8_init_20 : decode cX8_init 20 = .ok (.aload_n 0, 1) := by decide +kernel
theorem dX8_init_21 : decode cX8_init 21 = .ok (.iconst 5, 1) := by decide +kernel
theorem dX8_init_22 : decode cX8_init 22 = .ok (.newarray .int, 2) := by decide +kernel
theorem dX8_init_24 : decode cX8_init 24 = .ok (.putfield 16, 3) := by decide +kernel
theorem dX8_init_27 : decode cX8_init 27 = .ok (.aload_n 0, 1) := by decide +kernel
theorem dX8_init_28 : decode cX8_init 28 = .ok (.bipush 30, 2) := by decide +kernel
theorem dX8_init_30 : decode cX8_init 30 = .ok (.newarray .int, 2) := by decide +kernel
theorem dX8_init_32 : decode cX8_init 32 = .ok (.putfield 19, 3) := by decide +kernel
theorem dX8_init_35 : decode cX8_init 35 = .ok (.aload_n 0, 1) := by decide +kernel
theorem dX8_init_36 : decode cX8_init 36 = .ok (.iconst 5, 1) := by decide +kernel
theorem dX8_init_37 : decode cX8_init 37 = .ok (.newarray .int, 2) := by decide +kernel
theorem dX8_init_39 : decode cX8_init 39 = .ok (.putfield 22, 3) := by decide +kernel
theorem dX8_init_42 : decode cX8_init 42 = .ok (.aload_n 0, 1) := by decide +kernel
theorem dX8_init_43 : decode cX8_init 43 = .ok (.bipush 48, 2) := by decide +kernel
theorem dX8_init_45 : decode cX8_init 45 = .ok (.newarray .int, 2) := by decide +kernel
theorem dX8_init_47 : decode cX8_init 47 = .ok (.putfield 25, 3) := by decide +kernel
theorem dX8_init_50 : decode cX8_init 50 = .ok (.aload_n 0, 1) := by decide +kernel
theorem dX8_init_51 : decode cX8_init 51 = .ok (.bipush 6, 2) := by decide +kernel
theorem dX8_init_53 : decode cX8_init 53 = .ok (.newarray .int, 2) := by decide +kernel
theorem dX8_init_55 : decode cX8_init 55 = .ok (.putfield 28, 3) := by decide +kernel
theorem dX8_init_58 : decode cX8_init 58 = .ok (.aload_n 0, 1) := by decide +kernel
theorem dX8_init_59 : decode cX8_init 59 = .ok (.iconst 5, 1) := by decide +kernel
theorem dX8_init_60 : decode cX8_init 60 = .ok (.newarray .int, 2) := by decide +kernel
theorem dX8_init_62 : decode cX8_init 62 = .ok (.putfield 31, 3) := by decide +kernel
theorem dX8_init_65 : decode cX8_init 65 = .ok (.aload_n 0, 1) := by decide +kernel
theorem dX8_init_66 : decode cX8_init 66 = .ok (.iconst 5, 1) := by decide +kernel
theorem dX8_init_67 : decode cX8_init 67 = .ok (.newarray .int, 2) := by decide +kernel
theorem dX8_init_69 : decode cX8_init 69 = .ok (.putfield 34, 3) := by decide +kernel
theorem dX8_init_72 : decode cX8_init 72 = .ok (.aload_n 0, 1) := by decide +kernel
theorem dX8_init_73 : decode cX8_init 73 = .ok (.iconst 5, 1) := by decide +kernel
theorem dX8_init_74 : decode cX8_init 74 = .ok (.newarray .boolean, 2) := by decide +kernel
theorem dX8_init_76 : decode cX8_init 76 = .ok (.putfield 37, 3) := by decide +kernel
theorem dX8_init_79 : decode cX8_init 79 = .ok (.aload_n 0, 1) := by decide +kernel
theorem dX8_init_80 : decode cX8_init 80 = .ok (.bipush 6, 2) := by decide +kernel
theorem dX8_init_82 : decode cX8_init 82 = .ok (.newarray .boolean, 2) := by decide +kernel
theorem dX8_init_84 : decode cX8_init 84 = .ok (.putfield 41, 3) := by decide +kernel
theorem dX8_init_87 : decode cX8_init 87 = .ok (.aload_n 0, 1) := by decide +kernel
theorem dX8_init_88 : decode cX8_init 88 = .ok (.iconst 5, 1) := by decide +kernel
theorem dX8_init_89 : decode cX8_init 89 = .ok (.newarray .int, 2) := by decide +kernel
theorem dX8_init_91 : decode cX8_init 91 = .ok (.putfield 44, 3) := by decide +kernel
theorem dX8_init_94 : decode cX8_init 94 = .ok (.aload_n 0, 1) := by decide +kernel
theorem dX8_init_95 : decode cX8_init 95 = .ok (.iconst 5, 1) := by decide +kernel
theorem dX8_init_96 : decode cX8_init 96 = .ok (.newarray .int, 2) := by decide +kernel
theorem dX8_init_98 : decode cX8_init 98 = .ok (.putfield 47, 3) := by decide +kernel
theorem dX8_init_101 : decode cX8_init 101 = .ok (.aload_n 0, 1) := by decide +kernel
theorem dX8_init_102 : decode cX8_init 102 = .ok (.bipush 6, 2) := by decide +kernel
theorem dX8_init_104 : decode cX8_init 104 = .ok (.newarray .int, 2) := by decide +kernel
theorem dX8_init_106 : decode cX8_init 106 = .ok (.putfield 50, 3) := by decide +kernel
theorem dX8_init_109 : decode cX8_init 109 = .ok (.aload_n 0, 1) := by decide +kernel
theorem dX8_init_110 : decode cX8_init 110 = .ok (.bipush 6, 2) := by decide +kernel
theorem dX8_init_112 : decode cX8_init 112 = .ok (.newarray .int, 2) := by decide +kernel
theorem dX8_init_114 : decode cX8_init 114 = .ok (.putfield 53, 3) := by decide +kernel
theorem dX8_init_117 : decode cX8_init 117 = .ok (.aload_n 0, 1) := by decide +kernel
theorem dX8_init_118 : decode cX8_init 118 = .ok (.iconst 5, 1) := by decide +kernel
theorem dX8_init_119 : decode cX8_init 119 = .ok (.newarray .int, 2) := by decide +kernel
theorem dX8_init_121 : decode cX8_init 121 = .ok (.putfield 56, 3) := by decide +kernel
theorem dX8_init_124 : decode cX8_init 124 = .ok (.aload_n 0, 1) := by decide +kernel
theorem dX8_init_125 : decode cX8_init 125 = .ok (.bipush 6, 2) := by decide +kernel
theorem dX8_init_127 : decode cX8_init 127 = .ok (.newarray .int, 2) := by decide +kernel
theorem dX8_init_129 : decode cX8_init 129 = .ok (.putfield 59, 3) := by decide +kernel
theorem dX8_init_132 : decode cX8_init 132 = .ok (.aload_n 0, 1) := by decide +kernel
theorem dX8_init_133 : decode cX8_init 133 = .ok (.iconst 5, 1) := by decide +kernel
theorem dX8_init_134 : decode cX8_init 134 = .ok (.newarray .int, 2) := by decide +kernel
theorem dX8_init_136 : decode cX8_init 136 = .ok (.putfield 62, 3) := by decide +kernel
theorem dX8_init_139 : decode cX8_init 139 = .ok (.aload_n 0, 1) := by decide +kernel
theorem dX8_init_140 : decode cX8_init 140 = .ok (.bipush 104, 2) := by decide +kernel
theorem dX8_init_142 : decode cX8_init 142 = .ok (.newarray .int, 2) := by decide +kernel
theorem dX8_init_144 : decode cX8_init 144 = .ok (.putfield 65, 3) := by decide +kernel
theorem dX8_init_147 : decode cX8_init 147 = .ok (.aload_n 0, 1) := by decide +kernel
theorem dX8_init_148 : decode cX8_init 148 = .ok (.iconst 2, 1) := by decide +kernel
theorem dX8_init_149 : decode cX8_init 149 = .ok (.newarray .boolean, 2) := by decide +kernel
theorem dX8_init_151 : decode cX8_init 151 = .ok (.putfield 68, 3) := by decide +kernel
theorem dX8_init_154 : decode cX8_init 154 = .ok (.iconst 0, 1) := by decide +kernel
theorem dX8_init_155 : decode cX8_init 155 = .ok (.istore_n 1, 1) := by decide +kernel
theorem dX8_init_156 : decode cX8_init 156 = .ok (.iload_n 1, 1) := by decide +kernel
theorem dX8_init_157 : decode cX8_init 157 = .ok (.bipush 6, 2) := by decide +kernel
theorem dX8_init_159 : decode cX8_init 159 = .ok (.if_icmp .ge 17, 3) := by decide +kernel
theorem dX8_init_162 : decode cX8_init 162 = .ok (.aload_n 0, 1) := by decide +kernel
theorem dX8_init_163 : decode cX8_init 163 = .ok (.getfield 7, 3) := by decide +kernel
theorem dX8_init_166 : decode cX8_init 166 = .ok (.iload_n 1, 1) := by decide +kernel
theorem dX8_init_167 : decode cX8_init 167 = .ok (.bipush 31, 2) := by decide +kernel
theorem dX8_init_169 : decode cX8_init 169 = .ok (.iastore, 1) := by decide +kernel
theorem dX8_init_170 : decode cX8_init 170 = .ok (.iinc 1 1, 3) := by decide +kernel
theorem dX8_init_173 : decode cX8_init 173 = .ok (.goto (-17), 3) := by decide +kernel
theorem dX8_init_176 : decode cX8_init 176 = .ok (.iconst 0, 1) := by decide +kernel
theorem dX8_init_177 : decode cX8_init 177 = .ok (.istore_n 1, 1) := by decide +kernel
theorem dX8_init_178 : decode cX8_init 178 = .ok (.iload_n 1, 1) := by decide +kernel
theorem dX8_init_179 : decode cX8_init 179 = .ok (.iconst 5, 1) := by decide +kernel
theorem dX8_init_180 : decode cX8_init 180 = .ok (.if_icmp .ge 25, 3) := by decide +kernel
theorem dX8_init_183 : decode cX8_init 183 = .ok (.aload_n 0, 1) := by decide +kernel
theorem dX8_init_184 : decode cX8_init 184 = .ok (.getfield 16, 3) := by decide +kernel
theorem dX8_init_187 : decode cX8_init 187 = .ok (.iload_n 1, 1) := by decide +kernel
theorem dX8_init_188 : decode cX8_init 188 = .ok (.iconst 5, 1) := by decide +kernel
theorem dX8_init_189 : decode cX8_init 189 = .ok (.iastore, 1) := by decide +kernel
theorem dX8_init_190 : decode cX8_init 190 = .ok (.aload_n 0, 1) := by decide +kernel
theorem dX8_init_191 : decode cX8_init 191 = .ok (.getfield 22, 3) := by decide +kernel
theorem dX8_init_194 : decode cX8_init 194 = .ok (.iload_n 1, 1) := by decide +kernel
theorem dX8_init_195 : decode cX8_init 195 = .ok (.sipush 12345, 3) := by decide +kernel
theorem dX8_init_198 : decode cX8_init 198 = .ok (.iastore, 1) := by decide +kernel
theorem dX8_init_199 : decode cX8_init 199 = .ok (.iinc 1 1, 3) := by decide +kernel
theorem dX8_init_202 : decode cX8_init 202 = .ok (.goto (-24), 3) := by decide +kernel
theorem dX8_init_205 : decode cX8_init 205 = .ok (.iconst 0, 1) := by decide +kernel
theorem dX8_init_206 : decode cX8_init 206 = .ok (.istore_n 1, 1) := by decide +kernel
theorem dX8_init_207 : decode cX8_init 207 = .ok (.iload_n 1, 1) := by decide +kernel
theorem dX8_init_208 : decode cX8_init 208 = .ok (.bipush 30, 2) := by decide +kernel
theorem dX8_init_210 : decode cX8_init 210 = .ok (.if_icmp .ge 17, 3) := by decide +kernel
theorem dX8_init_213 : decode cX8_init 213 = .ok (.aload_n 0, 1) := by decide +kernel
theorem dX8_init_214 : decode cX8_init 214 = .ok (.getfield 19, 3) := by decide +kernel
theorem dX8_init_217 : decode cX8_init 217 = .ok (.iload_n 1, 1) := by decide +kernel
theorem dX8_init_218 : decode cX8_init 218 = .ok (.bipush 10, 2) := by decide +kernel
theorem dX8_init_220 : decode cX8_init 220 = .ok (.iastore, 1) := by decide +kernel
theorem dX8_init_221 : decode cX8_init 221 = .ok (.iinc 1 1, 3) := by decide +kernel
theorem dX8_init_224 : decode cX8_init 224 = .ok (.goto (-17), 3) := by decide +kernel
theorem dX8_init_227 : decode cX8_init 227 = .ok (.return_, 1) := by decide +kernel
theorem dX8_in_0 : decode cX8_in 0 = .ok (.iload_n 0, 1) := by decide +kernel
theorem dX8_in_1 : decode cX8_in 1 = .ok (.iload_n 1, 1) := by decide +kernel
theorem dX8_in_2 : decode cX8_in 2 = .ok (.if_icmp .lt 12, 3) := by decide +kernel
theorem dX8_in_5 : decode cX8_in 5 = .ok (.iload_n 0, 1) := by decide +kernel
theorem dX8_in_6 : decode cX8_in 6 = .ok (.iload_n 2, 1) := by decide +kernel
theorem dX8_in_7 : decode cX8_in 7 = .ok (.if_icmp .gt 7, 3) := by decide +kernel
theorem dX8_in_10 : decode cX8_in 10 = .ok (.iconst 1, 1) := by decide +kernel
theorem dX8_in_11 : decode cX8_in 11 = .ok (.goto 4, 3) := by decide +kernel
theorem dX8_in_14 : decode cX8_in 14 = .ok (.iconst 0, 1) := by decide +kernel
theorem dX8_in_15 : decode cX8_in 15 = .ok (.ireturn, 1) := by decide +kernel
theorem dX8_has_0 : decode cX8_has 0 = .ok (.iload_n 0, 1) := by decide +kernel
theorem dX8_has_1 : decode cX8_has 1 = .ok (.iload_n 1, 1) := by decide +kernel
theorem dX8_has_2 : decode cX8_has 2 = .ok (.ishr, 1) := by decide +kernel
theorem dX8_has_3 : decode cX8_has 3 = .ok (.iconst 1, 1) := by decide +kernel
theorem dX8_has_4 : decode cX8_has 4 = .ok (.iand, 1) := by decide +kernel
theorem dX8_has_5 : decode cX8_has 5 = .ok (.iconst 1, 1) := by decide +kernel
theorem dX8_has_6 : decode cX8_has 6 = .ok (.if_icmp .ne 7, 3) := by decide +kernel
theorem dX8_has_9 : decode cX8_has 9 = .ok (.iconst 1, 1) := by decide +kernel
theorem dX8_has_10 : decode cX8_has 10 = .ok (.goto 4, 3) := by decide +kernel
theorem dX8_has_13 : decode cX8_has 13 = .ok (.iconst 0, 1) := by decide +kernel
theorem dX8_has_14 : decode cX8_has 14 = .ok (.ireturn, 1) := by decide +kernel
set_option maxRecDepth 20000 in
theorem ggX8_isHull_X8_in : GoodIn wsX8_isHull wsX8_in := goodIn_r _ [4] (by decide +kernel) (by decide +kernel)
set_option maxRecDepth 20000 in
theorem gX8_isHull_X8_in : GoodIn wsX8_isHull (va_wsS RX8 71 yX8_in wsX8_in) := goodIn_app (goodIn_of _ (by decide +kernel)) ggX8_isHull_X8_in
theorem dX8_isHull_0 : decode cX8_isHull 0 = .ok (.iload_n 0, 1) := by decide +kernel
theorem dX8_isHull_1 : decode cX8_isHull 1 = .ok (.iconst 0, 1) := by decide +kernel
theorem dX8_isHull_2 : decode cX8_isHull 2 = .ok (.iconst 5, 1) := by decide +kernel
theorem dX8_isHull_3 : decode cX8_isHull 3 = .ok (.invokestatic 71, 3) := by decide +kernel
theorem dX8_isHull_6 : decode cX8_isHull 6 = .ok (.ireturn, 1) := by decide +kernel
set_option maxRecDepth 20000 in
theorem ggX8_isName_X8_in : GoodIn wsX8_isName wsX8_in := goodIn_r _ [4] (by decide +kernel) (by decide +kernel)
set_option maxRecDepth 20000 in
theorem gX8_isName_X8_in : GoodIn wsX8_isName (va_wsS RX8 71 yX8_in wsX8_in) := goodIn_app (goodIn_of _ (by decide +kernel)) ggX8_isName_X8_in
theorem dX8_isName_0 : decode cX8_isName 0 = .ok (.iload_n 0, 1) := by decide +kernel
theorem dX8_isName_1 : decode cX8_isName 1 = .ok (.iconst 0, 1) := by decide +kernel
theorem dX8_isName_2 : decode cX8_isName 2 = .ok (.iconst 4, 1) := by decide +kernel
theorem dX8_isName_3 : decode cX8_isName 3 = .ok (.invokestatic 71, 3) := by decide +kernel
theorem dX8_isName_6 : decode cX8_isName 6 = .ok (.ireturn, 1) := by decide +kernel
set_option maxRecDepth 20000 in
theorem ggX8_hull_X8_isHull : GoodIn wsX8_hull wsX8_isHull := goodIn_r _ [6, 7, 8, 5, 9] (by decide +kernel) (by decide +kernel)
set_option maxRecDepth 20000 in
theorem gX8_hull_X8_isHull : GoodIn wsX8_hull (va_wsS RX8 75 yX8_isHull wsX8_isHull) := goodIn_app (goodIn_of _ (by decide +kernel)) ggX8_hull_X8_isHull
set_option maxRecDepth 20000 in
theorem ggX8_hull_X8_in : GoodIn wsX8_hull wsX8_in := goodIn_r _ [9] (by decide +kernel) (by decide +kernel)
set_option maxRecDepth 20000 in
theorem gX8_hull_X8_in : GoodIn wsX8_hull (va_wsS RX8 71 yX8_in wsX8_in) := goodIn_app (goodIn_of _ (by decide +kernel)) ggX8_hull_X8_in
theorem dX8_hull_0 : decode cX8_hull 0 = .ok (.iload_n 1, 1) := by decide +kernel
theorem dX8_hull_1 : decode cX8_hull 1 = .ok (.invokestatic 75, 3) := by decide +kernel
theorem dX8_hull_4 : decode cX8_hull 4 = .ok (.ifCond .ne 5, 3) := by decide +kernel
theorem dX8_hull_7 : decode cX8_hull 7 = .ok (.iconst (-1), 1) := by decide +kernel
theorem dX8_hull_8 : decode cX8_hull 8 = .ok (.ireturn, 1) := by decide +kernel
theorem dX8_hull_9 : decode cX8_hull 9 = .ok (.iload_n 2, 1) := by decide +kernel
theorem dX8_hull_10 : decode cX8_hull 10 = .ok (.iconst 0, 1) := by decide +kernel
theorem dX8_hull_11 : decode cX8_hull 11 = .ok (.iconst 1, 1) := by decide +kernel
theorem dX8_hull_12 : decode cX8_hull 12 = .ok (.invokestatic 71, 3) := by decide +kernel
theorem dX8_hull_15 : decode cX8_hull 15 = .ok (.ifCond .eq 22, 3) := by decide +kernel
theorem dX8_hull_18 : decode cX8_hull 18 = .ok (.iload_n 3, 1) := by decide +kernel
theorem dX8_hull_19 : decode cX8_hull 19 = .ok (.iconst 0, 1) := by decide +kernel
theorem dX8_hull_20 : decode cX8_hull 20 = .ok (.iload_n 2, 1) := by decide +kernel
theorem dX8_hull_21 : decode cX8_hull 21 = .ok (.ifCond .ne 8, 3) := by decide +kernel
theorem dX8_hull_24 : decode cX8_hull 24 = .ok (.bipush 31, 2) := by decide +kernel
theorem dX8_hull_26 : decode cX8_hull 26 = .ok (.goto 5, 3) := by decide +kernel
theorem dX8_hull_29 : decode cX8_hull 29 = .ok (.bipush 9, 2) := by decide +kernel
theorem dX8_hull_31 : decode cX8_hull 31 = .ok (.invokestatic 71, 3) := by decide +kernel
theorem dX8_hull_34 : decode cX8_hull 34 = .ok (.ifCond .ne 6, 3) := by decide +kernel
theorem dX8_hull_37 : decode cX8_hull 37 = .ok (.bipush (-2), 2) := by decide +kernel
theorem dX8_hull_39 : decode cX8_hull 39 = .ok (.ireturn, 1) := by decide +kernel
theorem dX8_hull_40 : decode cX8_hull 40 = .ok (.iload_n 2, 1) := by decide +kernel
theorem dX8_hull_41 : decode cX8_hull 41 = .ok (.ifCond .ne 12, 3) := by decide +kernel
theorem dX8_hull_44 : decode cX8_hull 44 = .ok (.aload_n 0, 1) := by decide +kernel
theorem dX8_hull_45 : decode cX8_hull 45 = .ok (.getfield 7, 3) := by decide +kernel
theorem dX8_hull_48 : decode cX8_hull 48 = .ok (.iload_n 1, 1) := by decide +kernel
theorem dX8_hull_49 : decode cX8_hull 49 = .ok (.iaload, 1) := by decide +kernel
theorem dX8_hull_50 : decode cX8_hull 50 = .ok (.goto 9, 3) := by decide +kernel
theorem dX8_hull_53 : decode cX8_hull 53 = .ok (.aload_n 0, 1) := by decide +kernel
theorem dX8_hull_54 : decode cX8_hull 54 = .ok (.getfield 13, 3) := by decide +kernel
theorem dX8_hull_57 : decode cX8_hull 57 = .ok (.iload_n 1, 1) := by decide +kernel
theorem dX8_hull_58 : decode cX8_hull 58 = .ok (.iaload, 1) := by decide +kernel
theorem dX8_hull_59 : decode cX8_hull 59 = .ok (.istore 4, 2) := by decide +kernel
theorem dX8_hull_61 : decode cX8_hull 61 = .ok (.iload_n 2, 1) := by decide +kernel
theorem dX8_hull_62 : decode cX8_hull 62 = .ok (.ifCond .ne 13, 3) := by decide +kernel
theorem dX8_hull_65 : decode cX8_hull 65 = .ok (.aload_n 0, 1) := by decide +kernel
theorem dX8_hull_66 : decode cX8_hull 66 = .ok (.getfield 7, 3) := by decide +kernel
theorem dX8_hull_69 : decode cX8_hull 69 = .ok (.iload_n 1, 1) := by decide +kernel
theorem dX8_hull_70 : decode cX8_hull 70 = .ok (.iload_n 3, 1) := by decide +kernel
theorem dX8_hull_71 : decode cX8_hull 71 = .ok (.iastore, 1) := by decide +kernel
theorem dX8_hull_72 : decode cX8_hull 72 = .ok (.goto 10, 3) := by decide +kernel
theorem dX8_hull_75 : decode cX8_hull 75 = .ok (.aload_n 0, 1) := by decide +kernel
theorem dX8_hull_76 : decode cX8_hull 76 = .ok (.getfield 13, 3) := by decide +kernel
theorem dX8_hull_79 : decode cX8_hull 79 = .ok (.iload_n 1, 1) := by decide +kernel
theorem dX8_hull_80 : decode cX8_hull 80 = .ok (.iload_n 3, 1) := by decide +kernel
theorem dX8_hull_81 : decode cX8_hull 81 = .ok (.iastore, 1) := by decide +kernel
theorem dX8_hull_82 : decode cX8_hull 82 = .ok (.iload 4, 2) := by decide +kernel
theorem dX8_hull_84 : decode cX8_hull 84 = .ok (.ireturn, 1) := by decide +kernel
set_option maxRecDepth 20000 in
theorem ggX8_luck_X8_isName : GoodIn wsX8_luck wsX8_isName := goodIn_r _ [5, 6, 7, 4, 8] (by decide +kernel) (by decide +kernel)
set_option maxRecDepth 20000 in
theorem gX8_luck_X8_isName : GoodIn wsX8_luck (va_wsS RX8 79 yX8_isName wsX8_isName) := goodIn_app (goodIn_of _ (by decide +kernel)) ggX8_luck_X8_isName
set_option maxRecDepth 20000 in
theorem ggX8_luck_X8_in : GoodIn wsX8_luck wsX8_in := goodIn_r _ [8] (by decide +kernel) (by decide +kernel)
set_option maxRecDepth 20000 in
theorem gX8_luck_X8_in : GoodIn wsX8_luck (va_wsS RX8 71 yX8_in wsX8_in) := goodIn_app (goodIn_of _ (by decide +kernel)) ggX8_luck_X8_in
theorem dX8_luck_0 : decode cX8_luck 0 = .ok (.iload_n 1, 1) := by decide +kernel
theorem dX8_luck_1 : decode cX8_luck 1 = .ok (.invokestatic 79, 3) := by decide +kernel
theorem dX8_luck_4 : decode cX8_luck 4 = .ok (.ifCond .ne 5, 3) := by decide +kernel
theorem dX8_luck_7 : decode cX8_luck 7 = .ok (.iconst (-1), 1) := by decide +kernel
theorem dX8_luck_8 : decode cX8_luck 8 = .ok (.ireturn, 1) := by decide +kernel
theorem dX8_luck_9 : decode cX8_luck 9 = .ok (.iload_n 2, 1) := by decide +kernel
theorem dX8_luck_10 : decode cX8_luck 10 = .ok (.iconst 0, 1) := by decide +kernel
theorem dX8_luck_11 : decode cX8_luck 11 = .ok (.bipush 10, 2) := by decide +kernel
theorem dX8_luck_13 : decode cX8_luck 13 = .ok (.invokestatic 71, 3) := by decide +kernel
theorem dX8_luck_16 : decode cX8_luck 16 = .ok (.ifCond .ne 6, 3) := by decide +kernel
theorem dX8_luck_19 : decode cX8_luck 19 = .ok (.bipush (-2), 2) := by decide +kernel
theorem dX8_luck_21 : decode cX8_luck 21 = .ok (.ireturn, 1) := by decide +kernel
theorem dX8_luck_22 : decode cX8_luck 22 = .ok (.aload_n 0, 1) := by decide +kernel
theorem dX8_luck_23 : decode cX8_luck 23 = .ok (.getfield 16, 3) := by decide +kernel
theorem dX8_luck_26 : decode cX8_luck 26 = .ok (.iload_n 1, 1) := by decide +kernel
theorem dX8_luck_27 : decode cX8_luck 27 = .ok (.iaload, 1) := by decide +kernel
theorem dX8_luck_28 : decode cX8_luck 28 = .ok (.istore_n 3, 1) := by decide +kernel
theorem dX8_luck_29 : decode cX8_luck 29 = .ok (.aload_n 0, 1) := by decide +kernel
theorem dX8_luck_30 : decode cX8_luck 30 = .ok (.getfield 16, 3) := by decide +kernel
theorem dX8_luck_33 : decode cX8_luck 33 = .ok (.iload_n 1, 1) := by decide +kernel
theorem dX8_luck_34 : decode cX8_luck 34 = .ok (.iload_n 2, 1) := by decide +kernel
theorem dX8_luck_35 : decode cX8_luck 35 = .ok (.iastore, 1) := by decide +kernel
theorem dX8_luck_36 : decode cX8_luck 36 = .ok (.iload_n 3, 1) := by decide +kernel
theorem dX8_luck_37 : decode cX8_luck 37 = .ok (.ireturn, 1) := by decide +kernel
set_option maxRecDepth 20000 in
theorem ggX8_worth_X8_isHull : GoodIn wsX8_worth wsX8_isHull := goodIn_r _ [5, 6, 7, 4, 8] (by decide +kernel) (by decide +kernel)
set_option maxRecDepth 20000 in
theorem gX8_worth_X8_isHull : GoodIn wsX8_worth (va_wsS RX8 75 yX8_isHull wsX8_isHull) := goodIn_app (goodIn_of _ (by decide +kernel)) ggX8_worth_X8_isHull
set_option maxRecDepth 20000 in
theorem ggX8_worth_X8_isName : GoodIn wsX8_worth wsX8_isName := goodIn_r _ [11, 6, 7, 4, 8] (by decide +kernel) (by decide +kernel)
set_option maxRecDepth 20000 in
theorem gX8_worth_X8_isName : GoodIn wsX8_worth (va_wsS RX8 79 yX8_isName wsX8_isName) := goodIn_app (goodIn_of _ (by decide +kernel)) ggX8_worth_X8_isName
set_option maxRecDepth 20000 in
theorem ggX8_worth_X8_in : GoodIn wsX8_worth wsX8_in := goodIn_r _ [8] (by decide +kernel) (by decide +kernel)
set_option maxRecDepth 20000 in
theorem gX8_worth_X8_in : GoodIn wsX8_worth (va_wsS RX8 71 yX8_in wsX8_in) := goodIn_app (goodIn_of _ (by decide +kernel)) ggX8_worth_X8_in
theorem dX8_worth_0 : decode cX8_worth 0 = .ok (.iload_n 1, 1) := by decide +kernel
theorem dX8_worth_1 : decode cX8_worth 1 = .ok (.invokestatic 75, 3) := by decide +kernel
theorem dX8_worth_4 : decode cX8_worth 4 = .ok (.ifCond .eq 10, 3) := by decide +kernel
theorem dX8_worth_7 : decode cX8_worth 7 = .ok (.iload_n 2, 1) := by decide +kernel
theorem dX8_worth_8 : decode cX8_worth 8 = .ok (.invokestatic 79, 3) := by decide +kernel
theorem dX8_worth_11 : decode cX8_worth 11 = .ok (.ifCond .ne 5, 3) := by decide +kernel
theorem dX8_worth_14 : decode cX8_worth 14 = .ok (.iconst (-1), 1) := by decide +kernel
theorem dX8_worth_15 : decode cX8_worth 15 = .ok (.ireturn, 1) := by decide +kernel
theorem dX8_worth_16 : decode cX8_worth 16 = .ok (.iload_n 3, 1) := by decide +kernel
theorem dX8_worth_17 : decode cX8_worth 17 = .ok (.iconst 0, 1) := by decide +kernel
theorem dX8_worth_18 : decode cX8_worth 18 = .ok (.bipush 99, 2) := by decide +kernel
theorem dX8_worth_20 : decode cX8_worth 20 = .ok (.invokestatic 71, 3) := by decide +kernel
theorem dX8_worth_23 : decode cX8_worth 23 = .ok (.ifCond .ne 6, 3) := by decide +kernel
theorem dX8_worth_26 : decode cX8_worth 26 = .ok (.bipush (-2), 2) := by decide +kernel
theorem dX8_worth_28 : decode cX8_worth 28 = .ok (.ireturn, 1) := by decide +kernel
theorem dX8_worth_29 : decode cX8_worth 29 = .ok (.aload_n 0, 1) := by decide +kernel
theorem dX8_worth_30 : decode cX8_worth 30 = .ok (.getfield 19, 3) := by decide +kernel
theorem dX8_worth_33 : decode cX8_worth 33 = .ok (.iconst 5, 1) := by decide +kernel
theorem dX8_worth_34 : decode cX8_worth 34 = .ok (.iload_n 1, 1) := by decide +kernel
theorem dX8_worth_35 : decode cX8_worth 35 = .ok (.imul, 1) := by decide +kernel
theorem dX8_worth_36 : decode cX8_worth 36 = .ok (.iload_n 2, 1) := by decide +kernel
theorem dX8_worth_37 : decode cX8_worth 37 = .ok (.iadd, 1) := by decide +kernel
theorem dX8_worth_38 : decode cX8_worth 38 = .ok (.iaload, 1) := by decide +kernel
theorem dX8_worth_39 : decode cX8_worth 39 = .ok (.istore 4, 2) := by decide +kernel
theorem dX8_worth_41 : decode cX8_worth 41 = .ok (.aload_n 0, 1) := by decide +kernel
theorem dX8_worth_42 : decode cX8_worth 42 = .ok (.getfield 19, 3) := by decide +kernel
theorem dX8_worth_45 : decode cX8_worth 45 = .ok (.iconst 5, 1) := by decide +kernel
theorem dX8_worth_46 : decode cX8_worth 46 = .ok (.iload_n 1, 1) := by decide +kernel
theorem dX8_worth_47 : decode cX8_worth 47 = .ok (.imul, 1) := by decide +kernel
theorem dX8_worth_48 : decode cX8_worth 48 = .ok (.iload_n 2, 1) := by decide +kernel
theorem dX8_worth_49 : decode cX8_worth 49 = .ok (.iadd, 1) := by decide +kernel
theorem dX8_worth_50 : decode cX8_worth 50 = .ok (.iload_n 3, 1) := by decide +kernel
theorem dX8_worth_51 : decode cX8_worth 51 = .ok (.iastore, 1) := by decide +kernel
theorem dX8_worth_52 : decode cX8_worth 52 = .ok (.iload 4, 2) := by decide +kernel
theorem dX8_worth_54 : decode cX8_worth 54 = .ok (.ireturn, 1) := by decide +kernel
theorem dX8_placeIn_0 : decode cX8_placeIn 0 = .ok (.iload_n 0, 1) := by decide +kernel
theorem dX8_placeIn_1 : decode cX8_placeIn 1 = .ok (.istore_n 2, 1) := by decide +kernel
theorem dX8_placeIn_2 : decode cX8_placeIn 2 = .ok (.bipush (-6), 2) := by decide +kernel
theorem dX8_placeIn_4 : decode cX8_placeIn 4 = .ok (.istore_n 3, 1) := by decide +kernel
theorem dX8_placeIn_5 : decode cX8_placeIn 5 = .ok (.iconst 5, 1) := by decide +kernel
theorem dX8_placeIn_6 : decode cX8_placeIn 6 = .ok (.istore 4, 2) := by decide +kernel
theorem dX8_placeIn_8 : decode cX8_placeIn 8 = .ok (.iload 4, 2) := by decide +kernel
theorem dX8_placeIn_10 : decode cX8_placeIn 10 = .ok (.ifCond .lt 29, 3) := by decide +kernel
theorem dX8_placeIn_13 : decode cX8_placeIn 13 = .ok (.iload_n 2, 1) := by decide +kernel
theorem dX8_placeIn_14 : decode cX8_placeIn 14 = .ok (.bipush 10, 2) := by decide +kernel
theorem dX8_placeIn_16 : decode cX8_placeIn 16 = .ok (.irem, 1) := by decide +kernel
theorem dX8_placeIn_17 : decode cX8_placeIn 17 = .ok (.iload_n 1, 1) := by decide +kernel
theorem dX8_placeIn_18 : decode cX8_placeIn 18 = .ok (.if_icmp .ne 8, 3) := by decide +kernel
theorem dX8_placeIn_21 : decode cX8_placeIn 21 = .ok (.iload 4, 2) := by decide +kernel
theorem dX8_placeIn_23 : decode cX8_placeIn 23 = .ok (.goto 4, 3) := by decide +kernel
theorem dX8_placeIn_26 : decode cX8_placeIn 26 = .ok (.iload_n 3, 1) := by decide +kernel
theorem dX8_placeIn_27 : decode cX8_placeIn 27 = .ok (.istore_n 3, 1) := by decide +kernel
theorem dX8_placeIn_28 : decode cX8_placeIn 28 = .ok (.iload_n 2, 1) := by decide +kernel
theorem dX8_placeIn_29 : decode cX8_placeIn 29 = .ok (.bipush 10, 2) := by decide +kernel
theorem dX8_placeIn_31 : decode cX8_placeIn 31 = .ok (.idiv, 1) := by decide +kernel
theorem dX8_placeIn_32 : decode cX8_placeIn 32 = .ok (.istore_n 2, 1) := by decide +kernel
theorem dX8_placeIn_33 : decode cX8_placeIn 33 = .ok (.iinc 4 (-1), 3) := by decide +kernel
theorem dX8_placeIn_36 : decode cX8_placeIn 36 = .ok (.goto (-28), 3) := by decide +kernel
theorem dX8_placeIn_39 : decode cX8_placeIn 39 = .ok (.iload_n 3, 1) := by decide +kernel
theorem dX8_placeIn_40 : decode cX8_placeIn 40 = .ok (.ireturn, 1) := by decide +kernel
set_option maxRecDepth 20000 in
theorem ggX8_rank_X8_isName : GoodIn wsX8_rank wsX8_isName := goodIn_r _ [6, 7, 8, 5, 9] (by decide +kernel) (by decide +kernel)
set_option maxRecDepth 20000 in
theorem gX8_rank_X8_isName : GoodIn wsX8_rank (va_wsS RX8 79 yX8_isName wsX8_isName) := goodIn_app (goodIn_of _ (by decide +kernel)) ggX8_rank_X8_isName
set_option maxRecDepth 20000 in
theorem ggX8_rank_X8_in : GoodIn wsX8_rank wsX8_in := goodIn_r _ [9] (by decide +kernel) (by decide +kernel)
set_option maxRecDepth 20000 in
theorem gX8_rank_X8_in : GoodIn wsX8_rank (va_wsS RX8 71 yX8_in wsX8_in) := goodIn_app (goodIn_of _ (by decide +kernel)) ggX8_rank_X8_in
set_option maxRecDepth 20000 in
theorem ggX8_rank_X8_placeIn : GoodIn wsX8_rank wsX8_placeIn := goodIn_r _ [12] (by decide +kernel) (by decide +kernel)
set_option maxRecDepth 20000 in
theorem gX8_rank_X8_placeIn : GoodIn wsX8_rank (va_wsS RX8 83 yX8_placeIn wsX8_placeIn) := goodIn_app (goodIn_of _ (by decide +kernel)) ggX8_rank_X8_placeIn
theorem dX8_rank_0 : decode cX8_rank 0 = .ok (.iload_n 1, 1) := by decide +kernel
theorem dX8_rank_1 : decode cX8_rank 1 = .ok (.invokestatic 79, 3) := by decide +kernel
theorem dX8_rank_4 : decode cX8_rank 4 = .ok (.ifCond .ne 5, 3) := by decide +kernel
theorem dX8_rank_7 : decode cX8_rank 7 = .ok (.iconst (-1), 1) := by decide +kernel
theorem dX8_rank_8 : decode cX8_rank 8 = .ok (.ireturn, 1) := by decide +kernel
theorem dX8_rank_9 : decode cX8_rank 9 = .ok (.iload_n 2, 1) := by decide +kernel
theorem dX8_rank_10 : decode cX8_rank 10 = .ok (.iconst 0, 1) := by decide +kernel
theorem dX8_rank_11 : decode cX8_rank 11 = .ok (.ldc 82, 2) := by decide +kernel
theorem dX8_rank_13 : decode cX8_rank 13 = .ok (.invokestatic 71, 3) := by decide +kernel
theorem dX8_rank_16 : decode cX8_rank 16 = .ok (.istore_n 3, 1) := by decide +kernel
theorem dX8_rank_17 : decode cX8_rank 17 = .ok (.iconst 0, 1) := by decide +kernel
theorem dX8_rank_18 : decode cX8_rank 18 = .ok (.istore 4, 2) := by decide +kernel
theorem dX8_rank_20 : decode cX8_rank 20 = .ok (.iload 4, 2) := by decide +kernel
theorem dX8_rank_22 : decode cX8_rank 22 = .ok (.bipush 6, 2) := by decide +kernel
theorem dX8_rank_24 : decode cX8_rank 24 = .ok (.if_icmp .ge 28, 3) := by decide +kernel
theorem dX8_rank_27 : decode cX8_rank 27 = .ok (.iload_n 3, 1) := by decide +kernel
theorem dX8_rank_28 : decode cX8_rank 28 = .ok (.ifCond .eq 16, 3) := by decide +kernel
theorem dX8_rank_31 : decode cX8_rank 31 = .ok (.iload_n 2, 1) := by decide +kernel
theorem dX8_rank_32 : decode cX8_rank 32 = .ok (.iload 4, 2) := by decide +kernel
theorem dX8_rank_34 : decode cX8_rank 34 = .ok (.invokestatic 83, 3) := by decide +kernel
theorem dX8_rank_37 : decode cX8_rank 37 = .ok (.ifCond .lt 7, 3) := by decide +kernel
theorem dX8_rank_40 : decode cX8_rank 40 = .ok (.iconst 1, 1) := by decide +kernel
theorem dX8_rank_41 : decode cX8_rank 41 = .ok (.goto 4, 3) := by decide +kernel
theorem dX8_rank_44 : decode cX8_rank 44 = .ok (.iconst 0, 1) := by decide +kernel
theorem dX8_rank_45 : decode cX8_rank 45 = .ok (.istore_n 3, 1) := by decide +kernel
theorem dX8_rank_46 : decode cX8_rank 46 = .ok (.iinc 4 1, 3) := by decide +kernel
theorem dX8_rank_49 : decode cX8_rank 49 = .ok (.goto (-29), 3) := by decide +kernel
theorem dX8_rank_52 : decode cX8_rank 52 = .ok (.iload_n 3, 1) := by decide +kernel
theorem dX8_rank_53 : decode cX8_rank 53 = .ok (.ifCond .ne 6, 3) := by decide +kernel
theorem dX8_rank_56 : decode cX8_rank 56 = .ok (.bipush (-2), 2) := by decide +kernel
theorem dX8_rank_58 : decode cX8_rank 58 = .ok (.ireturn, 1) := by decide +kernel
theorem dX8_rank_59 : decode cX8_rank 59 = .ok (.aload_n 0, 1) := by decide +kernel
theorem dX8_rank_60 : decode cX8_rank 60 = .ok (.getfield 22, 3) := by decide +kernel
theorem dX8_rank_63 : decode cX8_rank 63 = .ok (.iload_n 1, 1) := by decide +kernel
theorem dX8_rank_64 : decode cX8_rank 64 = .ok (.iaload, 1) := by decide +kernel
theorem dX8_rank_65 : decode cX8_rank 65 = .ok (.istore 4, 2) := by decide +kernel
theorem dX8_rank_67 : decode cX8_rank 67 = .ok (.aload_n 0, 1) := by decide +kernel
theorem dX8_rank_68 : decode cX8_rank 68 = .ok (.getfield 22, 3) := by decide +kernel
theorem dX8_rank_71 : decode cX8_rank 71 = .ok (.iload_n 1, 1) := by decide +kernel
theorem dX8_rank_72 : decode cX8_rank 72 = .ok (.iload_n 2, 1) := by decide +kernel
theorem dX8_rank_73 : decode cX8_rank 73 = .ok (.iastore, 1) := by decide +kernel
theorem dX8_rank_74 : decode cX8_rank 74 = .ok (.iload 4, 2) := by decide +kernel
theorem dX8_rank_76 : decode cX8_rank 76 = .ok (.ireturn, 1) := by decide +kernel
set_option maxRecDepth 20000 in
theorem ggX8_say_X8_in : GoodIn wsX8_say wsX8_in := goodIn_r _ [6] (by decide +kernel) (by decide +kernel)
set_option maxRecDepth 20000 in
theorem gX8_say_X8_in : GoodIn wsX8_say (va_wsS RX8 71 yX8_in wsX8_in) := goodIn_app (goodIn_of _ (by decide +kernel)) ggX8_say_X8_in
theorem dX8_say_0 : decode cX8_say 0 = .ok (.iload_n 1, 1) := by decide +kernel
theorem dX8_say_1 : decode cX8_say 1 = .ok (.bipush 33, 2) := by decide +kernel
theorem dX8_say_3 : decode cX8_say 3 = .ok (.bipush 126, 2) := by decide +kernel
theorem dX8_say_5 : decode cX8_say 5 = .ok (.invokestatic 71, 3) := by decide +kernel
theorem dX8_say_8 : decode cX8_say 8 = .ok (.ifCond .ne 6, 3) := by decide +kernel
theorem dX8_say_11 : decode cX8_say 11 = .ok (.bipush (-2), 2) := by decide +kernel
theorem dX8_say_13 : decode cX8_say 13 = .ok (.ireturn, 1) := by decide +kernel
theorem dX8_say_14 : decode cX8_say 14 = .ok (.aload_n 0, 1) := by decide +kernel
theorem dX8_say_15 : decode cX8_say 15 = .ok (.getfield 87, 3) := by decide +kernel
theorem dX8_say_18 : decode cX8_say 18 = .ok (.bipush 48, 2) := by decide +kernel
theorem dX8_say_20 : decode cX8_say 20 = .ok (.if_icmp .ne 6, 3) := by decide +kernel
theorem dX8_say_23 : decode cX8_say 23 = .ok (.bipush (-4), 2) := by decide +kernel
theorem dX8_say_25 : decode cX8_say 25 = .ok (.ireturn, 1) := by decide +kernel
theorem dX8_say_26 : decode cX8_say 26 = .ok (.aload_n 0, 1) := by decide +kernel
theorem dX8_say_27 : decode cX8_say 27 = .ok (.getfield 25, 3) := by decide +kernel
theorem dX8_say_30 : decode cX8_say 30 = .ok (.aload_n 0, 1) := by decide +kernel
theorem dX8_say_31 : decode cX8_say 31 = .ok (.getfield 87, 3) := by decide +kernel
theorem dX8_say_34 : decode cX8_say 34 = .ok (.iload_n 1, 1) := by decide +kernel
theorem dX8_say_35 : decode cX8_say 35 = .ok (.iastore, 1) := by decide +kernel
theorem dX8_say_36 : decode cX8_say 36 = .ok (.aload_n 0, 1) := by decide +kernel
theorem dX8_say_37 : decode cX8_say 37 = .ok (.dup, 1) := by decide +kernel
theorem dX8_say_38 : decode cX8_say 38 = .ok (.getfield 87, 3) := by decide +kernel
theorem dX8_say_41 : decode cX8_say 41 = .ok (.iconst 1, 1) := by decide +kernel
theorem dX8_say_42 : decode cX8_say 42 = .ok (.iadd, 1) := by decide +kernel
theorem dX8_say_43 : decode cX8_say 43 = .ok (.putfield 87, 3) := by decide +kernel
theorem dX8_say_46 : decode cX8_say 46 = .ok (.aload_n 0, 1) := by decide +kernel
theorem dX8_say_47 : decode cX8_say 47 = .ok (.getfield 87, 3) := by decide +kernel
theorem dX8_say_50 : decode cX8_say 50 = .ok (.ireturn, 1) := by decide +kernel
theorem dX8_wipe_0 : decode cX8_wipe 0 = .ok (.aload_n 0, 1) := by decide +kernel
theorem dX8_wipe_1 : decode cX8_wipe 1 = .ok (.getfield 87, 3) := by decide +kernel
theorem dX8_wipe_4 : decode cX8_wipe 4 = .ok (.istore_n 1, 1) := by decide +kernel
theorem dX8_wipe_5 : decode cX8_wipe 5 = .ok (.aload_n 0, 1) := by decide +kernel
theorem dX8_wipe_6 : decode cX8_wipe 6 = .ok (.iconst 0, 1) := by decide +kernel
theorem dX8_wipe_7 : decode cX8_wipe 7 = .ok (.putfield 87, 3) := by decide +kernel
theorem dX8_wipe_10 : decode cX8_wipe 10 = .ok (.iload_n 1, 1) := by decide +kernel
theorem dX8_wipe_11 : decode cX8_wipe 11 = .ok (.ireturn, 1) := by decide +kernel
set_option maxRecDepth 20000 in
theorem ggX8_faultOf_X8_in : GoodIn wsX8_faultOf wsX8_in := goodIn_r _ [6] (by decide +kernel) (by decide +kernel)
set_option maxRecDepth 20000 in
theorem gX8_faultOf_X8_in : GoodIn wsX8_faultOf (va_wsS RX8 71 yX8_in wsX8_in) := goodIn_app (goodIn_of _ (by decide +kernel)) ggX8_faultOf_X8_in
theorem dX8_faultOf_0 : decode cX8_faultOf 0 = .ok (.iconst 0, 1) := by decide +kernel
theorem dX8_faultOf_1 : decode cX8_faultOf 1 = .ok (.istore_n 1, 1) := by decide +kernel
theorem dX8_faultOf_2 : decode cX8_faultOf 2 = .ok (.iconst 0, 1) := by decide +kernel
theorem dX8_faultOf_3 : decode cX8_faultOf 3 = .ok (.istore_n 2, 1) := by decide +kernel
theorem dX8_faultOf_4 : decode cX8_faultOf 4 = .ok (.iconst 0, 1) := by decide +kernel
theorem dX8_faultOf_5 : decode cX8_faultOf 5 = .ok (.istore_n 3, 1) := by decide +kernel
theorem dX8_faultOf_6 : decode cX8_faultOf 6 = .ok (.iload_n 3, 1) := by decide +kernel
theorem dX8_faultOf_7 : decode cX8_faultOf 7 = .ok (.aload_n 0, 1) := by decide +kernel
theorem dX8_faultOf_8 : decode cX8_faultOf 8 = .ok (.getfield 87, 3) := by decide +kernel
theorem dX8_faultOf_11 : decode cX8_faultOf 11 = .ok (.if_icmp .ge 158, 3) := by decide +kernel
theorem dX8_faultOf_14 : decode cX8_faultOf 14 = .ok (.aload_n 0, 1) := by decide +kernel
theorem dX8_faultOf_15 : decode cX8_faultOf 15 = .ok (.getfield 25, 3) := by decide +kernel
theorem dX8_faultOf_18 : decode cX8_faultOf 18 = .ok (.iload_n 3, 1) := by decide +kernel
theorem dX8_faultOf_19 : decode cX8_faultOf 19 = .ok (.iaload, 1) := by decide +kernel
theorem dX8_faultOf_20 : decode cX8_faultOf 20 = .ok (.istore 4, 2) := by decide +kernel
theorem dX8_faultOf_22 : decode cX8_faultOf 22 = .ok (.iload_n 1, 1) := by decide +kernel
theorem dX8_faultOf_23 : decode cX8_faultOf 23 = .ok (.ifCond .ne 90, 3) := by decide +kernel
theorem dX8_faultOf_26 : decode cX8_faultOf 26 = .ok (.iload_n 2, 1) := by decide +kernel
theorem dX8_faultOf_27 : decode cX8_faultOf 27 = .ok (.iload 4, 2) := by decide +kernel
theorem dX8_faultOf_29 : decode cX8_faultOf 29 = .ok (.bipush 63, 2) := by decide +kernel
theorem dX8_faultOf_31 : decode cX8_faultOf 31 = .ok (.if_icmp .ne 7, 3) := by decide +kernel
theorem dX8_faultOf_34 : decode cX8_faultOf 34 = .ok (.iconst 1, 1) := by decide +kernel
theorem dX8_faultOf_35 : decode cX8_faultOf 35 = .ok (.goto 4, 3) := by decide +kernel
theorem dX8_faultOf_38 : decode cX8_faultOf 38 = .ok (.iconst 0, 1) := by decide +kernel
theorem dX8_faultOf_39 : decode cX8_faultOf 39 = .ok (.iadd, 1) := by decide +kernel
theorem dX8_faultOf_40 : decode cX8_faultOf 40 = .ok (.istore_n 2, 1) := by decide +kernel
theorem dX8_faultOf_41 : decode cX8_faultOf 41 = .ok (.iload 4, 2) := by decide +kernel
theorem dX8_faultOf_43 : decode cX8_faultOf 43 = .ok (.bipush 46, 2) := by decide +kernel
theorem dX8_faultOf_45 : decode cX8_faultOf 45 = .ok (.if_icmp .eq 34, 3) := by decide +kernel
theorem dX8_faultOf_48 : decode cX8_faultOf 48 = .ok (.iload 4, 2) := by decide +kernel
theorem dX8_faultOf_50 : decode cX8_faultOf 50 = .ok (.bipush 33, 2) := by decide +kernel
theorem dX8_faultOf_52 : decode cX8_faultOf 52 = .ok (.if_icmp .eq 27, 3) := by decide +kernel
theorem dX8_faultOf_55 : decode cX8_faultOf 55 = .ok (.iload 4, 2) := by decide +kernel
theorem dX8_faultOf_57 : decode cX8_faultOf 57 = .ok (.bipush 65, 2) := by decide +kernel
theorem dX8_faultOf_59 : decode cX8_faultOf 59 = .ok (.bipush 70, 2) := by decide +kernel
theorem dX8_faultOf_61 : decode cX8_faultOf 61 = .ok (.invokestatic 71, 3) := by decide +kernel
theorem dX8_faultOf_64 : decode cX8_faultOf 64 = .ok (.ifCond .ne 15, 3) := by decide +kernel
theorem dX8_faultOf_67 : decode cX8_faultOf 67 = .ok (.iload 4, 2) := by decide +kernel
theorem dX8_faultOf_69 : decode cX8_faultOf 69 = .ok (.bipush 63, 2) := by decide +kernel
theorem dX8_faultOf_71 : decode cX8_faultOf 71 = .ok (.if_icmp .ne 12, 3) := by decide +kernel
theorem dX8_faultOf_74 : decode cX8_faultOf 74 = .ok (.iload_n 2, 1) := by decide +kernel
theorem dX8_faultOf_75 : decode cX8_faultOf 75 = .ok (.iconst 4, 1) := by decide +kernel
theorem dX8_faultOf_76 : decode cX8_faultOf 76 = .ok (.if_icmp .gt 7, 3) := by decide +kernel
theorem dX8_faultOf_79 : decode cX8_faultOf 79 = .ok (.iconst 1, 1) := by decide +kernel
theorem dX8_faultOf_80 : decode cX8_faultOf 80 = .ok (.goto 4, 3) := by decide +kernel
theorem dX8_faultOf_83 : decode cX8_faultOf 83 = .ok (.iconst 0, 1) := by decide +kernel
theorem dX8_faultOf_84 : decode cX8_faultOf 84 = .ok (.istore 5, 2) := by decide +kernel
theorem dX8_faultOf_86 : decode cX8_faultOf 86 = .ok (.iload 4, 2) := by decide +kernel
theorem dX8_faultOf_88 : decode cX8_faultOf 88 = .ok (.bipush 46, 2) := by decide +kernel
theorem dX8_faultOf_90 : decode cX8_faultOf 90 = .ok (.if_icmp .ne 7, 3) := by decide +kernel
theorem dX8_faultOf_93 : decode cX8_faultOf 93 = .ok (.iconst 0, 1) := by decide +kernel
theorem dX8_faultOf_94 : decode cX8_faultOf 94 = .ok (.goto 15, 3) := by decide +kernel
theorem dX8_faultOf_97 : decode cX8_faultOf 97 = .ok (.iload 4, 2) := by decide +kernel
theorem dX8_faultOf_99 : decode cX8_faultOf 99 = .ok (.bipush 33, 2) := by decide +kernel
theorem dX8_faultOf_101 : decode cX8_faultOf 101 = .ok (.if_icmp .ne 7, 3) := by decide +kernel
theorem dX8_faultOf_104 : decode cX8_faultOf 104 = .ok (.iconst 3, 1) := by decide +kernel
theorem dX8_faultOf_105 : decode cX8_faultOf 105 = .ok (.goto 4, 3) := by decide +kernel
theorem dX8_faultOf_108 : decode cX8_faultOf 108 = .ok (.iconst 1, 1) := by decide +kernel
theorem dX8_faultOf_109 : decode cX8_faultOf 109 = .ok (.istore_n 1, 1) := by decide +kernel
theorem dX8_faultOf_110 : decode cX8_faultOf 110 = .ok (.goto 46, 3) := by decide +kernel
theorem dX8_faultOf_113 : decode cX8_faultOf 113 = .ok (.iload_n 1, 1) := by decide +kernel
theorem dX8_faultOf_114 : decode cX8_faultOf 114 = .ok (.iconst 2, 1) := by decide +kernel
theorem dX8_faultOf_115 : decode cX8_faultOf 115 = .ok (.if_icmp .ne 19, 3) := by decide +kernel
theorem dX8_faultOf_118 : decode cX8_faultOf 118 = .ok (.iload 4, 2) := by decide +kernel
theorem dX8_faultOf_120 : decode cX8_faultOf 120 = .ok (.bipush 49, 2) := by decide +kernel
theorem dX8_faultOf_122 : decode cX8_faultOf 122 = .ok (.bipush 57, 2) := by decide +kernel
theorem dX8_faultOf_124 : decode cX8_faultOf 124 = .ok (.invokestatic 71, 3) := by decide +kernel
theorem dX8_faultOf_127 : decode cX8_faultOf 127 = .ok (.istore 5, 2) := by decide +kernel
theorem dX8_faultOf_129 : decode cX8_faultOf 129 = .ok (.iconst 0, 1) := by decide +kernel
theorem dX8_faultOf_130 : decode cX8_faultOf 130 = .ok (.istore_n 1, 1) := by decide +kernel
theorem dX8_faultOf_131 : decode cX8_faultOf 131 = .ok (.goto 25, 3) := by decide +kernel
theorem dX8_faultOf_134 : decode cX8_faultOf 134 = .ok (.iload 4, 2) := by decide +kernel
theorem dX8_faultOf_136 : decode cX8_faultOf 136 = .ok (.bipush 97, 2) := by decide +kernel
theorem dX8_faultOf_138 : decode cX8_faultOf 138 = .ok (.bipush 101, 2) := by decide +kernel
theorem dX8_faultOf_140 : decode cX8_faultOf 140 = .ok (.invokestatic 71, 3) := by decide +kernel
theorem dX8_faultOf_143 : decode cX8_faultOf 143 = .ok (.istore 5, 2) := by decide +kernel
theorem dX8_faultOf_145 : decode cX8_faultOf 145 = .ok (.iload_n 1, 1) := by decide +kernel
theorem dX8_faultOf_146 : decode cX8_faultOf 146 = .ok (.iconst 1, 1) := by decide +kernel
theorem dX8_faultOf_147 : decode cX8_faultOf 147 = .ok (.if_icmp .ne 7, 3) := by decide +kernel
theorem dX8_faultOf_150 : decode cX8_faultOf 150 = .ok (.iconst 2, 1) := by decide +kernel
theorem dX8_faultOf_151 : decode cX8_faultOf 151 = .ok (.goto 4, 3) := by decide +kernel
theorem dX8_faultOf_154 : decode cX8_faultOf 154 = .ok (.iconst 0, 1) := by decide +kernel
theorem dX8_faultOf_155 : decode cX8_faultOf 155 = .ok (.istore_n 1, 1) := by decide +kernel
theorem dX8_faultOf_156 : decode cX8_faultOf 156 = .ok (.iload 5, 2) := by decide +kernel
theorem dX8_faultOf_158 : decode cX8_faultOf 158 = .ok (.ifCond .ne 5, 3) := by decide +kernel
theorem dX8_faultOf_161 : decode cX8_faultOf 161 = .ok (.iload_n 3, 1) := by decide +kernel
theorem dX8_faultOf_162 : decode cX8_faultOf 162 = .ok (.ireturn, 1) := by decide +kernel
theorem dX8_faultOf_163 : decode cX8_faultOf 163 = .ok (.iinc 3 1, 3) := by decide +kernel
theorem dX8_faultOf_166 : decode cX8_faultOf 166 = .ok (.goto (-160), 3) := by decide +kernel
theorem dX8_faultOf_169 : decode cX8_faultOf 169 = .ok (.iload_n 1, 1) := by decide +kernel
theorem dX8_faultOf_170 : decode cX8_faultOf 170 = .ok (.ifCond .ne 8, 3) := by decide +kernel
theorem dX8_faultOf_173 : decode cX8_faultOf 173 = .ok (.bipush (-6), 2) := by decide +kernel
theorem dX8_faultOf_175 : decode cX8_faultOf 175 = .ok (.goto 7, 3) := by decide +kernel
theorem dX8_faultOf_178 : decode cX8_faultOf 178 = .ok (.aload_n 0, 1) := by decide +kernel
theorem dX8_faultOf_179 : decode cX8_faultOf 179 = .ok (.getfield 87, 3) := by decide +kernel
theorem dX8_faultOf_182 : decode cX8_faultOf 182 = .ok (.ireturn, 1) := by decide +kernel
set_option maxRecDepth 20000 in
theorem ggX8_fault_X8_faultOf : GoodIn wsX8_fault wsX8_faultOf := goodIn_r _ [5, 6, 7, 8, 9, 4, 10, 11, 12, 13, 14, 15, 16, 17, 18, 19, 20, 21, 22, 23, 24, 25, 26, 27, 28, 29, 30, 31, 32, 33, 34] (by decide +kernel) (by decide +kernel)
set_option maxRecDepth 20000 in
theorem gX8_fault_X8_faultOf : GoodIn wsX8_fault (wsV RX8 91 RX8 yX8_faultOf wsX8_faultOf) := goodIn_app (goodIn_of _ (by decide +kernel)) ggX8_fault_X8_faultOf
theorem dX8_fault_0 : decode cX8_fault 0 = .ok (.aload_n 0, 1) := by decide +kernel
theorem dX8_fault_1 : decode cX8_fault 1 = .ok (.invokevirtual 91, 3) := by decide +kernel
theorem dX8_fault_4 : decode cX8_fault 4 = .ok (.ireturn, 1) := by decide +kernel
theorem dX8_opens_0 : decode cX8_opens 0 = .ok (.iconst 0, 1) := by decide +kernel
theorem dX8_opens_1 : decode cX8_opens 1 = .ok (.istore_n 1, 1) := by decide +kernel
theorem dX8_opens_2 : decode cX8_opens 2 = .ok (.iconst 0, 1) := by decide +kernel
theorem dX8_opens_3 : decode cX8_opens 3 = .ok (.istore_n 2, 1) := by decide +kernel
theorem dX8_opens_4 : decode cX8_opens 4 = .ok (.iload_n 2, 1) := by decide +kernel
theorem dX8_opens_5 : decode cX8_opens 5 = .ok (.aload_n 0, 1) := by decide +kernel
theorem dX8_opens_6 : decode cX8_opens 6 = .ok (.getfield 87, 3) := by decide +kernel
theorem dX8_opens_9 : decode cX8_opens 9 = .ok (.if_icmp .ge 28, 3) := by decide +kernel
theorem dX8_opens_12 : decode cX8_opens 12 = .ok (.iload_n 1, 1) := by decide +kernel
theorem dX8_opens_13 : decode cX8_opens 13 = .ok (.aload_n 0, 1) := by decide +kernel
theorem dX8_opens_14 : decode cX8_opens 14 = .ok (.getfield 25, 3) := by decide +kernel
theorem dX8_opens_17 : decode cX8_opens 17 = .ok (.iload_n 2, 1) := by decide +kernel
theorem dX8_opens_18 : decode cX8_opens 18 = .ok (.iaload, 1) := by decide +kernel
theorem dX8_opens_19 : decode cX8_opens 19 = .ok (.bipush 63, 2) := by decide +kernel
theorem dX8_opens_21 : decode cX8_opens 21 = .ok (.if_icmp .ne 7, 3) := by decide +kernel
theorem dX8_opens_24 : decode cX8_opens 24 = .ok (.iconst 1, 1) := by decide +kernel
theorem dX8_opens_25 : decode cX8_opens 25 = .ok (.goto 4, 3) := by decide +kernel
theorem dX8_opens_28 : decode cX8_opens 28 = .ok (.iconst 0, 1) := by decide +kernel
theorem dX8_opens_29 : decode cX8_opens 29 = .ok (.iadd, 1) := by decide +kernel
theorem dX8_opens_30 : decode cX8_opens 30 = .ok (.istore_n 1, 1) := by decide +kernel
theorem dX8_opens_31 : decode cX8_opens 31 = .ok (.iinc 2 1, 3) := by decide +kernel
theorem dX8_opens_34 : decode cX8_opens 34 = .ok (.goto (-30), 3) := by decide +kernel
theorem dX8_opens_37 : decode cX8_opens 37 = .ok (.iload_n 1, 1) := by decide +kernel
theorem dX8_opens_38 : decode cX8_opens 38 = .ok (.ireturn, 1) := by decide +kernel
theorem dX8_beginLog_0 : decode cX8_beginLog 0 = .ok (.aload_n 0, 1) := by decide +kernel
theorem dX8_beginLog_1 : decode cX8_beginLog 1 = .ok (.iconst 0, 1) := by decide +kernel
theorem dX8_beginLog_2 : decode cX8_beginLog 2 = .ok (.putfield 95, 3) := by decide +kernel
theorem dX8_beginLog_5 : decode cX8_beginLog 5 = .ok (.aload_n 0, 1) := by decide +kernel
theorem dX8_beginLog_6 : decode cX8_beginLog 6 = .ok (.iconst 0, 1) := by decide +kernel
theorem dX8_beginLog_7 : decode cX8_beginLog 7 = .ok (.putfield 98, 3) := by decide +kernel
theorem dX8_beginLog_10 : decode cX8_beginLog 10 = .ok (.iconst 0, 1) := by decide +kernel
theorem dX8_beginLog_11 : decode cX8_beginLog 11 = .ok (.istore_n 1, 1) := by decide +kernel
theorem dX8_beginLog_12 : decode cX8_beginLog 12 = .ok (.iload_n 1, 1) := by decide +kernel
theorem dX8_beginLog_13 : decode cX8_beginLog 13 = .ok (.bipush 6, 2) := by decide +kernel
theorem dX8_beginLog_15 : decode cX8_beginLog 15 = .ok (.if_icmp .ge 24, 3) := by decide +kernel
theorem dX8_beginLog_18 : decode cX8_beginLog 18 = .ok (.aload_n 0, 1) := by decide +kernel
theorem dX8_beginLog_19 : decode cX8_beginLog 19 = .ok (.getfield 28, 3) := by decide +kernel
theorem dX8_beginLog_22 : decode cX8_beginLog 22 = .ok (.iload_n 1, 1) := by decide +kernel
theorem dX8_beginLog_23 : decode cX8_beginLog 23 = .ok (.bipush (-6), 2) := by decide +kernel
theorem dX8_beginLog_25 : decode cX8_beginLog 25 = .ok (.iastore, 1) := by decide +kernel
theorem dX8_beginLog_26 : decode cX8_beginLog 26 = .ok (.aload_n 0, 1) := by decide +kernel
theorem dX8_beginLog_27 : decode cX8_beginLog 27 = .ok (.getfield 41, 3) := by decide +kernel
theorem dX8_beginLog_30 : decode cX8_beginLog 30 = .ok (.iload_n 1, 1) := by decide +kernel
theorem dX8_beginLog_31 : decode cX8_beginLog 31 = .ok (.iconst 0, 1) := by decide +kernel
theorem dX8_beginLog_32 : decode cX8_beginLog 32 = .ok (.bastore, 1) := by decide +kernel
theorem dX8_beginLog_33 : decode cX8_beginLog 33 = .ok (.iinc 1 1, 3) := by decide +kernel
theorem dX8_beginLog_36 : decode cX8_beginLog 36 = .ok (.goto (-24), 3) := by decide +kernel
theorem dX8_beginLog_39 : decode cX8_beginLog 39 = .ok (.iconst 0, 1) := by decide +kernel
theorem dX8_beginLog_40 : decode cX8_beginLog 40 = .ok (.istore_n 1, 1) := by decide +kernel
theorem dX8_beginLog_41 : decode cX8_beginLog 41 = .ok (.iload_n 1, 1) := by decide +kernel
theorem dX8_beginLog_42 : decode cX8_beginLog 42 = .ok (.iconst 5, 1) := by decide +kernel
theorem dX8_beginLog_43 : decode cX8_beginLog 43 = .ok (.if_icmp .ge 46, 3) := by decide +kernel
theorem dX8_beginLog_46 : decode cX8_beginLog 46 = .ok (.aload_n 0, 1) := by decide +kernel
theorem dX8_beginLog_47 : decode cX8_beginLog 47 = .ok (.getfield 31, 3) := by decide +kernel
theorem dX8_beginLog_50 : decode cX8_beginLog 50 = .ok (.iload_n 1, 1) := by decide +kernel
theorem dX8_beginLog_51 : decode cX8_beginLog 51 = .ok (.iconst 0, 1) := by decide +kernel
theorem dX8_beginLog_52 : decode cX8_beginLog 52 = .ok (.iastore, 1) := by decide +kernel
theorem dX8_beginLog_53 : decode cX8_beginLog 53 = .ok (.aload_n 0, 1) := by decide +kernel
theorem dX8_beginLog_54 : decode cX8_beginLog 54 = .ok (.getfield 34, 3) := by decide +kernel
theorem dX8_beginLog_57 : decode cX8_beginLog 57 = .ok (.iload_n 1, 1) := by decide +kernel
theorem dX8_beginLog_58 : decode cX8_beginLog 58 = .ok (.bipush (-6), 2) := by decide +kernel
theorem dX8_beginLog_60 : decode cX8_beginLog 60 = .ok (.iastore, 1) := by decide +kernel
theorem dX8_beginLog_61 : decode cX8_beginLog 61 = .ok (.aload_n 0, 1) := by decide +kernel
theorem dX8_beginLog_62 : decode cX8_beginLog 62 = .ok (.getfield 37, 3) := by decide +kernel
theorem dX8_beginLog_65 : decode cX8_beginLog 65 = .ok (.iload_n 1, 1) := by decide +kernel
theorem dX8_beginLog_66 : decode cX8_beginLog 66 = .ok (.iconst 0, 1) := by decide +kernel
theorem dX8_beginLog_67 : decode cX8_beginLog 67 = .ok (.bastore, 1) := by decide +kernel
theorem dX8_beginLog_68 : decode cX8_beginLog 68 = .ok (.aload_n 0, 1) := by decide +kernel
theorem dX8_beginLog_69 : decode cX8_beginLog 69 = .ok (.getfield 44, 3) := by decide +kernel
theorem dX8_beginLog_72 : decode cX8_beginLog 72 = .ok (.iload_n 1, 1) := by decide +kernel
theorem dX8_beginLog_73 : decode cX8_beginLog 73 = .ok (.iconst 0, 1) := by decide +kernel
theorem dX8_beginLog_74 : decode cX8_beginLog 74 = .ok (.iastore, 1) := by decide +kernel
theorem dX8_beginLog_75 : decode cX8_beginLog 75 = .ok (.aload_n 0, 1) := by decide +kernel
theorem dX8_beginLog_76 : decode cX8_beginLog 76 = .ok (.getfield 47, 3) := by decide +kernel
theorem dX8_beginLog_79 : decode cX8_beginLog 79 = .ok (.iload_n 1, 1) := by decide +kernel
theorem dX8_beginLog_80 : decode cX8_beginLog 80 = .ok (.bipush (-6), 2) := by decide +kernel
theorem dX8_beginLog_82 : decode cX8_beginLog 82 = .ok (.iastore, 1) := by decide +kernel
theorem dX8_beginLog_83 : decode cX8_beginLog 83 = .ok (.iinc 1 1, 3) := by decide +kernel
theorem dX8_beginLog_86 : decode cX8_beginLog 86 = .ok (.goto (-45), 3) := by decide +kernel
theorem dX8_beginLog_89 : decode cX8_beginLog 89 = .ok (.return_, 1) := by decide +kernel
theorem dX8_keepWho_0 : decode cX8_keepWho 0 = .ok (.iconst 0, 1) := by decide +kernel
theorem dX8_keepWho_1 : decode cX8_keepWho 1 = .ok (.istore_n 1, 1) := by decide +kernel
theorem dX8_keepWho_2 : decode cX8_keepWho 2 = .ok (.iload_n 1, 1) := by decide +kernel
theorem dX8_keepWho_3 : decode cX8_keepWho 3 = .ok (.iconst 5, 1) := by decide +kernel
theorem dX8_keepWho_4 : decode cX8_keepWho 4 = .ok (.if_icmp .ge 50, 3) := by decide +kernel
theorem dX8_keepWho_7 : decode cX8_keepWho 7 = .ok (.aload_n 0, 1) := by decide +kernel
theorem dX8_keepWho_8 : decode cX8_keepWho 8 = .ok (.getfield 95, 3) := by decide +kernel
theorem dX8_keepWho_11 : decode cX8_keepWho 11 = .ok (.aload_n 0, 1) := by decide +kernel
theorem dX8_keepWho_12 : decode cX8_keepWho 12 = .ok (.getfield 101, 3) := by decide +kernel
theorem dX8_keepWho_15 : decode cX8_keepWho 15 = .ok (.if_icmp .ne 39, 3) := by decide +kernel
theorem dX8_keepWho_18 : decode cX8_keepWho 18 = .ok (.aload_n 0, 1) := by decide +kernel
theorem dX8_keepWho_19 : decode cX8_keepWho 19 = .ok (.getfield 47, 3) := by decide +kernel
theorem dX8_keepWho_22 : decode cX8_keepWho 22 = .ok (.iload_n 1, 1) := by decide +kernel
theorem dX8_keepWho_23 : decode cX8_keepWho 23 = .ok (.aload_n 0, 1) := by decide +kernel
theorem dX8_keepWho_24 : decode cX8_keepWho 24 = .ok (.getfield 34, 3) := by decide +kernel
theorem dX8_keepWho_27 : decode cX8_keepWho 27 = .ok (.iload_n 1, 1) := by decide +kernel
theorem dX8_keepWho_28 : decode cX8_keepWho 28 = .ok (.iaload, 1) := by decide +kernel
theorem dX8_keepWho_29 : decode cX8_keepWho 29 = .ok (.ifCond .lt 12, 3) := by decide +kernel
theorem dX8_keepWho_32 : decode cX8_keepWho 32 = .ok (.aload_n 0, 1) := by decide +kernel
theorem dX8_keepWho_33 : decode cX8_keepWho 33 = .ok (.getfield 34, 3) := by decide +kernel
theorem dX8_keepWho_36 : decode cX8_keepWho 36 = .ok (.iload_n 1, 1) := by decide +kernel
theorem dX8_keepWho_37 : decode cX8_keepWho 37 = .ok (.iaload, 1) := by decide +kernel
theorem dX8_keepWho_38 : decode cX8_keepWho 38 = .ok (.goto 9, 3) := by decide +kernel
theorem dX8_keepWho_41 : decode cX8_keepWho 41 = .ok (.aload_n 0, 1) := by decide +kernel
theorem dX8_keepWho_42 : decode cX8_keepWho 42 = .ok (.getfield 47, 3) := by decide +kernel
theorem dX8_keepWho_45 : decode cX8_keepWho 45 = .ok (.iload_n 1, 1) := by decide +kernel
theorem dX8_keepWho_46 : decode cX8_keepWho 46 = .ok (.iaload, 1) := by decide +kernel
theorem dX8_keepWho_47 : decode cX8_keepWho 47 = .ok (.iastore, 1) := by decide +kernel
theorem dX8_keepWho_48 : decode cX8_keepWho 48 = .ok (.iinc 1 1, 3) := by decide +kernel
theorem dX8_keepWho_51 : decode cX8_keepWho 51 = .ok (.goto (-49), 3) := by decide +kernel
theorem dX8_keepWho_54 : decode cX8_keepWho 54 = .ok (.return_, 1) := by decide +kernel
set_option maxRecDepth 20000 in
theorem ggX8_nextDay_X8_keepWho : GoodIn wsX8_nextDay wsX8_keepWho := goodIn_r _ [10, 1, 11, 12, 2, 13, 14, 15, 16, 17, 18, 19, 20, 21, 22, 23, 24, 25, 26, 27, 28, 29, 30, 31, 32, 33, 34, 35, 36] (by decide +kernel) (by decide +kernel)
set_option maxRecDepth 20000 in
theorem gX8_nextDay_X8_keepWho : GoodIn wsX8_nextDay (wsV RX8 104 RX8 yX8_keepWho wsX8_keepWho) := goodIn_app (goodIn_of _ (by decide +kernel)) ggX8_nextDay_X8_keepWho
theorem dX8_nextDay_0 : decode cX8_nextDay 0 = .ok (.aload_n 0, 1) := by decide +kernel
theorem dX8_nextDay_1 : decode cX8_nextDay 1 = .ok (.dup, 1) := by decide +kernel
theorem dX8_nextDay_2 : decode cX8_nextDay 2 = .ok (.getfield 95, 3) := by decide +kernel
theorem dX8_nextDay_5 : decode cX8_nextDay 5 = .ok (.iconst 1, 1) := by decide +kernel
theorem dX8_nextDay_6 : decode cX8_nextDay 6 = .ok (.iadd, 1) := by decide +kernel
theorem dX8_nextDay_7 : decode cX8_nextDay 7 = .ok (.putfield 95, 3) := by decide +kernel
theorem dX8_nextDay_10 : decode cX8_nextDay 10 = .ok (.iconst 0, 1) := by decide +kernel
theorem dX8_nextDay_11 : decode cX8_nextDay 11 = .ok (.istore_n 1, 1) := by decide +kernel
theorem dX8_nextDay_12 : decode cX8_nextDay 12 = .ok (.iload_n 1, 1) := by decide +kernel
theorem dX8_nextDay_13 : decode cX8_nextDay 13 = .ok (.iconst 5, 1) := by decide +kernel
theorem dX8_nextDay_14 : decode cX8_nextDay 14 = .ok (.if_icmp .ge 62, 3) := by decide +kernel
theorem dX8_nextDay_17 : decode cX8_nextDay 17 = .ok (.aload_n 0, 1) := by decide +kernel
theorem dX8_nextDay_18 : decode cX8_nextDay 18 = .ok (.getfield 34, 3) := by decide +kernel
theorem dX8_nextDay_21 : decode cX8_nextDay 21 = .ok (.iload_n 1, 1) := by decide +kernel
theorem dX8_nextDay_22 : decode cX8_nextDay 22 = .ok (.iaload, 1) := by decide +kernel
theorem dX8_nextDay_23 : decode cX8_nextDay 23 = .ok (.ifCond .lt 47, 3) := by decide +kernel
theorem dX8_nextDay_26 : decode cX8_nextDay 26 = .ok (.aload_n 0, 1) := by decide +kernel
theorem dX8_nextDay_27 : decode cX8_nextDay 27 = .ok (.getfield 31, 3) := by decide +kernel
theorem dX8_nextDay_30 : decode cX8_nextDay 30 = .ok (.iload_n 1, 1) := by decide +kernel
theorem dX8_nextDay_31 : decode cX8_nextDay 31 = .ok (.iaload, 1) := by decide +kernel
theorem dX8_nextDay_32 : decode cX8_nextDay 32 = .ok (.aload_n 0, 1) := by decide +kernel
theorem dX8_nextDay_33 : decode cX8_nextDay 33 = .ok (.getfield 95, 3) := by decide +kernel
theorem dX8_nextDay_36 : decode cX8_nextDay 36 = .ok (.if_icmp .ne 34, 3) := by decide +kernel
theorem dX8_nextDay_39 : decode cX8_nextDay 39 = .ok (.aload_n 0, 1) := by decide +kernel
theorem dX8_nextDay_40 : decode cX8_nextDay 40 = .ok (.getfield 28, 3) := by decide +kernel
theorem dX8_nextDay_43 : decode cX8_nextDay 43 = .ok (.aload_n 0, 1) := by decide +kernel
theorem dX8_nextDay_44 : decode cX8_nextDay 44 = .ok (.getfield 34, 3) := by decide +kernel
theorem dX8_nextDay_47 : decode cX8_nextDay 47 = .ok (.iload_n 1, 1) := by decide +kernel
theorem dX8_nextDay_48 : decode cX8_nextDay 48 = .ok (.iaload, 1) := by decide +kernel
theorem dX8_nextDay_49 : decode cX8_nextDay 49 = .ok (.bipush (-6), 2) := by decide +kernel
theorem dX8_nextDay_51 : decode cX8_nextDay 51 = .ok (.iastore, 1) := by decide +kernel
theorem dX8_nextDay_52 : decode cX8_nextDay 52 = .ok (.aload_n 0, 1) := by decide +kernel
theorem dX8_nextDay_53 : decode cX8_nextDay 53 = .ok (.getfield 34, 3) := by decide +kernel
theorem dX8_nextDay_56 : decode cX8_nextDay 56 = .ok (.iload_n 1, 1) := by decide +kernel
theorem dX8_nextDay_57 : decode cX8_nextDay 57 = .ok (.bipush (-6), 2) := by decide +kernel
theorem dX8_nextDay_59 : decode cX8_nextDay 59 = .ok (.iastore, 1) := by decide +kernel
theorem dX8_nextDay_60 : decode cX8_nextDay 60 = .ok (.aload_n 0, 1) := by decide +kernel
theorem dX8_nextDay_61 : decode cX8_nextDay 61 = .ok (.getfield 44, 3) := by decide +kernel
theorem dX8_nextDay_64 : decode cX8_nextDay 64 = .ok (.iload_n 1, 1) := by decide +kernel
theorem dX8_nextDay_65 : decode cX8_nextDay 65 = .ok (.dup2, 1) := by decide +kernel
theorem dX8_nextDay_66 : decode cX8_nextDay 66 = .ok (.iaload, 1) := by decide +kernel
theorem dX8_nextDay_67 : decode cX8_nextDay 67 = .ok (.iconst 1, 1) := by decide +kernel
theorem dX8_nextDay_68 : decode cX8_nextDay 68 = .ok (.iadd, 1) := by decide +kernel
theorem dX8_nextDay_69 : decode cX8_nextDay 69 = .ok (.iastore, 1) := by decide +kernel
theorem dX8_nextDay_70 : decode cX8_nextDay 70 = .ok (.iinc 1 1, 3) := by decide +kernel
theorem dX8_nextDay_73 : decode cX8_nextDay 73 = .ok (.goto (-61), 3) := by decide +kernel
theorem dX8_nextDay_76 : decode cX8_nextDay 76 = .ok (.aload_n 0, 1) := by decide +kernel
theorem dX8_nextDay_77 : decode cX8_nextDay 77 = .ok (.invokevirtual 104, 3) := by decide +kernel
theorem dX8_nextDay_80 : decode cX8_nextDay 80 = .ok (.return_, 1) := by decide +kernel
set_option maxRecDepth 20000 in
theorem ggX8_whyNot_X8_has : GoodIn wsX8_whyNot wsX8_has := goodIn_r _ [9] (by decide +kernel) (by decide +kernel)
set_option maxRecDepth 20000 in
theorem gX8_whyNot_X8_has : GoodIn wsX8_whyNot (va_wsS RX8 107 yX8_has wsX8_has) := goodIn_app (goodIn_of _ (by decide +kernel)) ggX8_whyNot_X8_has
theorem dX8_whyNot_0 : decode cX8_whyNot 0 = .ok (.aload_n 0, 1) := by decide +kernel
theorem dX8_whyNot_1 : decode cX8_whyNot 1 = .ok (.getfield 41, 3) := by decide +kernel
theorem dX8_whyNot_4 : decode cX8_whyNot 4 = .ok (.iload_n 1, 1) := by decide +kernel
theorem dX8_whyNot_5 : decode cX8_whyNot 5 = .ok (.baload, 1) := by decide +kernel
theorem dX8_whyNot_6 : decode cX8_whyNot 6 = .ok (.ifCond .eq 5, 3) := by decide +kernel
theorem dX8_whyNot_9 : decode cX8_whyNot 9 = .ok (.iconst 1, 1) := by decide +kernel
theorem dX8_whyNot_10 : decode cX8_whyNot 10 = .ok (.ireturn, 1) := by decide +kernel
theorem dX8_whyNot_11 : decode cX8_whyNot 11 = .ok (.aload_n 0, 1) := by decide +kernel
theorem dX8_whyNot_12 : decode cX8_whyNot 12 = .ok (.getfield 28, 3) := by decide +kernel
theorem dX8_whyNot_15 : decode cX8_whyNot 15 = .ok (.iload_n 1, 1) := by decide +kernel
theorem dX8_whyNot_16 : decode cX8_whyNot 16 = .ok (.iaload, 1) := by decide +kernel
theorem dX8_whyNot_17 : decode cX8_whyNot 17 = .ok (.ifCond .lt 5, 3) := by decide +kernel
theorem dX8_whyNot_20 : decode cX8_whyNot 20 = .ok (.iconst 2, 1) := by decide +kernel
theorem dX8_whyNot_21 : decode cX8_whyNot 21 = .ok (.ireturn, 1) := by decide +kernel
theorem dX8_whyNot_22 : decode cX8_whyNot 22 = .ok (.aload_n 0, 1) := by decide +kernel
theorem dX8_whyNot_23 : decode cX8_whyNot 23 = .ok (.getfield 37, 3) := by decide +kernel
theorem dX8_whyNot_26 : decode cX8_whyNot 26 = .ok (.iload_n 2, 1) := by decide +kernel
theorem dX8_whyNot_27 : decode cX8_whyNot 27 = .ok (.baload, 1) := by decide +kernel
theorem dX8_whyNot_28 : decode cX8_whyNot 28 = .ok (.ifCond .eq 5, 3) := by decide +kernel
theorem dX8_whyNot_31 : decode cX8_whyNot 31 = .ok (.iconst 3, 1) := by decide +kernel
theorem dX8_whyNot_32 : decode cX8_whyNot 32 = .ok (.ireturn, 1) := by decide +kernel
theorem dX8_whyNot_33 : decode cX8_whyNot 33 = .ok (.aload_n 0, 1) := by decide +kernel
theorem dX8_whyNot_34 : decode cX8_whyNot 34 = .ok (.getfield 34, 3) := by decide +kernel
theorem dX8_whyNot_37 : decode cX8_whyNot 37 = .ok (.iload_n 2, 1) := by decide +kernel
theorem dX8_whyNot_38 : decode cX8_whyNot 38 = .ok (.iaload, 1) := by decide +kernel
theorem dX8_whyNot_39 : decode cX8_whyNot 39 = .ok (.ifCond .lt 7, 3) := by decide +kernel
theorem dX8_whyNot_42 : decode cX8_whyNot 42 = .ok (.iconst 4, 1) := by decide +kernel
theorem dX8_whyNot_43 : decode cX8_whyNot 43 = .ok (.goto 21, 3) := by decide +kernel
theorem dX8_whyNot_46 : decode cX8_whyNot 46 = .ok (.aload_n 0, 1) := by decide +kernel
theorem dX8_whyNot_47 : decode cX8_whyNot 47 = .ok (.getfield 7, 3) := by decide +kernel
theorem dX8_whyNot_50 : decode cX8_whyNot 50 = .ok (.iload_n 1, 1) := by decide +kernel
theorem dX8_whyNot_51 : decode cX8_whyNot 51 = .ok (.iaload, 1) := by decide +kernel
theorem dX8_whyNot_52 : decode cX8_whyNot 52 = .ok (.iload_n 2, 1) := by decide +kernel
theorem dX8_whyNot_53 : decode cX8_whyNot 53 = .ok (.invokestatic 107, 3) := by decide +kernel
theorem dX8_whyNot_56 : decode cX8_whyNot 56 = .ok (.ifCond .eq 7, 3) := by decide +kernel
theorem dX8_whyNot_59 : decode cX8_whyNot 59 = .ok (.iconst 0, 1) := by decide +kernel
theorem dX8_whyNot_60 : decode cX8_whyNot 60 = .ok (.goto 4, 3) := by decide +kernel
theorem dX8_whyNot_63 : decode cX8_whyNot 63 = .ok (.iconst 5, 1) := by decide +kernel
theorem dX8_whyNot_64 : decode cX8_whyNot 64 = .ok (.ireturn, 1) := by decide +kernel
theorem dX8_drown_0 : decode cX8_drown 0 = .ok (.aload_n 0, 1) := by decide +kernel
theorem dX8_drown_1 : decode cX8_drown 1 = .ok (.getfield 37, 3) := by decide +kernel
theorem dX8_drown_4 : decode cX8_drown 4 = .ok (.iload_n 1, 1) := by decide +kernel
theorem dX8_drown_5 : decode cX8_drown 5 = .ok (.iconst 1, 1) := by decide +kernel
theorem dX8_drown_6 : decode cX8_drown 6 = .ok (.bastore, 1) := by decide +kernel
theorem dX8_drown_7 : decode cX8_drown 7 = .ok (.aload_n 0, 1) := by decide +kernel
theorem dX8_drown_8 : decode cX8_drown 8 = .ok (.getfield 34, 3) := by decide +kernel
theorem dX8_drown_11 : decode cX8_drown 11 = .ok (.iload_n 1, 1) := by decide +kernel
theorem dX8_drown_12 : decode cX8_drown 12 = .ok (.iaload, 1) := by decide +kernel
theorem dX8_drown_13 : decode cX8_drown 13 = .ok (.ifCond .lt 36, 3) := by decide +kernel
theorem dX8_drown_16 : decode cX8_drown 16 = .ok (.aload_n 0, 1) := by decide +kernel
theorem dX8_drown_17 : decode cX8_drown 17 = .ok (.getfield 41, 3) := by decide +kernel
theorem dX8_drown_20 : decode cX8_drown 20 = .ok (.aload_n 0, 1) := by decide +kernel
theorem dX8_drown_21 : decode cX8_drown 21 = .ok (.getfield 34, 3) := by decide +kernel
theorem dX8_drown_24 : decode cX8_drown 24 = .ok (.iload_n 1, 1) := by decide +kernel
theorem dX8_drown_25 : decode cX8_drown 25 = .ok (.iaload, 1) := by decide +kernel
theorem dX8_drown_26 : decode cX8_drown 26 = .ok (.iconst 1, 1) := by decide +kernel
theorem dX8_drown_27 : decode cX8_drown 27 = .ok (.bastore, 1) := by decide +kernel
theorem dX8_drown_28 : decode cX8_drown 28 = .ok (.aload_n 0, 1) := by decide +kernel
theorem dX8_drown_29 : decode cX8_drown 29 = .ok (.getfield 28, 3) := by decide +kernel
theorem dX8_drown_32 : decode cX8_drown 32 = .ok (.aload_n 0, 1) := by decide +kernel
theorem dX8_drown_33 : decode cX8_drown 33 = .ok (.getfield 34, 3) := by decide +kernel
theorem dX8_drown_36 : decode cX8_drown 36 = .ok (.iload_n 1, 1) := by decide +kernel
theorem dX8_drown_37 : decode cX8_drown 37 = .ok (.iaload, 1) := by decide +kernel
theorem dX8_drown_38 : decode cX8_drown 38 = .ok (.bipush (-6), 2) := by decide +kernel
theorem dX8_drown_40 : decode cX8_drown 40 = .ok (.iastore, 1) := by decide +kernel
theorem dX8_drown_41 : decode cX8_drown 41 = .ok (.aload_n 0, 1) := by decide +kernel
theorem dX8_drown_42 : decode cX8_drown 42 = .ok (.getfield 34, 3) := by decide +kernel
theorem dX8_drown_45 : decode cX8_drown 45 = .ok (.iload_n 1, 1) := by decide +kernel
theorem dX8_drown_46 : decode cX8_drown 46 = .ok (.bipush (-6), 2) := by decide +kernel
theorem dX8_drown_48 : decode cX8_drown 48 = .ok (.iastore, 1) := by decide +kernel
theorem dX8_drown_49 : decode cX8_drown 49 = .ok (.return_, 1) := by decide +kernel
set_option maxRecDepth 20000 in
theorem ggX8_goLog_X8_beginLog : GoodIn wsX8_goLog wsX8_beginLog := goodIn_r _ [13, 8, 5, 6, 14, 7, 4, 3, 15, 16, 42, 43, 44, 45, 46, 47, 48, 49, 50, 51, 52, 53, 54, 55, 56, 57, 58, 59, 60, 61, 62, 63, 64, 65] (by decide +kernel) (by decide +kernel)
set_option maxRecDepth 20000 in
theorem gX8_goLog_X8_beginLog : GoodIn wsX8_goLog (wsV RX8 111 RX8 yX8_beginLog wsX8_beginLog) := goodIn_app (goodIn_of _ (by decide +kernel)) ggX8_goLog_X8_beginLog
set_option maxRecDepth 20000 in
theorem ggX8_goLog_X8_opens : GoodIn wsX8_goLog wsX8_opens := goodIn_r _ [20, 1, 2, 42, 43, 44, 45, 46, 47, 48, 49, 50, 51, 52, 53, 54, 55, 56, 57, 58, 59, 60, 61, 62, 63, 64, 65] (by decide +kernel) (by decide +kernel)
set_option maxRecDepth 20000 in
theorem gX8_goLog_X8_opens : GoodIn wsX8_goLog (wsV RX8 114 RX8 yX8_opens wsX8_opens) := goodIn_app (goodIn_of _ (by decide +kernel)) ggX8_goLog_X8_opens
set_option maxRecDepth 20000 in
theorem ggX8_goLog_X8_nextDay : GoodIn wsX8_goLog wsX8_nextDay := goodIn_r _ [24, 8, 4, 7, 6, 15, 25, 26, 27, 12, 28, 29, 16, 42, 43, 44, 45, 46, 47, 48, 49, 50, 51, 52, 53, 54, 55, 56, 57, 58, 59, 60, 61, 62, 63, 64, 65] (by decide +kernel) (by decide +kernel)
set_option maxRecDepth 20000 in
theorem gX8_goLog_X8_nextDay : GoodIn wsX8_goLog (wsV RX8 117 RX8 yX8_nextDay wsX8_nextDay) := goodIn_app (goodIn_of _ (by decide +kernel)) ggX8_goLog_X8_nextDay
set_option maxRecDepth 20000 in
theorem ggX8_goLog_X8_drown : GoodIn wsX8_goLog wsX8_drown := goodIn_r _ [33, 3, 4, 14, 6, 42, 43, 44, 45, 46, 47, 48, 49, 50, 51, 52, 53, 54, 55, 56, 57, 58, 59, 60, 61, 62, 63, 64, 65] (by decide +kernel) (by decide +kernel)
set_option maxRecDepth 20000 in
theorem gX8_goLog_X8_drown : GoodIn wsX8_goLog (wsV RX8 120 RX8 yX8_drown wsX8_drown) := goodIn_app (goodIn_of _ (by decide +kernel)) ggX8_goLog_X8_drown
set_option maxRecDepth 20000 in
theorem ggX8_goLog_X8_whyNot : GoodIn wsX8_goLog wsX8_whyNot := goodIn_r _ [37, 14, 6, 3, 4, 38, 39, 40, 12, 41, 42, 43, 44, 45, 46, 47, 48, 49, 50, 51, 52, 53, 54, 55, 56, 57, 58, 59, 60, 61, 62, 63, 64, 65] (by decide +kernel) (by decide +kernel)
set_option maxRecDepth 20000 in
theorem gX8_goLog_X8_whyNot : GoodIn wsX8_goLog (wsV RX8 124 RX8 yX8_whyNot wsX8_whyNot) := goodIn_app (goodIn_of _ (by decide +kernel)) ggX8_goLog_X8_whyNot
set_option maxRecDepth 20000 in
theorem ggX8_goLog_X8_keepWho : GoodIn wsX8_goLog wsX8_keepWho := goodIn_r _ [28, 8, 29, 16, 4, 42, 43, 44, 45, 46, 47, 48, 49, 50, 51, 52, 53, 54, 55, 56, 57, 58, 59, 60, 61, 62, 63, 64, 65] (by decide +kernel) (by decide +kernel)
set_option maxRecDepth 20000 in
theorem gX8_goLog_X8_keepWho : GoodIn wsX8_goLog (wsV RX8 104 RX8 yX8_keepWho wsX8_keepWho) := goodIn_app (goodIn_of _ (by decide +kernel)) ggX8_goLog_X8_keepWho
theorem dX8_goLog_0 : decode cX8_goLog 0 = .ok (.aload_n 0, 1) := by decide +kernel
theorem dX8_goLog_1 : decode cX8_goLog 1 = .ok (.invokevirtual 111, 3) := by decide +kernel
theorem dX8_goLog_4 : decode cX8_goLog 4 = .ok (.iconst 1, 1) := by decide +kernel
theorem dX8_goLog_5 : decode cX8_goLog 5 = .ok (.istore_n 2, 1) := by decide +kernel
theorem dX8_goLog_6 : decode cX8_goLog 6 = .ok (.iconst 1, 1) := by decide +kernel
theorem dX8_goLog_7 : decode cX8_goLog 7 = .ok (.istore_n 3, 1) := by decide +kernel
theorem dX8_goLog_8 : decode cX8_goLog 8 = .ok (.iload_n 3, 1) := by decide +kernel
theorem dX8_goLog_9 : decode cX8_goLog 9 = .ok (.aload_n 0, 1) := by decide +kernel
theorem dX8_goLog_10 : decode cX8_goLog 10 = .ok (.invokevirtual 114, 3) := by decide +kernel
theorem dX8_goLog_13 : decode cX8_goLog 13 = .ok (.if_icmp .ge 14, 3) := by decide +kernel
theorem dX8_goLog_16 : decode cX8_goLog 16 = .ok (.iload_n 2, 1) := by decide +kernel
theorem dX8_goLog_17 : decode cX8_goLog 17 = .ok (.bipush 6, 2) := by decide +kernel
theorem dX8_goLog_19 : decode cX8_goLog 19 = .ok (.imul, 1) := by decide +kernel
theorem dX8_goLog_20 : decode cX8_goLog 20 = .ok (.istore_n 2, 1) := by decide +kernel
theorem dX8_goLog_21 : decode cX8_goLog 21 = .ok (.iinc 3 1, 3) := by decide +kernel
theorem dX8_goLog_24 : decode cX8_goLog 24 = .ok (.goto (-16), 3) := by decide +kernel
theorem dX8_goLog_27 : decode cX8_goLog 27 = .ok (.iconst 0, 1) := by decide +kernel
theorem dX8_goLog_28 : decode cX8_goLog 28 = .ok (.istore_n 3, 1) := by decide +kernel
theorem dX8_goLog_29 : decode cX8_goLog 29 = .ok (.iconst 0, 1) := by decide +kernel
theorem dX8_goLog_30 : decode cX8_goLog 30 = .ok (.istore 4, 2) := by decide +kernel
theorem dX8_goLog_32 : decode cX8_goLog 32 = .ok (.iload_n 3, 1) := by decide +kernel
theorem dX8_goLog_33 : decode cX8_goLog 33 = .ok (.aload_n 0, 1) := by decide +kernel
theorem dX8_goLog_34 : decode cX8_goLog 34 = .ok (.getfield 87, 3) := by decide +kernel
theorem dX8_goLog_37 : decode cX8_goLog 37 = .ok (.if_icmp .ge 236, 3) := by decide +kernel
theorem dX8_goLog_40 : decode cX8_goLog 40 = .ok (.aload_n 0, 1) := by decide +kernel
theorem dX8_goLog_41 : decode cX8_goLog 41 = .ok (.getfield 25, 3) := by decide +kernel
theorem dX8_goLog_44 : decode cX8_goLog 44 = .ok (.iload_n 3, 1) := by decide +kernel
theorem dX8_goLog_45 : decode cX8_goLog 45 = .ok (.iaload, 1) := by decide +kernel
theorem dX8_goLog_46 : decode cX8_goLog 46 = .ok (.istore 5, 2) := by decide +kernel
theorem dX8_goLog_48 : decode cX8_goLog 48 = .ok (.iload 5, 2) := by decide +kernel
theorem dX8_goLog_50 : decode cX8_goLog 50 = .ok (.bipush 46, 2) := by decide +kernel
theorem dX8_goLog_52 : decode cX8_goLog 52 = .ok (.if_icmp .ne 13, 3) := by decide +kernel
theorem dX8_goLog_55 : decode cX8_goLog 55 = .ok (.aload_n 0, 1) := by decide +kernel
theorem dX8_goLog_56 : decode cX8_goLog 56 = .ok (.invokevirtual 117, 3) := by decide +kernel
theorem dX8_goLog_59 : decode cX8_goLog 59 = .ok (.iinc 3 1, 3) := by decide +kernel
theorem dX8_goLog_62 : decode cX8_goLog 62 = .ok (.goto 205, 3) := by decide +kernel
theorem dX8_goLog_65 : decode cX8_goLog 65 = .ok (.iload 5, 2) := by decide +kernel
theorem dX8_goLog_67 : decode cX8_goLog 67 = .ok (.bipush 33, 2) := by decide +kernel
theorem dX8_goLog_69 : decode cX8_goLog 69 = .ok (.if_icmp .ne 71, 3) := by decide +kernel
theorem dX8_goLog_72 : decode cX8_goLog 72 = .ok (.aload_n 0, 1) := by decide +kernel
theorem dX8_goLog_73 : decode cX8_goLog 73 = .ok (.getfield 25, 3) := by decide +kernel
theorem dX8_goLog_76 : decode cX8_goLog 76 = .ok (.iload_n 3, 1) := by decide +kernel
theorem dX8_goLog_77 : decode cX8_goLog 77 = .ok (.iconst 1, 1) := by decide +kernel
theorem dX8_goLog_78 : decode cX8_goLog 78 = .ok (.iadd, 1) := by decide +kernel
theorem dX8_goLog_79 : decode cX8_goLog 79 = .ok (.iaload, 1) := by decide +kernel
theorem dX8_goLog_80 : decode cX8_goLog 80 = .ok (.bipush 97, 2) := by decide +kernel
theorem dX8_goLog_82 : decode cX8_goLog 82 = .ok (.isub, 1) := by decide +kernel
theorem dX8_goLog_83 : decode cX8_goLog 83 = .ok (.istore 6, 2) := by decide +kernel
theorem dX8_goLog_85 : decode cX8_goLog 85 = .ok (.aload_n 0, 1) := by decide +kernel
theorem dX8_goLog_86 : decode cX8_goLog 86 = .ok (.aload_n 0, 1) := by decide +kernel
theorem dX8_goLog_87 : decode cX8_goLog 87 = .ok (.getfield 37, 3) := by decide +kernel
theorem dX8_goLog_90 : decode cX8_goLog 90 = .ok (.iload 6, 2) := by decide +kernel
theorem dX8_goLog_92 : decode cX8_goLog 92 = .ok (.baload, 1) := by decide +kernel
theorem dX8_goLog_93 : decode cX8_goLog 93 = .ok (.ifCond .eq 7, 3) := by decide +kernel
theorem dX8_goLog_96 : decode cX8_goLog 96 = .ok (.iconst 3, 1) := by decide +kernel
theorem dX8_goLog_97 : decode cX8_goLog 97 = .ok (.goto 18, 3) := by decide +kernel
theorem dX8_goLog_100 : decode cX8_goLog 100 = .ok (.aload_n 0, 1) := by decide +kernel
theorem dX8_goLog_101 : decode cX8_goLog 101 = .ok (.getfield 34, 3) := by decide +kernel
theorem dX8_goLog_104 : decode cX8_goLog 104 = .ok (.iload 6, 2) := by decide +kernel
theorem dX8_goLog_106 : decode cX8_goLog 106 = .ok (.iaload, 1) := by decide +kernel
theorem dX8_goLog_107 : decode cX8_goLog 107 = .ok (.ifCond .ge 7, 3) := by decide +kernel
theorem dX8_goLog_110 : decode cX8_goLog 110 = .ok (.iconst 4, 1) := by decide +kernel
theorem dX8_goLog_111 : decode cX8_goLog 111 = .ok (.goto 4, 3) := by decide +kernel
theorem dX8_goLog_114 : decode cX8_goLog 114 = .ok (.iconst 0, 1) := by decide +kernel
theorem dX8_goLog_115 : decode cX8_goLog 115 = .ok (.putfield 98, 3) := by decide +kernel
theorem dX8_goLog_118 : decode cX8_goLog 118 = .ok (.aload_n 0, 1) := by decide +kernel
theorem dX8_goLog_119 : decode cX8_goLog 119 = .ok (.getfield 98, 3) := by decide +kernel
theorem dX8_goLog_122 : decode cX8_goLog 122 = .ok (.ifCond .le 6, 3) := by decide +kernel
theorem dX8_goLog_125 : decode cX8_goLog 125 = .ok (.iload 4, 2) := by decide +kernel
theorem dX8_goLog_127 : decode cX8_goLog 127 = .ok (.ireturn, 1) := by decide +kernel
theorem dX8_goLog_128 : decode cX8_goLog 128 = .ok (.aload_n 0, 1) := by decide +kernel
theorem dX8_goLog_129 : decode cX8_goLog 129 = .ok (.iload 6, 2) := by decide +kernel
theorem dX8_goLog_131 : decode cX8_goLog 131 = .ok (.invokevirtual 120, 3) := by decide +kernel
theorem dX8_goLog_134 : decode cX8_goLog 134 = .ok (.iinc 3 2, 3) := by decide +kernel
theorem dX8_goLog_137 : decode cX8_goLog 137 = .ok (.goto 130, 3) := by decide +kernel
theorem dX8_goLog_140 : decode cX8_goLog 140 = .ok (.iload 5, 2) := by decide +kernel
theorem dX8_goLog_142 : decode cX8_goLog 142 = .ok (.bipush 63, 2) := by decide +kernel
theorem dX8_goLog_144 : decode cX8_goLog 144 = .ok (.if_icmp .ne 12, 3) := by decide +kernel
theorem dX8_goLog_147 : decode cX8_goLog 147 = .ok (.iload_n 1, 1) := by decide +kernel
theorem dX8_goLog_148 : decode cX8_goLog 148 = .ok (.iload_n 2, 1) := by decide +kernel
theorem dX8_goLog_149 : decode cX8_goLog 149 = .ok (.idiv, 1) := by decide +kernel
theorem dX8_goLog_150 : decode cX8_goLog 150 = .ok (.bipush 6, 2) := by decide +kernel
theorem dX8_goLog_152 : decode cX8_goLog 152 = .ok (.irem, 1) := by decide +kernel
theorem dX8_goLog_153 : decode cX8_goLog 153 = .ok (.goto 8, 3) := by decide +kernel
theorem dX8_goLog_156 : decode cX8_goLog 156 = .ok (.iload 5, 2) := by decide +kernel
theorem dX8_goLog_158 : decode cX8_goLog 158 = .ok (.bipush 65, 2) := by decide +kernel
theorem dX8_goLog_160 : decode cX8_goLog 160 = .ok (.isub, 1) := by decide +kernel
theorem dX8_goLog_161 : decode cX8_goLog 161 = .ok (.istore 6, 2) := by decide +kernel
theorem dX8_goLog_163 : decode cX8_goLog 163 = .ok (.iload 5, 2) := by decide +kernel
theorem dX8_goLog_165 : decode cX8_goLog 165 = .ok (.bipush 63, 2) := by decide +kernel
theorem dX8_goLog_167 : decode cX8_goLog 167 = .ok (.if_icmp .ne 15, 3) := by decide +kernel
theorem dX8_goLog_170 : decode cX8_goLog 170 = .ok (.iload_n 2, 1) := by decide +kernel
theorem dX8_goLog_171 : decode cX8_goLog 171 = .ok (.iconst 1, 1) := by decide +kernel
theorem dX8_goLog_172 : decode cX8_goLog 172 = .ok (.if_icmp .le 10, 3) := by decide +kernel
theorem dX8_goLog_175 : decode cX8_goLog 175 = .ok (.iload_n 2, 1) := by decide +kernel
theorem dX8_goLog_176 : decode cX8_goLog 176 = .ok (.bipush 6, 2) := by decide +kernel
theorem dX8_goLog_178 : decode cX8_goLog 178 = .ok (.idiv, 1) := by decide +kernel
theorem dX8_goLog_179 : decode cX8_goLog 179 = .ok (.goto 4, 3) := by decide +kernel
theorem dX8_goLog_182 : decode cX8_goLog 182 = .ok (.iload_n 2, 1) := by decide +kernel
theorem dX8_goLog_183 : decode cX8_goLog 183 = .ok (.istore_n 2, 1) := by decide +kernel
theorem dX8_goLog_184 : decode cX8_goLog 184 = .ok (.aload_n 0, 1) := by decide +kernel
theorem dX8_goLog_185 : decode cX8_goLog 185 = .ok (.getfield 25, 3) := by decide +kernel
theorem dX8_goLog_188 : decode cX8_goLog 188 = .ok (.iload_n 3, 1) := by decide +kernel
theorem dX8_goLog_189 : decode cX8_goLog 189 = .ok (.iconst 1, 1) := by decide +kernel
theorem dX8_goLog_190 : decode cX8_goLog 190 = .ok (.iadd, 1) := by decide +kernel
theorem dX8_goLog_191 : decode cX8_goLog 191 = .ok (.iaload, 1) := by decide +kernel
theorem dX8_goLog_192 : decode cX8_goLog 192 = .ok (.bipush 97, 2) := by decide +kernel
theorem dX8_goLog_194 : decode cX8_goLog 194 = .ok (.isub, 1) := by decide +kernel
theorem dX8_goLog_195 : decode cX8_goLog 195 = .ok (.istore 7, 2) := by decide +kernel
theorem dX8_goLog_197 : decode cX8_goLog 197 = .ok (.aload_n 0, 1) := by decide +kernel
theorem dX8_goLog_198 : decode cX8_goLog 198 = .ok (.aload_n 0, 1) := by decide +kernel
theorem dX8_goLog_199 : decode cX8_goLog 199 = .ok (.iload 6, 2) := by decide +kernel
theorem dX8_goLog_201 : decode cX8_goLog 201 = .ok (.iload 7, 2) := by decide +kernel
theorem dX8_goLog_203 : decode cX8_goLog 203 = .ok (.invokevirtual 124, 3) := by decide +kernel
theorem dX8_goLog_206 : decode cX8_goLog 206 = .ok (.putfield 98, 3) := by decide +kernel
theorem dX8_goLog_209 : decode cX8_goLog 209 = .ok (.aload_n 0, 1) := by decide +kernel
theorem dX8_goLog_210 : decode cX8_goLog 210 = .ok (.getfield 98, 3) := by decide +kernel
theorem dX8_goLog_213 : decode cX8_goLog 213 = .ok (.ifCond .le 6, 3) := by decide +kernel
theorem dX8_goLog_216 : decode cX8_goLog 216 = .ok (.iload 4, 2) := by decide +kernel
theorem dX8_goLog_218 : decode cX8_goLog 218 = .ok (.ireturn, 1) := by decide +kernel
theorem dX8_goLog_219 : decode cX8_goLog 219 = .ok (.aload_n 0, 1) := by decide +kernel
theorem dX8_goLog_220 : decode cX8_goLog 220 = .ok (.getfield 28, 3) := by decide +kernel
theorem dX8_goLog_223 : decode cX8_goLog 223 = .ok (.iload 6, 2) := by decide +kernel
theorem dX8_goLog_225 : decode cX8_goLog 225 = .ok (.iload 7, 2) := by decide +kernel
theorem dX8_goLog_227 : decode cX8_goLog 227 = .ok (.iastore, 1) := by decide +kernel
theorem dX8_goLog_228 : decode cX8_goLog 228 = .ok (.aload_n 0, 1) := by decide +kernel
theorem dX8_goLog_229 : decode cX8_goLog 229 = .ok (.getfield 34, 3) := by decide +kernel
theorem dX8_goLog_232 : decode cX8_goLog 232 = .ok (.iload 7, 2) := by decide +kernel
theorem dX8_goLog_234 : decode cX8_goLog 234 = .ok (.iload 6, 2) := by decide +kernel
theorem dX8_goLog_236 : decode cX8_goLog 236 = .ok (.iastore, 1) := by decide +kernel
theorem dX8_goLog_237 : decode cX8_goLog 237 = .ok (.aload_n 0, 1) := by decide +kernel
theorem dX8_goLog_238 : decode cX8_goLog 238 = .ok (.getfield 31, 3) := by decide +kernel
theorem dX8_goLog_241 : decode cX8_goLog 241 = .ok (.iload 7, 2) := by decide +kernel
theorem dX8_goLog_243 : decode cX8_goLog 243 = .ok (.aload_n 0, 1) := by decide +kernel
theorem dX8_goLog_244 : decode cX8_goLog 244 = .ok (.getfield 95, 3) := by decide +kernel
theorem dX8_goLog_247 : decode cX8_goLog 247 = .ok (.aload_n 0, 1) := by decide +kernel
theorem dX8_goLog_248 : decode cX8_goLog 248 = .ok (.getfield 25, 3) := by decide +kernel
theorem dX8_goLog_251 : decode cX8_goLog 251 = .ok (.iload_n 3, 1) := by decide +kernel
theorem dX8_goLog_252 : decode cX8_goLog 252 = .ok (.iconst 2, 1) := by decide +kernel
theorem dX8_goLog_253 : decode cX8_goLog 253 = .ok (.iadd, 1) := by decide +kernel
theorem dX8_goLog_254 : decode cX8_goLog 254 = .ok (.iaload, 1) := by decide +kernel
theorem dX8_goLog_255 : decode cX8_goLog 255 = .ok (.iadd, 1) := by decide +kernel
theorem dX8_goLog_256 : decode cX8_goLog 256 = .ok (.bipush 48, 2) := by decide +kernel
theorem dX8_goLog_258 : decode cX8_goLog 258 = .ok (.isub, 1) := by decide +kernel
theorem dX8_goLog_259 : decode cX8_goLog 259 = .ok (.iastore, 1) := by decide +kernel
theorem dX8_goLog_260 : decode cX8_goLog 260 = .ok (.aload_n 0, 1) := by decide +kernel
theorem dX8_goLog_261 : decode cX8_goLog 261 = .ok (.invokevirtual 104, 3) := by decide +kernel
theorem dX8_goLog_264 : decode cX8_goLog 264 = .ok (.iinc 3 3, 3) := by decide +kernel
theorem dX8_goLog_267 : decode cX8_goLog 267 = .ok (.iinc 4 1, 3) := by decide +kernel
theorem dX8_goLog_270 : decode cX8_goLog 270 = .ok (.goto (-238), 3) := by decide +kernel
theorem dX8_goLog_273 : decode cX8_goLog 273 = .ok (.bipush (-6), 2) := by decide +kernel
theorem dX8_goLog_275 : decode cX8_goLog 275 = .ok (.ireturn, 1) := by decide +kernel
set_option maxRecDepth 20000 in
theorem ggX8_judge_X8_in : GoodIn wsX8_judge wsX8_in := goodIn_r _ [5] (by decide +kernel) (by decide +kernel)
set_option maxRecDepth 20000 in
theorem gX8_judge_X8_in : GoodIn wsX8_judge (va_wsS RX8 71 yX8_in wsX8_in) := goodIn_app (goodIn_of _ (by decide +kernel)) ggX8_judge_X8_in
set_option maxRecDepth 20000 in
theorem ggX8_judge_X8_faultOf : GoodIn wsX8_judge wsX8_faultOf := goodIn_r _ [9, 10, 11, 2, 3, 4, 5, 53, 54, 55, 56, 57, 58, 59, 60, 61, 62, 63, 64, 65, 66, 67, 68, 69, 70, 71, 72, 73, 74, 75, 76] (by decide +kernel) (by decide +kernel)
set_option maxRecDepth 20000 in
theorem gX8_judge_X8_faultOf : GoodIn wsX8_judge (wsV RX8 91 RX8 yX8_faultOf wsX8_faultOf) := goodIn_app (goodIn_of _ (by decide +kernel)) ggX8_judge_X8_faultOf
set_option maxRecDepth 20000 in
theorem ggX8_judge_X8_opens : GoodIn wsX8_judge wsX8_opens := goodIn_r _ [15, 10, 11, 53, 54, 55, 56, 57, 58, 59, 60, 61, 62, 63, 64, 65, 66, 67, 68, 69, 70, 71, 72, 73, 74, 75, 76] (by decide +kernel) (by decide +kernel)
set_option maxRecDepth 20000 in
theorem gX8_judge_X8_opens : GoodIn wsX8_judge (wsV RX8 114 RX8 yX8_opens wsX8_opens) := goodIn_app (goodIn_of _ (by decide +kernel)) ggX8_judge_X8_opens
set_option maxRecDepth 20000 in
theorem ggX8_judge_X8_goLog : GoodIn wsX8_judge wsX8_goLog := goodIn_r _ [19, 10, 11, 20, 21, 1, 22, 23, 24, 25, 26, 27, 4, 28, 29, 30, 31, 12, 13, 14, 15, 32, 33, 34, 35, 36, 37, 38, 39, 40, 41, 42, 43, 44, 45, 46, 47, 48, 49, 50, 51, 52, 53, 54, 55, 56, 57, 58, 59, 60, 61, 62, 63, 64, 65, 66, 67, 68, 69, 70, 71, 72, 73, 74, 75, 76] (by decide +kernel) (by decide +kernel)
set_option maxRecDepth 20000 in
theorem gX8_judge_X8_goLog : GoodIn wsX8_judge (wsV RX8 127 RX8 yX8_goLog wsX8_goLog) := goodIn_app (goodIn_of _ (by decide +kernel)) ggX8_judge_X8_goLog
theorem dX8_judge_0 : decode cX8_judge 0 = .ok (.iload_n 1, 1) := by decide +kernel
theorem dX8_judge_1 : decode cX8_judge 1 = .ok (.iconst 0, 1) := by decide +kernel
theorem dX8_judge_2 : decode cX8_judge 2 = .ok (.iconst 1, 1) := by decide +kernel
theorem dX8_judge_3 : decode cX8_judge 3 = .ok (.invokestatic 71, 3) := by decide +kernel
theorem dX8_judge_6 : decode cX8_judge 6 = .ok (.ifCond .ne 6, 3) := by decide +kernel
theorem dX8_judge_9 : decode cX8_judge 9 = .ok (.bipush (-2), 2) := by decide +kernel
theorem dX8_judge_11 : decode cX8_judge 11 = .ok (.ireturn, 1) := by decide +kernel
theorem dX8_judge_12 : decode cX8_judge 12 = .ok (.aload_n 0, 1) := by decide +kernel
theorem dX8_judge_13 : decode cX8_judge 13 = .ok (.invokevirtual 91, 3) := by decide +kernel
theorem dX8_judge_16 : decode cX8_judge 16 = .ok (.ifCond .lt 6, 3) := by decide +kernel
theorem dX8_judge_19 : decode cX8_judge 19 = .ok (.bipush (-5), 2) := by decide +kernel
theorem dX8_judge_21 : decode cX8_judge 21 = .ok (.ireturn, 1) := by decide +kernel
theorem dX8_judge_22 : decode cX8_judge 22 = .ok (.aload_n 0, 1) := by decide +kernel
theorem dX8_judge_23 : decode cX8_judge 23 = .ok (.invokevirtual 114, 3) := by decide +kernel
theorem dX8_judge_26 : decode cX8_judge 26 = .ok (.ifCond .le 6, 3) := by decide +kernel
theorem dX8_judge_29 : decode cX8_judge 29 = .ok (.bipush (-3), 2) := by decide +kernel
theorem dX8_judge_31 : decode cX8_judge 31 = .ok (.ireturn, 1) := by decide +kernel
theorem dX8_judge_32 : decode cX8_judge 32 = .ok (.aload_n 0, 1) := by decide +kernel
theorem dX8_judge_33 : decode cX8_judge 33 = .ok (.iconst 0, 1) := by decide +kernel
theorem dX8_judge_34 : decode cX8_judge 34 = .ok (.invokevirtual 127, 3) := by decide +kernel
theorem dX8_judge_37 : decode cX8_judge 37 = .ok (.istore_n 2, 1) := by decide +kernel
theorem dX8_judge_38 : decode cX8_judge 38 = .ok (.iload_n 2, 1) := by decide +kernel
theorem dX8_judge_39 : decode cX8_judge 39 = .ok (.ifCond .lt 7, 3) := by decide +kernel
theorem dX8_judge_42 : decode cX8_judge 42 = .ok (.iload_n 1, 1) := by decide +kernel
theorem dX8_judge_43 : decode cX8_judge 43 = .ok (.ifCond .ne 7, 3) := by decide +kernel
theorem dX8_judge_46 : decode cX8_judge 46 = .ok (.iload_n 2, 1) := by decide +kernel
theorem dX8_judge_47 : decode cX8_judge 47 = .ok (.goto 7, 3) := by decide +kernel
theorem dX8_judge_50 : decode cX8_judge 50 = .ok (.aload_n 0, 1) := by decide +kernel
theorem dX8_judge_51 : decode cX8_judge 51 = .ok (.getfield 98, 3) := by decide +kernel
theorem dX8_judge_54 : decode cX8_judge 54 = .ok (.ireturn, 1) := by decide +kernel
set_option maxRecDepth 20000 in
theorem ggX8_log_X8_in : GoodIn wsX8_log wsX8_in := goodIn_r _ [11] (by decide +kernel) (by decide +kernel)
set_option maxRecDepth 20000 in
theorem gX8_log_X8_in : GoodIn wsX8_log (va_wsS RX8 71 yX8_in wsX8_in) := goodIn_app (goodIn_of _ (by decide +kernel)) ggX8_log_X8_in
set_option maxRecDepth 20000 in
theorem ggX8_log_X8_faultOf : GoodIn wsX8_log wsX8_faultOf := goodIn_r _ [15, 16, 17, 8, 9, 10, 11, 53, 54, 55, 56, 57, 58, 59, 60, 61, 62, 63, 64, 65, 66, 67, 68, 69, 70, 71, 72, 73, 74, 75, 76] (by decide +kernel) (by decide +kernel)
set_option maxRecDepth 20000 in
theorem gX8_log_X8_faultOf : GoodIn wsX8_log (wsV RX8 91 RX8 yX8_faultOf wsX8_faultOf) := goodIn_app (goodIn_of _ (by decide +kernel)) ggX8_log_X8_faultOf
set_option maxRecDepth 20000 in
theorem ggX8_log_X8_opens : GoodIn wsX8_log wsX8_opens := goodIn_r _ [21, 16, 17, 53, 54, 55, 56, 57, 58, 59, 60, 61, 62, 63, 64, 65, 66, 67, 68, 69, 70, 71, 72, 73, 74, 75, 76] (by decide +kernel) (by decide +kernel)
set_option maxRecDepth 20000 in
theorem gX8_log_X8_opens : GoodIn wsX8_log (wsV RX8 114 RX8 yX8_opens wsX8_opens) := goodIn_app (goodIn_of _ (by decide +kernel)) ggX8_log_X8_opens
set_option maxRecDepth 20000 in
theorem ggX8_log_X8_goLog : GoodIn wsX8_log wsX8_goLog := goodIn_r _ [25, 16, 17, 4, 5, 26, 3, 6, 1, 27, 28, 29, 10, 30, 2, 7, 31, 18, 19, 20, 21, 32, 33, 34, 35, 36, 37, 38, 39, 40, 41, 42, 43, 44, 45, 46, 47, 48, 49, 50, 51, 52, 53, 54, 55, 56, 57, 58, 59, 60, 61, 62, 63, 64, 65, 66, 67, 68, 69, 70, 71, 72, 73, 74, 75, 76] (by decide +kernel) (by decide +kernel)
set_option maxRecDepth 20000 in
theorem gX8_log_X8_goLog : GoodIn wsX8_log (wsV RX8 127 RX8 yX8_goLog wsX8_goLog) := goodIn_app (goodIn_of _ (by decide +kernel)) ggX8_log_X8_goLog
theorem dX8_log_0 : decode cX8_log 0 = .ok (.iload_n 1, 1) := by decide +kernel
theorem dX8_log_1 : decode cX8_log 1 = .ok (.bipush 10, 2) := by decide +kernel
theorem dX8_log_3 : decode cX8_log 3 = .ok (.irem, 1) := by decide +kernel
theorem dX8_log_4 : decode cX8_log 4 = .ok (.istore_n 2, 1) := by decide +kernel
theorem dX8_log_5 : decode cX8_log 5 = .ok (.iload_n 1, 1) := by decide +kernel
theorem dX8_log_6 : decode cX8_log 6 = .ok (.ifCond .eq 34, 3) := by decide +kernel
theorem dX8_log_9 : decode cX8_log 9 = .ok (.iload_n 1, 1) := by decide +kernel
theorem dX8_log_10 : decode cX8_log 10 = .ok (.bipush 10, 2) := by decide +kernel
theorem dX8_log_12 : decode cX8_log 12 = .ok (.bipush 15, 2) := by decide +kernel
theorem dX8_log_14 : decode cX8_log 14 = .ok (.invokestatic 71, 3) := by decide +kernel
theorem dX8_log_17 : decode cX8_log 17 = .ok (.ifCond .ne 23, 3) := by decide +kernel
theorem dX8_log_20 : decode cX8_log 20 = .ok (.iload_n 1, 1) := by decide +kernel
theorem dX8_log_21 : decode cX8_log 21 = .ok (.bipush 20, 2) := by decide +kernel
theorem dX8_log_23 : decode cX8_log 23 = .ok (.bipush 49, 2) := by decide +kernel
theorem dX8_log_25 : decode cX8_log 25 = .ok (.invokestatic 71, 3) := by decide +kernel
theorem dX8_log_28 : decode cX8_log 28 = .ok (.ifCond .eq 16, 3) := by decide +kernel
theorem dX8_log_31 : decode cX8_log 31 = .ok (.iload_n 2, 1) := by decide +kernel
theorem dX8_log_32 : decode cX8_log 32 = .ok (.iconst 0, 1) := by decide +kernel
theorem dX8_log_33 : decode cX8_log 33 = .ok (.iconst 4, 1) := by decide +kernel
theorem dX8_log_34 : decode cX8_log 34 = .ok (.invokestatic 71, 3) := by decide +kernel
theorem dX8_log_37 : decode cX8_log 37 = .ok (.ifCond .eq 7, 3) := by decide +kernel
theorem dX8_log_40 : decode cX8_log 40 = .ok (.iconst 1, 1) := by decide +kernel
theorem dX8_log_41 : decode cX8_log 41 = .ok (.goto 4, 3) := by decide +kernel
theorem dX8_log_44 : decode cX8_log 44 = .ok (.iconst 0, 1) := by decide +kernel
theorem dX8_log_45 : decode cX8_log 45 = .ok (.istore_n 3, 1) := by decide +kernel
theorem dX8_log_46 : decode cX8_log 46 = .ok (.iload_n 3, 1) := by decide +kernel
theorem dX8_log_47 : decode cX8_log 47 = .ok (.ifCond .ne 6, 3) := by decide +kernel
theorem dX8_log_50 : decode cX8_log 50 = .ok (.bipush (-2), 2) := by decide +kernel
theorem dX8_log_52 : decode cX8_log 52 = .ok (.ireturn, 1) := by decide +kernel
theorem dX8_log_53 : decode cX8_log 53 = .ok (.aload_n 0, 1) := by decide +kernel
theorem dX8_log_54 : decode cX8_log 54 = .ok (.invokevirtual 91, 3) := by decide +kernel
theorem dX8_log_57 : decode cX8_log 57 = .ok (.ifCond .lt 6, 3) := by decide +kernel
theorem dX8_log_60 : decode cX8_log 60 = .ok (.bipush (-5), 2) := by decide +kernel
theorem dX8_log_62 : decode cX8_log 62 = .ok (.ireturn, 1) := by decide +kernel
theorem dX8_log_63 : decode cX8_log 63 = .ok (.aload_n 0, 1) := by decide +kernel
theorem dX8_log_64 : decode cX8_log 64 = .ok (.invokevirtual 114, 3) := by decide +kernel
theorem dX8_log_67 : decode cX8_log 67 = .ok (.ifCond .gt 11, 3) := by decide +kernel
theorem dX8_log_70 : decode cX8_log 70 = .ok (.aload_n 0, 1) := by decide +kernel
theorem dX8_log_71 : decode cX8_log 71 = .ok (.iconst 0, 1) := by decide +kernel
theorem dX8_log_72 : decode cX8_log 72 = .ok (.invokevirtual 127, 3) := by decide +kernel
theorem dX8_log_75 : decode cX8_log 75 = .ok (.ifCond .lt 6, 3) := by decide +kernel
theorem dX8_log_78 : decode cX8_log 78 = .ok (.bipush (-3), 2) := by decide +kernel
theorem dX8_log_80 : decode cX8_log 80 = .ok (.ireturn, 1) := by decide +kernel
theorem dX8_log_81 : decode cX8_log 81 = .ok (.iload_n 1, 1) := by decide +kernel
theorem dX8_log_82 : decode cX8_log 82 = .ok (.bipush 10, 2) := by decide +kernel
theorem dX8_log_84 : decode cX8_log 84 = .ok (.idiv, 1) := by decide +kernel
theorem dX8_log_85 : decode cX8_log 85 = .ok (.tableswitch 115 0 3 #[31, 36, 57, 78], 31) := by decide +kernel
theorem dX8_log_116 : decode cX8_log 116 = .ok (.aload_n 0, 1) := by decide +kernel
theorem dX8_log_117 : decode cX8_log 117 = .ok (.getfield 95, 3) := by decide +kernel
theorem dX8_log_120 : decode cX8_log 120 = .ok (.ireturn, 1) := by decide +kernel
theorem dX8_log_121 : decode cX8_log 121 = .ok (.aload_n 0, 1) := by decide +kernel
theorem dX8_log_122 : decode cX8_log 122 = .ok (.getfield 41, 3) := by decide +kernel
theorem dX8_log_125 : decode cX8_log 125 = .ok (.iload_n 2, 1) := by decide +kernel
theorem dX8_log_126 : decode cX8_log 126 = .ok (.baload, 1) := by decide +kernel
theorem dX8_log_127 : decode cX8_log 127 = .ok (.ifCond .eq 8, 3) := by decide +kernel
theorem dX8_log_130 : decode cX8_log 130 = .ok (.bipush (-7), 2) := by decide +kernel
theorem dX8_log_132 : decode cX8_log 132 = .ok (.goto 9, 3) := by decide +kernel
theorem dX8_log_135 : decode cX8_log 135 = .ok (.aload_n 0, 1) := by decide +kernel
theorem dX8_log_136 : decode cX8_log 136 = .ok (.getfield 28, 3) := by decide +kernel
theorem dX8_log_139 : decode cX8_log 139 = .ok (.iload_n 2, 1) := by decide +kernel
theorem dX8_log_140 : decode cX8_log 140 = .ok (.iaload, 1) := by decide +kernel
theorem dX8_log_141 : decode cX8_log 141 = .ok (.ireturn, 1) := by decide +kernel
theorem dX8_log_142 : decode cX8_log 142 = .ok (.aload_n 0, 1) := by decide +kernel
theorem dX8_log_143 : decode cX8_log 143 = .ok (.getfield 37, 3) := by decide +kernel
theorem dX8_log_146 : decode cX8_log 146 = .ok (.iload_n 2, 1) := by decide +kernel
theorem dX8_log_147 : decode cX8_log 147 = .ok (.baload, 1) := by decide +kernel
theorem dX8_log_148 : decode cX8_log 148 = .ok (.ifCond .eq 8, 3) := by decide +kernel
theorem dX8_log_151 : decode cX8_log 151 = .ok (.bipush (-7), 2) := by decide +kernel
theorem dX8_log_153 : decode cX8_log 153 = .ok (.goto 9, 3) := by decide +kernel
theorem dX8_log_156 : decode cX8_log 156 = .ok (.aload_n 0, 1) := by decide +kernel
theorem dX8_log_157 : decode cX8_log 157 = .ok (.getfield 34, 3) := by decide +kernel
theorem dX8_log_160 : decode cX8_log 160 = .ok (.iload_n 2, 1) := by decide +kernel
theorem dX8_log_161 : decode cX8_log 161 = .ok (.iaload, 1) := by decide +kernel
theorem dX8_log_162 : decode cX8_log 162 = .ok (.ireturn, 1) := by decide +kernel
theorem dX8_log_163 : decode cX8_log 163 = .ok (.aload_n 0, 1) := by decide +kernel
theorem dX8_log_164 : decode cX8_log 164 = .ok (.getfield 37, 3) := by decide +kernel
theorem dX8_log_167 : decode cX8_log 167 = .ok (.iload_n 2, 1) := by decide +kernel
theorem dX8_log_168 : decode cX8_log 168 = .ok (.baload, 1) := by decide +kernel
theorem dX8_log_169 : decode cX8_log 169 = .ok (.ifCond .eq 8, 3) := by decide +kernel
theorem dX8_log_172 : decode cX8_log 172 = .ok (.bipush (-7), 2) := by decide +kernel
theorem dX8_log_174 : decode cX8_log 174 = .ok (.goto 25, 3) := by decide +kernel
theorem dX8_log_177 : decode cX8_log 177 = .ok (.aload_n 0, 1) := by decide +kernel
theorem dX8_log_178 : decode cX8_log 178 = .ok (.getfield 34, 3) := by decide +kernel
theorem dX8_log_181 : decode cX8_log 181 = .ok (.iload_n 2, 1) := by decide +kernel
theorem dX8_log_182 : decode cX8_log 182 = .ok (.iaload, 1) := by decide +kernel
theorem dX8_log_183 : decode cX8_log 183 = .ok (.ifCond .lt 12, 3) := by decide +kernel
theorem dX8_log_186 : decode cX8_log 186 = .ok (.aload_n 0, 1) := by decide +kernel
theorem dX8_log_187 : decode cX8_log 187 = .ok (.getfield 31, 3) := by decide +kernel
theorem dX8_log_190 : decode cX8_log 190 = .ok (.iload_n 2, 1) := by decide +kernel
theorem dX8_log_191 : decode cX8_log 191 = .ok (.iaload, 1) := by decide +kernel
theorem dX8_log_192 : decode cX8_log 192 = .ok (.goto 7, 3) := by decide +kernel
theorem dX8_log_195 : decode cX8_log 195 = .ok (.aload_n 0, 1) := by decide +kernel
theorem dX8_log_196 : decode cX8_log 196 = .ok (.getfield 95, 3) := by decide +kernel
theorem dX8_log_199 : decode cX8_log 199 = .ok (.ireturn, 1) := by decide +kernel
theorem dX8_log_200 : decode cX8_log 200 = .ok (.aload_n 0, 1) := by decide +kernel
theorem dX8_log_201 : decode cX8_log 201 = .ok (.getfield 44, 3) := by decide +kernel
theorem dX8_log_204 : decode cX8_log 204 = .ok (.iload_n 2, 1) := by decide +kernel
theorem dX8_log_205 : decode cX8_log 205 = .ok (.iaload, 1) := by decide +kernel
theorem dX8_log_206 : decode cX8_log 206 = .ok (.ireturn, 1) := by decide +kernel
theorem dX8_lastDay_0 : decode cX8_lastDay 0 = .ok (.iconst 0, 1) := by decide +kernel
theorem dX8_lastDay_1 : decode cX8_lastDay 1 = .ok (.istore_n 1, 1) := by decide +kernel
theorem dX8_lastDay_2 : decode cX8_lastDay 2 = .ok (.iconst 0, 1) := by decide +kernel
theorem dX8_lastDay_3 : decode cX8_lastDay 3 = .ok (.istore_n 2, 1) := by decide +kernel
theorem dX8_lastDay_4 : decode cX8_lastDay 4 = .ok (.iload_n 2, 1) := by decide +kernel
theorem dX8_lastDay_5 : decode cX8_lastDay 5 = .ok (.aload_n 0, 1) := by decide +kernel
theorem dX8_lastDay_6 : decode cX8_lastDay 6 = .ok (.getfield 87, 3) := by decide +kernel
theorem dX8_lastDay_9 : decode cX8_lastDay 9 = .ok (.if_icmp .ge 28, 3) := by decide +kernel
theorem dX8_lastDay_12 : decode cX8_lastDay 12 = .ok (.iload_n 1, 1) := by decide +kernel
theorem dX8_lastDay_13 : decode cX8_lastDay 13 = .ok (.aload_n 0, 1) := by decide +kernel
theorem dX8_lastDay_14 : decode cX8_lastDay 14 = .ok (.getfield 25, 3) := by decide +kernel
theorem dX8_lastDay_17 : decode cX8_lastDay 17 = .ok (.iload_n 2, 1) := by decide +kernel
theorem dX8_lastDay_18 : decode cX8_lastDay 18 = .ok (.iaload, 1) := by decide +kernel
theorem dX8_lastDay_19 : decode cX8_lastDay 19 = .ok (.bipush 46, 2) := by decide +kernel
theorem dX8_lastDay_21 : decode cX8_lastDay 21 = .ok (.if_icmp .ne 7, 3) := by decide +kernel
theorem dX8_lastDay_24 : decode cX8_lastDay 24 = .ok (.iconst 1, 1) := by decide +kernel
theorem dX8_lastDay_25 : decode cX8_lastDay 25 = .ok (.goto 4, 3) := by decide +kernel
theorem dX8_lastDay_28 : decode cX8_lastDay 28 = .ok (.iconst 0, 1) := by decide +kernel
theorem dX8_lastDay_29 : decode cX8_lastDay 29 = .ok (.iadd, 1) := by decide +kernel
theorem dX8_lastDay_30 : decode cX8_lastDay 30 = .ok (.istore_n 1, 1) := by decide +kernel
theorem dX8_lastDay_31 : decode cX8_lastDay 31 = .ok (.iinc 2 1, 3) := by decide +kernel
theorem dX8_lastDay_34 : decode cX8_lastDay 34 = .ok (.goto (-30), 3) := by decide +kernel
theorem dX8_lastDay_37 : decode cX8_lastDay 37 = .ok (.iload_n 1, 1) := by decide +kernel
theorem dX8_lastDay_38 : decode cX8_lastDay 38 = .ok (.ireturn, 1) := by decide +kernel
set_option maxRecDepth 20000 in
theorem ggX8_who_X8_isName : GoodIn wsX8_who wsX8_isName := goodIn_r _ [6, 7, 8, 5, 9] (by decide +kernel) (by decide +kernel)
set_option maxRecDepth 20000 in
theorem gX8_who_X8_isName : GoodIn wsX8_who (va_wsS RX8 79 yX8_isName wsX8_isName) := goodIn_app (goodIn_of _ (by decide +kernel)) ggX8_who_X8_isName
set_option maxRecDepth 20000 in
theorem ggX8_who_X8_faultOf : GoodIn wsX8_who wsX8_faultOf := goodIn_r _ [13, 14, 15, 7, 8, 5, 9, 60, 61, 62, 63, 64, 65, 66, 67, 68, 69, 70, 71, 72, 73, 74, 75, 76, 77, 78, 79, 80, 81, 82, 83] (by decide +kernel) (by decide +kernel)
set_option maxRecDepth 20000 in
theorem gX8_who_X8_faultOf : GoodIn wsX8_who (wsV RX8 91 RX8 yX8_faultOf wsX8_faultOf) := goodIn_app (goodIn_of _ (by decide +kernel)) ggX8_who_X8_faultOf
set_option maxRecDepth 20000 in
theorem ggX8_who_X8_lastDay : GoodIn wsX8_who wsX8_lastDay := goodIn_r _ [19, 14, 15, 60, 61, 62, 63, 64, 65, 66, 67, 68, 69, 70, 71, 72, 73, 74, 75, 76, 77, 78, 79, 80, 81, 82, 83] (by decide +kernel) (by decide +kernel)
set_option maxRecDepth 20000 in
theorem gX8_who_X8_lastDay : GoodIn wsX8_who (wsV RX8 131 RX8 yX8_lastDay wsX8_lastDay) := goodIn_app (goodIn_of _ (by decide +kernel)) ggX8_who_X8_lastDay
set_option maxRecDepth 20000 in
theorem ggX8_who_X8_opens : GoodIn wsX8_who wsX8_opens := goodIn_r _ [23, 14, 15, 60, 61, 62, 63, 64, 65, 66, 67, 68, 69, 70, 71, 72, 73, 74, 75, 76, 77, 78, 79, 80, 81, 82, 83] (by decide +kernel) (by decide +kernel)
set_option maxRecDepth 20000 in
theorem gX8_who_X8_opens : GoodIn wsX8_who (wsV RX8 114 RX8 yX8_opens wsX8_opens) := goodIn_app (goodIn_of _ (by decide +kernel)) ggX8_who_X8_opens
set_option maxRecDepth 20000 in
theorem ggX8_who_X8_goLog : GoodIn wsX8_who wsX8_goLog := goodIn_r _ [27, 14, 15, 28, 29, 30, 31, 32, 33, 34, 35, 36, 5, 37, 38, 39, 2, 20, 21, 22, 23, 40, 41, 42, 43, 44, 45, 46, 47, 1, 48, 49, 50, 51, 52, 53, 54, 55, 56, 57, 58, 59, 60, 61, 62, 63, 64, 65, 66, 67, 68, 69, 70, 71, 72, 73, 74, 75, 76, 77, 78, 79, 80, 81, 82, 83] (by decide +kernel) (by decide +kernel)
set_option maxRecDepth 20000 in
theorem gX8_who_X8_goLog : GoodIn wsX8_who (wsV RX8 127 RX8 yX8_goLog wsX8_goLog) := goodIn_app (goodIn_of _ (by decide +kernel)) ggX8_who_X8_goLog
theorem dX8_who_0 : decode cX8_who 0 = .ok (.iload_n 1, 1) := by decide +kernel
theorem dX8_who_1 : decode cX8_who 1 = .ok (.invokestatic 79, 3) := by decide +kernel
theorem dX8_who_4 : decode cX8_who 4 = .ok (.ifCond .eq 7, 3) := by decide +kernel
theorem dX8_who_7 : decode cX8_who 7 = .ok (.iload_n 2, 1) := by decide +kernel
theorem dX8_who_8 : decode cX8_who 8 = .ok (.ifCond .ge 5, 3) := by decide +kernel
theorem dX8_who_11 : decode cX8_who 11 = .ok (.iconst (-1), 1) := by decide +kernel
theorem dX8_who_12 : decode cX8_who 12 = .ok (.ireturn, 1) := by decide +kernel
theorem dX8_who_13 : decode cX8_who 13 = .ok (.aload_n 0, 1) := by decide +kernel
theorem dX8_who_14 : decode cX8_who 14 = .ok (.invokevirtual 91, 3) := by decide +kernel
theorem dX8_who_17 : decode cX8_who 17 = .ok (.ifCond .lt 6, 3) := by decide +kernel
theorem dX8_who_20 : decode cX8_who 20 = .ok (.bipush (-5), 2) := by decide +kernel
theorem dX8_who_22 : decode cX8_who 22 = .ok (.ireturn, 1) := by decide +kernel
theorem dX8_who_23 : decode cX8_who 23 = .ok (.iload_n 2, 1) := by decide +kernel
theorem dX8_who_24 : decode cX8_who 24 = .ok (.aload_n 0, 1) := by decide +kernel
theorem dX8_who_25 : decode cX8_who 25 = .ok (.invokevirtual 131, 3) := by decide +kernel
theorem dX8_who_28 : decode cX8_who 28 = .ok (.if_icmp .le 5, 3) := by decide +kernel
theorem dX8_who_31 : decode cX8_who 31 = .ok (.iconst (-1), 1) := by decide +kernel
theorem dX8_who_32 : decode cX8_who 32 = .ok (.ireturn, 1) := by decide +kernel
theorem dX8_who_33 : decode cX8_who 33 = .ok (.aload_n 0, 1) := by decide +kernel
theorem dX8_who_34 : decode cX8_who 34 = .ok (.iload_n 2, 1) := by decide +kernel
theorem dX8_who_35 : decode cX8_who 35 = .ok (.putfield 101, 3) := by decide +kernel
theorem dX8_who_38 : decode cX8_who 38 = .ok (.aload_n 0, 1) := by decide +kernel
theorem dX8_who_39 : decode cX8_who 39 = .ok (.invokevirtual 114, 3) := by decide +kernel
theorem dX8_who_42 : decode cX8_who 42 = .ok (.ifCond .gt 11, 3) := by decide +kernel
theorem dX8_who_45 : decode cX8_who 45 = .ok (.aload_n 0, 1) := by decide +kernel
theorem dX8_who_46 : decode cX8_who 46 = .ok (.iconst 0, 1) := by decide +kernel
theorem dX8_who_47 : decode cX8_who 47 = .ok (.invokevirtual 127, 3) := by decide +kernel
theorem dX8_who_50 : decode cX8_who 50 = .ok (.ifCond .lt 6, 3) := by decide +kernel
theorem dX8_who_53 : decode cX8_who 53 = .ok (.bipush (-3), 2) := by decide +kernel
theorem dX8_who_55 : decode cX8_who 55 = .ok (.ireturn, 1) := by decide +kernel
theorem dX8_who_56 : decode cX8_who 56 = .ok (.aload_n 0, 1) := by decide +kernel
theorem dX8_who_57 : decode cX8_who 57 = .ok (.getfield 47, 3) := by decide +kernel
theorem dX8_who_60 : decode cX8_who 60 = .ok (.iload_n 1, 1) := by decide +kernel
theorem dX8_who_61 : decode cX8_who 61 = .ok (.iaload, 1) := by decide +kernel
theorem dX8_who_62 : decode cX8_who 62 = .ok (.ireturn, 1) := by decide +kernel
set_option maxRecDepth 20000 in
theorem ggX8_codes_X8_opens : GoodIn wsX8_codes wsX8_opens := goodIn_r _ [5, 6, 7, 8, 9, 10, 11, 12, 13, 14, 15, 16, 17, 18, 19, 20, 21, 22, 23, 24, 25, 26, 27, 28, 29, 30, 31] (by decide +kernel) (by decide +kernel)
set_option maxRecDepth 20000 in
theorem gX8_codes_X8_opens : GoodIn wsX8_codes (wsV RX8 114 RX8 yX8_opens wsX8_opens) := goodIn_app (goodIn_of _ (by decide +kernel)) ggX8_codes_X8_opens
theorem dX8_codes_0 : decode cX8_codes 0 = .ok (.iconst 1, 1) := by decide +kernel
theorem dX8_codes_1 : decode cX8_codes 1 = .ok (.istore_n 1, 1) := by decide +kernel
theorem dX8_codes_2 : decode cX8_codes 2 = .ok (.iconst 0, 1) := by decide +kernel
theorem dX8_codes_3 : decode cX8_codes 3 = .ok (.istore_n 2, 1) := by decide +kernel
theorem dX8_codes_4 : decode cX8_codes 4 = .ok (.iload_n 2, 1) := by decide +kernel
theorem dX8_codes_5 : decode cX8_codes 5 = .ok (.aload_n 0, 1) := by decide +kernel
theorem dX8_codes_6 : decode cX8_codes 6 = .ok (.invokevirtual 114, 3) := by decide +kernel
theorem dX8_codes_9 : decode cX8_codes 9 = .ok (.if_icmp .ge 14, 3) := by decide +kernel
theorem dX8_codes_12 : decode cX8_codes 12 = .ok (.iload_n 1, 1) := by decide +kernel
theorem dX8_codes_13 : decode cX8_codes 13 = .ok (.bipush 6, 2) := by decide +kernel
theorem dX8_codes_15 : decode cX8_codes 15 = .ok (.imul, 1) := by decide +kernel
theorem dX8_codes_16 : decode cX8_codes 16 = .ok (.istore_n 1, 1) := by decide +kernel
theorem dX8_codes_17 : decode cX8_codes 17 = .ok (.iinc 2 1, 3) := by decide +kernel
theorem dX8_codes_20 : decode cX8_codes 20 = .ok (.goto (-16), 3) := by decide +kernel
theorem dX8_codes_23 : decode cX8_codes 23 = .ok (.iload_n 1, 1) := by decide +kernel
theorem dX8_codes_24 : decode cX8_codes 24 = .ok (.ireturn, 1) := by decide +kernel
set_option maxRecDepth 20000 in
theorem ggX8_filled_X8_faultOf : GoodIn wsX8_filled wsX8_faultOf := goodIn_r _ [5, 6, 7, 8, 9, 4, 10, 57, 58, 59, 60, 61, 62, 63, 64, 65, 66, 67, 68, 69, 70, 71, 72, 73, 74, 75, 76, 77, 78, 79, 80] (by decide +kernel) (by decide +kernel)
set_option maxRecDepth 20000 in
theorem gX8_filled_X8_faultOf : GoodIn wsX8_filled (wsV RX8 91 RX8 yX8_faultOf wsX8_faultOf) := goodIn_app (goodIn_of _ (by decide +kernel)) ggX8_filled_X8_faultOf
set_option maxRecDepth 20000 in
theorem ggX8_filled_X8_codes : GoodIn wsX8_filled wsX8_codes := goodIn_r _ [14, 15, 16, 17, 4, 18, 6, 7, 57, 58, 59, 60, 61, 62, 63, 64, 65, 66, 67, 68, 69, 70, 71, 72, 73, 74, 75, 76, 77, 78, 79, 80] (by decide +kernel) (by decide +kernel)
set_option maxRecDepth 20000 in
theorem gX8_filled_X8_codes : GoodIn wsX8_filled (wsV RX8 134 RX8 yX8_codes wsX8_codes) := goodIn_app (goodIn_of _ (by decide +kernel)) ggX8_filled_X8_codes
set_option maxRecDepth 20000 in
theorem ggX8_filled_X8_goLog : GoodIn wsX8_filled wsX8_goLog := goodIn_r _ [22, 6, 7, 23, 24, 25, 26, 27, 28, 29, 30, 31, 4, 32, 33, 34, 35, 15, 16, 17, 18, 36, 37, 38, 39, 40, 41, 42, 43, 44, 45, 46, 47, 48, 49, 50, 51, 52, 53, 54, 55, 56, 57, 58, 59, 60, 61, 62, 63, 64, 65, 66, 67, 68, 69, 70, 71, 72, 73, 74, 75, 76, 77, 78, 79, 80] (by decide +kernel) (by decide +kernel)
set_option maxRecDepth 20000 in
theorem gX8_filled_X8_goLog : GoodIn wsX8_filled (wsV RX8 127 RX8 yX8_goLog wsX8_goLog) := goodIn_app (goodIn_of _ (by decide +kernel)) ggX8_filled_X8_goLog
set_option maxRecDepth 20000 in
theorem ggX8_filled_X8_opens : GoodIn wsX8_filled wsX8_opens := goodIn_r _ [18, 6, 7, 57, 58, 59, 60, 61, 62, 63, 64, 65, 66, 67, 68, 69, 70, 71, 72, 73, 74, 75, 76, 77, 78, 79, 80] (by decide +kernel) (by decide +kernel)
set_option maxRecDepth 20000 in
theorem gX8_filled_X8_opens : GoodIn wsX8_filled (wsV RX8 114 RX8 yX8_opens wsX8_opens) := goodIn_app (goodIn_of _ (by decide +kernel)) ggX8_filled_X8_opens
set_option maxRecDepth 20000 in
theorem ggX8_filled_X8_in : GoodIn wsX8_filled wsX8_in := goodIn_r _ [10] (by decide +kernel) (by decide +kernel)
set_option maxRecDepth 20000 in
theorem gX8_filled_X8_in : GoodIn wsX8_filled (va_wsS RX8 71 yX8_in wsX8_in) := goodIn_app (goodIn_of _ (by decide +kernel)) ggX8_filled_X8_in
theorem dX8_filled_0 : decode cX8_filled 0 = .ok (.aload_n 0, 1) := by decide +kernel
theorem dX8_filled_1 : decode cX8_filled 1 = .ok (.invokevirtual 91, 3) := by decide +kernel
theorem dX8_filled_4 : decode cX8_filled 4 = .ok (.ifCond .lt 6, 3) := by decide +kernel
theorem dX8_filled_7 : decode cX8_filled 7 = .ok (.bipush (-5), 2) := by decide +kernel
theorem dX8_filled_9 : decode cX8_filled 9 = .ok (.ireturn, 1) := by decide +kernel
theorem dX8_filled_10 : decode cX8_filled 10 = .ok (.iconst 0, 1) := by decide +kernel
theorem dX8_filled_11 : decode cX8_filled 11 = .ok (.istore_n 2, 1) := by decide +kernel
theorem dX8_filled_12 : decode cX8_filled 12 = .ok (.bipush (-6), 2) := by decide +kernel
theorem dX8_filled_14 : decode cX8_filled 14 = .ok (.istore_n 3, 1) := by decide +kernel
theorem dX8_filled_15 : decode cX8_filled 15 = .ok (.iconst 0, 1) := by decide +kernel
theorem dX8_filled_16 : decode cX8_filled 16 = .ok (.istore 4, 2) := by decide +kernel
theorem dX8_filled_18 : decode cX8_filled 18 = .ok (.iload 4, 2) := by decide +kernel
theorem dX8_filled_20 : decode cX8_filled 20 = .ok (.aload_n 0, 1) := by decide +kernel
theorem dX8_filled_21 : decode cX8_filled 21 = .ok (.invokevirtual 134, 3) := by decide +kernel
theorem dX8_filled_24 : decode cX8_filled 24 = .ok (.if_icmp .ge 32, 3) := by decide +kernel
theorem dX8_filled_27 : decode cX8_filled 27 = .ok (.aload_n 0, 1) := by decide +kernel
theorem dX8_filled_28 : decode cX8_filled 28 = .ok (.iload 4, 2) := by decide +kernel
theorem dX8_filled_30 : decode cX8_filled 30 = .ok (.invokevirtual 127, 3) := by decide +kernel
theorem dX8_filled_33 : decode cX8_filled 33 = .ok (.ifCond .ge 17, 3) := by decide +kernel
theorem dX8_filled_36 : decode cX8_filled 36 = .ok (.iload_n 3, 1) := by decide +kernel
theorem dX8_filled_37 : decode cX8_filled 37 = .ok (.ifCond .ge 8, 3) := by decide +kernel
theorem dX8_filled_40 : decode cX8_filled 40 = .ok (.iload 4, 2) := by decide +kernel
theorem dX8_filled_42 : decode cX8_filled 42 = .ok (.goto 4, 3) := by decide +kernel
theorem dX8_filled_45 : decode cX8_filled 45 = .ok (.iload_n 3, 1) := by decide +kernel
theorem dX8_filled_46 : decode cX8_filled 46 = .ok (.istore_n 3, 1) := by decide +kernel
theorem dX8_filled_47 : decode cX8_filled 47 = .ok (.iinc 2 1, 3) := by decide +kernel
theorem dX8_filled_50 : decode cX8_filled 50 = .ok (.iinc 4 1, 3) := by decide +kernel
theorem dX8_filled_53 : decode cX8_filled 53 = .ok (.goto (-35), 3) := by decide +kernel
theorem dX8_filled_56 : decode cX8_filled 56 = .ok (.iload_n 1, 1) := by decide +kernel
theorem dX8_filled_57 : decode cX8_filled 57 = .ok (.iconst (-1), 1) := by decide +kernel
theorem dX8_filled_58 : decode cX8_filled 58 = .ok (.if_icmp .ne 5, 3) := by decide +kernel
theorem dX8_filled_61 : decode cX8_filled 61 = .ok (.iload_n 2, 1) := by decide +kernel
theorem dX8_filled_62 : decode cX8_filled 62 = .ok (.ireturn, 1) := by decide +kernel
theorem dX8_filled_63 : decode cX8_filled 63 = .ok (.iload_n 3, 1) := by decide +kernel
theorem dX8_filled_64 : decode cX8_filled 64 = .ok (.ifCond .lt 17, 3) := by decide +kernel
theorem dX8_filled_67 : decode cX8_filled 67 = .ok (.iload_n 1, 1) := by decide +kernel
theorem dX8_filled_68 : decode cX8_filled 68 = .ok (.iconst 0, 1) := by decide +kernel
theorem dX8_filled_69 : decode cX8_filled 69 = .ok (.aload_n 0, 1) := by decide +kernel
theorem dX8_filled_70 : decode cX8_filled 70 = .ok (.invokevirtual 114, 3) := by decide +kernel
theorem dX8_filled_73 : decode cX8_filled 73 = .ok (.iconst 1, 1) := by decide +kernel
theorem dX8_filled_74 : decode cX8_filled 74 = .ok (.isub, 1) := by decide +kernel
theorem dX8_filled_75 : decode cX8_filled 75 = .ok (.invokestatic 71, 3) := by decide +kernel
theorem dX8_filled_78 : decode cX8_filled 78 = .ok (.ifCond .ne 6, 3) := by decide +kernel
theorem dX8_filled_81 : decode cX8_filled 81 = .ok (.bipush (-6), 2) := by decide +kernel
theorem dX8_filled_83 : decode cX8_filled 83 = .ok (.ireturn, 1) := by decide +kernel
theorem dX8_filled_84 : decode cX8_filled 84 = .ok (.iload_n 3, 1) := by decide +kernel
theorem dX8_filled_85 : decode cX8_filled 85 = .ok (.istore 4, 2) := by decide +kernel
theorem dX8_filled_87 : decode cX8_filled 87 = .ok (.aload_n 0, 1) := by decide +kernel
theorem dX8_filled_88 : decode cX8_filled 88 = .ok (.invokevirtual 114, 3) := by decide +kernel
theorem dX8_filled_91 : decode cX8_filled 91 = .ok (.iconst 1, 1) := by decide +kernel
theorem dX8_filled_92 : decode cX8_filled 92 = .ok (.isub, 1) := by decide +kernel
theorem dX8_filled_93 : decode cX8_filled 93 = .ok (.istore 5, 2) := by decide +kernel
theorem dX8_filled_95 : decode cX8_filled 95 = .ok (.iload 5, 2) := by decide +kernel
theorem dX8_filled_97 : decode cX8_filled 97 = .ok (.iload_n 1, 1) := by decide +kernel
theorem dX8_filled_98 : decode cX8_filled 98 = .ok (.if_icmp .le 16, 3) := by decide +kernel
theorem dX8_filled_101 : decode cX8_filled 101 = .ok (.iload 4, 2) := by decide +kernel
theorem dX8_filled_103 : decode cX8_filled 103 = .ok (.bipush 6, 2) := by decide +kernel
theorem dX8_filled_105 : decode cX8_filled 105 = .ok (.idiv, 1) := by decide +kernel
theorem dX8_filled_106 : decode cX8_filled 106 = .ok (.istore 4, 2) := by decide +kernel
theorem dX8_filled_108 : decode cX8_filled 108 = .ok (.iinc 5 (-1), 3) := by decide +kernel
theorem dX8_filled_111 : decode cX8_filled 111 = .ok (.goto (-16), 3) := by decide +kernel
theorem dX8_filled_114 : decode cX8_filled 114 = .ok (.iload 4, 2) := by decide +kernel
theorem dX8_filled_116 : decode cX8_filled 116 = .ok (.bipush 6, 2) := by decide +kernel
theorem dX8_filled_118 : decode cX8_filled 118 = .ok (.irem, 1) := by decide +kernel
theorem dX8_filled_119 : decode cX8_filled 119 = .ok (.ireturn, 1) := by decide +kernel
set_option maxRecDepth 20000 in
theorem ggX8_could_X8_isName : GoodIn wsX8_could wsX8_isName := goodIn_r _ [6, 7, 8, 5, 9] (by decide +kernel) (by decide +kernel)
set_option maxRecDepth 20000 in
theorem gX8_could_X8_isName : GoodIn wsX8_could (va_wsS RX8 79 yX8_isName wsX8_isName) := goodIn_app (goodIn_of _ (by decide +kernel)) ggX8_could_X8_isName
set_option maxRecDepth 20000 in
theorem ggX8_could_X8_faultOf : GoodIn wsX8_could wsX8_faultOf := goodIn_r _ [13, 14, 15, 7, 8, 5, 9, 64, 65, 66, 67, 68, 69, 70, 71, 72, 73, 74, 75, 76, 77, 78, 79, 80, 81, 82, 83, 84, 85, 86, 87] (by decide +kernel) (by decide +kernel)
set_option maxRecDepth 20000 in
theorem gX8_could_X8_faultOf : GoodIn wsX8_could (wsV RX8 91 RX8 yX8_faultOf wsX8_faultOf) := goodIn_app (goodIn_of _ (by decide +kernel)) ggX8_could_X8_faultOf
set_option maxRecDepth 20000 in
theorem ggX8_could_X8_lastDay : GoodIn wsX8_could wsX8_lastDay := goodIn_r _ [19, 14, 15, 64, 65, 66, 67, 68, 69, 70, 71, 72, 73, 74, 75, 76, 77, 78, 79, 80, 81, 82, 83, 84, 85, 86, 87] (by decide +kernel) (by decide +kernel)
set_option maxRecDepth 20000 in
theorem gX8_could_X8_lastDay : GoodIn wsX8_could (wsV RX8 131 RX8 yX8_lastDay wsX8_lastDay) := goodIn_app (goodIn_of _ (by decide +kernel)) ggX8_could_X8_lastDay
set_option maxRecDepth 20000 in
theorem ggX8_could_X8_codes : GoodIn wsX8_could wsX8_codes := goodIn_r _ [23, 24, 25, 26, 5, 27, 14, 15, 64, 65, 66, 67, 68, 69, 70, 71, 72, 73, 74, 75, 76, 77, 78, 79, 80, 81, 82, 83, 84, 85, 86, 87] (by decide +kernel) (by decide +kernel)
set_option maxRecDepth 20000 in
theorem gX8_could_X8_codes : GoodIn wsX8_could (wsV RX8 134 RX8 yX8_codes wsX8_codes) := goodIn_app (goodIn_of _ (by decide +kernel)) ggX8_could_X8_codes
set_option maxRecDepth 20000 in
theorem ggX8_could_X8_goLog : GoodIn wsX8_could wsX8_goLog := goodIn_r _ [31, 14, 15, 32, 33, 34, 35, 36, 37, 38, 39, 40, 5, 41, 42, 43, 2, 24, 25, 26, 27, 44, 45, 46, 47, 48, 49, 50, 51, 1, 52, 53, 54, 55, 56, 57, 58, 59, 60, 61, 62, 63, 64, 65, 66, 67, 68, 69, 70, 71, 72, 73, 74, 75, 76, 77, 78, 79, 80, 81, 82, 83, 84, 85, 86, 87] (by decide +kernel) (by decide +kernel)
set_option maxRecDepth 20000 in
theorem gX8_could_X8_goLog : GoodIn wsX8_could (wsV RX8 127 RX8 yX8_goLog wsX8_goLog) := goodIn_app (goodIn_of _ (by decide +kernel)) ggX8_could_X8_goLog
theorem dX8_could_0 : decode cX8_could 0 = .ok (.iload_n 1, 1) := by decide +kernel
theorem dX8_could_1 : decode cX8_could 1 = .ok (.invokestatic 79, 3) := by decide +kernel
theorem dX8_could_4 : decode cX8_could 4 = .ok (.ifCond .eq 7, 3) := by decide +kernel
theorem dX8_could_7 : decode cX8_could 7 = .ok (.iload_n 2, 1) := by decide +kernel
theorem dX8_could_8 : decode cX8_could 8 = .ok (.ifCond .ge 5, 3) := by decide +kernel
theorem dX8_could_11 : decode cX8_could 11 = .ok (.iconst (-1), 1) := by decide +kernel
theorem dX8_could_12 : decode cX8_could 12 = .ok (.ireturn, 1) := by decide +kernel
theorem dX8_could_13 : decode cX8_could 13 = .ok (.aload_n 0, 1) := by decide +kernel
theorem dX8_could_14 : decode cX8_could 14 = .ok (.invokevirtual 91, 3) := by decide +kernel
theorem dX8_could_17 : decode cX8_could 17 = .ok (.ifCond .lt 6, 3) := by decide +kernel
theorem dX8_could_20 : decode cX8_could 20 = .ok (.bipush (-5), 2) := by decide +kernel
theorem dX8_could_22 : decode cX8_could 22 = .ok (.ireturn, 1) := by decide +kernel
theorem dX8_could_23 : decode cX8_could 23 = .ok (.iload_n 2, 1) := by decide +kernel
theorem dX8_could_24 : decode cX8_could 24 = .ok (.aload_n 0, 1) := by decide +kernel
theorem dX8_could_25 : decode cX8_could 25 = .ok (.invokevirtual 131, 3) := by decide +kernel
theorem dX8_could_28 : decode cX8_could 28 = .ok (.if_icmp .le 5, 3) := by decide +kernel
theorem dX8_could_31 : decode cX8_could 31 = .ok (.iconst (-1), 1) := by decide +kernel
theorem dX8_could_32 : decode cX8_could 32 = .ok (.ireturn, 1) := by decide +kernel
theorem dX8_could_33 : decode cX8_could 33 = .ok (.aload_n 0, 1) := by decide +kernel
theorem dX8_could_34 : decode cX8_could 34 = .ok (.iload_n 2, 1) := by decide +kernel
theorem dX8_could_35 : decode cX8_could 35 = .ok (.putfield 101, 3) := by decide +kernel
theorem dX8_could_38 : decode cX8_could 38 = .ok (.iconst 0, 1) := by decide +kernel
theorem dX8_could_39 : decode cX8_could 39 = .ok (.istore_n 3, 1) := by decide +kernel
theorem dX8_could_40 : decode cX8_could 40 = .ok (.iconst 0, 1) := by decide +kernel
theorem dX8_could_41 : decode cX8_could 41 = .ok (.istore 4, 2) := by decide +kernel
theorem dX8_could_43 : decode cX8_could 43 = .ok (.iconst 0, 1) := by decide +kernel
theorem dX8_could_44 : decode cX8_could 44 = .ok (.istore 5, 2) := by decide +kernel
theorem dX8_could_46 : decode cX8_could 46 = .ok (.iload 5, 2) := by decide +kernel
theorem dX8_could_48 : decode cX8_could 48 = .ok (.aload_n 0, 1) := by decide +kernel
theorem dX8_could_49 : decode cX8_could 49 = .ok (.invokevirtual 134, 3) := by decide +kernel
theorem dX8_could_52 : decode cX8_could 52 = .ok (.if_icmp .ge 45, 3) := by decide +kernel
theorem dX8_could_55 : decode cX8_could 55 = .ok (.aload_n 0, 1) := by decide +kernel
theorem dX8_could_56 : decode cX8_could 56 = .ok (.iload 5, 2) := by decide +kernel
theorem dX8_could_58 : decode cX8_could 58 = .ok (.invokevirtual 127, 3) := by decide +kernel
theorem dX8_could_61 : decode cX8_could 61 = .ok (.ifCond .ge 30, 3) := by decide +kernel
theorem dX8_could_64 : decode cX8_could 64 = .ok (.iconst 1, 1) := by decide +kernel
theorem dX8_could_65 : decode cX8_could 65 = .ok (.istore 4, 2) := by decide +kernel
theorem dX8_could_67 : decode cX8_could 67 = .ok (.iload_n 3, 1) := by decide +kernel
theorem dX8_could_68 : decode cX8_could 68 = .ok (.aload_n 0, 1) := by decide +kernel
theorem dX8_could_69 : decode cX8_could 69 = .ok (.getfield 47, 3) := by decide +kernel
theorem dX8_could_72 : decode cX8_could 72 = .ok (.iload_n 1, 1) := by decide +kernel
theorem dX8_could_73 : decode cX8_could 73 = .ok (.iaload, 1) := by decide +kernel
theorem dX8_could_74 : decode cX8_could 74 = .ok (.ifCond .lt 14, 3) := by decide +kernel
theorem dX8_could_77 : decode cX8_could 77 = .ok (.iconst 1, 1) := by decide +kernel
theorem dX8_could_78 : decode cX8_could 78 = .ok (.aload_n 0, 1) := by decide +kernel
theorem dX8_could_79 : decode cX8_could 79 = .ok (.getfield 47, 3) := by decide +kernel
theorem dX8_could_82 : decode cX8_could 82 = .ok (.iload_n 1, 1) := by decide +kernel
theorem dX8_could_83 : decode cX8_could 83 = .ok (.iaload, 1) := by decide +kernel
theorem dX8_could_84 : decode cX8_could 84 = .ok (.ishl, 1) := by decide +kernel
theorem dX8_could_85 : decode cX8_could 85 = .ok (.goto 4, 3) := by decide +kernel
theorem dX8_could_88 : decode cX8_could 88 = .ok (.iconst 0, 1) := by decide +kernel
theorem dX8_could_89 : decode cX8_could 89 = .ok (.ior, 1) := by decide +kernel
theorem dX8_could_90 : decode cX8_could 90 = .ok (.istore_n 3, 1) := by decide +kernel
theorem dX8_could_91 : decode cX8_could 91 = .ok (.iinc 5 1, 3) := by decide +kernel
theorem dX8_could_94 : decode cX8_could 94 = .ok (.goto (-48), 3) := by decide +kernel
theorem dX8_could_97 : decode cX8_could 97 = .ok (.iload 4, 2) := by decide +kernel
theorem dX8_could_99 : decode cX8_could 99 = .ok (.ifCond .eq 7, 3) := by decide +kernel
theorem dX8_could_102 : decode cX8_could 102 = .ok (.iload_n 3, 1) := by decide +kernel
theorem dX8_could_103 : decode cX8_could 103 = .ok (.goto 5, 3) := by decide +kernel
theorem dX8_could_106 : decode cX8_could 106 = .ok (.bipush (-3), 2) := by decide +kernel
theorem dX8_could_108 : decode cX8_could 108 = .ok (.ireturn, 1) := by decide +kernel
set_option maxRecDepth 20000 in
theorem ggX8_layGiving_X8_has : GoodIn wsX8_layGiving wsX8_has := goodIn_r _ [6] (by decide +kernel) (by decide +kernel)
set_option maxRecDepth 20000 in
theorem gX8_layGiving_X8_has : GoodIn wsX8_layGiving (va_wsS RX8 107 yX8_has wsX8_has) := goodIn_app (goodIn_of _ (by decide +kernel)) ggX8_layGiving_X8_has
theorem dX8_layGiving_0 : decode cX8_layGiving 0 = .ok (.iload_n 1, 1) := by decide +kernel
theorem dX8_layGiving_1 : decode cX8_layGiving 1 = .ok (.istore 4, 2) := by decide +kernel
theorem dX8_layGiving_3 : decode cX8_layGiving 3 = .ok (.iconst 0, 1) := by decide +kernel
theorem dX8_layGiving_4 : decode cX8_layGiving 4 = .ok (.istore 5, 2) := by decide +kernel
theorem dX8_layGiving_6 : decode cX8_layGiving 6 = .ok (.iconst 1, 1) := by decide +kernel
theorem dX8_layGiving_7 : decode cX8_layGiving 7 = .ok (.istore 6, 2) := by decide +kernel
theorem dX8_layGiving_9 : decode cX8_layGiving 9 = .ok (.iconst 5, 1) := by decide +kernel
theorem dX8_layGiving_10 : decode cX8_layGiving 10 = .ok (.istore 7, 2) := by decide +kernel
theorem dX8_layGiving_12 : decode cX8_layGiving 12 = .ok (.iload 7, 2) := by decide +kernel
theorem dX8_layGiving_14 : decode cX8_layGiving 14 = .ok (.ifCond .lt 113, 3) := by decide +kernel
theorem dX8_layGiving_17 : decode cX8_layGiving 17 = .ok (.iload 4, 2) := by decide +kernel
theorem dX8_layGiving_19 : decode cX8_layGiving 19 = .ok (.bipush 6, 2) := by decide +kernel
theorem dX8_layGiving_21 : decode cX8_layGiving 21 = .ok (.irem, 1) := by decide +kernel
theorem dX8_layGiving_22 : decode cX8_layGiving 22 = .ok (.istore 8, 2) := by decide +kernel
theorem dX8_layGiving_24 : decode cX8_layGiving 24 = .ok (.iload 4, 2) := by decide +kernel
theorem dX8_layGiving_26 : decode cX8_layGiving 26 = .ok (.bipush 6, 2) := by decide +kernel
theorem dX8_layGiving_28 : decode cX8_layGiving 28 = .ok (.idiv, 1) := by decide +kernel
theorem dX8_layGiving_29 : decode cX8_layGiving 29 = .ok (.istore 4, 2) := by decide +kernel
theorem dX8_layGiving_31 : decode cX8_layGiving 31 = .ok (.aload_n 0, 1) := by decide +kernel
theorem dX8_layGiving_32 : decode cX8_layGiving 32 = .ok (.getfield 50, 3) := by decide +kernel
theorem dX8_layGiving_35 : decode cX8_layGiving 35 = .ok (.iload 7, 2) := by decide +kernel
theorem dX8_layGiving_37 : decode cX8_layGiving 37 = .ok (.iload 8, 2) := by decide +kernel
theorem dX8_layGiving_39 : decode cX8_layGiving 39 = .ok (.iconst 5, 1) := by decide +kernel
theorem dX8_layGiving_40 : decode cX8_layGiving 40 = .ok (.if_icmp .ne 8, 3) := by decide +kernel
theorem dX8_layGiving_43 : decode cX8_layGiving 43 = .ok (.bipush (-6), 2) := by decide +kernel
theorem dX8_layGiving_45 : decode cX8_layGiving 45 = .ok (.goto 5, 3) := by decide +kernel
theorem dX8_layGiving_48 : decode cX8_layGiving 48 = .ok (.iload 8, 2) := by decide +kernel
theorem dX8_layGiving_50 : decode cX8_layGiving 50 = .ok (.iastore, 1) := by decide +kernel
theorem dX8_layGiving_51 : decode cX8_layGiving 51 = .ok (.iload 8, 2) := by decide +kernel
theorem dX8_layGiving_53 : decode cX8_layGiving 53 = .ok (.iconst 5, 1) := by decide +kernel
theorem dX8_layGiving_54 : decode cX8_layGiving 54 = .ok (.if_icmp .ge 67, 3) := by decide +kernel
theorem dX8_layGiving_57 : decode cX8_layGiving 57 = .ok (.iload 6, 2) := by decide +kernel
theorem dX8_layGiving_59 : decode cX8_layGiving 59 = .ok (.ifCond .eq 50, 3) := by decide +kernel
theorem dX8_layGiving_62 : decode cX8_layGiving 62 = .ok (.iload_n 2, 1) := by decide +kernel
theorem dX8_layGiving_63 : decode cX8_layGiving 63 = .ok (.iload 7, 2) := by decide +kernel
theorem dX8_layGiving_65 : decode cX8_layGiving 65 = .ok (.invokestatic 107, 3) := by decide +kernel
theorem dX8_layGiving_68 : decode cX8_layGiving 68 = .ok (.ifCond .eq 41, 3) := by decide +kernel
theorem dX8_layGiving_71 : decode cX8_layGiving 71 = .ok (.iload_n 3, 1) := by decide +kernel
theorem dX8_layGiving_72 : decode cX8_layGiving 72 = .ok (.iload 8, 2) := by decide +kernel
theorem dX8_layGiving_74 : decode cX8_layGiving 74 = .ok (.invokestatic 107, 3) := by decide +kernel
theorem dX8_layGiving_77 : decode cX8_layGiving 77 = .ok (.ifCond .eq 32, 3) := by decide +kernel
theorem dX8_layGiving_80 : decode cX8_layGiving 80 = .ok (.aload_n 0, 1) := by decide +kernel
theorem dX8_layGiving_81 : decode cX8_layGiving 81 = .ok (.getfield 7, 3) := by decide +kernel
theorem dX8_layGiving_84 : decode cX8_layGiving 84 = .ok (.iload 7, 2) := by decide +kernel
theorem dX8_layGiving_86 : decode cX8_layGiving 86 = .ok (.iaload, 1) := by decide +kernel
theorem dX8_layGiving_87 : decode cX8_layGiving 87 = .ok (.iload 8, 2) := by decide +kernel
theorem dX8_layGiving_89 : decode cX8_layGiving 89 = .ok (.invokestatic 107, 3) := by decide +kernel
theorem dX8_layGiving_92 : decode cX8_layGiving 92 = .ok (.ifCond .eq 17, 3) := by decide +kernel
theorem dX8_layGiving_95 : decode cX8_layGiving 95 = .ok (.iload 5, 2) := by decide +kernel
theorem dX8_layGiving_97 : decode cX8_layGiving 97 = .ok (.iload 8, 2) := by decide +kernel
theorem dX8_layGiving_99 : decode cX8_layGiving 99 = .ok (.invokestatic 107, 3) := by decide +kernel
theorem dX8_layGiving_102 : decode cX8_layGiving 102 = .ok (.ifCond .ne 7, 3) := by decide +kernel
theorem dX8_layGiving_105 : decode cX8_layGiving 105 = .ok (.iconst 1, 1) := by decide +kernel
theorem dX8_layGiving_106 : decode cX8_layGiving 106 = .ok (.goto 4, 3) := by decide +kernel
theorem dX8_layGiving_109 : decode cX8_layGiving 109 = .ok (.iconst 0, 1) := by decide +kernel
theorem dX8_layGiving_110 : decode cX8_layGiving 110 = .ok (.istore 6, 2) := by decide +kernel
theorem dX8_layGiving_112 : decode cX8_layGiving 112 = .ok (.iload 5, 2) := by decide +kernel
theorem dX8_layGiving_114 : decode cX8_layGiving 114 = .ok (.iconst 1, 1) := by decide +kernel
theorem dX8_layGiving_115 : decode cX8_layGiving 115 = .ok (.iload 8, 2) := by decide +kernel
theorem dX8_layGiving_117 : decode cX8_layGiving 117 = .ok (.ishl, 1) := by decide +kernel
theorem dX8_layGiving_118 : decode cX8_layGiving 118 = .ok (.ior, 1) := by decide +kernel
theorem dX8_layGiving_119 : decode cX8_layGiving 119 = .ok (.istore 5, 2) := by decide +kernel
theorem dX8_layGiving_121 : decode cX8_layGiving 121 = .ok (.iinc 7 (-1), 3) := by decide +kernel
theorem dX8_layGiving_124 : decode cX8_layGiving 124 = .ok (.goto (-112), 3) := by decide +kernel
theorem dX8_layGiving_127 : decode cX8_layGiving 127 = .ok (.iload 6, 2) := by decide +kernel
theorem dX8_layGiving_129 : decode cX8_layGiving 129 = .ok (.ireturn, 1) := by decide +kernel
theorem dX8_sailing_0 : decode cX8_sailing 0 = .ok (.iconst 0, 1) := by decide +kernel
theorem dX8_sailing_1 : decode cX8_sailing 1 = .ok (.istore_n 2, 1) := by decide +kernel
theorem dX8_sailing_2 : decode cX8_sailing 2 = .ok (.iconst 0, 1) := by decide +kernel
theorem dX8_sailing_3 : decode cX8_sailing 3 = .ok (.istore_n 3, 1) := by decide +kernel
theorem dX8_sailing_4 : decode cX8_sailing 4 = .ok (.iload_n 3, 1) := by decide +kernel
theorem dX8_sailing_5 : decode cX8_sailing 5 = .ok (.bipush 6, 2) := by decide +kernel
theorem dX8_sailing_7 : decode cX8_sailing 7 = .ok (.if_icmp .ge 23, 3) := by decide +kernel
theorem dX8_sailing_10 : decode cX8_sailing 10 = .ok (.iload_n 2, 1) := by decide +kernel
theorem dX8_sailing_11 : decode cX8_sailing 11 = .ok (.aload_n 1, 1) := by decide +kernel
theorem dX8_sailing_12 : decode cX8_sailing 12 = .ok (.iload_n 3, 1) := by decide +kernel
theorem dX8_sailing_13 : decode cX8_sailing 13 = .ok (.iaload, 1) := by decide +kernel
theorem dX8_sailing_14 : decode cX8_sailing 14 = .ok (.ifCond .lt 7, 3) := by decide +kernel
theorem dX8_sailing_17 : decode cX8_sailing 17 = .ok (.iconst 1, 1) := by decide +kernel
theorem dX8_sailing_18 : decode cX8_sailing 18 = .ok (.goto 4, 3) := by decide +kernel
theorem dX8_sailing_21 : decode cX8_sailing 21 = .ok (.iconst 0, 1) := by decide +kernel
theorem dX8_sailing_22 : decode cX8_sailing 22 = .ok (.iadd, 1) := by decide +kernel
theorem dX8_sailing_23 : decode cX8_sailing 23 = .ok (.istore_n 2, 1) := by decide +kernel
theorem dX8_sailing_24 : decode cX8_sailing 24 = .ok (.iinc 3 1, 3) := by decide +kernel
theorem dX8_sailing_27 : decode cX8_sailing 27 = .ok (.goto (-23), 3) := by decide +kernel
theorem dX8_sailing_30 : decode cX8_sailing 30 = .ok (.iload_n 2, 1) := by decide +kernel
theorem dX8_sailing_31 : decode cX8_sailing 31 = .ok (.ireturn, 1) := by decide +kernel
theorem dX8_worthOf_0 : decode cX8_worthOf 0 = .ok (.iconst 0, 1) := by decide +kernel
theorem dX8_worthOf_1 : decode cX8_worthOf 1 = .ok (.istore_n 2, 1) := by decide +kernel
theorem dX8_worthOf_2 : decode cX8_worthOf 2 = .ok (.iconst 0, 1) := by decide +kernel
theorem dX8_worthOf_3 : decode cX8_worthOf 3 = .ok (.istore_n 3, 1) := by decide +kernel
theorem dX8_worthOf_4 : decode cX8_worthOf 4 = .ok (.iload_n 3, 1) := by decide +kernel
theorem dX8_worthOf_5 : decode cX8_worthOf 5 = .ok (.bipush 6, 2) := by decide +kernel
theorem dX8_worthOf_7 : decode cX8_worthOf 7 = .ok (.if_icmp .ge 34, 3) := by decide +kernel
theorem dX8_worthOf_10 : decode cX8_worthOf 10 = .ok (.iload_n 2, 1) := by decide +kernel
theorem dX8_worthOf_11 : decode cX8_worthOf 11 = .ok (.aload_n 1, 1) := by decide +kernel
theorem dX8_worthOf_12 : decode cX8_worthOf 12 = .ok (.iload_n 3, 1) := by decide +kernel
theorem dX8_worthOf_13 : decode cX8_worthOf 13 = .ok (.iaload, 1) := by decide +kernel
theorem dX8_worthOf_14 : decode cX8_worthOf 14 = .ok (.ifCond .lt 18, 3) := by decide +kernel
theorem dX8_worthOf_17 : decode cX8_worthOf 17 = .ok (.aload_n 0, 1) := by decide +kernel
theorem dX8_worthOf_18 : decode cX8_worthOf 18 = .ok (.getfield 19, 3) := by decide +kernel
theorem dX8_worthOf_21 : decode cX8_worthOf 21 = .ok (.iconst 5, 1) := by decide +kernel
theorem dX8_worthOf_22 : decode cX8_worthOf 22 = .ok (.iload_n 3, 1) := by decide +kernel
theorem dX8_worthOf_23 : decode cX8_worthOf 23 = .ok (.imul, 1) := by decide +kernel
theorem dX8_worthOf_24 : decode cX8_worthOf 24 = .ok (.aload_n 1, 1) := by decide +kernel
theorem dX8_worthOf_25 : decode cX8_worthOf 25 = .ok (.iload_n 3, 1) := by decide +kernel
theorem dX8_worthOf_26 : decode cX8_worthOf 26 = .ok (.iaload, 1) := by decide +kernel
theorem dX8_worthOf_27 : decode cX8_worthOf 27 = .ok (.iadd, 1) := by decide +kernel
theorem dX8_worthOf_28 : decode cX8_worthOf 28 = .ok (.iaload, 1) := by decide +kernel
theorem dX8_worthOf_29 : decode cX8_worthOf 29 = .ok (.goto 4, 3) := by decide +kernel
theorem dX8_worthOf_32 : decode cX8_worthOf 32 = .ok (.iconst 0, 1) := by decide +kernel
theorem dX8_worthOf_33 : decode cX8_worthOf 33 = .ok (.iadd, 1) := by decide +kernel
theorem dX8_worthOf_34 : decode cX8_worthOf 34 = .ok (.istore_n 2, 1) := by decide +kernel
theorem dX8_worthOf_35 : decode cX8_worthOf 35 = .ok (.iinc 3 1, 3) := by decide +kernel
theorem dX8_worthOf_38 : decode cX8_worthOf 38 = .ok (.goto (-34), 3) := by decide +kernel
theorem dX8_worthOf_41 : decode cX8_worthOf 41 = .ok (.iload_n 2, 1) := by decide +kernel
theorem dX8_worthOf_42 : decode cX8_worthOf 42 = .ok (.ireturn, 1) := by decide +kernel
theorem dX8_keepBest_0 : decode cX8_keepBest 0 = .ok (.iconst 0, 1) := by decide +kernel
theorem dX8_keepBest_1 : decode cX8_keepBest 1 = .ok (.istore_n 1, 1) := by decide +kernel
theorem dX8_keepBest_2 : decode cX8_keepBest 2 = .ok (.iload_n 1, 1) := by decide +kernel
theorem dX8_keepBest_3 : decode cX8_keepBest 3 = .ok (.bipush 6, 2) := by decide +kernel
theorem dX8_keepBest_5 : decode cX8_keepBest 5 = .ok (.if_icmp .ge 21, 3) := by decide +kernel
theorem dX8_keepBest_8 : decode cX8_keepBest 8 = .ok (.aload_n 0, 1) := by decide +kernel
theorem dX8_keepBest_9 : decode cX8_keepBest 9 = .ok (.getfield 53, 3) := by decide +kernel
theorem dX8_keepBest_12 : decode cX8_keepBest 12 = .ok (.iload_n 1, 1) := by decide +kernel
theorem dX8_keepBest_13 : decode cX8_keepBest 13 = .ok (.aload_n 0, 1) := by decide +kernel
theorem dX8_keepBest_14 : decode cX8_keepBest 14 = .ok (.getfield 50, 3) := by decide +kernel
theorem dX8_keepBest_17 : decode cX8_keepBest 17 = .ok (.iload_n 1, 1) := by decide +kernel
theorem dX8_keepBest_18 : decode cX8_keepBest 18 = .ok (.iaload, 1) := by decide +kernel
theorem dX8_keepBest_19 : decode cX8_keepBest 19 = .ok (.iastore, 1) := by decide +kernel
theorem dX8_keepBest_20 : decode cX8_keepBest 20 = .ok (.iinc 1 1, 3) := by decide +kernel
theorem dX8_keepBest_23 : decode cX8_keepBest 23 = .ok (.goto (-21), 3) := by decide +kernel
theorem dX8_keepBest_26 : decode cX8_keepBest 26 = .ok (.return_, 1) := by decide +kernel
set_option maxRecDepth 20000 in
theorem ggX8_areSets_X8_in : GoodIn wsX8_areSets wsX8_in := goodIn_r _ [4] (by decide +kernel) (by decide +kernel)
set_option maxRecDepth 20000 in
theorem gX8_areSets_X8_in : GoodIn wsX8_areSets (va_wsS RX8 71 yX8_in wsX8_in) := goodIn_app (goodIn_of _ (by decide +kernel)) ggX8_areSets_X8_in
theorem dX8_areSets_0 : decode cX8_areSets 0 = .ok (.iload_n 0, 1) := by decide +kernel
theorem dX8_areSets_1 : decode cX8_areSets 1 = .ok (.iconst 0, 1) := by decide +kernel
theorem dX8_areSets_2 : decode cX8_areSets 2 = .ok (.bipush 63, 2) := by decide +kernel
theorem dX8_areSets_4 : decode cX8_areSets 4 = .ok (.invokestatic 71, 3) := by decide +kernel
theorem dX8_areSets_7 : decode cX8_areSets 7 = .ok (.ifCond .eq 17, 3) := by decide +kernel
theorem dX8_areSets_10 : decode cX8_areSets 10 = .ok (.iload_n 1, 1) := by decide +kernel
theorem dX8_areSets_11 : decode cX8_areSets 11 = .ok (.iconst 0, 1) := by decide +kernel
theorem dX8_areSets_12 : decode cX8_areSets 12 = .ok (.bipush 31, 2) := by decide +kernel
theorem dX8_areSets_14 : decode cX8_areSets 14 = .ok (.invokestatic 71, 3) := by decide +kernel
theorem dX8_areSets_17 : decode cX8_areSets 17 = .ok (.ifCond .eq 7, 3) := by decide +kernel
theorem dX8_areSets_20 : decode cX8_areSets 20 = .ok (.iconst 1, 1) := by decide +kernel
theorem dX8_areSets_21 : decode cX8_areSets 21 = .ok (.goto 4, 3) := by decide +kernel
theorem dX8_areSets_24 : decode cX8_areSets 24 = .ok (.iconst 0, 1) := by decide +kernel
theorem dX8_areSets_25 : decode cX8_areSets 25 = .ok (.ireturn, 1) := by decide +kernel
set_option maxRecDepth 20000 in
theorem ggX8_toldOf_X8_sailing : GoodIn wsX8_toldOf wsX8_sailing := goodIn_r _ [6] (by decide +kernel) (by decide +kernel)
set_option maxRecDepth 20000 in
theorem gX8_toldOf_X8_sailing : GoodIn wsX8_toldOf (wsV RX8 137 RX8 yX8_sailing wsX8_sailing) := goodIn_app (goodIn_of _ (by decide +kernel)) ggX8_toldOf_X8_sailing
set_option maxRecDepth 20000 in
theorem ggX8_toldOf_X8_worthOf : GoodIn wsX8_toldOf wsX8_worthOf := goodIn_r _ [10, 11, 18, 19, 20, 21, 22, 23, 24, 25, 26, 27, 28, 29, 30, 31, 32, 33, 34, 35, 36, 37, 38, 39, 40, 41] (by decide +kernel) (by decide +kernel)
set_option maxRecDepth 20000 in
theorem gX8_toldOf_X8_worthOf : GoodIn wsX8_toldOf (wsV RX8 141 RX8 yX8_worthOf wsX8_worthOf) := goodIn_app (goodIn_of _ (by decide +kernel)) ggX8_toldOf_X8_worthOf
set_option maxRecDepth 20000 in
theorem ggX8_toldOf_X8_isHull : GoodIn wsX8_toldOf wsX8_isHull := goodIn_r _ [14, 15, 16, 5, 17] (by decide +kernel) (by decide +kernel)
set_option maxRecDepth 20000 in
theorem gX8_toldOf_X8_isHull : GoodIn wsX8_toldOf (va_wsS RX8 75 yX8_isHull wsX8_isHull) := goodIn_app (goodIn_of _ (by decide +kernel)) ggX8_toldOf_X8_isHull
theorem dX8_toldOf_0 : decode cX8_toldOf 0 = .ok (.iload_n 1, 1) := by decide +kernel
theorem dX8_toldOf_1 : decode cX8_toldOf 1 = .ok (.bipush (-2), 2) := by decide +kernel
theorem dX8_toldOf_3 : decode cX8_toldOf 3 = .ok (.if_icmp .ne 14, 3) := by decide +kernel
theorem dX8_toldOf_6 : decode cX8_toldOf 6 = .ok (.aload_n 0, 1) := by decide +kernel
theorem dX8_toldOf_7 : decode cX8_toldOf 7 = .ok (.aload_n 0, 1) := by decide +kernel
theorem dX8_toldOf_8 : decode cX8_toldOf 8 = .ok (.getfield 53, 3) := by decide +kernel
theorem dX8_toldOf_11 : decode cX8_toldOf 11 = .ok (.invokevirtual 137, 3) := by decide +kernel
theorem dX8_toldOf_14 : decode cX8_toldOf 14 = .ok (.goto 37, 3) := by decide +kernel
theorem dX8_toldOf_17 : decode cX8_toldOf 17 = .ok (.iload_n 1, 1) := by decide +kernel
theorem dX8_toldOf_18 : decode cX8_toldOf 18 = .ok (.iconst (-1), 1) := by decide +kernel
theorem dX8_toldOf_19 : decode cX8_toldOf 19 = .ok (.if_icmp .ne 14, 3) := by decide +kernel
theorem dX8_toldOf_22 : decode cX8_toldOf 22 = .ok (.aload_n 0, 1) := by decide +kernel
theorem dX8_toldOf_23 : decode cX8_toldOf 23 = .ok (.aload_n 0, 1) := by decide +kernel
theorem dX8_toldOf_24 : decode cX8_toldOf 24 = .ok (.getfield 53, 3) := by decide +kernel
theorem dX8_toldOf_27 : decode cX8_toldOf 27 = .ok (.invokevirtual 141, 3) := by decide +kernel
theorem dX8_toldOf_30 : decode cX8_toldOf 30 = .ok (.goto 21, 3) := by decide +kernel
theorem dX8_toldOf_33 : decode cX8_toldOf 33 = .ok (.iload_n 1, 1) := by decide +kernel
theorem dX8_toldOf_34 : decode cX8_toldOf 34 = .ok (.invokestatic 75, 3) := by decide +kernel
theorem dX8_toldOf_37 : decode cX8_toldOf 37 = .ok (.ifCond .eq 12, 3) := by decide +kernel
theorem dX8_toldOf_40 : decode cX8_toldOf 40 = .ok (.aload_n 0, 1) := by decide +kernel
theorem dX8_toldOf_41 : decode cX8_toldOf 41 = .ok (.getfield 53, 3) := by decide +kernel
theorem dX8_toldOf_44 : decode cX8_toldOf 44 = .ok (.iload_n 1, 1) := by decide +kernel
theorem dX8_toldOf_45 : decode cX8_toldOf 45 = .ok (.iaload, 1) := by decide +kernel
theorem dX8_toldOf_46 : decode cX8_toldOf 46 = .ok (.goto 5, 3) := by decide +kernel
theorem dX8_toldOf_49 : decode cX8_toldOf 49 = .ok (.bipush (-6), 2) := by decide +kernel
theorem dX8_toldOf_51 : decode cX8_toldOf 51 = .ok (.ireturn, 1) := by decide +kernel
set_option maxRecDepth 20000 in
theorem ggX8_most_X8_areSets : GoodIn wsX8_most wsX8_areSets := goodIn_r _ [6, 7, 8, 5, 9] (by decide +kernel) (by decide +kernel)
set_option maxRecDepth 20000 in
theorem gX8_most_X8_areSets : GoodIn wsX8_most (va_wsS RX8 144 yX8_areSets wsX8_areSets) := goodIn_app (goodIn_of _ (by decide +kernel)) ggX8_most_X8_areSets
set_option maxRecDepth 20000 in
theorem ggX8_most_X8_layGiving : GoodIn wsX8_most wsX8_layGiving := goodIn_r _ [13, 2, 14, 15, 16, 5, 17, 39, 40, 41, 42, 43, 44, 45, 46, 47, 48, 49, 50, 51, 52, 53, 54, 55, 56, 57, 58, 59, 60, 61, 62] (by decide +kernel) (by decide +kernel)
set_option maxRecDepth 20000 in
theorem gX8_most_X8_layGiving : GoodIn wsX8_most (wsV RX8 148 RX8 yX8_layGiving wsX8_layGiving) := goodIn_app (goodIn_of _ (by decide +kernel)) ggX8_most_X8_layGiving
set_option maxRecDepth 20000 in
theorem ggX8_most_X8_sailing : GoodIn wsX8_most wsX8_sailing := goodIn_r _ [21] (by decide +kernel) (by decide +kernel)
set_option maxRecDepth 20000 in
theorem gX8_most_X8_sailing : GoodIn wsX8_most (wsV RX8 137 RX8 yX8_sailing wsX8_sailing) := goodIn_app (goodIn_of _ (by decide +kernel)) ggX8_most_X8_sailing
set_option maxRecDepth 20000 in
theorem ggX8_most_X8_worthOf : GoodIn wsX8_most wsX8_worthOf := goodIn_r _ [25, 26, 39, 40, 41, 42, 43, 44, 45, 46, 47, 48, 49, 50, 51, 52, 53, 54, 55, 56, 57, 58, 59, 60, 61, 62] (by decide +kernel) (by decide +kernel)
set_option maxRecDepth 20000 in
theorem gX8_most_X8_worthOf : GoodIn wsX8_most (wsV RX8 141 RX8 yX8_worthOf wsX8_worthOf) := goodIn_app (goodIn_of _ (by decide +kernel)) ggX8_most_X8_worthOf
set_option maxRecDepth 20000 in
theorem ggX8_most_X8_keepBest : GoodIn wsX8_most wsX8_keepBest := goodIn_r _ [30, 31, 2, 39, 40, 41, 42, 43, 44, 45, 46, 47, 48, 49, 50, 51, 52, 53, 54, 55, 56, 57, 58, 59, 60, 61, 62] (by decide +kernel) (by decide +kernel)
set_option maxRecDepth 20000 in
theorem gX8_most_X8_keepBest : GoodIn wsX8_most (wsV RX8 151 RX8 yX8_keepBest wsX8_keepBest) := goodIn_app (goodIn_of _ (by decide +kernel)) ggX8_most_X8_keepBest
set_option maxRecDepth 20000 in
theorem ggX8_most_X8_toldOf : GoodIn wsX8_most wsX8_toldOf := goodIn_r _ [35, 31, 18, 19, 20, 5, 21, 22, 23, 24, 25, 26, 36, 37, 38, 7, 8, 9, 39, 40, 41, 42, 43, 44, 45, 46, 47, 48, 49, 50, 51, 52, 53, 54, 55, 56, 57, 58, 59, 60, 61, 62] (by decide +kernel) (by decide +kernel)
set_option maxRecDepth 20000 in
theorem gX8_most_X8_toldOf : GoodIn wsX8_most (wsV RX8 154 RX8 yX8_toldOf wsX8_toldOf) := goodIn_app (goodIn_of _ (by decide +kernel)) ggX8_most_X8_toldOf
theorem dX8_most_0 : decode cX8_most 0 = .ok (.iload_n 1, 1) := by decide +kernel
theorem dX8_most_1 : decode cX8_most 1 = .ok (.iload_n 2, 1) := by decide +kernel
theorem dX8_most_2 : decode cX8_most 2 = .ok (.invokestatic 144, 3) := by decide +kernel
theorem dX8_most_5 : decode cX8_most 5 = .ok (.ifCond .ne 6, 3) := by decide +kernel
theorem dX8_most_8 : decode cX8_most 8 = .ok (.bipush (-2), 2) := by decide +kernel
theorem dX8_most_10 : decode cX8_most 10 = .ok (.ireturn, 1) := by decide +kernel
theorem dX8_most_11 : decode cX8_most 11 = .ok (.bipush (-6), 2) := by decide +kernel
theorem dX8_most_13 : decode cX8_most 13 = .ok (.istore 4, 2) := by decide +kernel
theorem dX8_most_15 : decode cX8_most 15 = .ok (.iconst 0, 1) := by decide +kernel
theorem dX8_most_16 : decode cX8_most 16 = .ok (.istore 5, 2) := by decide +kernel
theorem dX8_most_18 : decode cX8_most 18 = .ok (.iconst 0, 1) := by decide +kernel
theorem dX8_most_19 : decode cX8_most 19 = .ok (.istore 6, 2) := by decide +kernel
theorem dX8_most_21 : decode cX8_most 21 = .ok (.iload 6, 2) := by decide +kernel
theorem dX8_most_23 : decode cX8_most 23 = .ok (.ldc 147, 2) := by decide +kernel
theorem dX8_most_25 : decode cX8_most 25 = .ok (.if_icmp .ge 73, 3) := by decide +kernel
theorem dX8_most_28 : decode cX8_most 28 = .ok (.aload_n 0, 1) := by decide +kernel
theorem dX8_most_29 : decode cX8_most 29 = .ok (.iload 6, 2) := by decide +kernel
theorem dX8_most_31 : decode cX8_most 31 = .ok (.iload_n 1, 1) := by decide +kernel
theorem dX8_most_32 : decode cX8_most 32 = .ok (.iload_n 2, 1) := by decide +kernel
theorem dX8_most_33 : decode cX8_most 33 = .ok (.invokevirtual 148, 3) := by decide +kernel
theorem dX8_most_36 : decode cX8_most 36 = .ok (.ifCond .eq 56, 3) := by decide +kernel
theorem dX8_most_39 : decode cX8_most 39 = .ok (.aload_n 0, 1) := by decide +kernel
theorem dX8_most_40 : decode cX8_most 40 = .ok (.aload_n 0, 1) := by decide +kernel
theorem dX8_most_41 : decode cX8_most 41 = .ok (.getfield 50, 3) := by decide +kernel
theorem dX8_most_44 : decode cX8_most 44 = .ok (.invokevirtual 137, 3) := by decide +kernel
theorem dX8_most_47 : decode cX8_most 47 = .ok (.istore 7, 2) := by decide +kernel
theorem dX8_most_49 : decode cX8_most 49 = .ok (.aload_n 0, 1) := by decide +kernel
theorem dX8_most_50 : decode cX8_most 50 = .ok (.aload_n 0, 1) := by decide +kernel
theorem dX8_most_51 : decode cX8_most 51 = .ok (.getfield 50, 3) := by decide +kernel
theorem dX8_most_54 : decode cX8_most 54 = .ok (.invokevirtual 141, 3) := by decide +kernel
theorem dX8_most_57 : decode cX8_most 57 = .ok (.istore 8, 2) := by decide +kernel
theorem dX8_most_59 : decode cX8_most 59 = .ok (.iload 7, 2) := by decide +kernel
theorem dX8_most_61 : decode cX8_most 61 = .ok (.iload 4, 2) := by decide +kernel
theorem dX8_most_63 : decode cX8_most 63 = .ok (.if_icmp .gt 17, 3) := by decide +kernel
theorem dX8_most_66 : decode cX8_most 66 = .ok (.iload 7, 2) := by decide +kernel
theorem dX8_most_68 : decode cX8_most 68 = .ok (.iload 4, 2) := by decide +kernel
theorem dX8_most_70 : decode cX8_most 70 = .ok (.if_icmp .ne 22, 3) := by decide +kernel
theorem dX8_most_73 : decode cX8_most 73 = .ok (.iload 8, 2) := by decide +kernel
theorem dX8_most_75 : decode cX8_most 75 = .ok (.iload 5, 2) := by decide +kernel
theorem dX8_most_77 : decode cX8_most 77 = .ok (.if_icmp .le 15, 3) := by decide +kernel
theorem dX8_most_80 : decode cX8_most 80 = .ok (.iload 7, 2) := by decide +kernel
theorem dX8_most_82 : decode cX8_most 82 = .ok (.istore 4, 2) := by decide +kernel
theorem dX8_most_84 : decode cX8_most 84 = .ok (.iload 8, 2) := by decide +kernel
theorem dX8_most_86 : decode cX8_most 86 = .ok (.istore 5, 2) := by decide +kernel
theorem dX8_most_88 : decode cX8_most 88 = .ok (.aload_n 0, 1) := by decide +kernel
theorem dX8_most_89 : decode cX8_most 89 = .ok (.invokevirtual 151, 3) := by decide +kernel
theorem dX8_most_92 : decode cX8_most 92 = .ok (.iinc 6 1, 3) := by decide +kernel
theorem dX8_most_95 : decode cX8_most 95 = .ok (.goto (-74), 3) := by decide +kernel
theorem dX8_most_98 : decode cX8_most 98 = .ok (.aload_n 0, 1) := by decide +kernel
theorem dX8_most_99 : decode cX8_most 99 = .ok (.iload_n 3, 1) := by decide +kernel
theorem dX8_most_100 : decode cX8_most 100 = .ok (.invokevirtual 154, 3) := by decide +kernel
theorem dX8_most_103 : decode cX8_most 103 = .ok (.ireturn, 1) := by decide +kernel
theorem dX8_likes_0 : decode cX8_likes 0 = .ok (.iload_n 3, 1) := by decide +kernel
theorem dX8_likes_1 : decode cX8_likes 1 = .ok (.ifCond .ge 5, 3) := by decide +kernel
theorem dX8_likes_4 : decode cX8_likes 4 = .ok (.iconst 1, 1) := by decide +kernel
theorem dX8_likes_5 : decode cX8_likes 5 = .ok (.ireturn, 1) := by decide +kernel
theorem dX8_likes_6 : decode cX8_likes 6 = .ok (.aload_n 0, 1) := by decide +kernel
theorem dX8_likes_7 : decode cX8_likes 7 = .ok (.getfield 19, 3) := by decide +kernel
theorem dX8_likes_10 : decode cX8_likes 10 = .ok (.iconst 5, 1) := by decide +kernel
theorem dX8_likes_11 : decode cX8_likes 11 = .ok (.iload_n 1, 1) := by decide +kernel
theorem dX8_likes_12 : decode cX8_likes 12 = .ok (.imul, 1) := by decide +kernel
theorem dX8_likes_13 : decode cX8_likes 13 = .ok (.iload_n 2, 1) := by decide +kernel
theorem dX8_likes_14 : decode cX8_likes 14 = .ok (.iadd, 1) := by decide +kernel
theorem dX8_likes_15 : decode cX8_likes 15 = .ok (.iaload, 1) := by decide +kernel
theorem dX8_likes_16 : decode cX8_likes 16 = .ok (.istore 4, 2) := by decide +kernel
theorem dX8_likes_18 : decode cX8_likes 18 = .ok (.aload_n 0, 1) := by decide +kernel
theorem dX8_likes_19 : decode cX8_likes 19 = .ok (.getfield 19, 3) := by decide +kernel
theorem dX8_likes_22 : decode cX8_likes 22 = .ok (.iconst 5, 1) := by decide +kernel
theorem dX8_likes_23 : decode cX8_likes 23 = .ok (.iload_n 1, 1) := by decide +kernel
theorem dX8_likes_24 : decode cX8_likes 24 = .ok (.imul, 1) := by decide +kernel
theorem dX8_likes_25 : decode cX8_likes 25 = .ok (.iload_n 3, 1) := by decide +kernel
theorem dX8_likes_26 : decode cX8_likes 26 = .ok (.iadd, 1) := by decide +kernel
theorem dX8_likes_27 : decode cX8_likes 27 = .ok (.iaload, 1) := by decide +kernel
theorem dX8_likes_28 : decode cX8_likes 28 = .ok (.istore 5, 2) := by decide +kernel
theorem dX8_likes_30 : decode cX8_likes 30 = .ok (.iload 4, 2) := by decide +kernel
theorem dX8_likes_32 : decode cX8_likes 32 = .ok (.iload 5, 2) := by decide +kernel
theorem dX8_likes_34 : decode cX8_likes 34 = .ok (.if_icmp .eq 18, 3) := by decide +kernel
theorem dX8_likes_37 : decode cX8_likes 37 = .ok (.iload 4, 2) := by decide +kernel
theorem dX8_likes_39 : decode cX8_likes 39 = .ok (.iload 5, 2) := by decide +kernel
theorem dX8_likes_41 : decode cX8_likes 41 = .ok (.if_icmp .le 7, 3) := by decide +kernel
theorem dX8_likes_44 : decode cX8_likes 44 = .ok (.iconst 1, 1) := by decide +kernel
theorem dX8_likes_45 : decode cX8_likes 45 = .ok (.goto 17, 3) := by decide +kernel
theorem dX8_likes_48 : decode cX8_likes 48 = .ok (.iconst 0, 1) := by decide +kernel
theorem dX8_likes_49 : decode cX8_likes 49 = .ok (.goto 13, 3) := by decide +kernel
theorem dX8_likes_52 : decode cX8_likes 52 = .ok (.iload_n 2, 1) := by decide +kernel
theorem dX8_likes_53 : decode cX8_likes 53 = .ok (.iload_n 3, 1) := by decide +kernel
theorem dX8_likes_54 : decode cX8_likes 54 = .ok (.if_icmp .ge 7, 3) := by decide +kernel
theorem dX8_likes_57 : decode cX8_likes 57 = .ok (.iconst 1, 1) := by decide +kernel
theorem dX8_likes_58 : decode cX8_likes 58 = .ok (.goto 4, 3) := by decide +kernel
theorem dX8_likes_61 : decode cX8_likes 61 = .ok (.iconst 0, 1) := by decide +kernel
theorem dX8_likes_62 : decode cX8_likes 62 = .ok (.ireturn, 1) := by decide +kernel
set_option maxRecDepth 20000 in
theorem ggX8_likesHull_X8_placeIn : GoodIn wsX8_likesHull wsX8_placeIn := goodIn_r _ [5] (by decide +kernel) (by decide +kernel)
set_option maxRecDepth 20000 in
theorem gX8_likesHull_X8_placeIn : GoodIn wsX8_likesHull (va_wsS RX8 83 yX8_placeIn wsX8_placeIn) := goodIn_app (goodIn_of _ (by decide +kernel)) ggX8_likesHull_X8_placeIn
theorem dX8_likesHull_0 : decode cX8_likesHull 0 = .ok (.iload_n 3, 1) := by decide +kernel
theorem dX8_likesHull_1 : decode cX8_likesHull 1 = .ok (.ifCond .lt 26, 3) := by decide +kernel
theorem dX8_likesHull_4 : decode cX8_likesHull 4 = .ok (.aload_n 0, 1) := by decide +kernel
theorem dX8_likesHull_5 : decode cX8_likesHull 5 = .ok (.getfield 22, 3) := by decide +kernel
theorem dX8_likesHull_8 : decode cX8_likesHull 8 = .ok (.iload_n 1, 1) := by decide +kernel
theorem dX8_likesHull_9 : decode cX8_likesHull 9 = .ok (.iaload, 1) := by decide +kernel
theorem dX8_likesHull_10 : decode cX8_likesHull 10 = .ok (.iload_n 2, 1) := by decide +kernel
theorem dX8_likesHull_11 : decode cX8_likesHull 11 = .ok (.invokestatic 83, 3) := by decide +kernel
theorem dX8_likesHull_14 : decode cX8_likesHull 14 = .ok (.aload_n 0, 1) := by decide +kernel
theorem dX8_likesHull_15 : decode cX8_likesHull 15 = .ok (.getfield 22, 3) := by decide +kernel
theorem dX8_likesHull_18 : decode cX8_likesHull 18 = .ok (.iload_n 1, 1) := by decide +kernel
theorem dX8_likesHull_19 : decode cX8_likesHull 19 = .ok (.iaload, 1) := by decide +kernel
theorem dX8_likesHull_20 : decode cX8_likesHull 20 = .ok (.iload_n 3, 1) := by decide +kernel
theorem dX8_likesHull_21 : decode cX8_likesHull 21 = .ok (.invokestatic 83, 3) := by decide +kernel
theorem dX8_likesHull_24 : decode cX8_likesHull 24 = .ok (.if_icmp .ge 7, 3) := by decide +kernel
theorem dX8_likesHull_27 : decode cX8_likesHull 27 = .ok (.iconst 1, 1) := by decide +kernel
theorem dX8_likesHull_28 : decode cX8_likesHull 28 = .ok (.goto 4, 3) := by decide +kernel
theorem dX8_likesHull_31 : decode cX8_likesHull 31 = .ok (.iconst 0, 1) := by decide +kernel
theorem dX8_likesHull_32 : decode cX8_likesHull 32 = .ok (.ireturn, 1) := by decide +kernel
set_option maxRecDepth 20000 in
theorem ggX8_stable_X8_areSets : GoodIn wsX8_stable wsX8_areSets := goodIn_r _ [8, 9, 10, 7, 11] (by decide +kernel) (by decide +kernel)
set_option maxRecDepth 20000 in
theorem gX8_stable_X8_areSets : GoodIn wsX8_stable (va_wsS RX8 144 yX8_areSets wsX8_areSets) := goodIn_app (goodIn_of _ (by decide +kernel)) ggX8_stable_X8_areSets
set_option maxRecDepth 20000 in
theorem ggX8_stable_X8_has : GoodIn wsX8_stable wsX8_has := goodIn_r _ [14] (by decide +kernel) (by decide +kernel)
set_option maxRecDepth 20000 in
theorem gX8_stable_X8_has : GoodIn wsX8_stable (va_wsS RX8 107 yX8_has wsX8_has) := goodIn_app (goodIn_of _ (by decide +kernel)) ggX8_stable_X8_has
set_option maxRecDepth 20000 in
theorem ggX8_stable_X8_likes : GoodIn wsX8_stable wsX8_likes := goodIn_r _ [18, 19, 43, 44, 45, 46, 47, 48, 49, 50, 51, 52, 53, 54, 55, 56, 57, 58, 59, 60, 61, 62, 63, 64, 65, 66] (by decide +kernel) (by decide +kernel)
set_option maxRecDepth 20000 in
theorem gX8_stable_X8_likes : GoodIn wsX8_stable (wsV RX8 157 RX8 yX8_likes wsX8_likes) := goodIn_app (goodIn_of _ (by decide +kernel)) ggX8_stable_X8_likes
set_option maxRecDepth 20000 in
theorem ggX8_stable_X8_likesHull : GoodIn wsX8_stable wsX8_likesHull := goodIn_r _ [23, 24, 25, 26, 7, 27, 43, 44, 45, 46, 47, 48, 49, 50, 51, 52, 53, 54, 55, 56, 57, 58, 59, 60, 61, 62, 63, 64, 65, 66] (by decide +kernel) (by decide +kernel)
set_option maxRecDepth 20000 in
theorem gX8_stable_X8_likesHull : GoodIn wsX8_stable (wsV RX8 160 RX8 yX8_likesHull wsX8_likesHull) := goodIn_app (goodIn_of _ (by decide +kernel)) ggX8_stable_X8_likesHull
set_option maxRecDepth 20000 in
theorem ggX8_stable_X8_toldOf : GoodIn wsX8_stable wsX8_toldOf := goodIn_r _ [31, 1, 32, 33, 34, 7, 35, 36, 37, 38, 39, 19, 40, 41, 42, 9, 10, 11, 43, 44, 45, 46, 47, 48, 49, 50, 51, 52, 53, 54, 55, 56, 57, 58, 59, 60, 61, 62, 63, 64, 65, 66] (by decide +kernel) (by decide +kernel)
set_option maxRecDepth 20000 in
theorem gX8_stable_X8_toldOf : GoodIn wsX8_stable (wsV RX8 154 RX8 yX8_toldOf wsX8_toldOf) := goodIn_app (goodIn_of _ (by decide +kernel)) ggX8_stable_X8_toldOf
theorem dX8_stable_0 : decode cX8_stable 0 = .ok (.iload_n 1, 1) := by decide +kernel
theorem dX8_stable_1 : decode cX8_stable 1 = .ok (.iload_n 2, 1) := by decide +kernel
theorem dX8_stable_2 : decode cX8_stable 2 = .ok (.invokestatic 144, 3) := by decide +kernel
theorem dX8_stable_5 : decode cX8_stable 5 = .ok (.ifCond .ne 6, 3) := by decide +kernel
theorem dX8_stable_8 : decode cX8_stable 8 = .ok (.bipush (-2), 2) := by decide +kernel
theorem dX8_stable_10 : decode cX8_stable 10 = .ok (.ireturn, 1) := by decide +kernel
theorem dX8_stable_11 : decode cX8_stable 11 = .ok (.iconst 0, 1) := by decide +kernel
theorem dX8_stable_12 : decode cX8_stable 12 = .ok (.istore 4, 2) := by decide +kernel
theorem dX8_stable_14 : decode cX8_stable 14 = .ok (.iload 4, 2) := by decide +kernel
theorem dX8_stable_16 : decode cX8_stable 16 = .ok (.bipush 6, 2) := by decide +kernel
theorem dX8_stable_18 : decode cX8_stable 18 = .ok (.if_icmp .ge 26, 3) := by decide +kernel
theorem dX8_stable_21 : decode cX8_stable 21 = .ok (.aload_n 0, 1) := by decide +kernel
theorem dX8_stable_22 : decode cX8_stable 22 = .ok (.getfield 53, 3) := by decide +kernel
theorem dX8_stable_25 : decode cX8_stable 25 = .ok (.iload 4, 2) := by decide +kernel
theorem dX8_stable_27 : decode cX8_stable 27 = .ok (.bipush (-6), 2) := by decide +kernel
theorem dX8_stable_29 : decode cX8_stable 29 = .ok (.iastore, 1) := by decide +kernel
theorem dX8_stable_30 : decode cX8_stable 30 = .ok (.aload_n 0, 1) := by decide +kernel
theorem dX8_stable_31 : decode cX8_stable 31 = .ok (.getfield 59, 3) := by decide +kernel
theorem dX8_stable_34 : decode cX8_stable 34 = .ok (.iload 4, 2) := by decide +kernel
theorem dX8_stable_36 : decode cX8_stable 36 = .ok (.iconst 0, 1) := by decide +kernel
theorem dX8_stable_37 : decode cX8_stable 37 = .ok (.iastore, 1) := by decide +kernel
theorem dX8_stable_38 : decode cX8_stable 38 = .ok (.iinc 4 1, 3) := by decide +kernel
theorem dX8_stable_41 : decode cX8_stable 41 = .ok (.goto (-27), 3) := by decide +kernel
theorem dX8_stable_44 : decode cX8_stable 44 = .ok (.iconst 0, 1) := by decide +kernel
theorem dX8_stable_45 : decode cX8_stable 45 = .ok (.istore 4, 2) := by decide +kernel
theorem dX8_stable_47 : decode cX8_stable 47 = .ok (.iload 4, 2) := by decide +kernel
theorem dX8_stable_49 : decode cX8_stable 49 = .ok (.iconst 5, 1) := by decide +kernel
theorem dX8_stable_50 : decode cX8_stable 50 = .ok (.if_icmp .ge 18, 3) := by decide +kernel
theorem dX8_stable_53 : decode cX8_stable 53 = .ok (.aload_n 0, 1) := by decide +kernel
theorem dX8_stable_54 : decode cX8_stable 54 = .ok (.getfield 56, 3) := by decide +kernel
theorem dX8_stable_57 : decode cX8_stable 57 = .ok (.iload 4, 2) := by decide +kernel
theorem dX8_stable_59 : decode cX8_stable 59 = .ok (.bipush (-6), 2) := by decide +kernel
theorem dX8_stable_61 : decode cX8_stable 61 = .ok (.iastore, 1) := by decide +kernel
theorem dX8_stable_62 : decode cX8_stable 62 = .ok (.iinc 4 1, 3) := by decide +kernel
theorem dX8_stable_65 : decode cX8_stable 65 = .ok (.goto (-18), 3) := by decide +kernel
theorem dX8_stable_68 : decode cX8_stable 68 = .ok (.iconst 1, 1) := by decide +kernel
theorem dX8_stable_69 : decode cX8_stable 69 = .ok (.istore 4, 2) := by decide +kernel
theorem dX8_stable_71 : decode cX8_stable 71 = .ok (.iload 4, 2) := by decide +kernel
theorem dX8_stable_73 : decode cX8_stable 73 = .ok (.ifCond .eq 200, 3) := by decide +kernel
theorem dX8_stable_76 : decode cX8_stable 76 = .ok (.iconst 0, 1) := by decide +kernel
theorem dX8_stable_77 : decode cX8_stable 77 = .ok (.istore 4, 2) := by decide +kernel
theorem dX8_stable_79 : decode cX8_stable 79 = .ok (.iconst 0, 1) := by decide +kernel
theorem dX8_stable_80 : decode cX8_stable 80 = .ok (.istore 5, 2) := by decide +kernel
theorem dX8_stable_82 : decode cX8_stable 82 = .ok (.iload 5, 2) := by decide +kernel
theorem dX8_stable_84 : decode cX8_stable 84 = .ok (.bipush 6, 2) := by decide +kernel
theorem dX8_stable_86 : decode cX8_stable 86 = .ok (.if_icmp .ge 184, 3) := by decide +kernel
theorem dX8_stable_89 : decode cX8_stable 89 = .ok (.bipush (-6), 2) := by decide +kernel
theorem dX8_stable_91 : decode cX8_stable 91 = .ok (.istore 6, 2) := by decide +kernel
theorem dX8_stable_93 : decode cX8_stable 93 = .ok (.iconst 0, 1) := by decide +kernel
theorem dX8_stable_94 : decode cX8_stable 94 = .ok (.istore 7, 2) := by decide +kernel
theorem dX8_stable_96 : decode cX8_stable 96 = .ok (.iload 7, 2) := by decide +kernel
theorem dX8_stable_98 : decode cX8_stable 98 = .ok (.iconst 5, 1) := by decide +kernel
theorem dX8_stable_99 : decode cX8_stable 99 = .ok (.if_icmp .ge 89, 3) := by decide +kernel
theorem dX8_stable_102 : decode cX8_stable 102 = .ok (.iload_n 1, 1) := by decide +kernel
theorem dX8_stable_103 : decode cX8_stable 103 = .ok (.iload 5, 2) := by decide +kernel
theorem dX8_stable_105 : decode cX8_stable 105 = .ok (.invokestatic 107, 3) := by decide +kernel
theorem dX8_stable_108 : decode cX8_stable 108 = .ok (.ifCond .eq 44, 3) := by decide +kernel
theorem dX8_stable_111 : decode cX8_stable 111 = .ok (.aload_n 0, 1) := by decide +kernel
theorem dX8_stable_112 : decode cX8_stable 112 = .ok (.getfield 53, 3) := by decide +kernel
theorem dX8_stable_115 : decode cX8_stable 115 = .ok (.iload 5, 2) := by decide +kernel
theorem dX8_stable_117 : decode cX8_stable 117 = .ok (.iaload, 1) := by decide +kernel
theorem dX8_stable_118 : decode cX8_stable 118 = .ok (.ifCond .ge 34, 3) := by decide +kernel
theorem dX8_stable_121 : decode cX8_stable 121 = .ok (.iload_n 2, 1) := by decide +kernel
theorem dX8_stable_122 : decode cX8_stable 122 = .ok (.aload_n 0, 1) := by decide +kernel
theorem dX8_stable_123 : decode cX8_stable 123 = .ok (.getfield 7, 3) := by decide +kernel
theorem dX8_stable_126 : decode cX8_stable 126 = .ok (.iload 5, 2) := by decide +kernel
theorem dX8_stable_128 : decode cX8_stable 128 = .ok (.iaload, 1) := by decide +kernel
theorem dX8_stable_129 : decode cX8_stable 129 = .ok (.iand, 1) := by decide +kernel
theorem dX8_stable_130 : decode cX8_stable 130 = .ok (.aload_n 0, 1) := by decide +kernel
theorem dX8_stable_131 : decode cX8_stable 131 = .ok (.getfield 59, 3) := by decide +kernel
theorem dX8_stable_134 : decode cX8_stable 134 = .ok (.iload 5, 2) := by decide +kernel
theorem dX8_stable_136 : decode cX8_stable 136 = .ok (.iaload, 1) := by decide +kernel
theorem dX8_stable_137 : decode cX8_stable 137 = .ok (.iconst (-1), 1) := by decide +kernel
theorem dX8_stable_138 : decode cX8_stable 138 = .ok (.ixor, 1) := by decide +kernel
theorem dX8_stable_139 : decode cX8_stable 139 = .ok (.iand, 1) := by decide +kernel
theorem dX8_stable_140 : decode cX8_stable 140 = .ok (.iload 7, 2) := by decide +kernel
theorem dX8_stable_142 : decode cX8_stable 142 = .ok (.invokestatic 107, 3) := by decide +kernel
theorem dX8_stable_145 : decode cX8_stable 145 = .ok (.ifCond .eq 7, 3) := by decide +kernel
theorem dX8_stable_148 : decode cX8_stable 148 = .ok (.iconst 1, 1) := by decide +kernel
theorem dX8_stable_149 : decode cX8_stable 149 = .ok (.goto 4, 3) := by decide +kernel
theorem dX8_stable_152 : decode cX8_stable 152 = .ok (.iconst 0, 1) := by decide +kernel
theorem dX8_stable_153 : decode cX8_stable 153 = .ok (.istore 8, 2) := by decide +kernel
theorem dX8_stable_155 : decode cX8_stable 155 = .ok (.iload 8, 2) := by decide +kernel
theorem dX8_stable_157 : decode cX8_stable 157 = .ok (.ifCond .eq 21, 3) := by decide +kernel
theorem dX8_stable_160 : decode cX8_stable 160 = .ok (.aload_n 0, 1) := by decide +kernel
theorem dX8_stable_161 : decode cX8_stable 161 = .ok (.iload 5, 2) := by decide +kernel
theorem dX8_stable_163 : decode cX8_stable 163 = .ok (.iload 7, 2) := by decide +kernel
theorem dX8_stable_165 : decode cX8_stable 165 = .ok (.iload 6, 2) := by decide +kernel
theorem dX8_stable_167 : decode cX8_stable 167 = .ok (.invokevirtual 157, 3) := by decide +kernel
theorem dX8_stable_170 : decode cX8_stable 170 = .ok (.ifCond .eq 8, 3) := by decide +kernel
theorem dX8_stable_173 : decode cX8_stable 173 = .ok (.iload 7, 2) := by decide +kernel
theorem dX8_stable_175 : decode cX8_stable 175 = .ok (.goto 5, 3) := by decide +kernel
theorem dX8_stable_178 : decode cX8_stable 178 = .ok (.iload 6, 2) := by decide +kernel
theorem dX8_stable_180 : decode cX8_stable 180 = .ok (.istore 6, 2) := by decide +kernel
theorem dX8_stable_182 : decode cX8_stable 182 = .ok (.iinc 7 1, 3) := by decide +kernel
theorem dX8_stable_185 : decode cX8_stable 185 = .ok (.goto (-89), 3) := by decide +kernel
theorem dX8_stable_188 : decode cX8_stable 188 = .ok (.iload 6, 2) := by decide +kernel
theorem dX8_stable_190 : decode cX8_stable 190 = .ok (.ifCond .lt 74, 3) := by decide +kernel
theorem dX8_stable_193 : decode cX8_stable 193 = .ok (.iconst 1, 1) := by decide +kernel
theorem dX8_stable_194 : decode cX8_stable 194 = .ok (.istore 4, 2) := by decide +kernel
theorem dX8_stable_196 : decode cX8_stable 196 = .ok (.aload_n 0, 1) := by decide +kernel
theorem dX8_stable_197 : decode cX8_stable 197 = .ok (.getfield 59, 3) := by decide +kernel
theorem dX8_stable_200 : decode cX8_stable 200 = .ok (.iload 5, 2) := by decide +kernel
theorem dX8_stable_202 : decode cX8_stable 202 = .ok (.dup2, 1) := by decide +kernel
theorem dX8_stable_203 : decode cX8_stable 203 = .ok (.iaload, 1) := by decide +kernel
theorem dX8_stable_204 : decode cX8_stable 204 = .ok (.iconst 1, 1) := by decide +kernel
theorem dX8_stable_205 : decode cX8_stable 205 = .ok (.iload 6, 2) := by decide +kernel
theorem dX8_stable_207 : decode cX8_stable 207 = .ok (.ishl, 1) := by decide +kernel
theorem dX8_stable_208 : decode cX8_stable 208 = .ok (.ior, 1) := by decide +kernel
theorem dX8_stable_209 : decode cX8_stable 209 = .ok (.iastore, 1) := by decide +kernel
theorem dX8_stable_210 : decode cX8_stable 210 = .ok (.aload_n 0, 1) := by decide +kernel
theorem dX8_stable_211 : decode cX8_stable 211 = .ok (.getfield 56, 3) := by decide +kernel
theorem dX8_stable_214 : decode cX8_stable 214 = .ok (.iload 6, 2) := by decide +kernel
theorem dX8_stable_216 : decode cX8_stable 216 = .ok (.iaload, 1) := by decide +kernel
theorem dX8_stable_217 : decode cX8_stable 217 = .ok (.istore 7, 2) := by decide +kernel
theorem dX8_stable_219 : decode cX8_stable 219 = .ok (.aload_n 0, 1) := by decide +kernel
theorem dX8_stable_220 : decode cX8_stable 220 = .ok (.iload 6, 2) := by decide +kernel
theorem dX8_stable_222 : decode cX8_stable 222 = .ok (.iload 5, 2) := by decide +kernel
theorem dX8_stable_224 : decode cX8_stable 224 = .ok (.iload 7, 2) := by decide +kernel
theorem dX8_stable_226 : decode cX8_stable 226 = .ok (.invokevirtual 160, 3) := by decide +kernel
theorem dX8_stable_229 : decode cX8_stable 229 = .ok (.ifCond .eq 35, 3) := by decide +kernel
theorem dX8_stable_232 : decode cX8_stable 232 = .ok (.iload 7, 2) := by decide +kernel
theorem dX8_stable_234 : decode cX8_stable 234 = .ok (.ifCond .lt 12, 3) := by decide +kernel
theorem dX8_stable_237 : decode cX8_stable 237 = .ok (.aload_n 0, 1) := by decide +kernel
theorem dX8_stable_238 : decode cX8_stable 238 = .ok (.getfield 53, 3) := by decide +kernel
theorem dX8_stable_241 : decode cX8_stable 241 = .ok (.iload 7, 2) := by decide +kernel
theorem dX8_stable_243 : decode cX8_stable 243 = .ok (.bipush (-6), 2) := by decide +kernel
theorem dX8_stable_245 : decode cX8_stable 245 = .ok (.iastore, 1) := by decide +kernel
theorem dX8_stable_246 : decode cX8_stable 246 = .ok (.aload_n 0, 1) := by decide +kernel
theorem dX8_stable_247 : decode cX8_stable 247 = .ok (.getfield 56, 3) := by decide +kernel
theorem dX8_stable_250 : decode cX8_stable 250 = .ok (.iload 6, 2) := by decide +kernel
theorem dX8_stable_252 : decode cX8_stable 252 = .ok (.iload 5, 2) := by decide +kernel
theorem dX8_stable_254 : decode cX8_stable 254 = .ok (.iastore, 1) := by decide +kernel
theorem dX8_stable_255 : decode cX8_stable 255 = .ok (.aload_n 0, 1) := by decide +kernel
theorem dX8_stable_256 : decode cX8_stable 256 = .ok (.getfield 53, 3) := by decide +kernel
theorem dX8_stable_259 : decode cX8_stable 259 = .ok (.iload 5, 2) := by decide +kernel
theorem dX8_stable_261 : decode cX8_stable 261 = .ok (.iload 6, 2) := by decide +kernel
theorem dX8_stable_263 : decode cX8_stable 263 = .ok (.iastore, 1) := by decide +kernel
theorem dX8_stable_264 : decode cX8_stable 264 = .ok (.iinc 5 1, 3) := by decide +kernel
theorem dX8_stable_267 : decode cX8_stable 267 = .ok (.goto (-185), 3) := by decide +kernel
theorem dX8_stable_270 : decode cX8_stable 270 = .ok (.goto (-199), 3) := by decide +kernel
theorem dX8_stable_273 : decode cX8_stable 273 = .ok (.aload_n 0, 1) := by decide +kernel
theorem dX8_stable_274 : decode cX8_stable 274 = .ok (.iload_n 3, 1) := by decide +kernel
theorem dX8_stable_275 : decode cX8_stable 275 = .ok (.invokevirtual 154, 3) := by decide +kernel
theorem dX8_stable_278 : decode cX8_stable 278 = .ok (.ireturn, 1) := by decide +kernel
theorem dX8_holderOf_0 : decode cX8_holderOf 0 = .ok (.bipush (-6), 2) := by decide +kernel
theorem dX8_holderOf_2 : decode cX8_holderOf 2 = .ok (.istore_n 2, 1) := by decide +kernel
theorem dX8_holderOf_3 : decode cX8_holderOf 3 = .ok (.iconst 0, 1) := by decide +kernel
theorem dX8_holderOf_4 : decode cX8_holderOf 4 = .ok (.istore_n 3, 1) := by decide +kernel
theorem dX8_holderOf_5 : decode cX8_holderOf 5 = .ok (.iload_n 3, 1) := by decide +kernel
theorem dX8_holderOf_6 : decode cX8_holderOf 6 = .ok (.bipush 6, 2) := by decide +kernel
theorem dX8_holderOf_8 : decode cX8_holderOf 8 = .ok (.if_icmp .ge 25, 3) := by decide +kernel
theorem dX8_holderOf_11 : decode cX8_holderOf 11 = .ok (.aload_n 0, 1) := by decide +kernel
theorem dX8_holderOf_12 : decode cX8_holderOf 12 = .ok (.getfield 50, 3) := by decide +kernel
theorem dX8_holderOf_15 : decode cX8_holderOf 15 = .ok (.iload_n 3, 1) := by decide +kernel
theorem dX8_holderOf_16 : decode cX8_holderOf 16 = .ok (.iaload, 1) := by decide +kernel
theorem dX8_holderOf_17 : decode cX8_holderOf 17 = .ok (.iload_n 1, 1) := by decide +kernel
theorem dX8_holderOf_18 : decode cX8_holderOf 18 = .ok (.if_icmp .ne 7, 3) := by decide +kernel
theorem dX8_holderOf_21 : decode cX8_holderOf 21 = .ok (.iload_n 3, 1) := by decide +kernel
theorem dX8_holderOf_22 : decode cX8_holderOf 22 = .ok (.goto 4, 3) := by decide +kernel
theorem dX8_holderOf_25 : decode cX8_holderOf 25 = .ok (.iload_n 2, 1) := by decide +kernel
theorem dX8_holderOf_26 : decode cX8_holderOf 26 = .ok (.istore_n 2, 1) := by decide +kernel
theorem dX8_holderOf_27 : decode cX8_holderOf 27 = .ok (.iinc 3 1, 3) := by decide +kernel
theorem dX8_holderOf_30 : decode cX8_holderOf 30 = .ok (.goto (-25), 3) := by decide +kernel
theorem dX8_holderOf_33 : decode cX8_holderOf 33 = .ok (.iload_n 2, 1) := by decide +kernel
theorem dX8_holderOf_34 : decode cX8_holderOf 34 = .ok (.ireturn, 1) := by decide +kernel
set_option maxRecDepth 20000 in
theorem ggX8_layNumber_X8_in : GoodIn wsX8_layNumber wsX8_in := goodIn_r _ [4] (by decide +kernel) (by decide +kernel)
set_option maxRecDepth 20000 in
theorem gX8_layNumber_X8_in : GoodIn wsX8_layNumber (va_wsS RX8 71 yX8_in wsX8_in) := goodIn_app (goodIn_of _ (by decide +kernel)) ggX8_layNumber_X8_in
set_option maxRecDepth 20000 in
theorem ggX8_layNumber_X8_layGiving : GoodIn wsX8_layNumber wsX8_layGiving := goodIn_r _ [8, 9, 10, 11, 12, 3, 13, 14, 15, 16, 17, 18, 19, 20, 21, 22, 23, 24, 25, 26, 27, 28, 29, 30, 31, 32, 33, 34, 35, 36, 37] (by decide +kernel) (by decide +kernel)
set_option maxRecDepth 20000 in
theorem gX8_layNumber_X8_layGiving : GoodIn wsX8_layNumber (wsV RX8 148 RX8 yX8_layGiving wsX8_layGiving) := goodIn_app (goodIn_of _ (by decide +kernel)) ggX8_layNumber_X8_layGiving
theorem dX8_layNumber_0 : decode cX8_layNumber 0 = .ok (.iload_n 1, 1) := by decide +kernel
theorem dX8_layNumber_1 : decode cX8_layNumber 1 = .ok (.istore 4, 2) := by decide +kernel
theorem dX8_layNumber_3 : decode cX8_layNumber 3 = .ok (.iconst 0, 1) := by decide +kernel
theorem dX8_layNumber_4 : decode cX8_layNumber 4 = .ok (.istore 5, 2) := by decide +kernel
theorem dX8_layNumber_6 : decode cX8_layNumber 6 = .ok (.iconst 1, 1) := by decide +kernel
theorem dX8_layNumber_7 : decode cX8_layNumber 7 = .ok (.istore 6, 2) := by decide +kernel
theorem dX8_layNumber_9 : decode cX8_layNumber 9 = .ok (.iload_n 1, 1) := by decide +kernel
theorem dX8_layNumber_10 : decode cX8_layNumber 10 = .ok (.ifCond .lt 7, 3) := by decide +kernel
theorem dX8_layNumber_13 : decode cX8_layNumber 13 = .ok (.iconst 1, 1) := by decide +kernel
theorem dX8_layNumber_14 : decode cX8_layNumber 14 = .ok (.goto 4, 3) := by decide +kernel
theorem dX8_layNumber_17 : decode cX8_layNumber 17 = .ok (.iconst 0, 1) := by decide +kernel
theorem dX8_layNumber_18 : decode cX8_layNumber 18 = .ok (.istore 7, 2) := by decide +kernel
theorem dX8_layNumber_20 : decode cX8_layNumber 20 = .ok (.iconst 5, 1) := by decide +kernel
theorem dX8_layNumber_21 : decode cX8_layNumber 21 = .ok (.istore 8, 2) := by decide +kernel
theorem dX8_layNumber_23 : decode cX8_layNumber 23 = .ok (.iload 8, 2) := by decide +kernel
theorem dX8_layNumber_25 : decode cX8_layNumber 25 = .ok (.ifCond .lt 73, 3) := by decide +kernel
theorem dX8_layNumber_28 : decode cX8_layNumber 28 = .ok (.iload 4, 2) := by decide +kernel
theorem dX8_layNumber_30 : decode cX8_layNumber 30 = .ok (.bipush 10, 2) := by decide +kernel
theorem dX8_layNumber_32 : decode cX8_layNumber 32 = .ok (.irem, 1) := by decide +kernel
theorem dX8_layNumber_33 : decode cX8_layNumber 33 = .ok (.istore 9, 2) := by decide +kernel
theorem dX8_layNumber_35 : decode cX8_layNumber 35 = .ok (.iload 4, 2) := by decide +kernel
theorem dX8_layNumber_37 : decode cX8_layNumber 37 = .ok (.bipush 10, 2) := by decide +kernel
theorem dX8_layNumber_39 : decode cX8_layNumber 39 = .ok (.idiv, 1) := by decide +kernel
theorem dX8_layNumber_40 : decode cX8_layNumber 40 = .ok (.istore 4, 2) := by decide +kernel
theorem dX8_layNumber_42 : decode cX8_layNumber 42 = .ok (.iload 7, 2) := by decide +kernel
theorem dX8_layNumber_44 : decode cX8_layNumber 44 = .ok (.ifCond .eq 17, 3) := by decide +kernel
theorem dX8_layNumber_47 : decode cX8_layNumber 47 = .ok (.iload 9, 2) := by decide +kernel
theorem dX8_layNumber_49 : decode cX8_layNumber 49 = .ok (.iconst 0, 1) := by decide +kernel
theorem dX8_layNumber_50 : decode cX8_layNumber 50 = .ok (.iconst 5, 1) := by decide +kernel
theorem dX8_layNumber_51 : decode cX8_layNumber 51 = .ok (.invokestatic 71, 3) := by decide +kernel
theorem dX8_layNumber_54 : decode cX8_layNumber 54 = .ok (.ifCond .eq 7, 3) := by decide +kernel
theorem dX8_layNumber_57 : decode cX8_layNumber 57 = .ok (.iconst 1, 1) := by decide +kernel
theorem dX8_layNumber_58 : decode cX8_layNumber 58 = .ok (.goto 4, 3) := by decide +kernel
theorem dX8_layNumber_61 : decode cX8_layNumber 61 = .ok (.iconst 0, 1) := by decide +kernel
theorem dX8_layNumber_62 : decode cX8_layNumber 62 = .ok (.istore 7, 2) := by decide +kernel
theorem dX8_layNumber_64 : decode cX8_layNumber 64 = .ok (.iload 5, 2) := by decide +kernel
theorem dX8_layNumber_66 : decode cX8_layNumber 66 = .ok (.iload 9, 2) := by decide +kernel
theorem dX8_layNumber_68 : decode cX8_layNumber 68 = .ok (.ifCond .ne 7, 3) := by decide +kernel
theorem dX8_layNumber_71 : decode cX8_layNumber 71 = .ok (.iconst 5, 1) := by decide +kernel
theorem dX8_layNumber_72 : decode cX8_layNumber 72 = .ok (.goto 7, 3) := by decide +kernel
theorem dX8_layNumber_75 : decode cX8_layNumber 75 = .ok (.iload 9, 2) := by decide +kernel
theorem dX8_layNumber_77 : decode cX8_layNumber 77 = .ok (.iconst 1, 1) := by decide +kernel
theorem dX8_layNumber_78 : decode cX8_layNumber 78 = .ok (.isub, 1) := by decide +kernel
theorem dX8_layNumber_79 : decode cX8_layNumber 79 = .ok (.iload 6, 2) := by decide +kernel
theorem dX8_layNumber_81 : decode cX8_layNumber 81 = .ok (.imul, 1) := by decide +kernel
theorem dX8_layNumber_82 : decode cX8_layNumber 82 = .ok (.iadd, 1) := by decide +kernel
theorem dX8_layNumber_83 : decode cX8_layNumber 83 = .ok (.istore 5, 2) := by decide +kernel
theorem dX8_layNumber_85 : decode cX8_layNumber 85 = .ok (.iload 6, 2) := by decide +kernel
theorem dX8_layNumber_87 : decode cX8_layNumber 87 = .ok (.bipush 6, 2) := by decide +kernel
theorem dX8_layNumber_89 : decode cX8_layNumber 89 = .ok (.imul, 1) := by decide +kernel
theorem dX8_layNumber_90 : decode cX8_layNumber 90 = .ok (.istore 6, 2) := by decide +kernel
theorem dX8_layNumber_92 : decode cX8_layNumber 92 = .ok (.iinc 8 (-1), 3) := by decide +kernel
theorem dX8_layNumber_95 : decode cX8_layNumber 95 = .ok (.goto (-72), 3) := by decide +kernel
theorem dX8_layNumber_98 : decode cX8_layNumber 98 = .ok (.iload 7, 2) := by decide +kernel
theorem dX8_layNumber_100 : decode cX8_layNumber 100 = .ok (.ifCond .eq 23, 3) := by decide +kernel
theorem dX8_layNumber_103 : decode cX8_layNumber 103 = .ok (.iload 4, 2) := by decide +kernel
theorem dX8_layNumber_105 : decode cX8_layNumber 105 = .ok (.ifCond .ne 18, 3) := by decide +kernel
theorem dX8_layNumber_108 : decode cX8_layNumber 108 = .ok (.aload_n 0, 1) := by decide +kernel
theorem dX8_layNumber_109 : decode cX8_layNumber 109 = .ok (.iload 5, 2) := by decide +kernel
theorem dX8_layNumber_111 : decode cX8_layNumber 111 = .ok (.iload_n 2, 1) := by decide +kernel
theorem dX8_layNumber_112 : decode cX8_layNumber 112 = .ok (.iload_n 3, 1) := by decide +kernel
theorem dX8_layNumber_113 : decode cX8_layNumber 113 = .ok (.invokevirtual 148, 3) := by decide +kernel
theorem dX8_layNumber_116 : decode cX8_layNumber 116 = .ok (.ifCond .eq 7, 3) := by decide +kernel
theorem dX8_layNumber_119 : decode cX8_layNumber 119 = .ok (.iconst 1, 1) := by decide +kernel
theorem dX8_layNumber_120 : decode cX8_layNumber 120 = .ok (.goto 4, 3) := by decide +kernel
theorem dX8_layNumber_123 : decode cX8_layNumber 123 = .ok (.iconst 0, 1) := by decide +kernel
theorem dX8_layNumber_124 : decode cX8_layNumber 124 = .ok (.ireturn, 1) := by decide +kernel
set_option maxRecDepth 20000 in
theorem ggX8_leave_X8_areSets : GoodIn wsX8_leave wsX8_areSets := goodIn_r _ [6, 7, 8, 5, 9] (by decide +kernel) (by decide +kernel)
set_option maxRecDepth 20000 in
theorem gX8_leave_X8_areSets : GoodIn wsX8_leave (va_wsS RX8 144 yX8_areSets wsX8_areSets) := goodIn_app (goodIn_of _ (by decide +kernel)) ggX8_leave_X8_areSets
set_option maxRecDepth 20000 in
theorem ggX8_leave_X8_in : GoodIn wsX8_leave wsX8_in := goodIn_r _ [9] (by decide +kernel) (by decide +kernel)
set_option maxRecDepth 20000 in
theorem gX8_leave_X8_in : GoodIn wsX8_leave (va_wsS RX8 71 yX8_in wsX8_in) := goodIn_app (goodIn_of _ (by decide +kernel)) ggX8_leave_X8_in
set_option maxRecDepth 20000 in
theorem ggX8_leave_X8_layNumber : GoodIn wsX8_leave wsX8_layNumber := goodIn_r _ [13, 7, 8, 5, 9, 14, 15, 16, 17, 2, 1, 18, 19, 20, 38, 39, 40, 41, 42, 43, 44, 45, 46, 47, 48, 49, 50, 51, 52, 53, 54, 55, 56, 57, 58, 59, 60, 61] (by decide +kernel) (by decide +kernel)
set_option maxRecDepth 20000 in
theorem gX8_leave_X8_layNumber : GoodIn wsX8_leave (wsV RX8 163 RX8 yX8_layNumber wsX8_layNumber) := goodIn_app (goodIn_of _ (by decide +kernel)) ggX8_leave_X8_layNumber
set_option maxRecDepth 20000 in
theorem ggX8_leave_X8_has : GoodIn wsX8_leave wsX8_has := goodIn_r _ [20] (by decide +kernel) (by decide +kernel)
set_option maxRecDepth 20000 in
theorem gX8_leave_X8_has : GoodIn wsX8_leave (va_wsS RX8 107 yX8_has wsX8_has) := goodIn_app (goodIn_of _ (by decide +kernel)) ggX8_leave_X8_has
set_option maxRecDepth 20000 in
theorem ggX8_leave_X8_likes : GoodIn wsX8_leave wsX8_likes := goodIn_r _ [24, 25, 38, 39, 40, 41, 42, 43, 44, 45, 46, 47, 48, 49, 50, 51, 52, 53, 54, 55, 56, 57, 58, 59, 60, 61] (by decide +kernel) (by decide +kernel)
set_option maxRecDepth 20000 in
theorem gX8_leave_X8_likes : GoodIn wsX8_leave (wsV RX8 157 RX8 yX8_likes wsX8_likes) := goodIn_app (goodIn_of _ (by decide +kernel)) ggX8_leave_X8_likes
set_option maxRecDepth 20000 in
theorem ggX8_leave_X8_holderOf : GoodIn wsX8_leave wsX8_holderOf := goodIn_r _ [29, 2, 38, 39, 40, 41, 42, 43, 44, 45, 46, 47, 48, 49, 50, 51, 52, 53, 54, 55, 56, 57, 58, 59, 60, 61] (by decide +kernel) (by decide +kernel)
set_option maxRecDepth 20000 in
theorem gX8_leave_X8_holderOf : GoodIn wsX8_leave (wsV RX8 166 RX8 yX8_holderOf wsX8_holderOf) := goodIn_app (goodIn_of _ (by decide +kernel)) ggX8_leave_X8_holderOf
set_option maxRecDepth 20000 in
theorem ggX8_leave_X8_likesHull : GoodIn wsX8_leave wsX8_likesHull := goodIn_r _ [33, 34, 35, 36, 5, 37, 38, 39, 40, 41, 42, 43, 44, 45, 46, 47, 48, 49, 50, 51, 52, 53, 54, 55, 56, 57, 58, 59, 60, 61] (by decide +kernel) (by decide +kernel)
set_option maxRecDepth 20000 in
theorem gX8_leave_X8_likesHull : GoodIn wsX8_leave (wsV RX8 160 RX8 yX8_likesHull wsX8_likesHull) := goodIn_app (goodIn_of _ (by decide +kernel)) ggX8_leave_X8_likesHull
theorem dX8_leave_0 : decode cX8_leave 0 = .ok (.iload_n 1, 1) := by decide +kernel
theorem dX8_leave_1 : decode cX8_leave 1 = .ok (.iload_n 2, 1) := by decide +kernel
theorem dX8_leave_2 : decode cX8_leave 2 = .ok (.invokestatic 144, 3) := by decide +kernel
theorem dX8_leave_5 : decode cX8_leave 5 = .ok (.ifCond .eq 13, 3) := by decide +kernel
theorem dX8_leave_8 : decode cX8_leave 8 = .ok (.iload 4, 2) := by decide +kernel
theorem dX8_leave_10 : decode cX8_leave 10 = .ok (.iconst 0, 1) := by decide +kernel
theorem dX8_leave_11 : decode cX8_leave 11 = .ok (.iconst 1, 1) := by decide +kernel
theorem dX8_leave_12 : decode cX8_leave 12 = .ok (.invokestatic 71, 3) := by decide +kernel
theorem dX8_leave_15 : decode cX8_leave 15 = .ok (.ifCond .ne 6, 3) := by decide +kernel
theorem dX8_leave_18 : decode cX8_leave 18 = .ok (.bipush (-2), 2) := by decide +kernel
theorem dX8_leave_20 : decode cX8_leave 20 = .ok (.ireturn, 1) := by decide +kernel
theorem dX8_leave_21 : decode cX8_leave 21 = .ok (.aload_n 0, 1) := by decide +kernel
theorem dX8_leave_22 : decode cX8_leave 22 = .ok (.iload_n 3, 1) := by decide +kernel
theorem dX8_leave_23 : decode cX8_leave 23 = .ok (.iload_n 1, 1) := by decide +kernel
theorem dX8_leave_24 : decode cX8_leave 24 = .ok (.iload_n 2, 1) := by decide +kernel
theorem dX8_leave_25 : decode cX8_leave 25 = .ok (.invokevirtual 163, 3) := by decide +kernel
theorem dX8_leave_28 : decode cX8_leave 28 = .ok (.ifCond .ne 6, 3) := by decide +kernel
theorem dX8_leave_31 : decode cX8_leave 31 = .ok (.bipush (-3), 2) := by decide +kernel
theorem dX8_leave_33 : decode cX8_leave 33 = .ok (.ireturn, 1) := by decide +kernel
theorem dX8_leave_34 : decode cX8_leave 34 = .ok (.iconst 0, 1) := by decide +kernel
theorem dX8_leave_35 : decode cX8_leave 35 = .ok (.istore 5, 2) := by decide +kernel
theorem dX8_leave_37 : decode cX8_leave 37 = .ok (.iload 5, 2) := by decide +kernel
theorem dX8_leave_39 : decode cX8_leave 39 = .ok (.bipush 6, 2) := by decide +kernel
theorem dX8_leave_41 : decode cX8_leave 41 = .ok (.if_icmp .ge 122, 3) := by decide +kernel
theorem dX8_leave_44 : decode cX8_leave 44 = .ok (.iconst 0, 1) := by decide +kernel
theorem dX8_leave_45 : decode cX8_leave 45 = .ok (.istore 6, 2) := by decide +kernel
theorem dX8_leave_47 : decode cX8_leave 47 = .ok (.iload 6, 2) := by decide +kernel
theorem dX8_leave_49 : decode cX8_leave 49 = .ok (.iconst 5, 1) := by decide +kernel
theorem dX8_leave_50 : decode cX8_leave 50 = .ok (.if_icmp .ge 107, 3) := by decide +kernel
theorem dX8_leave_53 : decode cX8_leave 53 = .ok (.iload_n 1, 1) := by decide +kernel
theorem dX8_leave_54 : decode cX8_leave 54 = .ok (.iload 5, 2) := by decide +kernel
theorem dX8_leave_56 : decode cX8_leave 56 = .ok (.invokestatic 107, 3) := by decide +kernel
theorem dX8_leave_59 : decode cX8_leave 59 = .ok (.ifCond .eq 36, 3) := by decide +kernel
theorem dX8_leave_62 : decode cX8_leave 62 = .ok (.iload_n 2, 1) := by decide +kernel
theorem dX8_leave_63 : decode cX8_leave 63 = .ok (.aload_n 0, 1) := by decide +kernel
theorem dX8_leave_64 : decode cX8_leave 64 = .ok (.getfield 7, 3) := by decide +kernel
theorem dX8_leave_67 : decode cX8_leave 67 = .ok (.iload 5, 2) := by decide +kernel
theorem dX8_leave_69 : decode cX8_leave 69 = .ok (.iaload, 1) := by decide +kernel
theorem dX8_leave_70 : decode cX8_leave 70 = .ok (.iand, 1) := by decide +kernel
theorem dX8_leave_71 : decode cX8_leave 71 = .ok (.iload 6, 2) := by decide +kernel
theorem dX8_leave_73 : decode cX8_leave 73 = .ok (.invokestatic 107, 3) := by decide +kernel
theorem dX8_leave_76 : decode cX8_leave 76 = .ok (.ifCond .eq 19, 3) := by decide +kernel
theorem dX8_leave_79 : decode cX8_leave 79 = .ok (.aload_n 0, 1) := by decide +kernel
theorem dX8_leave_80 : decode cX8_leave 80 = .ok (.getfield 50, 3) := by decide +kernel
theorem dX8_leave_83 : decode cX8_leave 83 = .ok (.iload 5, 2) := by decide +kernel
theorem dX8_leave_85 : decode cX8_leave 85 = .ok (.iaload, 1) := by decide +kernel
theorem dX8_leave_86 : decode cX8_leave 86 = .ok (.iload 6, 2) := by decide +kernel
theorem dX8_leave_88 : decode cX8_leave 88 = .ok (.if_icmp .eq 7, 3) := by decide +kernel
theorem dX8_leave_91 : decode cX8_leave 91 = .ok (.iconst 1, 1) := by decide +kernel
theorem dX8_leave_92 : decode cX8_leave 92 = .ok (.goto 4, 3) := by decide +kernel
theorem dX8_leave_95 : decode cX8_leave 95 = .ok (.iconst 0, 1) := by decide +kernel
theorem dX8_leave_96 : decode cX8_leave 96 = .ok (.istore 7, 2) := by decide +kernel
theorem dX8_leave_98 : decode cX8_leave 98 = .ok (.iload 7, 2) := by decide +kernel
theorem dX8_leave_100 : decode cX8_leave 100 = .ok (.ifCond .eq 51, 3) := by decide +kernel
theorem dX8_leave_103 : decode cX8_leave 103 = .ok (.aload_n 0, 1) := by decide +kernel
theorem dX8_leave_104 : decode cX8_leave 104 = .ok (.iload 5, 2) := by decide +kernel
theorem dX8_leave_106 : decode cX8_leave 106 = .ok (.iload 6, 2) := by decide +kernel
theorem dX8_leave_108 : decode cX8_leave 108 = .ok (.aload_n 0, 1) := by decide +kernel
theorem dX8_leave_109 : decode cX8_leave 109 = .ok (.getfield 50, 3) := by decide +kernel
theorem dX8_leave_112 : decode cX8_leave 112 = .ok (.iload 5, 2) := by decide +kernel
theorem dX8_leave_114 : decode cX8_leave 114 = .ok (.iaload, 1) := by decide +kernel
theorem dX8_leave_115 : decode cX8_leave 115 = .ok (.invokevirtual 157, 3) := by decide +kernel
theorem dX8_leave_118 : decode cX8_leave 118 = .ok (.ifCond .eq 33, 3) := by decide +kernel
theorem dX8_leave_121 : decode cX8_leave 121 = .ok (.aload_n 0, 1) := by decide +kernel
theorem dX8_leave_122 : decode cX8_leave 122 = .ok (.iload 6, 2) := by decide +kernel
theorem dX8_leave_124 : decode cX8_leave 124 = .ok (.iload 5, 2) := by decide +kernel
theorem dX8_leave_126 : decode cX8_leave 126 = .ok (.aload_n 0, 1) := by decide +kernel
theorem dX8_leave_127 : decode cX8_leave 127 = .ok (.iload 6, 2) := by decide +kernel
theorem dX8_leave_129 : decode cX8_leave 129 = .ok (.invokevirtual 166, 3) := by decide +kernel
theorem dX8_leave_132 : decode cX8_leave 132 = .ok (.invokevirtual 160, 3) := by decide +kernel
theorem dX8_leave_135 : decode cX8_leave 135 = .ok (.ifCond .eq 16, 3) := by decide +kernel
theorem dX8_leave_138 : decode cX8_leave 138 = .ok (.iload 4, 2) := by decide +kernel
theorem dX8_leave_140 : decode cX8_leave 140 = .ok (.ifCond .ne 8, 3) := by decide +kernel
theorem dX8_leave_143 : decode cX8_leave 143 = .ok (.iload 5, 2) := by decide +kernel
theorem dX8_leave_145 : decode cX8_leave 145 = .ok (.goto 5, 3) := by decide +kernel
theorem dX8_leave_148 : decode cX8_leave 148 = .ok (.iload 6, 2) := by decide +kernel
theorem dX8_leave_150 : decode cX8_leave 150 = .ok (.ireturn, 1) := by decide +kernel
theorem dX8_leave_151 : decode cX8_leave 151 = .ok (.iinc 6 1, 3) := by decide +kernel
theorem dX8_leave_154 : decode cX8_leave 154 = .ok (.goto (-107), 3) := by decide +kernel
theorem dX8_leave_157 : decode cX8_leave 157 = .ok (.iinc 5 1, 3) := by decide +kernel
theorem dX8_leave_160 : decode cX8_leave 160 = .ok (.goto (-123), 3) := by decide +kernel
theorem dX8_leave_163 : decode cX8_leave 163 = .ok (.bipush (-6), 2) := by decide +kernel
theorem dX8_leave_165 : decode cX8_leave 165 = .ok (.ireturn, 1) := by decide +kernel
set_option maxRecDepth 20000 in
theorem ggX8_daysBy_X8_has : GoodIn wsX8_daysBy wsX8_has := goodIn_r _ [9] (by decide +kernel) (by decide +kernel)
set_option maxRecDepth 20000 in
theorem gX8_daysBy_X8_has : GoodIn wsX8_daysBy (va_wsS RX8 107 yX8_has wsX8_has) := goodIn_app (goodIn_of _ (by decide +kernel)) ggX8_daysBy_X8_has
set_option maxRecDepth 20000 in
theorem ggX8_daysBy_X8_keepBest : GoodIn wsX8_daysBy wsX8_keepBest := goodIn_r _ [13, 14, 3, 15, 16, 17, 18, 19, 20, 21, 22, 23, 24, 25, 26, 27, 28, 29, 30, 31, 32, 33, 34, 35, 36, 37, 38] (by decide +kernel) (by decide +kernel)
set_option maxRecDepth 20000 in
theorem gX8_daysBy_X8_keepBest : GoodIn wsX8_daysBy (wsV RX8 151 RX8 yX8_keepBest wsX8_keepBest) := goodIn_app (goodIn_of _ (by decide +kernel)) ggX8_daysBy_X8_keepBest
theorem dX8_daysBy_0 : decode cX8_daysBy 0 = .ok (.ldc 169, 2) := by decide +kernel
theorem dX8_daysBy_2 : decode cX8_daysBy 2 = .ok (.istore_n 2, 1) := by decide +kernel
theorem dX8_daysBy_3 : decode cX8_daysBy 3 = .ok (.iconst 0, 1) := by decide +kernel
theorem dX8_daysBy_4 : decode cX8_daysBy 4 = .ok (.istore_n 3, 1) := by decide +kernel
theorem dX8_daysBy_5 : decode cX8_daysBy 5 = .ok (.iload_n 3, 1) := by decide +kernel
theorem dX8_daysBy_6 : decode cX8_daysBy 6 = .ok (.sipush 15625, 3) := by decide +kernel
theorem dX8_daysBy_9 : decode cX8_daysBy 9 = .ok (.if_icmp .ge 199, 3) := by decide +kernel
theorem dX8_daysBy_12 : decode cX8_daysBy 12 = .ok (.iload_n 3, 1) := by decide +kernel
theorem dX8_daysBy_13 : decode cX8_daysBy 13 = .ok (.istore 4, 2) := by decide +kernel
theorem dX8_daysBy_15 : decode cX8_daysBy 15 = .ok (.iconst 1, 1) := by decide +kernel
theorem dX8_daysBy_16 : decode cX8_daysBy 16 = .ok (.istore 5, 2) := by decide +kernel
theorem dX8_daysBy_18 : decode cX8_daysBy 18 = .ok (.iconst 0, 1) := by decide +kernel
theorem dX8_daysBy_19 : decode cX8_daysBy 19 = .ok (.istore 6, 2) := by decide +kernel
theorem dX8_daysBy_21 : decode cX8_daysBy 21 = .ok (.iconst 0, 1) := by decide +kernel
theorem dX8_daysBy_22 : decode cX8_daysBy 22 = .ok (.istore 7, 2) := by decide +kernel
theorem dX8_daysBy_24 : decode cX8_daysBy 24 = .ok (.iload 7, 2) := by decide +kernel
theorem dX8_daysBy_26 : decode cX8_daysBy 26 = .ok (.iconst 5, 1) := by decide +kernel
theorem dX8_daysBy_27 : decode cX8_daysBy 27 = .ok (.if_icmp .ge 17, 3) := by decide +kernel
theorem dX8_daysBy_30 : decode cX8_daysBy 30 = .ok (.aload_n 0, 1) := by decide +kernel
theorem dX8_daysBy_31 : decode cX8_daysBy 31 = .ok (.getfield 62, 3) := by decide +kernel
theorem dX8_daysBy_34 : decode cX8_daysBy 34 = .ok (.iload 7, 2) := by decide +kernel
theorem dX8_daysBy_36 : decode cX8_daysBy 36 = .ok (.iconst 0, 1) := by decide +kernel
theorem dX8_daysBy_37 : decode cX8_daysBy 37 = .ok (.iastore, 1) := by decide +kernel
theorem dX8_daysBy_38 : decode cX8_daysBy 38 = .ok (.iinc 7 1, 3) := by decide +kernel
theorem dX8_daysBy_41 : decode cX8_daysBy 41 = .ok (.goto (-17), 3) := by decide +kernel
theorem dX8_daysBy_44 : decode cX8_daysBy 44 = .ok (.iconst 5, 1) := by decide +kernel
theorem dX8_daysBy_45 : decode cX8_daysBy 45 = .ok (.istore 7, 2) := by decide +kernel
theorem dX8_daysBy_47 : decode cX8_daysBy 47 = .ok (.iload 7, 2) := by decide +kernel
theorem dX8_daysBy_49 : decode cX8_daysBy 49 = .ok (.ifCond .lt 135, 3) := by decide +kernel
theorem dX8_daysBy_52 : decode cX8_daysBy 52 = .ok (.iload 4, 2) := by decide +kernel
theorem dX8_daysBy_54 : decode cX8_daysBy 54 = .ok (.iconst 5, 1) := by decide +kernel
theorem dX8_daysBy_55 : decode cX8_daysBy 55 = .ok (.irem, 1) := by decide +kernel
theorem dX8_daysBy_56 : decode cX8_daysBy 56 = .ok (.istore 8, 2) := by decide +kernel
theorem dX8_daysBy_58 : decode cX8_daysBy 58 = .ok (.iload 4, 2) := by decide +kernel
theorem dX8_daysBy_60 : decode cX8_daysBy 60 = .ok (.iconst 5, 1) := by decide +kernel
theorem dX8_daysBy_61 : decode cX8_daysBy 61 = .ok (.idiv, 1) := by decide +kernel
theorem dX8_daysBy_62 : decode cX8_daysBy 62 = .ok (.istore 4, 2) := by decide +kernel
theorem dX8_daysBy_64 : decode cX8_daysBy 64 = .ok (.aload_n 0, 1) := by decide +kernel
theorem dX8_daysBy_65 : decode cX8_daysBy 65 = .ok (.getfield 50, 3) := by decide +kernel
theorem dX8_daysBy_68 : decode cX8_daysBy 68 = .ok (.iload 7, 2) := by decide +kernel
theorem dX8_daysBy_70 : decode cX8_daysBy 70 = .ok (.aload_n 0, 1) := by decide +kernel
theorem dX8_daysBy_71 : decode cX8_daysBy 71 = .ok (.getfield 13, 3) := by decide +kernel
theorem dX8_daysBy_74 : decode cX8_daysBy 74 = .ok (.iload 7, 2) := by decide +kernel
theorem dX8_daysBy_76 : decode cX8_daysBy 76 = .ok (.iaload, 1) := by decide +kernel
theorem dX8_daysBy_77 : decode cX8_daysBy 77 = .ok (.ifCond .le 8, 3) := by decide +kernel
theorem dX8_daysBy_80 : decode cX8_daysBy 80 = .ok (.iload 8, 2) := by decide +kernel
theorem dX8_daysBy_82 : decode cX8_daysBy 82 = .ok (.goto 5, 3) := by decide +kernel
theorem dX8_daysBy_85 : decode cX8_daysBy 85 = .ok (.bipush (-6), 2) := by decide +kernel
theorem dX8_daysBy_87 : decode cX8_daysBy 87 = .ok (.iastore, 1) := by decide +kernel
theorem dX8_daysBy_88 : decode cX8_daysBy 88 = .ok (.iload 5, 2) := by decide +kernel
theorem dX8_daysBy_90 : decode cX8_daysBy 90 = .ok (.ifCond .eq 42, 3) := by decide +kernel
theorem dX8_daysBy_93 : decode cX8_daysBy 93 = .ok (.aload_n 0, 1) := by decide +kernel
theorem dX8_daysBy_94 : decode cX8_daysBy 94 = .ok (.getfield 13, 3) := by decide +kernel
theorem dX8_daysBy_97 : decode cX8_daysBy 97 = .ok (.iload 7, 2) := by decide +kernel
theorem dX8_daysBy_99 : decode cX8_daysBy 99 = .ok (.iaload, 1) := by decide +kernel
theorem dX8_daysBy_100 : decode cX8_daysBy 100 = .ok (.ifCond .le 23, 3) := by decide +kernel
theorem dX8_daysBy_103 : decode cX8_daysBy 103 = .ok (.iload_n 1, 1) := by decide +kernel
theorem dX8_daysBy_104 : decode cX8_daysBy 104 = .ok (.aload_n 0, 1) := by decide +kernel
theorem dX8_daysBy_105 : decode cX8_daysBy 105 = .ok (.getfield 7, 3) := by decide +kernel
theorem dX8_daysBy_108 : decode cX8_daysBy 108 = .ok (.iload 7, 2) := by decide +kernel
theorem dX8_daysBy_110 : decode cX8_daysBy 110 = .ok (.iaload, 1) := by decide +kernel
theorem dX8_daysBy_111 : decode cX8_daysBy 111 = .ok (.iand, 1) := by decide +kernel
theorem dX8_daysBy_112 : decode cX8_daysBy 112 = .ok (.iload 8, 2) := by decide +kernel
theorem dX8_daysBy_114 : decode cX8_daysBy 114 = .ok (.invokestatic 107, 3) := by decide +kernel
theorem dX8_daysBy_117 : decode cX8_daysBy 117 = .ok (.ifCond .eq 15, 3) := by decide +kernel
theorem dX8_daysBy_120 : decode cX8_daysBy 120 = .ok (.goto 8, 3) := by decide +kernel
theorem dX8_daysBy_123 : decode cX8_daysBy 123 = .ok (.iload 8, 2) := by decide +kernel
theorem dX8_daysBy_125 : decode cX8_daysBy 125 = .ok (.ifCond .ne 7, 3) := by decide +kernel
theorem dX8_daysBy_128 : decode cX8_daysBy 128 = .ok (.iconst 1, 1) := by decide +kernel
theorem dX8_daysBy_129 : decode cX8_daysBy 129 = .ok (.goto 4, 3) := by decide +kernel
theorem dX8_daysBy_132 : decode cX8_daysBy 132 = .ok (.iconst 0, 1) := by decide +kernel
theorem dX8_daysBy_133 : decode cX8_daysBy 133 = .ok (.istore 5, 2) := by decide +kernel
theorem dX8_daysBy_135 : decode cX8_daysBy 135 = .ok (.aload_n 0, 1) := by decide +kernel
theorem dX8_daysBy_136 : decode cX8_daysBy 136 = .ok (.getfield 62, 3) := by decide +kernel
theorem dX8_daysBy_139 : decode cX8_daysBy 139 = .ok (.iload 8, 2) := by decide +kernel
theorem dX8_daysBy_141 : decode cX8_daysBy 141 = .ok (.dup2, 1) := by decide +kernel
theorem dX8_daysBy_142 : decode cX8_daysBy 142 = .ok (.iaload, 1) := by decide +kernel
theorem dX8_daysBy_143 : decode cX8_daysBy 143 = .ok (.aload_n 0, 1) := by decide +kernel
theorem dX8_daysBy_144 : decode cX8_daysBy 144 = .ok (.getfield 13, 3) := by decide +kernel
theorem dX8_daysBy_147 : decode cX8_daysBy 147 = .ok (.iload 7, 2) := by decide +kernel
theorem dX8_daysBy_149 : decode cX8_daysBy 149 = .ok (.iaload, 1) := by decide +kernel
theorem dX8_daysBy_150 : decode cX8_daysBy 150 = .ok (.iadd, 1) := by decide +kernel
theorem dX8_daysBy_151 : decode cX8_daysBy 151 = .ok (.iastore, 1) := by decide +kernel
theorem dX8_daysBy_152 : decode cX8_daysBy 152 = .ok (.aload_n 0, 1) := by decide +kernel
theorem dX8_daysBy_153 : decode cX8_daysBy 153 = .ok (.getfield 62, 3) := by decide +kernel
theorem dX8_daysBy_156 : decode cX8_daysBy 156 = .ok (.iload 8, 2) := by decide +kernel
theorem dX8_daysBy_158 : decode cX8_daysBy 158 = .ok (.iaload, 1) := by decide +kernel
theorem dX8_daysBy_159 : decode cX8_daysBy 159 = .ok (.iload 6, 2) := by decide +kernel
theorem dX8_daysBy_161 : decode cX8_daysBy 161 = .ok (.if_icmp .le 13, 3) := by decide +kernel
theorem dX8_daysBy_164 : decode cX8_daysBy 164 = .ok (.aload_n 0, 1) := by decide +kernel
theorem dX8_daysBy_165 : decode cX8_daysBy 165 = .ok (.getfield 62, 3) := by decide +kernel
theorem dX8_daysBy_168 : decode cX8_daysBy 168 = .ok (.iload 8, 2) := by decide +kernel
theorem dX8_daysBy_170 : decode cX8_daysBy 170 = .ok (.iaload, 1) := by decide +kernel
theorem dX8_daysBy_171 : decode cX8_daysBy 171 = .ok (.goto 5, 3) := by decide +kernel
theorem dX8_daysBy_174 : decode cX8_daysBy 174 = .ok (.iload 6, 2) := by decide +kernel
theorem dX8_daysBy_176 : decode cX8_daysBy 176 = .ok (.istore 6, 2) := by decide +kernel
theorem dX8_daysBy_178 : decode cX8_daysBy 178 = .ok (.iinc 7 (-1), 3) := by decide +kernel
theorem dX8_daysBy_181 : decode cX8_daysBy 181 = .ok (.goto (-134), 3) := by decide +kernel
theorem dX8_daysBy_184 : decode cX8_daysBy 184 = .ok (.iload 5, 2) := by decide +kernel
theorem dX8_daysBy_186 : decode cX8_daysBy 186 = .ok (.ifCond .eq 16, 3) := by decide +kernel
theorem dX8_daysBy_189 : decode cX8_daysBy 189 = .ok (.iload 6, 2) := by decide +kernel
theorem dX8_daysBy_191 : decode cX8_daysBy 191 = .ok (.iload_n 2, 1) := by decide +kernel
theorem dX8_daysBy_192 : decode cX8_daysBy 192 = .ok (.if_icmp .ge 10, 3) := by decide +kernel
theorem dX8_daysBy_195 : decode cX8_daysBy 195 = .ok (.iload 6, 2) := by decide +kernel
theorem dX8_daysBy_197 : decode cX8_daysBy 197 = .ok (.istore_n 2, 1) := by decide +kernel
theorem dX8_daysBy_198 : decode cX8_daysBy 198 = .ok (.aload_n 0, 1) := by decide +kernel
theorem dX8_daysBy_199 : decode cX8_daysBy 199 = .ok (.invokevirtual 151, 3) := by decide +kernel
theorem dX8_daysBy_202 : decode cX8_daysBy 202 = .ok (.iinc 3 1, 3) := by decide +kernel
theorem dX8_daysBy_205 : decode cX8_daysBy 205 = .ok (.goto (-200), 3) := by decide +kernel
theorem dX8_daysBy_208 : decode cX8_daysBy 208 = .ok (.iload_n 2, 1) := by decide +kernel
theorem dX8_daysBy_209 : decode cX8_daysBy 209 = .ok (.ireturn, 1) := by decide +kernel
set_option maxRecDepth 20000 in
theorem ggX8_voyages_X8_in : GoodIn wsX8_voyages wsX8_in := goodIn_r _ [6] (by decide +kernel) (by decide +kernel)
set_option maxRecDepth 20000 in
theorem gX8_voyages_X8_in : GoodIn wsX8_voyages (va_wsS RX8 71 yX8_in wsX8_in) := goodIn_app (goodIn_of _ (by decide +kernel)) ggX8_voyages_X8_in
set_option maxRecDepth 20000 in
theorem ggX8_voyages_X8_daysBy : GoodIn wsX8_voyages wsX8_daysBy := goodIn_r _ [10, 1, 11, 12, 13, 14, 15, 16, 5, 17, 18, 19, 20, 21, 2, 22, 23, 24, 25, 26, 27, 28, 29, 30, 31, 32, 33, 34, 35, 36, 37, 38, 39, 40, 41, 42, 43, 44, 45] (by decide +kernel) (by decide +kernel)
set_option maxRecDepth 20000 in
theorem gX8_voyages_X8_daysBy : GoodIn wsX8_voyages (wsV RX8 170 RX8 yX8_daysBy wsX8_daysBy) := goodIn_app (goodIn_of _ (by decide +kernel)) ggX8_voyages_X8_daysBy
theorem dX8_voyages_0 : decode cX8_voyages 0 = .ok (.iload_n 1, 1) := by decide +kernel
theorem dX8_voyages_1 : decode cX8_voyages 1 = .ok (.iconst (-1), 1) := by decide +kernel
theorem dX8_voyages_2 : decode cX8_voyages 2 = .ok (.iconst 5, 1) := by decide +kernel
theorem dX8_voyages_3 : decode cX8_voyages 3 = .ok (.invokestatic 71, 3) := by decide +kernel
theorem dX8_voyages_6 : decode cX8_voyages 6 = .ok (.ifCond .ne 6, 3) := by decide +kernel
theorem dX8_voyages_9 : decode cX8_voyages 9 = .ok (.bipush (-2), 2) := by decide +kernel
theorem dX8_voyages_11 : decode cX8_voyages 11 = .ok (.ireturn, 1) := by decide +kernel
theorem dX8_voyages_12 : decode cX8_voyages 12 = .ok (.aload_n 0, 1) := by decide +kernel
theorem dX8_voyages_13 : decode cX8_voyages 13 = .ok (.bipush 31, 2) := by decide +kernel
theorem dX8_voyages_15 : decode cX8_voyages 15 = .ok (.invokevirtual 170, 3) := by decide +kernel
theorem dX8_voyages_18 : decode cX8_voyages 18 = .ok (.istore_n 2, 1) := by decide +kernel
theorem dX8_voyages_19 : decode cX8_voyages 19 = .ok (.iload_n 2, 1) := by decide +kernel
theorem dX8_voyages_20 : decode cX8_voyages 20 = .ok (.ldc 169, 2) := by decide +kernel
theorem dX8_voyages_22 : decode cX8_voyages 22 = .ok (.if_icmp .ne 8, 3) := by decide +kernel
theorem dX8_voyages_25 : decode cX8_voyages 25 = .ok (.bipush (-6), 2) := by decide +kernel
theorem dX8_voyages_27 : decode cX8_voyages 27 = .ok (.goto 18, 3) := by decide +kernel
theorem dX8_voyages_30 : decode cX8_voyages 30 = .ok (.iload_n 1, 1) := by decide +kernel
theorem dX8_voyages_31 : decode cX8_voyages 31 = .ok (.iconst (-1), 1) := by decide +kernel
theorem dX8_voyages_32 : decode cX8_voyages 32 = .ok (.if_icmp .ne 7, 3) := by decide +kernel
theorem dX8_voyages_35 : decode cX8_voyages 35 = .ok (.iload_n 2, 1) := by decide +kernel
theorem dX8_voyages_36 : decode cX8_voyages 36 = .ok (.goto 9, 3) := by decide +kernel
theorem dX8_voyages_39 : decode cX8_voyages 39 = .ok (.aload_n 0, 1) := by decide +kernel
theorem dX8_voyages_40 : decode cX8_voyages 40 = .ok (.getfield 53, 3) := by decide +kernel
theorem dX8_voyages_43 : decode cX8_voyages 43 = .ok (.iload_n 1, 1) := by decide +kernel
theorem dX8_voyages_44 : decode cX8_voyages 44 = .ok (.iaload, 1) := by decide +kernel
theorem dX8_voyages_45 : decode cX8_voyages 45 = .ok (.ireturn, 1) := by decide +kernel
set_option maxRecDepth 20000 in
theorem ggX8_letGo_X8_in : GoodIn wsX8_letGo wsX8_in := goodIn_r _ [5] (by decide +kernel) (by decide +kernel)
set_option maxRecDepth 20000 in
theorem gX8_letGo_X8_in : GoodIn wsX8_letGo (va_wsS RX8 71 yX8_in wsX8_in) := goodIn_app (goodIn_of _ (by decide +kernel)) ggX8_letGo_X8_in
set_option maxRecDepth 20000 in
theorem ggX8_letGo_X8_daysBy : GoodIn wsX8_letGo wsX8_daysBy := goodIn_r _ [9, 1, 10, 11, 12, 13, 14, 15, 4, 16, 17, 18, 19, 20, 21, 22, 23, 24, 25, 26, 27, 28, 29, 30, 31, 32, 33, 34, 35, 36, 37, 38, 39, 40, 41, 42, 43, 44, 45] (by decide +kernel) (by decide +kernel)
set_option maxRecDepth 20000 in
theorem gX8_letGo_X8_daysBy : GoodIn wsX8_letGo (wsV RX8 170 RX8 yX8_daysBy wsX8_daysBy) := goodIn_app (goodIn_of _ (by decide +kernel)) ggX8_letGo_X8_daysBy
theorem dX8_letGo_0 : decode cX8_letGo 0 = .ok (.iload_n 1, 1) := by decide +kernel
theorem dX8_letGo_1 : decode cX8_letGo 1 = .ok (.iconst 0, 1) := by decide +kernel
theorem dX8_letGo_2 : decode cX8_letGo 2 = .ok (.iconst 1, 1) := by decide +kernel
theorem dX8_letGo_3 : decode cX8_letGo 3 = .ok (.invokestatic 71, 3) := by decide +kernel
theorem dX8_letGo_6 : decode cX8_letGo 6 = .ok (.ifCond .ne 6, 3) := by decide +kernel
theorem dX8_letGo_9 : decode cX8_letGo 9 = .ok (.bipush (-2), 2) := by decide +kernel
theorem dX8_letGo_11 : decode cX8_letGo 11 = .ok (.ireturn, 1) := by decide +kernel
theorem dX8_letGo_12 : decode cX8_letGo 12 = .ok (.bipush (-6), 2) := by decide +kernel
theorem dX8_letGo_14 : decode cX8_letGo 14 = .ok (.istore_n 2, 1) := by decide +kernel
theorem dX8_letGo_15 : decode cX8_letGo 15 = .ok (.ldc 169, 2) := by decide +kernel
theorem dX8_letGo_17 : decode cX8_letGo 17 = .ok (.istore_n 3, 1) := by decide +kernel
theorem dX8_letGo_18 : decode cX8_letGo 18 = .ok (.iconst 0, 1) := by decide +kernel
theorem dX8_letGo_19 : decode cX8_letGo 19 = .ok (.istore 4, 2) := by decide +kernel
theorem dX8_letGo_21 : decode cX8_letGo 21 = .ok (.iload 4, 2) := by decide +kernel
theorem dX8_letGo_23 : decode cX8_letGo 23 = .ok (.iconst 5, 1) := by decide +kernel
theorem dX8_letGo_24 : decode cX8_letGo 24 = .ok (.if_icmp .ge 36, 3) := by decide +kernel
theorem dX8_letGo_27 : decode cX8_letGo 27 = .ok (.aload_n 0, 1) := by decide +kernel
theorem dX8_letGo_28 : decode cX8_letGo 28 = .ok (.bipush 31, 2) := by decide +kernel
theorem dX8_letGo_30 : decode cX8_letGo 30 = .ok (.iconst 1, 1) := by decide +kernel
theorem dX8_letGo_31 : decode cX8_letGo 31 = .ok (.iload 4, 2) := by decide +kernel
theorem dX8_letGo_33 : decode cX8_letGo 33 = .ok (.ishl, 1) := by decide +kernel
theorem dX8_letGo_34 : decode cX8_letGo 34 = .ok (.iconst (-1), 1) := by decide +kernel
theorem dX8_letGo_35 : decode cX8_letGo 35 = .ok (.ixor, 1) := by decide +kernel
theorem dX8_letGo_36 : decode cX8_letGo 36 = .ok (.iand, 1) := by decide +kernel
theorem dX8_letGo_37 : decode cX8_letGo 37 = .ok (.invokevirtual 170, 3) := by decide +kernel
theorem dX8_letGo_40 : decode cX8_letGo 40 = .ok (.istore 5, 2) := by decide +kernel
theorem dX8_letGo_42 : decode cX8_letGo 42 = .ok (.iload 5, 2) := by decide +kernel
theorem dX8_letGo_44 : decode cX8_letGo 44 = .ok (.iload_n 3, 1) := by decide +kernel
theorem dX8_letGo_45 : decode cX8_letGo 45 = .ok (.if_icmp .ge 9, 3) := by decide +kernel
theorem dX8_letGo_48 : decode cX8_letGo 48 = .ok (.iload 5, 2) := by decide +kernel
theorem dX8_letGo_50 : decode cX8_letGo 50 = .ok (.istore_n 3, 1) := by decide +kernel
theorem dX8_letGo_51 : decode cX8_letGo 51 = .ok (.iload 4, 2) := by decide +kernel
theorem dX8_letGo_53 : decode cX8_letGo 53 = .ok (.istore_n 2, 1) := by decide +kernel
theorem dX8_letGo_54 : decode cX8_letGo 54 = .ok (.iinc 4 1, 3) := by decide +kernel
theorem dX8_letGo_57 : decode cX8_letGo 57 = .ok (.goto (-36), 3) := by decide +kernel
theorem dX8_letGo_60 : decode cX8_letGo 60 = .ok (.iload_n 2, 1) := by decide +kernel
theorem dX8_letGo_61 : decode cX8_letGo 61 = .ok (.ifCond .ge 8, 3) := by decide +kernel
theorem dX8_letGo_64 : decode cX8_letGo 64 = .ok (.bipush (-6), 2) := by decide +kernel
theorem dX8_letGo_66 : decode cX8_letGo 66 = .ok (.goto 12, 3) := by decide +kernel
theorem dX8_letGo_69 : decode cX8_letGo 69 = .ok (.iload_n 1, 1) := by decide +kernel
theorem dX8_letGo_70 : decode cX8_letGo 70 = .ok (.ifCond .ne 7, 3) := by decide +kernel
theorem dX8_letGo_73 : decode cX8_letGo 73 = .ok (.iload_n 2, 1) := by decide +kernel
theorem dX8_letGo_74 : decode cX8_letGo 74 = .ok (.goto 4, 3) := by decide +kernel
theorem dX8_letGo_77 : decode cX8_letGo 77 = .ok (.iload_n 3, 1) := by decide +kernel
theorem dX8_letGo_78 : decode cX8_letGo 78 = .ok (.ireturn, 1) := by decide +kernel
theorem dX8_power_0 : decode cX8_power 0 = .ok (.lconst 1, 1) := by decide +kernel
theorem dX8_power_1 : decode cX8_power 1 = .ok (.lstore_n 3, 1) := by decide +kernel
theorem dX8_power_2 : decode cX8_power 2 = .ok (.iconst 0, 1) := by decide +kernel
theorem dX8_power_3 : decode cX8_power 3 = .ok (.istore 5, 2) := by decide +kernel
theorem dX8_power_5 : decode cX8_power 5 = .ok (.iload 5, 2) := by decide +kernel
theorem dX8_power_7 : decode cX8_power 7 = .ok (.iload_n 2, 1) := by decide +kernel
theorem dX8_power_8 : decode cX8_power 8 = .ok (.if_icmp .ge 13, 3) := by decide +kernel
theorem dX8_power_11 : decode cX8_power 11 = .ok (.lload_n 3, 1) := by decide +kernel
theorem dX8_power_12 : decode cX8_power 12 = .ok (.lload_n 0, 1) := by decide +kernel
theorem dX8_power_13 : decode cX8_power 13 = .ok (.lmul, 1) := by decide +kernel
theorem dX8_power_14 : decode cX8_power 14 = .ok (.lstore_n 3, 1) := by decide +kernel
theorem dX8_power_15 : decode cX8_power 15 = .ok (.iinc 5 1, 3) := by decide +kernel
theorem dX8_power_18 : decode cX8_power 18 = .ok (.goto (-13), 3) := by decide +kernel
theorem dX8_power_21 : decode cX8_power 21 = .ok (.lload_n 3, 1) := by decide +kernel
theorem dX8_power_22 : decode cX8_power 22 = .ok (.lreturn, 1) := by decide +kernel
set_option maxRecDepth 20000 in
theorem ggX8_home_X8_isName : GoodIn wsX8_home wsX8_isName := goodIn_r _ [9, 10, 11, 8, 12] (by decide +kernel) (by decide +kernel)
set_option maxRecDepth 20000 in
theorem gX8_home_X8_isName : GoodIn wsX8_home (va_wsS RX8 79 yX8_isName wsX8_isName) := goodIn_app (goodIn_of _ (by decide +kernel)) ggX8_home_X8_isName
set_option maxRecDepth 20000 in
theorem ggX8_home_X8_in : GoodIn wsX8_home wsX8_in := goodIn_r _ [12] (by decide +kernel) (by decide +kernel)
set_option maxRecDepth 20000 in
theorem gX8_home_X8_in : GoodIn wsX8_home (va_wsS RX8 71 yX8_in wsX8_in) := goodIn_app (goodIn_of _ (by decide +kernel)) ggX8_home_X8_in
set_option maxRecDepth 20000 in
theorem ggX8_home_X8_power : GoodIn wsX8_home wsX8_power := goodIn_r _ [15] (by decide +kernel) (by decide +kernel)
set_option maxRecDepth 20000 in
theorem gX8_home_X8_power : GoodIn wsX8_home (va_wsS RX8 179 yX8_power wsX8_power) := goodIn_app (goodIn_of _ (by decide +kernel)) ggX8_home_X8_power
theorem dX8_home_0 : decode cX8_home 0 = .ok (.iload_n 1, 1) := by decide +kernel
theorem dX8_home_1 : decode cX8_home 1 = .ok (.invokestatic 79, 3) := by decide +kernel
theorem dX8_home_4 : decode cX8_home 4 = .ok (.ifCond .ne 7, 3) := by decide +kernel
theorem dX8_home_7 : decode cX8_home 7 = .ok (.ldc2_w 173, 3) := by decide +kernel
theorem dX8_home_10 : decode cX8_home 10 = .ok (.lreturn, 1) := by decide +kernel
theorem dX8_home_11 : decode cX8_home 11 = .ok (.iload_n 2, 1) := by decide +kernel
theorem dX8_home_12 : decode cX8_home 12 = .ok (.iconst 1, 1) := by decide +kernel
theorem dX8_home_13 : decode cX8_home 13 = .ok (.bipush 7, 2) := by decide +kernel
theorem dX8_home_15 : decode cX8_home 15 = .ok (.invokestatic 71, 3) := by decide +kernel
theorem dX8_home_18 : decode cX8_home 18 = .ok (.ifCond .eq 12, 3) := by decide +kernel
theorem dX8_home_21 : decode cX8_home 21 = .ok (.iload_n 3, 1) := by decide +kernel
theorem dX8_home_22 : decode cX8_home 22 = .ok (.iconst 0, 1) := by decide +kernel
theorem dX8_home_23 : decode cX8_home 23 = .ok (.iconst 1, 1) := by decide +kernel
theorem dX8_home_24 : decode cX8_home 24 = .ok (.invokestatic 71, 3) := by decide +kernel
theorem dX8_home_27 : decode cX8_home 27 = .ok (.ifCond .ne 7, 3) := by decide +kernel
theorem dX8_home_30 : decode cX8_home 30 = .ok (.ldc2_w 175, 3) := by decide +kernel
theorem dX8_home_33 : decode cX8_home 33 = .ok (.lreturn, 1) := by decide +kernel
theorem dX8_home_34 : decode cX8_home 34 = .ok (.ldc2_w 177, 3) := by decide +kernel
theorem dX8_home_37 : decode cX8_home 37 = .ok (.aload_n 0, 1) := by decide +kernel
theorem dX8_home_38 : decode cX8_home 38 = .ok (.getfield 16, 3) := by decide +kernel
theorem dX8_home_41 : decode cX8_home 41 = .ok (.iload_n 1, 1) := by decide +kernel
theorem dX8_home_42 : decode cX8_home 42 = .ok (.iaload, 1) := by decide +kernel
theorem dX8_home_43 : decode cX8_home 43 = .ok (.i2l, 1) := by decide +kernel
theorem dX8_home_44 : decode cX8_home 44 = .ok (.ladd, 1) := by decide +kernel
theorem dX8_home_45 : decode cX8_home 45 = .ok (.iload_n 2, 1) := by decide +kernel
theorem dX8_home_46 : decode cX8_home 46 = .ok (.invokestatic 179, 3) := by decide +kernel
theorem dX8_home_49 : decode cX8_home 49 = .ok (.lstore 4, 2) := by decide +kernel
theorem dX8_home_51 : decode cX8_home 51 = .ok (.ldc2_w 183, 3) := by decide +kernel
theorem dX8_home_54 : decode cX8_home 54 = .ok (.iload_n 2, 1) := by decide +kernel
theorem dX8_home_55 : decode cX8_home 55 = .ok (.invokestatic 179, 3) := by decide +kernel
theorem dX8_home_58 : decode cX8_home 58 = .ok (.lstore 6, 2) := by decide +kernel
theorem dX8_home_60 : decode cX8_home 60 = .ok (.lload 4, 2) := by decide +kernel
theorem dX8_home_62 : decode cX8_home 62 = .ok (.lstore 8, 2) := by decide +kernel
theorem dX8_home_64 : decode cX8_home 64 = .ok (.lload 6, 2) := by decide +kernel
theorem dX8_home_66 : decode cX8_home 66 = .ok (.lstore 10, 2) := by decide +kernel
theorem dX8_home_68 : decode cX8_home 68 = .ok (.lload 10, 2) := by decide +kernel
theorem dX8_home_70 : decode cX8_home 70 = .ok (.lconst 0, 1) := by decide +kernel
theorem dX8_home_71 : decode cX8_home 71 = .ok (.lcmp, 1) := by decide +kernel
theorem dX8_home_72 : decode cX8_home 72 = .ok (.ifCond .eq 21, 3) := by decide +kernel
theorem dX8_home_75 : decode cX8_home 75 = .ok (.lload 8, 2) := by decide +kernel
theorem dX8_home_77 : decode cX8_home 77 = .ok (.lload 10, 2) := by decide +kernel
theorem dX8_home_79 : decode cX8_home 79 = .ok (.lrem, 1) := by decide +kernel
theorem dX8_home_80 : decode cX8_home 80 = .ok (.lstore 12, 2) := by decide +kernel
theorem dX8_home_82 : decode cX8_home 82 = .ok (.lload 10, 2) := by decide +kernel
theorem dX8_home_84 : decode cX8_home 84 = .ok (.lstore 8, 2) := by decide +kernel
theorem dX8_home_86 : decode cX8_home 86 = .ok (.lload 12, 2) := by decide +kernel
theorem dX8_home_88 : decode cX8_home 88 = .ok (.lstore 10, 2) := by decide +kernel
theorem dX8_home_90 : decode cX8_home 90 = .ok (.goto (-22), 3) := by decide +kernel
theorem dX8_home_93 : decode cX8_home 93 = .ok (.iload_n 3, 1) := by decide +kernel
theorem dX8_home_94 : decode cX8_home 94 = .ok (.ifCond .ne 11, 3) := by decide +kernel
theorem dX8_home_97 : decode cX8_home 97 = .ok (.lload 4, 2) := by decide +kernel
theorem dX8_home_99 : decode cX8_home 99 = .ok (.lload 8, 2) := by decide +kernel
theorem dX8_home_101 : decode cX8_home 101 = .ok (.ldiv, 1) := by decide +kernel
theorem dX8_home_102 : decode cX8_home 102 = .ok (.goto 8, 3) := by decide +kernel
theorem dX8_home_105 : decode cX8_home 105 = .ok (.lload 6, 2) := by decide +kernel
theorem dX8_home_107 : decode cX8_home 107 = .ok (.lload 8, 2) := by decide +kernel
theorem dX8_home_109 : decode cX8_home 109 = .ok (.ldiv, 1) := by decide +kernel
theorem dX8_home_110 : decode cX8_home 110 = .ok (.lreturn, 1) := by decide +kernel
set_option maxRecDepth 20000 in
theorem ggX8_asks_X8_isName : GoodIn wsX8_asks wsX8_isName := goodIn_r _ [7, 8, 9, 6, 10] (by decide +kernel) (by decide +kernel)
set_option maxRecDepth 20000 in
theorem gX8_asks_X8_isName : GoodIn wsX8_asks (va_wsS RX8 79 yX8_isName wsX8_isName) := goodIn_app (goodIn_of _ (by decide +kernel)) ggX8_asks_X8_isName
set_option maxRecDepth 20000 in
theorem ggX8_asks_X8_in : GoodIn wsX8_asks wsX8_in := goodIn_r _ [10] (by decide +kernel) (by decide +kernel)
set_option maxRecDepth 20000 in
theorem gX8_asks_X8_in : GoodIn wsX8_asks (va_wsS RX8 71 yX8_in wsX8_in) := goodIn_app (goodIn_of _ (by decide +kernel)) ggX8_asks_X8_in
set_option maxRecDepth 20000 in
theorem ggX8_asks_X8_power : GoodIn wsX8_asks wsX8_power := goodIn_r _ [13] (by decide +kernel) (by decide +kernel)
set_option maxRecDepth 20000 in
theorem gX8_asks_X8_power : GoodIn wsX8_asks (va_wsS RX8 179 yX8_power wsX8_power) := goodIn_app (goodIn_of _ (by decide +kernel)) ggX8_asks_X8_power
theorem dX8_asks_0 : decode cX8_asks 0 = .ok (.iload_n 1, 1) := by decide +kernel
theorem dX8_asks_1 : decode cX8_asks 1 = .ok (.invokestatic 79, 3) := by decide +kernel
theorem dX8_asks_4 : decode cX8_asks 4 = .ok (.ifCond .ne 5, 3) := by decide +kernel
theorem dX8_asks_7 : decode cX8_asks 7 = .ok (.iconst (-1), 1) := by decide +kernel
theorem dX8_asks_8 : decode cX8_asks 8 = .ok (.ireturn, 1) := by decide +kernel
theorem dX8_asks_9 : decode cX8_asks 9 = .ok (.iload_n 2, 1) := by decide +kernel
theorem dX8_asks_10 : decode cX8_asks 10 = .ok (.iconst 1, 1) := by decide +kernel
theorem dX8_asks_11 : decode cX8_asks 11 = .ok (.bipush 7, 2) := by decide +kernel
theorem dX8_asks_13 : decode cX8_asks 13 = .ok (.invokestatic 71, 3) := by decide +kernel
theorem dX8_asks_16 : decode cX8_asks 16 = .ok (.ifCond .eq 14, 3) := by decide +kernel
theorem dX8_asks_19 : decode cX8_asks 19 = .ok (.iload_n 3, 1) := by decide +kernel
theorem dX8_asks_20 : decode cX8_asks 20 = .ok (.iconst 0, 1) := by decide +kernel
theorem dX8_asks_21 : decode cX8_asks 21 = .ok (.sipush 999, 3) := by decide +kernel
theorem dX8_asks_24 : decode cX8_asks 24 = .ok (.invokestatic 71, 3) := by decide +kernel
theorem dX8_asks_27 : decode cX8_asks 27 = .ok (.ifCond .ne 6, 3) := by decide +kernel
theorem dX8_asks_30 : decode cX8_asks 30 = .ok (.bipush (-2), 2) := by decide +kernel
theorem dX8_asks_32 : decode cX8_asks 32 = .ok (.ireturn, 1) := by decide +kernel
theorem dX8_asks_33 : decode cX8_asks 33 = .ok (.ldc2_w 183, 3) := by decide +kernel
theorem dX8_asks_36 : decode cX8_asks 36 = .ok (.iload_n 2, 1) := by decide +kernel
theorem dX8_asks_37 : decode cX8_asks 37 = .ok (.invokestatic 179, 3) := by decide +kernel
theorem dX8_asks_40 : decode cX8_asks 40 = .ok (.lstore 4, 2) := by decide +kernel
theorem dX8_asks_42 : decode cX8_asks 42 = .ok (.iload_n 3, 1) := by decide +kernel
theorem dX8_asks_43 : decode cX8_asks 43 = .ok (.i2l, 1) := by decide +kernel
theorem dX8_asks_44 : decode cX8_asks 44 = .ok (.lload 4, 2) := by decide +kernel
theorem dX8_asks_46 : decode cX8_asks 46 = .ok (.ldc2_w 177, 3) := by decide +kernel
theorem dX8_asks_49 : decode cX8_asks 49 = .ok (.aload_n 0, 1) := by decide +kernel
theorem dX8_asks_50 : decode cX8_asks 50 = .ok (.getfield 16, 3) := by decide +kernel
theorem dX8_asks_53 : decode cX8_asks 53 = .ok (.iload_n 1, 1) := by decide +kernel
theorem dX8_asks_54 : decode cX8_asks 54 = .ok (.iaload, 1) := by decide +kernel
theorem dX8_asks_55 : decode cX8_asks 55 = .ok (.i2l, 1) := by decide +kernel
theorem dX8_asks_56 : decode cX8_asks 56 = .ok (.ladd, 1) := by decide +kernel
theorem dX8_asks_57 : decode cX8_asks 57 = .ok (.iload_n 2, 1) := by decide +kernel
theorem dX8_asks_58 : decode cX8_asks 58 = .ok (.invokestatic 179, 3) := by decide +kernel
theorem dX8_asks_61 : decode cX8_asks 61 = .ok (.lsub, 1) := by decide +kernel
theorem dX8_asks_62 : decode cX8_asks 62 = .ok (.lmul, 1) := by decide +kernel
theorem dX8_asks_63 : decode cX8_asks 63 = .ok (.lstore 6, 2) := by decide +kernel
theorem dX8_asks_65 : decode cX8_asks 65 = .ok (.lload 6, 2) := by decide +kernel
theorem dX8_asks_67 : decode cX8_asks 67 = .ok (.lload 4, 2) := by decide +kernel
theorem dX8_asks_69 : decode cX8_asks 69 = .ok (.ladd, 1) := by decide +kernel
theorem dX8_asks_70 : decode cX8_asks 70 = .ok (.lconst 1, 1) := by decide +kernel
theorem dX8_asks_71 : decode cX8_asks 71 = .ok (.lsub, 1) := by decide +kernel
theorem dX8_asks_72 : decode cX8_asks 72 = .ok (.lload 4, 2) := by decide +kernel
theorem dX8_asks_74 : decode cX8_asks 74 = .ok (.ldiv, 1) := by decide +kernel
theorem dX8_asks_75 : decode cX8_asks 75 = .ok (.l2i, 1) := by decide +kernel
theorem dX8_asks_76 : decode cX8_asks 76 = .ok (.ireturn, 1) := by decide +kernel
set_option maxRecDepth 20000 in
theorem ggX8_leastAtHome_X8_has : GoodIn wsX8_leastAtHome wsX8_has := goodIn_r _ [7] (by decide +kernel) (by decide +kernel)
set_option maxRecDepth 20000 in
theorem gX8_leastAtHome_X8_has : GoodIn wsX8_leastAtHome (va_wsS RX8 107 yX8_has wsX8_has) := goodIn_app (goodIn_of _ (by decide +kernel)) ggX8_leastAtHome_X8_has
theorem dX8_leastAtHome_0 : decode cX8_leastAtHome 0 = .ok (.bipush (-6), 2) := by decide +kernel
theorem dX8_leastAtHome_2 : decode cX8_leastAtHome 2 = .ok (.istore_n 2, 1) := by decide +kernel
theorem dX8_leastAtHome_3 : decode cX8_leastAtHome 3 = .ok (.iconst 4, 1) := by decide +kernel
theorem dX8_leastAtHome_4 : decode cX8_leastAtHome 4 = .ok (.istore_n 3, 1) := by decide +kernel
theorem dX8_leastAtHome_5 : decode cX8_leastAtHome 5 = .ok (.iload_n 3, 1) := by decide +kernel
theorem dX8_leastAtHome_6 : decode cX8_leastAtHome 6 = .ok (.ifCond .lt 46, 3) := by decide +kernel
theorem dX8_leastAtHome_9 : decode cX8_leastAtHome 9 = .ok (.aload_n 0, 1) := by decide +kernel
theorem dX8_leastAtHome_10 : decode cX8_leastAtHome 10 = .ok (.getfield 7, 3) := by decide +kernel
theorem dX8_leastAtHome_13 : decode cX8_leastAtHome 13 = .ok (.iload_n 1, 1) := by decide +kernel
theorem dX8_leastAtHome_14 : decode cX8_leastAtHome 14 = .ok (.iaload, 1) := by decide +kernel
theorem dX8_leastAtHome_15 : decode cX8_leastAtHome 15 = .ok (.iload_n 3, 1) := by decide +kernel
theorem dX8_leastAtHome_16 : decode cX8_leastAtHome 16 = .ok (.invokestatic 107, 3) := by decide +kernel
theorem dX8_leastAtHome_19 : decode cX8_leastAtHome 19 = .ok (.ifCond .eq 25, 3) := by decide +kernel
theorem dX8_leastAtHome_22 : decode cX8_leastAtHome 22 = .ok (.aload_n 0, 1) := by decide +kernel
theorem dX8_leastAtHome_23 : decode cX8_leastAtHome 23 = .ok (.getfield 37, 3) := by decide +kernel
theorem dX8_leastAtHome_26 : decode cX8_leastAtHome 26 = .ok (.iload_n 3, 1) := by decide +kernel
theorem dX8_leastAtHome_27 : decode cX8_leastAtHome 27 = .ok (.baload, 1) := by decide +kernel
theorem dX8_leastAtHome_28 : decode cX8_leastAtHome 28 = .ok (.ifCond .ne 16, 3) := by decide +kernel
theorem dX8_leastAtHome_31 : decode cX8_leastAtHome 31 = .ok (.aload_n 0, 1) := by decide +kernel
theorem dX8_leastAtHome_32 : decode cX8_leastAtHome 32 = .ok (.getfield 34, 3) := by decide +kernel
theorem dX8_leastAtHome_35 : decode cX8_leastAtHome 35 = .ok (.iload_n 3, 1) := by decide +kernel
theorem dX8_leastAtHome_36 : decode cX8_leastAtHome 36 = .ok (.iaload, 1) := by decide +kernel
theorem dX8_leastAtHome_37 : decode cX8_leastAtHome 37 = .ok (.ifCond .ge 7, 3) := by decide +kernel
theorem dX8_leastAtHome_40 : decode cX8_leastAtHome 40 = .ok (.iload_n 3, 1) := by decide +kernel
theorem dX8_leastAtHome_41 : decode cX8_leastAtHome 41 = .ok (.goto 4, 3) := by decide +kernel
theorem dX8_leastAtHome_44 : decode cX8_leastAtHome 44 = .ok (.iload_n 2, 1) := by decide +kernel
theorem dX8_leastAtHome_45 : decode cX8_leastAtHome 45 = .ok (.istore_n 2, 1) := by decide +kernel
theorem dX8_leastAtHome_46 : decode cX8_leastAtHome 46 = .ok (.iinc 3 (-1), 3) := by decide +kernel
theorem dX8_leastAtHome_49 : decode cX8_leastAtHome 49 = .ok (.goto (-44), 3) := by decide +kernel
theorem dX8_leastAtHome_52 : decode cX8_leastAtHome 52 = .ok (.iload_n 2, 1) := by decide +kernel
theorem dX8_leastAtHome_53 : decode cX8_leastAtHome 53 = .ok (.ireturn, 1) := by decide +kernel
set_option maxRecDepth 20000 in
theorem ggX8_winter_X8_in : GoodIn wsX8_winter wsX8_in := goodIn_r _ [15] (by decide +kernel) (by decide +kernel)
set_option maxRecDepth 20000 in
theorem gX8_winter_X8_in : GoodIn wsX8_winter (va_wsS RX8 71 yX8_in wsX8_in) := goodIn_app (goodIn_of _ (by decide +kernel)) ggX8_winter_X8_in
set_option maxRecDepth 20000 in
theorem ggX8_winter_X8_beginLog : GoodIn wsX8_winter wsX8_beginLog := goodIn_r _ [19, 7, 20, 3, 2, 6, 5, 10, 11, 21, 42, 43, 44, 45, 46, 47, 48, 49, 50, 51, 52, 53, 54, 55, 56, 57, 58, 59, 60, 61, 62, 63, 64, 65] (by decide +kernel) (by decide +kernel)
set_option maxRecDepth 20000 in
theorem gX8_winter_X8_beginLog : GoodIn wsX8_winter (wsV RX8 111 RX8 yX8_beginLog wsX8_beginLog) := goodIn_app (goodIn_of _ (by decide +kernel)) ggX8_winter_X8_beginLog
set_option maxRecDepth 20000 in
theorem ggX8_winter_X8_nextDay : GoodIn wsX8_winter wsX8_nextDay := goodIn_r _ [25, 7, 5, 6, 3, 11, 26, 27, 28, 14, 29, 1, 21, 42, 43, 44, 45, 46, 47, 48, 49, 50, 51, 52, 53, 54, 55, 56, 57, 58, 59, 60, 61, 62, 63, 64, 65] (by decide +kernel) (by decide +kernel)
set_option maxRecDepth 20000 in
theorem gX8_winter_X8_nextDay : GoodIn wsX8_winter (wsV RX8 117 RX8 yX8_nextDay wsX8_nextDay) := goodIn_app (goodIn_of _ (by decide +kernel)) ggX8_winter_X8_nextDay
set_option maxRecDepth 20000 in
theorem ggX8_winter_X8_leastAtHome : GoodIn wsX8_winter wsX8_leastAtHome := goodIn_r _ [33, 34, 10, 5, 35, 36, 14, 37, 42, 43, 44, 45, 46, 47, 48, 49, 50, 51, 52, 53, 54, 55, 56, 57, 58, 59, 60, 61, 62, 63, 64, 65] (by decide +kernel) (by decide +kernel)
set_option maxRecDepth 20000 in
theorem gX8_winter_X8_leastAtHome : GoodIn wsX8_winter (wsV RX8 185 RX8 yX8_leastAtHome wsX8_leastAtHome) := goodIn_app (goodIn_of _ (by decide +kernel)) ggX8_winter_X8_leastAtHome
set_option maxRecDepth 20000 in
theorem ggX8_winter_X8_drown : GoodIn wsX8_winter wsX8_drown := goodIn_r _ [41, 10, 5, 2, 3, 42, 43, 44, 45, 46, 47, 48, 49, 50, 51, 52, 53, 54, 55, 56, 57, 58, 59, 60, 61, 62, 63, 64, 65] (by decide +kernel) (by decide +kernel)
set_option maxRecDepth 20000 in
theorem gX8_winter_X8_drown : GoodIn wsX8_winter (wsV RX8 120 RX8 yX8_drown wsX8_drown) := goodIn_app (goodIn_of _ (by decide +kernel)) ggX8_winter_X8_drown
theorem dX8_winter_0 : decode cX8_winter 0 = .ok (.iload_n 1, 1) := by decide +kernel
theorem dX8_winter_1 : decode cX8_winter 1 = .ok (.iconst 0, 1) := by decide +kernel
theorem dX8_winter_2 : decode cX8_winter 2 = .ok (.sipush 9999, 3) := by decide +kernel
theorem dX8_winter_5 : decode cX8_winter 5 = .ok (.invokestatic 71, 3) := by decide +kernel
theorem dX8_winter_8 : decode cX8_winter 8 = .ok (.ifCond .eq 22, 3) := by decide +kernel
theorem dX8_winter_11 : decode cX8_winter 11 = .ok (.iload_n 2, 1) := by decide +kernel
theorem dX8_winter_12 : decode cX8_winter 12 = .ok (.iconst 1, 1) := by decide +kernel
theorem dX8_winter_13 : decode cX8_winter 13 = .ok (.bipush 60, 2) := by decide +kernel
theorem dX8_winter_15 : decode cX8_winter 15 = .ok (.invokestatic 71, 3) := by decide +kernel
theorem dX8_winter_18 : decode cX8_winter 18 = .ok (.ifCond .eq 12, 3) := by decide +kernel
theorem dX8_winter_21 : decode cX8_winter 21 = .ok (.iload_n 3, 1) := by decide +kernel
theorem dX8_winter_22 : decode cX8_winter 22 = .ok (.iconst 0, 1) := by decide +kernel
theorem dX8_winter_23 : decode cX8_winter 23 = .ok (.iconst 2, 1) := by decide +kernel
theorem dX8_winter_24 : decode cX8_winter 24 = .ok (.invokestatic 71, 3) := by decide +kernel
theorem dX8_winter_27 : decode cX8_winter 27 = .ok (.ifCond .ne 6, 3) := by decide +kernel
theorem dX8_winter_30 : decode cX8_winter 30 = .ok (.bipush (-2), 2) := by decide +kernel
theorem dX8_winter_32 : decode cX8_winter 32 = .ok (.ireturn, 1) := by decide +kernel
theorem dX8_winter_33 : decode cX8_winter 33 = .ok (.aload_n 0, 1) := by decide +kernel
theorem dX8_winter_34 : decode cX8_winter 34 = .ok (.invokevirtual 111, 3) := by decide +kernel
theorem dX8_winter_37 : decode cX8_winter 37 = .ok (.aload_n 0, 1) := by decide +kernel
theorem dX8_winter_38 : decode cX8_winter 38 = .ok (.bipush (-6), 2) := by decide +kernel
theorem dX8_winter_40 : decode cX8_winter 40 = .ok (.putfield 101, 3) := by decide +kernel
theorem dX8_winter_43 : decode cX8_winter 43 = .ok (.iload_n 1, 1) := by decide +kernel
theorem dX8_winter_44 : decode cX8_winter 44 = .ok (.istore 4, 2) := by decide +kernel
theorem dX8_winter_46 : decode cX8_winter 46 = .ok (.iconst 0, 1) := by decide +kernel
theorem dX8_winter_47 : decode cX8_winter 47 = .ok (.istore 5, 2) := by decide +kernel
theorem dX8_winter_49 : decode cX8_winter 49 = .ok (.iload 5, 2) := by decide +kernel
theorem dX8_winter_51 : decode cX8_winter 51 = .ok (.iload_n 2, 1) := by decide +kernel
theorem dX8_winter_52 : decode cX8_winter 52 = .ok (.if_icmp .ge 181, 3) := by decide +kernel
theorem dX8_winter_55 : decode cX8_winter 55 = .ok (.iload 5, 2) := by decide +kernel
theorem dX8_winter_57 : decode cX8_winter 57 = .ok (.ifCond .le 7, 3) := by decide +kernel
theorem dX8_winter_60 : decode cX8_winter 60 = .ok (.aload_n 0, 1) := by decide +kernel
theorem dX8_winter_61 : decode cX8_winter 61 = .ok (.invokevirtual 117, 3) := by decide +kernel
theorem dX8_winter_64 : decode cX8_winter 64 = .ok (.iconst 0, 1) := by decide +kernel
theorem dX8_winter_65 : decode cX8_winter 65 = .ok (.istore 6, 2) := by decide +kernel
theorem dX8_winter_67 : decode cX8_winter 67 = .ok (.iload 6, 2) := by decide +kernel
theorem dX8_winter_69 : decode cX8_winter 69 = .ok (.bipush 6, 2) := by decide +kernel
theorem dX8_winter_71 : decode cX8_winter 71 = .ok (.if_icmp .ge 89, 3) := by decide +kernel
theorem dX8_winter_74 : decode cX8_winter 74 = .ok (.aload_n 0, 1) := by decide +kernel
theorem dX8_winter_75 : decode cX8_winter 75 = .ok (.iload 6, 2) := by decide +kernel
theorem dX8_winter_77 : decode cX8_winter 77 = .ok (.invokevirtual 185, 3) := by decide +kernel
theorem dX8_winter_80 : decode cX8_winter 80 = .ok (.istore 7, 2) := by decide +kernel
theorem dX8_winter_82 : decode cX8_winter 82 = .ok (.aload_n 0, 1) := by decide +kernel
theorem dX8_winter_83 : decode cX8_winter 83 = .ok (.getfield 41, 3) := by decide +kernel
theorem dX8_winter_86 : decode cX8_winter 86 = .ok (.iload 6, 2) := by decide +kernel
theorem dX8_winter_88 : decode cX8_winter 88 = .ok (.baload, 1) := by decide +kernel
theorem dX8_winter_89 : decode cX8_winter 89 = .ok (.ifCond .ne 65, 3) := by decide +kernel
theorem dX8_winter_92 : decode cX8_winter 92 = .ok (.aload_n 0, 1) := by decide +kernel
theorem dX8_winter_93 : decode cX8_winter 93 = .ok (.getfield 28, 3) := by decide +kernel
theorem dX8_winter_96 : decode cX8_winter 96 = .ok (.iload 6, 2) := by decide +kernel
theorem dX8_winter_98 : decode cX8_winter 98 = .ok (.iaload, 1) := by decide +kernel
theorem dX8_winter_99 : decode cX8_winter 99 = .ok (.ifCond .ge 55, 3) := by decide +kernel
theorem dX8_winter_102 : decode cX8_winter 102 = .ok (.aload_n 0, 1) := by decide +kernel
theorem dX8_winter_103 : decode cX8_winter 103 = .ok (.getfield 13, 3) := by decide +kernel
theorem dX8_winter_106 : decode cX8_winter 106 = .ok (.iload 6, 2) := by decide +kernel
theorem dX8_winter_108 : decode cX8_winter 108 = .ok (.iaload, 1) := by decide +kernel
theorem dX8_winter_109 : decode cX8_winter 109 = .ok (.ifCond .le 45, 3) := by decide +kernel
theorem dX8_winter_112 : decode cX8_winter 112 = .ok (.iload 7, 2) := by decide +kernel
theorem dX8_winter_114 : decode cX8_winter 114 = .ok (.ifCond .lt 40, 3) := by decide +kernel
theorem dX8_winter_117 : decode cX8_winter 117 = .ok (.aload_n 0, 1) := by decide +kernel
theorem dX8_winter_118 : decode cX8_winter 118 = .ok (.getfield 28, 3) := by decide +kernel
theorem dX8_winter_121 : decode cX8_winter 121 = .ok (.iload 6, 2) := by decide +kernel
theorem dX8_winter_123 : decode cX8_winter 123 = .ok (.iload 7, 2) := by decide +kernel
theorem dX8_winter_125 : decode cX8_winter 125 = .ok (.iastore, 1) := by decide +kernel
theorem dX8_winter_126 : decode cX8_winter 126 = .ok (.aload_n 0, 1) := by decide +kernel
theorem dX8_winter_127 : decode cX8_winter 127 = .ok (.getfield 34, 3) := by decide +kernel
theorem dX8_winter_130 : decode cX8_winter 130 = .ok (.iload 7, 2) := by decide +kernel
theorem dX8_winter_132 : decode cX8_winter 132 = .ok (.iload 6, 2) := by decide +kernel
theorem dX8_winter_134 : decode cX8_winter 134 = .ok (.iastore, 1) := by decide +kernel
theorem dX8_winter_135 : decode cX8_winter 135 = .ok (.aload_n 0, 1) := by decide +kernel
theorem dX8_winter_136 : decode cX8_winter 136 = .ok (.getfield 31, 3) := by decide +kernel
theorem dX8_winter_139 : decode cX8_winter 139 = .ok (.iload 7, 2) := by decide +kernel
theorem dX8_winter_141 : decode cX8_winter 141 = .ok (.aload_n 0, 1) := by decide +kernel
theorem dX8_winter_142 : decode cX8_winter 142 = .ok (.getfield 95, 3) := by decide +kernel
theorem dX8_winter_145 : decode cX8_winter 145 = .ok (.aload_n 0, 1) := by decide +kernel
theorem dX8_winter_146 : decode cX8_winter 146 = .ok (.getfield 13, 3) := by decide +kernel
theorem dX8_winter_149 : decode cX8_winter 149 = .ok (.iload 6, 2) := by decide +kernel
theorem dX8_winter_151 : decode cX8_winter 151 = .ok (.iaload, 1) := by decide +kernel
theorem dX8_winter_152 : decode cX8_winter 152 = .ok (.iadd, 1) := by decide +kernel
theorem dX8_winter_153 : decode cX8_winter 153 = .ok (.iastore, 1) := by decide +kernel
theorem dX8_winter_154 : decode cX8_winter 154 = .ok (.iinc 6 1, 3) := by decide +kernel
theorem dX8_winter_157 : decode cX8_winter 157 = .ok (.goto (-90), 3) := by decide +kernel
theorem dX8_winter_160 : decode cX8_winter 160 = .ok (.iconst 0, 1) := by decide +kernel
theorem dX8_winter_161 : decode cX8_winter 161 = .ok (.istore 6, 2) := by decide +kernel
theorem dX8_winter_163 : decode cX8_winter 163 = .ok (.iload 6, 2) := by decide +kernel
theorem dX8_winter_165 : decode cX8_winter 165 = .ok (.bipush 6, 2) := by decide +kernel
theorem dX8_winter_167 : decode cX8_winter 167 = .ok (.if_icmp .ge 60, 3) := by decide +kernel
theorem dX8_winter_170 : decode cX8_winter 170 = .ok (.aload_n 0, 1) := by decide +kernel
theorem dX8_winter_171 : decode cX8_winter 171 = .ok (.getfield 28, 3) := by decide +kernel
theorem dX8_winter_174 : decode cX8_winter 174 = .ok (.iload 6, 2) := by decide +kernel
theorem dX8_winter_176 : decode cX8_winter 176 = .ok (.iaload, 1) := by decide +kernel
theorem dX8_winter_177 : decode cX8_winter 177 = .ok (.istore 7, 2) := by decide +kernel
theorem dX8_winter_179 : decode cX8_winter 179 = .ok (.iload 7, 2) := by decide +kernel
theorem dX8_winter_181 : decode cX8_winter 181 = .ok (.ifCond .lt 40, 3) := by decide +kernel
theorem dX8_winter_184 : decode cX8_winter 184 = .ok (.bipush 75, 2) := by decide +kernel
theorem dX8_winter_186 : decode cX8_winter 186 = .ok (.iload 4, 2) := by decide +kernel
theorem dX8_winter_188 : decode cX8_winter 188 = .ok (.imul, 1) := by decide +kernel
theorem dX8_winter_189 : decode cX8_winter 189 = .ok (.bipush 74, 2) := by decide +kernel
theorem dX8_winter_191 : decode cX8_winter 191 = .ok (.iadd, 1) := by decide +kernel
theorem dX8_winter_192 : decode cX8_winter 192 = .ok (.ldc 188, 2) := by decide +kernel
theorem dX8_winter_194 : decode cX8_winter 194 = .ok (.irem, 1) := by decide +kernel
theorem dX8_winter_195 : decode cX8_winter 195 = .ok (.istore 4, 2) := by decide +kernel
theorem dX8_winter_197 : decode cX8_winter 197 = .ok (.iload 4, 2) := by decide +kernel
theorem dX8_winter_199 : decode cX8_winter 199 = .ok (.bipush 100, 2) := by decide +kernel
theorem dX8_winter_201 : decode cX8_winter 201 = .ok (.irem, 1) := by decide +kernel
theorem dX8_winter_202 : decode cX8_winter 202 = .ok (.bipush 10, 2) := by decide +kernel
theorem dX8_winter_204 : decode cX8_winter 204 = .ok (.aload_n 0, 1) := by decide +kernel
theorem dX8_winter_205 : decode cX8_winter 205 = .ok (.getfield 16, 3) := by decide +kernel
theorem dX8_winter_208 : decode cX8_winter 208 = .ok (.iload 7, 2) := by decide +kernel
theorem dX8_winter_210 : decode cX8_winter 210 = .ok (.iaload, 1) := by decide +kernel
theorem dX8_winter_211 : decode cX8_winter 211 = .ok (.isub, 1) := by decide +kernel
theorem dX8_winter_212 : decode cX8_winter 212 = .ok (.if_icmp .ge 9, 3) := by decide +kernel
theorem dX8_winter_215 : decode cX8_winter 215 = .ok (.aload_n 0, 1) := by decide +kernel
theorem dX8_winter_216 : decode cX8_winter 216 = .ok (.iload 7, 2) := by decide +kernel
theorem dX8_winter_218 : decode cX8_winter 218 = .ok (.invokevirtual 120, 3) := by decide +kernel
theorem dX8_winter_221 : decode cX8_winter 221 = .ok (.iinc 6 1, 3) := by decide +kernel
theorem dX8_winter_224 : decode cX8_winter 224 = .ok (.goto (-61), 3) := by decide +kernel
theorem dX8_winter_227 : decode cX8_winter 227 = .ok (.iinc 5 1, 3) := by decide +kernel
theorem dX8_winter_230 : decode cX8_winter 230 = .ok (.goto (-181), 3) := by decide +kernel
theorem dX8_winter_233 : decode cX8_winter 233 = .ok (.iconst 0, 1) := by decide +kernel
theorem dX8_winter_234 : decode cX8_winter 234 = .ok (.istore 5, 2) := by decide +kernel
theorem dX8_winter_236 : decode cX8_winter 236 = .ok (.iconst 0, 1) := by decide +kernel
theorem dX8_winter_237 : decode cX8_winter 237 = .ok (.istore 6, 2) := by decide +kernel
theorem dX8_winter_239 : decode cX8_winter 239 = .ok (.iconst 0, 1) := by decide +kernel
theorem dX8_winter_240 : decode cX8_winter 240 = .ok (.istore 7, 2) := by decide +kernel
theorem dX8_winter_242 : decode cX8_winter 242 = .ok (.iconst 0, 1) := by decide +kernel
theorem dX8_winter_243 : decode cX8_winter 243 = .ok (.istore 8, 2) := by decide +kernel
theorem dX8_winter_245 : decode cX8_winter 245 = .ok (.iload 8, 2) := by decide +kernel
theorem dX8_winter_247 : decode cX8_winter 247 = .ok (.bipush 6, 2) := by decide +kernel
theorem dX8_winter_249 : decode cX8_winter 249 = .ok (.if_icmp .ge 29, 3) := by decide +kernel
theorem dX8_winter_252 : decode cX8_winter 252 = .ok (.iload 5, 2) := by decide +kernel
theorem dX8_winter_254 : decode cX8_winter 254 = .ok (.aload_n 0, 1) := by decide +kernel
theorem dX8_winter_255 : decode cX8_winter 255 = .ok (.getfield 41, 3) := by decide +kernel
theorem dX8_winter_258 : decode cX8_winter 258 = .ok (.iload 8, 2) := by decide +kernel
theorem dX8_winter_260 : decode cX8_winter 260 = .ok (.baload, 1) := by decide +kernel
theorem dX8_winter_261 : decode cX8_winter 261 = .ok (.ifCond .eq 7, 3) := by decide +kernel
theorem dX8_winter_264 : decode cX8_winter 264 = .ok (.iconst 1, 1) := by decide +kernel
theorem dX8_winter_265 : decode cX8_winter 265 = .ok (.goto 4, 3) := by decide +kernel
theorem dX8_winter_268 : decode cX8_winter 268 = .ok (.iconst 0, 1) := by decide +kernel
theorem dX8_winter_269 : decode cX8_winter 269 = .ok (.iadd, 1) := by decide +kernel
theorem dX8_winter_270 : decode cX8_winter 270 = .ok (.istore 5, 2) := by decide +kernel
theorem dX8_winter_272 : decode cX8_winter 272 = .ok (.iinc 8 1, 3) := by decide +kernel
theorem dX8_winter_275 : decode cX8_winter 275 = .ok (.goto (-30), 3) := by decide +kernel
theorem dX8_winter_278 : decode cX8_winter 278 = .ok (.iconst 0, 1) := by decide +kernel
theorem dX8_winter_279 : decode cX8_winter 279 = .ok (.istore 8, 2) := by decide +kernel
theorem dX8_winter_281 : decode cX8_winter 281 = .ok (.iload 8, 2) := by decide +kernel
theorem dX8_winter_283 : decode cX8_winter 283 = .ok (.iconst 5, 1) := by decide +kernel
theorem dX8_winter_284 : decode cX8_winter 284 = .ok (.if_icmp .ge 44, 3) := by decide +kernel
theorem dX8_winter_287 : decode cX8_winter 287 = .ok (.iload 6, 2) := by decide +kernel
theorem dX8_winter_289 : decode cX8_winter 289 = .ok (.aload_n 0, 1) := by decide +kernel
theorem dX8_winter_290 : decode cX8_winter 290 = .ok (.getfield 37, 3) := by decide +kernel
theorem dX8_winter_293 : decode cX8_winter 293 = .ok (.iload 8, 2) := by decide +kernel
theorem dX8_winter_295 : decode cX8_winter 295 = .ok (.baload, 1) := by decide +kernel
theorem dX8_winter_296 : decode cX8_winter 296 = .ok (.ifCond .eq 10, 3) := by decide +kernel
theorem dX8_winter_299 : decode cX8_winter 299 = .ok (.iconst 1, 1) := by decide +kernel
theorem dX8_winter_300 : decode cX8_winter 300 = .ok (.iload 8, 2) := by decide +kernel
theorem dX8_winter_302 : decode cX8_winter 302 = .ok (.ishl, 1) := by decide +kernel
theorem dX8_winter_303 : decode cX8_winter 303 = .ok (.goto 4, 3) := by decide +kernel
theorem dX8_winter_306 : decode cX8_winter 306 = .ok (.iconst 0, 1) := by decide +kernel
theorem dX8_winter_307 : decode cX8_winter 307 = .ok (.ior, 1) := by decide +kernel
theorem dX8_winter_308 : decode cX8_winter 308 = .ok (.istore 6, 2) := by decide +kernel
theorem dX8_winter_310 : decode cX8_winter 310 = .ok (.iload 7, 2) := by decide +kernel
theorem dX8_winter_312 : decode cX8_winter 312 = .ok (.aload_n 0, 1) := by decide +kernel
theorem dX8_winter_313 : decode cX8_winter 313 = .ok (.getfield 44, 3) := by decide +kernel
theorem dX8_winter_316 : decode cX8_winter 316 = .ok (.iload 8, 2) := by decide +kernel
theorem dX8_winter_318 : decode cX8_winter 318 = .ok (.iaload, 1) := by decide +kernel
theorem dX8_winter_319 : decode cX8_winter 319 = .ok (.iadd, 1) := by decide +kernel
theorem dX8_winter_320 : decode cX8_winter 320 = .ok (.istore 7, 2) := by decide +kernel
theorem dX8_winter_322 : decode cX8_winter 322 = .ok (.iinc 8 1, 3) := by decide +kernel
theorem dX8_winter_325 : decode cX8_winter 325 = .ok (.goto (-44), 3) := by decide +kernel
theorem dX8_winter_328 : decode cX8_winter 328 = .ok (.iload_n 3, 1) := by decide +kernel
theorem dX8_winter_329 : decode cX8_winter 329 = .ok (.ifCond .ne 8, 3) := by decide +kernel
theorem dX8_winter_332 : decode cX8_winter 332 = .ok (.iload 5, 2) := by decide +kernel
theorem dX8_winter_334 : decode cX8_winter 334 = .ok (.goto 15, 3) := by decide +kernel
theorem dX8_winter_337 : decode cX8_winter 337 = .ok (.iload_n 3, 1) := by decide +kernel
theorem dX8_winter_338 : decode cX8_winter 338 = .ok (.iconst 1, 1) := by decide +kernel
theorem dX8_winter_339 : decode cX8_winter 339 = .ok (.if_icmp .ne 8, 3) := by decide +kernel
theorem dX8_winter_342 : decode cX8_winter 342 = .ok (.iload 6, 2) := by decide +kernel
theorem dX8_winter_344 : decode cX8_winter 344 = .ok (.goto 5, 3) := by decide +kernel
theorem dX8_winter_347 : decode cX8_winter 347 = .ok (.iload 7, 2) := by decide +kernel
theorem dX8_winter_349 : decode cX8_winter 349 = .ok (.ireturn, 1) := by decide +kernel
set_option maxRecDepth 20000 in
theorem ggX8_image_X8_in : GoodIn wsX8_image wsX8_in := goodIn_r _ [11] (by decide +kernel) (by decide +kernel)
set_option maxRecDepth 20000 in
theorem gX8_image_X8_in : GoodIn wsX8_image (va_wsS RX8 71 yX8_in wsX8_in) := goodIn_app (goodIn_of _ (by decide +kernel)) ggX8_image_X8_in
theorem dX8_image_0 : decode cX8_image 0 = .ok (.iload_n 1, 1) := by decide +kernel
theorem dX8_image_1 : decode cX8_image 1 = .ok (.iconst 0, 1) := by decide +kernel
theorem dX8_image_2 : decode cX8_image 2 = .ok (.iconst 1, 1) := by decide +kernel
theorem dX8_image_3 : decode cX8_image 3 = .ok (.invokestatic 71, 3) := by decide +kernel
theorem dX8_image_6 : decode cX8_image 6 = .ok (.ifCond .ne 6, 3) := by decide +kernel
theorem dX8_image_9 : decode cX8_image 9 = .ok (.bipush (-2), 2) := by decide +kernel
theorem dX8_image_11 : decode cX8_image 11 = .ok (.ireturn, 1) := by decide +kernel
theorem dX8_image_12 : decode cX8_image 12 = .ok (.bipush 52, 2) := by decide +kernel
theorem dX8_image_14 : decode cX8_image 14 = .ok (.iload_n 1, 1) := by decide +kernel
theorem dX8_image_15 : decode cX8_image 15 = .ok (.imul, 1) := by decide +kernel
theorem dX8_image_16 : decode cX8_image 16 = .ok (.istore_n 2, 1) := by decide +kernel
theorem dX8_image_17 : decode cX8_image 17 = .ok (.iconst 0, 1) := by decide +kernel
theorem dX8_image_18 : decode cX8_image 18 = .ok (.istore_n 3, 1) := by decide +kernel
theorem dX8_image_19 : decode cX8_image 19 = .ok (.iload_n 3, 1) := by decide +kernel
theorem dX8_image_20 : decode cX8_image 20 = .ok (.bipush 6, 2) := by decide +kernel
theorem dX8_image_22 : decode cX8_image 22 = .ok (.if_icmp .ge 40, 3) := by decide +kernel
theorem dX8_image_25 : decode cX8_image 25 = .ok (.aload_n 0, 1) := by decide +kernel
theorem dX8_image_26 : decode cX8_image 26 = .ok (.getfield 65, 3) := by decide +kernel
theorem dX8_image_29 : decode cX8_image 29 = .ok (.iload_n 2, 1) := by decide +kernel
theorem dX8_image_30 : decode cX8_image 30 = .ok (.iload_n 3, 1) := by decide +kernel
theorem dX8_image_31 : decode cX8_image 31 = .ok (.iadd, 1) := by decide +kernel
theorem dX8_image_32 : decode cX8_image 32 = .ok (.aload_n 0, 1) := by decide +kernel
theorem dX8_image_33 : decode cX8_image 33 = .ok (.getfield 7, 3) := by decide +kernel
theorem dX8_image_36 : decode cX8_image 36 = .ok (.iload_n 3, 1) := by decide +kernel
theorem dX8_image_37 : decode cX8_image 37 = .ok (.iaload, 1) := by decide +kernel
theorem dX8_image_38 : decode cX8_image 38 = .ok (.iastore, 1) := by decide +kernel
theorem dX8_image_39 : decode cX8_image 39 = .ok (.aload_n 0, 1) := by decide +kernel
theorem dX8_image_40 : decode cX8_image 40 = .ok (.getfield 65, 3) := by decide +kernel
theorem dX8_image_43 : decode cX8_image 43 = .ok (.iload_n 2, 1) := by decide +kernel
theorem dX8_image_44 : decode cX8_image 44 = .ok (.bipush 6, 2) := by decide +kernel
theorem dX8_image_46 : decode cX8_image 46 = .ok (.iadd, 1) := by decide +kernel
theorem dX8_image_47 : decode cX8_image 47 = .ok (.iload_n 3, 1) := by decide +kernel
theorem dX8_image_48 : decode cX8_image 48 = .ok (.iadd, 1) := by decide +kernel
theorem dX8_image_49 : decode cX8_image 49 = .ok (.aload_n 0, 1) := by decide +kernel
theorem dX8_image_50 : decode cX8_image 50 = .ok (.getfield 13, 3) := by decide +kernel
theorem dX8_image_53 : decode cX8_image 53 = .ok (.iload_n 3, 1) := by decide +kernel
theorem dX8_image_54 : decode cX8_image 54 = .ok (.iaload, 1) := by decide +kernel
theorem dX8_image_55 : decode cX8_image 55 = .ok (.iastore, 1) := by decide +kernel
theorem dX8_image_56 : decode cX8_image 56 = .ok (.iinc 3 1, 3) := by decide +kernel
theorem dX8_image_59 : decode cX8_image 59 = .ok (.goto (-40), 3) := by decide +kernel
theorem dX8_image_62 : decode cX8_image 62 = .ok (.iconst 0, 1) := by decide +kernel
theorem dX8_image_63 : decode cX8_image 63 = .ok (.istore_n 3, 1) := by decide +kernel
theorem dX8_image_64 : decode cX8_image 64 = .ok (.iload_n 3, 1) := by decide +kernel
theorem dX8_image_65 : decode cX8_image 65 = .ok (.iconst 5, 1) := by decide +kernel
theorem dX8_image_66 : decode cX8_image 66 = .ok (.if_icmp .ge 43, 3) := by decide +kernel
theorem dX8_image_69 : decode cX8_image 69 = .ok (.aload_n 0, 1) := by decide +kernel
theorem dX8_image_70 : decode cX8_image 70 = .ok (.getfield 65, 3) := by decide +kernel
theorem dX8_image_73 : decode cX8_image 73 = .ok (.iload_n 2, 1) := by decide +kernel
theorem dX8_image_74 : decode cX8_image 74 = .ok (.bipush 12, 2) := by decide +kernel
theorem dX8_image_76 : decode cX8_image 76 = .ok (.iadd, 1) := by decide +kernel
theorem dX8_image_77 : decode cX8_image 77 = .ok (.iload_n 3, 1) := by decide +kernel
theorem dX8_image_78 : decode cX8_image 78 = .ok (.iadd, 1) := by decide +kernel
theorem dX8_image_79 : decode cX8_image 79 = .ok (.aload_n 0, 1) := by decide +kernel
theorem dX8_image_80 : decode cX8_image 80 = .ok (.getfield 16, 3) := by decide +kernel
theorem dX8_image_83 : decode cX8_image 83 = .ok (.iload_n 3, 1) := by decide +kernel
theorem dX8_image_84 : decode cX8_image 84 = .ok (.iaload, 1) := by decide +kernel
theorem dX8_image_85 : decode cX8_image 85 = .ok (.iastore, 1) := by decide +kernel
theorem dX8_image_86 : decode cX8_image 86 = .ok (.aload_n 0, 1) := by decide +kernel
theorem dX8_image_87 : decode cX8_image 87 = .ok (.getfield 65, 3) := by decide +kernel
theorem dX8_image_90 : decode cX8_image 90 = .ok (.iload_n 2, 1) := by decide +kernel
theorem dX8_image_91 : decode cX8_image 91 = .ok (.bipush 17, 2) := by decide +kernel
theorem dX8_image_93 : decode cX8_image 93 = .ok (.iadd, 1) := by decide +kernel
theorem dX8_image_94 : decode cX8_image 94 = .ok (.iload_n 3, 1) := by decide +kernel
theorem dX8_image_95 : decode cX8_image 95 = .ok (.iadd, 1) := by decide +kernel
theorem dX8_image_96 : decode cX8_image 96 = .ok (.aload_n 0, 1) := by decide +kernel
theorem dX8_image_97 : decode cX8_image 97 = .ok (.getfield 22, 3) := by decide +kernel
theorem dX8_image_100 : decode cX8_image 100 = .ok (.iload_n 3, 1) := by decide +kernel
theorem dX8_image_101 : decode cX8_image 101 = .ok (.iaload, 1) := by decide +kernel
theorem dX8_image_102 : decode cX8_image 102 = .ok (.iastore, 1) := by decide +kernel
theorem dX8_image_103 : decode cX8_image 103 = .ok (.iinc 3 1, 3) := by decide +kernel
theorem dX8_image_106 : decode cX8_image 106 = .ok (.goto (-42), 3) := by decide +kernel
theorem dX8_image_109 : decode cX8_image 109 = .ok (.iconst 0, 1) := by decide +kernel
theorem dX8_image_110 : decode cX8_image 110 = .ok (.istore_n 3, 1) := by decide +kernel
theorem dX8_image_111 : decode cX8_image 111 = .ok (.iload_n 3, 1) := by decide +kernel
theorem dX8_image_112 : decode cX8_image 112 = .ok (.bipush 30, 2) := by decide +kernel
theorem dX8_image_114 : decode cX8_image 114 = .ok (.if_icmp .ge 26, 3) := by decide +kernel
theorem dX8_image_117 : decode cX8_image 117 = .ok (.aload_n 0, 1) := by decide +kernel
theorem dX8_image_118 : decode cX8_image 118 = .ok (.getfield 65, 3) := by decide +kernel
theorem dX8_image_121 : decode cX8_image 121 = .ok (.iload_n 2, 1) := by decide +kernel
theorem dX8_image_122 : decode cX8_image 122 = .ok (.bipush 22, 2) := by decide +kernel
theorem dX8_image_124 : decode cX8_image 124 = .ok (.iadd, 1) := by decide +kernel
theorem dX8_image_125 : decode cX8_image 125 = .ok (.iload_n 3, 1) := by decide +kernel
theorem dX8_image_126 : decode cX8_image 126 = .ok (.iadd, 1) := by decide +kernel
theorem dX8_image_127 : decode cX8_image 127 = .ok (.aload_n 0, 1) := by decide +kernel
theorem dX8_image_128 : decode cX8_image 128 = .ok (.getfield 19, 3) := by decide +kernel
theorem dX8_image_131 : decode cX8_image 131 = .ok (.iload_n 3, 1) := by decide +kernel
theorem dX8_image_132 : decode cX8_image 132 = .ok (.iaload, 1) := by decide +kernel
theorem dX8_image_133 : decode cX8_image 133 = .ok (.iastore, 1) := by decide +kernel
theorem dX8_image_134 : decode cX8_image 134 = .ok (.iinc 3 1, 3) := by decide +kernel
theorem dX8_image_137 : decode cX8_image 137 = .ok (.goto (-26), 3) := by decide +kernel
theorem dX8_image_140 : decode cX8_image 140 = .ok (.aload_n 0, 1) := by decide +kernel
theorem dX8_image_141 : decode cX8_image 141 = .ok (.getfield 68, 3) := by decide +kernel
theorem dX8_image_144 : decode cX8_image 144 = .ok (.iload_n 1, 1) := by decide +kernel
theorem dX8_image_145 : decode cX8_image 145 = .ok (.iconst 1, 1) := by decide +kernel
theorem dX8_image_146 : decode cX8_image 146 = .ok (.bastore, 1) := by decide +kernel
theorem dX8_image_147 : decode cX8_image 147 = .ok (.iconst 1, 1) := by decide +kernel
theorem dX8_image_148 : decode cX8_image 148 = .ok (.ireturn, 1) := by decide +kernel
set_option maxRecDepth 20000 in
theorem ggX8_restore_X8_in : GoodIn wsX8_restore wsX8_in := goodIn_r _ [11] (by decide +kernel) (by decide +kernel)
set_option maxRecDepth 20000 in
theorem gX8_restore_X8_in : GoodIn wsX8_restore (va_wsS RX8 71 yX8_in wsX8_in) := goodIn_app (goodIn_of _ (by decide +kernel)) ggX8_restore_X8_in
theorem dX8_restore_0 : decode cX8_restore 0 = .ok (.iload_n 1, 1) := by decide +kernel
theorem dX8_restore_1 : decode cX8_restore 1 = .ok (.iconst 0, 1) := by decide +kernel
theorem dX8_restore_2 : decode cX8_restore 2 = .ok (.iconst 1, 1) := by decide +kernel
theorem dX8_restore_3 : decode cX8_restore 3 = .ok (.invokestatic 71, 3) := by decide +kernel
theorem dX8_restore_6 : decode cX8_restore 6 = .ok (.ifCond .ne 6, 3) := by decide +kernel
theorem dX8_restore_9 : decode cX8_restore 9 = .ok (.bipush (-2), 2) := by decide +kernel
theorem dX8_restore_11 : decode cX8_restore 11 = .ok (.ireturn, 1) := by decide +kernel
theorem dX8_restore_12 : decode cX8_restore 12 = .ok (.aload_n 0, 1) := by decide +kernel
theorem dX8_restore_13 : decode cX8_restore 13 = .ok (.getfield 68, 3) := by decide +kernel
theorem dX8_restore_16 : decode cX8_restore 16 = .ok (.iload_n 1, 1) := by decide +kernel
theorem dX8_restore_17 : decode cX8_restore 17 = .ok (.baload, 1) := by decide +kernel
theorem dX8_restore_18 : decode cX8_restore 18 = .ok (.ifCond .ne 6, 3) := by decide +kernel
theorem dX8_restore_21 : decode cX8_restore 21 = .ok (.bipush (-3), 2) := by decide +kernel
theorem dX8_restore_23 : decode cX8_restore 23 = .ok (.ireturn, 1) := by decide +kernel
theorem dX8_restore_24 : decode cX8_restore 24 = .ok (.bipush 52, 2) := by decide +kernel
theorem dX8_restore_26 : decode cX8_restore 26 = .ok (.iload_n 1, 1) := by decide +kernel
theorem dX8_restore_27 : decode cX8_restore 27 = .ok (.imul, 1) := by decide +kernel
theorem dX8_restore_28 : decode cX8_restore 28 = .ok (.istore_n 2, 1) := by decide +kernel
theorem dX8_restore_29 : decode cX8_restore 29 = .ok (.iconst 0, 1) := by decide +kernel
theorem dX8_restore_30 : decode cX8_restore 30 = .ok (.istore_n 3, 1) := by decide +kernel
theorem dX8_restore_31 : decode cX8_restore 31 = .ok (.iload_n 3, 1) := by decide +kernel
theorem dX8_restore_32 : decode cX8_restore 32 = .ok (.bipush 6, 2) := by decide +kernel
theorem dX8_restore_34 : decode cX8_restore 34 = .ok (.if_icmp .ge 40, 3) := by decide +kernel
theorem dX8_restore_37 : decode cX8_restore 37 = .ok (.aload_n 0, 1) := by decide +kernel
theorem dX8_restore_38 : decode cX8_restore 38 = .ok (.getfield 7, 3) := by decide +kernel
theorem dX8_restore_41 : decode cX8_restore 41 = .ok (.iload_n 3, 1) := by decide +kernel
theorem dX8_restore_42 : decode cX8_restore 42 = .ok (.aload_n 0, 1) := by decide +kernel
theorem dX8_restore_43 : decode cX8_restore 43 = .ok (.getfield 65, 3) := by decide +kernel
theorem dX8_restore_46 : decode cX8_restore 46 = .ok (.iload_n 2, 1) := by decide +kernel
theorem dX8_restore_47 : decode cX8_restore 47 = .ok (.iload_n 3, 1) := by decide +kernel
theorem dX8_restore_48 : decode cX8_restore 48 = .ok (.iadd, 1) := by decide +kernel
theorem dX8_restore_49 : decode cX8_restore 49 = .ok (.iaload, 1) := by decide +kernel
theorem dX8_restore_50 : decode cX8_restore 50 = .ok (.iastore, 1) := by decide +kernel
theorem dX8_restore_51 : decode cX8_restore 51 = .ok (.aload_n 0, 1) := by decide +kernel
theorem dX8_restore_52 : decode cX8_restore 52 = .ok (.getfield 13, 3) := by decide +kernel
theorem dX8_restore_55 : decode cX8_restore 55 = .ok (.iload_n 3, 1) := by decide +kernel
theorem dX8_restore_56 : decode cX8_restore 56 = .ok (.aload_n 0, 1) := by decide +kernel
theorem dX8_restore_57 : decode cX8_restore 57 = .ok (.getfield 65, 3) := by decide +kernel
theorem dX8_restore_60 : decode cX8_restore 60 = .ok (.iload_n 2, 1) := by decide +kernel
theorem dX8_restore_61 : decode cX8_restore 61 = .ok (.bipush 6, 2) := by decide +kernel
theorem dX8_restore_63 : decode cX8_restore 63 = .ok (.iadd, 1) := by decide +kernel
theorem dX8_restore_64 : decode cX8_restore 64 = .ok (.iload_n 3, 1) := by decide +kernel
theorem dX8_restore_65 : decode cX8_restore 65 = .ok (.iadd, 1) := by decide +kernel
theorem dX8_restore_66 : decode cX8_restore 66 = .ok (.iaload, 1) := by decide +kernel
theorem dX8_restore_67 : decode cX8_restore 67 = .ok (.iastore, 1) := by decide +kernel
theorem dX8_restore_68 : decode cX8_restore 68 = .ok (.iinc 3 1, 3) := by decide +kernel
theorem dX8_restore_71 : decode cX8_restore 71 = .ok (.goto (-40), 3) := by decide +kernel
theorem dX8_restore_74 : decode cX8_restore 74 = .ok (.iconst 0, 1) := by decide +kernel
theorem dX8_restore_75 : decode cX8_restore 75 = .ok (.istore_n 3, 1) := by decide +kernel
theorem dX8_restore_76 : decode cX8_restore 76 = .ok (.iload_n 3, 1) := by decide +kernel
theorem dX8_restore_77 : decode cX8_restore 77 = .ok (.iconst 5, 1) := by decide +kernel
theorem dX8_restore_78 : decode cX8_restore 78 = .ok (.if_icmp .ge 43, 3) := by decide +kernel
theorem dX8_restore_81 : decode cX8_restore 81 = .ok (.aload_n 0, 1) := by decide +kernel
theorem dX8_restore_82 : decode cX8_restore 82 = .ok (.getfield 16, 3) := by decide +kernel
theorem dX8_restore_85 : decode cX8_restore 85 = .ok (.iload_n 3, 1) := by decide +kernel
theorem dX8_restore_86 : decode cX8_restore 86 = .ok (.aload_n 0, 1) := by decide +kernel
theorem dX8_restore_87 : decode cX8_restore 87 = .ok (.getfield 65, 3) := by decide +kernel
theorem dX8_restore_90 : decode cX8_restore 90 = .ok (.iload_n 2, 1) := by decide +kernel
theorem dX8_restore_91 : decode cX8_restore 91 = .ok (.bipush 12, 2) := by decide +kernel
theorem dX8_restore_93 : decode cX8_restore 93 = .ok (.iadd, 1) := by decide +kernel
theorem dX8_restore_94 : decode cX8_restore 94 = .ok (.iload_n 3, 1) := by decide +kernel
theorem dX8_restore_95 : decode cX8_restore 95 = .ok (.iadd, 1) := by decide +kernel
theorem dX8_restore_96 : decode cX8_restore 96 = .ok (.iaload, 1) := by decide +kernel
theorem dX8_restore_97 : decode cX8_restore 97 = .ok (.iastore, 1) := by decide +kernel
theorem dX8_restore_98 : decode cX8_restore 98 = .ok (.aload_n 0, 1) := by decide +kernel
theorem dX8_restore_99 : decode cX8_restore 99 = .ok (.getfield 22, 3) := by decide +kernel
theorem dX8_restore_102 : decode cX8_restore 102 = .ok (.iload_n 3, 1) := by decide +kernel
theorem dX8_restore_103 : decode cX8_restore 103 = .ok (.aload_n 0, 1) := by decide +kernel
theorem dX8_restore_104 : decode cX8_restore 104 = .ok (.getfield 65, 3) := by decide +kernel
theorem dX8_restore_107 : decode cX8_restore 107 = .ok (.iload_n 2, 1) := by decide +kernel
theorem dX8_restore_108 : decode cX8_restore 108 = .ok (.bipush 17, 2) := by decide +kernel
theorem dX8_restore_110 : decode cX8_restore 110 = .ok (.iadd, 1) := by decide +kernel
theorem dX8_restore_111 : decode cX8_restore 111 = .ok (.iload_n 3, 1) := by decide +kernel
theorem dX8_restore_112 : decode cX8_restore 112 = .ok (.iadd, 1) := by decide +kernel
theorem dX8_restore_113 : decode cX8_restore 113 = .ok (.iaload, 1) := by decide +kernel
theorem dX8_restore_114 : decode cX8_restore 114 = .ok (.iastore, 1) := by decide +kernel
theorem dX8_restore_115 : decode cX8_restore 115 = .ok (.iinc 3 1, 3) := by decide +kernel
theorem dX8_restore_118 : decode cX8_restore 118 = .ok (.goto (-42), 3) := by decide +kernel
theorem dX8_restore_121 : decode cX8_restore 121 = .ok (.iconst 0, 1) := by decide +kernel
theorem dX8_restore_122 : decode cX8_restore 122 = .ok (.istore_n 3, 1) := by decide +kernel
theorem dX8_restore_123 : decode cX8_restore 123 = .ok (.iload_n 3, 1) := by decide +kernel
theorem dX8_restore_124 : decode cX8_restore 124 = .ok (.bipush 30, 2) := by decide +kernel
theorem dX8_restore_126 : decode cX8_restore 126 = .ok (.if_icmp .ge 26, 3) := by decide +kernel
theorem dX8_restore_129 : decode cX8_restore 129 = .ok (.aload_n 0, 1) := by decide +kernel
theorem dX8_restore_130 : decode cX8_restore 130 = .ok (.getfield 19, 3) := by decide +kernel
theorem dX8_restore_133 : decode cX8_restore 133 = .ok (.iload_n 3, 1) := by decide +kernel
theorem dX8_restore_134 : decode cX8_restore 134 = .ok (.aload_n 0, 1) := by decide +kernel
theorem dX8_restore_135 : decode cX8_restore 135 = .ok (.getfield 65, 3) := by decide +kernel
theorem dX8_restore_138 : decode cX8_restore 138 = .ok (.iload_n 2, 1) := by decide +kernel
theorem dX8_restore_139 : decode cX8_restore 139 = .ok (.bipush 22, 2) := by decide +kernel
theorem dX8_restore_141 : decode cX8_restore 141 = .ok (.iadd, 1) := by decide +kernel
theorem dX8_restore_142 : decode cX8_restore 142 = .ok (.iload_n 3, 1) := by decide +kernel
theorem dX8_restore_143 : decode cX8_restore 143 = .ok (.iadd, 1) := by decide +kernel
theorem dX8_restore_144 : decode cX8_restore 144 = .ok (.iaload, 1) := by decide +kernel
theorem dX8_restore_145 : decode cX8_restore 145 = .ok (.iastore, 1) := by decide +kernel
theorem dX8_restore_146 : decode cX8_restore 146 = .ok (.iinc 3 1, 3) := by decide +kernel
theorem dX8_restore_149 : decode cX8_restore 149 = .ok (.goto (-26), 3) := by decide +kernel
theorem dX8_restore_152 : decode cX8_restore 152 = .ok (.iconst 1, 1) := by decide +kernel
theorem dX8_restore_153 : decode cX8_restore 153 = .ok (.ireturn, 1) := by decide +kernel
set_option maxRecDepth 20000 in
theorem ggX8_told_X8_in : GoodIn wsX8_told wsX8_in := goodIn_r _ [10] (by decide +kernel) (by decide +kernel)
set_option maxRecDepth 20000 in
theorem gX8_told_X8_in : GoodIn wsX8_told (va_wsS RX8 71 yX8_in wsX8_in) := goodIn_app (goodIn_of _ (by decide +kernel)) ggX8_told_X8_in
set_option maxRecDepth 20000 in
theorem ggX8_told_X8_isHull : GoodIn wsX8_told wsX8_isHull := goodIn_r _ [13, 7, 8, 9, 10] (by decide +kernel) (by decide +kernel)
set_option maxRecDepth 20000 in
theorem gX8_told_X8_isHull : GoodIn wsX8_told (va_wsS RX8 75 yX8_isHull wsX8_isHull) := goodIn_app (goodIn_of _ (by decide +kernel)) ggX8_told_X8_isHull
set_option maxRecDepth 20000 in
theorem ggX8_told_X8_isName : GoodIn wsX8_told wsX8_isName := goodIn_r _ [16, 7, 8, 9, 10] (by decide +kernel) (by decide +kernel)
set_option maxRecDepth 20000 in
theorem gX8_told_X8_isName : GoodIn wsX8_told (va_wsS RX8 79 yX8_isName wsX8_isName) := goodIn_app (goodIn_of _ (by decide +kernel)) ggX8_told_X8_isName
theorem dX8_told_0 : decode cX8_told 0 = .ok (.iload_n 1, 1) := by decide +kernel
theorem dX8_told_1 : decode cX8_told 1 = .ok (.bipush 10, 2) := by decide +kernel
theorem dX8_told_3 : decode cX8_told 3 = .ok (.irem, 1) := by decide +kernel
theorem dX8_told_4 : decode cX8_told 4 = .ok (.istore_n 2, 1) := by decide +kernel
theorem dX8_told_5 : decode cX8_told 5 = .ok (.iload_n 1, 1) := by decide +kernel
theorem dX8_told_6 : decode cX8_told 6 = .ok (.bipush 10, 2) := by decide +kernel
theorem dX8_told_8 : decode cX8_told 8 = .ok (.bipush 25, 2) := by decide +kernel
theorem dX8_told_10 : decode cX8_told 10 = .ok (.invokestatic 71, 3) := by decide +kernel
theorem dX8_told_13 : decode cX8_told 13 = .ok (.ifCond .eq 32, 3) := by decide +kernel
theorem dX8_told_16 : decode cX8_told 16 = .ok (.iload_n 2, 1) := by decide +kernel
theorem dX8_told_17 : decode cX8_told 17 = .ok (.invokestatic 75, 3) := by decide +kernel
theorem dX8_told_20 : decode cX8_told 20 = .ok (.ifCond .eq 25, 3) := by decide +kernel
theorem dX8_told_23 : decode cX8_told 23 = .ok (.iload_n 1, 1) := by decide +kernel
theorem dX8_told_24 : decode cX8_told 24 = .ok (.bipush 20, 2) := by decide +kernel
theorem dX8_told_26 : decode cX8_told 26 = .ok (.if_icmp .ge 12, 3) := by decide +kernel
theorem dX8_told_29 : decode cX8_told 29 = .ok (.aload_n 0, 1) := by decide +kernel
theorem dX8_told_30 : decode cX8_told 30 = .ok (.getfield 7, 3) := by decide +kernel
theorem dX8_told_33 : decode cX8_told 33 = .ok (.iload_n 2, 1) := by decide +kernel
theorem dX8_told_34 : decode cX8_told 34 = .ok (.iaload, 1) := by decide +kernel
theorem dX8_told_35 : decode cX8_told 35 = .ok (.goto 9, 3) := by decide +kernel
theorem dX8_told_38 : decode cX8_told 38 = .ok (.aload_n 0, 1) := by decide +kernel
theorem dX8_told_39 : decode cX8_told 39 = .ok (.getfield 13, 3) := by decide +kernel
theorem dX8_told_42 : decode cX8_told 42 = .ok (.iload_n 2, 1) := by decide +kernel
theorem dX8_told_43 : decode cX8_told 43 = .ok (.iaload, 1) := by decide +kernel
theorem dX8_told_44 : decode cX8_told 44 = .ok (.ireturn, 1) := by decide +kernel
theorem dX8_told_45 : decode cX8_told 45 = .ok (.iload_n 1, 1) := by decide +kernel
theorem dX8_told_46 : decode cX8_told 46 = .ok (.bipush 30, 2) := by decide +kernel
theorem dX8_told_48 : decode cX8_told 48 = .ok (.bipush 44, 2) := by decide +kernel
theorem dX8_told_50 : decode cX8_told 50 = .ok (.invokestatic 71, 3) := by decide +kernel
theorem dX8_told_53 : decode cX8_told 53 = .ok (.ifCond .eq 32, 3) := by decide +kernel
theorem dX8_told_56 : decode cX8_told 56 = .ok (.iload_n 2, 1) := by decide +kernel
theorem dX8_told_57 : decode cX8_told 57 = .ok (.invokestatic 79, 3) := by decide +kernel
theorem dX8_told_60 : decode cX8_told 60 = .ok (.ifCond .eq 25, 3) := by decide +kernel
theorem dX8_told_63 : decode cX8_told 63 = .ok (.iload_n 1, 1) := by decide +kernel
theorem dX8_told_64 : decode cX8_told 64 = .ok (.bipush 40, 2) := by decide +kernel
theorem dX8_told_66 : decode cX8_told 66 = .ok (.if_icmp .ge 12, 3) := by decide +kernel
theorem dX8_told_69 : decode cX8_told 69 = .ok (.aload_n 0, 1) := by decide +kernel
theorem dX8_told_70 : decode cX8_told 70 = .ok (.getfield 16, 3) := by decide +kernel
theorem dX8_told_73 : decode cX8_told 73 = .ok (.iload_n 2, 1) := by decide +kernel
theorem dX8_told_74 : decode cX8_told 74 = .ok (.iaload, 1) := by decide +kernel
theorem dX8_told_75 : decode cX8_told 75 = .ok (.goto 9, 3) := by decide +kernel
theorem dX8_told_78 : decode cX8_told 78 = .ok (.aload_n 0, 1) := by decide +kernel
theorem dX8_told_79 : decode cX8_told 79 = .ok (.getfield 22, 3) := by decide +kernel
theorem dX8_told_82 : decode cX8_told 82 = .ok (.iload_n 2, 1) := by decide +kernel
theorem dX8_told_83 : decode cX8_told 83 = .ok (.iaload, 1) := by decide +kernel
theorem dX8_told_84 : decode cX8_told 84 = .ok (.ireturn, 1) := by decide +kernel
theorem dX8_told_85 : decode cX8_told 85 = .ok (.iload_n 1, 1) := by decide +kernel
theorem dX8_told_86 : decode cX8_told 86 = .ok (.ifCond .ne 10, 3) := by decide +kernel
theorem dX8_told_89 : decode cX8_told 89 = .ok (.aload_n 0, 1) := by decide +kernel
theorem dX8_told_90 : decode cX8_told 90 = .ok (.getfield 87, 3) := by decide +kernel
theorem dX8_told_93 : decode cX8_told 93 = .ok (.goto 29, 3) := by decide +kernel
theorem dX8_told_96 : decode cX8_told 96 = .ok (.iload_n 1, 1) := by decide +kernel
theorem dX8_told_97 : decode cX8_told 97 = .ok (.bipush 100, 2) := by decide +kernel
theorem dX8_told_99 : decode cX8_told 99 = .ok (.sipush 129, 3) := by decide +kernel
theorem dX8_told_102 : decode cX8_told 102 = .ok (.invokestatic 71, 3) := by decide +kernel
theorem dX8_told_105 : decode cX8_told 105 = .ok (.ifCond .eq 15, 3) := by decide +kernel
theorem dX8_told_108 : decode cX8_told 108 = .ok (.aload_n 0, 1) := by decide +kernel
theorem dX8_told_109 : decode cX8_told 109 = .ok (.getfield 19, 3) := by decide +kernel
theorem dX8_told_112 : decode cX8_told 112 = .ok (.iload_n 1, 1) := by decide +kernel
theorem dX8_told_113 : decode cX8_told 113 = .ok (.bipush 100, 2) := by decide +kernel
theorem dX8_told_115 : decode cX8_told 115 = .ok (.isub, 1) := by decide +kernel
theorem dX8_told_116 : decode cX8_told 116 = .ok (.iaload, 1) := by decide +kernel
theorem dX8_told_117 : decode cX8_told 117 = .ok (.goto 5, 3) := by decide +kernel
theorem dX8_told_120 : decode cX8_told 120 = .ok (.bipush (-2), 2) := by decide +kernel
theorem dX8_told_122 : decode cX8_told 122 = .ok (.ireturn, 1) := by decide +kernel
