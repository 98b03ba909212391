theorem dX5_farther_27 : decode cX5_farther 27 = .ok (.iload_n 1, 1) := by decide +kernel
theorem dX5_farther_28 : decode cX5_farther 28 = .ok (.i2l, 1) := by decide +kernel
theorem dX5_farther_29 : decode cX5_farther 29 = .ok (.invokevirtual 36, 3) := by decide +kernel
theorem dX5_farther_32 : decode cX5_farther 32 = .ok (.aload_n 0, 1) := by decide +kernel
theorem dX5_farther_33 : decode cX5_farther 33 = .ok (.bipush 24, 2) := by decide +kernel
theorem dX5_farther_35 : decode cX5_farther 35 = .ok (.bipush 25, 2) := by decide +kernel
theorem dX5_farther_37 : decode cX5_farther 37 = .ok (.invokevirtual 39, 3) := by decide +kernel
theorem dX5_farther_40 : decode cX5_farther 40 = .ok (.ireturn, 1) := by decide +kernel
set_option maxRecDepth 20000 in
theorem ggX5_best_X5_isRegister : GoodIn wsX5_best wsX5_isRegister := goodIn_r _ [7, 8, 68, 69, 70, 71, 72, 73, 74] (by decide +kernel) (by decide +kernel)
set_option maxRecDepth 20000 in
theorem gX5_best_X5_isRegister : GoodIn wsX5_best (wsV RX5 73 RX5 yX5_isRegister wsX5_isRegister) := goodIn_app (goodIn_of _ (by decide +kernel)) ggX5_best_X5_isRegister
set_option maxRecDepth 20000 in
theorem ggX5_best_X5_fits : GoodIn wsX5_best wsX5_fits := goodIn_r _ [12, 2, 13, 14, 3, 4, 5, 6, 7, 8, 15, 16, 17, 18, 19, 20, 21, 22, 23, 24, 25, 26, 27, 28, 29, 30, 31, 32, 33, 34, 35, 36, 37, 38, 39, 40, 41, 42, 43, 44, 45, 46, 47, 48, 49, 50, 51, 52, 53, 54, 55, 56, 57, 58, 59, 60, 61, 62, 63, 68, 69, 70, 71, 72, 73, 74] (by decide +kernel) (by decide +kernel)
set_option maxRecDepth 20000 in
theorem gX5_best_X5_fits : GoodIn wsX5_best (wsV RX5 108 RX5 yX5_fits wsX5_fits) := goodIn_app (goodIn_of _ (by decide +kernel)) ggX5_best_X5_fits
set_option maxRecDepth 20000 in
theorem ggX5_best_X5_down : GoodIn wsX5_best wsX5_down := goodIn_r _ [18, 19, 20, 21, 6, 22, 23, 24, 25, 26, 27, 28, 29, 30, 31, 32, 33, 34, 35, 36, 37, 38, 39, 40, 41, 42, 43, 44, 45, 46, 47, 48, 49, 50, 51, 52, 53, 54, 55, 56, 57, 58, 68, 69, 70, 71, 72, 73, 74] (by decide +kernel) (by decide +kernel)
set_option maxRecDepth 20000 in
theorem gX5_best_X5_down : GoodIn wsX5_best (wsV RX5 96 RX5 yX5_down wsX5_down) := goodIn_app (goodIn_of _ (by decide +kernel)) ggX5_best_X5_down
set_option maxRecDepth 20000 in
theorem ggX5_best_X5_quotient : GoodIn wsX5_best wsX5_quotient := goodIn_r _ [62, 24, 63, 30, 31, 32, 6, 33, 68, 69, 70, 71, 72, 73, 74] (by decide +kernel) (by decide +kernel)
set_option maxRecDepth 20000 in
theorem gX5_best_X5_quotient : GoodIn wsX5_best (wsV RX5 100 RX5 yX5_quotient wsX5_quotient) := goodIn_app (goodIn_of _ (by decide +kernel)) ggX5_best_X5_quotient
set_option maxRecDepth 20000 in
theorem ggX5_best_X5_copy : GoodIn wsX5_best wsX5_copy := goodIn_r _ [54, 24, 68, 69, 70, 71, 72, 73, 74] (by decide +kernel) (by decide +kernel)
set_option maxRecDepth 20000 in
theorem gX5_best_X5_copy : GoodIn wsX5_best (wsV RX5 47 RX5 yX5_copy wsX5_copy) := goodIn_app (goodIn_of _ (by decide +kernel)) ggX5_best_X5_copy
set_option maxRecDepth 20000 in
theorem ggX5_best_X5_put : GoodIn wsX5_best wsX5_put := goodIn_r _ [28, 24, 29, 68, 69, 70, 71, 72, 73, 74] (by decide +kernel) (by decide +kernel)
set_option maxRecDepth 20000 in
theorem gX5_best_X5_put : GoodIn wsX5_best (wsV RX5 23 RX5 yX5_put wsX5_put) := goodIn_app (goodIn_of _ (by decide +kernel)) ggX5_best_X5_put
set_option maxRecDepth 20000 in
theorem ggX5_best_X5_plus : GoodIn wsX5_best wsX5_plus := goodIn_r _ [58, 24, 46, 68, 69, 70, 71, 72, 73, 74] (by decide +kernel) (by decide +kernel)
set_option maxRecDepth 20000 in
theorem gX5_best_X5_plus : GoodIn wsX5_best (wsV RX5 83 RX5 yX5_plus wsX5_plus) := goodIn_app (goodIn_of _ (by decide +kernel)) ggX5_best_X5_plus
set_option maxRecDepth 20000 in
theorem ggX5_best_X5_compare : GoodIn wsX5_best wsX5_compare := goodIn_r _ [41, 24, 68, 69, 70, 71, 72, 73, 74] (by decide +kernel) (by decide +kernel)
set_option maxRecDepth 20000 in
theorem gX5_best_X5_compare : GoodIn wsX5_best (wsV RX5 39 RX5 yX5_compare wsX5_compare) := goodIn_app (goodIn_of _ (by decide +kernel)) ggX5_best_X5_compare
set_option maxRecDepth 20000 in
theorem ggX5_best_X5_lessen : GoodIn wsX5_best wsX5_lessen := goodIn_r _ [45, 24, 46, 68, 69, 70, 71, 72, 73, 74] (by decide +kernel) (by decide +kernel)
set_option maxRecDepth 20000 in
theorem gX5_best_X5_lessen : GoodIn wsX5_best (wsV RX5 43 RX5 yX5_lessen wsX5_lessen) := goodIn_app (goodIn_of _ (by decide +kernel)) ggX5_best_X5_lessen
set_option maxRecDepth 20000 in
theorem ggX5_best_X5_farther : GoodIn wsX5_best wsX5_farther := goodIn_r _ [67, 51, 52, 53, 6, 54, 24, 34, 35, 36, 37, 29, 38, 39, 40, 41, 68, 69, 70, 71, 72, 73, 74] (by decide +kernel) (by decide +kernel)
set_option maxRecDepth 20000 in
theorem gX5_best_X5_farther : GoodIn wsX5_best (wsV RX5 124 RX5 yX5_farther wsX5_farther) := goodIn_app (goodIn_of _ (by decide +kernel)) ggX5_best_X5_farther
theorem dX5_best_0 : decode cX5_best 0 = .ok (.aload_n 0, 1) := by decide +kernel
theorem dX5_best_1 : decode cX5_best 1 = .ok (.iload_n 1, 1) := by decide +kernel
theorem dX5_best_2 : decode cX5_best 2 = .ok (.invokevirtual 73, 3) := by decide +kernel
theorem dX5_best_5 : decode cX5_best 5 = .ok (.ifCond .eq 32, 3) := by decide +kernel
theorem dX5_best_8 : decode cX5_best 8 = .ok (.iload_n 2, 1) := by decide +kernel
theorem dX5_best_9 : decode cX5_best 9 = .ok (.iconst 1, 1) := by decide +kernel
theorem dX5_best_10 : decode cX5_best 10 = .ok (.if_icmp .lt 27, 3) := by decide +kernel
theorem dX5_best_13 : decode cX5_best 13 = .ok (.iload_n 2, 1) := by decide +kernel
theorem dX5_best_14 : decode cX5_best 14 = .ok (.sipush 1000, 3) := by decide +kernel
theorem dX5_best_17 : decode cX5_best 17 = .ok (.if_icmp .gt 20, 3) := by decide +kernel
theorem dX5_best_20 : decode cX5_best 20 = .ok (.iload_n 3, 1) := by decide +kernel
theorem dX5_best_21 : decode cX5_best 21 = .ok (.ifCond .lt 16, 3) := by decide +kernel
theorem dX5_best_24 : decode cX5_best 24 = .ok (.iload_n 3, 1) := by decide +kernel
theorem dX5_best_25 : decode cX5_best 25 = .ok (.iconst 1, 1) := by decide +kernel
theorem dX5_best_26 : decode cX5_best 26 = .ok (.if_icmp .gt 11, 3) := by decide +kernel
theorem dX5_best_29 : decode cX5_best 29 = .ok (.aload_n 0, 1) := by decide +kernel
theorem dX5_best_30 : decode cX5_best 30 = .ok (.iload_n 1, 1) := by decide +kernel
theorem dX5_best_31 : decode cX5_best 31 = .ok (.invokevirtual 108, 3) := by decide +kernel
theorem dX5_best_34 : decode cX5_best 34 = .ok (.ifCond .ne 7, 3) := by decide +kernel
theorem dX5_best_37 : decode cX5_best 37 = .ok (.ldc2_w 122, 3) := by decide +kernel
theorem dX5_best_40 : decode cX5_best 40 = .ok (.lreturn, 1) := by decide +kernel
theorem dX5_best_41 : decode cX5_best 41 = .ok (.aload_n 0, 1) := by decide +kernel
theorem dX5_best_42 : decode cX5_best 42 = .ok (.aload_n 0, 1) := by decide +kernel
theorem dX5_best_43 : decode cX5_best 43 = .ok (.iload_n 1, 1) := by decide +kernel
theorem dX5_best_44 : decode cX5_best 44 = .ok (.bipush 8, 2) := by decide +kernel
theorem dX5_best_46 : decode cX5_best 46 = .ok (.iload_n 1, 1) := by decide +kernel
theorem dX5_best_47 : decode cX5_best 47 = .ok (.iadd, 1) := by decide +kernel
theorem dX5_best_48 : decode cX5_best 48 = .ok (.aload_n 0, 1) := by decide +kernel
theorem dX5_best_49 : decode cX5_best 49 = .ok (.getfield 13, 3) := by decide +kernel
theorem dX5_best_52 : decode cX5_best 52 = .ok (.iload_n 1, 1) := by decide +kernel
theorem dX5_best_53 : decode cX5_best 53 = .ok (.iaload, 1) := by decide +kernel
theorem dX5_best_54 : decode cX5_best 54 = .ok (.invokevirtual 96, 3) := by decide +kernel
theorem dX5_best_57 : decode cX5_best 57 = .ok (.invokevirtual 100, 3) := by decide +kernel
theorem dX5_best_60 : decode cX5_best 60 = .ok (.lstore 4, 2) := by decide +kernel
theorem dX5_best_62 : decode cX5_best 62 = .ok (.aload_n 0, 1) := by decide +kernel
theorem dX5_best_63 : decode cX5_best 63 = .ok (.bipush 21, 2) := by decide +kernel
theorem dX5_best_65 : decode cX5_best 65 = .ok (.bipush 16, 2) := by decide +kernel
theorem dX5_best_67 : decode cX5_best 67 = .ok (.invokevirtual 47, 3) := by decide +kernel
theorem dX5_best_70 : decode cX5_best 70 = .ok (.aload_n 0, 1) := by decide +kernel
theorem dX5_best_71 : decode cX5_best 71 = .ok (.bipush 8, 2) := by decide +kernel
theorem dX5_best_73 : decode cX5_best 73 = .ok (.iload_n 1, 1) := by decide +kernel
theorem dX5_best_74 : decode cX5_best 74 = .ok (.iadd, 1) := by decide +kernel
theorem dX5_best_75 : decode cX5_best 75 = .ok (.bipush 17, 2) := by decide +kernel
theorem dX5_best_77 : decode cX5_best 77 = .ok (.invokevirtual 47, 3) := by decide +kernel
theorem dX5_best_80 : decode cX5_best 80 = .ok (.aload_n 0, 1) := by decide +kernel
theorem dX5_best_81 : decode cX5_best 81 = .ok (.bipush 19, 2) := by decide +kernel
theorem dX5_best_83 : decode cX5_best 83 = .ok (.lconst 0, 1) := by decide +kernel
theorem dX5_best_84 : decode cX5_best 84 = .ok (.invokevirtual 23, 3) := by decide +kernel
theorem dX5_best_87 : decode cX5_best 87 = .ok (.lconst 0, 1) := by decide +kernel
theorem dX5_best_88 : decode cX5_best 88 = .ok (.lstore 6, 2) := by decide +kernel
theorem dX5_best_90 : decode cX5_best 90 = .ok (.lconst 0, 1) := by decide +kernel
theorem dX5_best_91 : decode cX5_best 91 = .ok (.lstore 8, 2) := by decide +kernel
theorem dX5_best_93 : decode cX5_best 93 = .ok (.lconst 0, 1) := by decide +kernel
theorem dX5_best_94 : decode cX5_best 94 = .ok (.lstore 10, 2) := by decide +kernel
theorem dX5_best_96 : decode cX5_best 96 = .ok (.iconst 1, 1) := by decide +kernel
theorem dX5_best_97 : decode cX5_best 97 = .ok (.istore 12, 2) := by decide +kernel
theorem dX5_best_99 : decode cX5_best 99 = .ok (.iload 12, 2) := by decide +kernel
theorem dX5_best_101 : decode cX5_best 101 = .ok (.iload_n 2, 1) := by decide +kernel
theorem dX5_best_102 : decode cX5_best 102 = .ok (.if_icmp .gt 134, 3) := by decide +kernel
theorem dX5_best_105 : decode cX5_best 105 = .ok (.aload_n 0, 1) := by decide +kernel
theorem dX5_best_106 : decode cX5_best 106 = .ok (.bipush 19, 2) := by decide +kernel
theorem dX5_best_108 : decode cX5_best 108 = .ok (.bipush 16, 2) := by decide +kernel
theorem dX5_best_110 : decode cX5_best 110 = .ok (.invokevirtual 83, 3) := by decide +kernel
theorem dX5_best_113 : decode cX5_best 113 = .ok (.aload_n 0, 1) := by decide +kernel
theorem dX5_best_114 : decode cX5_best 114 = .ok (.bipush 19, 2) := by decide +kernel
theorem dX5_best_116 : decode cX5_best 116 = .ok (.bipush 17, 2) := by decide +kernel
theorem dX5_best_118 : decode cX5_best 118 = .ok (.invokevirtual 39, 3) := by decide +kernel
theorem dX5_best_121 : decode cX5_best 121 = .ok (.ifCond .lt 17, 3) := by decide +kernel
theorem dX5_best_124 : decode cX5_best 124 = .ok (.aload_n 0, 1) := by decide +kernel
theorem dX5_best_125 : decode cX5_best 125 = .ok (.bipush 19, 2) := by decide +kernel
theorem dX5_best_127 : decode cX5_best 127 = .ok (.bipush 17, 2) := by decide +kernel
theorem dX5_best_129 : decode cX5_best 129 = .ok (.invokevirtual 43, 3) := by decide +kernel
theorem dX5_best_132 : decode cX5_best 132 = .ok (.lload 6, 2) := by decide +kernel
theorem dX5_best_134 : decode cX5_best 134 = .ok (.lconst 1, 1) := by decide +kernel
theorem dX5_best_135 : decode cX5_best 135 = .ok (.ladd, 1) := by decide +kernel
theorem dX5_best_136 : decode cX5_best 136 = .ok (.lstore 6, 2) := by decide +kernel
theorem dX5_best_138 : decode cX5_best 138 = .ok (.iconst 0, 1) := by decide +kernel
theorem dX5_best_139 : decode cX5_best 139 = .ok (.istore 13, 2) := by decide +kernel
theorem dX5_best_141 : decode cX5_best 141 = .ok (.iload 13, 2) := by decide +kernel
theorem dX5_best_143 : decode cX5_best 143 = .ok (.iconst 2, 1) := by decide +kernel
theorem dX5_best_144 : decode cX5_best 144 = .ok (.if_icmp .ge 86, 3) := by decide +kernel
theorem dX5_best_147 : decode cX5_best 147 = .ok (.aload_n 0, 1) := by decide +kernel
theorem dX5_best_148 : decode cX5_best 148 = .ok (.bipush 19, 2) := by decide +kernel
theorem dX5_best_150 : decode cX5_best 150 = .ok (.bipush 18, 2) := by decide +kernel
theorem dX5_best_152 : decode cX5_best 152 = .ok (.invokevirtual 47, 3) := by decide +kernel
theorem dX5_best_155 : decode cX5_best 155 = .ok (.iload 13, 2) := by decide +kernel
theorem dX5_best_157 : decode cX5_best 157 = .ok (.iconst 1, 1) := by decide +kernel
theorem dX5_best_158 : decode cX5_best 158 = .ok (.if_icmp .ne 19, 3) := by decide +kernel
theorem dX5_best_161 : decode cX5_best 161 = .ok (.aload_n 0, 1) := by decide +kernel
theorem dX5_best_162 : decode cX5_best 162 = .ok (.bipush 17, 2) := by decide +kernel
theorem dX5_best_164 : decode cX5_best 164 = .ok (.bipush 18, 2) := by decide +kernel
theorem dX5_best_166 : decode cX5_best 166 = .ok (.invokevirtual 47, 3) := by decide +kernel
theorem dX5_best_169 : decode cX5_best 169 = .ok (.aload_n 0, 1) := by decide +kernel
theorem dX5_best_170 : decode cX5_best 170 = .ok (.bipush 18, 2) := by decide +kernel
theorem dX5_best_172 : decode cX5_best 172 = .ok (.bipush 19, 2) := by decide +kernel
theorem dX5_best_174 : decode cX5_best 174 = .ok (.invokevirtual 43, 3) := by decide +kernel
theorem dX5_best_177 : decode cX5_best 177 = .ok (.lload 10, 2) := by decide +kernel
theorem dX5_best_179 : decode cX5_best 179 = .ok (.lconst 0, 1) := by decide +kernel
theorem dX5_best_180 : decode cX5_best 180 = .ok (.lcmp, 1) := by decide +kernel
theorem dX5_best_181 : decode cX5_best 181 = .ok (.ifCond .eq 15, 3) := by decide +kernel
theorem dX5_best_184 : decode cX5_best 184 = .ok (.aload_n 0, 1) := by decide +kernel
theorem dX5_best_185 : decode cX5_best 185 = .ok (.iload 12, 2) := by decide +kernel
theorem dX5_best_187 : decode cX5_best 187 = .ok (.lload 10, 2) := by decide +kernel
theorem dX5_best_189 : decode cX5_best 189 = .ok (.l2i, 1) := by decide +kernel
theorem dX5_best_190 : decode cX5_best 190 = .ok (.invokevirtual 124, 3) := by decide +kernel
theorem dX5_best_193 : decode cX5_best 193 = .ok (.ifCond .ge 31, 3) := by decide +kernel
theorem dX5_best_196 : decode cX5_best 196 = .ok (.aload_n 0, 1) := by decide +kernel
theorem dX5_best_197 : decode cX5_best 197 = .ok (.bipush 18, 2) := by decide +kernel
theorem dX5_best_199 : decode cX5_best 199 = .ok (.bipush 26, 2) := by decide +kernel
theorem dX5_best_201 : decode cX5_best 201 = .ok (.invokevirtual 47, 3) := by decide +kernel
theorem dX5_best_204 : decode cX5_best 204 = .ok (.lload 4, 2) := by decide +kernel
theorem dX5_best_206 : decode cX5_best 206 = .ok (.iload 12, 2) := by decide +kernel
theorem dX5_best_208 : decode cX5_best 208 = .ok (.i2l, 1) := by decide +kernel
theorem dX5_best_209 : decode cX5_best 209 = .ok (.lmul, 1) := by decide +kernel
theorem dX5_best_210 : decode cX5_best 210 = .ok (.lload 6, 2) := by decide +kernel
theorem dX5_best_212 : decode cX5_best 212 = .ok (.ladd, 1) := by decide +kernel
theorem dX5_best_213 : decode cX5_best 213 = .ok (.iload 13, 2) := by decide +kernel
theorem dX5_best_215 : decode cX5_best 215 = .ok (.i2l, 1) := by decide +kernel
theorem dX5_best_216 : decode cX5_best 216 = .ok (.ladd, 1) := by decide +kernel
theorem dX5_best_217 : decode cX5_best 217 = .ok (.lstore 8, 2) := by decide +kernel
theorem dX5_best_219 : decode cX5_best 219 = .ok (.iload 12, 2) := by decide +kernel
theorem dX5_best_221 : decode cX5_best 221 = .ok (.i2l, 1) := by decide +kernel
theorem dX5_best_222 : decode cX5_best 222 = .ok (.lstore 10, 2) := by decide +kernel
theorem dX5_best_224 : decode cX5_best 224 = .ok (.iinc 13 1, 3) := by decide +kernel
theorem dX5_best_227 : decode cX5_best 227 = .ok (.goto (-86), 3) := by decide +kernel
theorem dX5_best_230 : decode cX5_best 230 = .ok (.iinc 12 1, 3) := by decide +kernel
theorem dX5_best_233 : decode cX5_best 233 = .ok (.goto (-134), 3) := by decide +kernel
theorem dX5_best_236 : decode cX5_best 236 = .ok (.iload_n 3, 1) := by decide +kernel
theorem dX5_best_237 : decode cX5_best 237 = .ok (.ifCond .ne 8, 3) := by decide +kernel
theorem dX5_best_240 : decode cX5_best 240 = .ok (.lload 8, 2) := by decide +kernel
theorem dX5_best_242 : decode cX5_best 242 = .ok (.goto 5, 3) := by decide +kernel
theorem dX5_best_245 : decode cX5_best 245 = .ok (.lload 10, 2) := by decide +kernel
theorem dX5_best_247 : decode cX5_best 247 = .ok (.lreturn, 1) := by decide +kernel
theorem dJ6_numberOfLeadingZeros_0f7a4_0 : decode cJ6_numberOfLeadingZeros_0f7a4 0 = .ok (.iload_n 0, 1) := by decide +kernel
theorem dJ6_numberOfLeadingZeros_0f7a4_1 : decode cJ6_numberOfLeadingZeros_0f7a4 1 = .ok (.ifCond .gt 14, 3) := by decide +kernel
theorem dJ6_numberOfLeadingZeros_0f7a4_4 : decode cJ6_numberOfLeadingZeros_0f7a4 4 = .ok (.iload_n 0, 1) := by decide +kernel
theorem dJ6_numberOfLeadingZeros_0f7a4_5 : decode cJ6_numberOfLeadingZeros_0f7a4 5 = .ok (.ifCond .ne 8, 3) := by decide +kernel
theorem dJ6_numberOfLeadingZeros_0f7a4_8 : decode cJ6_numberOfLeadingZeros_0f7a4 8 = .ok (.bipush 32, 2) := by decide +kernel
theorem dJ6_numberOfLeadingZeros_0f7a4_10 : decode cJ6_numberOfLeadingZeros_0f7a4 10 = .ok (.goto 4, 3) := by decide +kernel
theorem dJ6_numberOfLeadingZeros_0f7a4_13 : decode cJ6_numberOfLeadingZeros_0f7a4 13 = .ok (.iconst 0, 1) := by decide +kernel
theorem dJ6_numberOfLeadingZeros_0f7a4_14 : decode cJ6_numberOfLeadingZeros_0f7a4 14 = .ok (.ireturn, 1) := by decide +kernel
theorem dJ6_numberOfLeadingZeros_0f7a4_15 : decode cJ6_numberOfLeadingZeros_0f7a4 15 = .ok (.bipush 31, 2) := by decide +kernel
theorem dJ6_numberOfLeadingZeros_0f7a4_17 : decode cJ6_numberOfLeadingZeros_0f7a4 17 = .ok (.istore_n 1, 1) := by decide +kernel
theorem dJ6_numberOfLeadingZeros_0f7a4_18 : decode cJ6_numberOfLeadingZeros_0f7a4 18 = .ok (.iload_n 0, 1) := by decide +kernel
theorem dJ6_numberOfLeadingZeros_0f7a4_19 : decode cJ6_numberOfLeadingZeros_0f7a4 19 = .ok (.ldc_w 264, 3) := by decide +kernel
theorem dJ6_numberOfLeadingZeros_0f7a4_22 : decode cJ6_numberOfLeadingZeros_0f7a4 22 = .ok (.if_icmp .lt 11, 3) := by decide +kernel
theorem dJ6_numberOfLeadingZeros_0f7a4_25 : decode cJ6_numberOfLeadingZeros_0f7a4 25 = .ok (.iinc 1 (-16), 3) := by decide +kernel
theorem dJ6_numberOfLeadingZeros_0f7a4_28 : decode cJ6_numberOfLeadingZeros_0f7a4 28 = .ok (.iload_n 0, 1) := by decide +kernel
theorem dJ6_numberOfLeadingZeros_0f7a4_29 : decode cJ6_numberOfLeadingZeros_0f7a4 29 = .ok (.bipush 16, 2) := by decide +kernel
theorem dJ6_numberOfLeadingZeros_0f7a4_31 : decode cJ6_numberOfLeadingZeros_0f7a4 31 = .ok (.iushr, 1) := by decide +kernel
theorem dJ6_numberOfLeadingZeros_0f7a4_32 : decode cJ6_numberOfLeadingZeros_0f7a4 32 = .ok (.istore_n 0, 1) := by decide +kernel
theorem dJ6_numberOfLeadingZeros_0f7a4_33 : decode cJ6_numberOfLeadingZeros_0f7a4 33 = .ok (.iload_n 0, 1) := by decide +kernel
theorem dJ6_numberOfLeadingZeros_0f7a4_34 : decode cJ6_numberOfLeadingZeros_0f7a4 34 = .ok (.sipush 256, 3) := by decide +kernel
theorem dJ6_numberOfLeadingZeros_0f7a4_37 : decode cJ6_numberOfLeadingZeros_0f7a4 37 = .ok (.if_icmp .lt 11, 3) := by decide +kernel
theorem dJ6_numberOfLeadingZeros_0f7a4_40 : decode cJ6_numberOfLeadingZeros_0f7a4 40 = .ok (.iinc 1 (-8), 3) := by decide +kernel
theorem dJ6_numberOfLeadingZeros_0f7a4_43 : decode cJ6_numberOfLeadingZeros_0f7a4 43 = .ok (.iload_n 0, 1) := by decide +kernel
theorem dJ6_numberOfLeadingZeros_0f7a4_44 : decode cJ6_numberOfLeadingZeros_0f7a4 44 = .ok (.bipush 8, 2) := by decide +kernel
theorem dJ6_numberOfLeadingZeros_0f7a4_46 : decode cJ6_numberOfLeadingZeros_0f7a4 46 = .ok (.iushr, 1) := by decide +kernel
theorem dJ6_numberOfLeadingZeros_0f7a4_47 : decode cJ6_numberOfLeadingZeros_0f7a4 47 = .ok (.istore_n 0, 1) := by decide +kernel
theorem dJ6_numberOfLeadingZeros_0f7a4_48 : decode cJ6_numberOfLeadingZeros_0f7a4 48 = .ok (.iload_n 0, 1) := by decide +kernel
theorem dJ6_numberOfLeadingZeros_0f7a4_49 : decode cJ6_numberOfLeadingZeros_0f7a4 49 = .ok (.bipush 16, 2) := by decide +kernel
theorem dJ6_numberOfLeadingZeros_0f7a4_51 : decode cJ6_numberOfLeadingZeros_0f7a4 51 = .ok (.if_icmp .lt 10, 3) := by decide +kernel
theorem dJ6_numberOfLeadingZeros_0f7a4_54 : decode cJ6_numberOfLeadingZeros_0f7a4 54 = .ok (.iinc 1 (-4), 3) := by decide +kernel
theorem dJ6_numberOfLeadingZeros_0f7a4_57 : decode cJ6_numberOfLeadingZeros_0f7a4 57 = .ok (.iload_n 0, 1) := by decide +kernel
theorem dJ6_numberOfLeadingZeros_0f7a4_58 : decode cJ6_numberOfLeadingZeros_0f7a4 58 = .ok (.iconst 4, 1) := by decide +kernel
theorem dJ6_numberOfLeadingZeros_0f7a4_59 : decode cJ6_numberOfLeadingZeros_0f7a4 59 = .ok (.iushr, 1) := by decide +kernel
theorem dJ6_numberOfLeadingZeros_0f7a4_60 : decode cJ6_numberOfLeadingZeros_0f7a4 60 = .ok (.istore_n 0, 1) := by decide +kernel
theorem dJ6_numberOfLeadingZeros_0f7a4_61 : decode cJ6_numberOfLeadingZeros_0f7a4 61 = .ok (.iload_n 0, 1) := by decide +kernel
theorem dJ6_numberOfLeadingZeros_0f7a4_62 : decode cJ6_numberOfLeadingZeros_0f7a4 62 = .ok (.iconst 4, 1) := by decide +kernel
theorem dJ6_numberOfLeadingZeros_0f7a4_63 : decode cJ6_numberOfLeadingZeros_0f7a4 63 = .ok (.if_icmp .lt 10, 3) := by decide +kernel
theorem dJ6_numberOfLeadingZeros_0f7a4_66 : decode cJ6_numberOfLeadingZeros_0f7a4 66 = .ok (.iinc 1 (-2), 3) := by decide +kernel
theorem dJ6_numberOfLeadingZeros_0f7a4_69 : decode cJ6_numberOfLeadingZeros_0f7a4 69 = .ok (.iload_n 0, 1) := by decide +kernel
theorem dJ6_numberOfLeadingZeros_0f7a4_70 : decode cJ6_numberOfLeadingZeros_0f7a4 70 = .ok (.iconst 2, 1) := by decide +kernel
theorem dJ6_numberOfLeadingZeros_0f7a4_71 : decode cJ6_numberOfLeadingZeros_0f7a4 71 = .ok (.iushr, 1) := by decide +kernel
theorem dJ6_numberOfLeadingZeros_0f7a4_72 : decode cJ6_numberOfLeadingZeros_0f7a4 72 = .ok (.istore_n 0, 1) := by decide +kernel
theorem dJ6_numberOfLeadingZeros_0f7a4_73 : decode cJ6_numberOfLeadingZeros_0f7a4 73 = .ok (.iload_n 1, 1) := by decide +kernel
theorem dJ6_numberOfLeadingZeros_0f7a4_74 : decode cJ6_numberOfLeadingZeros_0f7a4 74 = .ok (.iload_n 0, 1) := by decide +kernel
theorem dJ6_numberOfLeadingZeros_0f7a4_75 : decode cJ6_numberOfLeadingZeros_0f7a4 75 = .ok (.iconst 1, 1) := by decide +kernel
theorem dJ6_numberOfLeadingZeros_0f7a4_76 : decode cJ6_numberOfLeadingZeros_0f7a4 76 = .ok (.iushr, 1) := by decide +kernel
theorem dJ6_numberOfLeadingZeros_0f7a4_77 : decode cJ6_numberOfLeadingZeros_0f7a4 77 = .ok (.isub, 1) := by decide +kernel
theorem dJ6_numberOfLeadingZeros_0f7a4_78 : decode cJ6_numberOfLeadingZeros_0f7a4 78 = .ok (.ireturn, 1) := by decide +kernel
theorem dJ6_signum_0f7a4_0 : decode cJ6_signum_0f7a4 0 = .ok (.iload_n 0, 1) := by decide +kernel
theorem dJ6_signum_0f7a4_1 : decode cJ6_signum_0f7a4 1 = .ok (.bipush 31, 2) := by decide +kernel
theorem dJ6_signum_0f7a4_3 : decode cJ6_signum_0f7a4 3 = .ok (.ishr, 1) := by decide +kernel
theorem dJ6_signum_0f7a4_4 : decode cJ6_signum_0f7a4 4 = .ok (.iload_n 0, 1) := by decide +kernel
theorem dJ6_signum_0f7a4_5 : decode cJ6_signum_0f7a4 5 = .ok (.ineg, 1) := by decide +kernel
theorem dJ6_signum_0f7a4_6 : decode cJ6_signum_0f7a4 6 = .ok (.bipush 31, 2) := by decide +kernel
theorem dJ6_signum_0f7a4_8 : decode cJ6_signum_0f7a4 8 = .ok (.iushr, 1) := by decide +kernel
theorem dJ6_signum_0f7a4_9 : decode cJ6_signum_0f7a4 9 = .ok (.ior, 1) := by decide +kernel
theorem dJ6_signum_0f7a4_10 : decode cJ6_signum_0f7a4 10 = .ok (.ireturn, 1) := by decide +kernel
theorem dJ9_abs_067f4_0 : decode cJ9_abs_067f4 0 = .ok (.lload_n 0, 1) := by decide +kernel
theorem dJ9_abs_067f4_1 : decode cJ9_abs_067f4 1 = .ok (.lconst 0, 1) := by decide +kernel
theorem dJ9_abs_067f4_2 : decode cJ9_abs_067f4 2 = .ok (.lcmp, 1) := by decide +kernel
theorem dJ9_abs_067f4_3 : decode cJ9_abs_067f4 3 = .ok (.ifCond .ge 8, 3) := by decide +kernel
theorem dJ9_abs_067f4_6 : decode cJ9_abs_067f4 6 = .ok (.lload_n 0, 1) := by decide +kernel
theorem dJ9_abs_067f4_7 : decode cJ9_abs_067f4 7 = .ok (.lneg, 1) := by decide +kernel
theorem dJ9_abs_067f4_8 : decode cJ9_abs_067f4 8 = .ok (.goto 4, 3) := by decide +kernel
theorem dJ9_abs_067f4_11 : decode cJ9_abs_067f4 11 = .ok (.lload_n 0, 1) := by decide +kernel
theorem dJ9_abs_067f4_12 : decode cJ9_abs_067f4 12 = .ok (.lreturn, 1) := by decide +kernel
theorem dJ9_max_7cf53_0 : decode cJ9_max_7cf53 0 = .ok (.iload_n 0, 1) := by decide +kernel
theorem dJ9_max_7cf53_1 : decode cJ9_max_7cf53 1 = .ok (.iload_n 1, 1) := by decide +kernel
theorem dJ9_max_7cf53_2 : decode cJ9_max_7cf53 2 = .ok (.if_icmp .lt 7, 3) := by decide +kernel
theorem dJ9_max_7cf53_5 : decode cJ9_max_7cf53 5 = .ok (.iload_n 0, 1) := by decide +kernel
theorem dJ9_max_7cf53_6 : decode cJ9_max_7cf53 6 = .ok (.goto 4, 3) := by decide +kernel
theorem dJ9_max_7cf53_9 : decode cJ9_max_7cf53 9 = .ok (.iload_n 1, 1) := by decide +kernel
theorem dJ9_max_7cf53_10 : decode cJ9_max_7cf53 10 = .ok (.ireturn, 1) := by decide +kernel
theorem dJ9_min_7cf53_0 : decode cJ9_min_7cf53 0 = .ok (.iload_n 0, 1) := by decide +kernel
theorem dJ9_min_7cf53_1 : decode cJ9_min_7cf53 1 = .ok (.iload_n 1, 1) := by decide +kernel
theorem dJ9_min_7cf53_2 : decode cJ9_min_7cf53 2 = .ok (.if_icmp .gt 7, 3) := by decide +kernel
theorem dJ9_min_7cf53_5 : decode cJ9_min_7cf53 5 = .ok (.iload_n 0, 1) := by decide +kernel
theorem dJ9_min_7cf53_6 : decode cJ9_min_7cf53 6 = .ok (.goto 4, 3) := by decide +kernel
theorem dJ9_min_7cf53_9 : decode cJ9_min_7cf53 9 = .ok (.iload_n 1, 1) := by decide +kernel
theorem dJ9_min_7cf53_10 : decode cJ9_min_7cf53 10 = .ok (.ireturn, 1) := by decide +kernel
theorem dL_cell_0 : decode cL_cell 0 = .ok (.iload_n 1, 1) := by decide +kernel
theorem dL_cell_1 : decode cL_cell 1 = .ok (.aload_n 0, 1) := by decide +kernel
theorem dL_cell_2 : decode cL_cell 2 = .ok (.arraylength, 1) := by decide +kernel
theorem dL_cell_3 : decode cL_cell 3 = .ok (.if_icmp .ge 9, 3) := by decide +kernel
theorem dL_cell_6 : decode cL_cell 6 = .ok (.aload_n 0, 1) := by decide +kernel
theorem dL_cell_7 : decode cL_cell 7 = .ok (.iload_n 1, 1) := by decide +kernel
theorem dL_cell_8 : decode cL_cell 8 = .ok (.iaload, 1) := by decide +kernel
theorem dL_cell_9 : decode cL_cell 9 = .ok (.goto 4, 3) := by decide +kernel
theorem dL_cell_12 : decode cL_cell 12 = .ok (.iconst 0, 1) := by decide +kernel
theorem dL_cell_13 : decode cL_cell 13 = .ok (.ireturn, 1) := by decide +kernel
abbrev vwCl : List vw_C := [(RX0, TX0, 3), (RX1, TX1, 2), (RX2, TX2, 11), (RX3, TX3, 3), (RX4, TX4, 14), (RX5, TX5, 7)]
