theorem dX5_farther_27 : decode cX5_farther 27 = .ok (.iload_n 1, 1) := by decide +kernel
theorem dX5_farther_28 : decode cX5_farther 28 = .ok (.i2l, 1) := by decide +kernel
theorem dX5_farther_29 : decode cX5_farther 29 = .ok (.invokevirtual 36, 3) := by decide +kernel
theorem dX5_farther_32 : decode cX5_farther 32 = .ok (.aload_n 0, 1) := by decide +kernel
theorem dX5_farther_33 : decode cX5_farther 33 = .ok (.bipush 24, 2) := by decide +kernel
theorem dX5_farther_35 : decode cX5_farther 35 = .ok (.bipush 25, 2) := by decide +kernel
theorem dX5_farther_37 : decode cX5_farther 37 = .ok (.invokevirtual 39, 3) := by decide +kernel
theorem dX5_farther_40 : decode cX5_farther 40 = .ok (.ireturn, 1) := by decide +kernel
set_option maxRecDepth 20000 in
theorem ggX5_best_X5_isRegister : GoodIn wsX5_best wsX5_isRegister := goodIn_r _ [7, 8, 68, 69, 70, 71, 72, 73, 74] (by decide +kernel) (by decide +kernel)
set_option maxRecDepth 20000 in
theorem gX5_best_X5_isRegister : GoodIn wsX5_best (wsV RX5 73 RX5 yX5_isRegister wsX5_isRegister) := goodIn_app (goodIn_of _ (by decide +kernel)) ggX5_best_X5_isRegister
set_option maxRecDepth 20000 in
theorem ggX5_best_X5_fits : GoodIn wsX5_best wsX5_fits := goodIn_r _ [12, 2, 13, 14, 3, 4, 5, 6, 7, 8, 15, 16, 17, 18, 19, 20, 21, 22, 23, 24, 25, 26, 27, 28, 29, 30, 31, 32, 33, 34, 35, 36, 37, 38, 39, 40, 41, 42, 43, 44, 45, 46, 47, 48, 49, 50, 51, 52, 53, 54, 55, 56, 57, 58, 59, 60, 61, 62, 63, 68, 69, 70, 71, 72, 73, 74] (by decide +kernel) (by decide +kernel)
set_option maxRecDepth 20000 in
theorem gX5_best_X5_fits : GoodIn wsX5_best (wsV RX5 108 RX5 yX5_fits wsX5_fits) := goodIn_app (goodIn_of _ (by decide +kernel)) ggX5_best_X5_fits
set_option maxRecDepth 20000 in
theorem ggX5_best_X5_down : GoodIn wsX5_best wsX5_down := goodIn_r _ [18, 19, 20, 21, 6, 22, 23, 24, 25, 26, 27, 28, 29, 30, 31, 32, 33, 34, 35, 36, 37, 38, 39, 40, 41, 42, 43, 44, 45, 46, 47, 48, 49, 50, 51, 52, 53, 54, 55, 56, 57, 58, 68, 69, 70, 71, 72, 73, 74] (by decide +kernel) (by decide +kernel)
set_option maxRecDepth 20000 in
theorem gX5_best_X5_down : GoodIn wsX5_best (wsV RX5 96 RX5 yX5_down wsX5_down) := goodIn_app (goodIn_of _ (by decide +kernel)) ggX5_best_X5_down
set_option maxRecDepth 20000 in
theorem ggX5_best_X5_quotient : GoodIn wsX5_best wsX5_quotient := goodIn_r _ [62, 24, 63, 30, 31, 32, 6, 33, 68, 69, 70, 71, 72, 73, 74] (by decide +kernel) (by decide +kernel)
set_option maxRecDepth 20000 in
theorem gX5_best_X5_quotient : GoodIn wsX5_best (wsV RX5 100 RX5 yX5_quotient wsX5_quotient) := goodIn_app (goodIn_of _ (by decide +kernel)) ggX5_best_X5_quotient
set_option maxRecDepth 20000 in
theorem ggX5_best_X5_copy : GoodIn wsX5_best wsX5_copy := goodIn_r _ [54, 24, 68, 69, 70, 71, 72, 73, 74] (by decide +kernel) (by decide +kernel)
set_option maxRecDepth 20000 in
theorem gX5_best_X5_copy : GoodIn wsX5_best (wsV RX5 47 RX5 yX5_copy wsX5_copy) := goodIn_app (goodIn_of _ (by decide +kernel)) ggX5_best_X5_copy
set_option maxRecDepth 20000 in
theorem ggX5_best_X5_put : GoodIn wsX5_best wsX5_put := goodIn_r _ [28, 24, 29, 68, 69, 70, 71, 72, 73, 74] (by decide +kernel) (by decide +kernel)
set_option maxRecDepth 20000 in
theorem gX5_best_X5_put : GoodIn wsX5_best (wsV RX5 23 RX5 yX5_put wsX5_put) := goodIn_app (goodIn_of _ (by decide +kernel)) ggX5_best_X5_put
set_option maxRecDepth 20000 in
theorem ggX5_best_X5_plus : GoodIn wsX5_best wsX5_plus := goodIn_r _ [58, 24, 46, 68, 69, 70, 71, 72, 73, 74] (by decide +kernel) (by decide +kernel)
set_option maxRecDepth 20000 in
theorem gX5_best_X5_plus : GoodIn wsX5_best (wsV RX5 83 RX5 yX5_plus wsX5_plus) := goodIn_app (goodIn_of _ (by decide +kernel)) ggX5_best_X5_plus
set_option maxRecDepth 20000 in
theorem ggX5_best_X5_compare : GoodIn wsX5_best wsX5_compare := goodIn_r _ [41, 24, 68, 69, 70, 71, 72, 73, 74] (by decide +kernel) (by decide +kernel)
set_option maxRecDepth 20000 in
theorem gX5_best_X5_compare : GoodIn wsX5_best (wsV RX5 39 RX5 yX5_compare wsX5_compare) := goodIn_app (goodIn_of _ (by decide +kernel)) ggX5_best_X5_compare
set_option maxRecDepth 20000 in
theorem ggX5_best_X5_lessen : GoodIn wsX5_best wsX5_lessen := goodIn_r _ [45, 24, 46, 68, 69, 70, 71, 72, 73, 74] (by decide +kernel) (by decide +kernel)
set_option maxRecDepth 20000 in
theorem gX5_best_X5_lessen : GoodIn wsX5_best (wsV RX5 43 RX5 yX5_lessen wsX5_lessen) := goodIn_app (goodIn_of _ (by decide +kernel)) ggX5_best_X5_lessen
set_option maxRecDepth 20000 in
theorem ggX5_best_X5_farther : GoodIn wsX5_best wsX5_farther := goodIn_r _ [67, 51, 52, 53, 6, 54, 24, 34, 35, 36, 37, 29, 38, 39, 40, 41, 68, 69, 70, 71, 72, 73, 74] (by decide +kernel) (by decide +kernel)
set_option maxRecDepth 20000 in
theorem gX5_best_X5_farther : GoodIn wsX5_best (wsV RX5 124 RX5 yX5_farther wsX5_farther) := goodIn_app (goodIn_of _ (by decide +kernel)) ggX5_best_X5_farther
theorem dX5_best_0 : decode cX5_best 0 = .ok (.aload_n 0, 1) := by decide +kernel
theorem dX5_best_1 : decode cX5_best 1 = .ok (.iload_n 1, 1) := by decide +kernel
theorem dX5_best_2 : decode cX5_best 2 = .ok (.invokevirtual 73, 3) := by decide +kernel
theorem dX5_best_5 : decode cX5_best 5 = .ok (.ifCond .eq 32, 3) := by decide +kernel
theorem dX5_best_8 : decode cX5_best 8 = .ok (.iload_n 2, 1) := by decide +kernel
theorem dX5_best_9 : decode cX5_best 9 = .ok (.iconst 1, 1) := by decide +kernel
theorem dX5_best_10 : decode cX5_best 10 = .ok (.if_icmp .lt 27, 3) := by decide +kernel
theorem dX5_best_13 : decode cX5_best 13 = .ok (.iload_n 2, 1) := by decide +kernel
theorem dX5_best_14 : decode cX5_best 14 = .ok (.sipush 1000, 3) := by decide +kernel
theorem dX5_best_17 : decode cX5_best 17 = .ok (.if_icmp .gt 20, 3) := by decide +kernel
theorem dX5_best_20 : decode cX5_best 20 = .ok (.iload_n 3, 1) := by decide +kernel
theorem dX5_best_21 : decode cX5_best 21 = .ok (.ifCond .lt 16, 3) := by decide +kernel
theorem dX5_best_24 : decode cX5_best 24 = .ok (.iload_n 3, 1) := by decide +kernel
theorem dX5_best_25 : decode cX5_best 25 = .ok (.iconst 1, 1) := by decide +kernel
theorem dX5_best_26 : decode cX5_best 26 = .ok (.if_icmp .gt 11, 3) := by decide +kernel
theorem dX5_best_29 : decode cX5_best 29 = .ok (.aload_n 0, 1) := by decide +kernel
theorem dX5_best_30 : decode cX5_best 30 = .ok (.iload_n 1, 1) := by decide +kernel
theorem dX5_best_31 : decode cX5_best 31 = .ok (.invokevirtual 108, 3) := by decide +kernel
theorem dX5_best_34 : decode cX5_best 34 = .ok (.ifCond .ne 7, 3) := by decide +kernel
theorem dX5_best_37 : decode cX5_best 37 = .ok (.ldc2_w 122, 3) := by decide +kernel
theorem dX5_best_40 : decode cX5_best 40 = .ok (.lreturn, 1) := by decide +kernel
theorem dX5_best_41 : decode cX5_best 41 = .ok (.aload_n 0, 1) := by decide +kernel
theorem dX5_best_42 : decode cX5_best 42 = .ok (.aload_n 0, 1) := by decide +kernel
theorem dX5_best_43 : decode cX5_best 43 = .ok (.iload_n 1, 1) := by decide +kernel
theorem dX5_best_44 : decode cX5_best 44 = .ok (.bipush 8, 2) := by decide +kernel
theorem dX5_best_46 : decode cX5_best 46 = .ok (.iload_n 1, 1) := by decide +kernel
theorem dX5_best_47 : decode cX5_best 47 = .ok (.iadd, 1) := by decide +kernel
theorem dX5_best_48 : decode cX5_best 48 = .ok (.aload_n 0, 1) := by decide +kernel
theorem dX5_best_49 : decode cX5_best 49 = .ok (.getfield 13, 3) := by decide +kernel
theorem dX5_best_52 : decode cX5_best 52 = .ok (.iload_n 1, 1) := by decide +kernel
theorem dX5_best_53 : decode cX5_best 53 = .ok (.iaload, 1) := by decide +kernel
theorem dX5_best_54 : decode cX5_best 54 = .ok (.invokevirtual 96, 3) := by decide +kernel
theorem dX5_best_57 : decode cX5_best 57 = .ok (.invokevirtual 100, 3) := by decide +kernel
theorem dX5_best_60 : decode cX5_best 60 = .ok (.lstore 4, 2) := by decide +kernel
theorem dX5_best_62 : decode cX5_best 62 = .ok (.aload_n 0, 1) := by decide +kernel
theorem dX5_best_63 : decode cX5_best 63 = .ok (.bipush 21, 2) := by decide +kernel
theorem dX5_best_65 : decode cX5_best 65 = .ok (.bipush 16, 2) := by decide +kernel
theorem dX5_best_67 : decode cX5_best 67 = .ok (.invokevirtual 47, 3) := by decide +kernel
theorem dX5_best_70 : decode cX5_best 70 = .ok (.aload_n 0, 1) := by decide +kernel
theorem dX5_best_71 : decode cX5_best 71 = .ok (.bipush 8, 2) := by decide +kernel
theorem dX5_best_73 : decode cX5_best 73 = .ok (.iload_n 1, 1) := by decide +kernel
theorem dX5_best_74 : decode cX5_best 74 = .ok (.iadd, 1) := by decide +kernel
theorem dX5_best_75 : decode cX5_best 75 = .ok (.bipush 17, 2) := by decide +kernel
theorem dX5_best_77 : decode cX5_best 77 = .ok (.invokevirtual 47, 3) := by decide +kernel
theorem dX5_best_80 : decode cX5_best 80 = .ok (.aload_n 0, 1) := by decide +kernel
theorem dX5_best_81 : decode cX5_best 81 = .ok (.bipush 19, 2) := by decide +kernel
theorem dX5_best_83 : decode cX5_best 83 = .ok (.lconst 0, 1) := by decide +kernel
theorem dX5_best_84 : decode cX5_best 84 = .ok (.invokevirtual 23, 3) := by decide +kernel
theorem dX5_best_87 : decode cX5_best 87 = .ok (.lconst 0, 1) := by decide +kernel
theorem dX5_best_88 : decode cX5_best 88 = .ok (.lstore 6, 2) := by decide +kernel
theorem dX5_best_90 : decode cX5_best 90 = .ok (.lconst 0, 1) := by decide +kernel
theorem dX5_best_91 : decode cX5_best 91 = .ok (.lstore 8, 2) := by decide +kernel
theorem dX5_best_93 : decode cX5_best 93 = .ok (.lconst 0, 1) := by decide +kernel
theorem dX5_best_94 : decode cX5_best 94 = .ok (.lstore 10, 2) := by decide +kernel
theorem dX5_best_96 : decode cX5_best 96 = .ok (.iconst 1, 1) := by decide +kernel
theorem dX5_best_97 : decode cX5_best 97 = .ok (.istore 12, 2) := by decide +kernel
theorem dX5_best_99 : decode cX5_best 99 = .ok (.iload 12, 2) := by decide +kernel
theorem dX5_best_101 : decode cX5_best 101 = .ok (.iload_n 2, 1) := by decide +kernel
theorem dX5_best_102 : decode cX5_best 102 = .ok (.if_icmp .gt 134, 3) := by decide +kernel
theorem dX5_best_105 : decode cX5_best 105 = .ok (.aload_n 0, 1) := by decide +kernel
theorem dX5_best_106 : decode cX5_best 106 = .ok (.bipush 19, 2) := by decide +kernel
theorem dX5_best_108 : decode cX5_best 108 = .ok (.bipush 16, 2) := by decide +kernel
theorem dX5_best_110 : decode cX5_best 110 = .ok (.invokevirtual 83, 3) := by decide +kernel
theorem dX5_best_113 : decode cX5_best 113 = .ok (.aload_n 0, 1) := by decide +kernel
theorem dX5_best_114 : decode cX5_best 114 = .ok (.bipush 19, 2) := by decide +kernel
theorem dX5_best_116 : decode cX5_best 116 = .ok (.bipush 17, 2) := by decide +kernel
theorem dX5_best_118 : decode cX5_best 118 = .ok (.invokevirtual 39, 3) := by decide +kernel
theorem dX5_best_121 : decode cX5_best 121 = .ok (.ifCond .lt 17, 3) := by decide +kernel
theorem dX5_best_124 : decode cX5_best 124 = .ok (.aload_n 0, 1) := by decide +kernel
theorem dX5_best_125 : decode cX5_best 125 = .ok (.bipush 19, 2) := by decide +kernel
theorem dX5_best_127 : decode cX5_best 127 = .ok (.bipush 17, 2) := by decide +kernel
theorem dX5_best_129 : decode cX5_best 129 = .ok (.invokevirtual 43, 3) := by decide +kernel
theorem dX5_best_132 : decode cX5_best 132 = .ok (.lload 6, 2) := by decide +kernel
theorem dX5_best_134 : decode cX5_best 134 = .ok (.lconst 1, 1) := by decide +kernel
theorem dX5_best_135 : decode cX5_best 135 = .ok (.ladd, 1) := by decide +kernel
theorem dX5_best_136 : decode cX5_best 136 = .ok (.lstore 6, 2) := by decide +kernel
theorem dX5_best_138 : decode cX5_best 138 = .ok (.iconst 0, 1) := by decide +kernel
theorem dX5_best_139 : decode cX5_best 139 = .ok (.istore 13, 2) := by decide +kernel
theorem dX5_best_141 : decode cX5_best 141 = .ok (.iload 13, 2) := by decide +kernel
theorem dX5_best_143 : decode cX5_best 143 = .ok (.iconst 2, 1) := by decide +kernel
theorem dX5_best_144 : decode cX5_best 144 = .ok (.if_icmp .ge 86, 3) := by decide +kernel
theorem dX5_best_147 : decode cX5_best 147 = .ok (.aload_n 0, 1) := by decide +kernel
theorem dX5_best_148 : decode cX5_best 148 = .ok (.bipush 19, 2) := by decide +kernel
theorem dX5_best_150 : decode cX5_best 150 = .ok (.bipush 18, 2) := by decide +kernel
theorem dX5_best_152 : decode cX5_best 152 = .ok (.invokevirtual 47, 3) := by decide +kernel
theorem dX5_best_155 : decode cX5_best 155 = .ok (.iload 13, 2) := by decide +kernel
theorem dX5_best_157 : decode cX5_best 157 = .ok (.iconst 1, 1) := by decide +kernel
theorem dX5_best_158 : decode cX5_best 158 = .ok (.if_icmp .ne 19, 3) := by decide +kernel
theorem dX5_best_161 : decode cX5_best 161 = .ok (.aload_n 0, 1) := by decide +kernel
theorem dX5_best_162 : decode cX5_best 162 = .ok (.bipush 17, 2) := by decide +kernel
theorem dX5_best_164 : decode cX5_best 164 = .ok (.bipush 18, 2) := by decide +kernel
theorem dX5_best_166 : decode cX5_best 166 = .ok (.invokevirtual 47, 3) := by decide +kernel
theorem dX5_best_169 : decode cX5_best 169 = .ok (.aload_n 0, 1) := by decide +kernel
theorem dX5_best_170 : decode cX5_best 170 = .ok (.bipush 18, 2) := by decide +kernel
theorem dX5_best_172 : decode cX5_best 172 = .ok (.bipush 19, 2) := by decide +kernel
theorem dX5_best_174 : decode cX5_best 174 = .ok (.invokevirtual 43, 3) := by decide +kernel
theorem dX5_best_177 : decode cX5_best 177 = .ok (.lload 10, 2) := by decide +kernel
theorem dX5_best_179 : decode cX5_best 179 = .ok (.lconst 0, 1) := by decide +kernel
theorem dX5_best_180 : decode cX5_best 180 = .ok (.lcmp, 1) := by decide +kernel
theorem dX5_best_181 : decode cX5_best 181 = .ok (.ifCond .eq 15, 3) := by decide +kernel
theorem dX5_best_184 : decode cX5_best 184 = .ok (.aload_n 0, 1) := by decide +kernel
theorem dX5_best_185 : decode cX5_best 185 = .ok (.iload 12, 2) := by decide +kernel
theorem dX5_best_187 : decode cX5_best 187 = .ok (.lload 10, 2) := by decide +kernel
theorem dX5_best_189 : decode cX5_best 189 = .ok (.l2i, 1) := by decide +kernel
theorem dX5_best_190 : decode cX5_best 190 = .ok (.invokevirtual 124, 3) := by decide +kernel
theorem dX5_best_193 : decode cX5_best 193 = .ok (.ifCond .ge 31, 3) := by decide +kernel
theorem dX5_best_196 : decode cX5_best 196 = .ok (.aload_n 0, 1) := by decide +kernel
theorem dX5_best_197 : decode cX5_best 197 = .ok (.bipush 18, 2) := by decide +kernel
theorem dX5_best_199 : decode cX5_best 199 = .ok (.bipush 26, 2) := by decide +kernel
theorem dX5_best_201 : decode cX5_best 201 = .ok (.invokevirtual 47, 3) := by decide +kernel
theorem dX5_best_204 : decode cX5_best 204 = .ok (.lload 4, 2) := by decide +kernel
theorem dX5_best_206 : decode cX5_best 206 = .ok (.iload 12, 2) := by decide +kernel
theorem dX5_best_208 : decode cX5_best 208 = .ok (.i2l, 1) := by decide +kernel
theorem dX5_best_209 : decode cX5_best 209 = .ok (.lmul, 1) := by decide +kernel
theorem dX5_best_210 : decode cX5_best 210 = .ok (.lload 6, 2) := by decide +kernel
theorem dX5_best_212 : decode cX5_best 212 = .ok (.ladd, 1) := by decide +kernel
theorem dX5_best_213 : decode cX5_best 213 = .ok (.iload 13, 2) := by decide +kernel
theorem dX5_best_215 : decode cX5_best 215 = .ok (.i2l, 1) := by decide +kernel
theorem dX5_best_216 : decode cX5_best 216 = .ok (.ladd, 1) := by decide +kernel
theorem dX5_best_217 : decode cX5_best 217 = .ok (.lstore 8, 2) := by decide +kernel
theorem dX5_best_219 : decode cX5_best 219 = .ok (.iload 12, 2) := by decide +kernel
theorem dX5_best_221 : decode cX5_best 221 = .ok (.i2l, 1) := by decide +kernel
theorem dX5_best_222 : decode cX5_best 222 = .ok (.lstore 10, 2) := by decide +kernel
theorem dX5_best_224 : decode cX5_best 224 = .ok (.iinc 13 1, 3) := by decide +kernel
theorem dX5_best_227 : decode cX5_best 227 = .ok (.goto (-86), 3) := by decide +kernel
theorem dX5_best_230 : decode cX5_best 230 = .ok (.iinc 12 1, 3) := by decide +kernel
theorem dX5_best_233 : decode cX5_best 233 = .ok (.goto (-134), 3) := by decide +kernel
theorem dX5_best_236 : decode cX5_best 236 = .ok (.iload_n 3, 1) := by decide +kernel
theorem dX5_best_237 : decode cX5_best 237 = .ok (.ifCond .ne 8, 3) := by decide +kernel
theorem dX5_best_240 : decode cX5_best 240 = .ok (.lload 8, 2) := by decide +kernel
theorem dX5_best_242 : decode cX5_best 242 = .ok (.goto 5, 3) := by decide +kernel
theorem dX5_best_245 : decode cX5_best 245 = .ok (.lload 10, 2) := by decide +kernel
theorem dX5_best_247 : decode cX5_best 247 = .ok (.lreturn, 1) := by decide +kernel
theorem dJ6_numberOfLeadingZeros_0f7a4_0 : decode cJ6_numberOfLeadingZeros_0f7a4 0 = .ok (.iload_n 0, 1) := by decide +kernel
theorem dJ6_numberOfLeadingZeros_0f7a4_1 : decode cJ6_numberOfLeadingZeros_0f7a4 1 = .ok (.ifCond .gt 14, 3) := by decide +kernel
theorem dJ6_numberOfLeadingZeros_0f7a4_4 : decode cJ6_numberOfLeadingZeros_0f7a4 4 = .ok (.iload_n 0, 1) := by decide +kernel
theorem dJ6_numberOfLeadingZeros_0f7a4_5 : decode cJ6_numberOfLeadingZeros_0f7a4 5 = .ok (.ifCond .ne 8, 3) := by decide +kernel
theorem dJ6_numberOfLeadingZeros_0f7a4_8 : decode cJ6_numberOfLeadingZeros_0f7a4 8 = .ok (.bipush 32, 2) := by decide +kernel
theorem dJ6_numberOfLeadingZeros_0f7a4_10 : decode cJ6_numberOfLeadingZeros_0f7a4 10 = .ok (.goto 4, 3) := by decide +kernel
theorem dJ6_numberOfLeadingZeros_0f7a4_13 : decode cJ6_numberOfLeadingZeros_0f7a4 13 = .ok (.iconst 0, 1) := by decide +kernel
theorem dJ6_numberOfLeadingZeros_0f7a4_14 : decode cJ6_numberOfLeadingZeros_0f7a4 14 = .ok (.ireturn, 1) := by decide +kernel
theorem dJ6_numberOfLeadingZeros_0f7a4_15 : decode cJ6_numberOfLeadingZeros_0f7a4 15 = .ok (.bipush 31, 2) := by decide +kernel
theorem dJ6_numberOfLeadingZeros_0f7a4_17 : decode cJ6_numberOfLeadingZeros_0f7a4 17 = .ok (.istore_n 1, 1) := by decide +kernel
theorem dJ6_numberOfLeadingZeros_0f7a4_18 : decode cJ6_numberOfLeadingZeros_0f7a4 18 = .ok (.iload_n 0, 1) := by decide +kernel
theorem dJ6_numberOfLeadingZeros_0f7a4_19 : decode cJ6_numberOfLeadingZeros_0f7a4 19 = .ok (.ldc_w 264, 3) := by decide +kernel
theorem dJ6_numberOfLeadingZeros_0f7a4_22 : decode cJ6_numberOfLeadingZeros_0f7a4 22 = .ok (.if_icmp .lt 11, 3) := by decide +kernel
theorem dJ6_numberOfLeadingZeros_0f7a4_25 : decode cJ6_numberOfLeadingZeros_0f7a4 25 = .ok (.iinc 1 (-16), 3) := by decide +kernel
theorem dJ6_numberOfLeadingZeros_0f7a4_28 : decode cJ6_numberOfLeadingZeros_0f7a4 28 = .ok (.iload_n 0, 1) := by decide +kernel
theorem dJ6_numberOfLeadingZeros_0f7a4_29 : decode cJ6_numberOfLeadingZeros_0f7a4 29 = .ok (.bipush 16, 2) := by decide +kernel
theorem dJ6_numberOfLeadingZeros_0f7a4_31 : decode cJ6_numberOfLeadingZeros_0f7a4 31 = .ok (.iushr, 1) := by decide +kernel
theorem dJ6_numberOfLeadingZeros_0f7a4_32 : decode cJ6_numberOfLeadingZeros_0f7a4 32 = .ok (.istore_n 0, 1) := by decide +kernel
theorem dJ6_numberOfLeadingZeros_0f7a4_33 : decode cJ6_numberOfLeadingZeros_0f7a4 33 = .ok (.iload_n 0, 1) := by decide +kernel
theorem dJ6_numberOfLeadingZeros_0f7a4_34 : decode cJ6_numberOfLeadingZeros_0f7a4 34 = .ok (.sipush 256, 3) := by decide +kernel
theorem dJ6_numberOfLeadingZeros_0f7a4_37 : decode cJ6_numberOfLeadingZeros_0f7a4 37 = .ok (.if_icmp .lt 11, 3) := by decide +kernel
theorem dJ6_numberOfLeadingZeros_0f7a4_40 : decode cJ6_numberOfLeadingZeros_0f7a4 40 = .ok (.iinc 1 (-8), 3) := by decide +kernel
theorem dJ6_numberOfLeadingZeros_0f7a4_43 : decode cJ6_numberOfLeadingZeros_0f7a4 43 = .ok (.iload_n 0, 1) := by decide +kernel
theorem dJ6_numberOfLeadingZeros_0f7a4_44 : decode cJ6_numberOfLeadingZeros_0f7a4 44 = .ok (.bipush 8, 2) := by decide +kernel
theorem dJ6_numberOfLeadingZeros_0f7a4_46 : decode cJ6_numberOfLeadingZeros_0f7a4 46 = .ok (.iushr, 1) := by decide +kernel
theorem dJ6_numberOfLeadingZeros_0f7a4_47 : decode cJ6_numberOfLeadingZeros_0f7a4 47 = .ok (.istore_n 0, 1) := by decide +kernel
theorem dJ6_numberOfLeadingZeros_0f7a4_48 : decode cJ6_numberOfLeadingZeros_0f7a4 48 = .ok (.iload_n 0, 1) := by decide +kernel
theorem dJ6_numberOfLeadingZeros_0f7a4_49 : decode cJ6_numberOfLeadingZeros_0f7a4 49 = .ok (.bipush 16, 2) := by decide +kernel
theorem dJ6_numberOfLeadingZeros_0f7a4_51 : decode cJ6_numberOfLeadingZeros_0f7a4 51 = .ok (.if_icmp .lt 10, 3) := by decide +kernel
theorem dJ6_numberOfLeadingZeros_0f7a4_54 : decode cJ6_numberOfLeadingZeros_0f7a4 54 = .ok (.iinc 1 (-4), 3) := by decide +kernel
theorem dJ6_numberOfLeadingZeros_0f7a4_57 : decode cJ6_numberOfLeadingZeros_0f7a4 57 = .ok (.iload_n 0, 1) := by decide +kernel
theorem dJ6_numberOfLeadingZeros_0f7a4_58 : decode cJ6_numberOfLeadingZeros_0f7a4 58 = .ok (.iconst 4, 1) := by decide +kernel
theorem dJ6_numberOfLeadingZeros_0f7a4_59 : decode cJ6_numberOfLeadingZeros_0f7a4 59 = .ok (.iushr, 1) := by decide +kernel
theorem dJ6_numberOfLeadingZeros_0f7a4_60 : decode cJ6_numberOfLeadingZeros_0f7a4 60 = .ok (.istore_n 0, 1) := by decide +kernel
theorem dJ6_numberOfLeadingZeros_0f7a4_61 : decode cJ6_numberOfLeadingZeros_0f7a4 61 = .ok (.iload_n 0, 1) := by decide +kernel
theorem dJ6_numberOfLeadingZeros_0f7a4_62 : decode cJ6_numberOfLeadingZeros_0f7a4 62 = .ok (.iconst 4, 1) := by decide +kernel
theorem dJ6_numberOfLeadingZeros_0f7a4_63 : decode cJ6_numberOfLeadingZeros_0f7a4 63 = .ok (.if_icmp .lt 10, 3) := by decide +kernel
theorem dJ6_numberOfLeadingZeros_0f7a4_66 : decode cJ6_numberOfLeadingZeros_0f7a4 66 = .ok (.iinc 1 (-2), 3) := by decide +kernel
theorem dJ6_numberOfLeadingZeros_0f7a4_69 : decode cJ6_numberOfLeadingZeros_0f7a4 69 = .ok (.iload_n 0, 1) := by decide +kernel
theorem dJ6_numberOfLeadingZeros_0f7a4_70 : decode cJ6_numberOfLeadingZeros_0f7a4 70 = .ok (.iconst 2, 1) := by decide +kernel
theorem dJ6_numberOfLeadingZeros_0f7a4_71 : decode cJ6_numberOfLeadingZeros_0f7a4 71 = .ok (.iushr, 1) := by decide +kernel
theorem dJ6_numberOfLeadingZeros_0f7a4_72 : decode cJ6_numberOfLeadingZeros_0f7a4 72 = .ok (.istore_n 0, 1) := by decide +kernel
theorem dJ6_numberOfLeadingZeros_0f7a4_73 : decode cJ6_numberOfLeadingZeros_0f7a4 73 = .ok (.iload_n 1, 1) := by decide +kernel
theorem dJ6_numberOfLeadingZeros_0f7a4_74 : decode cJ6_numberOfLeadingZeros_0f7a4 74 = .ok (.iload_n 0, 1) := by decide +kernel
theorem dJ6_numberOfLeadingZeros_0f7a4_75 : decode cJ6_numberOfLeadingZeros_0f7a4 75 = .ok (.iconst 1, 1) := by decide +kernel
theorem dJ6_numberOfLeadingZeros_0f7a4_76 : decode cJ6_numberOfLeadingZeros_0f7a4 76 = .ok (.iushr, 1) := by decide +kernel
theorem dJ6_numberOfLeadingZeros_0f7a4_77 : decode cJ6_numberOfLeadingZeros_0f7a4 77 = .ok (.isub, 1) := by decide +kernel
theorem dJ6_numberOfLeadingZeros_0f7a4_78 : decode cJ6_numberOfLeadingZeros_0f7a4 78 = .ok (.ireturn, 1) := by decide +kernel
theorem dJ6_signum_0f7a4_0 : decode cJ6_signum_0f7a4 0 = .ok (.iload_n 0, 1) := by decide +kernel
theorem dJ6_signum_0f7a4_1 : decode cJ6_signum_0f7a4 1 = .ok (.bipush 31, 2) := by decide +kernel
theorem dJ6_signum_0f7a4_3 : decode cJ6_signum_0f7a4 3 = .ok (.ishr, 1) := by decide +kernel
theorem dJ6_signum_0f7a4_4 : decode cJ6_signum_0f7a4 4 = .ok (.iload_n 0, 1) := by decide +kernel
theorem dJ6_signum_0f7a4_5 : decode cJ6_signum_0f7a4 5 = .ok (.ineg, 1) := by decide +kernel
theorem dJ6_signum_0f7a4_6 : decode cJ6_signum_0f7a4 6 = .ok (.bipush 31, 2) := by decide +kernel
theorem dJ6_signum_0f7a4_8 : decode cJ6_signum_0f7a4 8 = .ok (.iushr, 1) := by decide +kernel
theorem dJ6_signum_0f7a4_9 : decode cJ6_signum_0f7a4 9 = .ok (.ior, 1) := by decide +kernel
theorem dJ6_signum_0f7a4_10 : decode cJ6_signum_0f7a4 10 = .ok (.ireturn, 1) := by decide +kernel
theorem dJ9_abs_067f4_0 : decode cJ9_abs_067f4 0 = .ok (.lload_n 0, 1) := by decide +kernel
theorem dJ9_abs_067f4_1 : decode cJ9_abs_067f4 1 = .ok (.lconst 0, 1) := by decide +kernel
theorem dJ9_abs_067f4_2 : decode cJ9_abs_067f4 2 = .ok (.lcmp, 1) := by decide +kernel
theorem dJ9_abs_067f4_3 : decode cJ9_abs_067f4 3 = .ok (.ifCond .ge 8, 3) := by decide +kernel
theorem dJ9_abs_067f4_6 : decode cJ9_abs_067f4 6 = .ok (.lload_n 0, 1) := by decide +kernel
theorem dJ9_abs_067f4_7 : decode cJ9_abs_067f4 7 = .ok (.lneg, 1) := by decide +kernel
theorem dJ9_abs_067f4_8 : decode cJ9_abs_067f4 8 = .ok (.goto 4, 3) := by decide +kernel
theorem dJ9_abs_067f4_11 : decode cJ9_abs_067f4 11 = .ok (.lload_n 0, 1) := by decide +kernel
theorem dJ9_abs_067f4_12 : decode cJ9_abs_067f4 12 = .ok (.lreturn, 1) := by decide +kernel
theorem dJ9_max_7cf53_0 : decode cJ9_max_7cf53 0 = .ok (.iload_n 0, 1) := by decide +kernel
theorem dJ9_max_7cf53_1 : decode cJ9_max_7cf53 1 = .ok (.iload_n 1, 1) := by decide +kernel
theorem dJ9_max_7cf53_2 : decode cJ9_max_7cf53 2 = .ok (.if_icmp .lt 7, 3) := by decide +kernel
theorem dJ9_max_7cf53_5 : decode cJ9_max_7cf53 5 = .ok (.iload_n 0, 1) := by decide +kernel
theorem dJ9_max_7cf53_6 : decode cJ9_max_7cf53 6 = .ok (.goto 4, 3) := by decide +kernel
theorem dJ9_max_7cf53_9 : decode cJ9_max_7cf53 9 = .ok (.iload_n 1, 1) := by decide +kernel
theorem dJ9_max_7cf53_10 : decode cJ9_max_7cf53 10 = .ok (.ireturn, 1) := by decide +kernel
theorem dJ9_min_7cf53_0 : decode cJ9_min_7cf53 0 = .ok (.iload_n 0, 1) := by decide +kernel
theorem dJ9_min_7cf53_1 : decode cJ9_min_7cf53 1 = .ok (.iload_n 1, 1) := by decide +kernel
theorem dJ9_min_7cf53_2 : decode cJ9_min_7cf53 2 = .ok (.if_icmp .gt 7, 3) := by decide +kernel
theorem dJ9_min_7cf53_5 : decode cJ9_min_7cf53 5 = .ok (.iload_n 0, 1) := by decide +kernel
theorem dJ9_min_7cf53_6 : decode cJ9_min_7cf53 6 = .ok (.goto 4, 3) := by decide +kernel
theorem dJ9_min_7cf53_9 : decode cJ9_min_7cf53 9 = .ok (.iload_n 1, 1) := by decide +kernel
theorem dJ9_min_7cf53_10 : decode cJ9_min_7cf53 10 = .ok (.ireturn, 1) := by decide +kernel
theorem dL_cell_0 : decode cL_cell 0 = .ok (.iload_n 1, 1) := by decide +kernel
theorem dL_cell_1 : decode cL_cell 1 = .ok (.aload_n 0, 1) := by decide +kernel
theorem dL_cell_2 : decode cL_cell 2 = .ok (.arraylength, 1) := by decide +kernel
theorem dL_cell_3 : decode cL_cell 3 = .ok (.if_icmp .ge 9, 3) := by decide +kernel
theorem dL_cell_6 : decode cL_cell 6 = .ok (.aload_n 0, 1) := by decide +kernel
theorem dL_cell_7 : decode cL_cell 7 = .ok (.iload_n 1, 1) := by decide +kernel
theorem dL_cell_8 : decode cL_cell 8 = .ok (.iaload, 1) := by decide +kernel
theorem dL_cell_9 : decode cL_cell 9 = .ok (.goto 4, 3) := by decide +kernel
theorem dL_cell_12 : decode cL_cell 12 = .ok (.iconst 0, 1) := by decide +kernel
theorem dL_cell_13 : decode cL_cell 13 = .ok (.ireturn, 1) := by decide +kernel
set_option maxRecDepth 20000 in
theorem ggL_law_L_cell : GoodIn wsL_law wsL_cell := goodIn_r _ [9] (by decide +kernel) (by decide +kernel)
set_option maxRecDepth 20000 in
theorem gL_law_L_cell : GoodIn wsL_law (va_wsS RL 9 yL_cell wsL_cell) := goodIn_app (goodIn_of _ (by decide +kernel)) ggL_law_L_cell
set_option maxRecDepth 20000 in
theorem ggL_law_X4_init : GoodIn wsL_law wsX4_init := goodIn_r _ [12, 13, 14, 15, 16, 17, 18, 19, 20, 21, 22, 23, 24, 25, 26, 27, 28, 29, 30, 31, 32, 33, 34, 35, 36, 37, 38, 39, 40, 41, 42, 43, 44, 45, 46, 47, 48, 49, 50, 51, 52, 53, 54, 55, 56, 57, 58, 59, 60, 61, 62, 63, 64, 65, 66, 67, 68, 69, 70, 71, 72, 73, 74, 75, 76, 77, 78, 79, 2, 80, 81, 82, 83, 84, 85, 86, 87, 88, 89, 90, 91, 92, 507, 508, 509, 486, 487, 488, 489, 490, 491, 492, 493, 494, 495, 496, 497, 498, 499, 510, 511, 512, 513, 514, 515, 516, 517, 518, 519, 520, 521, 522, 523, 524, 525] (by decide +kernel) (by decide +kernel)
set_option maxRecDepth 20000 in
theorem gL_law_X4_init : GoodIn wsL_law (wsX4_init) := ggL_law_X4_init
set_option maxRecDepth 20000 in
theorem ggL_law_X5_init : GoodIn wsL_law wsX5_init := goodIn_r _ [95, 96, 14, 15, 53, 97, 98, 99, 100, 101, 102, 103, 5, 104, 105, 500, 501, 502, 503, 504, 505, 506] (by decide +kernel) (by decide +kernel)
set_option maxRecDepth 20000 in
theorem gL_law_X5_init : GoodIn wsL_law (wsX5_init) := ggL_law_X5_init
set_option maxRecDepth 20000 in
theorem ggL_law_X4_set : GoodIn wsL_law wsX4_set := goodIn_r _ [109, 20, 110, 111, 112, 113, 114, 42, 115, 24, 116, 117, 118, 2, 119, 41, 81, 82, 83, 31, 84, 54, 85, 86, 87, 88, 55, 89, 90, 91, 92, 120, 121, 122, 123, 124, 125, 126, 23, 127, 60, 61, 128, 62, 129, 130, 131, 132, 133, 134, 135, 136, 137, 138, 139, 140, 141, 142, 143, 144, 145, 146, 147, 148, 149, 150, 151, 152, 153, 154, 155, 156, 157, 158, 159, 160, 161, 162, 163, 164, 165, 166, 167, 168, 169, 170, 171, 172, 173, 174, 175, 176, 177, 178, 179, 180, 181, 182, 183, 184, 185, 186, 187, 188, 40, 189, 190, 191, 18, 192, 46, 48, 49, 193, 486, 487, 488, 489, 490, 491, 492, 493, 494, 495, 496, 497, 498, 499, 507, 508, 509, 524, 525, 510, 511, 512] (by decide +kernel) (by decide +kernel)
set_option maxRecDepth 20000 in
theorem gL_law_X4_set : GoodIn wsL_law (wsV RL 21 RX4 yX4_set wsX4_set) := goodIn_app (goodIn_of _ (by decide +kernel)) ggL_law_X4_set
set_option maxRecDepth 20000 in
theorem ggL_law_X5_set : GoodIn wsL_law wsX5_set := goodIn_r _ [197, 198, 199, 200, 201, 5, 202, 99, 101, 102, 103, 104, 97, 105, 203, 204, 205, 206, 100, 98, 207, 208, 209, 210, 211, 212, 213, 214, 215, 216, 217, 218, 219, 220, 221, 222, 223, 224, 225, 226, 227, 228, 229, 230, 231, 232, 233, 234, 235, 236, 237, 238, 239, 240, 241, 242, 243, 244, 245, 246, 247, 248, 249, 250, 251, 252, 500, 501, 502, 503, 504, 505, 506] (by decide +kernel) (by decide +kernel)
set_option maxRecDepth 20000 in
theorem gL_law_X5_set : GoodIn wsL_law (wsV RL 25 RX5 yX5_set wsX5_set) := goodIn_app (goodIn_of _ (by decide +kernel)) ggL_law_X5_set
set_option maxRecDepth 20000 in
theorem ggL_law_X4_add : GoodIn wsL_law wsX4_add := goodIn_r _ [256, 41, 115, 257, 258, 259, 2, 260, 116, 117, 118, 119, 261, 262, 263, 264, 33, 42, 35, 24, 36, 265, 32, 110, 34, 20, 37, 266, 130, 131, 31, 132, 55, 133, 134, 113, 135, 54, 124, 125, 126, 23, 127, 60, 61, 128, 62, 129, 136, 137, 138, 139, 140, 141, 142, 143, 85, 86, 87, 88, 144, 145, 122, 146, 147, 148, 149, 150, 151, 152, 153, 154, 155, 156, 157, 158, 159, 160, 161, 162, 163, 164, 165, 166, 167, 168, 169, 170, 171, 172, 173, 174, 175, 176, 177, 178, 179, 89, 90, 91, 92, 180, 181, 182, 183, 267, 268, 269, 270, 271, 272, 273, 274, 275, 276, 277, 278, 279, 280, 281, 282, 283, 284, 285, 286, 184, 185, 186, 187, 188, 40, 189, 190, 191, 18, 192, 46, 48, 49, 193, 486, 487, 488, 489, 490, 491, 492, 493, 494, 495, 496, 497, 498, 499, 507, 508, 509, 510, 511, 512, 524, 525] (by decide +kernel) (by decide +kernel)
set_option maxRecDepth 20000 in
theorem gL_law_X4_add : GoodIn wsL_law (wsV RL 26 RX4 yX4_add wsX4_add) := goodIn_app (goodIn_of _ (by decide +kernel)) ggL_law_X4_add
set_option maxRecDepth 20000 in
theorem ggL_law_X5_add : GoodIn wsL_law wsX5_add := goodIn_r _ [290, 291, 292, 293, 5, 294, 199, 200, 201, 202, 99, 295, 296, 297, 298, 98, 198, 299, 300, 301, 302, 97, 105, 101, 102, 103, 104, 220, 221, 222, 223, 303, 304, 305, 306, 240, 232, 233, 234, 235, 236, 237, 238, 239, 203, 204, 205, 206, 100, 207, 208, 209, 210, 211, 212, 213, 214, 215, 216, 217, 218, 219, 224, 225, 226, 227, 228, 229, 230, 231, 241, 242, 243, 244, 245, 246, 247, 248, 249, 250, 251, 252, 500, 501, 502, 503, 504, 505, 506] (by decide +kernel) (by decide +kernel)
set_option maxRecDepth 20000 in
theorem gL_law_X5_add : GoodIn wsL_law (wsV RL 29 RX5 yX5_add wsX5_add) := goodIn_app (goodIn_of _ (by decide +kernel)) ggL_law_X5_add
set_option maxRecDepth 20000 in
theorem ggL_law_X4_sub : GoodIn wsL_law wsX4_sub := goodIn_r _ [310, 41, 115, 257, 258, 259, 2, 260, 116, 117, 118, 119, 261, 262, 263, 264, 33, 42, 35, 24, 36, 265, 32, 110, 34, 20, 37, 266, 130, 131, 31, 132, 55, 133, 134, 113, 135, 54, 124, 125, 126, 23, 127, 60, 61, 128, 62, 129, 136, 137, 138, 139, 140, 141, 142, 143, 85, 86, 87, 88, 144, 145, 122, 146, 147, 148, 149, 150, 151, 152, 153, 154, 155, 156, 157, 158, 159, 160, 161, 162, 163, 164, 165, 166, 167, 168, 169, 170, 171, 172, 173, 174, 175, 176, 177, 178, 179, 89, 90, 91, 92, 180, 181, 182, 183, 267, 268, 269, 270, 271, 272, 273, 274, 275, 276, 277, 278, 279, 280, 281, 282, 283, 284, 285, 286, 184, 185, 186, 187, 188, 40, 189, 190, 191, 18, 192, 46, 48, 49, 193, 486, 487, 488, 489, 490, 491, 492, 493, 494, 495, 496, 497, 498, 499, 507, 508, 509, 510, 511, 512, 524, 525] (by decide +kernel) (by decide +kernel)
set_option maxRecDepth 20000 in
theorem gL_law_X4_sub : GoodIn wsL_law (wsV RL 30 RX4 yX4_sub wsX4_sub) := goodIn_app (goodIn_of _ (by decide +kernel)) ggL_law_X4_sub
set_option maxRecDepth 20000 in
theorem ggL_law_X5_sub : GoodIn wsL_law wsX5_sub := goodIn_r _ [314, 291, 292, 293, 5, 294, 199, 200, 201, 202, 99, 295, 296, 297, 298, 98, 198, 299, 300, 301, 302, 97, 105, 101, 102, 103, 104, 220, 221, 222, 223, 303, 304, 305, 306, 240, 232, 233, 234, 235, 236, 237, 238, 239, 203, 204, 205, 206, 100, 207, 208, 209, 210, 211, 212, 213, 214, 215, 216, 217, 218, 219, 224, 225, 226, 227, 228, 229, 230, 231, 241, 242, 243, 244, 245, 246, 247, 248, 249, 250, 251, 252, 500, 501, 502, 503, 504, 505, 506] (by decide +kernel) (by decide +kernel)
set_option maxRecDepth 20000 in
theorem gL_law_X5_sub : GoodIn wsL_law (wsV RL 33 RX5 yX5_sub wsX5_sub) := goodIn_app (goodIn_of _ (by decide +kernel)) ggL_law_X5_sub
set_option maxRecDepth 20000 in
theorem ggL_law_X4_mul : GoodIn wsL_law wsX4_mul := goodIn_r _ [318, 41, 115, 110, 42, 257, 258, 259, 2, 260, 116, 117, 118, 119, 319, 320, 321, 322, 32, 35, 24, 34, 33, 20, 266, 130, 131, 31, 132, 55, 133, 134, 113, 135, 54, 124, 125, 126, 23, 127, 60, 61, 128, 62, 129, 136, 137, 138, 139, 140, 141, 142, 143, 85, 86, 87, 88, 144, 145, 122, 146, 147, 148, 149, 150, 151, 152, 153, 154, 155, 156, 157, 158, 159, 160, 161, 162, 163, 164, 165, 166, 167, 168, 169, 170, 171, 172, 173, 174, 175, 176, 177, 178, 179, 89, 90, 91, 92, 180, 181, 182, 183, 267, 268, 269, 270, 184, 185, 186, 187, 188, 40, 189, 190, 191, 18, 192, 46, 48, 49, 193, 486, 487, 488, 489, 490, 491, 492, 493, 494, 495, 496, 497, 498, 499, 507, 508, 509, 524, 525, 510, 511, 512] (by decide +kernel) (by decide +kernel)
set_option maxRecDepth 20000 in
theorem gL_law_X4_mul : GoodIn wsL_law (wsV RL 34 RX4 yX4_mul wsX4_mul) := goodIn_app (goodIn_of _ (by decide +kernel)) ggL_law_X4_mul
set_option maxRecDepth 20000 in
theorem ggL_law_X5_mul : GoodIn wsL_law wsX5_mul := goodIn_r _ [326, 98, 198, 291, 292, 293, 5, 294, 199, 200, 201, 202, 99, 299, 300, 301, 302, 97, 105, 101, 102, 103, 104, 203, 204, 205, 206, 100, 207, 208, 209, 210, 211, 212, 213, 214, 215, 216, 217, 218, 219, 220, 221, 222, 223, 224, 225, 226, 227, 228, 229, 230, 231, 232, 233, 234, 235, 236, 237, 238, 239, 240, 241, 242, 243, 244, 245, 246, 247, 248, 249, 250, 251, 252, 500, 501, 502, 503, 504, 505, 506] (by decide +kernel) (by decide +kernel)
set_option maxRecDepth 20000 in
theorem gL_law_X5_mul : GoodIn wsL_law (wsV RL 37 RX5 yX5_mul wsX5_mul) := goodIn_app (goodIn_of _ (by decide +kernel)) ggL_law_X5_mul
set_option maxRecDepth 20000 in
theorem ggL_law_X4_div : GoodIn wsL_law wsX4_div := goodIn_r _ [330, 41, 115, 42, 110, 257, 258, 259, 2, 260, 116, 117, 118, 119, 319, 320, 321, 322, 32, 35, 24, 34, 33, 20, 266, 130, 131, 31, 132, 55, 133, 134, 113, 135, 54, 124, 125, 126, 23, 127, 60, 61, 128, 62, 129, 136, 137, 138, 139, 140, 141, 142, 143, 85, 86, 87, 88, 144, 145, 122, 146, 147, 148, 149, 150, 151, 152, 153, 154, 155, 156, 157, 158, 159, 160, 161, 162, 163, 164, 165, 166, 167, 168, 169, 170, 171, 172, 173, 174, 175, 176, 177, 178, 179, 89, 90, 91, 92, 180, 181, 182, 183, 267, 268, 269, 270, 184, 185, 186, 187, 188, 40, 189, 190, 191, 18, 192, 46, 48, 49, 193, 486, 487, 488, 489, 490, 491, 492, 493, 494, 495, 496, 497, 498, 499, 507, 508, 509, 524, 525, 510, 511, 512] (by decide +kernel) (by decide +kernel)
set_option maxRecDepth 20000 in
theorem gL_law_X4_div : GoodIn wsL_law (wsV RL 38 RX4 yX4_div wsX4_div) := goodIn_app (goodIn_of _ (by decide +kernel)) ggL_law_X4_div
set_option maxRecDepth 20000 in
theorem ggL_law_X5_div : GoodIn wsL_law wsX5_div := goodIn_r _ [334, 98, 198, 291, 292, 293, 5, 294, 199, 200, 201, 202, 99, 299, 300, 301, 302, 97, 105, 101, 102, 103, 104, 203, 204, 205, 206, 100, 207, 208, 209, 210, 211, 212, 213, 214, 215, 216, 217, 218, 219, 220, 221, 222, 223, 224, 225, 226, 227, 228, 229, 230, 231, 232, 233, 234, 235, 236, 237, 238, 239, 240, 241, 242, 243, 244, 245, 246, 247, 248, 249, 250, 251, 252, 500, 501, 502, 503, 504, 505, 506] (by decide +kernel) (by decide +kernel)
set_option maxRecDepth 20000 in
theorem gL_law_X5_div : GoodIn wsL_law (wsV RL 41 RX5 yX5_div wsX5_div) := goodIn_app (goodIn_of _ (by decide +kernel)) ggL_law_X5_div
set_option maxRecDepth 20000 in
theorem ggL_law_X4_cmp : GoodIn wsL_law wsX4_cmp := goodIn_r _ [338, 41, 115, 32, 110, 42, 34, 116, 117, 118, 2, 119, 267, 268, 269, 31, 270, 55, 85, 86, 87, 88, 54, 153, 154, 155, 156, 152, 176, 177, 178, 179, 173, 174, 113, 175, 89, 90, 91, 92, 279, 280, 281, 282, 486, 487, 488, 489, 490, 491, 492, 493, 494, 495, 496, 497, 498, 499, 507, 508, 509, 524, 525] (by decide +kernel) (by decide +kernel)
set_option maxRecDepth 20000 in
theorem gL_law_X4_cmp : GoodIn wsL_law (wsV RL 42 RX4 yX4_cmp wsX4_cmp) := goodIn_app (goodIn_of _ (by decide +kernel)) ggL_law_X4_cmp
set_option maxRecDepth 20000 in
theorem ggL_law_X5_cmp : GoodIn wsL_law wsX5_cmp := goodIn_r _ [342, 98, 199, 200, 201, 5, 202, 99, 299, 300, 301, 302, 97, 105, 101, 102, 103, 104, 232, 233, 234, 235, 500, 501, 502, 503, 504, 505, 506] (by decide +kernel) (by decide +kernel)
set_option maxRecDepth 20000 in
theorem gL_law_X5_cmp : GoodIn wsL_law (wsV RL 46 RX5 yX5_cmp wsX5_cmp) := goodIn_app (goodIn_of _ (by decide +kernel)) ggL_law_X5_cmp
set_option maxRecDepth 20000 in
theorem ggL_law_X4_fits : GoodIn wsL_law wsX4_fits := goodIn_r _ [346, 41, 116, 117, 118, 2, 119, 347, 348, 349, 350, 39, 110, 42, 38, 115, 266, 130, 131, 31, 132, 55, 133, 134, 113, 135, 54, 351, 141, 142, 143, 85, 86, 87, 88, 144, 145, 122, 146, 147, 148, 149, 150, 151, 152, 153, 154, 155, 156, 157, 158, 159, 160, 161, 162, 163, 164, 165, 166, 167, 168, 169, 170, 171, 172, 173, 174, 175, 176, 177, 178, 179, 89, 90, 91, 92, 352, 353, 354, 355, 356, 137, 138, 139, 283, 284, 285, 286, 357, 358, 359, 360, 361, 486, 487, 488, 489, 490, 491, 492, 493, 494, 495, 496, 497, 498, 499, 507, 508, 509, 524, 525] (by decide +kernel) (by decide +kernel)
set_option maxRecDepth 20000 in
theorem gL_law_X4_fits : GoodIn wsL_law (wsV RL 47 RX4 yX4_fits wsX4_fits) := goodIn_app (goodIn_of _ (by decide +kernel)) ggL_law_X4_fits
set_option maxRecDepth 20000 in
theorem ggL_law_X5_fits : GoodIn wsL_law wsX5_fits := goodIn_r _ [365, 98, 366, 367, 199, 200, 201, 5, 202, 99, 368, 369, 370, 371, 245, 246, 247, 248, 219, 97, 101, 102, 103, 104, 105, 249, 250, 251, 252, 241, 242, 243, 244, 232, 233, 234, 235, 236, 237, 238, 239, 240, 211, 212, 213, 214, 220, 221, 222, 223, 303, 304, 305, 306, 372, 373, 374, 375, 376, 500, 501, 502, 503, 504, 505, 506] (by decide +kernel) (by decide +kernel)
set_option maxRecDepth 20000 in
theorem gL_law_X5_fits : GoodIn wsL_law (wsV RL 51 RX5 yX5_fits wsX5_fits) := goodIn_app (goodIn_of _ (by decide +kernel)) ggL_law_X5_fits
set_option maxRecDepth 20000 in
theorem ggL_law_X4_floorSmall : GoodIn wsL_law wsX4_floorSmall := goodIn_r _ [380, 41, 116, 117, 118, 2, 119, 347, 348, 349, 350, 39, 110, 42, 38, 115, 266, 130, 131, 31, 132, 55, 133, 134, 113, 135, 54, 351, 141, 142, 143, 85, 86, 87, 88, 144, 145, 122, 146, 147, 148, 149, 150, 151, 152, 153, 154, 155, 156, 157, 158, 159, 160, 161, 162, 163, 164, 165, 166, 167, 168, 169, 170, 171, 172, 173, 174, 175, 176, 177, 178, 179, 89, 90, 91, 92, 352, 353, 354, 355, 356, 137, 138, 139, 283, 284, 285, 286, 357, 358, 359, 360, 361, 486, 487, 488, 489, 490, 491, 492, 493, 494, 495, 496, 497, 498, 499, 507, 508, 509, 524, 525] (by decide +kernel) (by decide +kernel)
set_option maxRecDepth 20000 in
theorem gL_law_X4_floorSmall : GoodIn wsL_law (wsV RL 52 RX4 yX4_floorSmall wsX4_floorSmall) := goodIn_app (goodIn_of _ (by decide +kernel)) ggL_law_X4_floorSmall
set_option maxRecDepth 20000 in
theorem ggL_law_X5_floorSmall : GoodIn wsL_law wsX5_floorSmall := goodIn_r _ [384, 98, 385, 363, 364, 5, 365, 366, 367, 199, 200, 201, 202, 99, 368, 369, 370, 371, 245, 246, 247, 248, 219, 97, 101, 102, 103, 104, 105, 249, 250, 251, 252, 241, 242, 243, 244, 232, 233, 234, 235, 236, 237, 238, 239, 240, 211, 212, 213, 214, 220, 221, 222, 223, 303, 304, 305, 306, 372, 373, 374, 375, 376, 500, 501, 502, 503, 504, 505, 506] (by decide +kernel) (by decide +kernel)
set_option maxRecDepth 20000 in
theorem gL_law_X5_floorSmall : GoodIn wsL_law (wsV RL 56 RX5 yX5_floorSmall wsX5_floorSmall) := goodIn_app (goodIn_of _ (by decide +kernel)) ggL_law_X5_floorSmall
set_option maxRecDepth 20000 in
theorem ggL_law_X4_cfStart : GoodIn wsL_law wsX4_cfStart := goodIn_r _ [389, 19, 41, 116, 117, 118, 2, 119, 189, 190, 191, 18, 192, 46, 48, 49, 193, 130, 131, 31, 132, 55, 133, 134, 113, 135, 54, 486, 487, 488, 489, 490, 491, 492, 493, 494, 495, 496, 497, 498, 499, 507, 508, 509, 524, 525] (by decide +kernel) (by decide +kernel)
set_option maxRecDepth 20000 in
theorem gL_law_X4_cfStart : GoodIn wsL_law (wsV RL 57 RX4 yX4_cfStart wsX4_cfStart) := goodIn_app (goodIn_of _ (by decide +kernel)) ggL_law_X4_cfStart
set_option maxRecDepth 20000 in
theorem ggL_law_X5_cfStart : GoodIn wsL_law wsX5_cfStart := goodIn_r _ [393, 98, 394, 395, 199, 200, 201, 5, 202, 99, 220, 221, 222, 223, 97, 500, 501, 502, 503, 504, 505, 506] (by decide +kernel) (by decide +kernel)
set_option maxRecDepth 20000 in
theorem gL_law_X5_cfStart : GoodIn wsL_law (wsV RL 60 RX5 yX5_cfStart wsX5_cfStart) := goodIn_app (goodIn_of _ (by decide +kernel)) ggL_law_X5_cfStart
set_option maxRecDepth 20000 in
theorem ggL_law_X4_cfNext : GoodIn wsL_law wsX4_cfNext := goodIn_r _ [399, 19, 42, 400, 360, 115, 110, 39, 356, 137, 138, 31, 139, 55, 347, 348, 349, 2, 350, 38, 266, 130, 131, 132, 133, 134, 113, 135, 54, 351, 141, 142, 143, 85, 86, 87, 88, 144, 145, 122, 146, 147, 148, 149, 150, 151, 152, 153, 154, 155, 156, 157, 158, 159, 160, 161, 162, 163, 164, 165, 166, 167, 168, 169, 170, 171, 172, 173, 174, 175, 176, 177, 178, 179, 89, 90, 91, 92, 352, 353, 354, 355, 283, 284, 285, 286, 357, 358, 359, 361, 486, 487, 488, 489, 490, 491, 492, 493, 494, 495, 496, 497, 498, 499, 507, 508, 509, 524, 525] (by decide +kernel) (by decide +kernel)
set_option maxRecDepth 20000 in
theorem gL_law_X4_cfNext : GoodIn wsL_law (wsV RL 61 RX4 yX4_cfNext wsX4_cfNext) := goodIn_app (goodIn_of _ (by decide +kernel)) ggL_law_X4_cfNext
set_option maxRecDepth 20000 in
theorem ggL_law_X5_cfNext : GoodIn wsL_law wsX5_cfNext := goodIn_r _ [404, 395, 405, 394, 366, 367, 368, 369, 370, 5, 371, 245, 246, 247, 248, 219, 97, 101, 102, 103, 104, 105, 249, 250, 251, 252, 241, 242, 243, 244, 232, 233, 234, 235, 236, 237, 238, 239, 240, 211, 212, 213, 214, 220, 221, 222, 223, 303, 304, 305, 306, 372, 373, 374, 375, 376, 500, 501, 502, 503, 504, 505, 506] (by decide +kernel) (by decide +kernel)
set_option maxRecDepth 20000 in
theorem gL_law_X5_cfNext : GoodIn wsL_law (wsV RL 65 RX5 yX5_cfNext wsX5_cfNext) := goodIn_app (goodIn_of _ (by decide +kernel)) ggL_law_X5_cfNext
set_option maxRecDepth 20000 in
theorem ggL_law_X4_cfDone : GoodIn wsL_law wsX4_cfDone := goodIn_r _ [409, 19, 42, 356, 137, 138, 31, 139, 55, 486, 487, 488, 489, 490, 491, 492, 493, 494, 495, 496, 497, 498, 499, 507, 508, 509, 524, 525] (by decide +kernel) (by decide +kernel)
set_option maxRecDepth 20000 in
theorem gL_law_X4_cfDone : GoodIn wsL_law (wsV RL 66 RX4 yX4_cfDone wsX4_cfDone) := goodIn_app (goodIn_of _ (by decide +kernel)) ggL_law_X4_cfDone
set_option maxRecDepth 20000 in
theorem ggL_law_X5_cfDone : GoodIn wsL_law wsX5_cfDone := goodIn_r _ [413, 395, 500, 501, 502, 503, 504, 505, 506] (by decide +kernel) (by decide +kernel)
set_option maxRecDepth 20000 in
theorem gL_law_X5_cfDone : GoodIn wsL_law (wsV RL 70 RX5 yX5_cfDone wsX5_cfDone) := goodIn_app (goodIn_of _ (by decide +kernel)) ggL_law_X5_cfDone
set_option maxRecDepth 20000 in
theorem ggL_law_X4_numLimb : GoodIn wsL_law wsX4_numLimb := goodIn_r _ [417, 41, 110, 116, 117, 118, 2, 119, 418, 154, 155, 31, 156, 54, 152, 486, 487, 488, 489, 490, 491, 492, 493, 494, 495, 496, 497, 498, 499, 507, 508, 509, 524, 525] (by decide +kernel) (by decide +kernel)
set_option maxRecDepth 20000 in
theorem gL_law_X4_numLimb : GoodIn wsL_law (wsV RL 71 RX4 yX4_numLimb wsX4_numLimb) := goodIn_app (goodIn_of _ (by decide +kernel)) ggL_law_X4_numLimb
set_option maxRecDepth 20000 in
theorem ggL_law_X5_numLimb : GoodIn wsL_law wsX5_numLimb := goodIn_r _ [422, 199, 200, 201, 5, 202, 99, 423, 424, 425, 426, 97, 500, 501, 502, 503, 504, 505, 506] (by decide +kernel) (by decide +kernel)
set_option maxRecDepth 20000 in
theorem gL_law_X5_numLimb : GoodIn wsL_law (wsV RL 74 RX5 yX5_numLimb wsX5_numLimb) := goodIn_app (goodIn_of _ (by decide +kernel)) ggL_law_X5_numLimb
set_option maxRecDepth 20000 in
theorem ggL_law_X4_denLimb : GoodIn wsL_law wsX4_denLimb := goodIn_r _ [430, 41, 42, 116, 117, 118, 2, 119, 418, 154, 155, 31, 156, 54, 152, 486, 487, 488, 489, 490, 491, 492, 493, 494, 495, 496, 497, 498, 499, 507, 508, 509, 524, 525] (by decide +kernel) (by decide +kernel)
set_option maxRecDepth 20000 in
theorem gL_law_X4_denLimb : GoodIn wsL_law (wsV RL 75 RX4 yX4_denLimb wsX4_denLimb) := goodIn_app (goodIn_of _ (by decide +kernel)) ggL_law_X4_denLimb
set_option maxRecDepth 20000 in
theorem ggL_law_X5_denLimb : GoodIn wsL_law wsX5_denLimb := goodIn_r _ [434, 199, 200, 201, 5, 202, 99, 423, 424, 425, 426, 97, 500, 501, 502, 503, 504, 505, 506] (by decide +kernel) (by decide +kernel)
set_option maxRecDepth 20000 in
theorem gL_law_X5_denLimb : GoodIn wsL_law (wsV RL 78 RX5 yX5_denLimb wsX5_denLimb) := goodIn_app (goodIn_of _ (by decide +kernel)) ggL_law_X5_denLimb
set_option maxRecDepth 20000 in
theorem ggL_law_X4_sign : GoodIn wsL_law wsX4_sign := goodIn_r _ [438, 41, 115, 116, 117, 118, 2, 119, 486, 487, 488, 489, 490, 491, 492, 493, 494, 495, 496, 497, 498, 499, 507, 508, 509] (by decide +kernel) (by decide +kernel)
set_option maxRecDepth 20000 in
theorem gL_law_X4_sign : GoodIn wsL_law (wsV RL 79 RX4 yX4_sign wsX4_sign) := goodIn_app (goodIn_of _ (by decide +kernel)) ggL_law_X4_sign
set_option maxRecDepth 20000 in
theorem ggL_law_X5_sign : GoodIn wsL_law wsX5_sign := goodIn_r _ [442, 98, 199, 200, 201, 5, 202, 99, 500, 501, 502, 503, 504, 505, 506] (by decide +kernel) (by decide +kernel)
set_option maxRecDepth 20000 in
theorem gL_law_X5_sign : GoodIn wsL_law (wsV RL 82 RX5 yX5_sign wsX5_sign) := goodIn_app (goodIn_of _ (by decide +kernel)) ggL_law_X5_sign
set_option maxRecDepth 20000 in
theorem ggL_law_X4_best : GoodIn wsL_law wsX4_best := goodIn_r _ [446, 447, 41, 28, 39, 42, 448, 449, 116, 117, 118, 2, 119, 347, 348, 349, 350, 110, 38, 115, 266, 130, 131, 31, 132, 55, 133, 134, 113, 135, 54, 351, 141, 142, 143, 85, 86, 87, 88, 144, 145, 122, 146, 147, 148, 149, 150, 151, 152, 153, 154, 155, 156, 157, 158, 159, 160, 161, 162, 163, 164, 165, 166, 167, 168, 169, 170, 171, 172, 173, 174, 175, 176, 177, 178, 179, 89, 90, 91, 92, 352, 353, 354, 355, 356, 137, 138, 139, 283, 284, 285, 286, 357, 358, 359, 360, 361, 450, 451, 452, 27, 453, 68, 69, 72, 66, 67, 71, 454, 455, 456, 457, 458, 459, 73, 74, 460, 461, 462, 463, 464, 465, 466, 467, 468, 469, 470, 471, 472, 473, 75, 76, 77, 474, 82, 83, 84, 475, 268, 269, 270, 476, 280, 281, 282, 486, 487, 488, 489, 490, 491, 492, 493, 494, 495, 496, 497, 498, 499, 507, 508, 509, 513, 514, 515, 516, 517, 518, 519, 520, 521, 522, 523, 524, 525] (by decide +kernel) (by decide +kernel)
set_option maxRecDepth 20000 in
theorem gL_law_X4_best : GoodIn wsL_law (wsV RL 83 RX4 yX4_best wsX4_best) := goodIn_app (goodIn_of _ (by decide +kernel)) ggL_law_X4_best
set_option maxRecDepth 20000 in
theorem ggL_law_X5_best : GoodIn wsL_law wsX5_best := goodIn_r _ [480, 481, 98, 199, 200, 201, 5, 202, 99, 385, 363, 364, 365, 366, 367, 368, 369, 370, 371, 245, 246, 247, 248, 219, 97, 101, 102, 103, 104, 105, 249, 250, 251, 252, 241, 242, 243, 244, 232, 233, 234, 235, 236, 237, 238, 239, 240, 211, 212, 213, 214, 220, 221, 222, 223, 303, 304, 305, 306, 372, 373, 374, 375, 376, 482, 483, 484, 485, 500, 501, 502, 503, 504, 505, 506] (by decide +kernel) (by decide +kernel)
set_option maxRecDepth 20000 in
theorem gL_law_X5_best : GoodIn wsL_law (wsV RL 87 RX5 yX5_best wsX5_best) := goodIn_app (goodIn_of _ (by decide +kernel)) ggL_law_X5_best
theorem dL_law_0 : decode cL_law 0 = .ok (.new 7, 3) := by decide +kernel
theorem dL_law_3 : decode cL_law 3 = .ok (.dup, 1) := by decide +kernel
theorem dL_law_4 : decode cL_law 4 = .ok (.aload_n 0, 1) := by decide +kernel
theorem dL_law_5 : decode cL_law 5 = .ok (.iconst 0, 1) := by decide +kernel
theorem dL_law_6 : decode cL_law 6 = .ok (.invokestatic 9, 3) := by decide +kernel
theorem dL_law_9 : decode cL_law 9 = .ok (.aload_n 0, 1) := by decide +kernel
theorem dL_law_10 : decode cL_law 10 = .ok (.iconst 1, 1) := by decide +kernel
theorem dL_law_11 : decode cL_law 11 = .ok (.invokestatic 9, 3) := by decide +kernel
theorem dL_law_14 : decode cL_law 14 = .ok (.invokespecial 15, 3) := by decide +kernel
theorem dL_law_17 : decode cL_law 17 = .ok (.astore_n 1, 1) := by decide +kernel
theorem dL_law_18 : decode cL_law 18 = .ok (.new 18, 3) := by decide +kernel
theorem dL_law_21 : decode cL_law 21 = .ok (.dup, 1) := by decide +kernel
theorem dL_law_22 : decode cL_law 22 = .ok (.aload_n 0, 1) := by decide +kernel
theorem dL_law_23 : decode cL_law 23 = .ok (.iconst 0, 1) := by decide +kernel
theorem dL_law_24 : decode cL_law 24 = .ok (.invokestatic 9, 3) := by decide +kernel
theorem dL_law_27 : decode cL_law 27 = .ok (.aload_n 0, 1) := by decide +kernel
theorem dL_law_28 : decode cL_law 28 = .ok (.iconst 1, 1) := by decide +kernel
theorem dL_law_29 : decode cL_law 29 = .ok (.invokestatic 9, 3) := by decide +kernel
theorem dL_law_32 : decode cL_law 32 = .ok (.invokespecial 20, 3) := by decide +kernel
theorem dL_law_35 : decode cL_law 35 = .ok (.astore_n 2, 1) := by decide +kernel
theorem dL_law_36 : decode cL_law 36 = .ok (.iconst 2, 1) := by decide +kernel
theorem dL_law_37 : decode cL_law 37 = .ok (.istore_n 3, 1) := by decide +kernel
theorem dL_law_38 : decode cL_law 38 = .ok (.iload_n 3, 1) := by decide +kernel
theorem dL_law_39 : decode cL_law 39 = .ok (.aload_n 0, 1) := by decide +kernel
theorem dL_law_40 : decode cL_law 40 = .ok (.arraylength, 1) := by decide +kernel
theorem dL_law_41 : decode cL_law 41 = .ok (.iconst 4, 1) := by decide +kernel
theorem dL_law_42 : decode cL_law 42 = .ok (.isub, 1) := by decide +kernel
theorem dL_law_43 : decode cL_law 43 = .ok (.if_icmp .gt 567, 3) := by decide +kernel
theorem dL_law_46 : decode cL_law 46 = .ok (.aload_n 0, 1) := by decide +kernel
theorem dL_law_47 : decode cL_law 47 = .ok (.iload_n 3, 1) := by decide +kernel
theorem dL_law_48 : decode cL_law 48 = .ok (.iaload, 1) := by decide +kernel
theorem dL_law_49 : decode cL_law 49 = .ok (.bipush 15, 2) := by decide +kernel
theorem dL_law_51 : decode cL_law 51 = .ok (.iand, 1) := by decide +kernel
theorem dL_law_52 : decode cL_law 52 = .ok (.tableswitch 552 0 14 #[76, 119, 162, 205, 248, 291, 324, 347, 370, 393, 406, 419, 452, 485, 508], 76) := by decide +kernel
theorem dL_law_128 : decode cL_law 128 = .ok (.aload_n 1, 1) := by decide +kernel
theorem dL_law_129 : decode cL_law 129 = .ok (.aload_n 0, 1) := by decide +kernel
theorem dL_law_130 : decode cL_law 130 = .ok (.iload_n 3, 1) := by decide +kernel
theorem dL_law_131 : decode cL_law 131 = .ok (.iconst 1, 1) := by decide +kernel
theorem dL_law_132 : decode cL_law 132 = .ok (.iadd, 1) := by decide +kernel
theorem dL_law_133 : decode cL_law 133 = .ok (.iaload, 1) := by decide +kernel
theorem dL_law_134 : decode cL_law 134 = .ok (.aload_n 0, 1) := by decide +kernel
theorem dL_law_135 : decode cL_law 135 = .ok (.iload_n 3, 1) := by decide +kernel
theorem dL_law_136 : decode cL_law 136 = .ok (.iconst 2, 1) := by decide +kernel
theorem dL_law_137 : decode cL_law 137 = .ok (.iadd, 1) := by decide +kernel
theorem dL_law_138 : decode cL_law 138 = .ok (.iaload, 1) := by decide +kernel
theorem dL_law_139 : decode cL_law 139 = .ok (.aload_n 0, 1) := by decide +kernel
theorem dL_law_140 : decode cL_law 140 = .ok (.iload_n 3, 1) := by decide +kernel
theorem dL_law_141 : decode cL_law 141 = .ok (.iconst 3, 1) := by decide +kernel
theorem dL_law_142 : decode cL_law 142 = .ok (.iadd, 1) := by decide +kernel
theorem dL_law_143 : decode cL_law 143 = .ok (.iaload, 1) := by decide +kernel
theorem dL_law_144 : decode cL_law 144 = .ok (.invokevirtual 21, 3) := by decide +kernel
theorem dL_law_147 : decode cL_law 147 = .ok (.aload_n 2, 1) := by decide +kernel
theorem dL_law_148 : decode cL_law 148 = .ok (.aload_n 0, 1) := by decide +kernel
theorem dL_law_149 : decode cL_law 149 = .ok (.iload_n 3, 1) := by decide +kernel
theorem dL_law_150 : decode cL_law 150 = .ok (.iconst 1, 1) := by decide +kernel
theorem dL_law_151 : decode cL_law 151 = .ok (.iadd, 1) := by decide +kernel
theorem dL_law_152 : decode cL_law 152 = .ok (.iaload, 1) := by decide +kernel
theorem dL_law_153 : decode cL_law 153 = .ok (.aload_n 0, 1) := by decide +kernel
theorem dL_law_154 : decode cL_law 154 = .ok (.iload_n 3, 1) := by decide +kernel
theorem dL_law_155 : decode cL_law 155 = .ok (.iconst 2, 1) := by decide +kernel
theorem dL_law_156 : decode cL_law 156 = .ok (.iadd, 1) := by decide +kernel
theorem dL_law_157 : decode cL_law 157 = .ok (.iaload, 1) := by decide +kernel
theorem dL_law_158 : decode cL_law 158 = .ok (.aload_n 0, 1) := by decide +kernel
theorem dL_law_159 : decode cL_law 159 = .ok (.iload_n 3, 1) := by decide +kernel
theorem dL_law_160 : decode cL_law 160 = .ok (.iconst 3, 1) := by decide +kernel
theorem dL_law_161 : decode cL_law 161 = .ok (.iadd, 1) := by decide +kernel
theorem dL_law_162 : decode cL_law 162 = .ok (.iaload, 1) := by decide +kernel
theorem dL_law_163 : decode cL_law 163 = .ok (.invokevirtual 25, 3) := by decide +kernel
theorem dL_law_166 : decode cL_law 166 = .ok (.if_icmp .eq 438, 3) := by decide +kernel
theorem dL_law_169 : decode cL_law 169 = .ok (.iconst 0, 1) := by decide +kernel
theorem dL_law_170 : decode cL_law 170 = .ok (.ireturn, 1) := by decide +kernel
theorem dL_law_171 : decode cL_law 171 = .ok (.aload_n 1, 1) := by decide +kernel
theorem dL_law_172 : decode cL_law 172 = .ok (.aload_n 0, 1) := by decide +kernel
theorem dL_law_173 : decode cL_law 173 = .ok (.iload_n 3, 1) := by decide +kernel
theorem dL_law_174 : decode cL_law 174 = .ok (.iconst 1, 1) := by decide +kernel
theorem dL_law_175 : decode cL_law 175 = .ok (.iadd, 1) := by decide +kernel
theorem dL_law_176 : decode cL_law 176 = .ok (.iaload, 1) := by decide +kernel
theorem dL_law_177 : decode cL_law 177 = .ok (.aload_n 0, 1) := by decide +kernel
theorem dL_law_178 : decode cL_law 178 = .ok (.iload_n 3, 1) := by decide +kernel
theorem dL_law_179 : decode cL_law 179 = .ok (.iconst 2, 1) := by decide +kernel
theorem dL_law_180 : decode cL_law 180 = .ok (.iadd, 1) := by decide +kernel
theorem dL_law_181 : decode cL_law 181 = .ok (.iaload, 1) := by decide +kernel
theorem dL_law_182 : decode cL_law 182 = .ok (.aload_n 0, 1) := by decide +kernel
theorem dL_law_183 : decode cL_law 183 = .ok (.iload_n 3, 1) := by decide +kernel
theorem dL_law_184 : decode cL_law 184 = .ok (.iconst 3, 1) := by decide +kernel
theorem dL_law_185 : decode cL_law 185 = .ok (.iadd, 1) := by decide +kernel
theorem dL_law_186 : decode cL_law 186 = .ok (.iaload, 1) := by decide +kernel
theorem dL_law_187 : decode cL_law 187 = .ok (.invokevirtual 26, 3) := by decide +kernel
theorem dL_law_190 : decode cL_law 190 = .ok (.aload_n 2, 1) := by decide +kernel
theorem dL_law_191 : decode cL_law 191 = .ok (.aload_n 0, 1) := by decide +kernel
theorem dL_law_192 : decode cL_law 192 = .ok (.iload_n 3, 1) := by decide +kernel
theorem dL_law_193 : decode cL_law 193 = .ok (.iconst 1, 1) := by decide +kernel
theorem dL_law_194 : decode cL_law 194 = .ok (.iadd, 1) := by decide +kernel
theorem dL_law_195 : decode cL_law 195 = .ok (.iaload, 1) := by decide +kernel
theorem dL_law_196 : decode cL_law 196 = .ok (.aload_n 0, 1) := by decide +kernel
theorem dL_law_197 : decode cL_law 197 = .ok (.iload_n 3, 1) := by decide +kernel
theorem dL_law_198 : decode cL_law 198 = .ok (.iconst 2, 1) := by decide +kernel
theorem dL_law_199 : decode cL_law 199 = .ok (.iadd, 1) := by decide +kernel
theorem dL_law_200 : decode cL_law 200 = .ok (.iaload, 1) := by decide +kernel
theorem dL_law_201 : decode cL_law 201 = .ok (.aload_n 0, 1) := by decide +kernel
theorem dL_law_202 : decode cL_law 202 = .ok (.iload_n 3, 1) := by decide +kernel
theorem dL_law_203 : decode cL_law 203 = .ok (.iconst 3, 1) := by decide +kernel
theorem dL_law_204 : decode cL_law 204 = .ok (.iadd, 1) := by decide +kernel
theorem dL_law_205 : decode cL_law 205 = .ok (.iaload, 1) := by decide +kernel
theorem dL_law_206 : decode cL_law 206 = .ok (.invokevirtual 29, 3) := by decide +kernel
theorem dL_law_209 : decode cL_law 209 = .ok (.if_icmp .eq 395, 3) := by decide +kernel
theorem dL_law_212 : decode cL_law 212 = .ok (.iconst 0, 1) := by decide +kernel
theorem dL_law_213 : decode cL_law 213 = .ok (.ireturn, 1) := by decide +kernel
theorem dL_law_214 : decode cL_law 214 = .ok (.aload_n 1, 1) := by decide +kernel
theorem dL_law_215 : decode cL_law 215 = .ok (.aload_n 0, 1) := by decide +kernel
theorem dL_law_216 : decode cL_law 216 = .ok (.iload_n 3, 1) := by decide +kernel
theorem dL_law_217 : decode cL_law 217 = .ok (.iconst 1, 1) := by decide +kernel
theorem dL_law_218 : decode cL_law 218 = .ok (.iadd, 1) := by decide +kernel
theorem dL_law_219 : decode cL_law 219 = .ok (.iaload, 1) := by decide +kernel
theorem dL_law_220 : decode cL_law 220 = .ok (.aload_n 0, 1) := by decide +kernel
theorem dL_law_221 : decode cL_law 221 = .ok (.iload_n 3, 1) := by decide +kernel
theorem dL_law_222 : decode cL_law 222 = .ok (.iconst 2, 1) := by decide +kernel
theorem dL_law_223 : decode cL_law 223 = .ok (.iadd, 1) := by decide +kernel
theorem dL_law_224 : decode cL_law 224 = .ok (.iaload, 1) := by decide +kernel
theorem dL_law_225 : decode cL_law 225 = .ok (.aload_n 0, 1) := by decide +kernel
theorem dL_law_226 : decode cL_law 226 = .ok (.iload_n 3, 1) := by decide +kernel
theorem dL_law_227 : decode cL_law 227 = .ok (.iconst 3, 1) := by decide +kernel
theorem dL_law_228 : decode cL_law 228 = .ok (.iadd, 1) := by decide +kernel
theorem dL_law_229 : decode cL_law 229 = .ok (.iaload, 1) := by decide +kernel
theorem dL_law_230 : decode cL_law 230 = .ok (.invokevirtual 30, 3) := by decide +kernel
theorem dL_law_233 : decode cL_law 233 = .ok (.aload_n 2, 1) := by decide +kernel
theorem dL_law_234 : decode cL_law 234 = .ok (.aload_n 0, 1) := by decide +kernel
theorem dL_law_235 : decode cL_law 235 = .ok (.iload_n 3, 1) := by decide +kernel
theorem dL_law_236 : decode cL_law 236 = .ok (.iconst 1, 1) := by decide +kernel
theorem dL_law_237 : decode cL_law 237 = .ok (.iadd, 1) := by decide +kernel
theorem dL_law_238 : decode cL_law 238 = .ok (.iaload, 1) := by decide +kernel
theorem dL_law_239 : decode cL_law 239 = .ok (.aload_n 0, 1) := by decide +kernel
theorem dL_law_240 : decode cL_law 240 = .ok (.iload_n 3, 1) := by decide +kernel
theorem dL_law_241 : decode cL_law 241 = .ok (.iconst 2, 1) := by decide +kernel
theorem dL_law_242 : decode cL_law 242 = .ok (.iadd, 1) := by decide +kernel
theorem dL_law_243 : decode cL_law 243 = .ok (.iaload, 1) := by decide +kernel
theorem dL_law_244 : decode cL_law 244 = .ok (.aload_n 0, 1) := by decide +kernel
theorem dL_law_245 : decode cL_law 245 = .ok (.iload_n 3, 1) := by decide +kernel
theorem dL_law_246 : decode cL_law 246 = .ok (.iconst 3, 1) := by decide +kernel
theorem dL_law_247 : decode cL_law 247 = .ok (.iadd, 1) := by decide +kernel
theorem dL_law_248 : decode cL_law 248 = .ok (.iaload, 1) := by decide +kernel
theorem dL_law_249 : decode cL_law 249 = .ok (.invokevirtual 33, 3) := by decide +kernel
theorem dL_law_252 : decode cL_law 252 = .ok (.if_icmp .eq 352, 3) := by decide +kernel
theorem dL_law_255 : decode cL_law 255 = .ok (.iconst 0, 1) := by decide +kernel
theorem dL_law_256 : decode cL_law 256 = .ok (.ireturn, 1) := by decide +kernel
theorem dL_law_257 : decode cL_law 257 = .ok (.aload_n 1, 1) := by decide +kernel
theorem dL_law_258 : decode cL_law 258 = .ok (.aload_n 0, 1) := by decide +kernel
theorem dL_law_259 : decode cL_law 259 = .ok (.iload_n 3, 1) := by decide +kernel
theorem dL_law_260 : decode cL_law 260 = .ok (.iconst 1, 1) := by decide +kernel
theorem dL_law_261 : decode cL_law 261 = .ok (.iadd, 1) := by decide +kernel
theorem dL_law_262 : decode cL_law 262 = .ok (.iaload, 1) := by decide +kernel
theorem dL_law_263 : decode cL_law 263 = .ok (.aload_n 0, 1) := by decide +kernel
theorem dL_law_264 : decode cL_law 264 = .ok (.iload_n 3, 1) := by decide +kernel
theorem dL_law_265 : decode cL_law 265 = .ok (.iconst 2, 1) := by decide +kernel
theorem dL_law_266 : decode cL_law 266 = .ok (.iadd, 1) := by decide +kernel
theorem dL_law_267 : decode cL_law 267 = .ok (.iaload, 1) := by decide +kernel
theorem dL_law_268 : decode cL_law 268 = .ok (.aload_n 0, 1) := by decide +kernel
theorem dL_law_269 : decode cL_law 269 = .ok (.iload_n 3, 1) := by decide +kernel
theorem dL_law_270 : decode cL_law 270 = .ok (.iconst 3, 1) := by decide +kernel
theorem dL_law_271 : decode cL_law 271 = .ok (.iadd, 1) := by decide +kernel
theorem dL_law_272 : decode cL_law 272 = .ok (.iaload, 1) := by decide +kernel
theorem dL_law_273 : decode cL_law 273 = .ok (.invokevirtual 34, 3) := by decide +kernel
theorem dL_law_276 : decode cL_law 276 = .ok (.aload_n 2, 1) := by decide +kernel
theorem dL_law_277 : decode cL_law 277 = .ok (.aload_n 0, 1) := by decide +kernel
theorem dL_law_278 : decode cL_law 278 = .ok (.iload_n 3, 1) := by decide +kernel
theorem dL_law_279 : decode cL_law 279 = .ok (.iconst 1, 1) := by decide +kernel
theorem dL_law_280 : decode cL_law 280 = .ok (.iadd, 1) := by decide +kernel
theorem dL_law_281 : decode cL_law 281 = .ok (.iaload, 1) := by decide +kernel
theorem dL_law_282 : decode cL_law 282 = .ok (.aload_n 0, 1) := by decide +kernel
theorem dL_law_283 : decode cL_law 283 = .ok (.iload_n 3, 1) := by decide +kernel
theorem dL_law_284 : decode cL_law 284 = .ok (.iconst 2, 1) := by decide +kernel
theorem dL_law_285 : decode cL_law 285 = .ok (.iadd, 1) := by decide +kernel
theorem dL_law_286 : decode cL_law 286 = .ok (.iaload, 1) := by decide +kernel
theorem dL_law_287 : decode cL_law 287 = .ok (.aload_n 0, 1) := by decide +kernel
theorem dL_law_288 : decode cL_law 288 = .ok (.iload_n 3, 1) := by decide +kernel
theorem dL_law_289 : decode cL_law 289 = .ok (.iconst 3, 1) := by decide +kernel
theorem dL_law_290 : decode cL_law 290 = .ok (.iadd, 1) := by decide +kernel
theorem dL_law_291 : decode cL_law 291 = .ok (.iaload, 1) := by decide +kernel
theorem dL_law_292 : decode cL_law 292 = .ok (.invokevirtual 37, 3) := by decide +kernel
theorem dL_law_295 : decode cL_law 295 = .ok (.if_icmp .eq 309, 3) := by decide +kernel
theorem dL_law_298 : decode cL_law 298 = .ok (.iconst 0, 1) := by decide +kernel
theorem dL_law_299 : decode cL_law 299 = .ok (.ireturn, 1) := by decide +kernel
theorem dL_law_300 : decode cL_law 300 = .ok (.aload_n 1, 1) := by decide +kernel
theorem dL_law_301 : decode cL_law 301 = .ok (.aload_n 0, 1) := by decide +kernel
theorem dL_law_302 : decode cL_law 302 = .ok (.iload_n 3, 1) := by decide +kernel
theorem dL_law_303 : decode cL_law 303 = .ok (.iconst 1, 1) := by decide +kernel
theorem dL_law_304 : decode cL_law 304 = .ok (.iadd, 1) := by decide +kernel
theorem dL_law_305 : decode cL_law 305 = .ok (.iaload, 1) := by decide +kernel
theorem dL_law_306 : decode cL_law 306 = .ok (.aload_n 0, 1) := by decide +kernel
theorem dL_law_307 : decode cL_law 307 = .ok (.iload_n 3, 1) := by decide +kernel
theorem dL_law_308 : decode cL_law 308 = .ok (.iconst 2, 1) := by decide +kernel
theorem dL_law_309 : decode cL_law 309 = .ok (.iadd, 1) := by decide +kernel
theorem dL_law_310 : decode cL_law 310 = .ok (.iaload, 1) := by decide +kernel
theorem dL_law_311 : decode cL_law 311 = .ok (.aload_n 0, 1) := by decide +kernel
theorem dL_law_312 : decode cL_law 312 = .ok (.iload_n 3, 1) := by decide +kernel
theorem dL_law_313 : decode cL_law 313 = .ok (.iconst 3, 1) := by decide +kernel
theorem dL_law_314 : decode cL_law 314 = .ok (.iadd, 1) := by decide +kernel
theorem dL_law_315 : decode cL_law 315 = .ok (.iaload, 1) := by decide +kernel
theorem dL_law_316 : decode cL_law 316 = .ok (.invokevirtual 38, 3) := by decide +kernel
theorem dL_law_319 : decode cL_law 319 = .ok (.aload_n 2, 1) := by decide +kernel
theorem dL_law_320 : decode cL_law 320 = .ok (.aload_n 0, 1) := by decide +kernel
theorem dL_law_321 : decode cL_law 321 = .ok (.iload_n 3, 1) := by decide +kernel
theorem dL_law_322 : decode cL_law 322 = .ok (.iconst 1, 1) := by decide +kernel
theorem dL_law_323 : decode cL_law 323 = .ok (.iadd, 1) := by decide +kernel
theorem dL_law_324 : decode cL_law 324 = .ok (.iaload, 1) := by decide +kernel
theorem dL_law_325 : decode cL_law 325 = .ok (.aload_n 0, 1) := by decide +kernel
theorem dL_law_326 : decode cL_law 326 = .ok (.iload_n 3, 1) := by decide +kernel
theorem dL_law_327 : decode cL_law 327 = .ok (.iconst 2, 1) := by decide +kernel
theorem dL_law_328 : decode cL_law 328 = .ok (.iadd, 1) := by decide +kernel
theorem dL_law_329 : decode cL_law 329 = .ok (.iaload, 1) := by decide +kernel
theorem dL_law_330 : decode cL_law 330 = .ok (.aload_n 0, 1) := by decide +kernel
theorem dL_law_331 : decode cL_law 331 = .ok (.iload_n 3, 1) := by decide +kernel
theorem dL_law_332 : decode cL_law 332 = .ok (.iconst 3, 1) := by decide +kernel
theorem dL_law_333 : decode cL_law 333 = .ok (.iadd, 1) := by decide +kernel
theorem dL_law_334 : decode cL_law 334 = .ok (.iaload, 1) := by decide +kernel
theorem dL_law_335 : decode cL_law 335 = .ok (.invokevirtual 41, 3) := by decide +kernel
theorem dL_law_338 : decode cL_law 338 = .ok (.if_icmp .eq 266, 3) := by decide +kernel
theorem dL_law_341 : decode cL_law 341 = .ok (.iconst 0, 1) := by decide +kernel
theorem dL_law_342 : decode cL_law 342 = .ok (.ireturn, 1) := by decide +kernel
theorem dL_law_343 : decode cL_law 343 = .ok (.aload_n 1, 1) := by decide +kernel
theorem dL_law_344 : decode cL_law 344 = .ok (.aload_n 0, 1) := by decide +kernel
theorem dL_law_345 : decode cL_law 345 = .ok (.iload_n 3, 1) := by decide +kernel
theorem dL_law_346 : decode cL_law 346 = .ok (.iconst 1, 1) := by decide +kernel
theorem dL_law_347 : decode cL_law 347 = .ok (.iadd, 1) := by decide +kernel
theorem dL_law_348 : decode cL_law 348 = .ok (.iaload, 1) := by decide +kernel
theorem dL_law_349 : decode cL_law 349 = .ok (.aload_n 0, 1) := by decide +kernel
theorem dL_law_350 : decode cL_law 350 = .ok (.iload_n 3, 1) := by decide +kernel
theorem dL_law_351 : decode cL_law 351 = .ok (.iconst 2, 1) := by decide +kernel
theorem dL_law_352 : decode cL_law 352 = .ok (.iadd, 1) := by decide +kernel
theorem dL_law_353 : decode cL_law 353 = .ok (.iaload, 1) := by decide +kernel
theorem dL_law_354 : decode cL_law 354 = .ok (.invokevirtual 42, 3) := by decide +kernel
theorem dL_law_357 : decode cL_law 357 = .ok (.aload_n 2, 1) := by decide +kernel
theorem dL_law_358 : decode cL_law 358 = .ok (.aload_n 0, 1) := by decide +kernel
theorem dL_law_359 : decode cL_law 359 = .ok (.iload_n 3, 1) := by decide +kernel
theorem dL_law_360 : decode cL_law 360 = .ok (.iconst 1, 1) := by decide +kernel
theorem dL_law_361 : decode cL_law 361 = .ok (.iadd, 1) := by decide +kernel
theorem dL_law_362 : decode cL_law 362 = .ok (.iaload, 1) := by decide +kernel
theorem dL_law_363 : decode cL_law 363 = .ok (.aload_n 0, 1) := by decide +kernel
theorem dL_law_364 : decode cL_law 364 = .ok (.iload_n 3, 1) := by decide +kernel
theorem dL_law_365 : decode cL_law 365 = .ok (.iconst 2, 1) := by decide +kernel
theorem dL_law_366 : decode cL_law 366 = .ok (.iadd, 1) := by decide +kernel
theorem dL_law_367 : decode cL_law 367 = .ok (.iaload, 1) := by decide +kernel
theorem dL_law_368 : decode cL_law 368 = .ok (.invokevirtual 46, 3) := by decide +kernel
theorem dL_law_371 : decode cL_law 371 = .ok (.if_icmp .eq 233, 3) := by decide +kernel
theorem dL_law_374 : decode cL_law 374 = .ok (.iconst 0, 1) := by decide +kernel
theorem dL_law_375 : decode cL_law 375 = .ok (.ireturn, 1) := by decide +kernel
theorem dL_law_376 : decode cL_law 376 = .ok (.aload_n 1, 1) := by decide +kernel
theorem dL_law_377 : decode cL_law 377 = .ok (.aload_n 0, 1) := by decide +kernel
theorem dL_law_378 : decode cL_law 378 = .ok (.iload_n 3, 1) := by decide +kernel
theorem dL_law_379 : decode cL_law 379 = .ok (.iconst 1, 1) := by decide +kernel
theorem dL_law_380 : decode cL_law 380 = .ok (.iadd, 1) := by decide +kernel
theorem dL_law_381 : decode cL_law 381 = .ok (.iaload, 1) := by decide +kernel
theorem dL_law_382 : decode cL_law 382 = .ok (.invokevirtual 47, 3) := by decide +kernel
theorem dL_law_385 : decode cL_law 385 = .ok (.aload_n 2, 1) := by decide +kernel
theorem dL_law_386 : decode cL_law 386 = .ok (.aload_n 0, 1) := by decide +kernel
theorem dL_law_387 : decode cL_law 387 = .ok (.iload_n 3, 1) := by decide +kernel
theorem dL_law_388 : decode cL_law 388 = .ok (.iconst 1, 1) := by decide +kernel
theorem dL_law_389 : decode cL_law 389 = .ok (.iadd, 1) := by decide +kernel
theorem dL_law_390 : decode cL_law 390 = .ok (.iaload, 1) := by decide +kernel
theorem dL_law_391 : decode cL_law 391 = .ok (.invokevirtual 51, 3) := by decide +kernel
theorem dL_law_394 : decode cL_law 394 = .ok (.if_icmp .eq 210, 3) := by decide +kernel
theorem dL_law_397 : decode cL_law 397 = .ok (.iconst 0, 1) := by decide +kernel
theorem dL_law_398 : decode cL_law 398 = .ok (.ireturn, 1) := by decide +kernel
theorem dL_law_399 : decode cL_law 399 = .ok (.aload_n 1, 1) := by decide +kernel
theorem dL_law_400 : decode cL_law 400 = .ok (.aload_n 0, 1) := by decide +kernel
theorem dL_law_401 : decode cL_law 401 = .ok (.iload_n 3, 1) := by decide +kernel
theorem dL_law_402 : decode cL_law 402 = .ok (.iconst 1, 1) := by decide +kernel
theorem dL_law_403 : decode cL_law 403 = .ok (.iadd, 1) := by decide +kernel
theorem dL_law_404 : decode cL_law 404 = .ok (.iaload, 1) := by decide +kernel
theorem dL_law_405 : decode cL_law 405 = .ok (.invokevirtual 52, 3) := by decide +kernel
theorem dL_law_408 : decode cL_law 408 = .ok (.aload_n 2, 1) := by decide +kernel
theorem dL_law_409 : decode cL_law 409 = .ok (.aload_n 0, 1) := by decide +kernel
theorem dL_law_410 : decode cL_law 410 = .ok (.iload_n 3, 1) := by decide +kernel
theorem dL_law_411 : decode cL_law 411 = .ok (.iconst 1, 1) := by decide +kernel
theorem dL_law_412 : decode cL_law 412 = .ok (.iadd, 1) := by decide +kernel
theorem dL_law_413 : decode cL_law 413 = .ok (.iaload, 1) := by decide +kernel
theorem dL_law_414 : decode cL_law 414 = .ok (.invokevirtual 56, 3) := by decide +kernel
theorem dL_law_417 : decode cL_law 417 = .ok (.if_icmp .eq 187, 3) := by decide +kernel
theorem dL_law_420 : decode cL_law 420 = .ok (.iconst 0, 1) := by decide +kernel
theorem dL_law_421 : decode cL_law 421 = .ok (.ireturn, 1) := by decide +kernel
theorem dL_law_422 : decode cL_law 422 = .ok (.aload_n 1, 1) := by decide +kernel
theorem dL_law_423 : decode cL_law 423 = .ok (.aload_n 0, 1) := by decide +kernel
theorem dL_law_424 : decode cL_law 424 = .ok (.iload_n 3, 1) := by decide +kernel
theorem dL_law_425 : decode cL_law 425 = .ok (.iconst 1, 1) := by decide +kernel
theorem dL_law_426 : decode cL_law 426 = .ok (.iadd, 1) := by decide +kernel
theorem dL_law_427 : decode cL_law 427 = .ok (.iaload, 1) := by decide +kernel
theorem dL_law_428 : decode cL_law 428 = .ok (.invokevirtual 57, 3) := by decide +kernel
theorem dL_law_431 : decode cL_law 431 = .ok (.aload_n 2, 1) := by decide +kernel
theorem dL_law_432 : decode cL_law 432 = .ok (.aload_n 0, 1) := by decide +kernel
theorem dL_law_433 : decode cL_law 433 = .ok (.iload_n 3, 1) := by decide +kernel
theorem dL_law_434 : decode cL_law 434 = .ok (.iconst 1, 1) := by decide +kernel
theorem dL_law_435 : decode cL_law 435 = .ok (.iadd, 1) := by decide +kernel
theorem dL_law_436 : decode cL_law 436 = .ok (.iaload, 1) := by decide +kernel
theorem dL_law_437 : decode cL_law 437 = .ok (.invokevirtual 60, 3) := by decide +kernel
theorem dL_law_440 : decode cL_law 440 = .ok (.if_icmp .eq 164, 3) := by decide +kernel
theorem dL_law_443 : decode cL_law 443 = .ok (.iconst 0, 1) := by decide +kernel
theorem dL_law_444 : decode cL_law 444 = .ok (.ireturn, 1) := by decide +kernel
theorem dL_law_445 : decode cL_law 445 = .ok (.aload_n 1, 1) := by decide +kernel
theorem dL_law_446 : decode cL_law 446 = .ok (.invokevirtual 61, 3) := by decide +kernel
theorem dL_law_449 : decode cL_law 449 = .ok (.aload_n 2, 1) := by decide +kernel
theorem dL_law_450 : decode cL_law 450 = .ok (.invokevirtual 65, 3) := by decide +kernel
theorem dL_law_453 : decode cL_law 453 = .ok (.if_icmp .eq 151, 3) := by decide +kernel
theorem dL_law_456 : decode cL_law 456 = .ok (.iconst 0, 1) := by decide +kernel
theorem dL_law_457 : decode cL_law 457 = .ok (.ireturn, 1) := by decide +kernel
theorem dL_law_458 : decode cL_law 458 = .ok (.aload_n 1, 1) := by decide +kernel
theorem dL_law_459 : decode cL_law 459 = .ok (.invokevirtual 66, 3) := by decide +kernel
theorem dL_law_462 : decode cL_law 462 = .ok (.aload_n 2, 1) := by decide +kernel
theorem dL_law_463 : decode cL_law 463 = .ok (.invokevirtual 70, 3) := by decide +kernel
theorem dL_law_466 : decode cL_law 466 = .ok (.if_icmp .eq 138, 3) := by decide +kernel
theorem dL_law_469 : decode cL_law 469 = .ok (.iconst 0, 1) := by decide +kernel
theorem dL_law_470 : decode cL_law 470 = .ok (.ireturn, 1) := by decide +kernel
theorem dL_law_471 : decode cL_law 471 = .ok (.aload_n 1, 1) := by decide +kernel
theorem dL_law_472 : decode cL_law 472 = .ok (.aload_n 0, 1) := by decide +kernel
theorem dL_law_473 : decode cL_law 473 = .ok (.iload_n 3, 1) := by decide +kernel
theorem dL_law_474 : decode cL_law 474 = .ok (.iconst 1, 1) := by decide +kernel
theorem dL_law_475 : decode cL_law 475 = .ok (.iadd, 1) := by decide +kernel
theorem dL_law_476 : decode cL_law 476 = .ok (.iaload, 1) := by decide +kernel
theorem dL_law_477 : decode cL_law 477 = .ok (.aload_n 0, 1) := by decide +kernel
theorem dL_law_478 : decode cL_law 478 = .ok (.iload_n 3, 1) := by decide +kernel
theorem dL_law_479 : decode cL_law 479 = .ok (.iconst 2, 1) := by decide +kernel
theorem dL_law_480 : decode cL_law 480 = .ok (.iadd, 1) := by decide +kernel
theorem dL_law_481 : decode cL_law 481 = .ok (.iaload, 1) := by decide +kernel
theorem dL_law_482 : decode cL_law 482 = .ok (.invokevirtual 71, 3) := by decide +kernel
theorem dL_law_485 : decode cL_law 485 = .ok (.aload_n 2, 1) := by decide +kernel
theorem dL_law_486 : decode cL_law 486 = .ok (.aload_n 0, 1) := by decide +kernel
theorem dL_law_487 : decode cL_law 487 = .ok (.iload_n 3, 1) := by decide +kernel
theorem dL_law_488 : decode cL_law 488 = .ok (.iconst 1, 1) := by decide +kernel
theorem dL_law_489 : decode cL_law 489 = .ok (.iadd, 1) := by decide +kernel
theorem dL_law_490 : decode cL_law 490 = .ok (.iaload, 1) := by decide +kernel
theorem dL_law_491 : decode cL_law 491 = .ok (.aload_n 0, 1) := by decide +kernel
theorem dL_law_492 : decode cL_law 492 = .ok (.iload_n 3, 1) := by decide +kernel
theorem dL_law_493 : decode cL_law 493 = .ok (.iconst 2, 1) := by decide +kernel
theorem dL_law_494 : decode cL_law 494 = .ok (.iadd, 1) := by decide +kernel
theorem dL_law_495 : decode cL_law 495 = .ok (.iaload, 1) := by decide +kernel
theorem dL_law_496 : decode cL_law 496 = .ok (.invokevirtual 74, 3) := by decide +kernel
theorem dL_law_499 : decode cL_law 499 = .ok (.if_icmp .eq 105, 3) := by decide +kernel
theorem dL_law_502 : decode cL_law 502 = .ok (.iconst 0, 1) := by decide +kernel
theorem dL_law_503 : decode cL_law 503 = .ok (.ireturn, 1) := by decide +kernel
theorem dL_law_504 : decode cL_law 504 = .ok (.aload_n 1, 1) := by decide +kernel
theorem dL_law_505 : decode cL_law 505 = .ok (.aload_n 0, 1) := by decide +kernel
theorem dL_law_506 : decode cL_law 506 = .ok (.iload_n 3, 1) := by decide +kernel
theorem dL_law_507 : decode cL_law 507 = .ok (.iconst 1, 1) := by decide +kernel
theorem dL_law_508 : decode cL_law 508 = .ok (.iadd, 1) := by decide +kernel
theorem dL_law_509 : decode cL_law 509 = .ok (.iaload, 1) := by decide +kernel
theorem dL_law_510 : decode cL_law 510 = .ok (.aload_n 0, 1) := by decide +kernel
theorem dL_law_511 : decode cL_law 511 = .ok (.iload_n 3, 1) := by decide +kernel
theorem dL_law_512 : decode cL_law 512 = .ok (.iconst 2, 1) := by decide +kernel
theorem dL_law_513 : decode cL_law 513 = .ok (.iadd, 1) := by decide +kernel
theorem dL_law_514 : decode cL_law 514 = .ok (.iaload, 1) := by decide +kernel
theorem dL_law_515 : decode cL_law 515 = .ok (.invokevirtual 75, 3) := by decide +kernel
theorem dL_law_518 : decode cL_law 518 = .ok (.aload_n 2, 1) := by decide +kernel
theorem dL_law_519 : decode cL_law 519 = .ok (.aload_n 0, 1) := by decide +kernel
theorem dL_law_520 : decode cL_law 520 = .ok (.iload_n 3, 1) := by decide +kernel
theorem dL_law_521 : decode cL_law 521 = .ok (.iconst 1, 1) := by decide +kernel
theorem dL_law_522 : decode cL_law 522 = .ok (.iadd, 1) := by decide +kernel
theorem dL_law_523 : decode cL_law 523 = .ok (.iaload, 1) := by decide +kernel
theorem dL_law_524 : decode cL_law 524 = .ok (.aload_n 0, 1) := by decide +kernel
theorem dL_law_525 : decode cL_law 525 = .ok (.iload_n 3, 1) := by decide +kernel
theorem dL_law_526 : decode cL_law 526 = .ok (.iconst 2, 1) := by decide +kernel
theorem dL_law_527 : decode cL_law 527 = .ok (.iadd, 1) := by decide +kernel
theorem dL_law_528 : decode cL_law 528 = .ok (.iaload, 1) := by decide +kernel
theorem dL_law_529 : decode cL_law 529 = .ok (.invokevirtual 78, 3) := by decide +kernel
theorem dL_law_532 : decode cL_law 532 = .ok (.if_icmp .eq 72, 3) := by decide +kernel
theorem dL_law_535 : decode cL_law 535 = .ok (.iconst 0, 1) := by decide +kernel
theorem dL_law_536 : decode cL_law 536 = .ok (.ireturn, 1) := by decide +kernel
theorem dL_law_537 : decode cL_law 537 = .ok (.aload_n 1, 1) := by decide +kernel
theorem dL_law_538 : decode cL_law 538 = .ok (.aload_n 0, 1) := by decide +kernel
theorem dL_law_539 : decode cL_law 539 = .ok (.iload_n 3, 1) := by decide +kernel
theorem dL_law_540 : decode cL_law 540 = .ok (.iconst 1, 1) := by decide +kernel
theorem dL_law_541 : decode cL_law 541 = .ok (.iadd, 1) := by decide +kernel
theorem dL_law_542 : decode cL_law 542 = .ok (.iaload, 1) := by decide +kernel
theorem dL_law_543 : decode cL_law 543 = .ok (.invokevirtual 79, 3) := by decide +kernel
theorem dL_law_546 : decode cL_law 546 = .ok (.aload_n 2, 1) := by decide +kernel
theorem dL_law_547 : decode cL_law 547 = .ok (.aload_n 0, 1) := by decide +kernel
theorem dL_law_548 : decode cL_law 548 = .ok (.iload_n 3, 1) := by decide +kernel
theorem dL_law_549 : decode cL_law 549 = .ok (.iconst 1, 1) := by decide +kernel
theorem dL_law_550 : decode cL_law 550 = .ok (.iadd, 1) := by decide +kernel
theorem dL_law_551 : decode cL_law 551 = .ok (.iaload, 1) := by decide +kernel
theorem dL_law_552 : decode cL_law 552 = .ok (.invokevirtual 82, 3) := by decide +kernel
theorem dL_law_555 : decode cL_law 555 = .ok (.if_icmp .eq 49, 3) := by decide +kernel
theorem dL_law_558 : decode cL_law 558 = .ok (.iconst 0, 1) := by decide +kernel
theorem dL_law_559 : decode cL_law 559 = .ok (.ireturn, 1) := by decide +kernel
theorem dL_law_560 : decode cL_law 560 = .ok (.aload_n 1, 1) := by decide +kernel
theorem dL_law_561 : decode cL_law 561 = .ok (.aload_n 0, 1) := by decide +kernel
theorem dL_law_562 : decode cL_law 562 = .ok (.iload_n 3, 1) := by decide +kernel
theorem dL_law_563 : decode cL_law 563 = .ok (.iconst 1, 1) := by decide +kernel
theorem dL_law_564 : decode cL_law 564 = .ok (.iadd, 1) := by decide +kernel
theorem dL_law_565 : decode cL_law 565 = .ok (.iaload, 1) := by decide +kernel
theorem dL_law_566 : decode cL_law 566 = .ok (.aload_n 0, 1) := by decide +kernel
theorem dL_law_567 : decode cL_law 567 = .ok (.iload_n 3, 1) := by decide +kernel
theorem dL_law_568 : decode cL_law 568 = .ok (.iconst 2, 1) := by decide +kernel
theorem dL_law_569 : decode cL_law 569 = .ok (.iadd, 1) := by decide +kernel
theorem dL_law_570 : decode cL_law 570 = .ok (.iaload, 1) := by decide +kernel
theorem dL_law_571 : decode cL_law 571 = .ok (.aload_n 0, 1) := by decide +kernel
theorem dL_law_572 : decode cL_law 572 = .ok (.iload_n 3, 1) := by decide +kernel
theorem dL_law_573 : decode cL_law 573 = .ok (.iconst 3, 1) := by decide +kernel
theorem dL_law_574 : decode cL_law 574 = .ok (.iadd, 1) := by decide +kernel
theorem dL_law_575 : decode cL_law 575 = .ok (.iaload, 1) := by decide +kernel
theorem dL_law_576 : decode cL_law 576 = .ok (.invokevirtual 83, 3) := by decide +kernel
theorem dL_law_579 : decode cL_law 579 = .ok (.aload_n 2, 1) := by decide +kernel
theorem dL_law_580 : decode cL_law 580 = .ok (.aload_n 0, 1) := by decide +kernel
theorem dL_law_581 : decode cL_law 581 = .ok (.iload_n 3, 1) := by decide +kernel
theorem dL_law_582 : decode cL_law 582 = .ok (.iconst 1, 1) := by decide +kernel
theorem dL_law_583 : decode cL_law 583 = .ok (.iadd, 1) := by decide +kernel
theorem dL_law_584 : decode cL_law 584 = .ok (.iaload, 1) := by decide +kernel
theorem dL_law_585 : decode cL_law 585 = .ok (.aload_n 0, 1) := by decide +kernel
theorem dL_law_586 : decode cL_law 586 = .ok (.iload_n 3, 1) := by decide +kernel
theorem dL_law_587 : decode cL_law 587 = .ok (.iconst 2, 1) := by decide +kernel
theorem dL_law_588 : decode cL_law 588 = .ok (.iadd, 1) := by decide +kernel
theorem dL_law_589 : decode cL_law 589 = .ok (.iaload, 1) := by decide +kernel
theorem dL_law_590 : decode cL_law 590 = .ok (.aload_n 0, 1) := by decide +kernel
theorem dL_law_591 : decode cL_law 591 = .ok (.iload_n 3, 1) := by decide +kernel
theorem dL_law_592 : decode cL_law 592 = .ok (.iconst 3, 1) := by decide +kernel
theorem dL_law_593 : decode cL_law 593 = .ok (.iadd, 1) := by decide +kernel
theorem dL_law_594 : decode cL_law 594 = .ok (.iaload, 1) := by decide +kernel
theorem dL_law_595 : decode cL_law 595 = .ok (.invokevirtual 87, 3) := by decide +kernel
theorem dL_law_598 : decode cL_law 598 = .ok (.lcmp, 1) := by decide +kernel
theorem dL_law_599 : decode cL_law 599 = .ok (.ifCond .eq 5, 3) := by decide +kernel
theorem dL_law_602 : decode cL_law 602 = .ok (.iconst 0, 1) := by decide +kernel
theorem dL_law_603 : decode cL_law 603 = .ok (.ireturn, 1) := by decide +kernel
theorem dL_law_604 : decode cL_law 604 = .ok (.iinc 3 4, 3) := by decide +kernel
theorem dL_law_607 : decode cL_law 607 = .ok (.goto (-569), 3) := by decide +kernel
theorem dL_law_610 : decode cL_law 610 = .ok (.iconst 1, 1) := by decide +kernel
theorem dL_law_611 : decode cL_law 611 = .ok (.ireturn, 1) := by decide +kernel
abbrev vwCl : List vw_C := [(RX0, TX0, 3), (RX1, TX1, 2), (RX2, TX2, 11), (RX3, TX3, 3), (RX4, TX4, 14), (RX5, TX5, 7)]
