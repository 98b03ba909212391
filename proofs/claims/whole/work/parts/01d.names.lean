set_option maxRecDepth 20000 in
theorem gX1_becomeProduct_X1_clear : GoodIn wsX1_becomeProduct (wsV RX1 25 RX1 yX1_clear wsX1_clear) := goodIn_app (goodIn_of _ (by decide +kernel)) ggX1_becomeProduct_X1_clear
set_option maxRecDepth 20000 in
theorem ggX1_becomeProduct_X1_limb : GoodIn wsX1_becomeProduct wsX1_limb := goodIn_r _ [11, 7, 12, 25, 26] (by decide +kernel) (by decide +kernel)
set_option maxRecDepth 20000 in
theorem gX1_becomeProduct_X1_limb : GoodIn wsX1_becomeProduct (wsV RX1 21 RX1 yX1_limb wsX1_limb) := goodIn_app (goodIn_of _ (by decide +kernel)) ggX1_becomeProduct_X1_limb
set_option maxRecDepth 20000 in
theorem ggX1_becomeProduct_X1_addMultipleAt : GoodIn wsX1_becomeProduct wsX1_addMultipleAt := goodIn_r _ [16, 1, 17, 18, 19, 20, 7, 8, 9, 10, 5, 11, 12, 25, 26] (by decide +kernel) (by decide +kernel)
set_option maxRecDepth 20000 in
theorem gX1_becomeProduct_X1_addMultipleAt : GoodIn wsX1_becomeProduct (wsV RX1 38 RX1 yX1_addMultipleAt wsX1_addMultipleAt) := goodIn_app (goodIn_of _ (by decide +kernel)) ggX1_becomeProduct_X1_addMultipleAt
set_option maxRecDepth 20000 in
theorem ggX1_becomeProduct_X1_trimFrom : GoodIn wsX1_becomeProduct wsX1_trimFrom := goodIn_r _ [24, 7, 1, 25, 26] (by decide +kernel) (by decide +kernel)
set_option maxRecDepth 20000 in
theorem gX1_becomeProduct_X1_trimFrom : GoodIn wsX1_becomeProduct (wsV RX1 28 RX1 yX1_trimFrom wsX1_trimFrom) := goodIn_app (goodIn_of _ (by decide +kernel)) ggX1_becomeProduct_X1_trimFrom
theorem dX1_becomeProduct_0 : decode cX1_becomeProduct 0 = .ok (.aload_n 0, 1) := by decide +kernel
theorem dX1_becomeProduct_1 : decode cX1_becomeProduct 1 = .ok (.invokevirtual 25, 3) := by decide +kernel
theorem dX1_becomeProduct_4 : decode cX1_becomeProduct 4 = .ok (.iconst 0, 1) := by decide +kernel
theorem dX1_becomeProduct_5 : decode cX1_becomeProduct 5 = .ok (.istore_n 3, 1) := by decide +kernel
theorem dX1_becomeProduct_6 : decode cX1_becomeProduct 6 = .ok (.iload_n 3, 1) := by decide +kernel
theorem dX1_becomeProduct_7 : decode cX1_becomeProduct 7 = .ok (.aload_n 1, 1) := by decide +kernel
theorem dX1_becomeProduct_8 : decode cX1_becomeProduct 8 = .ok (.getfield 13, 3) := by decide +kernel
theorem dX1_becomeProduct_11 : decode cX1_becomeProduct 11 = .ok (.if_icmp .ge 20, 3) := by decide +kernel
theorem dX1_becomeProduct_14 : decode cX1_becomeProduct 14 = .ok (.aload_n 0, 1) := by decide +kernel
theorem dX1_becomeProduct_15 : decode cX1_becomeProduct 15 = .ok (.iload_n 3, 1) := by decide +kernel
theorem dX1_becomeProduct_16 : decode cX1_becomeProduct 16 = .ok (.aload_n 2, 1) := by decide +kernel
theorem dX1_becomeProduct_17 : decode cX1_becomeProduct 17 = .ok (.aload_n 1, 1) := by decide +kernel
theorem dX1_becomeProduct_18 : decode cX1_becomeProduct 18 = .ok (.iload_n 3, 1) := by decide +kernel
theorem dX1_becomeProduct_19 : decode cX1_becomeProduct 19 = .ok (.invokevirtual 21, 3) := by decide +kernel
theorem dX1_becomeProduct_22 : decode cX1_becomeProduct 22 = .ok (.invokevirtual 38, 3) := by decide +kernel
theorem dX1_becomeProduct_25 : decode cX1_becomeProduct 25 = .ok (.iinc 3 1, 3) := by decide +kernel
theorem dX1_becomeProduct_28 : decode cX1_becomeProduct 28 = .ok (.goto (-22), 3) := by decide +kernel
theorem dX1_becomeProduct_31 : decode cX1_becomeProduct 31 = .ok (.aload_n 0, 1) := by decide +kernel
theorem dX1_becomeProduct_32 : decode cX1_becomeProduct 32 = .ok (.bipush 20, 2) := by decide +kernel
theorem dX1_becomeProduct_34 : decode cX1_becomeProduct 34 = .ok (.invokevirtual 28, 3) := by decide +kernel
theorem dX1_becomeProduct_37 : decode cX1_becomeProduct 37 = .ok (.return_, 1) := by decide +kernel
set_option maxRecDepth 20000 in
theorem ggX1_takeAway_X1_takeAwayAt : GoodIn wsX1_takeAway wsX1_takeAwayAt := goodIn_r _ [6, 1, 7, 8, 9, 10, 11, 12, 13, 14, 15, 5, 16, 21, 22] (by decide +kernel) (by decide +kernel)
set_option maxRecDepth 20000 in
theorem gX1_takeAway_X1_takeAwayAt : GoodIn wsX1_takeAway (wsV RX1 42 RX1 yX1_takeAwayAt wsX1_takeAwayAt) := goodIn_app (goodIn_of _ (by decide +kernel)) ggX1_takeAway_X1_takeAwayAt
set_option maxRecDepth 20000 in
theorem ggX1_takeAway_X1_trimFrom : GoodIn wsX1_takeAway wsX1_trimFrom := goodIn_r _ [20, 12, 1, 21, 22] (by decide +kernel) (by decide +kernel)
set_option maxRecDepth 20000 in
theorem gX1_takeAway_X1_trimFrom : GoodIn wsX1_takeAway (wsV RX1 28 RX1 yX1_trimFrom wsX1_trimFrom) := goodIn_app (goodIn_of _ (by decide +kernel)) ggX1_takeAway_X1_trimFrom
theorem dX1_takeAway_0 : decode cX1_takeAway 0 = .ok (.aload_n 0, 1) := by decide +kernel
theorem dX1_takeAway_1 : decode cX1_takeAway 1 = .ok (.iconst 0, 1) := by decide +kernel
theorem dX1_takeAway_2 : decode cX1_takeAway 2 = .ok (.aload_n 1, 1) := by decide +kernel
theorem dX1_takeAway_3 : decode cX1_takeAway 3 = .ok (.lload_n 2, 1) := by decide +kernel
theorem dX1_takeAway_4 : decode cX1_takeAway 4 = .ok (.invokevirtual 42, 3) := by decide +kernel
theorem dX1_takeAway_7 : decode cX1_takeAway 7 = .ok (.pop, 1) := by decide +kernel
theorem dX1_takeAway_8 : decode cX1_takeAway 8 = .ok (.aload_n 0, 1) := by decide +kernel
theorem dX1_takeAway_9 : decode cX1_takeAway 9 = .ok (.aload_n 0, 1) := by decide +kernel
theorem dX1_takeAway_10 : decode cX1_takeAway 10 = .ok (.getfield 13, 3) := by decide +kernel
theorem dX1_takeAway_13 : decode cX1_takeAway 13 = .ok (.invokevirtual 28, 3) := by decide +kernel
theorem dX1_takeAway_16 : decode cX1_takeAway 16 = .ok (.return_, 1) := by decide +kernel
set_option maxRecDepth 20000 in
theorem ggX1_divide_X1_clear : GoodIn wsX1_divide wsX1_clear := goodIn_r _ [7, 1, 2, 50, 51] (by decide +kernel) (by decide +kernel)
set_option maxRecDepth 20000 in
theorem gX1_divide_X1_clear : GoodIn wsX1_divide (wsV RX1 25 RX1 yX1_clear wsX1_clear) := goodIn_app (goodIn_of _ (by decide +kernel)) ggX1_divide_X1_clear
set_option maxRecDepth 20000 in
theorem ggX1_divide_J6_numberOfLeadingZeros_0f7a4 : GoodIn wsX1_divide wsJ6_numberOfLeadingZeros_0f7a4 := goodIn_r _ [11, 12] (by decide +kernel) (by decide +kernel)
set_option maxRecDepth 20000 in
theorem gX1_divide_J6_numberOfLeadingZeros_0f7a4 : GoodIn wsX1_divide (va_wsS RX1 46 yJ6_numberOfLeadingZeros_0f7a4 wsJ6_numberOfLeadingZeros_0f7a4) := goodIn_app (goodIn_of _ (by decide +kernel)) ggX1_divide_J6_numberOfLeadingZeros_0f7a4
set_option maxRecDepth 20000 in
theorem ggX1_divide_X1_shiftedLimb : GoodIn wsX1_divide wsX1_shiftedLimb := goodIn_r _ [16, 17, 18, 19, 20, 6, 21, 2, 50, 51] (by decide +kernel) (by decide +kernel)
set_option maxRecDepth 20000 in
theorem gX1_divide_X1_shiftedLimb : GoodIn wsX1_divide (wsV RX1 52 RX1 yX1_shiftedLimb wsX1_shiftedLimb) := goodIn_app (goodIn_of _ (by decide +kernel)) ggX1_divide_X1_shiftedLimb
set_option maxRecDepth 20000 in
theorem ggX1_divide_X1_guessQuotient : GoodIn wsX1_divide wsX1_guessQuotient := goodIn_r _ [25, 17, 26, 13, 14, 15, 6, 16, 18, 19, 20, 21, 2, 27, 28, 29, 30, 31, 32, 33, 50, 51] (by decide +kernel) (by decide +kernel)
set_option maxRecDepth 20000 in
theorem gX1_divide_X1_guessQuotient : GoodIn wsX1_divide (wsV RX1 56 RX1 yX1_guessQuotient wsX1_guessQuotient) := goodIn_app (goodIn_of _ (by decide +kernel)) ggX1_divide_X1_guessQuotient
set_option maxRecDepth 20000 in
theorem ggX1_divide_X1_takeAwayAt : GoodIn wsX1_divide wsX1_takeAwayAt := goodIn_r _ [37, 1, 38, 39, 40, 41, 17, 2, 18, 19, 20, 6, 21, 50, 51] (by decide +kernel) (by decide +kernel)
set_option maxRecDepth 20000 in
theorem gX1_divide_X1_takeAwayAt : GoodIn wsX1_divide (wsV RX1 42 RX1 yX1_takeAwayAt wsX1_takeAwayAt) := goodIn_app (goodIn_of _ (by decide +kernel)) ggX1_divide_X1_takeAwayAt
set_option maxRecDepth 20000 in
theorem ggX1_divide_X1_addMultipleAt : GoodIn wsX1_divide wsX1_addMultipleAt := goodIn_r _ [45, 1, 38, 39, 40, 41, 2, 18, 19, 20, 6, 21, 17, 50, 51] (by decide +kernel) (by decide +kernel)
set_option maxRecDepth 20000 in
theorem gX1_divide_X1_addMultipleAt : GoodIn wsX1_divide (wsV RX1 38 RX1 yX1_addMultipleAt wsX1_addMultipleAt) := goodIn_app (goodIn_of _ (by decide +kernel)) ggX1_divide_X1_addMultipleAt
set_option maxRecDepth 20000 in
theorem ggX1_divide_X1_trimFrom : GoodIn wsX1_divide wsX1_trimFrom := goodIn_r _ [49, 2, 1, 50, 51] (by decide +kernel) (by decide +kernel)
set_option maxRecDepth 20000 in
theorem gX1_divide_X1_trimFrom : GoodIn wsX1_divide (wsV RX1 28 RX1 yX1_trimFrom wsX1_trimFrom) := goodIn_app (goodIn_of _ (by decide +kernel)) ggX1_divide_X1_trimFrom
theorem dX1_divide_0 : decode cX1_divide 0 = .ok (.aload_n 2, 1) := by decide +kernel
theorem dX1_divide_1 : decode cX1_divide 1 = .ok (.invokevirtual 25, 3) := by decide +kernel
theorem dX1_divide_4 : decode cX1_divide 4 = .ok (.aload_n 1, 1) := by decide +kernel
theorem dX1_divide_5 : decode cX1_divide 5 = .ok (.getfield 13, 3) := by decide +kernel
theorem dX1_divide_8 : decode cX1_divide 8 = .ok (.istore_n 3, 1) := by decide +kernel
theorem dX1_divide_9 : decode cX1_divide 9 = .ok (.iload_n 3, 1) := by decide +kernel
theorem dX1_divide_10 : decode cX1_divide 10 = .ok (.ifCond .eq 11, 3) := by decide +kernel
theorem dX1_divide_13 : decode cX1_divide 13 = .ok (.iload_n 3, 1) := by decide +kernel
theorem dX1_divide_14 : decode cX1_divide 14 = .ok (.aload_n 0, 1) := by decide +kernel
theorem dX1_divide_15 : decode cX1_divide 15 = .ok (.getfield 13, 3) := by decide +kernel
theorem dX1_divide_18 : decode cX1_divide 18 = .ok (.if_icmp .le 4, 3) := by decide +kernel
theorem dX1_divide_21 : decode cX1_divide 21 = .ok (.return_, 1) := by decide +kernel
theorem dX1_divide_22 : decode cX1_divide 22 = .ok (.aload_n 1, 1) := by decide +kernel
theorem dX1_divide_23 : decode cX1_divide 23 = .ok (.getfield 9, 3) := by decide +kernel
theorem dX1_divide_26 : decode cX1_divide 26 = .ok (.iload_n 3, 1) := by decide +kernel
theorem dX1_divide_27 : decode cX1_divide 27 = .ok (.iconst 1, 1) := by decide +kernel
theorem dX1_divide_28 : decode cX1_divide 28 = .ok (.isub, 1) := by decide +kernel
theorem dX1_divide_29 : decode cX1_divide 29 = .ok (.iaload, 1) := by decide +kernel
theorem dX1_divide_30 : decode cX1_divide 30 = .ok (.invokestatic 46, 3) := by decide +kernel
theorem dX1_divide_33 : decode cX1_divide 33 = .ok (.istore 4, 2) := by decide +kernel
theorem dX1_divide_35 : decode cX1_divide 35 = .ok (.aload_n 1, 1) := by decide +kernel
theorem dX1_divide_36 : decode cX1_divide 36 = .ok (.iload_n 3, 1) := by decide +kernel
theorem dX1_divide_37 : decode cX1_divide 37 = .ok (.iconst 1, 1) := by decide +kernel
theorem dX1_divide_38 : decode cX1_divide 38 = .ok (.isub, 1) := by decide +kernel
theorem dX1_divide_39 : decode cX1_divide 39 = .ok (.iload 4, 2) := by decide +kernel
theorem dX1_divide_41 : decode cX1_divide 41 = .ok (.invokevirtual 52, 3) := by decide +kernel
theorem dX1_divide_44 : decode cX1_divide 44 = .ok (.lstore 5, 2) := by decide +kernel
theorem dX1_divide_46 : decode cX1_divide 46 = .ok (.aload_n 1, 1) := by decide +kernel
theorem dX1_divide_47 : decode cX1_divide 47 = .ok (.iload_n 3, 1) := by decide +kernel
theorem dX1_divide_48 : decode cX1_divide 48 = .ok (.iconst 2, 1) := by decide +kernel
theorem dX1_divide_49 : decode cX1_divide 49 = .ok (.isub, 1) := by decide +kernel
theorem dX1_divide_50 : decode cX1_divide 50 = .ok (.iload 4, 2) := by decide +kernel
theorem dX1_divide_52 : decode cX1_divide 52 = .ok (.invokevirtual 52, 3) := by decide +kernel
theorem dX1_divide_55 : decode cX1_divide 55 = .ok (.lstore 7, 2) := by decide +kernel
theorem dX1_divide_57 : decode cX1_divide 57 = .ok (.aload_n 0, 1) := by decide +kernel
theorem dX1_divide_58 : decode cX1_divide 58 = .ok (.getfield 13, 3) := by decide +kernel
theorem dX1_divide_61 : decode cX1_divide 61 = .ok (.iload_n 3, 1) := by decide +kernel
theorem dX1_divide_62 : decode cX1_divide 62 = .ok (.isub, 1) := by decide +kernel
theorem dX1_divide_63 : decode cX1_divide 63 = .ok (.istore 9, 2) := by decide +kernel
theorem dX1_divide_65 : decode cX1_divide 65 = .ok (.iload 9, 2) := by decide +kernel
theorem dX1_divide_67 : decode cX1_divide 67 = .ok (.ifCond .lt 68, 3) := by decide +kernel
theorem dX1_divide_70 : decode cX1_divide 70 = .ok (.aload_n 0, 1) := by decide +kernel
theorem dX1_divide_71 : decode cX1_divide 71 = .ok (.iload 9, 2) := by decide +kernel
theorem dX1_divide_73 : decode cX1_divide 73 = .ok (.iload_n 3, 1) := by decide +kernel
theorem dX1_divide_74 : decode cX1_divide 74 = .ok (.iadd, 1) := by decide +kernel
theorem dX1_divide_75 : decode cX1_divide 75 = .ok (.iload 4, 2) := by decide +kernel
theorem dX1_divide_77 : decode cX1_divide 77 = .ok (.lload 5, 2) := by decide +kernel
theorem dX1_divide_79 : decode cX1_divide 79 = .ok (.lload 7, 2) := by decide +kernel
theorem dX1_divide_81 : decode cX1_divide 81 = .ok (.invokevirtual 56, 3) := by decide +kernel
theorem dX1_divide_84 : decode cX1_divide 84 = .ok (.lstore 10, 2) := by decide +kernel
theorem dX1_divide_86 : decode cX1_divide 86 = .ok (.lload 10, 2) := by decide +kernel
theorem dX1_divide_88 : decode cX1_divide 88 = .ok (.lconst 0, 1) := by decide +kernel
theorem dX1_divide_89 : decode cX1_divide 89 = .ok (.lcmp, 1) := by decide +kernel
theorem dX1_divide_90 : decode cX1_divide 90 = .ok (.ifCond .eq 29, 3) := by decide +kernel
theorem dX1_divide_93 : decode cX1_divide 93 = .ok (.aload_n 0, 1) := by decide +kernel
theorem dX1_divide_94 : decode cX1_divide 94 = .ok (.iload 9, 2) := by decide +kernel
theorem dX1_divide_96 : decode cX1_divide 96 = .ok (.aload_n 1, 1) := by decide +kernel
theorem dX1_divide_97 : decode cX1_divide 97 = .ok (.lload 10, 2) := by decide +kernel
theorem dX1_divide_99 : decode cX1_divide 99 = .ok (.invokevirtual 42, 3) := by decide +kernel
theorem dX1_divide_102 : decode cX1_divide 102 = .ok (.ifCond .eq 17, 3) := by decide +kernel
theorem dX1_divide_105 : decode cX1_divide 105 = .ok (.aload_n 0, 1) := by decide +kernel
theorem dX1_divide_106 : decode cX1_divide 106 = .ok (.iload 9, 2) := by decide +kernel
theorem dX1_divide_108 : decode cX1_divide 108 = .ok (.aload_n 1, 1) := by decide +kernel
theorem dX1_divide_109 : decode cX1_divide 109 = .ok (.lconst 1, 1) := by decide +kernel
theorem dX1_divide_110 : decode cX1_divide 110 = .ok (.invokevirtual 38, 3) := by decide +kernel
theorem dX1_divide_113 : decode cX1_divide 113 = .ok (.lload 10, 2) := by decide +kernel
theorem dX1_divide_115 : decode cX1_divide 115 = .ok (.lconst 1, 1) := by decide +kernel
theorem dX1_divide_116 : decode cX1_divide 116 = .ok (.lsub, 1) := by decide +kernel
theorem dX1_divide_117 : decode cX1_divide 117 = .ok (.lstore 10, 2) := by decide +kernel
theorem dX1_divide_119 : decode cX1_divide 119 = .ok (.aload_n 2, 1) := by decide +kernel
theorem dX1_divide_120 : decode cX1_divide 120 = .ok (.getfield 9, 3) := by decide +kernel
theorem dX1_divide_123 : decode cX1_divide 123 = .ok (.iload 9, 2) := by decide +kernel
theorem dX1_divide_125 : decode cX1_divide 125 = .ok (.lload 10, 2) := by decide +kernel
theorem dX1_divide_127 : decode cX1_divide 127 = .ok (.l2i, 1) := by decide +kernel
theorem dX1_divide_128 : decode cX1_divide 128 = .ok (.iastore, 1) := by decide +kernel
theorem dX1_divide_129 : decode cX1_divide 129 = .ok (.iinc 9 (-1), 3) := by decide +kernel
theorem dX1_divide_132 : decode cX1_divide 132 = .ok (.goto (-67), 3) := by decide +kernel
theorem dX1_divide_135 : decode cX1_divide 135 = .ok (.aload_n 2, 1) := by decide +kernel
theorem dX1_divide_136 : decode cX1_divide 136 = .ok (.aload_n 0, 1) := by decide +kernel
theorem dX1_divide_137 : decode cX1_divide 137 = .ok (.getfield 13, 3) := by decide +kernel
theorem dX1_divide_140 : decode cX1_divide 140 = .ok (.iload_n 3, 1) := by decide +kernel
theorem dX1_divide_141 : decode cX1_divide 141 = .ok (.isub, 1) := by decide +kernel
theorem dX1_divide_142 : decode cX1_divide 142 = .ok (.iconst 1, 1) := by decide +kernel
theorem dX1_divide_143 : decode cX1_divide 143 = .ok (.iadd, 1) := by decide +kernel
theorem dX1_divide_144 : decode cX1_divide 144 = .ok (.invokevirtual 28, 3) := by decide +kernel
theorem dX1_divide_147 : decode cX1_divide 147 = .ok (.aload_n 0, 1) := by decide +kernel
theorem dX1_divide_148 : decode cX1_divide 148 = .ok (.aload_n 0, 1) := by decide +kernel
theorem dX1_divide_149 : decode cX1_divide 149 = .ok (.getfield 13, 3) := by decide +kernel
theorem dX1_divide_152 : decode cX1_divide 152 = .ok (.invokevirtual 28, 3) := by decide +kernel
theorem dX1_divide_155 : decode cX1_divide 155 = .ok (.return_, 1) := by decide +kernel
set_option maxRecDepth 20000 in
theorem ggX1_guessQuotient_X1_shiftedLimb : GoodIn wsX1_guessQuotient wsX1_shiftedLimb := goodIn_r _ [7, 1, 8, 9, 10, 6, 11, 12, 20, 21] (by decide +kernel) (by decide +kernel)
set_option maxRecDepth 20000 in
theorem gX1_guessQuotient_X1_shiftedLimb : GoodIn wsX1_guessQuotient (wsV RX1 52 RX1 yX1_shiftedLimb wsX1_shiftedLimb) := goodIn_app (goodIn_of _ (by decide +kernel)) ggX1_guessQuotient_X1_shiftedLimb
set_option maxRecDepth 20000 in
theorem ggX1_guessQuotient_X1_unsignedQuotient : GoodIn wsX1_guessQuotient wsX1_unsignedQuotient := goodIn_r _ [15] (by decide +kernel) (by decide +kernel)
set_option maxRecDepth 20000 in
theorem gX1_guessQuotient_X1_unsignedQuotient : GoodIn wsX1_guessQuotient (va_wsS RX1 60 yX1_unsignedQuotient wsX1_unsignedQuotient) := goodIn_app (goodIn_of _ (by decide +kernel)) ggX1_guessQuotient_X1_unsignedQuotient
set_option maxRecDepth 20000 in
theorem ggX1_guessQuotient_X1_isBelow : GoodIn wsX1_guessQuotient wsX1_isBelow := goodIn_r _ [18, 19] (by decide +kernel) (by decide +kernel)
set_option maxRecDepth 20000 in
theorem gX1_guessQuotient_X1_isBelow : GoodIn wsX1_guessQuotient (va_wsS RX1 64 yX1_isBelow wsX1_isBelow) := goodIn_app (goodIn_of _ (by decide +kernel)) ggX1_guessQuotient_X1_isBelow
theorem dX1_guessQuotient_0 : decode cX1_guessQuotient 0 = .ok (.aload_n 0, 1) := by decide +kernel
theorem dX1_guessQuotient_1 : decode cX1_guessQuotient 1 = .ok (.iload_n 1, 1) := by decide +kernel
theorem dX1_guessQuotient_2 : decode cX1_guessQuotient 2 = .ok (.iload_n 2, 1) := by decide +kernel
theorem dX1_guessQuotient_3 : decode cX1_guessQuotient 3 = .ok (.invokevirtual 52, 3) := by decide +kernel
theorem dX1_guessQuotient_6 : decode cX1_guessQuotient 6 = .ok (.lstore 7, 2) := by decide +kernel
theorem dX1_guessQuotient_8 : decode cX1_guessQuotient 8 = .ok (.aload_n 0, 1) := by decide +kernel
theorem dX1_guessQuotient_9 : decode cX1_guessQuotient 9 = .ok (.iload_n 1, 1) := by decide +kernel
theorem dX1_guessQuotient_10 : decode cX1_guessQuotient 10 = .ok (.iconst 1, 1) := by decide +kernel
theorem dX1_guessQuotient_11 : decode cX1_guessQuotient 11 = .ok (.isub, 1) := by decide +kernel
theorem dX1_guessQuotient_12 : decode cX1_guessQuotient 12 = .ok (.iload_n 2, 1) := by decide +kernel
theorem dX1_guessQuotient_13 : decode cX1_guessQuotient 13 = .ok (.invokevirtual 52, 3) := by decide +kernel
theorem dX1_guessQuotient_16 : decode cX1_guessQuotient 16 = .ok (.lstore 9, 2) := by decide +kernel
theorem dX1_guessQuotient_18 : decode cX1_guessQuotient 18 = .ok (.aload_n 0, 1) := by decide +kernel
theorem dX1_guessQuotient_19 : decode cX1_guessQuotient 19 = .ok (.iload_n 1, 1) := by decide +kernel
theorem dX1_guessQuotient_20 : decode cX1_guessQuotient 20 = .ok (.iconst 2, 1) := by decide +kernel
theorem dX1_guessQuotient_21 : decode cX1_guessQuotient 21 = .ok (.isub, 1) := by decide +kernel
theorem dX1_guessQuotient_22 : decode cX1_guessQuotient 22 = .ok (.iload_n 2, 1) := by decide +kernel
theorem dX1_guessQuotient_23 : decode cX1_guessQuotient 23 = .ok (.invokevirtual 52, 3) := by decide +kernel
theorem dX1_guessQuotient_26 : decode cX1_guessQuotient 26 = .ok (.lstore 11, 2) := by decide +kernel
theorem dX1_guessQuotient_28 : decode cX1_guessQuotient 28 = .ok (.ldc2_w 17, 3) := by decide +kernel
theorem dX1_guessQuotient_31 : decode cX1_guessQuotient 31 = .ok (.lstore 13, 2) := by decide +kernel
theorem dX1_guessQuotient_33 : decode cX1_guessQuotient 33 = .ok (.lload 9, 2) := by decide +kernel
theorem dX1_guessQuotient_35 : decode cX1_guessQuotient 35 = .ok (.lload_n 3, 1) := by decide +kernel
theorem dX1_guessQuotient_36 : decode cX1_guessQuotient 36 = .ok (.ladd, 1) := by decide +kernel
theorem dX1_guessQuotient_37 : decode cX1_guessQuotient 37 = .ok (.lstore 15, 2) := by decide +kernel
theorem dX1_guessQuotient_39 : decode cX1_guessQuotient 39 = .ok (.lload 7, 2) := by decide +kernel
theorem dX1_guessQuotient_41 : decode cX1_guessQuotient 41 = .ok (.lload_n 3, 1) := by decide +kernel
theorem dX1_guessQuotient_42 : decode cX1_guessQuotient 42 = .ok (.lcmp, 1) := by decide +kernel
theorem dX1_guessQuotient_43 : decode cX1_guessQuotient 43 = .ok (.ifCond .ge 30, 3) := by decide +kernel
theorem dX1_guessQuotient_46 : decode cX1_guessQuotient 46 = .ok (.lload 7, 2) := by decide +kernel
theorem dX1_guessQuotient_48 : decode cX1_guessQuotient 48 = .ok (.bipush 32, 2) := by decide +kernel
theorem dX1_guessQuotient_50 : decode cX1_guessQuotient 50 = .ok (.lshl, 1) := by decide +kernel
theorem dX1_guessQuotient_51 : decode cX1_guessQuotient 51 = .ok (.lload 9, 2) := by decide +kernel
theorem dX1_guessQuotient_53 : decode cX1_guessQuotient 53 = .ok (.lor, 1) := by decide +kernel
theorem dX1_guessQuotient_54 : decode cX1_guessQuotient 54 = .ok (.lstore 17, 2) := by decide +kernel
theorem dX1_guessQuotient_56 : decode cX1_guessQuotient 56 = .ok (.lload 17, 2) := by decide +kernel
theorem dX1_guessQuotient_58 : decode cX1_guessQuotient 58 = .ok (.lload_n 3, 1) := by decide +kernel
theorem dX1_guessQuotient_59 : decode cX1_guessQuotient 59 = .ok (.invokestatic 60, 3) := by decide +kernel
theorem dX1_guessQuotient_62 : decode cX1_guessQuotient 62 = .ok (.lstore 13, 2) := by decide +kernel
theorem dX1_guessQuotient_64 : decode cX1_guessQuotient 64 = .ok (.lload 17, 2) := by decide +kernel
theorem dX1_guessQuotient_66 : decode cX1_guessQuotient 66 = .ok (.lload 13, 2) := by decide +kernel
theorem dX1_guessQuotient_68 : decode cX1_guessQuotient 68 = .ok (.lload_n 3, 1) := by decide +kernel
theorem dX1_guessQuotient_69 : decode cX1_guessQuotient 69 = .ok (.lmul, 1) := by decide +kernel
theorem dX1_guessQuotient_70 : decode cX1_guessQuotient 70 = .ok (.lsub, 1) := by decide +kernel
theorem dX1_guessQuotient_71 : decode cX1_guessQuotient 71 = .ok (.lstore 15, 2) := by decide +kernel
theorem dX1_guessQuotient_73 : decode cX1_guessQuotient 73 = .ok (.iconst 0, 1) := by decide +kernel
theorem dX1_guessQuotient_74 : decode cX1_guessQuotient 74 = .ok (.istore 17, 2) := by decide +kernel
theorem dX1_guessQuotient_76 : decode cX1_guessQuotient 76 = .ok (.iload 17, 2) := by decide +kernel
theorem dX1_guessQuotient_78 : decode cX1_guessQuotient 78 = .ok (.iconst 2, 1) := by decide +kernel
theorem dX1_guessQuotient_79 : decode cX1_guessQuotient 79 = .ok (.if_icmp .ge 52, 3) := by decide +kernel
theorem dX1_guessQuotient_82 : decode cX1_guessQuotient 82 = .ok (.lload 15, 2) := by decide +kernel
theorem dX1_guessQuotient_84 : decode cX1_guessQuotient 84 = .ok (.ldc2_w 19, 3) := by decide +kernel
theorem dX1_guessQuotient_87 : decode cX1_guessQuotient 87 = .ok (.lcmp, 1) := by decide +kernel
theorem dX1_guessQuotient_88 : decode cX1_guessQuotient 88 = .ok (.ifCond .ge 43, 3) := by decide +kernel
theorem dX1_guessQuotient_91 : decode cX1_guessQuotient 91 = .ok (.lload 15, 2) := by decide +kernel
theorem dX1_guessQuotient_93 : decode cX1_guessQuotient 93 = .ok (.bipush 32, 2) := by decide +kernel
theorem dX1_guessQuotient_95 : decode cX1_guessQuotient 95 = .ok (.lshl, 1) := by decide +kernel
theorem dX1_guessQuotient_96 : decode cX1_guessQuotient 96 = .ok (.lload 11, 2) := by decide +kernel
theorem dX1_guessQuotient_98 : decode cX1_guessQuotient 98 = .ok (.lor, 1) := by decide +kernel
theorem dX1_guessQuotient_99 : decode cX1_guessQuotient 99 = .ok (.lload 13, 2) := by decide +kernel
theorem dX1_guessQuotient_101 : decode cX1_guessQuotient 101 = .ok (.lload 5, 2) := by decide +kernel
theorem dX1_guessQuotient_103 : decode cX1_guessQuotient 103 = .ok (.lmul, 1) := by decide +kernel
theorem dX1_guessQuotient_104 : decode cX1_guessQuotient 104 = .ok (.invokestatic 64, 3) := by decide +kernel
theorem dX1_guessQuotient_107 : decode cX1_guessQuotient 107 = .ok (.ifCond .ne 6, 3) := by decide +kernel
theorem dX1_guessQuotient_110 : decode cX1_guessQuotient 110 = .ok (.goto 21, 3) := by decide +kernel
theorem dX1_guessQuotient_113 : decode cX1_guessQuotient 113 = .ok (.lload 13, 2) := by decide +kernel
theorem dX1_guessQuotient_115 : decode cX1_guessQuotient 115 = .ok (.lconst 1, 1) := by decide +kernel
theorem dX1_guessQuotient_116 : decode cX1_guessQuotient 116 = .ok (.lsub, 1) := by decide +kernel
theorem dX1_guessQuotient_117 : decode cX1_guessQuotient 117 = .ok (.lstore 13, 2) := by decide +kernel
theorem dX1_guessQuotient_119 : decode cX1_guessQuotient 119 = .ok (.lload 15, 2) := by decide +kernel
theorem dX1_guessQuotient_121 : decode cX1_guessQuotient 121 = .ok (.lload_n 3, 1) := by decide +kernel
theorem dX1_guessQuotient_122 : decode cX1_guessQuotient 122 = .ok (.ladd, 1) := by decide +kernel
theorem dX1_guessQuotient_123 : decode cX1_guessQuotient 123 = .ok (.lstore 15, 2) := by decide +kernel
theorem dX1_guessQuotient_125 : decode cX1_guessQuotient 125 = .ok (.iinc 17 1, 3) := by decide +kernel
theorem dX1_guessQuotient_128 : decode cX1_guessQuotient 128 = .ok (.goto (-52), 3) := by decide +kernel
theorem dX1_guessQuotient_131 : decode cX1_guessQuotient 131 = .ok (.lload 13, 2) := by decide +kernel
theorem dX1_guessQuotient_133 : decode cX1_guessQuotient 133 = .ok (.lreturn, 1) := by decide +kernel
set_option maxRecDepth 20000 in
theorem ggX1_shiftedLimb_X1_limb : GoodIn wsX1_shiftedLimb wsX1_limb := goodIn_r _ [6, 7, 1, 8, 9] (by decide +kernel) (by decide +kernel)
set_option maxRecDepth 20000 in
theorem gX1_shiftedLimb_X1_limb : GoodIn wsX1_shiftedLimb (wsV RX1 21 RX1 yX1_limb wsX1_limb) := goodIn_app (goodIn_of _ (by decide +kernel)) ggX1_shiftedLimb_X1_limb
theorem dX1_shiftedLimb_0 : decode cX1_shiftedLimb 0 = .ok (.aload_n 0, 1) := by decide +kernel
theorem dX1_shiftedLimb_1 : decode cX1_shiftedLimb 1 = .ok (.iload_n 1, 1) := by decide +kernel
theorem dX1_shiftedLimb_2 : decode cX1_shiftedLimb 2 = .ok (.iconst 1, 1) := by decide +kernel
theorem dX1_shiftedLimb_3 : decode cX1_shiftedLimb 3 = .ok (.isub, 1) := by decide +kernel
theorem dX1_shiftedLimb_4 : decode cX1_shiftedLimb 4 = .ok (.invokevirtual 21, 3) := by decide +kernel
theorem dX1_shiftedLimb_7 : decode cX1_shiftedLimb 7 = .ok (.iconst 1, 1) := by decide +kernel
theorem dX1_shiftedLimb_8 : decode cX1_shiftedLimb 8 = .ok (.lushr, 1) := by decide +kernel
theorem dX1_shiftedLimb_9 : decode cX1_shiftedLimb 9 = .ok (.bipush 31, 2) := by decide +kernel
theorem dX1_shiftedLimb_11 : decode cX1_shiftedLimb 11 = .ok (.iload_n 2, 1) := by decide +kernel
theorem dX1_shiftedLimb_12 : decode cX1_shiftedLimb 12 = .ok (.isub, 1) := by decide +kernel
theorem dX1_shiftedLimb_13 : decode cX1_shiftedLimb 13 = .ok (.lushr, 1) := by decide +kernel
theorem dX1_shiftedLimb_14 : decode cX1_shiftedLimb 14 = .ok (.lstore_n 3, 1) := by decide +kernel
theorem dX1_shiftedLimb_15 : decode cX1_shiftedLimb 15 = .ok (.aload_n 0, 1) := by decide +kernel
theorem dX1_shiftedLimb_16 : decode cX1_shiftedLimb 16 = .ok (.iload_n 1, 1) := by decide +kernel
theorem dX1_shiftedLimb_17 : decode cX1_shiftedLimb 17 = .ok (.invokevirtual 21, 3) := by decide +kernel
theorem dX1_shiftedLimb_20 : decode cX1_shiftedLimb 20 = .ok (.iload_n 2, 1) := by decide +kernel
theorem dX1_shiftedLimb_21 : decode cX1_shiftedLimb 21 = .ok (.lshl, 1) := by decide +kernel
theorem dX1_shiftedLimb_22 : decode cX1_shiftedLimb 22 = .ok (.ldc2_w 17, 3) := by decide +kernel
theorem dX1_shiftedLimb_25 : decode cX1_shiftedLimb 25 = .ok (.land, 1) := by decide +kernel
theorem dX1_shiftedLimb_26 : decode cX1_shiftedLimb 26 = .ok (.lload_n 3, 1) := by decide +kernel
theorem dX1_shiftedLimb_27 : decode cX1_shiftedLimb 27 = .ok (.lor, 1) := by decide +kernel
theorem dX1_shiftedLimb_28 : decode cX1_shiftedLimb 28 = .ok (.lreturn, 1) := by decide +kernel
set_option maxRecDepth 20000 in
theorem ggX1_takeAwayAt_X1_limb : GoodIn wsX1_takeAwayAt wsX1_limb := goodIn_r _ [12, 7, 6, 13, 14] (by decide +kernel) (by decide +kernel)
set_option maxRecDepth 20000 in
theorem gX1_takeAwayAt_X1_limb : GoodIn wsX1_takeAwayAt (wsV RX1 21 RX1 yX1_limb wsX1_limb) := goodIn_app (goodIn_of _ (by decide +kernel)) ggX1_takeAwayAt_X1_limb
theorem dX1_takeAwayAt_0 : decode cX1_takeAwayAt 0 = .ok (.lconst 0, 1) := by decide +kernel
theorem dX1_takeAwayAt_1 : decode cX1_takeAwayAt 1 = .ok (.lstore 5, 2) := by decide +kernel
theorem dX1_takeAwayAt_3 : decode cX1_takeAwayAt 3 = .ok (.lconst 0, 1) := by decide +kernel
theorem dX1_takeAwayAt_4 : decode cX1_takeAwayAt 4 = .ok (.lstore 7, 2) := by decide +kernel
theorem dX1_takeAwayAt_6 : decode cX1_takeAwayAt 6 = .ok (.iload_n 1, 1) := by decide +kernel
theorem dX1_takeAwayAt_7 : decode cX1_takeAwayAt 7 = .ok (.aload_n 2, 1) := by decide +kernel
theorem dX1_takeAwayAt_8 : decode cX1_takeAwayAt 8 = .ok (.getfield 13, 3) := by decide +kernel
theorem dX1_takeAwayAt_11 : decode cX1_takeAwayAt 11 = .ok (.iadd, 1) := by decide +kernel
theorem dX1_takeAwayAt_12 : decode cX1_takeAwayAt 12 = .ok (.bipush 19, 2) := by decide +kernel
theorem dX1_takeAwayAt_14 : decode cX1_takeAwayAt 14 = .ok (.invokestatic 68, 3) := by decide +kernel
theorem dX1_takeAwayAt_17 : decode cX1_takeAwayAt 17 = .ok (.istore 9, 2) := by decide +kernel
theorem dX1_takeAwayAt_19 : decode cX1_takeAwayAt 19 = .ok (.iload_n 1, 1) := by decide +kernel
theorem dX1_takeAwayAt_20 : decode cX1_takeAwayAt 20 = .ok (.istore 10, 2) := by decide +kernel
theorem dX1_takeAwayAt_22 : decode cX1_takeAwayAt 22 = .ok (.iload 10, 2) := by decide +kernel
theorem dX1_takeAwayAt_24 : decode cX1_takeAwayAt 24 = .ok (.iload 9, 2) := by decide +kernel
theorem dX1_takeAwayAt_26 : decode cX1_takeAwayAt 26 = .ok (.if_icmp .gt 73, 3) := by decide +kernel
theorem dX1_takeAwayAt_29 : decode cX1_takeAwayAt 29 = .ok (.lload_n 3, 1) := by decide +kernel
theorem dX1_takeAwayAt_30 : decode cX1_takeAwayAt 30 = .ok (.aload_n 2, 1) := by decide +kernel
theorem dX1_takeAwayAt_31 : decode cX1_takeAwayAt 31 = .ok (.iload 10, 2) := by decide +kernel
theorem dX1_takeAwayAt_33 : decode cX1_takeAwayAt 33 = .ok (.iload_n 1, 1) := by decide +kernel
theorem dX1_takeAwayAt_34 : decode cX1_takeAwayAt 34 = .ok (.isub, 1) := by decide +kernel
theorem dX1_takeAwayAt_35 : decode cX1_takeAwayAt 35 = .ok (.invokevirtual 21, 3) := by decide +kernel
theorem dX1_takeAwayAt_38 : decode cX1_takeAwayAt 38 = .ok (.lmul, 1) := by decide +kernel
theorem dX1_takeAwayAt_39 : decode cX1_takeAwayAt 39 = .ok (.lload 5, 2) := by decide +kernel
theorem dX1_takeAwayAt_41 : decode cX1_takeAwayAt 41 = .ok (.ladd, 1) := by decide +kernel
theorem dX1_takeAwayAt_42 : decode cX1_takeAwayAt 42 = .ok (.lstore 11, 2) := by decide +kernel
theorem dX1_takeAwayAt_44 : decode cX1_takeAwayAt 44 = .ok (.aload_n 0, 1) := by decide +kernel
theorem dX1_takeAwayAt_45 : decode cX1_takeAwayAt 45 = .ok (.iload 10, 2) := by decide +kernel
theorem dX1_takeAwayAt_47 : decode cX1_takeAwayAt 47 = .ok (.invokevirtual 21, 3) := by decide +kernel
theorem dX1_takeAwayAt_50 : decode cX1_takeAwayAt 50 = .ok (.lload 11, 2) := by decide +kernel
theorem dX1_takeAwayAt_52 : decode cX1_takeAwayAt 52 = .ok (.ldc2_w 17, 3) := by decide +kernel
theorem dX1_takeAwayAt_55 : decode cX1_takeAwayAt 55 = .ok (.land, 1) := by decide +kernel
theorem dX1_takeAwayAt_56 : decode cX1_takeAwayAt 56 = .ok (.lsub, 1) := by decide +kernel
theorem dX1_takeAwayAt_57 : decode cX1_takeAwayAt 57 = .ok (.lload 7, 2) := by decide +kernel
theorem dX1_takeAwayAt_59 : decode cX1_takeAwayAt 59 = .ok (.lsub, 1) := by decide +kernel
theorem dX1_takeAwayAt_60 : decode cX1_takeAwayAt 60 = .ok (.lstore 13, 2) := by decide +kernel
theorem dX1_takeAwayAt_62 : decode cX1_takeAwayAt 62 = .ok (.aload_n 0, 1) := by decide +kernel
theorem dX1_takeAwayAt_63 : decode cX1_takeAwayAt 63 = .ok (.getfield 9, 3) := by decide +kernel
theorem dX1_takeAwayAt_66 : decode cX1_takeAwayAt 66 = .ok (.iload 10, 2) := by decide +kernel
theorem dX1_takeAwayAt_68 : decode cX1_takeAwayAt 68 = .ok (.lload 13, 2) := by decide +kernel
theorem dX1_takeAwayAt_70 : decode cX1_takeAwayAt 70 = .ok (.l2i, 1) := by decide +kernel
theorem dX1_takeAwayAt_71 : decode cX1_takeAwayAt 71 = .ok (.iastore, 1) := by decide +kernel
theorem dX1_takeAwayAt_72 : decode cX1_takeAwayAt 72 = .ok (.lload 11, 2) := by decide +kernel
theorem dX1_takeAwayAt_74 : decode cX1_takeAwayAt 74 = .ok (.bipush 32, 2) := by decide +kernel
theorem dX1_takeAwayAt_76 : decode cX1_takeAwayAt 76 = .ok (.lushr, 1) := by decide +kernel
theorem dX1_takeAwayAt_77 : decode cX1_takeAwayAt 77 = .ok (.lstore 5, 2) := by decide +kernel
theorem dX1_takeAwayAt_79 : decode cX1_takeAwayAt 79 = .ok (.lload 13, 2) := by decide +kernel
theorem dX1_takeAwayAt_81 : decode cX1_takeAwayAt 81 = .ok (.lconst 0, 1) := by decide +kernel
theorem dX1_takeAwayAt_82 : decode cX1_takeAwayAt 82 = .ok (.lcmp, 1) := by decide +kernel
theorem dX1_takeAwayAt_83 : decode cX1_takeAwayAt 83 = .ok (.ifCond .ge 7, 3) := by decide +kernel
theorem dX1_takeAwayAt_86 : decode cX1_takeAwayAt 86 = .ok (.lconst 1, 1) := by decide +kernel
theorem dX1_takeAwayAt_87 : decode cX1_takeAwayAt 87 = .ok (.goto 4, 3) := by decide +kernel
theorem dX1_takeAwayAt_90 : decode cX1_takeAwayAt 90 = .ok (.lconst 0, 1) := by decide +kernel
theorem dX1_takeAwayAt_91 : decode cX1_takeAwayAt 91 = .ok (.lstore 7, 2) := by decide +kernel
theorem dX1_takeAwayAt_93 : decode cX1_takeAwayAt 93 = .ok (.iinc 10 1, 3) := by decide +kernel
theorem dX1_takeAwayAt_96 : decode cX1_takeAwayAt 96 = .ok (.goto (-74), 3) := by decide +kernel
theorem dX1_takeAwayAt_99 : decode cX1_takeAwayAt 99 = .ok (.lload 7, 2) := by decide +kernel
theorem dX1_takeAwayAt_101 : decode cX1_takeAwayAt 101 = .ok (.lconst 0, 1) := by decide +kernel
theorem dX1_takeAwayAt_102 : decode cX1_takeAwayAt 102 = .ok (.lcmp, 1) := by decide +kernel
theorem dX1_takeAwayAt_103 : decode cX1_takeAwayAt 103 = .ok (.ifCond .eq 7, 3) := by decide +kernel
theorem dX1_takeAwayAt_106 : decode cX1_takeAwayAt 106 = .ok (.iconst 1, 1) := by decide +kernel
theorem dX1_takeAwayAt_107 : decode cX1_takeAwayAt 107 = .ok (.goto 4, 3) := by decide +kernel
theorem dX1_takeAwayAt_110 : decode cX1_takeAwayAt 110 = .ok (.iconst 0, 1) := by decide +kernel
theorem dX1_takeAwayAt_111 : decode cX1_takeAwayAt 111 = .ok (.ireturn, 1) := by decide +kernel
set_option maxRecDepth 20000 in
theorem ggX1_addMultipleAt_X1_limb : GoodIn wsX1_addMultipleAt wsX1_limb := goodIn_r _ [11, 6, 12, 13, 14] (by decide +kernel) (by decide +kernel)
set_option maxRecDepth 20000 in
theorem gX1_addMultipleAt_X1_limb : GoodIn wsX1_addMultipleAt (wsV RX1 21 RX1 yX1_limb wsX1_limb) := goodIn_app (goodIn_of _ (by decide +kernel)) ggX1_addMultipleAt_X1_limb
theorem dX1_addMultipleAt_0 : decode cX1_addMultipleAt 0 = .ok (.lconst 0, 1) := by decide +kernel
theorem dX1_addMultipleAt_1 : decode cX1_addMultipleAt 1 = .ok (.lstore 5, 2) := by decide +kernel
theorem dX1_addMultipleAt_3 : decode cX1_addMultipleAt 3 = .ok (.iload_n 1, 1) := by decide +kernel
theorem dX1_addMultipleAt_4 : decode cX1_addMultipleAt 4 = .ok (.aload_n 2, 1) := by decide +kernel
theorem dX1_addMultipleAt_5 : decode cX1_addMultipleAt 5 = .ok (.getfield 13, 3) := by decide +kernel
theorem dX1_addMultipleAt_8 : decode cX1_addMultipleAt 8 = .ok (.iadd, 1) := by decide +kernel
theorem dX1_addMultipleAt_9 : decode cX1_addMultipleAt 9 = .ok (.bipush 19, 2) := by decide +kernel
theorem dX1_addMultipleAt_11 : decode cX1_addMultipleAt 11 = .ok (.invokestatic 68, 3) := by decide +kernel
theorem dX1_addMultipleAt_14 : decode cX1_addMultipleAt 14 = .ok (.istore 7, 2) := by decide +kernel
theorem dX1_addMultipleAt_16 : decode cX1_addMultipleAt 16 = .ok (.iload_n 1, 1) := by decide +kernel
theorem dX1_addMultipleAt_17 : decode cX1_addMultipleAt 17 = .ok (.istore 8, 2) := by decide +kernel
theorem dX1_addMultipleAt_19 : decode cX1_addMultipleAt 19 = .ok (.iload 8, 2) := by decide +kernel
theorem dX1_addMultipleAt_21 : decode cX1_addMultipleAt 21 = .ok (.iload 7, 2) := by decide +kernel
theorem dX1_addMultipleAt_23 : decode cX1_addMultipleAt 23 = .ok (.if_icmp .gt 48, 3) := by decide +kernel
theorem dX1_addMultipleAt_26 : decode cX1_addMultipleAt 26 = .ok (.lload_n 3, 1) := by decide +kernel
theorem dX1_addMultipleAt_27 : decode cX1_addMultipleAt 27 = .ok (.aload_n 2, 1) := by decide +kernel
theorem dX1_addMultipleAt_28 : decode cX1_addMultipleAt 28 = .ok (.iload 8, 2) := by decide +kernel
theorem dX1_addMultipleAt_30 : decode cX1_addMultipleAt 30 = .ok (.iload_n 1, 1) := by decide +kernel
theorem dX1_addMultipleAt_31 : decode cX1_addMultipleAt 31 = .ok (.isub, 1) := by decide +kernel
theorem dX1_addMultipleAt_32 : decode cX1_addMultipleAt 32 = .ok (.invokevirtual 21, 3) := by decide +kernel
theorem dX1_addMultipleAt_35 : decode cX1_addMultipleAt 35 = .ok (.lmul, 1) := by decide +kernel
theorem dX1_addMultipleAt_36 : decode cX1_addMultipleAt 36 = .ok (.aload_n 0, 1) := by decide +kernel
theorem dX1_addMultipleAt_37 : decode cX1_addMultipleAt 37 = .ok (.iload 8, 2) := by decide +kernel
theorem dX1_addMultipleAt_39 : decode cX1_addMultipleAt 39 = .ok (.invokevirtual 21, 3) := by decide +kernel
theorem dX1_addMultipleAt_42 : decode cX1_addMultipleAt 42 = .ok (.ladd, 1) := by decide +kernel
theorem dX1_addMultipleAt_43 : decode cX1_addMultipleAt 43 = .ok (.lload 5, 2) := by decide +kernel
theorem dX1_addMultipleAt_45 : decode cX1_addMultipleAt 45 = .ok (.ladd, 1) := by decide +kernel
theorem dX1_addMultipleAt_46 : decode cX1_addMultipleAt 46 = .ok (.lstore 9, 2) := by decide +kernel
theorem dX1_addMultipleAt_48 : decode cX1_addMultipleAt 48 = .ok (.aload_n 0, 1) := by decide +kernel
theorem dX1_addMultipleAt_49 : decode cX1_addMultipleAt 49 = .ok (.getfield 9, 3) := by decide +kernel
theorem dX1_addMultipleAt_52 : decode cX1_addMultipleAt 52 = .ok (.iload 8, 2) := by decide +kernel
theorem dX1_addMultipleAt_54 : decode cX1_addMultipleAt 54 = .ok (.lload 9, 2) := by decide +kernel
theorem dX1_addMultipleAt_56 : decode cX1_addMultipleAt 56 = .ok (.l2i, 1) := by decide +kernel
theorem dX1_addMultipleAt_57 : decode cX1_addMultipleAt 57 = .ok (.iastore, 1) := by decide +kernel
theorem dX1_addMultipleAt_58 : decode cX1_addMultipleAt 58 = .ok (.lload 9, 2) := by decide +kernel
theorem dX1_addMultipleAt_60 : decode cX1_addMultipleAt 60 = .ok (.bipush 32, 2) := by decide +kernel
theorem dX1_addMultipleAt_62 : decode cX1_addMultipleAt 62 = .ok (.lushr, 1) := by decide +kernel
theorem dX1_addMultipleAt_63 : decode cX1_addMultipleAt 63 = .ok (.lstore 5, 2) := by decide +kernel
theorem dX1_addMultipleAt_65 : decode cX1_addMultipleAt 65 = .ok (.iinc 8 1, 3) := by decide +kernel
theorem dX1_addMultipleAt_68 : decode cX1_addMultipleAt 68 = .ok (.goto (-49), 3) := by decide +kernel
theorem dX1_addMultipleAt_71 : decode cX1_addMultipleAt 71 = .ok (.return_, 1) := by decide +kernel
theorem dX1_clear_0 : decode cX1_clear 0 = .ok (.iconst 0, 1) := by decide +kernel
theorem dX1_clear_1 : decode cX1_clear 1 = .ok (.istore_n 1, 1) := by decide +kernel
theorem dX1_clear_2 : decode cX1_clear 2 = .ok (.iload_n 1, 1) := by decide +kernel
theorem dX1_clear_3 : decode cX1_clear 3 = .ok (.aload_n 0, 1) := by decide +kernel
theorem dX1_clear_4 : decode cX1_clear 4 = .ok (.getfield 13, 3) := by decide +kernel
theorem dX1_clear_7 : decode cX1_clear 7 = .ok (.if_icmp .ge 16, 3) := by decide +kernel
theorem dX1_clear_10 : decode cX1_clear 10 = .ok (.aload_n 0, 1) := by decide +kernel
theorem dX1_clear_11 : decode cX1_clear 11 = .ok (.getfield 9, 3) := by decide +kernel
theorem dX1_clear_14 : decode cX1_clear 14 = .ok (.iload_n 1, 1) := by decide +kernel
theorem dX1_clear_15 : decode cX1_clear 15 = .ok (.iconst 0, 1) := by decide +kernel
theorem dX1_clear_16 : decode cX1_clear 16 = .ok (.iastore, 1) := by decide +kernel
theorem dX1_clear_17 : decode cX1_clear 17 = .ok (.iinc 1 1, 3) := by decide +kernel
theorem dX1_clear_20 : decode cX1_clear 20 = .ok (.goto (-18), 3) := by decide +kernel
theorem dX1_clear_23 : decode cX1_clear 23 = .ok (.aload_n 0, 1) := by decide +kernel
theorem dX1_clear_24 : decode cX1_clear 24 = .ok (.iconst 0, 1) := by decide +kernel
theorem dX1_clear_25 : decode cX1_clear 25 = .ok (.putfield 13, 3) := by decide +kernel
theorem dX1_clear_28 : decode cX1_clear 28 = .ok (.return_, 1) := by decide +kernel
theorem dX1_trimFrom_0 : decode cX1_trimFrom 0 = .ok (.iload_n 1, 1) := by decide +kernel
theorem dX1_trimFrom_1 : decode cX1_trimFrom 1 = .ok (.istore_n 2, 1) := by decide +kernel
theorem dX1_trimFrom_2 : decode cX1_trimFrom 2 = .ok (.iload_n 2, 1) := by decide +kernel
theorem dX1_trimFrom_3 : decode cX1_trimFrom 3 = .ok (.ifCond .le 20, 3) := by decide +kernel
theorem dX1_trimFrom_6 : decode cX1_trimFrom 6 = .ok (.aload_n 0, 1) := by decide +kernel
theorem dX1_trimFrom_7 : decode cX1_trimFrom 7 = .ok (.getfield 9, 3) := by decide +kernel
theorem dX1_trimFrom_10 : decode cX1_trimFrom 10 = .ok (.iload_n 2, 1) := by decide +kernel
theorem dX1_trimFrom_11 : decode cX1_trimFrom 11 = .ok (.iconst 1, 1) := by decide +kernel
theorem dX1_trimFrom_12 : decode cX1_trimFrom 12 = .ok (.isub, 1) := by decide +kernel
theorem dX1_trimFrom_13 : decode cX1_trimFrom 13 = .ok (.iaload, 1) := by decide +kernel
theorem dX1_trimFrom_14 : decode cX1_trimFrom 14 = .ok (.ifCond .ne 9, 3) := by decide +kernel
theorem dX1_trimFrom_17 : decode cX1_trimFrom 17 = .ok (.iinc 2 (-1), 3) := by decide +kernel
theorem dX1_trimFrom_20 : decode cX1_trimFrom 20 = .ok (.goto (-18), 3) := by decide +kernel
theorem dX1_trimFrom_23 : decode cX1_trimFrom 23 = .ok (.aload_n 0, 1) := by decide +kernel
theorem dX1_trimFrom_24 : decode cX1_trimFrom 24 = .ok (.iload_n 2, 1) := by decide +kernel
theorem dX1_trimFrom_25 : decode cX1_trimFrom 25 = .ok (.putfield 13, 3) := by decide +kernel
theorem dX1_trimFrom_28 : decode cX1_trimFrom 28 = .ok (.return_, 1) := by decide +kernel
theorem dX1_unsignedQuotient_0 : decode cX1_unsignedQuotient 0 = .ok (.lload_n 2, 1) := by decide +kernel
theorem dX1_unsignedQuotient_1 : decode cX1_unsignedQuotient 1 = .ok (.lconst 1, 1) := by decide +kernel
theorem dX1_unsignedQuotient_2 : decode cX1_unsignedQuotient 2 = .ok (.lcmp, 1) := by decide +kernel
theorem dX1_unsignedQuotient_3 : decode cX1_unsignedQuotient 3 = .ok (.ifCond .ge 5, 3) := by decide +kernel
theorem dX1_unsignedQuotient_6 : decode cX1_unsignedQuotient 6 = .ok (.lconst 0, 1) := by decide +kernel
theorem dX1_unsignedQuotient_7 : decode cX1_unsignedQuotient 7 = .ok (.lreturn, 1) := by decide +kernel
theorem dX1_unsignedQuotient_8 : decode cX1_unsignedQuotient 8 = .ok (.lload_n 0, 1) := by decide +kernel
theorem dX1_unsignedQuotient_9 : decode cX1_unsignedQuotient 9 = .ok (.iconst 1, 1) := by decide +kernel
theorem dX1_unsignedQuotient_10 : decode cX1_unsignedQuotient 10 = .ok (.lushr, 1) := by decide +kernel
theorem dX1_unsignedQuotient_11 : decode cX1_unsignedQuotient 11 = .ok (.lload_n 2, 1) := by decide +kernel
theorem dX1_unsignedQuotient_12 : decode cX1_unsignedQuotient 12 = .ok (.ldiv, 1) := by decide +kernel
theorem dX1_unsignedQuotient_13 : decode cX1_unsignedQuotient 13 = .ok (.iconst 1, 1) := by decide +kernel
theorem dX1_unsignedQuotient_14 : decode cX1_unsignedQuotient 14 = .ok (.lshl, 1) := by decide +kernel
theorem dX1_unsignedQuotient_15 : decode cX1_unsignedQuotient 15 = .ok (.lstore 4, 2) := by decide +kernel
theorem dX1_unsignedQuotient_17 : decode cX1_unsignedQuotient 17 = .ok (.lload_n 0, 1) := by decide +kernel
theorem dX1_unsignedQuotient_18 : decode cX1_unsignedQuotient 18 = .ok (.lload 4, 2) := by decide +kernel
theorem dX1_unsignedQuotient_20 : decode cX1_unsignedQuotient 20 = .ok (.lload_n 2, 1) := by decide +kernel
theorem dX1_unsignedQuotient_21 : decode cX1_unsignedQuotient 21 = .ok (.lmul, 1) := by decide +kernel
theorem dX1_unsignedQuotient_22 : decode cX1_unsignedQuotient 22 = .ok (.lsub, 1) := by decide +kernel
theorem dX1_unsignedQuotient_23 : decode cX1_unsignedQuotient 23 = .ok (.lload_n 2, 1) := by decide +kernel
theorem dX1_unsignedQuotient_24 : decode cX1_unsignedQuotient 24 = .ok (.lcmp, 1) := by decide +kernel
theorem dX1_unsignedQuotient_25 : decode cX1_unsignedQuotient 25 = .ok (.ifCond .lt 10, 3) := by decide +kernel
theorem dX1_unsignedQuotient_28 : decode cX1_unsignedQuotient 28 = .ok (.lload 4, 2) := by decide +kernel
theorem dX1_unsignedQuotient_30 : decode cX1_unsignedQuotient 30 = .ok (.lconst 1, 1) := by decide +kernel
theorem dX1_unsignedQuotient_31 : decode cX1_unsignedQuotient 31 = .ok (.ladd, 1) := by decide +kernel
theorem dX1_unsignedQuotient_32 : decode cX1_unsignedQuotient 32 = .ok (.goto 5, 3) := by decide +kernel
theorem dX1_unsignedQuotient_35 : decode cX1_unsignedQuotient 35 = .ok (.lload 4, 2) := by decide +kernel
theorem dX1_unsignedQuotient_37 : decode cX1_unsignedQuotient 37 = .ok (.lreturn, 1) := by decide +kernel
theorem dX1_isBelow_0 : decode cX1_isBelow 0 = .ok (.lload_n 0, 1) := by decide +kernel
theorem dX1_isBelow_1 : decode cX1_isBelow 1 = .ok (.ldc2_w 73, 3) := by decide +kernel
theorem dX1_isBelow_4 : decode cX1_isBelow 4 = .ok (.ladd, 1) := by decide +kernel
theorem dX1_isBelow_5 : decode cX1_isBelow 5 = .ok (.lload_n 2, 1) := by decide +kernel
theorem dX1_isBelow_6 : decode cX1_isBelow 6 = .ok (.ldc2_w 73, 3) := by decide +kernel
theorem dX1_isBelow_9 : decode cX1_isBelow 9 = .ok (.ladd, 1) := by decide +kernel
theorem dX1_isBelow_10 : decode cX1_isBelow 10 = .ok (.lcmp, 1) := by decide +kernel
theorem dX1_isBelow_11 : decode cX1_isBelow 11 = .ok (.ifCond .ge 7, 3) := by decide +kernel
theorem dX1_isBelow_14 : decode cX1_isBelow 14 = .ok (.iconst 1, 1) := by decide +kernel
theorem dX1_isBelow_15 : decode cX1_isBelow 15 = .ok (.goto 4, 3) := by decide +kernel
theorem dX1_isBelow_18 : decode cX1_isBelow 18 = .ok (.iconst 0, 1) := by decide +kernel
theorem dX1_isBelow_19 : decode cX1_isBelow 19 = .ok (.ireturn, 1) := by decide +kernel
set_option maxRecDepth 20000 in
theorem ggX2_init_X1_init : GoodIn wsX2_init wsX1_init := goodIn_r _ [19, 20, 2, 3, 21, 22, 23, 35, 36] (by decide +kernel) (by decide +kernel)
set_option maxRecDepth 20000 in
theorem gX2_init_X1_init_n24 : GoodIn wsX2_init (wsX1_init) := ggX2_init_X1_init
theorem dX2_init_0 : decode cX2_init 0 = .ok (.aload_n 0, 1) := by decide +kernel
theorem dX2_init_1 : decode cX2_init 1 = .ok (.invokespecial 1, 3) := by decide +kernel
theorem dX2_init_4 : decode cX2_init 4 = .ok (.aload_n 0, 1) := by decide +kernel
theorem dX2_init_5 : decode cX2_init 5 = .ok (.lconst 0, 1) := by decide +kernel
theorem dX2_init_6 : decode cX2_init 6 = .ok (.putfield 7, 3) := by decide +kernel
theorem dX2_init_9 : decode cX2_init 9 = .ok (.aload_n 0, 1) := by decide +kernel
theorem dX2_init_10 : decode cX2_init 10 = .ok (.lconst 1, 1) := by decide +kernel
theorem dX2_init_11 : decode cX2_init 11 = .ok (.putfield 13, 3) := by decide +kernel
theorem dX2_init_14 : decode cX2_init 14 = .ok (.aload_n 0, 1) := by decide +kernel
theorem dX2_init_15 : decode cX2_init 15 = .ok (.lconst 1, 1) := by decide +kernel
theorem dX2_init_16 : decode cX2_init 16 = .ok (.putfield 16, 3) := by decide +kernel
theorem dX2_init_19 : decode cX2_init 19 = .ok (.aload_n 0, 1) := by decide +kernel
theorem dX2_init_20 : decode cX2_init 20 = .ok (.lconst 0, 1) := by decide +kernel
theorem dX2_init_21 : decode cX2_init 21 = .ok (.putfield 19, 3) := by decide +kernel
theorem dX2_init_24 : decode cX2_init 24 = .ok (.aload_n 0, 1) := by decide +kernel
theorem dX2_init_25 : decode cX2_init 25 = .ok (.new 22, 3) := by decide +kernel
theorem dX2_init_28 : decode cX2_init 28 = .ok (.dup, 1) := by decide +kernel
theorem dX2_init_29 : decode cX2_init 29 = .ok (.invokespecial 24, 3) := by decide +kernel
theorem dX2_init_32 : decode cX2_init 32 = .ok (.putfield 25, 3) := by decide +kernel
theorem dX2_init_35 : decode cX2_init 35 = .ok (.aload_n 0, 1) := by decide +kernel
theorem dX2_init_36 : decode cX2_init 36 = .ok (.new 22, 3) := by decide +kernel
theorem dX2_init_39 : decode cX2_init 39 = .ok (.dup, 1) := by decide +kernel
theorem dX2_init_40 : decode cX2_init 40 = .ok (.invokespecial 24, 3) := by decide +kernel
theorem dX2_init_43 : decode cX2_init 43 = .ok (.putfield 29, 3) := by decide +kernel
theorem dX2_init_46 : decode cX2_init 46 = .ok (.aload_n 0, 1) := by decide +kernel
theorem dX2_init_47 : decode cX2_init 47 = .ok (.new 22, 3) := by decide +kernel
theorem dX2_init_50 : decode cX2_init 50 = .ok (.dup, 1) := by decide +kernel
theorem dX2_init_51 : decode cX2_init 51 = .ok (.invokespecial 24, 3) := by decide +kernel
theorem dX2_init_54 : decode cX2_init 54 = .ok (.putfield 32, 3) := by decide +kernel
theorem dX2_init_57 : decode cX2_init 57 = .ok (.aload_n 0, 1) := by decide +kernel
theorem dX2_init_58 : decode cX2_init 58 = .ok (.new 22, 3) := by decide +kernel
theorem dX2_init_61 : decode cX2_init 61 = .ok (.dup, 1) := by decide +kernel
theorem dX2_init_62 : decode cX2_init 62 = .ok (.invokespecial 24, 3) := by decide +kernel
theorem dX2_init_65 : decode cX2_init 65 = .ok (.putfield 35, 3) := by decide +kernel
theorem dX2_init_68 : decode cX2_init 68 = .ok (.aload_n 0, 1) := by decide +kernel
theorem dX2_init_69 : decode cX2_init 69 = .ok (.new 22, 3) := by decide +kernel
theorem dX2_init_72 : decode cX2_init 72 = .ok (.dup, 1) := by decide +kernel
theorem dX2_init_73 : decode cX2_init 73 = .ok (.invokespecial 24, 3) := by decide +kernel
theorem dX2_init_76 : decode cX2_init 76 = .ok (.putfield 38, 3) := by decide +kernel
theorem dX2_init_79 : decode cX2_init 79 = .ok (.aload_n 0, 1) := by decide +kernel
theorem dX2_init_80 : decode cX2_init 80 = .ok (.new 22, 3) := by decide +kernel
theorem dX2_init_83 : decode cX2_init 83 = .ok (.dup, 1) := by decide +kernel
theorem dX2_init_84 : decode cX2_init 84 = .ok (.invokespecial 24, 3) := by decide +kernel
theorem dX2_init_87 : decode cX2_init 87 = .ok (.putfield 41, 3) := by decide +kernel
theorem dX2_init_90 : decode cX2_init 90 = .ok (.aload_n 0, 1) := by decide +kernel
theorem dX2_init_91 : decode cX2_init 91 = .ok (.new 22, 3) := by decide +kernel
theorem dX2_init_94 : decode cX2_init 94 = .ok (.dup, 1) := by decide +kernel
theorem dX2_init_95 : decode cX2_init 95 = .ok (.invokespecial 24, 3) := by decide +kernel
theorem dX2_init_98 : decode cX2_init 98 = .ok (.putfield 44, 3) := by decide +kernel
theorem dX2_init_101 : decode cX2_init 101 = .ok (.return_, 1) := by decide +kernel
set_option maxRecDepth 20000 in
theorem ggX2_seek_X1_become_ : GoodIn wsX2_seek wsX1_become_ := goodIn_r _ [11, 12, 13, 14, 15, 16, 17, 120, 121] (by decide +kernel) (by decide +kernel)
set_option maxRecDepth 20000 in
theorem gX2_seek_X1_become_ : GoodIn wsX2_seek (wsV RX2 47 RX1 yX1_become_ wsX1_become_) := goodIn_app (goodIn_of _ (by decide +kernel)) ggX2_seek_X1_become_
set_option maxRecDepth 20000 in
theorem ggX2_seek_X1_isZero : GoodIn wsX2_seek wsX1_isZero := goodIn_r _ [21, 12, 120, 121] (by decide +kernel) (by decide +kernel)
set_option maxRecDepth 20000 in
theorem gX2_seek_X1_isZero : GoodIn wsX2_seek (wsV RX2 51 RX1 yX1_isZero wsX1_isZero) := goodIn_app (goodIn_of _ (by decide +kernel)) ggX2_seek_X1_isZero
set_option maxRecDepth 20000 in
theorem ggX2_seek_X2_moveOn : GoodIn wsX2_seek wsX2_moveOn := goodIn_r _ [26, 27, 3, 6, 28, 2, 5, 1, 4, 7, 8, 9, 10, 11, 12, 13, 14, 15, 16, 17, 29, 30, 31, 32, 33, 34, 35, 36, 37, 38, 39, 40, 41, 42, 43, 44, 45, 46, 47, 48, 49, 50, 51, 52, 53, 54, 55, 56, 57, 58, 59, 60, 61, 62, 63, 64, 65, 66, 67, 68, 69, 70, 71, 72, 73, 74, 75, 76, 77, 78, 79, 80, 81, 109, 110, 111, 112, 113, 114, 115, 116, 117, 118, 119, 120, 121] (by decide +kernel) (by decide +kernel)
set_option maxRecDepth 20000 in
theorem gX2_seek_X2_moveOn : GoodIn wsX2_seek (wsV RX2 55 RX2 yX2_moveOn wsX2_moveOn) := goodIn_app (goodIn_of _ (by decide +kernel)) ggX2_seek_X2_moveOn
set_option maxRecDepth 20000 in
theorem ggX2_seek_X2_chooseNearer : GoodIn wsX2_seek wsX2_chooseNearer := goodIn_r _ [85, 5, 2, 1, 4, 27, 3, 6, 7, 8, 9, 10, 11, 12, 13, 14, 15, 16, 17, 86, 87, 88, 89, 63, 64, 65, 66, 67, 68, 69, 46, 47, 48, 49, 50, 74, 75, 76, 77, 90, 91, 92, 25, 93, 94, 95, 96, 97, 98, 99, 100, 33, 34, 35, 36, 101, 102, 103, 104, 70, 71, 72, 73, 105, 106, 107, 108, 109, 110, 111, 112, 113, 114, 115, 116, 117, 118, 119, 120, 121] (by decide +kernel) (by decide +kernel)
set_option maxRecDepth 20000 in
theorem gX2_seek_X2_chooseNearer : GoodIn wsX2_seek (wsV RX2 59 RX2 yX2_chooseNearer wsX2_chooseNearer) := goodIn_app (goodIn_of _ (by decide +kernel)) ggX2_seek_X2_chooseNearer
theorem dX2_seek_0 : decode cX2_seek 0 = .ok (.aload_n 0, 1) := by decide +kernel
theorem dX2_seek_1 : decode cX2_seek 1 = .ok (.lconst 1, 1) := by decide +kernel
theorem dX2_seek_2 : decode cX2_seek 2 = .ok (.putfield 16, 3) := by decide +kernel
theorem dX2_seek_5 : decode cX2_seek 5 = .ok (.aload_n 0, 1) := by decide +kernel
theorem dX2_seek_6 : decode cX2_seek 6 = .ok (.lconst 0, 1) := by decide +kernel
theorem dX2_seek_7 : decode cX2_seek 7 = .ok (.putfield 19, 3) := by decide +kernel
theorem dX2_seek_10 : decode cX2_seek 10 = .ok (.aload_n 0, 1) := by decide +kernel
theorem dX2_seek_11 : decode cX2_seek 11 = .ok (.getfield 29, 3) := by decide +kernel
theorem dX2_seek_14 : decode cX2_seek 14 = .ok (.aload 4, 2) := by decide +kernel
theorem dX2_seek_16 : decode cX2_seek 16 = .ok (.invokevirtual 47, 3) := by decide +kernel
theorem dX2_seek_19 : decode cX2_seek 19 = .ok (.aload_n 0, 1) := by decide +kernel
theorem dX2_seek_20 : decode cX2_seek 20 = .ok (.lload_n 1, 1) := by decide +kernel
theorem dX2_seek_21 : decode cX2_seek 21 = .ok (.putfield 7, 3) := by decide +kernel
theorem dX2_seek_24 : decode cX2_seek 24 = .ok (.aload_n 0, 1) := by decide +kernel
theorem dX2_seek_25 : decode cX2_seek 25 = .ok (.lconst 1, 1) := by decide +kernel
theorem dX2_seek_26 : decode cX2_seek 26 = .ok (.putfield 13, 3) := by decide +kernel
theorem dX2_seek_29 : decode cX2_seek 29 = .ok (.aload_n 0, 1) := by decide +kernel
theorem dX2_seek_30 : decode cX2_seek 30 = .ok (.getfield 25, 3) := by decide +kernel
theorem dX2_seek_33 : decode cX2_seek 33 = .ok (.aload_n 3, 1) := by decide +kernel
theorem dX2_seek_34 : decode cX2_seek 34 = .ok (.invokevirtual 47, 3) := by decide +kernel
theorem dX2_seek_37 : decode cX2_seek 37 = .ok (.iconst 1, 1) := by decide +kernel
theorem dX2_seek_38 : decode cX2_seek 38 = .ok (.istore 6, 2) := by decide +kernel
theorem dX2_seek_40 : decode cX2_seek 40 = .ok (.iconst 0, 1) := by decide +kernel
theorem dX2_seek_41 : decode cX2_seek 41 = .ok (.istore 7, 2) := by decide +kernel
theorem dX2_seek_43 : decode cX2_seek 43 = .ok (.iload 7, 2) := by decide +kernel
theorem dX2_seek_45 : decode cX2_seek 45 = .ok (.sipush 10000, 3) := by decide +kernel
theorem dX2_seek_48 : decode cX2_seek 48 = .ok (.if_icmp .ge 40, 3) := by decide +kernel
theorem dX2_seek_51 : decode cX2_seek 51 = .ok (.iload 6, 2) := by decide +kernel
theorem dX2_seek_53 : decode cX2_seek 53 = .ok (.ifCond .eq 35, 3) := by decide +kernel
theorem dX2_seek_56 : decode cX2_seek 56 = .ok (.aload_n 0, 1) := by decide +kernel
theorem dX2_seek_57 : decode cX2_seek 57 = .ok (.getfield 25, 3) := by decide +kernel
theorem dX2_seek_60 : decode cX2_seek 60 = .ok (.invokevirtual 51, 3) := by decide +kernel
theorem dX2_seek_63 : decode cX2_seek 63 = .ok (.ifCond .ne 16, 3) := by decide +kernel
theorem dX2_seek_66 : decode cX2_seek 66 = .ok (.aload_n 0, 1) := by decide +kernel
theorem dX2_seek_67 : decode cX2_seek 67 = .ok (.iload 5, 2) := by decide +kernel
theorem dX2_seek_69 : decode cX2_seek 69 = .ok (.invokevirtual 55, 3) := by decide +kernel
theorem dX2_seek_72 : decode cX2_seek 72 = .ok (.ifCond .eq 7, 3) := by decide +kernel
theorem dX2_seek_75 : decode cX2_seek 75 = .ok (.iconst 1, 1) := by decide +kernel
theorem dX2_seek_76 : decode cX2_seek 76 = .ok (.goto 4, 3) := by decide +kernel
theorem dX2_seek_79 : decode cX2_seek 79 = .ok (.iconst 0, 1) := by decide +kernel
theorem dX2_seek_80 : decode cX2_seek 80 = .ok (.istore 6, 2) := by decide +kernel
theorem dX2_seek_82 : decode cX2_seek 82 = .ok (.iinc 7 1, 3) := by decide +kernel
theorem dX2_seek_85 : decode cX2_seek 85 = .ok (.goto (-42), 3) := by decide +kernel
theorem dX2_seek_88 : decode cX2_seek 88 = .ok (.aload_n 0, 1) := by decide +kernel
theorem dX2_seek_89 : decode cX2_seek 89 = .ok (.getfield 25, 3) := by decide +kernel
theorem dX2_seek_92 : decode cX2_seek 92 = .ok (.invokevirtual 51, 3) := by decide +kernel
theorem dX2_seek_95 : decode cX2_seek 95 = .ok (.ifCond .ne 9, 3) := by decide +kernel
theorem dX2_seek_98 : decode cX2_seek 98 = .ok (.aload_n 0, 1) := by decide +kernel
theorem dX2_seek_99 : decode cX2_seek 99 = .ok (.iload 5, 2) := by decide +kernel
theorem dX2_seek_101 : decode cX2_seek 101 = .ok (.invokevirtual 59, 3) := by decide +kernel
theorem dX2_seek_104 : decode cX2_seek 104 = .ok (.return_, 1) := by decide +kernel
set_option maxRecDepth 20000 in
theorem ggX2_moveOn_X1_become_ : GoodIn wsX2_moveOn wsX1_become_ := goodIn_r _ [13, 14, 15, 16, 17, 18, 19, 84, 85] (by decide +kernel) (by decide +kernel)
set_option maxRecDepth 20000 in
theorem gX2_moveOn_X1_become_ : GoodIn wsX2_moveOn (wsV RX2 47 RX1 yX1_become_ wsX1_become_) := goodIn_app (goodIn_of _ (by decide +kernel)) ggX2_moveOn_X1_become_
set_option maxRecDepth 20000 in
theorem ggX2_moveOn_X1_divide : GoodIn wsX2_moveOn wsX1_divide := goodIn_r _ [23, 14, 19, 24, 25, 26, 12, 27, 28, 29, 30, 31, 32, 33, 34, 35, 36, 37, 38, 39, 40, 41, 42, 43, 44, 45, 46, 47, 48, 49, 50, 51, 52, 53, 54, 55, 56, 57, 58, 59, 17, 60, 61, 62, 63, 64, 65, 66, 67, 68, 84, 85] (by decide +kernel) (by decide +kernel)
set_option maxRecDepth 20000 in
theorem gX2_moveOn_X1_divide : GoodIn wsX2_moveOn (wsV RX2 63 RX1 yX1_divide wsX1_divide) := goodIn_app (goodIn_of _ (by decide +kernel)) ggX2_moveOn_X1_divide
set_option maxRecDepth 20000 in
theorem ggX2_moveOn_X1_capped : GoodIn wsX2_moveOn wsX1_capped := goodIn_r _ [72, 14, 46, 38, 39, 40, 12, 41, 19, 37, 84, 85] (by decide +kernel) (by decide +kernel)
set_option maxRecDepth 20000 in
theorem gX2_moveOn_X1_capped : GoodIn wsX2_moveOn (wsV RX2 67 RX1 yX1_capped wsX1_capped) := goodIn_app (goodIn_of _ (by decide +kernel)) ggX2_moveOn_X1_capped
theorem dX2_moveOn_0 : decode cX2_moveOn 0 = .ok (.aload_n 0, 1) := by decide +kernel
theorem dX2_moveOn_1 : decode cX2_moveOn 1 = .ok (.getfield 32, 3) := by decide +kernel
theorem dX2_moveOn_4 : decode cX2_moveOn 4 = .ok (.aload_n 0, 1) := by decide +kernel
theorem dX2_moveOn_5 : decode cX2_moveOn 5 = .ok (.getfield 29, 3) := by decide +kernel
theorem dX2_moveOn_8 : decode cX2_moveOn 8 = .ok (.invokevirtual 47, 3) := by decide +kernel
theorem dX2_moveOn_11 : decode cX2_moveOn 11 = .ok (.aload_n 0, 1) := by decide +kernel
theorem dX2_moveOn_12 : decode cX2_moveOn 12 = .ok (.getfield 32, 3) := by decide +kernel
theorem dX2_moveOn_15 : decode cX2_moveOn 15 = .ok (.aload_n 0, 1) := by decide +kernel
theorem dX2_moveOn_16 : decode cX2_moveOn 16 = .ok (.getfield 25, 3) := by decide +kernel
theorem dX2_moveOn_19 : decode cX2_moveOn 19 = .ok (.aload_n 0, 1) := by decide +kernel
theorem dX2_moveOn_20 : decode cX2_moveOn 20 = .ok (.getfield 35, 3) := by decide +kernel
theorem dX2_moveOn_23 : decode cX2_moveOn 23 = .ok (.invokevirtual 63, 3) := by decide +kernel
theorem dX2_moveOn_26 : decode cX2_moveOn 26 = .ok (.aload_n 0, 1) := by decide +kernel
theorem dX2_moveOn_27 : decode cX2_moveOn 27 = .ok (.getfield 35, 3) := by decide +kernel
theorem dX2_moveOn_30 : decode cX2_moveOn 30 = .ok (.invokevirtual 67, 3) := by decide +kernel
theorem dX2_moveOn_33 : decode cX2_moveOn 33 = .ok (.lstore_n 2, 1) := by decide +kernel
theorem dX2_moveOn_34 : decode cX2_moveOn 34 = .ok (.aload_n 0, 1) := by decide +kernel
theorem dX2_moveOn_35 : decode cX2_moveOn 35 = .ok (.getfield 19, 3) := by decide +kernel
theorem dX2_moveOn_38 : decode cX2_moveOn 38 = .ok (.lload_n 2, 1) := by decide +kernel
theorem dX2_moveOn_39 : decode cX2_moveOn 39 = .ok (.aload_n 0, 1) := by decide +kernel
theorem dX2_moveOn_40 : decode cX2_moveOn 40 = .ok (.getfield 13, 3) := by decide +kernel
theorem dX2_moveOn_43 : decode cX2_moveOn 43 = .ok (.lmul, 1) := by decide +kernel
theorem dX2_moveOn_44 : decode cX2_moveOn 44 = .ok (.ladd, 1) := by decide +kernel
theorem dX2_moveOn_45 : decode cX2_moveOn 45 = .ok (.lstore 4, 2) := by decide +kernel
theorem dX2_moveOn_47 : decode cX2_moveOn 47 = .ok (.lload 4, 2) := by decide +kernel
theorem dX2_moveOn_49 : decode cX2_moveOn 49 = .ok (.iload_n 1, 1) := by decide +kernel
theorem dX2_moveOn_50 : decode cX2_moveOn 50 = .ok (.i2l, 1) := by decide +kernel
theorem dX2_moveOn_51 : decode cX2_moveOn 51 = .ok (.lcmp, 1) := by decide +kernel
theorem dX2_moveOn_52 : decode cX2_moveOn 52 = .ok (.ifCond .le 5, 3) := by decide +kernel
theorem dX2_moveOn_55 : decode cX2_moveOn 55 = .ok (.iconst 0, 1) := by decide +kernel
theorem dX2_moveOn_56 : decode cX2_moveOn 56 = .ok (.ireturn, 1) := by decide +kernel
theorem dX2_moveOn_57 : decode cX2_moveOn 57 = .ok (.aload_n 0, 1) := by decide +kernel
theorem dX2_moveOn_58 : decode cX2_moveOn 58 = .ok (.getfield 16, 3) := by decide +kernel
theorem dX2_moveOn_61 : decode cX2_moveOn 61 = .ok (.lload_n 2, 1) := by decide +kernel
theorem dX2_moveOn_62 : decode cX2_moveOn 62 = .ok (.aload_n 0, 1) := by decide +kernel
theorem dX2_moveOn_63 : decode cX2_moveOn 63 = .ok (.getfield 7, 3) := by decide +kernel
theorem dX2_moveOn_66 : decode cX2_moveOn 66 = .ok (.lmul, 1) := by decide +kernel
theorem dX2_moveOn_67 : decode cX2_moveOn 67 = .ok (.ladd, 1) := by decide +kernel
theorem dX2_moveOn_68 : decode cX2_moveOn 68 = .ok (.lstore 6, 2) := by decide +kernel
theorem dX2_moveOn_70 : decode cX2_moveOn 70 = .ok (.aload_n 0, 1) := by decide +kernel
theorem dX2_moveOn_71 : decode cX2_moveOn 71 = .ok (.getfield 29, 3) := by decide +kernel
theorem dX2_moveOn_74 : decode cX2_moveOn 74 = .ok (.astore 8, 2) := by decide +kernel
theorem dX2_moveOn_76 : decode cX2_moveOn 76 = .ok (.aload_n 0, 1) := by decide +kernel
theorem dX2_moveOn_77 : decode cX2_moveOn 77 = .ok (.aload_n 0, 1) := by decide +kernel
theorem dX2_moveOn_78 : decode cX2_moveOn 78 = .ok (.getfield 25, 3) := by decide +kernel
theorem dX2_moveOn_81 : decode cX2_moveOn 81 = .ok (.putfield 29, 3) := by decide +kernel
theorem dX2_moveOn_84 : decode cX2_moveOn 84 = .ok (.aload_n 0, 1) := by decide +kernel
theorem dX2_moveOn_85 : decode cX2_moveOn 85 = .ok (.aload_n 0, 1) := by decide +kernel
theorem dX2_moveOn_86 : decode cX2_moveOn 86 = .ok (.getfield 32, 3) := by decide +kernel
theorem dX2_moveOn_89 : decode cX2_moveOn 89 = .ok (.putfield 25, 3) := by decide +kernel
theorem dX2_moveOn_92 : decode cX2_moveOn 92 = .ok (.aload_n 0, 1) := by decide +kernel
theorem dX2_moveOn_93 : decode cX2_moveOn 93 = .ok (.aload 8, 2) := by decide +kernel
theorem dX2_moveOn_95 : decode cX2_moveOn 95 = .ok (.putfield 32, 3) := by decide +kernel
theorem dX2_moveOn_98 : decode cX2_moveOn 98 = .ok (.aload_n 0, 1) := by decide +kernel
theorem dX2_moveOn_99 : decode cX2_moveOn 99 = .ok (.aload_n 0, 1) := by decide +kernel
theorem dX2_moveOn_100 : decode cX2_moveOn 100 = .ok (.getfield 7, 3) := by decide +kernel
theorem dX2_moveOn_103 : decode cX2_moveOn 103 = .ok (.putfield 16, 3) := by decide +kernel
theorem dX2_moveOn_106 : decode cX2_moveOn 106 = .ok (.aload_n 0, 1) := by decide +kernel
theorem dX2_moveOn_107 : decode cX2_moveOn 107 = .ok (.aload_n 0, 1) := by decide +kernel
theorem dX2_moveOn_108 : decode cX2_moveOn 108 = .ok (.getfield 13, 3) := by decide +kernel
theorem dX2_moveOn_111 : decode cX2_moveOn 111 = .ok (.putfield 19, 3) := by decide +kernel
theorem dX2_moveOn_114 : decode cX2_moveOn 114 = .ok (.aload_n 0, 1) := by decide +kernel
theorem dX2_moveOn_115 : decode cX2_moveOn 115 = .ok (.lload 6, 2) := by decide +kernel
theorem dX2_moveOn_117 : decode cX2_moveOn 117 = .ok (.putfield 7, 3) := by decide +kernel
theorem dX2_moveOn_120 : decode cX2_moveOn 120 = .ok (.aload_n 0, 1) := by decide +kernel
theorem dX2_moveOn_121 : decode cX2_moveOn 121 = .ok (.lload 4, 2) := by decide +kernel
theorem dX2_moveOn_123 : decode cX2_moveOn 123 = .ok (.putfield 13, 3) := by decide +kernel
theorem dX2_moveOn_126 : decode cX2_moveOn 126 = .ok (.iconst 1, 1) := by decide +kernel
theorem dX2_moveOn_127 : decode cX2_moveOn 127 = .ok (.ireturn, 1) := by decide +kernel
set_option maxRecDepth 20000 in
theorem ggX2_chooseNearer_X1_become_ : GoodIn wsX2_chooseNearer wsX1_become_ := goodIn_r _ [12, 13, 14, 15, 16, 17, 18, 78, 79] (by decide +kernel) (by decide +kernel)
set_option maxRecDepth 20000 in
theorem gX2_chooseNearer_X1_become_ : GoodIn wsX2_chooseNearer (wsV RX2 47 RX1 yX1_become_ wsX1_become_) := goodIn_app (goodIn_of _ (by decide +kernel)) ggX2_chooseNearer_X1_become_
set_option maxRecDepth 20000 in
theorem ggX2_chooseNearer_X1_takeAway : GoodIn wsX2_chooseNearer wsX1_takeAway := goodIn_r _ [22, 13, 23, 24, 25, 11, 26, 27, 28, 16, 29, 30, 18, 31, 32, 33, 34, 35, 36, 37, 38, 78, 79] (by decide +kernel) (by decide +kernel)
set_option maxRecDepth 20000 in
theorem gX2_chooseNearer_X1_takeAway : GoodIn wsX2_chooseNearer (wsV RX2 71 RX1 yX1_takeAway wsX1_takeAway) := goodIn_app (goodIn_of _ (by decide +kernel)) ggX2_chooseNearer_X1_takeAway
set_option maxRecDepth 20000 in
theorem ggX2_chooseNearer_X2_isBetter : GoodIn wsX2_chooseNearer wsX2_isBetter := goodIn_r _ [43, 44, 1, 45, 5, 46, 7, 4, 47, 48, 49, 11, 50, 18, 51, 52, 53, 54, 13, 35, 36, 37, 38, 55, 56, 57, 58, 31, 32, 33, 34, 30, 59, 60, 61, 62, 27, 28, 16, 29, 63, 64, 65, 66, 67, 68, 69, 70, 71, 72, 73, 74, 75, 76, 77, 78, 79] (by decide +kernel) (by decide +kernel)
set_option maxRecDepth 20000 in
theorem gX2_chooseNearer_X2_isBetter : GoodIn wsX2_chooseNearer (wsV RX2 75 RX2 yX2_isBetter wsX2_isBetter) := goodIn_app (goodIn_of _ (by decide +kernel)) ggX2_chooseNearer_X2_isBetter
theorem dX2_chooseNearer_0 : decode cX2_chooseNearer 0 = .ok (.aload_n 0, 1) := by decide +kernel
theorem dX2_chooseNearer_1 : decode cX2_chooseNearer 1 = .ok (.getfield 13, 3) := by decide +kernel
theorem dX2_chooseNearer_4 : decode cX2_chooseNearer 4 = .ok (.lconst 1, 1) := by decide +kernel
theorem dX2_chooseNearer_5 : decode cX2_chooseNearer 5 = .ok (.lcmp, 1) := by decide +kernel
theorem dX2_chooseNearer_6 : decode cX2_chooseNearer 6 = .ok (.ifCond .ge 7, 3) := by decide +kernel
theorem dX2_chooseNearer_9 : decode cX2_chooseNearer 9 = .ok (.lconst 0, 1) := by decide +kernel
theorem dX2_chooseNearer_10 : decode cX2_chooseNearer 10 = .ok (.goto 15, 3) := by decide +kernel
theorem dX2_chooseNearer_13 : decode cX2_chooseNearer 13 = .ok (.iload_n 1, 1) := by decide +kernel
theorem dX2_chooseNearer_14 : decode cX2_chooseNearer 14 = .ok (.i2l, 1) := by decide +kernel
theorem dX2_chooseNearer_15 : decode cX2_chooseNearer 15 = .ok (.aload_n 0, 1) := by decide +kernel
theorem dX2_chooseNearer_16 : decode cX2_chooseNearer 16 = .ok (.getfield 19, 3) := by decide +kernel
theorem dX2_chooseNearer_19 : decode cX2_chooseNearer 19 = .ok (.lsub, 1) := by decide +kernel
theorem dX2_chooseNearer_20 : decode cX2_chooseNearer 20 = .ok (.aload_n 0, 1) := by decide +kernel
theorem dX2_chooseNearer_21 : decode cX2_chooseNearer 21 = .ok (.getfield 13, 3) := by decide +kernel
theorem dX2_chooseNearer_24 : decode cX2_chooseNearer 24 = .ok (.ldiv, 1) := by decide +kernel
theorem dX2_chooseNearer_25 : decode cX2_chooseNearer 25 = .ok (.lstore_n 2, 1) := by decide +kernel
theorem dX2_chooseNearer_26 : decode cX2_chooseNearer 26 = .ok (.aload_n 0, 1) := by decide +kernel
theorem dX2_chooseNearer_27 : decode cX2_chooseNearer 27 = .ok (.getfield 16, 3) := by decide +kernel
theorem dX2_chooseNearer_30 : decode cX2_chooseNearer 30 = .ok (.lload_n 2, 1) := by decide +kernel
theorem dX2_chooseNearer_31 : decode cX2_chooseNearer 31 = .ok (.aload_n 0, 1) := by decide +kernel
theorem dX2_chooseNearer_32 : decode cX2_chooseNearer 32 = .ok (.getfield 7, 3) := by decide +kernel
theorem dX2_chooseNearer_35 : decode cX2_chooseNearer 35 = .ok (.lmul, 1) := by decide +kernel
theorem dX2_chooseNearer_36 : decode cX2_chooseNearer 36 = .ok (.ladd, 1) := by decide +kernel
theorem dX2_chooseNearer_37 : decode cX2_chooseNearer 37 = .ok (.lstore 4, 2) := by decide +kernel
theorem dX2_chooseNearer_39 : decode cX2_chooseNearer 39 = .ok (.aload_n 0, 1) := by decide +kernel
theorem dX2_chooseNearer_40 : decode cX2_chooseNearer 40 = .ok (.getfield 19, 3) := by decide +kernel
theorem dX2_chooseNearer_43 : decode cX2_chooseNearer 43 = .ok (.lload_n 2, 1) := by decide +kernel
theorem dX2_chooseNearer_44 : decode cX2_chooseNearer 44 = .ok (.aload_n 0, 1) := by decide +kernel
theorem dX2_chooseNearer_45 : decode cX2_chooseNearer 45 = .ok (.getfield 13, 3) := by decide +kernel
theorem dX2_chooseNearer_48 : decode cX2_chooseNearer 48 = .ok (.lmul, 1) := by decide +kernel
theorem dX2_chooseNearer_49 : decode cX2_chooseNearer 49 = .ok (.ladd, 1) := by decide +kernel
theorem dX2_chooseNearer_50 : decode cX2_chooseNearer 50 = .ok (.lstore 6, 2) := by decide +kernel
theorem dX2_chooseNearer_52 : decode cX2_chooseNearer 52 = .ok (.aload_n 0, 1) := by decide +kernel
theorem dX2_chooseNearer_53 : decode cX2_chooseNearer 53 = .ok (.getfield 32, 3) := by decide +kernel
theorem dX2_chooseNearer_56 : decode cX2_chooseNearer 56 = .ok (.aload_n 0, 1) := by decide +kernel
theorem dX2_chooseNearer_57 : decode cX2_chooseNearer 57 = .ok (.getfield 29, 3) := by decide +kernel
theorem dX2_chooseNearer_60 : decode cX2_chooseNearer 60 = .ok (.invokevirtual 47, 3) := by decide +kernel
theorem dX2_chooseNearer_63 : decode cX2_chooseNearer 63 = .ok (.aload_n 0, 1) := by decide +kernel
theorem dX2_chooseNearer_64 : decode cX2_chooseNearer 64 = .ok (.getfield 32, 3) := by decide +kernel
theorem dX2_chooseNearer_67 : decode cX2_chooseNearer 67 = .ok (.aload_n 0, 1) := by decide +kernel
theorem dX2_chooseNearer_68 : decode cX2_chooseNearer 68 = .ok (.getfield 25, 3) := by decide +kernel
theorem dX2_chooseNearer_71 : decode cX2_chooseNearer 71 = .ok (.lload_n 2, 1) := by decide +kernel
theorem dX2_chooseNearer_72 : decode cX2_chooseNearer 72 = .ok (.invokevirtual 71, 3) := by decide +kernel
theorem dX2_chooseNearer_75 : decode cX2_chooseNearer 75 = .ok (.aload_n 0, 1) := by decide +kernel
theorem dX2_chooseNearer_76 : decode cX2_chooseNearer 76 = .ok (.lload 4, 2) := by decide +kernel
theorem dX2_chooseNearer_78 : decode cX2_chooseNearer 78 = .ok (.lload 6, 2) := by decide +kernel
theorem dX2_chooseNearer_80 : decode cX2_chooseNearer 80 = .ok (.invokevirtual 75, 3) := by decide +kernel
theorem dX2_chooseNearer_83 : decode cX2_chooseNearer 83 = .ok (.ifCond .eq 15, 3) := by decide +kernel
theorem dX2_chooseNearer_86 : decode cX2_chooseNearer 86 = .ok (.aload_n 0, 1) := by decide +kernel
theorem dX2_chooseNearer_87 : decode cX2_chooseNearer 87 = .ok (.lload 4, 2) := by decide +kernel
theorem dX2_chooseNearer_89 : decode cX2_chooseNearer 89 = .ok (.putfield 7, 3) := by decide +kernel
theorem dX2_chooseNearer_92 : decode cX2_chooseNearer 92 = .ok (.aload_n 0, 1) := by decide +kernel
theorem dX2_chooseNearer_93 : decode cX2_chooseNearer 93 = .ok (.lload 6, 2) := by decide +kernel
theorem dX2_chooseNearer_95 : decode cX2_chooseNearer 95 = .ok (.putfield 13, 3) := by decide +kernel
theorem dX2_chooseNearer_98 : decode cX2_chooseNearer 98 = .ok (.return_, 1) := by decide +kernel
set_option maxRecDepth 20000 in
theorem ggX2_isBetter_X1_become : GoodIn wsX2_isBetter wsX1_become := goodIn_r _ [12, 13, 14, 15, 16, 11, 17, 18, 19, 20, 21, 22, 55, 56] (by decide +kernel) (by decide +kernel)
set_option maxRecDepth 20000 in
theorem gX2_isBetter_X1_become : GoodIn wsX2_isBetter (wsV RX2 79 RX1 yX1_become wsX1_become) := goodIn_app (goodIn_of _ (by decide +kernel)) ggX2_isBetter_X1_become
set_option maxRecDepth 20000 in
theorem ggX2_isBetter_X1_becomeProduct : GoodIn wsX2_isBetter wsX1_becomeProduct := goodIn_r _ [26, 18, 14, 15, 16, 11, 17, 13, 27, 28, 29, 30, 31, 32, 33, 34, 35, 36, 37, 38, 39, 19, 20, 21, 22, 55, 56] (by decide +kernel) (by decide +kernel)
set_option maxRecDepth 20000 in
theorem gX2_isBetter_X1_becomeProduct : GoodIn wsX2_isBetter (wsV RX2 82 RX1 yX1_becomeProduct wsX1_becomeProduct) := goodIn_app (goodIn_of _ (by decide +kernel)) ggX2_isBetter_X1_becomeProduct
set_option maxRecDepth 20000 in
theorem ggX2_isBetter_X1_compareWith : GoodIn wsX2_isBetter wsX1_compareWith := goodIn_r _ [43, 18, 13, 27, 28, 29, 11, 30, 31, 55, 56] (by decide +kernel) (by decide +kernel)
set_option maxRecDepth 20000 in
theorem gX2_isBetter_X1_compareWith : GoodIn wsX2_isBetter (wsV RX2 85 RX1 yX1_compareWith wsX1_compareWith) := goodIn_app (goodIn_of _ (by decide +kernel)) ggX2_isBetter_X1_compareWith
theorem dX2_isBetter_0 : decode cX2_isBetter 0 = .ok (.aload_n 0, 1) := by decide +kernel
theorem dX2_isBetter_1 : decode cX2_isBetter 1 = .ok (.getfield 38, 3) := by decide +kernel
theorem dX2_isBetter_4 : decode cX2_isBetter 4 = .ok (.aload_n 0, 1) := by decide +kernel
theorem dX2_isBetter_5 : decode cX2_isBetter 5 = .ok (.getfield 13, 3) := by decide +kernel
theorem dX2_isBetter_8 : decode cX2_isBetter 8 = .ok (.invokevirtual 79, 3) := by decide +kernel
theorem dX2_isBetter_11 : decode cX2_isBetter 11 = .ok (.aload_n 0, 1) := by decide +kernel
theorem dX2_isBetter_12 : decode cX2_isBetter 12 = .ok (.getfield 41, 3) := by decide +kernel
theorem dX2_isBetter_15 : decode cX2_isBetter 15 = .ok (.aload_n 0, 1) := by decide +kernel
theorem dX2_isBetter_16 : decode cX2_isBetter 16 = .ok (.getfield 32, 3) := by decide +kernel
theorem dX2_isBetter_19 : decode cX2_isBetter 19 = .ok (.aload_n 0, 1) := by decide +kernel
theorem dX2_isBetter_20 : decode cX2_isBetter 20 = .ok (.getfield 38, 3) := by decide +kernel
theorem dX2_isBetter_23 : decode cX2_isBetter 23 = .ok (.invokevirtual 82, 3) := by decide +kernel
theorem dX2_isBetter_26 : decode cX2_isBetter 26 = .ok (.aload_n 0, 1) := by decide +kernel
theorem dX2_isBetter_27 : decode cX2_isBetter 27 = .ok (.getfield 38, 3) := by decide +kernel
theorem dX2_isBetter_30 : decode cX2_isBetter 30 = .ok (.lload_n 3, 1) := by decide +kernel
theorem dX2_isBetter_31 : decode cX2_isBetter 31 = .ok (.invokevirtual 79, 3) := by decide +kernel
theorem dX2_isBetter_34 : decode cX2_isBetter 34 = .ok (.aload_n 0, 1) := by decide +kernel
theorem dX2_isBetter_35 : decode cX2_isBetter 35 = .ok (.getfield 44, 3) := by decide +kernel
theorem dX2_isBetter_38 : decode cX2_isBetter 38 = .ok (.aload_n 0, 1) := by decide +kernel
theorem dX2_isBetter_39 : decode cX2_isBetter 39 = .ok (.getfield 25, 3) := by decide +kernel
theorem dX2_isBetter_42 : decode cX2_isBetter 42 = .ok (.aload_n 0, 1) := by decide +kernel
theorem dX2_isBetter_43 : decode cX2_isBetter 43 = .ok (.getfield 38, 3) := by decide +kernel
theorem dX2_isBetter_46 : decode cX2_isBetter 46 = .ok (.invokevirtual 82, 3) := by decide +kernel
theorem dX2_isBetter_49 : decode cX2_isBetter 49 = .ok (.aload_n 0, 1) := by decide +kernel
theorem dX2_isBetter_50 : decode cX2_isBetter 50 = .ok (.getfield 41, 3) := by decide +kernel
theorem dX2_isBetter_53 : decode cX2_isBetter 53 = .ok (.aload_n 0, 1) := by decide +kernel
theorem dX2_isBetter_54 : decode cX2_isBetter 54 = .ok (.getfield 44, 3) := by decide +kernel
theorem dX2_isBetter_57 : decode cX2_isBetter 57 = .ok (.invokevirtual 85, 3) := by decide +kernel
theorem dX2_isBetter_60 : decode cX2_isBetter 60 = .ok (.istore 5, 2) := by decide +kernel
theorem dX2_isBetter_62 : decode cX2_isBetter 62 = .ok (.iload 5, 2) := by decide +kernel
theorem dX2_isBetter_64 : decode cX2_isBetter 64 = .ok (.ifCond .eq 14, 3) := by decide +kernel
theorem dX2_isBetter_67 : decode cX2_isBetter 67 = .ok (.iload 5, 2) := by decide +kernel
theorem dX2_isBetter_69 : decode cX2_isBetter 69 = .ok (.ifCond .ge 7, 3) := by decide +kernel
theorem dX2_isBetter_72 : decode cX2_isBetter 72 = .ok (.iconst 1, 1) := by decide +kernel
theorem dX2_isBetter_73 : decode cX2_isBetter 73 = .ok (.goto 4, 3) := by decide +kernel
theorem dX2_isBetter_76 : decode cX2_isBetter 76 = .ok (.iconst 0, 1) := by decide +kernel
theorem dX2_isBetter_77 : decode cX2_isBetter 77 = .ok (.ireturn, 1) := by decide +kernel
theorem dX2_isBetter_78 : decode cX2_isBetter 78 = .ok (.lload_n 3, 1) := by decide +kernel
theorem dX2_isBetter_79 : decode cX2_isBetter 79 = .ok (.aload_n 0, 1) := by decide +kernel
theorem dX2_isBetter_80 : decode cX2_isBetter 80 = .ok (.getfield 13, 3) := by decide +kernel
theorem dX2_isBetter_83 : decode cX2_isBetter 83 = .ok (.lcmp, 1) := by decide +kernel
theorem dX2_isBetter_84 : decode cX2_isBetter 84 = .ok (.ifCond .eq 20, 3) := by decide +kernel
theorem dX2_isBetter_87 : decode cX2_isBetter 87 = .ok (.lload_n 3, 1) := by decide +kernel
theorem dX2_isBetter_88 : decode cX2_isBetter 88 = .ok (.aload_n 0, 1) := by decide +kernel
theorem dX2_isBetter_89 : decode cX2_isBetter 89 = .ok (.getfield 13, 3) := by decide +kernel
theorem dX2_isBetter_92 : decode cX2_isBetter 92 = .ok (.lcmp, 1) := by decide +kernel
theorem dX2_isBetter_93 : decode cX2_isBetter 93 = .ok (.ifCond .ge 7, 3) := by decide +kernel
theorem dX2_isBetter_96 : decode cX2_isBetter 96 = .ok (.iconst 1, 1) := by decide +kernel
theorem dX2_isBetter_97 : decode cX2_isBetter 97 = .ok (.goto 21, 3) := by decide +kernel
theorem dX2_isBetter_100 : decode cX2_isBetter 100 = .ok (.iconst 0, 1) := by decide +kernel
theorem dX2_isBetter_101 : decode cX2_isBetter 101 = .ok (.goto 17, 3) := by decide +kernel
theorem dX2_isBetter_104 : decode cX2_isBetter 104 = .ok (.lload_n 1, 1) := by decide +kernel
theorem dX2_isBetter_105 : decode cX2_isBetter 105 = .ok (.aload_n 0, 1) := by decide +kernel
theorem dX2_isBetter_106 : decode cX2_isBetter 106 = .ok (.getfield 7, 3) := by decide +kernel
theorem dX2_isBetter_109 : decode cX2_isBetter 109 = .ok (.lcmp, 1) := by decide +kernel
theorem dX2_isBetter_110 : decode cX2_isBetter 110 = .ok (.ifCond .ge 7, 3) := by decide +kernel
theorem dX2_isBetter_113 : decode cX2_isBetter 113 = .ok (.iconst 1, 1) := by decide +kernel
theorem dX2_isBetter_114 : decode cX2_isBetter 114 = .ok (.goto 4, 3) := by decide +kernel
theorem dX2_isBetter_117 : decode cX2_isBetter 117 = .ok (.iconst 0, 1) := by decide +kernel
theorem dX2_isBetter_118 : decode cX2_isBetter 118 = .ok (.ireturn, 1) := by decide +kernel
set_option maxRecDepth 20000 in
theorem ggX3_init_X1_init : GoodIn wsX3_init wsX1_init := goodIn_r _ [11, 12, 2, 3, 13, 14, 15, 16, 17] (by decide +kernel) (by decide +kernel)
set_option maxRecDepth 20000 in
theorem gX3_init_X1_init_n9 : GoodIn wsX3_init (wsX1_init) := ggX3_init_X1_init
theorem dX3_init_0 : decode cX3_init 0 = .ok (.aload_n 0, 1) := by decide +kernel
theorem dX3_init_1 : decode cX3_init 1 = .ok (.invokespecial 1, 3) := by decide +kernel
theorem dX3_init_4 : decode cX3_init 4 = .ok (.aload_n 0, 1) := by decide +kernel
theorem dX3_init_5 : decode cX3_init 5 = .ok (.new 7, 3) := by decide +kernel
theorem dX3_init_8 : decode cX3_init 8 = .ok (.dup, 1) := by decide +kernel
theorem dX3_init_9 : decode cX3_init 9 = .ok (.invokespecial 9, 3) := by decide +kernel
theorem dX3_init_12 : decode cX3_init 12 = .ok (.putfield 10, 3) := by decide +kernel
theorem dX3_init_15 : decode cX3_init 15 = .ok (.aload_n 0, 1) := by decide +kernel
theorem dX3_init_16 : decode cX3_init 16 = .ok (.new 7, 3) := by decide +kernel
theorem dX3_init_19 : decode cX3_init 19 = .ok (.dup, 1) := by decide +kernel
theorem dX3_init_20 : decode cX3_init 20 = .ok (.invokespecial 9, 3) := by decide +kernel
theorem dX3_init_23 : decode cX3_init 23 = .ok (.putfield 16, 3) := by decide +kernel
theorem dX3_init_26 : decode cX3_init 26 = .ok (.aload_n 0, 1) := by decide +kernel
theorem dX3_init_27 : decode cX3_init 27 = .ok (.new 7, 3) := by decide +kernel
theorem dX3_init_30 : decode cX3_init 30 = .ok (.dup, 1) := by decide +kernel
theorem dX3_init_31 : decode cX3_init 31 = .ok (.invokespecial 9, 3) := by decide +kernel
theorem dX3_init_34 : decode cX3_init 34 = .ok (.putfield 19, 3) := by decide +kernel
theorem dX3_init_37 : decode cX3_init 37 = .ok (.return_, 1) := by decide +kernel
set_option maxRecDepth 20000 in
theorem ggX3_reduce_X1_become_ : GoodIn wsX3_reduce wsX1_become_ := goodIn_r _ [9, 10, 11, 12, 13, 14, 15, 76, 77] (by decide +kernel) (by decide +kernel)
set_option maxRecDepth 20000 in
theorem gX3_reduce_X1_become_ : GoodIn wsX3_reduce (wsV RX3 22 RX1 yX1_become_ wsX1_become_) := goodIn_app (goodIn_of _ (by decide +kernel)) ggX3_reduce_X1_become_
set_option maxRecDepth 20000 in
theorem ggX3_reduce_X1_isZero : GoodIn wsX3_reduce wsX1_isZero := goodIn_r _ [19, 10, 76, 77] (by decide +kernel) (by decide +kernel)
set_option maxRecDepth 20000 in
theorem gX3_reduce_X1_isZero : GoodIn wsX3_reduce (wsV RX3 27 RX1 yX1_isZero wsX1_isZero) := goodIn_app (goodIn_of _ (by decide +kernel)) ggX3_reduce_X1_isZero
set_option maxRecDepth 20000 in
theorem ggX3_reduce_X1_divide : GoodIn wsX3_reduce wsX1_divide := goodIn_r _ [23, 10, 15, 24, 25, 26, 8, 27, 28, 29, 30, 31, 32, 33, 34, 35, 36, 37, 38, 39, 40, 41, 42, 43, 44, 45, 46, 47, 48, 49, 50, 51, 52, 53, 54, 55, 56, 57, 58, 59, 13, 60, 61, 62, 63, 64, 65, 66, 67, 68, 76, 77] (by decide +kernel) (by decide +kernel)
set_option maxRecDepth 20000 in
theorem gX3_reduce_X1_divide : GoodIn wsX3_reduce (wsV RX3 31 RX1 yX1_divide wsX1_divide) := goodIn_app (goodIn_of _ (by decide +kernel)) ggX3_reduce_X1_divide
set_option maxRecDepth 20000 in
theorem ggX3_reduce_X1_isOne : GoodIn wsX3_reduce wsX1_isOne := goodIn_r _ [72, 10, 15, 76, 77] (by decide +kernel) (by decide +kernel)
set_option maxRecDepth 20000 in
theorem gX3_reduce_X1_isOne : GoodIn wsX3_reduce (wsV RX3 35 RX1 yX1_isOne wsX1_isOne) := goodIn_app (goodIn_of _ (by decide +kernel)) ggX3_reduce_X1_isOne
theorem dX3_reduce_0 : decode cX3_reduce 0 = .ok (.aload_n 0, 1) := by decide +kernel
theorem dX3_reduce_1 : decode cX3_reduce 1 = .ok (.getfield 10, 3) := by decide +kernel
theorem dX3_reduce_4 : decode cX3_reduce 4 = .ok (.aload_n 1, 1) := by decide +kernel
theorem dX3_reduce_5 : decode cX3_reduce 5 = .ok (.invokevirtual 22, 3) := by decide +kernel
theorem dX3_reduce_8 : decode cX3_reduce 8 = .ok (.aload_n 0, 1) := by decide +kernel
theorem dX3_reduce_9 : decode cX3_reduce 9 = .ok (.getfield 16, 3) := by decide +kernel
theorem dX3_reduce_12 : decode cX3_reduce 12 = .ok (.aload_n 2, 1) := by decide +kernel
theorem dX3_reduce_13 : decode cX3_reduce 13 = .ok (.invokevirtual 22, 3) := by decide +kernel
theorem dX3_reduce_16 : decode cX3_reduce 16 = .ok (.iconst 0, 1) := by decide +kernel
theorem dX3_reduce_17 : decode cX3_reduce 17 = .ok (.istore_n 3, 1) := by decide +kernel
theorem dX3_reduce_18 : decode cX3_reduce 18 = .ok (.iload_n 3, 1) := by decide +kernel
theorem dX3_reduce_19 : decode cX3_reduce 19 = .ok (.ldc 26, 2) := by decide +kernel
theorem dX3_reduce_21 : decode cX3_reduce 21 = .ok (.if_icmp .ge 54, 3) := by decide +kernel
theorem dX3_reduce_24 : decode cX3_reduce 24 = .ok (.aload_n 0, 1) := by decide +kernel
theorem dX3_reduce_25 : decode cX3_reduce 25 = .ok (.getfield 16, 3) := by decide +kernel
theorem dX3_reduce_28 : decode cX3_reduce 28 = .ok (.invokevirtual 27, 3) := by decide +kernel
theorem dX3_reduce_31 : decode cX3_reduce 31 = .ok (.ifCond .ne 44, 3) := by decide +kernel
theorem dX3_reduce_34 : decode cX3_reduce 34 = .ok (.aload_n 0, 1) := by decide +kernel
theorem dX3_reduce_35 : decode cX3_reduce 35 = .ok (.getfield 10, 3) := by decide +kernel
theorem dX3_reduce_38 : decode cX3_reduce 38 = .ok (.aload_n 0, 1) := by decide +kernel
theorem dX3_reduce_39 : decode cX3_reduce 39 = .ok (.getfield 16, 3) := by decide +kernel
theorem dX3_reduce_42 : decode cX3_reduce 42 = .ok (.aload_n 0, 1) := by decide +kernel
theorem dX3_reduce_43 : decode cX3_reduce 43 = .ok (.getfield 19, 3) := by decide +kernel
theorem dX3_reduce_46 : decode cX3_reduce 46 = .ok (.invokevirtual 31, 3) := by decide +kernel
theorem dX3_reduce_49 : decode cX3_reduce 49 = .ok (.aload_n 0, 1) := by decide +kernel
theorem dX3_reduce_50 : decode cX3_reduce 50 = .ok (.getfield 10, 3) := by decide +kernel
theorem dX3_reduce_53 : decode cX3_reduce 53 = .ok (.astore 4, 2) := by decide +kernel
theorem dX3_reduce_55 : decode cX3_reduce 55 = .ok (.aload_n 0, 1) := by decide +kernel
theorem dX3_reduce_56 : decode cX3_reduce 56 = .ok (.aload_n 0, 1) := by decide +kernel
theorem dX3_reduce_57 : decode cX3_reduce 57 = .ok (.getfield 16, 3) := by decide +kernel
theorem dX3_reduce_60 : decode cX3_reduce 60 = .ok (.putfield 10, 3) := by decide +kernel
theorem dX3_reduce_63 : decode cX3_reduce 63 = .ok (.aload_n 0, 1) := by decide +kernel
theorem dX3_reduce_64 : decode cX3_reduce 64 = .ok (.aload 4, 2) := by decide +kernel
theorem dX3_reduce_66 : decode cX3_reduce 66 = .ok (.putfield 16, 3) := by decide +kernel
theorem dX3_reduce_69 : decode cX3_reduce 69 = .ok (.iinc 3 1, 3) := by decide +kernel
theorem dX3_reduce_72 : decode cX3_reduce 72 = .ok (.goto (-54), 3) := by decide +kernel
theorem dX3_reduce_75 : decode cX3_reduce 75 = .ok (.aload_n 0, 1) := by decide +kernel
theorem dX3_reduce_76 : decode cX3_reduce 76 = .ok (.getfield 10, 3) := by decide +kernel
theorem dX3_reduce_79 : decode cX3_reduce 79 = .ok (.invokevirtual 35, 3) := by decide +kernel
theorem dX3_reduce_82 : decode cX3_reduce 82 = .ok (.ifCond .ne 43, 3) := by decide +kernel
theorem dX3_reduce_85 : decode cX3_reduce 85 = .ok (.aload_n 1, 1) := by decide +kernel
theorem dX3_reduce_86 : decode cX3_reduce 86 = .ok (.aload_n 0, 1) := by decide +kernel
theorem dX3_reduce_87 : decode cX3_reduce 87 = .ok (.getfield 10, 3) := by decide +kernel
theorem dX3_reduce_90 : decode cX3_reduce 90 = .ok (.aload_n 0, 1) := by decide +kernel
theorem dX3_reduce_91 : decode cX3_reduce 91 = .ok (.getfield 19, 3) := by decide +kernel
theorem dX3_reduce_94 : decode cX3_reduce 94 = .ok (.invokevirtual 31, 3) := by decide +kernel
theorem dX3_reduce_97 : decode cX3_reduce 97 = .ok (.aload_n 1, 1) := by decide +kernel
