theorem dX3_reduce_98 : decode cX3_reduce 98 = .ok (.aload_n 0, 1) := by decide +kernel
theorem dX3_reduce_99 : decode cX3_reduce 99 = .ok (.getfield 19, 3) := by decide +kernel
theorem dX3_reduce_102 : decode cX3_reduce 102 = .ok (.invokevirtual 22, 3) := by decide +kernel
theorem dX3_reduce_105 : decode cX3_reduce 105 = .ok (.aload_n 2, 1) := by decide +kernel
theorem dX3_reduce_106 : decode cX3_reduce 106 = .ok (.aload_n 0, 1) := by decide +kernel
theorem dX3_reduce_107 : decode cX3_reduce 107 = .ok (.getfield 10, 3) := by decide +kernel
theorem dX3_reduce_110 : decode cX3_reduce 110 = .ok (.aload_n 0, 1) := by decide +kernel
theorem dX3_reduce_111 : decode cX3_reduce 111 = .ok (.getfield 19, 3) := by decide +kernel
theorem dX3_reduce_114 : decode cX3_reduce 114 = .ok (.invokevirtual 31, 3) := by decide +kernel
theorem dX3_reduce_117 : decode cX3_reduce 117 = .ok (.aload_n 2, 1) := by decide +kernel
theorem dX3_reduce_118 : decode cX3_reduce 118 = .ok (.aload_n 0, 1) := by decide +kernel
theorem dX3_reduce_119 : decode cX3_reduce 119 = .ok (.getfield 19, 3) := by decide +kernel
theorem dX3_reduce_122 : decode cX3_reduce 122 = .ok (.invokevirtual 22, 3) := by decide +kernel
theorem dX3_reduce_125 : decode cX3_reduce 125 = .ok (.return_, 1) := by decide +kernel
set_option maxRecDepth 20000 in
theorem ggX4_init_X0_init : GoodIn wsX4_init wsX0_init := goodIn_r _ [32, 33, 2, 3, 34, 35, 18, 19, 36, 37, 38, 39, 40, 41, 42, 43, 82, 83, 84, 113, 114] (by decide +kernel) (by decide +kernel)
set_option maxRecDepth 20000 in
theorem gX4_init_X0_init_n13 : GoodIn wsX4_init (wsX0_init) := ggX4_init_X0_init
set_option maxRecDepth 20000 in
theorem ggX4_init_X3_init : GoodIn wsX4_init wsX3_init := goodIn_r _ [45, 46, 2, 3, 47, 18, 19, 48, 49, 50, 38, 39, 40, 41, 42, 43, 113, 114, 99, 100, 101] (by decide +kernel) (by decide +kernel)
set_option maxRecDepth 20000 in
theorem gX4_init_X3_init_n25 : GoodIn wsX4_init (wsX3_init) := ggX4_init_X3_init
set_option maxRecDepth 20000 in
theorem ggX4_init_X2_init : GoodIn wsX4_init wsX2_init := goodIn_r _ [52, 53, 2, 3, 54, 55, 56, 57, 58, 18, 19, 59, 60, 61, 62, 63, 64, 65, 38, 39, 40, 41, 42, 43, 102, 103, 104, 105, 106, 107, 108, 109, 110, 111, 112, 113, 114] (by decide +kernel) (by decide +kernel)
set_option maxRecDepth 20000 in
theorem gX4_init_X2_init_n32 : GoodIn wsX4_init (wsX2_init) := ggX4_init_X2_init
set_option maxRecDepth 20000 in
theorem ggX4_init_X1_init : GoodIn wsX4_init wsX1_init := goodIn_r _ [39, 40, 2, 3, 41, 42, 43, 113, 114] (by decide +kernel) (by decide +kernel)
set_option maxRecDepth 20000 in
theorem gX4_init_X1_init_n39 : GoodIn wsX4_init (wsX1_init) := ggX4_init_X1_init
set_option maxRecDepth 20000 in
theorem ggX4_init_X4_sizeOrOne : GoodIn wsX4_init wsX4_sizeOrOne := goodIn_r _ [69] (by decide +kernel) (by decide +kernel)
set_option maxRecDepth 20000 in
theorem gX4_init_X4_sizeOrOne : GoodIn wsX4_init (va_wsS RX4 65 yX4_sizeOrOne wsX4_sizeOrOne) := goodIn_app (goodIn_of _ (by decide +kernel)) ggX4_init_X4_sizeOrOne
set_option maxRecDepth 20000 in
theorem ggX4_init_X1_become : GoodIn wsX4_init wsX1_become := goodIn_r _ [73, 42, 74, 75, 76, 19, 77, 43, 78, 79, 80, 81, 113, 114] (by decide +kernel) (by decide +kernel)
set_option maxRecDepth 20000 in
theorem gX4_init_X1_become : GoodIn wsX4_init (wsV RX4 80 RX1 yX1_become wsX1_become) := goodIn_app (goodIn_of _ (by decide +kernel)) ggX4_init_X1_become
theorem dX4_init_0 : decode cX4_init 0 = .ok (.aload_n 0, 1) := by decide +kernel
theorem dX4_init_1 : decode cX4_init 1 = .ok (.invokespecial 5, 3) := by decide +kernel
theorem dX4_init_4 : decode cX4_init 4 = .ok (.aload_n 0, 1) := by decide +kernel
theorem dX4_init_5 : decode cX4_init 5 = .ok (.new 11, 3) := by decide +kernel
theorem dX4_init_8 : decode cX4_init 8 = .ok (.dup, 1) := by decide +kernel
theorem dX4_init_9 : decode cX4_init 9 = .ok (.invokespecial 13, 3) := by decide +kernel
theorem dX4_init_12 : decode cX4_init 12 = .ok (.putfield 14, 3) := by decide +kernel
theorem dX4_init_15 : decode cX4_init 15 = .ok (.aload_n 0, 1) := by decide +kernel
theorem dX4_init_16 : decode cX4_init 16 = .ok (.new 11, 3) := by decide +kernel
theorem dX4_init_19 : decode cX4_init 19 = .ok (.dup, 1) := by decide +kernel
theorem dX4_init_20 : decode cX4_init 20 = .ok (.invokespecial 13, 3) := by decide +kernel
theorem dX4_init_23 : decode cX4_init 23 = .ok (.putfield 20, 3) := by decide +kernel
theorem dX4_init_26 : decode cX4_init 26 = .ok (.aload_n 0, 1) := by decide +kernel
theorem dX4_init_27 : decode cX4_init 27 = .ok (.new 23, 3) := by decide +kernel
theorem dX4_init_30 : decode cX4_init 30 = .ok (.dup, 1) := by decide +kernel
theorem dX4_init_31 : decode cX4_init 31 = .ok (.invokespecial 25, 3) := by decide +kernel
theorem dX4_init_34 : decode cX4_init 34 = .ok (.putfield 26, 3) := by decide +kernel
theorem dX4_init_37 : decode cX4_init 37 = .ok (.aload_n 0, 1) := by decide +kernel
theorem dX4_init_38 : decode cX4_init 38 = .ok (.new 30, 3) := by decide +kernel
theorem dX4_init_41 : decode cX4_init 41 = .ok (.dup, 1) := by decide +kernel
theorem dX4_init_42 : decode cX4_init 42 = .ok (.invokespecial 32, 3) := by decide +kernel
theorem dX4_init_45 : decode cX4_init 45 = .ok (.putfield 33, 3) := by decide +kernel
theorem dX4_init_48 : decode cX4_init 48 = .ok (.aload_n 0, 1) := by decide +kernel
theorem dX4_init_49 : decode cX4_init 49 = .ok (.new 37, 3) := by decide +kernel
theorem dX4_init_52 : decode cX4_init 52 = .ok (.dup, 1) := by decide +kernel
theorem dX4_init_53 : decode cX4_init 53 = .ok (.invokespecial 39, 3) := by decide +kernel
theorem dX4_init_56 : decode cX4_init 56 = .ok (.putfield 40, 3) := by decide +kernel
theorem dX4_init_59 : decode cX4_init 59 = .ok (.aload_n 0, 1) := by decide +kernel
theorem dX4_init_60 : decode cX4_init 60 = .ok (.new 37, 3) := by decide +kernel
theorem dX4_init_63 : decode cX4_init 63 = .ok (.dup, 1) := by decide +kernel
theorem dX4_init_64 : decode cX4_init 64 = .ok (.invokespecial 39, 3) := by decide +kernel
theorem dX4_init_67 : decode cX4_init 67 = .ok (.putfield 44, 3) := by decide +kernel
theorem dX4_init_70 : decode cX4_init 70 = .ok (.aload_n 0, 1) := by decide +kernel
theorem dX4_init_71 : decode cX4_init 71 = .ok (.new 37, 3) := by decide +kernel
theorem dX4_init_74 : decode cX4_init 74 = .ok (.dup, 1) := by decide +kernel
theorem dX4_init_75 : decode cX4_init 75 = .ok (.invokespecial 39, 3) := by decide +kernel
theorem dX4_init_78 : decode cX4_init 78 = .ok (.putfield 47, 3) := by decide +kernel
theorem dX4_init_81 : decode cX4_init 81 = .ok (.aload_n 0, 1) := by decide +kernel
theorem dX4_init_82 : decode cX4_init 82 = .ok (.new 37, 3) := by decide +kernel
theorem dX4_init_85 : decode cX4_init 85 = .ok (.dup, 1) := by decide +kernel
theorem dX4_init_86 : decode cX4_init 86 = .ok (.invokespecial 39, 3) := by decide +kernel
theorem dX4_init_89 : decode cX4_init 89 = .ok (.putfield 50, 3) := by decide +kernel
theorem dX4_init_92 : decode cX4_init 92 = .ok (.aload_n 0, 1) := by decide +kernel
theorem dX4_init_93 : decode cX4_init 93 = .ok (.new 37, 3) := by decide +kernel
theorem dX4_init_96 : decode cX4_init 96 = .ok (.dup, 1) := by decide +kernel
theorem dX4_init_97 : decode cX4_init 97 = .ok (.invokespecial 39, 3) := by decide +kernel
theorem dX4_init_100 : decode cX4_init 100 = .ok (.putfield 53, 3) := by decide +kernel
theorem dX4_init_103 : decode cX4_init 103 = .ok (.aload_n 0, 1) := by decide +kernel
theorem dX4_init_104 : decode cX4_init 104 = .ok (.new 37, 3) := by decide +kernel
theorem dX4_init_107 : decode cX4_init 107 = .ok (.dup, 1) := by decide +kernel
theorem dX4_init_108 : decode cX4_init 108 = .ok (.invokespecial 39, 3) := by decide +kernel
theorem dX4_init_111 : decode cX4_init 111 = .ok (.putfield 56, 3) := by decide +kernel
theorem dX4_init_114 : decode cX4_init 114 = .ok (.aload_n 0, 1) := by decide +kernel
theorem dX4_init_115 : decode cX4_init 115 = .ok (.new 37, 3) := by decide +kernel
theorem dX4_init_118 : decode cX4_init 118 = .ok (.dup, 1) := by decide +kernel
theorem dX4_init_119 : decode cX4_init 119 = .ok (.invokespecial 39, 3) := by decide +kernel
theorem dX4_init_122 : decode cX4_init 122 = .ok (.putfield 59, 3) := by decide +kernel
theorem dX4_init_125 : decode cX4_init 125 = .ok (.aload_n 0, 1) := by decide +kernel
theorem dX4_init_126 : decode cX4_init 126 = .ok (.new 37, 3) := by decide +kernel
theorem dX4_init_129 : decode cX4_init 129 = .ok (.dup, 1) := by decide +kernel
theorem dX4_init_130 : decode cX4_init 130 = .ok (.invokespecial 39, 3) := by decide +kernel
theorem dX4_init_133 : decode cX4_init 133 = .ok (.putfield 62, 3) := by decide +kernel
theorem dX4_init_136 : decode cX4_init 136 = .ok (.aload_n 0, 1) := by decide +kernel
theorem dX4_init_137 : decode cX4_init 137 = .ok (.iload_n 2, 1) := by decide +kernel
theorem dX4_init_138 : decode cX4_init 138 = .ok (.bipush 8, 2) := by decide +kernel
theorem dX4_init_140 : decode cX4_init 140 = .ok (.invokestatic 65, 3) := by decide +kernel
theorem dX4_init_143 : decode cX4_init 143 = .ok (.putfield 69, 3) := by decide +kernel
theorem dX4_init_146 : decode cX4_init 146 = .ok (.aload_n 0, 1) := by decide +kernel
theorem dX4_init_147 : decode cX4_init 147 = .ok (.iload_n 1, 1) := by decide +kernel
theorem dX4_init_148 : decode cX4_init 148 = .ok (.bipush 8, 2) := by decide +kernel
theorem dX4_init_150 : decode cX4_init 150 = .ok (.invokestatic 65, 3) := by decide +kernel
theorem dX4_init_153 : decode cX4_init 153 = .ok (.anewarray 11, 3) := by decide +kernel
theorem dX4_init_156 : decode cX4_init 156 = .ok (.putfield 73, 3) := by decide +kernel
theorem dX4_init_159 : decode cX4_init 159 = .ok (.iconst 0, 1) := by decide +kernel
theorem dX4_init_160 : decode cX4_init 160 = .ok (.istore_n 3, 1) := by decide +kernel
theorem dX4_init_161 : decode cX4_init 161 = .ok (.iload_n 3, 1) := by decide +kernel
theorem dX4_init_162 : decode cX4_init 162 = .ok (.aload_n 0, 1) := by decide +kernel
theorem dX4_init_163 : decode cX4_init 163 = .ok (.getfield 73, 3) := by decide +kernel
theorem dX4_init_166 : decode cX4_init 166 = .ok (.arraylength, 1) := by decide +kernel
theorem dX4_init_167 : decode cX4_init 167 = .ok (.if_icmp .ge 35, 3) := by decide +kernel
theorem dX4_init_170 : decode cX4_init 170 = .ok (.aload_n 0, 1) := by decide +kernel
theorem dX4_init_171 : decode cX4_init 171 = .ok (.getfield 73, 3) := by decide +kernel
theorem dX4_init_174 : decode cX4_init 174 = .ok (.iload_n 3, 1) := by decide +kernel
theorem dX4_init_175 : decode cX4_init 175 = .ok (.new 11, 3) := by decide +kernel
theorem dX4_init_178 : decode cX4_init 178 = .ok (.dup, 1) := by decide +kernel
theorem dX4_init_179 : decode cX4_init 179 = .ok (.invokespecial 13, 3) := by decide +kernel
theorem dX4_init_182 : decode cX4_init 182 = .ok (.aastore, 1) := by decide +kernel
theorem dX4_init_183 : decode cX4_init 183 = .ok (.aload_n 0, 1) := by decide +kernel
theorem dX4_init_184 : decode cX4_init 184 = .ok (.getfield 73, 3) := by decide +kernel
theorem dX4_init_187 : decode cX4_init 187 = .ok (.iload_n 3, 1) := by decide +kernel
theorem dX4_init_188 : decode cX4_init 188 = .ok (.aaload, 1) := by decide +kernel
theorem dX4_init_189 : decode cX4_init 189 = .ok (.getfield 77, 3) := by decide +kernel
theorem dX4_init_192 : decode cX4_init 192 = .ok (.lconst 1, 1) := by decide +kernel
theorem dX4_init_193 : decode cX4_init 193 = .ok (.invokevirtual 80, 3) := by decide +kernel
theorem dX4_init_196 : decode cX4_init 196 = .ok (.iinc 3 1, 3) := by decide +kernel
theorem dX4_init_199 : decode cX4_init 199 = .ok (.goto (-38), 3) := by decide +kernel
theorem dX4_init_202 : decode cX4_init 202 = .ok (.return_, 1) := by decide +kernel
set_option maxRecDepth 20000 in
theorem ggX4_set_X4_isRegister : GoodIn wsX4_set wsX4_isRegister := goodIn_r _ [14, 15, 114, 115, 116, 117, 118, 119, 120, 121, 122, 123, 124, 125, 126, 127] (by decide +kernel) (by decide +kernel)
set_option maxRecDepth 20000 in
theorem gX4_set_X4_isRegister : GoodIn wsX4_set (wsV RX4 84 RX4 yX4_isRegister wsX4_isRegister) := goodIn_app (goodIn_of _ (by decide +kernel)) ggX4_set_X4_isRegister
set_option maxRecDepth 20000 in
theorem ggX4_set_X1_become : GoodIn wsX4_set wsX1_become := goodIn_r _ [20, 21, 22, 23, 24, 19, 25, 26, 27, 28, 29, 30, 131, 132] (by decide +kernel) (by decide +kernel)
set_option maxRecDepth 20000 in
theorem gX4_set_X1_become : GoodIn wsX4_set (wsV RX4 80 RX1 yX1_become wsX1_become) := goodIn_app (goodIn_of _ (by decide +kernel)) ggX4_set_X1_become
set_option maxRecDepth 20000 in
theorem ggX4_set_J6_signum_0f7a4 : GoodIn wsX4_set wsJ6_signum_0f7a4 := goodIn_r _ [34] (by decide +kernel) (by decide +kernel)
set_option maxRecDepth 20000 in
theorem gX4_set_J6_signum_0f7a4 : GoodIn wsX4_set (va_wsS RX4 97 yJ6_signum_0f7a4 wsJ6_signum_0f7a4) := goodIn_app (goodIn_of _ (by decide +kernel)) ggX4_set_J6_signum_0f7a4
set_option maxRecDepth 20000 in
theorem ggX4_set_X3_reduce : GoodIn wsX4_set wsX3_reduce := goodIn_r _ [39, 40, 41, 42, 43, 44, 45, 46, 19, 47, 26, 48, 49, 5, 50, 21, 51, 52, 53, 54, 55, 56, 57, 58, 22, 23, 24, 25, 59, 60, 33, 61, 62, 63, 64, 65, 66, 67, 68, 69, 70, 71, 72, 73, 74, 75, 76, 77, 78, 79, 80, 81, 82, 83, 84, 85, 86, 87, 88, 89, 90, 91, 92, 93, 94, 27, 28, 29, 30, 95, 96, 97, 98, 133, 134, 135, 131, 132] (by decide +kernel) (by decide +kernel)
set_option maxRecDepth 20000 in
theorem gX4_set_X3_reduce : GoodIn wsX4_set (wsV RX4 103 RX3 yX3_reduce wsX3_reduce) := goodIn_app (goodIn_of _ (by decide +kernel)) ggX4_set_X3_reduce
set_option maxRecDepth 20000 in
theorem ggX4_set_X4_keepResult : GoodIn wsX4_set wsX4_keepResult := goodIn_r _ [102, 1, 2, 103, 104, 7, 15, 105, 106, 107, 108, 109, 110, 111, 112, 113, 45, 46, 19, 47, 26, 48, 49, 5, 50, 21, 114, 115, 116, 117, 118, 119, 120, 121, 122, 123, 124, 125, 126, 127, 128, 129, 130, 131, 132] (by decide +kernel) (by decide +kernel)
set_option maxRecDepth 20000 in
theorem gX4_set_X4_keepResult : GoodIn wsX4_set (wsV RX4 107 RX4 yX4_keepResult wsX4_keepResult) := goodIn_app (goodIn_of _ (by decide +kernel)) ggX4_set_X4_keepResult
theorem dX4_set_0 : decode cX4_set 0 = .ok (.aload_n 0, 1) := by decide +kernel
theorem dX4_set_1 : decode cX4_set 1 = .ok (.iload_n 1, 1) := by decide +kernel
theorem dX4_set_2 : decode cX4_set 2 = .ok (.invokevirtual 84, 3) := by decide +kernel
theorem dX4_set_5 : decode cX4_set 5 = .ok (.ifCond .ne 5, 3) := by decide +kernel
theorem dX4_set_8 : decode cX4_set 8 = .ok (.iconst 3, 1) := by decide +kernel
theorem dX4_set_9 : decode cX4_set 9 = .ok (.ireturn, 1) := by decide +kernel
theorem dX4_set_10 : decode cX4_set 10 = .ok (.iload_n 3, 1) := by decide +kernel
theorem dX4_set_11 : decode cX4_set 11 = .ok (.ifCond .ne 5, 3) := by decide +kernel
theorem dX4_set_14 : decode cX4_set 14 = .ok (.iconst 2, 1) := by decide +kernel
theorem dX4_set_15 : decode cX4_set 15 = .ok (.ireturn, 1) := by decide +kernel
theorem dX4_set_16 : decode cX4_set 16 = .ok (.aload_n 0, 1) := by decide +kernel
theorem dX4_set_17 : decode cX4_set 17 = .ok (.getfield 20, 3) := by decide +kernel
theorem dX4_set_20 : decode cX4_set 20 = .ok (.getfield 88, 3) := by decide +kernel
theorem dX4_set_23 : decode cX4_set 23 = .ok (.iload_n 2, 1) := by decide +kernel
theorem dX4_set_24 : decode cX4_set 24 = .ok (.i2l, 1) := by decide +kernel
theorem dX4_set_25 : decode cX4_set 25 = .ok (.invokestatic 91, 3) := by decide +kernel
theorem dX4_set_28 : decode cX4_set 28 = .ok (.invokevirtual 80, 3) := by decide +kernel
theorem dX4_set_31 : decode cX4_set 31 = .ok (.aload_n 0, 1) := by decide +kernel
theorem dX4_set_32 : decode cX4_set 32 = .ok (.getfield 20, 3) := by decide +kernel
theorem dX4_set_35 : decode cX4_set 35 = .ok (.getfield 77, 3) := by decide +kernel
theorem dX4_set_38 : decode cX4_set 38 = .ok (.iload_n 3, 1) := by decide +kernel
theorem dX4_set_39 : decode cX4_set 39 = .ok (.i2l, 1) := by decide +kernel
theorem dX4_set_40 : decode cX4_set 40 = .ok (.invokestatic 91, 3) := by decide +kernel
theorem dX4_set_43 : decode cX4_set 43 = .ok (.invokevirtual 80, 3) := by decide +kernel
theorem dX4_set_46 : decode cX4_set 46 = .ok (.aload_n 0, 1) := by decide +kernel
theorem dX4_set_47 : decode cX4_set 47 = .ok (.getfield 20, 3) := by decide +kernel
theorem dX4_set_50 : decode cX4_set 50 = .ok (.iload_n 2, 1) := by decide +kernel
theorem dX4_set_51 : decode cX4_set 51 = .ok (.invokestatic 97, 3) := by decide +kernel
theorem dX4_set_54 : decode cX4_set 54 = .ok (.iload_n 3, 1) := by decide +kernel
theorem dX4_set_55 : decode cX4_set 55 = .ok (.invokestatic 97, 3) := by decide +kernel
theorem dX4_set_58 : decode cX4_set 58 = .ok (.imul, 1) := by decide +kernel
theorem dX4_set_59 : decode cX4_set 59 = .ok (.putfield 101, 3) := by decide +kernel
theorem dX4_set_62 : decode cX4_set 62 = .ok (.aload_n 0, 1) := by decide +kernel
theorem dX4_set_63 : decode cX4_set 63 = .ok (.getfield 26, 3) := by decide +kernel
theorem dX4_set_66 : decode cX4_set 66 = .ok (.aload_n 0, 1) := by decide +kernel
theorem dX4_set_67 : decode cX4_set 67 = .ok (.getfield 20, 3) := by decide +kernel
theorem dX4_set_70 : decode cX4_set 70 = .ok (.getfield 88, 3) := by decide +kernel
theorem dX4_set_73 : decode cX4_set 73 = .ok (.aload_n 0, 1) := by decide +kernel
theorem dX4_set_74 : decode cX4_set 74 = .ok (.getfield 20, 3) := by decide +kernel
theorem dX4_set_77 : decode cX4_set 77 = .ok (.getfield 77, 3) := by decide +kernel
theorem dX4_set_80 : decode cX4_set 80 = .ok (.invokevirtual 103, 3) := by decide +kernel
theorem dX4_set_83 : decode cX4_set 83 = .ok (.aload_n 0, 1) := by decide +kernel
theorem dX4_set_84 : decode cX4_set 84 = .ok (.iload_n 1, 1) := by decide +kernel
theorem dX4_set_85 : decode cX4_set 85 = .ok (.invokevirtual 107, 3) := by decide +kernel
theorem dX4_set_88 : decode cX4_set 88 = .ok (.ireturn, 1) := by decide +kernel
set_option maxRecDepth 20000 in
theorem ggX4_add_X4_areRegisters : GoodIn wsX4_add wsX4_areRegisters := goodIn_r _ [7, 8, 9, 10, 6, 11, 1, 140, 141, 142, 143, 144, 145, 146, 147, 148, 149, 150, 151, 152, 153] (by decide +kernel) (by decide +kernel)
set_option maxRecDepth 20000 in
theorem gX4_add_X4_areRegisters : GoodIn wsX4_add (wsV RX4 110 RX4 yX4_areRegisters wsX4_areRegisters) := goodIn_app (goodIn_of _ (by decide +kernel)) ggX4_add_X4_areRegisters
set_option maxRecDepth 20000 in
theorem ggX4_add_X4_addUp : GoodIn wsX4_add wsX4_addUp := goodIn_r _ [15, 16, 17, 18, 19, 20, 21, 22, 23, 24, 2, 25, 26, 27, 28, 29, 30, 31, 32, 33, 34, 35, 36, 37, 38, 39, 40, 41, 42, 43, 44, 45, 46, 47, 48, 49, 50, 51, 52, 53, 54, 55, 56, 57, 58, 59, 60, 61, 62, 63, 64, 65, 66, 67, 68, 69, 70, 71, 72, 73, 74, 75, 76, 77, 78, 79, 80, 81, 82, 83, 84, 85, 86, 87, 88, 89, 90, 91, 92, 93, 94, 95, 96, 97, 98, 99, 100, 101, 102, 103, 104, 105, 106, 107, 108, 109, 110, 111, 6, 112, 113, 114, 115, 116, 117, 118, 119, 120, 121, 122, 123, 124, 140, 141, 142, 143, 144, 145, 146, 147, 148, 149, 150, 151, 152, 153, 154, 155, 156, 157, 158, 159, 160, 161] (by decide +kernel) (by decide +kernel)
set_option maxRecDepth 20000 in
theorem gX4_add_X4_addUp : GoodIn wsX4_add (wsV RX4 114 RX4 yX4_addUp wsX4_addUp) := goodIn_app (goodIn_of _ (by decide +kernel)) ggX4_add_X4_addUp
set_option maxRecDepth 20000 in
theorem ggX4_add_X4_keepResult : GoodIn wsX4_add wsX4_keepResult := goodIn_r _ [128, 25, 23, 129, 130, 17, 1, 131, 132, 133, 134, 135, 136, 137, 138, 139, 28, 29, 30, 31, 32, 33, 34, 35, 36, 37, 140, 141, 142, 143, 144, 145, 146, 147, 148, 149, 150, 151, 152, 153, 154, 155, 156, 160, 161] (by decide +kernel) (by decide +kernel)
set_option maxRecDepth 20000 in
theorem gX4_add_X4_keepResult : GoodIn wsX4_add (wsV RX4 107 RX4 yX4_keepResult wsX4_keepResult) := goodIn_app (goodIn_of _ (by decide +kernel)) ggX4_add_X4_keepResult
theorem dX4_add_0 : decode cX4_add 0 = .ok (.aload_n 0, 1) := by decide +kernel
theorem dX4_add_1 : decode cX4_add 1 = .ok (.iload_n 1, 1) := by decide +kernel
theorem dX4_add_2 : decode cX4_add 2 = .ok (.iload_n 2, 1) := by decide +kernel
theorem dX4_add_3 : decode cX4_add 3 = .ok (.iload_n 3, 1) := by decide +kernel
theorem dX4_add_4 : decode cX4_add 4 = .ok (.invokevirtual 110, 3) := by decide +kernel
theorem dX4_add_7 : decode cX4_add 7 = .ok (.ifCond .ne 5, 3) := by decide +kernel
theorem dX4_add_10 : decode cX4_add 10 = .ok (.iconst 3, 1) := by decide +kernel
theorem dX4_add_11 : decode cX4_add 11 = .ok (.ireturn, 1) := by decide +kernel
theorem dX4_add_12 : decode cX4_add 12 = .ok (.aload_n 0, 1) := by decide +kernel
theorem dX4_add_13 : decode cX4_add 13 = .ok (.aload_n 0, 1) := by decide +kernel
theorem dX4_add_14 : decode cX4_add 14 = .ok (.getfield 73, 3) := by decide +kernel
theorem dX4_add_17 : decode cX4_add 17 = .ok (.iload_n 2, 1) := by decide +kernel
theorem dX4_add_18 : decode cX4_add 18 = .ok (.aaload, 1) := by decide +kernel
theorem dX4_add_19 : decode cX4_add 19 = .ok (.aload_n 0, 1) := by decide +kernel
theorem dX4_add_20 : decode cX4_add 20 = .ok (.getfield 73, 3) := by decide +kernel
theorem dX4_add_23 : decode cX4_add 23 = .ok (.iload_n 3, 1) := by decide +kernel
theorem dX4_add_24 : decode cX4_add 24 = .ok (.aaload, 1) := by decide +kernel
theorem dX4_add_25 : decode cX4_add 25 = .ok (.aload_n 0, 1) := by decide +kernel
theorem dX4_add_26 : decode cX4_add 26 = .ok (.getfield 73, 3) := by decide +kernel
theorem dX4_add_29 : decode cX4_add 29 = .ok (.iload_n 3, 1) := by decide +kernel
theorem dX4_add_30 : decode cX4_add 30 = .ok (.aaload, 1) := by decide +kernel
theorem dX4_add_31 : decode cX4_add 31 = .ok (.getfield 101, 3) := by decide +kernel
theorem dX4_add_34 : decode cX4_add 34 = .ok (.invokevirtual 114, 3) := by decide +kernel
theorem dX4_add_37 : decode cX4_add 37 = .ok (.aload_n 0, 1) := by decide +kernel
theorem dX4_add_38 : decode cX4_add 38 = .ok (.iload_n 1, 1) := by decide +kernel
theorem dX4_add_39 : decode cX4_add 39 = .ok (.invokevirtual 107, 3) := by decide +kernel
theorem dX4_add_42 : decode cX4_add 42 = .ok (.ireturn, 1) := by decide +kernel
set_option maxRecDepth 20000 in
theorem ggX4_sub_X4_areRegisters : GoodIn wsX4_sub wsX4_areRegisters := goodIn_r _ [7, 8, 9, 10, 6, 11, 1, 140, 141, 142, 143, 144, 145, 146, 147, 148, 149, 150, 151, 152, 153] (by decide +kernel) (by decide +kernel)
set_option maxRecDepth 20000 in
theorem gX4_sub_X4_areRegisters : GoodIn wsX4_sub (wsV RX4 110 RX4 yX4_areRegisters wsX4_areRegisters) := goodIn_app (goodIn_of _ (by decide +kernel)) ggX4_sub_X4_areRegisters
set_option maxRecDepth 20000 in
theorem ggX4_sub_X4_addUp : GoodIn wsX4_sub wsX4_addUp := goodIn_r _ [15, 16, 17, 18, 19, 20, 21, 22, 23, 24, 2, 25, 26, 27, 28, 29, 30, 31, 32, 33, 34, 35, 36, 37, 38, 39, 40, 41, 42, 43, 44, 45, 46, 47, 48, 49, 50, 51, 52, 53, 54, 55, 56, 57, 58, 59, 60, 61, 62, 63, 64, 65, 66, 67, 68, 69, 70, 71, 72, 73, 74, 75, 76, 77, 78, 79, 80, 81, 82, 83, 84, 85, 86, 87, 88, 89, 90, 91, 92, 93, 94, 95, 96, 97, 98, 99, 100, 101, 102, 103, 104, 105, 106, 107, 108, 109, 110, 111, 6, 112, 113, 114, 115, 116, 117, 118, 119, 120, 121, 122, 123, 124, 140, 141, 142, 143, 144, 145, 146, 147, 148, 149, 150, 151, 152, 153, 154, 155, 156, 157, 158, 159, 160, 161] (by decide +kernel) (by decide +kernel)
set_option maxRecDepth 20000 in
theorem gX4_sub_X4_addUp : GoodIn wsX4_sub (wsV RX4 114 RX4 yX4_addUp wsX4_addUp) := goodIn_app (goodIn_of _ (by decide +kernel)) ggX4_sub_X4_addUp
set_option maxRecDepth 20000 in
theorem ggX4_sub_X4_keepResult : GoodIn wsX4_sub wsX4_keepResult := goodIn_r _ [128, 25, 23, 129, 130, 17, 1, 131, 132, 133, 134, 135, 136, 137, 138, 139, 28, 29, 30, 31, 32, 33, 34, 35, 36, 37, 140, 141, 142, 143, 144, 145, 146, 147, 148, 149, 150, 151, 152, 153, 154, 155, 156, 160, 161] (by decide +kernel) (by decide +kernel)
set_option maxRecDepth 20000 in
theorem gX4_sub_X4_keepResult : GoodIn wsX4_sub (wsV RX4 107 RX4 yX4_keepResult wsX4_keepResult) := goodIn_app (goodIn_of _ (by decide +kernel)) ggX4_sub_X4_keepResult
theorem dX4_sub_0 : decode cX4_sub 0 = .ok (.aload_n 0, 1) := by decide +kernel
theorem dX4_sub_1 : decode cX4_sub 1 = .ok (.iload_n 1, 1) := by decide +kernel
theorem dX4_sub_2 : decode cX4_sub 2 = .ok (.iload_n 2, 1) := by decide +kernel
theorem dX4_sub_3 : decode cX4_sub 3 = .ok (.iload_n 3, 1) := by decide +kernel
theorem dX4_sub_4 : decode cX4_sub 4 = .ok (.invokevirtual 110, 3) := by decide +kernel
theorem dX4_sub_7 : decode cX4_sub 7 = .ok (.ifCond .ne 5, 3) := by decide +kernel
theorem dX4_sub_10 : decode cX4_sub 10 = .ok (.iconst 3, 1) := by decide +kernel
theorem dX4_sub_11 : decode cX4_sub 11 = .ok (.ireturn, 1) := by decide +kernel
theorem dX4_sub_12 : decode cX4_sub 12 = .ok (.aload_n 0, 1) := by decide +kernel
theorem dX4_sub_13 : decode cX4_sub 13 = .ok (.aload_n 0, 1) := by decide +kernel
theorem dX4_sub_14 : decode cX4_sub 14 = .ok (.getfield 73, 3) := by decide +kernel
theorem dX4_sub_17 : decode cX4_sub 17 = .ok (.iload_n 2, 1) := by decide +kernel
theorem dX4_sub_18 : decode cX4_sub 18 = .ok (.aaload, 1) := by decide +kernel
theorem dX4_sub_19 : decode cX4_sub 19 = .ok (.aload_n 0, 1) := by decide +kernel
theorem dX4_sub_20 : decode cX4_sub 20 = .ok (.getfield 73, 3) := by decide +kernel
theorem dX4_sub_23 : decode cX4_sub 23 = .ok (.iload_n 3, 1) := by decide +kernel
theorem dX4_sub_24 : decode cX4_sub 24 = .ok (.aaload, 1) := by decide +kernel
theorem dX4_sub_25 : decode cX4_sub 25 = .ok (.aload_n 0, 1) := by decide +kernel
theorem dX4_sub_26 : decode cX4_sub 26 = .ok (.getfield 73, 3) := by decide +kernel
theorem dX4_sub_29 : decode cX4_sub 29 = .ok (.iload_n 3, 1) := by decide +kernel
theorem dX4_sub_30 : decode cX4_sub 30 = .ok (.aaload, 1) := by decide +kernel
theorem dX4_sub_31 : decode cX4_sub 31 = .ok (.getfield 101, 3) := by decide +kernel
theorem dX4_sub_34 : decode cX4_sub 34 = .ok (.ineg, 1) := by decide +kernel
theorem dX4_sub_35 : decode cX4_sub 35 = .ok (.invokevirtual 114, 3) := by decide +kernel
theorem dX4_sub_38 : decode cX4_sub 38 = .ok (.aload_n 0, 1) := by decide +kernel
theorem dX4_sub_39 : decode cX4_sub 39 = .ok (.iload_n 1, 1) := by decide +kernel
theorem dX4_sub_40 : decode cX4_sub 40 = .ok (.invokevirtual 107, 3) := by decide +kernel
theorem dX4_sub_43 : decode cX4_sub 43 = .ok (.ireturn, 1) := by decide +kernel
set_option maxRecDepth 20000 in
theorem ggX4_mul_X4_areRegisters : GoodIn wsX4_mul wsX4_areRegisters := goodIn_r _ [9, 10, 11, 12, 8, 13, 1, 121, 122, 123, 124, 125, 126, 127, 128, 129, 130, 131, 132, 133, 134] (by decide +kernel) (by decide +kernel)
set_option maxRecDepth 20000 in
theorem gX4_mul_X4_areRegisters : GoodIn wsX4_mul (wsV RX4 110 RX4 yX4_areRegisters wsX4_areRegisters) := goodIn_app (goodIn_of _ (by decide +kernel)) ggX4_mul_X4_areRegisters
set_option maxRecDepth 20000 in
theorem ggX4_mul_X4_multiply : GoodIn wsX4_mul wsX4_multiply := goodIn_r _ [17, 18, 3, 19, 20, 21, 22, 4, 23, 2, 24, 25, 26, 27, 28, 29, 30, 31, 32, 33, 34, 35, 36, 37, 38, 39, 40, 41, 42, 43, 44, 45, 46, 47, 48, 49, 50, 51, 52, 53, 54, 55, 56, 57, 58, 59, 60, 61, 62, 63, 64, 65, 66, 67, 68, 69, 70, 71, 72, 73, 74, 75, 76, 77, 78, 79, 80, 81, 82, 83, 84, 85, 86, 87, 88, 89, 90, 91, 92, 93, 94, 95, 96, 97, 98, 99, 100, 101, 102, 103, 104, 105, 121, 122, 123, 124, 125, 126, 127, 128, 129, 130, 131, 132, 133, 134, 135, 136, 137, 138, 139, 140, 141, 142] (by decide +kernel) (by decide +kernel)
set_option maxRecDepth 20000 in
theorem gX4_mul_X4_multiply : GoodIn wsX4_mul (wsV RX4 118 RX4 yX4_multiply wsX4_multiply) := goodIn_app (goodIn_of _ (by decide +kernel)) ggX4_mul_X4_multiply
set_option maxRecDepth 20000 in
theorem ggX4_mul_X4_keepResult : GoodIn wsX4_mul wsX4_keepResult := goodIn_r _ [109, 23, 3, 110, 111, 4, 1, 112, 113, 114, 115, 116, 117, 118, 119, 120, 25, 26, 27, 28, 29, 30, 31, 32, 33, 34, 121, 122, 123, 124, 125, 126, 127, 128, 129, 130, 131, 132, 133, 134, 135, 136, 137, 138, 139] (by decide +kernel) (by decide +kernel)
set_option maxRecDepth 20000 in
theorem gX4_mul_X4_keepResult : GoodIn wsX4_mul (wsV RX4 107 RX4 yX4_keepResult wsX4_keepResult) := goodIn_app (goodIn_of _ (by decide +kernel)) ggX4_mul_X4_keepResult
theorem dX4_mul_0 : decode cX4_mul 0 = .ok (.aload_n 0, 1) := by decide +kernel
theorem dX4_mul_1 : decode cX4_mul 1 = .ok (.iload_n 1, 1) := by decide +kernel
theorem dX4_mul_2 : decode cX4_mul 2 = .ok (.iload_n 2, 1) := by decide +kernel
theorem dX4_mul_3 : decode cX4_mul 3 = .ok (.iload_n 3, 1) := by decide +kernel
theorem dX4_mul_4 : decode cX4_mul 4 = .ok (.invokevirtual 110, 3) := by decide +kernel
theorem dX4_mul_7 : decode cX4_mul 7 = .ok (.ifCond .ne 5, 3) := by decide +kernel
theorem dX4_mul_10 : decode cX4_mul 10 = .ok (.iconst 3, 1) := by decide +kernel
theorem dX4_mul_11 : decode cX4_mul 11 = .ok (.ireturn, 1) := by decide +kernel
theorem dX4_mul_12 : decode cX4_mul 12 = .ok (.aload_n 0, 1) := by decide +kernel
theorem dX4_mul_13 : decode cX4_mul 13 = .ok (.getfield 73, 3) := by decide +kernel
theorem dX4_mul_16 : decode cX4_mul 16 = .ok (.iload_n 3, 1) := by decide +kernel
theorem dX4_mul_17 : decode cX4_mul 17 = .ok (.aaload, 1) := by decide +kernel
theorem dX4_mul_18 : decode cX4_mul 18 = .ok (.astore 4, 2) := by decide +kernel
theorem dX4_mul_20 : decode cX4_mul 20 = .ok (.aload_n 0, 1) := by decide +kernel
theorem dX4_mul_21 : decode cX4_mul 21 = .ok (.aload_n 0, 1) := by decide +kernel
theorem dX4_mul_22 : decode cX4_mul 22 = .ok (.getfield 73, 3) := by decide +kernel
theorem dX4_mul_25 : decode cX4_mul 25 = .ok (.iload_n 2, 1) := by decide +kernel
theorem dX4_mul_26 : decode cX4_mul 26 = .ok (.aaload, 1) := by decide +kernel
theorem dX4_mul_27 : decode cX4_mul 27 = .ok (.aload 4, 2) := by decide +kernel
theorem dX4_mul_29 : decode cX4_mul 29 = .ok (.getfield 101, 3) := by decide +kernel
theorem dX4_mul_32 : decode cX4_mul 32 = .ok (.aload 4, 2) := by decide +kernel
theorem dX4_mul_34 : decode cX4_mul 34 = .ok (.getfield 88, 3) := by decide +kernel
theorem dX4_mul_37 : decode cX4_mul 37 = .ok (.aload 4, 2) := by decide +kernel
theorem dX4_mul_39 : decode cX4_mul 39 = .ok (.getfield 77, 3) := by decide +kernel
theorem dX4_mul_42 : decode cX4_mul 42 = .ok (.invokevirtual 118, 3) := by decide +kernel
theorem dX4_mul_45 : decode cX4_mul 45 = .ok (.aload_n 0, 1) := by decide +kernel
theorem dX4_mul_46 : decode cX4_mul 46 = .ok (.iload_n 1, 1) := by decide +kernel
theorem dX4_mul_47 : decode cX4_mul 47 = .ok (.invokevirtual 107, 3) := by decide +kernel
theorem dX4_mul_50 : decode cX4_mul 50 = .ok (.ireturn, 1) := by decide +kernel
set_option maxRecDepth 20000 in
theorem ggX4_div_X4_areRegisters : GoodIn wsX4_div wsX4_areRegisters := goodIn_r _ [9, 10, 11, 12, 8, 13, 1, 121, 122, 123, 124, 125, 126, 127, 128, 129, 130, 131, 132, 133, 134] (by decide +kernel) (by decide +kernel)
set_option maxRecDepth 20000 in
theorem gX4_div_X4_areRegisters : GoodIn wsX4_div (wsV RX4 110 RX4 yX4_areRegisters wsX4_areRegisters) := goodIn_app (goodIn_of _ (by decide +kernel)) ggX4_div_X4_areRegisters
set_option maxRecDepth 20000 in
theorem ggX4_div_X4_multiply : GoodIn wsX4_div wsX4_multiply := goodIn_r _ [17, 18, 4, 19, 20, 21, 22, 3, 23, 2, 24, 25, 26, 27, 28, 29, 30, 31, 32, 33, 34, 35, 36, 37, 38, 39, 40, 41, 42, 43, 44, 45, 46, 47, 48, 49, 50, 51, 52, 53, 54, 55, 56, 57, 58, 59, 60, 61, 62, 63, 64, 65, 66, 67, 68, 69, 70, 71, 72, 73, 74, 75, 76, 77, 78, 79, 80, 81, 82, 83, 84, 85, 86, 87, 88, 89, 90, 91, 92, 93, 94, 95, 96, 97, 98, 99, 100, 101, 102, 103, 104, 105, 121, 122, 123, 124, 125, 126, 127, 128, 129, 130, 131, 132, 133, 134, 135, 136, 137, 138, 139, 140, 141, 142] (by decide +kernel) (by decide +kernel)
set_option maxRecDepth 20000 in
theorem gX4_div_X4_multiply : GoodIn wsX4_div (wsV RX4 118 RX4 yX4_multiply wsX4_multiply) := goodIn_app (goodIn_of _ (by decide +kernel)) ggX4_div_X4_multiply
set_option maxRecDepth 20000 in
theorem ggX4_div_X4_keepResult : GoodIn wsX4_div wsX4_keepResult := goodIn_r _ [109, 23, 4, 110, 111, 3, 1, 112, 113, 114, 115, 116, 117, 118, 119, 120, 25, 26, 27, 28, 29, 30, 31, 32, 33, 34, 121, 122, 123, 124, 125, 126, 127, 128, 129, 130, 131, 132, 133, 134, 135, 136, 137, 138, 139] (by decide +kernel) (by decide +kernel)
set_option maxRecDepth 20000 in
theorem gX4_div_X4_keepResult : GoodIn wsX4_div (wsV RX4 107 RX4 yX4_keepResult wsX4_keepResult) := goodIn_app (goodIn_of _ (by decide +kernel)) ggX4_div_X4_keepResult
theorem dX4_div_0 : decode cX4_div 0 = .ok (.aload_n 0, 1) := by decide +kernel
theorem dX4_div_1 : decode cX4_div 1 = .ok (.iload_n 1, 1) := by decide +kernel
theorem dX4_div_2 : decode cX4_div 2 = .ok (.iload_n 2, 1) := by decide +kernel
theorem dX4_div_3 : decode cX4_div 3 = .ok (.iload_n 3, 1) := by decide +kernel
theorem dX4_div_4 : decode cX4_div 4 = .ok (.invokevirtual 110, 3) := by decide +kernel
theorem dX4_div_7 : decode cX4_div 7 = .ok (.ifCond .ne 5, 3) := by decide +kernel
theorem dX4_div_10 : decode cX4_div 10 = .ok (.iconst 3, 1) := by decide +kernel
theorem dX4_div_11 : decode cX4_div 11 = .ok (.ireturn, 1) := by decide +kernel
theorem dX4_div_12 : decode cX4_div 12 = .ok (.aload_n 0, 1) := by decide +kernel
theorem dX4_div_13 : decode cX4_div 13 = .ok (.getfield 73, 3) := by decide +kernel
theorem dX4_div_16 : decode cX4_div 16 = .ok (.iload_n 3, 1) := by decide +kernel
theorem dX4_div_17 : decode cX4_div 17 = .ok (.aaload, 1) := by decide +kernel
theorem dX4_div_18 : decode cX4_div 18 = .ok (.astore 4, 2) := by decide +kernel
theorem dX4_div_20 : decode cX4_div 20 = .ok (.aload 4, 2) := by decide +kernel
theorem dX4_div_22 : decode cX4_div 22 = .ok (.getfield 101, 3) := by decide +kernel
theorem dX4_div_25 : decode cX4_div 25 = .ok (.ifCond .ne 5, 3) := by decide +kernel
theorem dX4_div_28 : decode cX4_div 28 = .ok (.iconst 2, 1) := by decide +kernel
theorem dX4_div_29 : decode cX4_div 29 = .ok (.ireturn, 1) := by decide +kernel
theorem dX4_div_30 : decode cX4_div 30 = .ok (.aload_n 0, 1) := by decide +kernel
theorem dX4_div_31 : decode cX4_div 31 = .ok (.aload_n 0, 1) := by decide +kernel
theorem dX4_div_32 : decode cX4_div 32 = .ok (.getfield 73, 3) := by decide +kernel
theorem dX4_div_35 : decode cX4_div 35 = .ok (.iload_n 2, 1) := by decide +kernel
theorem dX4_div_36 : decode cX4_div 36 = .ok (.aaload, 1) := by decide +kernel
theorem dX4_div_37 : decode cX4_div 37 = .ok (.aload 4, 2) := by decide +kernel
theorem dX4_div_39 : decode cX4_div 39 = .ok (.getfield 101, 3) := by decide +kernel
theorem dX4_div_42 : decode cX4_div 42 = .ok (.aload 4, 2) := by decide +kernel
theorem dX4_div_44 : decode cX4_div 44 = .ok (.getfield 77, 3) := by decide +kernel
theorem dX4_div_47 : decode cX4_div 47 = .ok (.aload 4, 2) := by decide +kernel
theorem dX4_div_49 : decode cX4_div 49 = .ok (.getfield 88, 3) := by decide +kernel
theorem dX4_div_52 : decode cX4_div 52 = .ok (.invokevirtual 118, 3) := by decide +kernel
theorem dX4_div_55 : decode cX4_div 55 = .ok (.aload_n 0, 1) := by decide +kernel
theorem dX4_div_56 : decode cX4_div 56 = .ok (.iload_n 1, 1) := by decide +kernel
theorem dX4_div_57 : decode cX4_div 57 = .ok (.invokevirtual 107, 3) := by decide +kernel
theorem dX4_div_60 : decode cX4_div 60 = .ok (.ireturn, 1) := by decide +kernel
set_option maxRecDepth 20000 in
theorem ggX4_cmp_X4_isRegister : GoodIn wsX4_cmp wsX4_isRegister := goodIn_r _ [11, 1, 44, 45, 46, 47, 48, 49, 50, 51, 52, 53, 54, 55, 56, 57] (by decide +kernel) (by decide +kernel)
set_option maxRecDepth 20000 in
theorem gX4_cmp_X4_isRegister : GoodIn wsX4_cmp (wsV RX4 84 RX4 yX4_isRegister wsX4_isRegister) := goodIn_app (goodIn_of _ (by decide +kernel)) ggX4_cmp_X4_isRegister
set_option maxRecDepth 20000 in
theorem ggX4_cmp_X1_becomeProduct : GoodIn wsX4_cmp wsX1_becomeProduct := goodIn_r _ [16, 17, 18, 19, 20, 15, 21, 22, 23, 24, 25, 26, 27, 28, 29, 30, 31, 32, 33, 34, 35, 36, 37, 38, 39, 61, 62] (by decide +kernel) (by decide +kernel)
set_option maxRecDepth 20000 in
theorem gX4_cmp_X1_becomeProduct : GoodIn wsX4_cmp (wsV RX4 122 RX1 yX1_becomeProduct wsX1_becomeProduct) := goodIn_app (goodIn_of _ (by decide +kernel)) ggX4_cmp_X1_becomeProduct
set_option maxRecDepth 20000 in
theorem ggX4_cmp_X1_compareWith : GoodIn wsX4_cmp wsX1_compareWith := goodIn_r _ [43, 17, 22, 23, 24, 25, 15, 26, 27, 61, 62] (by decide +kernel) (by decide +kernel)
set_option maxRecDepth 20000 in
theorem gX4_cmp_X1_compareWith : GoodIn wsX4_cmp (wsV RX4 125 RX1 yX1_compareWith wsX1_compareWith) := goodIn_app (goodIn_of _ (by decide +kernel)) ggX4_cmp_X1_compareWith
theorem dX4_cmp_0 : decode cX4_cmp 0 = .ok (.aload_n 0, 1) := by decide +kernel
theorem dX4_cmp_1 : decode cX4_cmp 1 = .ok (.iload_n 1, 1) := by decide +kernel
theorem dX4_cmp_2 : decode cX4_cmp 2 = .ok (.invokevirtual 84, 3) := by decide +kernel
theorem dX4_cmp_5 : decode cX4_cmp 5 = .ok (.ifCond .eq 11, 3) := by decide +kernel
theorem dX4_cmp_8 : decode cX4_cmp 8 = .ok (.aload_n 0, 1) := by decide +kernel
theorem dX4_cmp_9 : decode cX4_cmp 9 = .ok (.iload_n 2, 1) := by decide +kernel
theorem dX4_cmp_10 : decode cX4_cmp 10 = .ok (.invokevirtual 84, 3) := by decide +kernel
theorem dX4_cmp_13 : decode cX4_cmp 13 = .ok (.ifCond .ne 5, 3) := by decide +kernel
theorem dX4_cmp_16 : decode cX4_cmp 16 = .ok (.iconst 2, 1) := by decide +kernel
theorem dX4_cmp_17 : decode cX4_cmp 17 = .ok (.ireturn, 1) := by decide +kernel
theorem dX4_cmp_18 : decode cX4_cmp 18 = .ok (.aload_n 0, 1) := by decide +kernel
theorem dX4_cmp_19 : decode cX4_cmp 19 = .ok (.getfield 73, 3) := by decide +kernel
theorem dX4_cmp_22 : decode cX4_cmp 22 = .ok (.iload_n 1, 1) := by decide +kernel
theorem dX4_cmp_23 : decode cX4_cmp 23 = .ok (.aaload, 1) := by decide +kernel
theorem dX4_cmp_24 : decode cX4_cmp 24 = .ok (.astore_n 3, 1) := by decide +kernel
theorem dX4_cmp_25 : decode cX4_cmp 25 = .ok (.aload_n 0, 1) := by decide +kernel
theorem dX4_cmp_26 : decode cX4_cmp 26 = .ok (.getfield 73, 3) := by decide +kernel
theorem dX4_cmp_29 : decode cX4_cmp 29 = .ok (.iload_n 2, 1) := by decide +kernel
theorem dX4_cmp_30 : decode cX4_cmp 30 = .ok (.aaload, 1) := by decide +kernel
theorem dX4_cmp_31 : decode cX4_cmp 31 = .ok (.astore 4, 2) := by decide +kernel
theorem dX4_cmp_33 : decode cX4_cmp 33 = .ok (.aload_n 3, 1) := by decide +kernel
theorem dX4_cmp_34 : decode cX4_cmp 34 = .ok (.getfield 101, 3) := by decide +kernel
theorem dX4_cmp_37 : decode cX4_cmp 37 = .ok (.aload 4, 2) := by decide +kernel
theorem dX4_cmp_39 : decode cX4_cmp 39 = .ok (.getfield 101, 3) := by decide +kernel
theorem dX4_cmp_42 : decode cX4_cmp 42 = .ok (.if_icmp .eq 21, 3) := by decide +kernel
theorem dX4_cmp_45 : decode cX4_cmp 45 = .ok (.aload_n 3, 1) := by decide +kernel
theorem dX4_cmp_46 : decode cX4_cmp 46 = .ok (.getfield 101, 3) := by decide +kernel
theorem dX4_cmp_49 : decode cX4_cmp 49 = .ok (.aload 4, 2) := by decide +kernel
theorem dX4_cmp_51 : decode cX4_cmp 51 = .ok (.getfield 101, 3) := by decide +kernel
theorem dX4_cmp_54 : decode cX4_cmp 54 = .ok (.if_icmp .ge 7, 3) := by decide +kernel
theorem dX4_cmp_57 : decode cX4_cmp 57 = .ok (.iconst (-1), 1) := by decide +kernel
theorem dX4_cmp_58 : decode cX4_cmp 58 = .ok (.goto 4, 3) := by decide +kernel
theorem dX4_cmp_61 : decode cX4_cmp 61 = .ok (.iconst 1, 1) := by decide +kernel
theorem dX4_cmp_62 : decode cX4_cmp 62 = .ok (.ireturn, 1) := by decide +kernel
theorem dX4_cmp_63 : decode cX4_cmp 63 = .ok (.aload_n 0, 1) := by decide +kernel
theorem dX4_cmp_64 : decode cX4_cmp 64 = .ok (.getfield 40, 3) := by decide +kernel
theorem dX4_cmp_67 : decode cX4_cmp 67 = .ok (.aload_n 3, 1) := by decide +kernel
theorem dX4_cmp_68 : decode cX4_cmp 68 = .ok (.getfield 88, 3) := by decide +kernel
theorem dX4_cmp_71 : decode cX4_cmp 71 = .ok (.aload 4, 2) := by decide +kernel
theorem dX4_cmp_73 : decode cX4_cmp 73 = .ok (.getfield 77, 3) := by decide +kernel
theorem dX4_cmp_76 : decode cX4_cmp 76 = .ok (.invokevirtual 122, 3) := by decide +kernel
theorem dX4_cmp_79 : decode cX4_cmp 79 = .ok (.aload_n 0, 1) := by decide +kernel
theorem dX4_cmp_80 : decode cX4_cmp 80 = .ok (.getfield 47, 3) := by decide +kernel
theorem dX4_cmp_83 : decode cX4_cmp 83 = .ok (.aload 4, 2) := by decide +kernel
theorem dX4_cmp_85 : decode cX4_cmp 85 = .ok (.getfield 88, 3) := by decide +kernel
theorem dX4_cmp_88 : decode cX4_cmp 88 = .ok (.aload_n 3, 1) := by decide +kernel
theorem dX4_cmp_89 : decode cX4_cmp 89 = .ok (.getfield 77, 3) := by decide +kernel
theorem dX4_cmp_92 : decode cX4_cmp 92 = .ok (.invokevirtual 122, 3) := by decide +kernel
theorem dX4_cmp_95 : decode cX4_cmp 95 = .ok (.aload_n 3, 1) := by decide +kernel
theorem dX4_cmp_96 : decode cX4_cmp 96 = .ok (.getfield 101, 3) := by decide +kernel
theorem dX4_cmp_99 : decode cX4_cmp 99 = .ok (.aload_n 0, 1) := by decide +kernel
theorem dX4_cmp_100 : decode cX4_cmp 100 = .ok (.getfield 40, 3) := by decide +kernel
theorem dX4_cmp_103 : decode cX4_cmp 103 = .ok (.aload_n 0, 1) := by decide +kernel
theorem dX4_cmp_104 : decode cX4_cmp 104 = .ok (.getfield 47, 3) := by decide +kernel
theorem dX4_cmp_107 : decode cX4_cmp 107 = .ok (.invokevirtual 125, 3) := by decide +kernel
theorem dX4_cmp_110 : decode cX4_cmp 110 = .ok (.imul, 1) := by decide +kernel
theorem dX4_cmp_111 : decode cX4_cmp 111 = .ok (.ireturn, 1) := by decide +kernel
set_option maxRecDepth 20000 in
theorem ggX4_fits_X4_isRegister : GoodIn wsX4_fits wsX4_isRegister := goodIn_r _ [6, 1, 93, 94, 95, 96, 97, 98, 99, 100, 101, 102, 103, 104, 105, 106] (by decide +kernel) (by decide +kernel)
set_option maxRecDepth 20000 in
theorem gX4_fits_X4_isRegister : GoodIn wsX4_fits (wsV RX4 84 RX4 yX4_isRegister wsX4_isRegister) := goodIn_app (goodIn_of _ (by decide +kernel)) ggX4_fits_X4_isRegister
set_option maxRecDepth 20000 in
theorem ggX4_fits_X4_divideDown : GoodIn wsX4_fits wsX4_divideDown := goodIn_r _ [10, 11, 12, 13, 14, 15, 16, 17, 18, 19, 20, 21, 22, 23, 24, 25, 26, 27, 28, 29, 30, 31, 32, 33, 34, 35, 36, 37, 38, 39, 40, 41, 42, 43, 44, 45, 46, 47, 48, 49, 50, 51, 52, 53, 54, 55, 56, 57, 58, 59, 60, 61, 62, 63, 64, 65, 66, 67, 68, 69, 70, 71, 72, 73, 74, 75, 76, 77, 78, 79, 80, 81, 82, 83, 84, 85, 86, 87, 93, 94, 95, 96, 97, 98, 99, 100, 101, 102, 103, 104, 105, 106, 107, 108, 109, 110, 111] (by decide +kernel) (by decide +kernel)
set_option maxRecDepth 20000 in
theorem gX4_fits_X4_divideDown : GoodIn wsX4_fits (wsV RX4 129 RX4 yX4_divideDown wsX4_divideDown) := goodIn_app (goodIn_of _ (by decide +kernel)) ggX4_fits_X4_divideDown
set_option maxRecDepth 20000 in
theorem ggX4_fits_X4_isInt : GoodIn wsX4_fits wsX4_isInt := goodIn_r _ [90, 91, 92] (by decide +kernel) (by decide +kernel)
set_option maxRecDepth 20000 in
theorem gX4_fits_X4_isInt : GoodIn wsX4_fits (va_wsS RX4 133 yX4_isInt wsX4_isInt) := goodIn_app (goodIn_of _ (by decide +kernel)) ggX4_fits_X4_isInt
theorem dX4_fits_0 : decode cX4_fits 0 = .ok (.aload_n 0, 1) := by decide +kernel
theorem dX4_fits_1 : decode cX4_fits 1 = .ok (.iload_n 1, 1) := by decide +kernel
theorem dX4_fits_2 : decode cX4_fits 2 = .ok (.invokevirtual 84, 3) := by decide +kernel
theorem dX4_fits_5 : decode cX4_fits 5 = .ok (.ifCond .eq 23, 3) := by decide +kernel
theorem dX4_fits_8 : decode cX4_fits 8 = .ok (.aload_n 0, 1) := by decide +kernel
theorem dX4_fits_9 : decode cX4_fits 9 = .ok (.aload_n 0, 1) := by decide +kernel
theorem dX4_fits_10 : decode cX4_fits 10 = .ok (.getfield 73, 3) := by decide +kernel
theorem dX4_fits_13 : decode cX4_fits 13 = .ok (.iload_n 1, 1) := by decide +kernel
theorem dX4_fits_14 : decode cX4_fits 14 = .ok (.aaload, 1) := by decide +kernel
theorem dX4_fits_15 : decode cX4_fits 15 = .ok (.invokevirtual 129, 3) := by decide +kernel
theorem dX4_fits_18 : decode cX4_fits 18 = .ok (.invokestatic 133, 3) := by decide +kernel
theorem dX4_fits_21 : decode cX4_fits 21 = .ok (.ifCond .eq 7, 3) := by decide +kernel
theorem dX4_fits_24 : decode cX4_fits 24 = .ok (.iconst 1, 1) := by decide +kernel
theorem dX4_fits_25 : decode cX4_fits 25 = .ok (.goto 4, 3) := by decide +kernel
theorem dX4_fits_28 : decode cX4_fits 28 = .ok (.iconst 0, 1) := by decide +kernel
theorem dX4_fits_29 : decode cX4_fits 29 = .ok (.ireturn, 1) := by decide +kernel
set_option maxRecDepth 20000 in
theorem ggX4_floorSmall_X4_isRegister : GoodIn wsX4_floorSmall wsX4_isRegister := goodIn_r _ [6, 1, 93, 94, 95, 96, 97, 98, 99, 100, 101, 102, 103, 104, 105, 106] (by decide +kernel) (by decide +kernel)
set_option maxRecDepth 20000 in
theorem gX4_floorSmall_X4_isRegister : GoodIn wsX4_floorSmall (wsV RX4 84 RX4 yX4_isRegister wsX4_isRegister) := goodIn_app (goodIn_of _ (by decide +kernel)) ggX4_floorSmall_X4_isRegister
set_option maxRecDepth 20000 in
theorem ggX4_floorSmall_X4_divideDown : GoodIn wsX4_floorSmall wsX4_divideDown := goodIn_r _ [10, 11, 12, 13, 14, 15, 16, 17, 18, 19, 20, 21, 22, 23, 24, 25, 26, 27, 28, 29, 30, 31, 32, 33, 34, 35, 36, 37, 38, 39, 40, 41, 42, 43, 44, 45, 46, 47, 48, 49, 50, 51, 52, 53, 54, 55, 56, 57, 58, 59, 60, 61, 62, 63, 64, 65, 66, 67, 68, 69, 70, 71, 72, 73, 74, 75, 76, 77, 78, 79, 80, 81, 82, 83, 84, 85, 86, 87, 93, 94, 95, 96, 97, 98, 99, 100, 101, 102, 103, 104, 105, 106, 107, 108, 109, 110, 111] (by decide +kernel) (by decide +kernel)
set_option maxRecDepth 20000 in
theorem gX4_floorSmall_X4_divideDown : GoodIn wsX4_floorSmall (wsV RX4 129 RX4 yX4_divideDown wsX4_divideDown) := goodIn_app (goodIn_of _ (by decide +kernel)) ggX4_floorSmall_X4_divideDown
set_option maxRecDepth 20000 in
theorem ggX4_floorSmall_X4_isInt : GoodIn wsX4_floorSmall wsX4_isInt := goodIn_r _ [90, 91, 92] (by decide +kernel) (by decide +kernel)
set_option maxRecDepth 20000 in
theorem gX4_floorSmall_X4_isInt : GoodIn wsX4_floorSmall (va_wsS RX4 133 yX4_isInt wsX4_isInt) := goodIn_app (goodIn_of _ (by decide +kernel)) ggX4_floorSmall_X4_isInt
theorem dX4_floorSmall_0 : decode cX4_floorSmall 0 = .ok (.aload_n 0, 1) := by decide +kernel
theorem dX4_floorSmall_1 : decode cX4_floorSmall 1 = .ok (.iload_n 1, 1) := by decide +kernel
theorem dX4_floorSmall_2 : decode cX4_floorSmall 2 = .ok (.invokevirtual 84, 3) := by decide +kernel
theorem dX4_floorSmall_5 : decode cX4_floorSmall 5 = .ok (.ifCond .ne 5, 3) := by decide +kernel
theorem dX4_floorSmall_8 : decode cX4_floorSmall 8 = .ok (.iconst 0, 1) := by decide +kernel
theorem dX4_floorSmall_9 : decode cX4_floorSmall 9 = .ok (.ireturn, 1) := by decide +kernel
theorem dX4_floorSmall_10 : decode cX4_floorSmall 10 = .ok (.aload_n 0, 1) := by decide +kernel
theorem dX4_floorSmall_11 : decode cX4_floorSmall 11 = .ok (.aload_n 0, 1) := by decide +kernel
theorem dX4_floorSmall_12 : decode cX4_floorSmall 12 = .ok (.getfield 73, 3) := by decide +kernel
theorem dX4_floorSmall_15 : decode cX4_floorSmall 15 = .ok (.iload_n 1, 1) := by decide +kernel
theorem dX4_floorSmall_16 : decode cX4_floorSmall 16 = .ok (.aaload, 1) := by decide +kernel
theorem dX4_floorSmall_17 : decode cX4_floorSmall 17 = .ok (.invokevirtual 129, 3) := by decide +kernel
theorem dX4_floorSmall_20 : decode cX4_floorSmall 20 = .ok (.lstore_n 2, 1) := by decide +kernel
theorem dX4_floorSmall_21 : decode cX4_floorSmall 21 = .ok (.lload_n 2, 1) := by decide +kernel
theorem dX4_floorSmall_22 : decode cX4_floorSmall 22 = .ok (.invokestatic 133, 3) := by decide +kernel
theorem dX4_floorSmall_25 : decode cX4_floorSmall 25 = .ok (.ifCond .eq 8, 3) := by decide +kernel
theorem dX4_floorSmall_28 : decode cX4_floorSmall 28 = .ok (.lload_n 2, 1) := by decide +kernel
theorem dX4_floorSmall_29 : decode cX4_floorSmall 29 = .ok (.l2i, 1) := by decide +kernel
theorem dX4_floorSmall_30 : decode cX4_floorSmall 30 = .ok (.goto 4, 3) := by decide +kernel
theorem dX4_floorSmall_33 : decode cX4_floorSmall 33 = .ok (.iconst 0, 1) := by decide +kernel
theorem dX4_floorSmall_34 : decode cX4_floorSmall 34 = .ok (.ireturn, 1) := by decide +kernel
set_option maxRecDepth 20000 in
theorem ggX4_cfStart_X4_isRegister : GoodIn wsX4_cfStart wsX4_isRegister := goodIn_r _ [7, 2, 27, 28, 29, 30, 31, 32, 33, 34, 35, 36, 37, 38, 39, 40] (by decide +kernel) (by decide +kernel)
set_option maxRecDepth 20000 in
theorem gX4_cfStart_X4_isRegister : GoodIn wsX4_cfStart (wsV RX4 84 RX4 yX4_isRegister wsX4_isRegister) := goodIn_app (goodIn_of _ (by decide +kernel)) ggX4_cfStart_X4_isRegister
set_option maxRecDepth 20000 in
theorem ggX4_cfStart_X0_become : GoodIn wsX4_cfStart wsX0_become := goodIn_r _ [12, 13, 14, 15, 16, 17, 18, 19, 20, 21, 22, 23, 24, 25, 26, 41, 42, 43, 44, 45] (by decide +kernel) (by decide +kernel)
set_option maxRecDepth 20000 in
theorem gX4_cfStart_X0_become : GoodIn wsX4_cfStart (wsV RX4 137 RX0 yX0_become wsX0_become) := goodIn_app (goodIn_of _ (by decide +kernel)) ggX4_cfStart_X0_become
theorem dX4_cfStart_0 : decode cX4_cfStart 0 = .ok (.aload_n 0, 1) := by decide +kernel
theorem dX4_cfStart_1 : decode cX4_cfStart 1 = .ok (.iload_n 1, 1) := by decide +kernel
theorem dX4_cfStart_2 : decode cX4_cfStart 2 = .ok (.invokevirtual 84, 3) := by decide +kernel
theorem dX4_cfStart_5 : decode cX4_cfStart 5 = .ok (.ifCond .ne 5, 3) := by decide +kernel
theorem dX4_cfStart_8 : decode cX4_cfStart 8 = .ok (.iconst 0, 1) := by decide +kernel
theorem dX4_cfStart_9 : decode cX4_cfStart 9 = .ok (.ireturn, 1) := by decide +kernel
theorem dX4_cfStart_10 : decode cX4_cfStart 10 = .ok (.aload_n 0, 1) := by decide +kernel
theorem dX4_cfStart_11 : decode cX4_cfStart 11 = .ok (.getfield 14, 3) := by decide +kernel
theorem dX4_cfStart_14 : decode cX4_cfStart 14 = .ok (.aload_n 0, 1) := by decide +kernel
theorem dX4_cfStart_15 : decode cX4_cfStart 15 = .ok (.getfield 73, 3) := by decide +kernel
theorem dX4_cfStart_18 : decode cX4_cfStart 18 = .ok (.iload_n 1, 1) := by decide +kernel
theorem dX4_cfStart_19 : decode cX4_cfStart 19 = .ok (.aaload, 1) := by decide +kernel
theorem dX4_cfStart_20 : decode cX4_cfStart 20 = .ok (.invokevirtual 137, 3) := by decide +kernel
theorem dX4_cfStart_23 : decode cX4_cfStart 23 = .ok (.iconst 1, 1) := by decide +kernel
theorem dX4_cfStart_24 : decode cX4_cfStart 24 = .ok (.ireturn, 1) := by decide +kernel
set_option maxRecDepth 20000 in
theorem ggX4_cfNext_X1_isZero : GoodIn wsX4_cfNext wsX1_isZero := goodIn_r _ [12, 13, 107, 108] (by decide +kernel) (by decide +kernel)
set_option maxRecDepth 20000 in
theorem gX4_cfNext_X1_isZero : GoodIn wsX4_cfNext (wsV RX4 140 RX1 yX1_isZero wsX1_isZero) := goodIn_app (goodIn_of _ (by decide +kernel)) ggX4_cfNext_X1_isZero
set_option maxRecDepth 20000 in
theorem ggX4_cfNext_X4_divideDown : GoodIn wsX4_cfNext wsX4_divideDown := goodIn_r _ [18, 7, 6, 2, 19, 5, 20, 21, 22, 11, 23, 13, 24, 25, 26, 27, 28, 29, 30, 31, 32, 33, 34, 35, 36, 37, 38, 39, 40, 41, 42, 43, 44, 45, 46, 47, 48, 49, 50, 51, 52, 53, 54, 55, 56, 57, 58, 59, 60, 61, 62, 63, 64, 65, 66, 67, 68, 69, 70, 71, 72, 73, 74, 75, 76, 77, 78, 79, 80, 81, 8, 9, 10, 12, 82, 83, 84, 85, 90, 91, 92, 93, 94, 95, 96, 97, 98, 99, 100, 101, 102, 103, 104, 105, 106, 107, 108] (by decide +kernel) (by decide +kernel)
set_option maxRecDepth 20000 in
theorem gX4_cfNext_X4_divideDown : GoodIn wsX4_cfNext (wsV RX4 129 RX4 yX4_divideDown wsX4_divideDown) := goodIn_app (goodIn_of _ (by decide +kernel)) ggX4_cfNext_X4_divideDown
set_option maxRecDepth 20000 in
theorem ggX4_cfNext_X4_isInt : GoodIn wsX4_cfNext wsX4_isInt := goodIn_r _ [88, 4, 89] (by decide +kernel) (by decide +kernel)
set_option maxRecDepth 20000 in
theorem gX4_cfNext_X4_isInt : GoodIn wsX4_cfNext (va_wsS RX4 133 yX4_isInt wsX4_isInt) := goodIn_app (goodIn_of _ (by decide +kernel)) ggX4_cfNext_X4_isInt
set_option maxRecDepth 20000 in
theorem ggX4_cfNext_X1_become_ : GoodIn wsX4_cfNext wsX1_become_ := goodIn_r _ [23, 13, 24, 25, 26, 27, 28, 107, 108] (by decide +kernel) (by decide +kernel)
set_option maxRecDepth 20000 in
theorem gX4_cfNext_X1_become_ : GoodIn wsX4_cfNext (wsV RX4 147 RX1 yX1_become_ wsX1_become_) := goodIn_app (goodIn_of _ (by decide +kernel)) ggX4_cfNext_X1_become_
theorem dX4_cfNext_0 : decode cX4_cfNext 0 = .ok (.aload_n 0, 1) := by decide +kernel
theorem dX4_cfNext_1 : decode cX4_cfNext 1 = .ok (.getfield 14, 3) := by decide +kernel
theorem dX4_cfNext_4 : decode cX4_cfNext 4 = .ok (.getfield 77, 3) := by decide +kernel
theorem dX4_cfNext_7 : decode cX4_cfNext 7 = .ok (.invokevirtual 140, 3) := by decide +kernel
theorem dX4_cfNext_10 : decode cX4_cfNext 10 = .ok (.ifCond .eq 6, 3) := by decide +kernel
theorem dX4_cfNext_13 : decode cX4_cfNext 13 = .ok (.ldc 144, 2) := by decide +kernel
theorem dX4_cfNext_15 : decode cX4_cfNext 15 = .ok (.ireturn, 1) := by decide +kernel
theorem dX4_cfNext_16 : decode cX4_cfNext 16 = .ok (.aload_n 0, 1) := by decide +kernel
theorem dX4_cfNext_17 : decode cX4_cfNext 17 = .ok (.aload_n 0, 1) := by decide +kernel
theorem dX4_cfNext_18 : decode cX4_cfNext 18 = .ok (.getfield 14, 3) := by decide +kernel
theorem dX4_cfNext_21 : decode cX4_cfNext 21 = .ok (.invokevirtual 129, 3) := by decide +kernel
theorem dX4_cfNext_24 : decode cX4_cfNext 24 = .ok (.lstore_n 1, 1) := by decide +kernel
theorem dX4_cfNext_25 : decode cX4_cfNext 25 = .ok (.lload_n 1, 1) := by decide +kernel
theorem dX4_cfNext_26 : decode cX4_cfNext 26 = .ok (.invokestatic 133, 3) := by decide +kernel
theorem dX4_cfNext_29 : decode cX4_cfNext 29 = .ok (.ifCond .eq 11, 3) := by decide +kernel
theorem dX4_cfNext_32 : decode cX4_cfNext 32 = .ok (.lload_n 1, 1) := by decide +kernel
theorem dX4_cfNext_33 : decode cX4_cfNext 33 = .ok (.ldc2_w 145, 3) := by decide +kernel
theorem dX4_cfNext_36 : decode cX4_cfNext 36 = .ok (.lcmp, 1) := by decide +kernel
theorem dX4_cfNext_37 : decode cX4_cfNext 37 = .ok (.ifCond .ne 6, 3) := by decide +kernel
theorem dX4_cfNext_40 : decode cX4_cfNext 40 = .ok (.ldc 144, 2) := by decide +kernel
theorem dX4_cfNext_42 : decode cX4_cfNext 42 = .ok (.ireturn, 1) := by decide +kernel
theorem dX4_cfNext_43 : decode cX4_cfNext 43 = .ok (.aload_n 0, 1) := by decide +kernel
theorem dX4_cfNext_44 : decode cX4_cfNext 44 = .ok (.getfield 14, 3) := by decide +kernel
theorem dX4_cfNext_47 : decode cX4_cfNext 47 = .ok (.iconst 1, 1) := by decide +kernel
theorem dX4_cfNext_48 : decode cX4_cfNext 48 = .ok (.putfield 101, 3) := by decide +kernel
theorem dX4_cfNext_51 : decode cX4_cfNext 51 = .ok (.aload_n 0, 1) := by decide +kernel
theorem dX4_cfNext_52 : decode cX4_cfNext 52 = .ok (.getfield 14, 3) := by decide +kernel
theorem dX4_cfNext_55 : decode cX4_cfNext 55 = .ok (.getfield 88, 3) := by decide +kernel
theorem dX4_cfNext_58 : decode cX4_cfNext 58 = .ok (.aload_n 0, 1) := by decide +kernel
theorem dX4_cfNext_59 : decode cX4_cfNext 59 = .ok (.getfield 14, 3) := by decide +kernel
theorem dX4_cfNext_62 : decode cX4_cfNext 62 = .ok (.getfield 77, 3) := by decide +kernel
theorem dX4_cfNext_65 : decode cX4_cfNext 65 = .ok (.invokevirtual 147, 3) := by decide +kernel
theorem dX4_cfNext_68 : decode cX4_cfNext 68 = .ok (.aload_n 0, 1) := by decide +kernel
theorem dX4_cfNext_69 : decode cX4_cfNext 69 = .ok (.getfield 14, 3) := by decide +kernel
theorem dX4_cfNext_72 : decode cX4_cfNext 72 = .ok (.getfield 77, 3) := by decide +kernel
theorem dX4_cfNext_75 : decode cX4_cfNext 75 = .ok (.aload_n 0, 1) := by decide +kernel
theorem dX4_cfNext_76 : decode cX4_cfNext 76 = .ok (.getfield 62, 3) := by decide +kernel
theorem dX4_cfNext_79 : decode cX4_cfNext 79 = .ok (.invokevirtual 147, 3) := by decide +kernel
theorem dX4_cfNext_82 : decode cX4_cfNext 82 = .ok (.lload_n 1, 1) := by decide +kernel
theorem dX4_cfNext_83 : decode cX4_cfNext 83 = .ok (.l2i, 1) := by decide +kernel
theorem dX4_cfNext_84 : decode cX4_cfNext 84 = .ok (.ireturn, 1) := by decide +kernel
set_option maxRecDepth 20000 in
theorem ggX4_cfDone_X1_isZero : GoodIn wsX4_cfDone wsX1_isZero := goodIn_r _ [7, 8, 26, 27] (by decide +kernel) (by decide +kernel)
set_option maxRecDepth 20000 in
theorem gX4_cfDone_X1_isZero : GoodIn wsX4_cfDone (wsV RX4 140 RX1 yX1_isZero wsX1_isZero) := goodIn_app (goodIn_of _ (by decide +kernel)) ggX4_cfDone_X1_isZero
theorem dX4_cfDone_0 : decode cX4_cfDone 0 = .ok (.aload_n 0, 1) := by decide +kernel
theorem dX4_cfDone_1 : decode cX4_cfDone 1 = .ok (.getfield 14, 3) := by decide +kernel
theorem dX4_cfDone_4 : decode cX4_cfDone 4 = .ok (.getfield 77, 3) := by decide +kernel
theorem dX4_cfDone_7 : decode cX4_cfDone 7 = .ok (.invokevirtual 140, 3) := by decide +kernel
theorem dX4_cfDone_10 : decode cX4_cfDone 10 = .ok (.ireturn, 1) := by decide +kernel
set_option maxRecDepth 20000 in
theorem ggX4_numLimb_X4_isRegister : GoodIn wsX4_numLimb wsX4_isRegister := goodIn_r _ [7, 1, 15, 16, 17, 18, 19, 20, 21, 22, 23, 24, 25, 26, 27, 28] (by decide +kernel) (by decide +kernel)
set_option maxRecDepth 20000 in
theorem gX4_numLimb_X4_isRegister : GoodIn wsX4_numLimb (wsV RX4 84 RX4 yX4_isRegister wsX4_isRegister) := goodIn_app (goodIn_of _ (by decide +kernel)) ggX4_numLimb_X4_isRegister
set_option maxRecDepth 20000 in
theorem ggX4_numLimb_X1_limb : GoodIn wsX4_numLimb wsX1_limb := goodIn_r _ [12, 13, 14, 32, 33] (by decide +kernel) (by decide +kernel)
set_option maxRecDepth 20000 in
theorem gX4_numLimb_X1_limb : GoodIn wsX4_numLimb (wsV RX4 150 RX1 yX1_limb wsX1_limb) := goodIn_app (goodIn_of _ (by decide +kernel)) ggX4_numLimb_X1_limb
theorem dX4_numLimb_0 : decode cX4_numLimb 0 = .ok (.aload_n 0, 1) := by decide +kernel
theorem dX4_numLimb_1 : decode cX4_numLimb 1 = .ok (.iload_n 1, 1) := by decide +kernel
theorem dX4_numLimb_2 : decode cX4_numLimb 2 = .ok (.invokevirtual 84, 3) := by decide +kernel
theorem dX4_numLimb_5 : decode cX4_numLimb 5 = .ok (.ifCond .eq 20, 3) := by decide +kernel
theorem dX4_numLimb_8 : decode cX4_numLimb 8 = .ok (.aload_n 0, 1) := by decide +kernel
theorem dX4_numLimb_9 : decode cX4_numLimb 9 = .ok (.getfield 73, 3) := by decide +kernel
theorem dX4_numLimb_12 : decode cX4_numLimb 12 = .ok (.iload_n 1, 1) := by decide +kernel
theorem dX4_numLimb_13 : decode cX4_numLimb 13 = .ok (.aaload, 1) := by decide +kernel
theorem dX4_numLimb_14 : decode cX4_numLimb 14 = .ok (.getfield 88, 3) := by decide +kernel
theorem dX4_numLimb_17 : decode cX4_numLimb 17 = .ok (.iload_n 2, 1) := by decide +kernel
theorem dX4_numLimb_18 : decode cX4_numLimb 18 = .ok (.invokevirtual 150, 3) := by decide +kernel
theorem dX4_numLimb_21 : decode cX4_numLimb 21 = .ok (.l2i, 1) := by decide +kernel
theorem dX4_numLimb_22 : decode cX4_numLimb 22 = .ok (.goto 4, 3) := by decide +kernel
theorem dX4_numLimb_25 : decode cX4_numLimb 25 = .ok (.iconst 0, 1) := by decide +kernel
theorem dX4_numLimb_26 : decode cX4_numLimb 26 = .ok (.ireturn, 1) := by decide +kernel
set_option maxRecDepth 20000 in
theorem ggX4_denLimb_X4_isRegister : GoodIn wsX4_denLimb wsX4_isRegister := goodIn_r _ [7, 1, 15, 16, 17, 18, 19, 20, 21, 22, 23, 24, 25, 26, 27, 28] (by decide +kernel) (by decide +kernel)
set_option maxRecDepth 20000 in
theorem gX4_denLimb_X4_isRegister : GoodIn wsX4_denLimb (wsV RX4 84 RX4 yX4_isRegister wsX4_isRegister) := goodIn_app (goodIn_of _ (by decide +kernel)) ggX4_denLimb_X4_isRegister
set_option maxRecDepth 20000 in
theorem ggX4_denLimb_X1_limb : GoodIn wsX4_denLimb wsX1_limb := goodIn_r _ [12, 13, 14, 32, 33] (by decide +kernel) (by decide +kernel)
set_option maxRecDepth 20000 in
theorem gX4_denLimb_X1_limb : GoodIn wsX4_denLimb (wsV RX4 150 RX1 yX1_limb wsX1_limb) := goodIn_app (goodIn_of _ (by decide +kernel)) ggX4_denLimb_X1_limb
theorem dX4_denLimb_0 : decode cX4_denLimb 0 = .ok (.aload_n 0, 1) := by decide +kernel
theorem dX4_denLimb_1 : decode cX4_denLimb 1 = .ok (.iload_n 1, 1) := by decide +kernel
theorem dX4_denLimb_2 : decode cX4_denLimb 2 = .ok (.invokevirtual 84, 3) := by decide +kernel
theorem dX4_denLimb_5 : decode cX4_denLimb 5 = .ok (.ifCond .eq 20, 3) := by decide +kernel
theorem dX4_denLimb_8 : decode cX4_denLimb 8 = .ok (.aload_n 0, 1) := by decide +kernel
theorem dX4_denLimb_9 : decode cX4_denLimb 9 = .ok (.getfield 73, 3) := by decide +kernel
theorem dX4_denLimb_12 : decode cX4_denLimb 12 = .ok (.iload_n 1, 1) := by decide +kernel
theorem dX4_denLimb_13 : decode cX4_denLimb 13 = .ok (.aaload, 1) := by decide +kernel
theorem dX4_denLimb_14 : decode cX4_denLimb 14 = .ok (.getfield 77, 3) := by decide +kernel
theorem dX4_denLimb_17 : decode cX4_denLimb 17 = .ok (.iload_n 2, 1) := by decide +kernel
theorem dX4_denLimb_18 : decode cX4_denLimb 18 = .ok (.invokevirtual 150, 3) := by decide +kernel
theorem dX4_denLimb_21 : decode cX4_denLimb 21 = .ok (.l2i, 1) := by decide +kernel
theorem dX4_denLimb_22 : decode cX4_denLimb 22 = .ok (.goto 4, 3) := by decide +kernel
theorem dX4_denLimb_25 : decode cX4_denLimb 25 = .ok (.iconst 0, 1) := by decide +kernel
theorem dX4_denLimb_26 : decode cX4_denLimb 26 = .ok (.ireturn, 1) := by decide +kernel
set_option maxRecDepth 20000 in
theorem ggX4_sign_X4_isRegister : GoodIn wsX4_sign wsX4_isRegister := goodIn_r _ [7, 1, 8, 9, 10, 11, 12, 13, 14, 15, 16, 17, 18, 19, 20, 21] (by decide +kernel) (by decide +kernel)
set_option maxRecDepth 20000 in
theorem gX4_sign_X4_isRegister : GoodIn wsX4_sign (wsV RX4 84 RX4 yX4_isRegister wsX4_isRegister) := goodIn_app (goodIn_of _ (by decide +kernel)) ggX4_sign_X4_isRegister
theorem dX4_sign_0 : decode cX4_sign 0 = .ok (.aload_n 0, 1) := by decide +kernel
theorem dX4_sign_1 : decode cX4_sign 1 = .ok (.iload_n 1, 1) := by decide +kernel
theorem dX4_sign_2 : decode cX4_sign 2 = .ok (.invokevirtual 84, 3) := by decide +kernel
theorem dX4_sign_5 : decode cX4_sign 5 = .ok (.ifCond .eq 15, 3) := by decide +kernel
theorem dX4_sign_8 : decode cX4_sign 8 = .ok (.aload_n 0, 1) := by decide +kernel
theorem dX4_sign_9 : decode cX4_sign 9 = .ok (.getfield 73, 3) := by decide +kernel
theorem dX4_sign_12 : decode cX4_sign 12 = .ok (.iload_n 1, 1) := by decide +kernel
theorem dX4_sign_13 : decode cX4_sign 13 = .ok (.aaload, 1) := by decide +kernel
theorem dX4_sign_14 : decode cX4_sign 14 = .ok (.getfield 101, 3) := by decide +kernel
theorem dX4_sign_17 : decode cX4_sign 17 = .ok (.goto 4, 3) := by decide +kernel
theorem dX4_sign_20 : decode cX4_sign 20 = .ok (.iconst 0, 1) := by decide +kernel
theorem dX4_sign_21 : decode cX4_sign 21 = .ok (.ireturn, 1) := by decide +kernel
set_option maxRecDepth 20000 in
theorem ggX4_best_X4_isRegister : GoodIn wsX4_best wsX4_isRegister := goodIn_r _ [12, 2, 145, 146, 147, 148, 149, 150, 151, 152, 153, 154, 155, 156, 157, 158] (by decide +kernel) (by decide +kernel)
set_option maxRecDepth 20000 in
theorem gX4_best_X4_isRegister : GoodIn wsX4_best (wsV RX4 84 RX4 yX4_isRegister wsX4_isRegister) := goodIn_app (goodIn_of _ (by decide +kernel)) ggX4_best_X4_isRegister
set_option maxRecDepth 20000 in
theorem ggX4_best_X4_divideDown : GoodIn wsX4_best wsX4_divideDown := goodIn_r _ [16, 4, 17, 5, 18, 19, 20, 21, 22, 23, 24, 25, 26, 27, 28, 29, 30, 31, 32, 33, 34, 35, 36, 37, 38, 39, 40, 41, 42, 43, 44, 45, 46, 47, 48, 49, 50, 51, 52, 53, 54, 55, 56, 57, 58, 59, 60, 61, 62, 63, 64, 65, 66, 67, 68, 69, 70, 71, 72, 73, 74, 75, 76, 77, 78, 79, 80, 81, 82, 83, 84, 85, 86, 87, 88, 89, 90, 91, 145, 146, 147, 148, 149, 150, 151, 152, 153, 154, 155, 156, 157, 158, 159, 160, 161, 173, 174] (by decide +kernel) (by decide +kernel)
set_option maxRecDepth 20000 in
theorem gX4_best_X4_divideDown : GoodIn wsX4_best (wsV RX4 129 RX4 yX4_divideDown wsX4_divideDown) := goodIn_app (goodIn_of _ (by decide +kernel)) ggX4_best_X4_divideDown
set_option maxRecDepth 20000 in
theorem ggX4_best_X4_isInt : GoodIn wsX4_best wsX4_isInt := goodIn_r _ [94, 95, 96] (by decide +kernel) (by decide +kernel)
set_option maxRecDepth 20000 in
theorem gX4_best_X4_isInt : GoodIn wsX4_best (va_wsS RX4 133 yX4_isInt wsX4_isInt) := goodIn_app (goodIn_of _ (by decide +kernel)) ggX4_best_X4_isInt
set_option maxRecDepth 20000 in
theorem ggX4_best_X2_seek : GoodIn wsX4_best wsX2_seek := goodIn_r _ [101, 102, 103, 104, 105, 106, 107, 108, 21, 22, 23, 24, 25, 26, 27, 28, 29, 30, 109, 85, 86, 87, 110, 111, 112, 100, 113, 114, 115, 116, 32, 33, 34, 35, 36, 37, 38, 39, 40, 41, 42, 43, 44, 45, 46, 47, 48, 49, 50, 51, 52, 53, 54, 55, 56, 57, 58, 59, 60, 61, 62, 63, 64, 65, 66, 67, 68, 69, 70, 71, 72, 73, 74, 75, 76, 77, 78, 79, 117, 81, 82, 83, 118, 119, 120, 121, 122, 123, 124, 125, 126, 127, 128, 129, 130, 131, 132, 133, 134, 135, 136, 137, 138, 139, 140, 141, 142, 143, 144, 162, 163, 164, 165, 166, 167, 168, 169, 170, 171, 172, 173, 174] (by decide +kernel) (by decide +kernel)
set_option maxRecDepth 20000 in
theorem gX4_best_X2_seek : GoodIn wsX4_best (wsV RX4 156 RX2 yX2_seek wsX2_seek) := goodIn_app (goodIn_of _ (by decide +kernel)) ggX4_best_X2_seek
theorem dX4_best_0 : decode cX4_best 0 = .ok (.aload_n 0, 1) := by decide +kernel
theorem dX4_best_1 : decode cX4_best 1 = .ok (.iload_n 1, 1) := by decide +kernel
theorem dX4_best_2 : decode cX4_best 2 = .ok (.invokevirtual 84, 3) := by decide +kernel
theorem dX4_best_5 : decode cX4_best 5 = .ok (.ifCond .eq 15, 3) := by decide +kernel
theorem dX4_best_8 : decode cX4_best 8 = .ok (.iload_n 2, 1) := by decide +kernel
theorem dX4_best_9 : decode cX4_best 9 = .ok (.iconst 1, 1) := by decide +kernel
theorem dX4_best_10 : decode cX4_best 10 = .ok (.if_icmp .lt 10, 3) := by decide +kernel
theorem dX4_best_13 : decode cX4_best 13 = .ok (.iload_n 2, 1) := by decide +kernel
theorem dX4_best_14 : decode cX4_best 14 = .ok (.sipush 1000, 3) := by decide +kernel
theorem dX4_best_17 : decode cX4_best 17 = .ok (.if_icmp .le 7, 3) := by decide +kernel
theorem dX4_best_20 : decode cX4_best 20 = .ok (.ldc2_w 154, 3) := by decide +kernel
theorem dX4_best_23 : decode cX4_best 23 = .ok (.lreturn, 1) := by decide +kernel
theorem dX4_best_24 : decode cX4_best 24 = .ok (.iload_n 3, 1) := by decide +kernel
theorem dX4_best_25 : decode cX4_best 25 = .ok (.ifCond .eq 12, 3) := by decide +kernel
theorem dX4_best_28 : decode cX4_best 28 = .ok (.iload_n 3, 1) := by decide +kernel
theorem dX4_best_29 : decode cX4_best 29 = .ok (.iconst 1, 1) := by decide +kernel
theorem dX4_best_30 : decode cX4_best 30 = .ok (.if_icmp .eq 7, 3) := by decide +kernel
theorem dX4_best_33 : decode cX4_best 33 = .ok (.ldc2_w 154, 3) := by decide +kernel
theorem dX4_best_36 : decode cX4_best 36 = .ok (.lreturn, 1) := by decide +kernel
theorem dX4_best_37 : decode cX4_best 37 = .ok (.aload_n 0, 1) := by decide +kernel
theorem dX4_best_38 : decode cX4_best 38 = .ok (.aload_n 0, 1) := by decide +kernel
theorem dX4_best_39 : decode cX4_best 39 = .ok (.getfield 73, 3) := by decide +kernel
theorem dX4_best_42 : decode cX4_best 42 = .ok (.iload_n 1, 1) := by decide +kernel
theorem dX4_best_43 : decode cX4_best 43 = .ok (.aaload, 1) := by decide +kernel
theorem dX4_best_44 : decode cX4_best 44 = .ok (.invokevirtual 129, 3) := by decide +kernel
theorem dX4_best_47 : decode cX4_best 47 = .ok (.lstore 4, 2) := by decide +kernel
theorem dX4_best_49 : decode cX4_best 49 = .ok (.lload 4, 2) := by decide +kernel
theorem dX4_best_51 : decode cX4_best 51 = .ok (.invokestatic 133, 3) := by decide +kernel
theorem dX4_best_54 : decode cX4_best 54 = .ok (.ifCond .ne 7, 3) := by decide +kernel
theorem dX4_best_57 : decode cX4_best 57 = .ok (.ldc2_w 154, 3) := by decide +kernel
theorem dX4_best_60 : decode cX4_best 60 = .ok (.lreturn, 1) := by decide +kernel
theorem dX4_best_61 : decode cX4_best 61 = .ok (.aload_n 0, 1) := by decide +kernel
theorem dX4_best_62 : decode cX4_best 62 = .ok (.getfield 33, 3) := by decide +kernel
theorem dX4_best_65 : decode cX4_best 65 = .ok (.lload 4, 2) := by decide +kernel
theorem dX4_best_67 : decode cX4_best 67 = .ok (.aload_n 0, 1) := by decide +kernel
theorem dX4_best_68 : decode cX4_best 68 = .ok (.getfield 62, 3) := by decide +kernel
theorem dX4_best_71 : decode cX4_best 71 = .ok (.aload_n 0, 1) := by decide +kernel
theorem dX4_best_72 : decode cX4_best 72 = .ok (.getfield 73, 3) := by decide +kernel
theorem dX4_best_75 : decode cX4_best 75 = .ok (.iload_n 1, 1) := by decide +kernel
theorem dX4_best_76 : decode cX4_best 76 = .ok (.aaload, 1) := by decide +kernel
theorem dX4_best_77 : decode cX4_best 77 = .ok (.getfield 77, 3) := by decide +kernel
theorem dX4_best_80 : decode cX4_best 80 = .ok (.iload_n 2, 1) := by decide +kernel
theorem dX4_best_81 : decode cX4_best 81 = .ok (.invokevirtual 156, 3) := by decide +kernel
theorem dX4_best_84 : decode cX4_best 84 = .ok (.iload_n 3, 1) := by decide +kernel
theorem dX4_best_85 : decode cX4_best 85 = .ok (.ifCond .ne 13, 3) := by decide +kernel
theorem dX4_best_88 : decode cX4_best 88 = .ok (.aload_n 0, 1) := by decide +kernel
theorem dX4_best_89 : decode cX4_best 89 = .ok (.getfield 33, 3) := by decide +kernel
theorem dX4_best_92 : decode cX4_best 92 = .ok (.getfield 160, 3) := by decide +kernel
theorem dX4_best_95 : decode cX4_best 95 = .ok (.goto 10, 3) := by decide +kernel
theorem dX4_best_98 : decode cX4_best 98 = .ok (.aload_n 0, 1) := by decide +kernel
theorem dX4_best_99 : decode cX4_best 99 = .ok (.getfield 33, 3) := by decide +kernel
theorem dX4_best_102 : decode cX4_best 102 = .ok (.getfield 163, 3) := by decide +kernel
theorem dX4_best_105 : decode cX4_best 105 = .ok (.lreturn, 1) := by decide +kernel
theorem dX4_sizeOrOne_0 : decode cX4_sizeOrOne 0 = .ok (.iload_n 0, 1) := by decide +kernel
theorem dX4_sizeOrOne_1 : decode cX4_sizeOrOne 1 = .ok (.iconst 1, 1) := by decide +kernel
theorem dX4_sizeOrOne_2 : decode cX4_sizeOrOne 2 = .ok (.if_icmp .lt 12, 3) := by decide +kernel
theorem dX4_sizeOrOne_5 : decode cX4_sizeOrOne 5 = .ok (.iload_n 0, 1) := by decide +kernel
theorem dX4_sizeOrOne_6 : decode cX4_sizeOrOne 6 = .ok (.iload_n 1, 1) := by decide +kernel
theorem dX4_sizeOrOne_7 : decode cX4_sizeOrOne 7 = .ok (.if_icmp .gt 7, 3) := by decide +kernel
theorem dX4_sizeOrOne_10 : decode cX4_sizeOrOne 10 = .ok (.iload_n 0, 1) := by decide +kernel
theorem dX4_sizeOrOne_11 : decode cX4_sizeOrOne 11 = .ok (.goto 4, 3) := by decide +kernel
theorem dX4_sizeOrOne_14 : decode cX4_sizeOrOne 14 = .ok (.iconst 1, 1) := by decide +kernel
theorem dX4_sizeOrOne_15 : decode cX4_sizeOrOne 15 = .ok (.ireturn, 1) := by decide +kernel
theorem dX4_isInt_0 : decode cX4_isInt 0 = .ok (.lload_n 0, 1) := by decide +kernel
theorem dX4_isInt_1 : decode cX4_isInt 1 = .ok (.ldc2_w 145, 3) := by decide +kernel
theorem dX4_isInt_4 : decode cX4_isInt 4 = .ok (.lcmp, 1) := by decide +kernel
theorem dX4_isInt_5 : decode cX4_isInt 5 = .ok (.ifCond .lt 15, 3) := by decide +kernel
theorem dX4_isInt_8 : decode cX4_isInt 8 = .ok (.lload_n 0, 1) := by decide +kernel
theorem dX4_isInt_9 : decode cX4_isInt 9 = .ok (.ldc2_w 165, 3) := by decide +kernel
theorem dX4_isInt_12 : decode cX4_isInt 12 = .ok (.lcmp, 1) := by decide +kernel
theorem dX4_isInt_13 : decode cX4_isInt 13 = .ok (.ifCond .gt 7, 3) := by decide +kernel
theorem dX4_isInt_16 : decode cX4_isInt 16 = .ok (.iconst 1, 1) := by decide +kernel
theorem dX4_isInt_17 : decode cX4_isInt 17 = .ok (.goto 4, 3) := by decide +kernel
theorem dX4_isInt_20 : decode cX4_isInt 20 = .ok (.iconst 0, 1) := by decide +kernel
theorem dX4_isInt_21 : decode cX4_isInt 21 = .ok (.ireturn, 1) := by decide +kernel
theorem dX4_isRegister_0 : decode cX4_isRegister 0 = .ok (.iload_n 1, 1) := by decide +kernel
theorem dX4_isRegister_1 : decode cX4_isRegister 1 = .ok (.ifCond .lt 16, 3) := by decide +kernel
theorem dX4_isRegister_4 : decode cX4_isRegister 4 = .ok (.iload_n 1, 1) := by decide +kernel
theorem dX4_isRegister_5 : decode cX4_isRegister 5 = .ok (.aload_n 0, 1) := by decide +kernel
theorem dX4_isRegister_6 : decode cX4_isRegister 6 = .ok (.getfield 73, 3) := by decide +kernel
theorem dX4_isRegister_9 : decode cX4_isRegister 9 = .ok (.arraylength, 1) := by decide +kernel
theorem dX4_isRegister_10 : decode cX4_isRegister 10 = .ok (.if_icmp .ge 7, 3) := by decide +kernel
theorem dX4_isRegister_13 : decode cX4_isRegister 13 = .ok (.iconst 1, 1) := by decide +kernel
theorem dX4_isRegister_14 : decode cX4_isRegister 14 = .ok (.goto 4, 3) := by decide +kernel
theorem dX4_isRegister_17 : decode cX4_isRegister 17 = .ok (.iconst 0, 1) := by decide +kernel
theorem dX4_isRegister_18 : decode cX4_isRegister 18 = .ok (.ireturn, 1) := by decide +kernel
set_option maxRecDepth 20000 in
theorem ggX4_areRegisters_X4_isRegister : GoodIn wsX4_areRegisters wsX4_isRegister := goodIn_r _ [5, 6, 7, 8, 9, 10, 11, 12, 13, 14, 15, 16, 17, 18, 19, 20] (by decide +kernel) (by decide +kernel)
set_option maxRecDepth 20000 in
theorem gX4_areRegisters_X4_isRegister : GoodIn wsX4_areRegisters (wsV RX4 84 RX4 yX4_isRegister wsX4_isRegister) := goodIn_app (goodIn_of _ (by decide +kernel)) ggX4_areRegisters_X4_isRegister
theorem dX4_areRegisters_0 : decode cX4_areRegisters 0 = .ok (.aload_n 0, 1) := by decide +kernel
theorem dX4_areRegisters_1 : decode cX4_areRegisters 1 = .ok (.iload_n 1, 1) := by decide +kernel
theorem dX4_areRegisters_2 : decode cX4_areRegisters 2 = .ok (.invokevirtual 84, 3) := by decide +kernel
theorem dX4_areRegisters_5 : decode cX4_areRegisters 5 = .ok (.ifCond .eq 23, 3) := by decide +kernel
theorem dX4_areRegisters_8 : decode cX4_areRegisters 8 = .ok (.aload_n 0, 1) := by decide +kernel
theorem dX4_areRegisters_9 : decode cX4_areRegisters 9 = .ok (.iload_n 2, 1) := by decide +kernel
theorem dX4_areRegisters_10 : decode cX4_areRegisters 10 = .ok (.invokevirtual 84, 3) := by decide +kernel
theorem dX4_areRegisters_13 : decode cX4_areRegisters 13 = .ok (.ifCond .eq 15, 3) := by decide +kernel
theorem dX4_areRegisters_16 : decode cX4_areRegisters 16 = .ok (.aload_n 0, 1) := by decide +kernel
theorem dX4_areRegisters_17 : decode cX4_areRegisters 17 = .ok (.iload_n 3, 1) := by decide +kernel
theorem dX4_areRegisters_18 : decode cX4_areRegisters 18 = .ok (.invokevirtual 84, 3) := by decide +kernel
theorem dX4_areRegisters_21 : decode cX4_areRegisters 21 = .ok (.ifCond .eq 7, 3) := by decide +kernel
theorem dX4_areRegisters_24 : decode cX4_areRegisters 24 = .ok (.iconst 1, 1) := by decide +kernel
theorem dX4_areRegisters_25 : decode cX4_areRegisters 25 = .ok (.goto 4, 3) := by decide +kernel
theorem dX4_areRegisters_28 : decode cX4_areRegisters 28 = .ok (.iconst 0, 1) := by decide +kernel
theorem dX4_areRegisters_29 : decode cX4_areRegisters 29 = .ok (.ireturn, 1) := by decide +kernel
set_option maxRecDepth 20000 in
theorem ggX4_keepResult_X0_become : GoodIn wsX4_keepResult wsX0_become := goodIn_r _ [11, 12, 13, 14, 15, 16, 17, 18, 19, 20, 21, 22, 23, 24, 25, 40, 41, 42, 43, 44] (by decide +kernel) (by decide +kernel)
set_option maxRecDepth 20000 in
theorem gX4_keepResult_X0_become : GoodIn wsX4_keepResult (wsV RX4 137 RX0 yX0_become wsX0_become) := goodIn_app (goodIn_of _ (by decide +kernel)) ggX4_keepResult_X0_become
theorem dX4_keepResult_0 : decode cX4_keepResult 0 = .ok (.aload_n 0, 1) := by decide +kernel
theorem dX4_keepResult_1 : decode cX4_keepResult 1 = .ok (.getfield 20, 3) := by decide +kernel
theorem dX4_keepResult_4 : decode cX4_keepResult 4 = .ok (.getfield 88, 3) := by decide +kernel
theorem dX4_keepResult_7 : decode cX4_keepResult 7 = .ok (.getfield 167, 3) := by decide +kernel
theorem dX4_keepResult_10 : decode cX4_keepResult 10 = .ok (.aload_n 0, 1) := by decide +kernel
theorem dX4_keepResult_11 : decode cX4_keepResult 11 = .ok (.getfield 69, 3) := by decide +kernel
theorem dX4_keepResult_14 : decode cX4_keepResult 14 = .ok (.if_icmp .gt 20, 3) := by decide +kernel
theorem dX4_keepResult_17 : decode cX4_keepResult 17 = .ok (.aload_n 0, 1) := by decide +kernel
theorem dX4_keepResult_18 : decode cX4_keepResult 18 = .ok (.getfield 20, 3) := by decide +kernel
theorem dX4_keepResult_21 : decode cX4_keepResult 21 = .ok (.getfield 77, 3) := by decide +kernel
theorem dX4_keepResult_24 : decode cX4_keepResult 24 = .ok (.getfield 167, 3) := by decide +kernel
theorem dX4_keepResult_27 : decode cX4_keepResult 27 = .ok (.aload_n 0, 1) := by decide +kernel
theorem dX4_keepResult_28 : decode cX4_keepResult 28 = .ok (.getfield 69, 3) := by decide +kernel
theorem dX4_keepResult_31 : decode cX4_keepResult 31 = .ok (.if_icmp .le 5, 3) := by decide +kernel
theorem dX4_keepResult_34 : decode cX4_keepResult 34 = .ok (.iconst 1, 1) := by decide +kernel
theorem dX4_keepResult_35 : decode cX4_keepResult 35 = .ok (.ireturn, 1) := by decide +kernel
theorem dX4_keepResult_36 : decode cX4_keepResult 36 = .ok (.aload_n 0, 1) := by decide +kernel
theorem dX4_keepResult_37 : decode cX4_keepResult 37 = .ok (.getfield 73, 3) := by decide +kernel
theorem dX4_keepResult_40 : decode cX4_keepResult 40 = .ok (.iload_n 1, 1) := by decide +kernel
theorem dX4_keepResult_41 : decode cX4_keepResult 41 = .ok (.aaload, 1) := by decide +kernel
theorem dX4_keepResult_42 : decode cX4_keepResult 42 = .ok (.aload_n 0, 1) := by decide +kernel
theorem dX4_keepResult_43 : decode cX4_keepResult 43 = .ok (.getfield 20, 3) := by decide +kernel
theorem dX4_keepResult_46 : decode cX4_keepResult 46 = .ok (.invokevirtual 137, 3) := by decide +kernel
theorem dX4_keepResult_49 : decode cX4_keepResult 49 = .ok (.iconst 0, 1) := by decide +kernel
theorem dX4_keepResult_50 : decode cX4_keepResult 50 = .ok (.ireturn, 1) := by decide +kernel
set_option maxRecDepth 20000 in
theorem ggX4_addUp_X1_become_ : GoodIn wsX4_addUp wsX1_become_ := goodIn_r _ [17, 18, 19, 20, 21, 22, 23, 132, 133] (by decide +kernel) (by decide +kernel)
set_option maxRecDepth 20000 in
theorem gX4_addUp_X1_become_ : GoodIn wsX4_addUp (wsV RX4 147 RX1 yX1_become_ wsX1_become_) := goodIn_app (goodIn_of _ (by decide +kernel)) ggX4_addUp_X1_become_
set_option maxRecDepth 20000 in
theorem ggX4_addUp_X3_reduce : GoodIn wsX4_addUp wsX3_reduce := goodIn_r _ [28, 29, 30, 31, 32, 33, 14, 15, 16, 17, 18, 19, 20, 21, 22, 23, 34, 35, 36, 37, 38, 39, 40, 41, 42, 43, 44, 45, 46, 47, 48, 49, 50, 51, 52, 53, 54, 55, 56, 57, 58, 59, 60, 61, 62, 63, 64, 65, 66, 67, 68, 69, 70, 71, 72, 73, 74, 75, 76, 77, 78, 79, 80, 81, 82, 83, 84, 85, 86, 87, 88, 89, 90, 129, 130, 131, 132, 133] (by decide +kernel) (by decide +kernel)
set_option maxRecDepth 20000 in
theorem gX4_addUp_X3_reduce : GoodIn wsX4_addUp (wsV RX4 103 RX3 yX3_reduce wsX3_reduce) := goodIn_app (goodIn_of _ (by decide +kernel)) ggX4_addUp_X3_reduce
set_option maxRecDepth 20000 in
theorem ggX4_addUp_X1_becomeProduct : GoodIn wsX4_addUp wsX1_becomeProduct := goodIn_r _ [94, 18, 42, 43, 44, 16, 45, 23, 56, 57, 58, 59, 55, 79, 80, 81, 82, 76, 77, 21, 78, 83, 84, 85, 86, 132, 133] (by decide +kernel) (by decide +kernel)
set_option maxRecDepth 20000 in
theorem gX4_addUp_X1_becomeProduct : GoodIn wsX4_addUp (wsV RX4 122 RX1 yX1_becomeProduct wsX1_becomeProduct) := goodIn_app (goodIn_of _ (by decide +kernel)) ggX4_addUp_X1_becomeProduct
set_option maxRecDepth 20000 in
theorem ggX4_addUp_X4_addUpperNumbers : GoodIn wsX4_addUp wsX4_addUpperNumbers := goodIn_r _ [99, 11, 8, 7, 9, 10, 100, 101, 102, 16, 103, 23, 56, 57, 58, 59, 55, 83, 84, 85, 86, 18, 104, 105, 106, 107, 108, 109, 110, 111, 112, 113, 114, 115, 116, 117, 118, 119, 120, 121, 122, 123, 124, 125, 126, 127, 128, 132, 133] (by decide +kernel) (by decide +kernel)
set_option maxRecDepth 20000 in
theorem gX4_addUp_X4_addUpperNumbers : GoodIn wsX4_addUp (wsV RX4 173 RX4 yX4_addUpperNumbers wsX4_addUpperNumbers) := goodIn_app (goodIn_of _ (by decide +kernel)) ggX4_addUp_X4_addUpperNumbers
theorem dX4_addUp_0 : decode cX4_addUp 0 = .ok (.aload_n 0, 1) := by decide +kernel
theorem dX4_addUp_1 : decode cX4_addUp 1 = .ok (.getfield 44, 3) := by decide +kernel
theorem dX4_addUp_4 : decode cX4_addUp 4 = .ok (.aload_n 1, 1) := by decide +kernel
theorem dX4_addUp_5 : decode cX4_addUp 5 = .ok (.getfield 77, 3) := by decide +kernel
theorem dX4_addUp_8 : decode cX4_addUp 8 = .ok (.invokevirtual 147, 3) := by decide +kernel
theorem dX4_addUp_11 : decode cX4_addUp 11 = .ok (.aload_n 0, 1) := by decide +kernel
theorem dX4_addUp_12 : decode cX4_addUp 12 = .ok (.getfield 50, 3) := by decide +kernel
theorem dX4_addUp_15 : decode cX4_addUp 15 = .ok (.aload_n 2, 1) := by decide +kernel
theorem dX4_addUp_16 : decode cX4_addUp 16 = .ok (.getfield 77, 3) := by decide +kernel
theorem dX4_addUp_19 : decode cX4_addUp 19 = .ok (.invokevirtual 147, 3) := by decide +kernel
theorem dX4_addUp_22 : decode cX4_addUp 22 = .ok (.aload_n 0, 1) := by decide +kernel
theorem dX4_addUp_23 : decode cX4_addUp 23 = .ok (.getfield 26, 3) := by decide +kernel
theorem dX4_addUp_26 : decode cX4_addUp 26 = .ok (.aload_n 0, 1) := by decide +kernel
theorem dX4_addUp_27 : decode cX4_addUp 27 = .ok (.getfield 44, 3) := by decide +kernel
theorem dX4_addUp_30 : decode cX4_addUp 30 = .ok (.aload_n 0, 1) := by decide +kernel
theorem dX4_addUp_31 : decode cX4_addUp 31 = .ok (.getfield 50, 3) := by decide +kernel
theorem dX4_addUp_34 : decode cX4_addUp 34 = .ok (.invokevirtual 103, 3) := by decide +kernel
theorem dX4_addUp_37 : decode cX4_addUp 37 = .ok (.aload_n 0, 1) := by decide +kernel
theorem dX4_addUp_38 : decode cX4_addUp 38 = .ok (.getfield 53, 3) := by decide +kernel
theorem dX4_addUp_41 : decode cX4_addUp 41 = .ok (.aload_n 0, 1) := by decide +kernel
theorem dX4_addUp_42 : decode cX4_addUp 42 = .ok (.getfield 26, 3) := by decide +kernel
theorem dX4_addUp_45 : decode cX4_addUp 45 = .ok (.getfield 170, 3) := by decide +kernel
theorem dX4_addUp_48 : decode cX4_addUp 48 = .ok (.invokevirtual 147, 3) := by decide +kernel
theorem dX4_addUp_51 : decode cX4_addUp 51 = .ok (.aload_n 0, 1) := by decide +kernel
theorem dX4_addUp_52 : decode cX4_addUp 52 = .ok (.getfield 40, 3) := by decide +kernel
theorem dX4_addUp_55 : decode cX4_addUp 55 = .ok (.aload_n 1, 1) := by decide +kernel
theorem dX4_addUp_56 : decode cX4_addUp 56 = .ok (.getfield 88, 3) := by decide +kernel
theorem dX4_addUp_59 : decode cX4_addUp 59 = .ok (.aload_n 0, 1) := by decide +kernel
theorem dX4_addUp_60 : decode cX4_addUp 60 = .ok (.getfield 50, 3) := by decide +kernel
theorem dX4_addUp_63 : decode cX4_addUp 63 = .ok (.invokevirtual 122, 3) := by decide +kernel
theorem dX4_addUp_66 : decode cX4_addUp 66 = .ok (.aload_n 0, 1) := by decide +kernel
theorem dX4_addUp_67 : decode cX4_addUp 67 = .ok (.getfield 47, 3) := by decide +kernel
theorem dX4_addUp_70 : decode cX4_addUp 70 = .ok (.aload_n 2, 1) := by decide +kernel
theorem dX4_addUp_71 : decode cX4_addUp 71 = .ok (.getfield 88, 3) := by decide +kernel
theorem dX4_addUp_74 : decode cX4_addUp 74 = .ok (.aload_n 0, 1) := by decide +kernel
theorem dX4_addUp_75 : decode cX4_addUp 75 = .ok (.getfield 44, 3) := by decide +kernel
theorem dX4_addUp_78 : decode cX4_addUp 78 = .ok (.invokevirtual 122, 3) := by decide +kernel
theorem dX4_addUp_81 : decode cX4_addUp 81 = .ok (.aload_n 0, 1) := by decide +kernel
theorem dX4_addUp_82 : decode cX4_addUp 82 = .ok (.aload_n 1, 1) := by decide +kernel
theorem dX4_addUp_83 : decode cX4_addUp 83 = .ok (.getfield 101, 3) := by decide +kernel
theorem dX4_addUp_86 : decode cX4_addUp 86 = .ok (.iload_n 3, 1) := by decide +kernel
theorem dX4_addUp_87 : decode cX4_addUp 87 = .ok (.invokevirtual 173, 3) := by decide +kernel
theorem dX4_addUp_90 : decode cX4_addUp 90 = .ok (.aload_n 0, 1) := by decide +kernel
theorem dX4_addUp_91 : decode cX4_addUp 91 = .ok (.getfield 26, 3) := by decide +kernel
theorem dX4_addUp_94 : decode cX4_addUp 94 = .ok (.aload_n 0, 1) := by decide +kernel
theorem dX4_addUp_95 : decode cX4_addUp 95 = .ok (.getfield 20, 3) := by decide +kernel
theorem dX4_addUp_98 : decode cX4_addUp 98 = .ok (.getfield 88, 3) := by decide +kernel
theorem dX4_addUp_101 : decode cX4_addUp 101 = .ok (.aload_n 0, 1) := by decide +kernel
theorem dX4_addUp_102 : decode cX4_addUp 102 = .ok (.getfield 53, 3) := by decide +kernel
theorem dX4_addUp_105 : decode cX4_addUp 105 = .ok (.invokevirtual 103, 3) := by decide +kernel
theorem dX4_addUp_108 : decode cX4_addUp 108 = .ok (.aload_n 0, 1) := by decide +kernel
theorem dX4_addUp_109 : decode cX4_addUp 109 = .ok (.getfield 56, 3) := by decide +kernel
theorem dX4_addUp_112 : decode cX4_addUp 112 = .ok (.aload_n 0, 1) := by decide +kernel
theorem dX4_addUp_113 : decode cX4_addUp 113 = .ok (.getfield 44, 3) := by decide +kernel
theorem dX4_addUp_116 : decode cX4_addUp 116 = .ok (.aload_n 0, 1) := by decide +kernel
theorem dX4_addUp_117 : decode cX4_addUp 117 = .ok (.getfield 50, 3) := by decide +kernel
theorem dX4_addUp_120 : decode cX4_addUp 120 = .ok (.invokevirtual 122, 3) := by decide +kernel
theorem dX4_addUp_123 : decode cX4_addUp 123 = .ok (.aload_n 0, 1) := by decide +kernel
theorem dX4_addUp_124 : decode cX4_addUp 124 = .ok (.getfield 20, 3) := by decide +kernel
theorem dX4_addUp_127 : decode cX4_addUp 127 = .ok (.getfield 77, 3) := by decide +kernel
theorem dX4_addUp_130 : decode cX4_addUp 130 = .ok (.aload_n 0, 1) := by decide +kernel
theorem dX4_addUp_131 : decode cX4_addUp 131 = .ok (.getfield 56, 3) := by decide +kernel
theorem dX4_addUp_134 : decode cX4_addUp 134 = .ok (.aload_n 0, 1) := by decide +kernel
theorem dX4_addUp_135 : decode cX4_addUp 135 = .ok (.getfield 53, 3) := by decide +kernel
theorem dX4_addUp_138 : decode cX4_addUp 138 = .ok (.invokevirtual 122, 3) := by decide +kernel
theorem dX4_addUp_141 : decode cX4_addUp 141 = .ok (.return_, 1) := by decide +kernel
set_option maxRecDepth 20000 in
theorem ggX4_addUpperNumbers_X1_becomeSum : GoodIn wsX4_addUpperNumbers wsX1_becomeSum := goodIn_r _ [10, 11, 12, 13, 14, 9, 15, 16, 17, 18, 19, 20, 21, 47, 48] (by decide +kernel) (by decide +kernel)
set_option maxRecDepth 20000 in
theorem gX4_addUpperNumbers_X1_becomeSum : GoodIn wsX4_addUpperNumbers (wsV RX4 177 RX1 yX1_becomeSum wsX1_becomeSum) := goodIn_app (goodIn_of _ (by decide +kernel)) ggX4_addUpperNumbers_X1_becomeSum
set_option maxRecDepth 20000 in
theorem ggX4_addUpperNumbers_X1_compareWith : GoodIn wsX4_addUpperNumbers wsX1_compareWith := goodIn_r _ [25, 21, 11, 12, 13, 14, 9, 15, 16, 47, 48] (by decide +kernel) (by decide +kernel)
set_option maxRecDepth 20000 in
theorem gX4_addUpperNumbers_X1_compareWith : GoodIn wsX4_addUpperNumbers (wsV RX4 125 RX1 yX1_compareWith wsX1_compareWith) := goodIn_app (goodIn_of _ (by decide +kernel)) ggX4_addUpperNumbers_X1_compareWith
set_option maxRecDepth 20000 in
theorem ggX4_addUpperNumbers_X1_becomeDifference : GoodIn wsX4_addUpperNumbers wsX1_becomeDifference := goodIn_r _ [29, 11, 12, 13, 14, 9, 15, 16, 17, 18, 19, 20, 21, 47, 48] (by decide +kernel) (by decide +kernel)
set_option maxRecDepth 20000 in
theorem gX4_addUpperNumbers_X1_becomeDifference : GoodIn wsX4_addUpperNumbers (wsV RX4 180 RX1 yX1_becomeDifference wsX1_becomeDifference) := goodIn_app (goodIn_of _ (by decide +kernel)) ggX4_addUpperNumbers_X1_becomeDifference
theorem dX4_addUpperNumbers_0 : decode cX4_addUpperNumbers 0 = .ok (.iload_n 1, 1) := by decide +kernel
theorem dX4_addUpperNumbers_1 : decode cX4_addUpperNumbers 1 = .ok (.iload_n 2, 1) := by decide +kernel
theorem dX4_addUpperNumbers_2 : decode cX4_addUpperNumbers 2 = .ok (.imul, 1) := by decide +kernel
theorem dX4_addUpperNumbers_3 : decode cX4_addUpperNumbers 3 = .ok (.ifCond .lt 38, 3) := by decide +kernel
theorem dX4_addUpperNumbers_6 : decode cX4_addUpperNumbers 6 = .ok (.aload_n 0, 1) := by decide +kernel
theorem dX4_addUpperNumbers_7 : decode cX4_addUpperNumbers 7 = .ok (.getfield 20, 3) := by decide +kernel
theorem dX4_addUpperNumbers_10 : decode cX4_addUpperNumbers 10 = .ok (.getfield 88, 3) := by decide +kernel
theorem dX4_addUpperNumbers_13 : decode cX4_addUpperNumbers 13 = .ok (.aload_n 0, 1) := by decide +kernel
