theorem dX4_addUpperNumbers_14 : decode cX4_addUpperNumbers 14 = .ok (.getfield 40, 3) := by decide +kernel
theorem dX4_addUpperNumbers_17 : decode cX4_addUpperNumbers 17 = .ok (.aload_n 0, 1) := by decide +kernel
theorem dX4_addUpperNumbers_18 : decode cX4_addUpperNumbers 18 = .ok (.getfield 47, 3) := by decide +kernel
theorem dX4_addUpperNumbers_21 : decode cX4_addUpperNumbers 21 = .ok (.invokevirtual 177, 3) := by decide +kernel
theorem dX4_addUpperNumbers_24 : decode cX4_addUpperNumbers 24 = .ok (.aload_n 0, 1) := by decide +kernel
theorem dX4_addUpperNumbers_25 : decode cX4_addUpperNumbers 25 = .ok (.getfield 20, 3) := by decide +kernel
theorem dX4_addUpperNumbers_28 : decode cX4_addUpperNumbers 28 = .ok (.iload_n 1, 1) := by decide +kernel
theorem dX4_addUpperNumbers_29 : decode cX4_addUpperNumbers 29 = .ok (.ifCond .eq 7, 3) := by decide +kernel
theorem dX4_addUpperNumbers_32 : decode cX4_addUpperNumbers 32 = .ok (.iload_n 1, 1) := by decide +kernel
theorem dX4_addUpperNumbers_33 : decode cX4_addUpperNumbers 33 = .ok (.goto 4, 3) := by decide +kernel
theorem dX4_addUpperNumbers_36 : decode cX4_addUpperNumbers 36 = .ok (.iload_n 2, 1) := by decide +kernel
theorem dX4_addUpperNumbers_37 : decode cX4_addUpperNumbers 37 = .ok (.putfield 101, 3) := by decide +kernel
theorem dX4_addUpperNumbers_40 : decode cX4_addUpperNumbers 40 = .ok (.return_, 1) := by decide +kernel
theorem dX4_addUpperNumbers_41 : decode cX4_addUpperNumbers 41 = .ok (.aload_n 0, 1) := by decide +kernel
theorem dX4_addUpperNumbers_42 : decode cX4_addUpperNumbers 42 = .ok (.getfield 40, 3) := by decide +kernel
theorem dX4_addUpperNumbers_45 : decode cX4_addUpperNumbers 45 = .ok (.aload_n 0, 1) := by decide +kernel
theorem dX4_addUpperNumbers_46 : decode cX4_addUpperNumbers 46 = .ok (.getfield 47, 3) := by decide +kernel
theorem dX4_addUpperNumbers_49 : decode cX4_addUpperNumbers 49 = .ok (.invokevirtual 125, 3) := by decide +kernel
theorem dX4_addUpperNumbers_52 : decode cX4_addUpperNumbers 52 = .ok (.istore_n 3, 1) := by decide +kernel
theorem dX4_addUpperNumbers_53 : decode cX4_addUpperNumbers 53 = .ok (.iload_n 3, 1) := by decide +kernel
theorem dX4_addUpperNumbers_54 : decode cX4_addUpperNumbers 54 = .ok (.ifCond .lt 24, 3) := by decide +kernel
theorem dX4_addUpperNumbers_57 : decode cX4_addUpperNumbers 57 = .ok (.aload_n 0, 1) := by decide +kernel
theorem dX4_addUpperNumbers_58 : decode cX4_addUpperNumbers 58 = .ok (.getfield 20, 3) := by decide +kernel
theorem dX4_addUpperNumbers_61 : decode cX4_addUpperNumbers 61 = .ok (.getfield 88, 3) := by decide +kernel
theorem dX4_addUpperNumbers_64 : decode cX4_addUpperNumbers 64 = .ok (.aload_n 0, 1) := by decide +kernel
theorem dX4_addUpperNumbers_65 : decode cX4_addUpperNumbers 65 = .ok (.getfield 40, 3) := by decide +kernel
theorem dX4_addUpperNumbers_68 : decode cX4_addUpperNumbers 68 = .ok (.aload_n 0, 1) := by decide +kernel
theorem dX4_addUpperNumbers_69 : decode cX4_addUpperNumbers 69 = .ok (.getfield 47, 3) := by decide +kernel
theorem dX4_addUpperNumbers_72 : decode cX4_addUpperNumbers 72 = .ok (.invokevirtual 180, 3) := by decide +kernel
theorem dX4_addUpperNumbers_75 : decode cX4_addUpperNumbers 75 = .ok (.goto 21, 3) := by decide +kernel
theorem dX4_addUpperNumbers_78 : decode cX4_addUpperNumbers 78 = .ok (.aload_n 0, 1) := by decide +kernel
theorem dX4_addUpperNumbers_79 : decode cX4_addUpperNumbers 79 = .ok (.getfield 20, 3) := by decide +kernel
theorem dX4_addUpperNumbers_82 : decode cX4_addUpperNumbers 82 = .ok (.getfield 88, 3) := by decide +kernel
theorem dX4_addUpperNumbers_85 : decode cX4_addUpperNumbers 85 = .ok (.aload_n 0, 1) := by decide +kernel
theorem dX4_addUpperNumbers_86 : decode cX4_addUpperNumbers 86 = .ok (.getfield 47, 3) := by decide +kernel
theorem dX4_addUpperNumbers_89 : decode cX4_addUpperNumbers 89 = .ok (.aload_n 0, 1) := by decide +kernel
theorem dX4_addUpperNumbers_90 : decode cX4_addUpperNumbers 90 = .ok (.getfield 40, 3) := by decide +kernel
theorem dX4_addUpperNumbers_93 : decode cX4_addUpperNumbers 93 = .ok (.invokevirtual 180, 3) := by decide +kernel
theorem dX4_addUpperNumbers_96 : decode cX4_addUpperNumbers 96 = .ok (.aload_n 0, 1) := by decide +kernel
theorem dX4_addUpperNumbers_97 : decode cX4_addUpperNumbers 97 = .ok (.getfield 20, 3) := by decide +kernel
theorem dX4_addUpperNumbers_100 : decode cX4_addUpperNumbers 100 = .ok (.iload_n 1, 1) := by decide +kernel
theorem dX4_addUpperNumbers_101 : decode cX4_addUpperNumbers 101 = .ok (.iload_n 3, 1) := by decide +kernel
theorem dX4_addUpperNumbers_102 : decode cX4_addUpperNumbers 102 = .ok (.imul, 1) := by decide +kernel
theorem dX4_addUpperNumbers_103 : decode cX4_addUpperNumbers 103 = .ok (.putfield 101, 3) := by decide +kernel
theorem dX4_addUpperNumbers_106 : decode cX4_addUpperNumbers 106 = .ok (.return_, 1) := by decide +kernel
set_option maxRecDepth 20000 in
theorem ggX4_multiply_X1_become_ : GoodIn wsX4_multiply wsX1_become_ := goodIn_r _ [14, 15, 16, 17, 18, 19, 20, 109, 110] (by decide +kernel) (by decide +kernel)
set_option maxRecDepth 20000 in
theorem gX4_multiply_X1_become_ : GoodIn wsX4_multiply (wsV RX4 147 RX1 yX1_become_ wsX1_become_) := goodIn_app (goodIn_of _ (by decide +kernel)) ggX4_multiply_X1_become_
set_option maxRecDepth 20000 in
theorem ggX4_multiply_X3_reduce : GoodIn wsX4_multiply wsX3_reduce := goodIn_r _ [25, 26, 27, 28, 29, 30, 11, 12, 13, 14, 15, 16, 17, 18, 19, 20, 31, 32, 33, 34, 35, 36, 37, 38, 39, 40, 41, 42, 43, 44, 45, 46, 47, 48, 49, 50, 51, 52, 53, 54, 55, 56, 57, 58, 59, 60, 61, 62, 63, 64, 65, 66, 67, 68, 69, 70, 71, 72, 73, 74, 75, 76, 77, 78, 79, 80, 81, 82, 83, 84, 85, 86, 87, 111, 112, 113, 109, 110] (by decide +kernel) (by decide +kernel)
set_option maxRecDepth 20000 in
theorem gX4_multiply_X3_reduce : GoodIn wsX4_multiply (wsV RX4 103 RX3 yX3_reduce wsX3_reduce) := goodIn_app (goodIn_of _ (by decide +kernel)) ggX4_multiply_X3_reduce
set_option maxRecDepth 20000 in
theorem ggX4_multiply_X1_becomeProduct : GoodIn wsX4_multiply wsX1_becomeProduct := goodIn_r _ [91, 15, 39, 40, 41, 13, 42, 20, 53, 54, 55, 56, 52, 76, 77, 78, 79, 73, 74, 18, 75, 80, 81, 82, 83, 109, 110] (by decide +kernel) (by decide +kernel)
set_option maxRecDepth 20000 in
theorem gX4_multiply_X1_becomeProduct : GoodIn wsX4_multiply (wsV RX4 122 RX1 yX1_becomeProduct wsX1_becomeProduct) := goodIn_app (goodIn_of _ (by decide +kernel)) ggX4_multiply_X1_becomeProduct
theorem dX4_multiply_0 : decode cX4_multiply 0 = .ok (.aload_n 0, 1) := by decide +kernel
theorem dX4_multiply_1 : decode cX4_multiply 1 = .ok (.getfield 40, 3) := by decide +kernel
theorem dX4_multiply_4 : decode cX4_multiply 4 = .ok (.aload_n 1, 1) := by decide +kernel
theorem dX4_multiply_5 : decode cX4_multiply 5 = .ok (.getfield 88, 3) := by decide +kernel
theorem dX4_multiply_8 : decode cX4_multiply 8 = .ok (.invokevirtual 147, 3) := by decide +kernel
theorem dX4_multiply_11 : decode cX4_multiply 11 = .ok (.aload_n 0, 1) := by decide +kernel
theorem dX4_multiply_12 : decode cX4_multiply 12 = .ok (.getfield 50, 3) := by decide +kernel
theorem dX4_multiply_15 : decode cX4_multiply 15 = .ok (.aload 4, 2) := by decide +kernel
theorem dX4_multiply_17 : decode cX4_multiply 17 = .ok (.invokevirtual 147, 3) := by decide +kernel
theorem dX4_multiply_20 : decode cX4_multiply 20 = .ok (.aload_n 0, 1) := by decide +kernel
theorem dX4_multiply_21 : decode cX4_multiply 21 = .ok (.getfield 26, 3) := by decide +kernel
theorem dX4_multiply_24 : decode cX4_multiply 24 = .ok (.aload_n 0, 1) := by decide +kernel
theorem dX4_multiply_25 : decode cX4_multiply 25 = .ok (.getfield 40, 3) := by decide +kernel
theorem dX4_multiply_28 : decode cX4_multiply 28 = .ok (.aload_n 0, 1) := by decide +kernel
theorem dX4_multiply_29 : decode cX4_multiply 29 = .ok (.getfield 50, 3) := by decide +kernel
theorem dX4_multiply_32 : decode cX4_multiply 32 = .ok (.invokevirtual 103, 3) := by decide +kernel
theorem dX4_multiply_35 : decode cX4_multiply 35 = .ok (.aload_n 0, 1) := by decide +kernel
theorem dX4_multiply_36 : decode cX4_multiply 36 = .ok (.getfield 47, 3) := by decide +kernel
theorem dX4_multiply_39 : decode cX4_multiply 39 = .ok (.aload_n 3, 1) := by decide +kernel
theorem dX4_multiply_40 : decode cX4_multiply 40 = .ok (.invokevirtual 147, 3) := by decide +kernel
theorem dX4_multiply_43 : decode cX4_multiply 43 = .ok (.aload_n 0, 1) := by decide +kernel
theorem dX4_multiply_44 : decode cX4_multiply 44 = .ok (.getfield 44, 3) := by decide +kernel
theorem dX4_multiply_47 : decode cX4_multiply 47 = .ok (.aload_n 1, 1) := by decide +kernel
theorem dX4_multiply_48 : decode cX4_multiply 48 = .ok (.getfield 77, 3) := by decide +kernel
theorem dX4_multiply_51 : decode cX4_multiply 51 = .ok (.invokevirtual 147, 3) := by decide +kernel
theorem dX4_multiply_54 : decode cX4_multiply 54 = .ok (.aload_n 0, 1) := by decide +kernel
theorem dX4_multiply_55 : decode cX4_multiply 55 = .ok (.getfield 26, 3) := by decide +kernel
theorem dX4_multiply_58 : decode cX4_multiply 58 = .ok (.aload_n 0, 1) := by decide +kernel
theorem dX4_multiply_59 : decode cX4_multiply 59 = .ok (.getfield 47, 3) := by decide +kernel
theorem dX4_multiply_62 : decode cX4_multiply 62 = .ok (.aload_n 0, 1) := by decide +kernel
theorem dX4_multiply_63 : decode cX4_multiply 63 = .ok (.getfield 44, 3) := by decide +kernel
theorem dX4_multiply_66 : decode cX4_multiply 66 = .ok (.invokevirtual 103, 3) := by decide +kernel
theorem dX4_multiply_69 : decode cX4_multiply 69 = .ok (.aload_n 0, 1) := by decide +kernel
theorem dX4_multiply_70 : decode cX4_multiply 70 = .ok (.getfield 20, 3) := by decide +kernel
theorem dX4_multiply_73 : decode cX4_multiply 73 = .ok (.getfield 88, 3) := by decide +kernel
theorem dX4_multiply_76 : decode cX4_multiply 76 = .ok (.aload_n 0, 1) := by decide +kernel
theorem dX4_multiply_77 : decode cX4_multiply 77 = .ok (.getfield 40, 3) := by decide +kernel
theorem dX4_multiply_80 : decode cX4_multiply 80 = .ok (.aload_n 0, 1) := by decide +kernel
theorem dX4_multiply_81 : decode cX4_multiply 81 = .ok (.getfield 47, 3) := by decide +kernel
theorem dX4_multiply_84 : decode cX4_multiply 84 = .ok (.invokevirtual 122, 3) := by decide +kernel
theorem dX4_multiply_87 : decode cX4_multiply 87 = .ok (.aload_n 0, 1) := by decide +kernel
theorem dX4_multiply_88 : decode cX4_multiply 88 = .ok (.getfield 20, 3) := by decide +kernel
theorem dX4_multiply_91 : decode cX4_multiply 91 = .ok (.getfield 77, 3) := by decide +kernel
theorem dX4_multiply_94 : decode cX4_multiply 94 = .ok (.aload_n 0, 1) := by decide +kernel
theorem dX4_multiply_95 : decode cX4_multiply 95 = .ok (.getfield 44, 3) := by decide +kernel
theorem dX4_multiply_98 : decode cX4_multiply 98 = .ok (.aload_n 0, 1) := by decide +kernel
theorem dX4_multiply_99 : decode cX4_multiply 99 = .ok (.getfield 50, 3) := by decide +kernel
theorem dX4_multiply_102 : decode cX4_multiply 102 = .ok (.invokevirtual 122, 3) := by decide +kernel
theorem dX4_multiply_105 : decode cX4_multiply 105 = .ok (.aload_n 0, 1) := by decide +kernel
theorem dX4_multiply_106 : decode cX4_multiply 106 = .ok (.getfield 20, 3) := by decide +kernel
theorem dX4_multiply_109 : decode cX4_multiply 109 = .ok (.aload_n 1, 1) := by decide +kernel
theorem dX4_multiply_110 : decode cX4_multiply 110 = .ok (.getfield 101, 3) := by decide +kernel
theorem dX4_multiply_113 : decode cX4_multiply 113 = .ok (.iload_n 2, 1) := by decide +kernel
theorem dX4_multiply_114 : decode cX4_multiply 114 = .ok (.imul, 1) := by decide +kernel
theorem dX4_multiply_115 : decode cX4_multiply 115 = .ok (.putfield 101, 3) := by decide +kernel
theorem dX4_multiply_118 : decode cX4_multiply 118 = .ok (.return_, 1) := by decide +kernel
set_option maxRecDepth 20000 in
theorem ggX4_divideDown_X1_become_ : GoodIn wsX4_divideDown wsX1_become_ := goodIn_r _ [10, 11, 12, 13, 14, 15, 16, 95, 96] (by decide +kernel) (by decide +kernel)
set_option maxRecDepth 20000 in
theorem gX4_divideDown_X1_become_ : GoodIn wsX4_divideDown (wsV RX4 147 RX1 yX1_become_ wsX1_become_) := goodIn_app (goodIn_of _ (by decide +kernel)) ggX4_divideDown_X1_become_
set_option maxRecDepth 20000 in
theorem ggX4_divideDown_X1_divide : GoodIn wsX4_divideDown wsX1_divide := goodIn_r _ [20, 11, 16, 21, 22, 23, 9, 24, 25, 26, 27, 28, 29, 30, 31, 32, 33, 34, 35, 36, 37, 38, 39, 40, 41, 42, 43, 44, 45, 46, 47, 48, 49, 50, 51, 52, 53, 54, 55, 56, 14, 57, 58, 59, 60, 61, 62, 63, 64, 65, 95, 96] (by decide +kernel) (by decide +kernel)
set_option maxRecDepth 20000 in
theorem gX4_divideDown_X1_divide : GoodIn wsX4_divideDown (wsV RX4 183 RX1 yX1_divide wsX1_divide) := goodIn_app (goodIn_of _ (by decide +kernel)) ggX4_divideDown_X1_divide
set_option maxRecDepth 20000 in
theorem ggX4_divideDown_X1_capped : GoodIn wsX4_divideDown wsX1_capped := goodIn_r _ [69, 11, 43, 35, 36, 37, 9, 38, 16, 34, 95, 96] (by decide +kernel) (by decide +kernel)
set_option maxRecDepth 20000 in
theorem gX4_divideDown_X1_capped : GoodIn wsX4_divideDown (wsV RX4 186 RX1 yX1_capped wsX1_capped) := goodIn_app (goodIn_of _ (by decide +kernel)) ggX4_divideDown_X1_capped
set_option maxRecDepth 20000 in
theorem ggX4_divideDown_X1_isZero : GoodIn wsX4_divideDown wsX1_isZero := goodIn_r _ [73, 11, 95, 96] (by decide +kernel) (by decide +kernel)
set_option maxRecDepth 20000 in
theorem gX4_divideDown_X1_isZero : GoodIn wsX4_divideDown (wsV RX4 140 RX1 yX1_isZero wsX1_isZero) := goodIn_app (goodIn_of _ (by decide +kernel)) ggX4_divideDown_X1_isZero
set_option maxRecDepth 20000 in
theorem ggX4_divideDown_X1_becomeDifference : GoodIn wsX4_divideDown wsX1_becomeDifference := goodIn_r _ [77, 16, 35, 36, 37, 9, 38, 34, 62, 63, 64, 65, 11, 95, 96] (by decide +kernel) (by decide +kernel)
set_option maxRecDepth 20000 in
theorem gX4_divideDown_X1_becomeDifference : GoodIn wsX4_divideDown (wsV RX4 180 RX1 yX1_becomeDifference wsX1_becomeDifference) := goodIn_app (goodIn_of _ (by decide +kernel)) ggX4_divideDown_X1_becomeDifference
theorem dX4_divideDown_0 : decode cX4_divideDown 0 = .ok (.aload_n 0, 1) := by decide +kernel
theorem dX4_divideDown_1 : decode cX4_divideDown 1 = .ok (.getfield 62, 3) := by decide +kernel
theorem dX4_divideDown_4 : decode cX4_divideDown 4 = .ok (.aload_n 1, 1) := by decide +kernel
theorem dX4_divideDown_5 : decode cX4_divideDown 5 = .ok (.getfield 88, 3) := by decide +kernel
theorem dX4_divideDown_8 : decode cX4_divideDown 8 = .ok (.invokevirtual 147, 3) := by decide +kernel
theorem dX4_divideDown_11 : decode cX4_divideDown 11 = .ok (.aload_n 0, 1) := by decide +kernel
theorem dX4_divideDown_12 : decode cX4_divideDown 12 = .ok (.getfield 62, 3) := by decide +kernel
theorem dX4_divideDown_15 : decode cX4_divideDown 15 = .ok (.aload_n 1, 1) := by decide +kernel
theorem dX4_divideDown_16 : decode cX4_divideDown 16 = .ok (.getfield 77, 3) := by decide +kernel
theorem dX4_divideDown_19 : decode cX4_divideDown 19 = .ok (.aload_n 0, 1) := by decide +kernel
theorem dX4_divideDown_20 : decode cX4_divideDown 20 = .ok (.getfield 59, 3) := by decide +kernel
theorem dX4_divideDown_23 : decode cX4_divideDown 23 = .ok (.invokevirtual 183, 3) := by decide +kernel
theorem dX4_divideDown_26 : decode cX4_divideDown 26 = .ok (.aload_n 0, 1) := by decide +kernel
theorem dX4_divideDown_27 : decode cX4_divideDown 27 = .ok (.getfield 59, 3) := by decide +kernel
theorem dX4_divideDown_30 : decode cX4_divideDown 30 = .ok (.invokevirtual 186, 3) := by decide +kernel
theorem dX4_divideDown_33 : decode cX4_divideDown 33 = .ok (.lstore_n 2, 1) := by decide +kernel
theorem dX4_divideDown_34 : decode cX4_divideDown 34 = .ok (.aload_n 1, 1) := by decide +kernel
theorem dX4_divideDown_35 : decode cX4_divideDown 35 = .ok (.getfield 101, 3) := by decide +kernel
theorem dX4_divideDown_38 : decode cX4_divideDown 38 = .ok (.ifCond .lt 5, 3) := by decide +kernel
theorem dX4_divideDown_41 : decode cX4_divideDown 41 = .ok (.lload_n 2, 1) := by decide +kernel
theorem dX4_divideDown_42 : decode cX4_divideDown 42 = .ok (.lreturn, 1) := by decide +kernel
theorem dX4_divideDown_43 : decode cX4_divideDown 43 = .ok (.aload_n 0, 1) := by decide +kernel
theorem dX4_divideDown_44 : decode cX4_divideDown 44 = .ok (.getfield 62, 3) := by decide +kernel
theorem dX4_divideDown_47 : decode cX4_divideDown 47 = .ok (.invokevirtual 140, 3) := by decide +kernel
theorem dX4_divideDown_50 : decode cX4_divideDown 50 = .ok (.ifCond .eq 6, 3) := by decide +kernel
theorem dX4_divideDown_53 : decode cX4_divideDown 53 = .ok (.lload_n 2, 1) := by decide +kernel
theorem dX4_divideDown_54 : decode cX4_divideDown 54 = .ok (.lneg, 1) := by decide +kernel
theorem dX4_divideDown_55 : decode cX4_divideDown 55 = .ok (.lreturn, 1) := by decide +kernel
theorem dX4_divideDown_56 : decode cX4_divideDown 56 = .ok (.aload_n 0, 1) := by decide +kernel
theorem dX4_divideDown_57 : decode cX4_divideDown 57 = .ok (.getfield 62, 3) := by decide +kernel
theorem dX4_divideDown_60 : decode cX4_divideDown 60 = .ok (.aload_n 1, 1) := by decide +kernel
theorem dX4_divideDown_61 : decode cX4_divideDown 61 = .ok (.getfield 77, 3) := by decide +kernel
theorem dX4_divideDown_64 : decode cX4_divideDown 64 = .ok (.aload_n 0, 1) := by decide +kernel
theorem dX4_divideDown_65 : decode cX4_divideDown 65 = .ok (.getfield 62, 3) := by decide +kernel
theorem dX4_divideDown_68 : decode cX4_divideDown 68 = .ok (.invokevirtual 180, 3) := by decide +kernel
theorem dX4_divideDown_71 : decode cX4_divideDown 71 = .ok (.lload_n 2, 1) := by decide +kernel
theorem dX4_divideDown_72 : decode cX4_divideDown 72 = .ok (.lneg, 1) := by decide +kernel
theorem dX4_divideDown_73 : decode cX4_divideDown 73 = .ok (.lconst 1, 1) := by decide +kernel
theorem dX4_divideDown_74 : decode cX4_divideDown 74 = .ok (.lsub, 1) := by decide +kernel
theorem dX4_divideDown_75 : decode cX4_divideDown 75 = .ok (.lreturn, 1) := by decide +kernel
set_option maxRecDepth 20000 in
theorem ggX5_init_X5_put : GoodIn wsX5_init wsX5_put := goodIn_r _ [13, 5, 14, 15, 16, 17, 18, 19, 20, 21] (by decide +kernel) (by decide +kernel)
set_option maxRecDepth 20000 in
theorem gX5_init_X5_put : GoodIn wsX5_init (wsV RX5 23 RX5 yX5_put wsX5_put) := goodIn_app (goodIn_of _ (by decide +kernel)) ggX5_init_X5_put
theorem dX5_init_0 : decode cX5_init 0 = .ok (.aload_n 0, 1) := by decide +kernel
theorem dX5_init_1 : decode cX5_init 1 = .ok (.invokespecial 1, 3) := by decide +kernel
theorem dX5_init_4 : decode cX5_init 4 = .ok (.aload_n 0, 1) := by decide +kernel
theorem dX5_init_5 : decode cX5_init 5 = .ok (.sipush 972, 3) := by decide +kernel
theorem dX5_init_8 : decode cX5_init 8 = .ok (.newarray .int, 2) := by decide +kernel
theorem dX5_init_10 : decode cX5_init 10 = .ok (.putfield 7, 3) := by decide +kernel
theorem dX5_init_13 : decode cX5_init 13 = .ok (.aload_n 0, 1) := by decide +kernel
theorem dX5_init_14 : decode cX5_init 14 = .ok (.bipush 8, 2) := by decide +kernel
theorem dX5_init_16 : decode cX5_init 16 = .ok (.newarray .int, 2) := by decide +kernel
theorem dX5_init_18 : decode cX5_init 18 = .ok (.putfield 13, 3) := by decide +kernel
theorem dX5_init_21 : decode cX5_init 21 = .ok (.aload_n 0, 1) := by decide +kernel
theorem dX5_init_22 : decode cX5_init 22 = .ok (.iload_n 1, 1) := by decide +kernel
theorem dX5_init_23 : decode cX5_init 23 = .ok (.iconst 1, 1) := by decide +kernel
theorem dX5_init_24 : decode cX5_init 24 = .ok (.if_icmp .lt 13, 3) := by decide +kernel
theorem dX5_init_27 : decode cX5_init 27 = .ok (.iload_n 1, 1) := by decide +kernel
theorem dX5_init_28 : decode cX5_init 28 = .ok (.bipush 8, 2) := by decide +kernel
theorem dX5_init_30 : decode cX5_init 30 = .ok (.if_icmp .gt 7, 3) := by decide +kernel
theorem dX5_init_33 : decode cX5_init 33 = .ok (.iload_n 1, 1) := by decide +kernel
theorem dX5_init_34 : decode cX5_init 34 = .ok (.goto 4, 3) := by decide +kernel
theorem dX5_init_37 : decode cX5_init 37 = .ok (.iconst 1, 1) := by decide +kernel
theorem dX5_init_38 : decode cX5_init 38 = .ok (.putfield 16, 3) := by decide +kernel
theorem dX5_init_41 : decode cX5_init 41 = .ok (.aload_n 0, 1) := by decide +kernel
theorem dX5_init_42 : decode cX5_init 42 = .ok (.iload_n 2, 1) := by decide +kernel
theorem dX5_init_43 : decode cX5_init 43 = .ok (.iconst 1, 1) := by decide +kernel
theorem dX5_init_44 : decode cX5_init 44 = .ok (.if_icmp .lt 13, 3) := by decide +kernel
theorem dX5_init_47 : decode cX5_init 47 = .ok (.iload_n 2, 1) := by decide +kernel
theorem dX5_init_48 : decode cX5_init 48 = .ok (.bipush 8, 2) := by decide +kernel
theorem dX5_init_50 : decode cX5_init 50 = .ok (.if_icmp .gt 7, 3) := by decide +kernel
theorem dX5_init_53 : decode cX5_init 53 = .ok (.iload_n 2, 1) := by decide +kernel
theorem dX5_init_54 : decode cX5_init 54 = .ok (.goto 4, 3) := by decide +kernel
theorem dX5_init_57 : decode cX5_init 57 = .ok (.iconst 1, 1) := by decide +kernel
theorem dX5_init_58 : decode cX5_init 58 = .ok (.putfield 20, 3) := by decide +kernel
theorem dX5_init_61 : decode cX5_init 61 = .ok (.iconst 0, 1) := by decide +kernel
theorem dX5_init_62 : decode cX5_init 62 = .ok (.istore_n 3, 1) := by decide +kernel
theorem dX5_init_63 : decode cX5_init 63 = .ok (.iload_n 3, 1) := by decide +kernel
theorem dX5_init_64 : decode cX5_init 64 = .ok (.bipush 8, 2) := by decide +kernel
theorem dX5_init_66 : decode cX5_init 66 = .ok (.if_icmp .ge 18, 3) := by decide +kernel
theorem dX5_init_69 : decode cX5_init 69 = .ok (.aload_n 0, 1) := by decide +kernel
theorem dX5_init_70 : decode cX5_init 70 = .ok (.bipush 8, 2) := by decide +kernel
theorem dX5_init_72 : decode cX5_init 72 = .ok (.iload_n 3, 1) := by decide +kernel
theorem dX5_init_73 : decode cX5_init 73 = .ok (.iadd, 1) := by decide +kernel
theorem dX5_init_74 : decode cX5_init 74 = .ok (.lconst 1, 1) := by decide +kernel
theorem dX5_init_75 : decode cX5_init 75 = .ok (.invokevirtual 23, 3) := by decide +kernel
theorem dX5_init_78 : decode cX5_init 78 = .ok (.iinc 3 1, 3) := by decide +kernel
theorem dX5_init_81 : decode cX5_init 81 = .ok (.goto (-18), 3) := by decide +kernel
theorem dX5_init_84 : decode cX5_init 84 = .ok (.return_, 1) := by decide +kernel
theorem dX5_isRegister_0 : decode cX5_isRegister 0 = .ok (.iload_n 1, 1) := by decide +kernel
theorem dX5_isRegister_1 : decode cX5_isRegister 1 = .ok (.ifCond .lt 15, 3) := by decide +kernel
theorem dX5_isRegister_4 : decode cX5_isRegister 4 = .ok (.iload_n 1, 1) := by decide +kernel
theorem dX5_isRegister_5 : decode cX5_isRegister 5 = .ok (.aload_n 0, 1) := by decide +kernel
theorem dX5_isRegister_6 : decode cX5_isRegister 6 = .ok (.getfield 16, 3) := by decide +kernel
theorem dX5_isRegister_9 : decode cX5_isRegister 9 = .ok (.if_icmp .ge 7, 3) := by decide +kernel
theorem dX5_isRegister_12 : decode cX5_isRegister 12 = .ok (.iconst 1, 1) := by decide +kernel
theorem dX5_isRegister_13 : decode cX5_isRegister 13 = .ok (.goto 4, 3) := by decide +kernel
theorem dX5_isRegister_16 : decode cX5_isRegister 16 = .ok (.iconst 0, 1) := by decide +kernel
theorem dX5_isRegister_17 : decode cX5_isRegister 17 = .ok (.ireturn, 1) := by decide +kernel
theorem dX5_put_0 : decode cX5_put 0 = .ok (.iconst 0, 1) := by decide +kernel
theorem dX5_put_1 : decode cX5_put 1 = .ok (.istore 4, 2) := by decide +kernel
theorem dX5_put_3 : decode cX5_put 3 = .ok (.iload 4, 2) := by decide +kernel
theorem dX5_put_5 : decode cX5_put 5 = .ok (.bipush 36, 2) := by decide +kernel
theorem dX5_put_7 : decode cX5_put 7 = .ok (.if_icmp .ge 43, 3) := by decide +kernel
theorem dX5_put_10 : decode cX5_put 10 = .ok (.aload_n 0, 1) := by decide +kernel
theorem dX5_put_11 : decode cX5_put 11 = .ok (.getfield 7, 3) := by decide +kernel
theorem dX5_put_14 : decode cX5_put 14 = .ok (.bipush 36, 2) := by decide +kernel
theorem dX5_put_16 : decode cX5_put 16 = .ok (.iload_n 1, 1) := by decide +kernel
theorem dX5_put_17 : decode cX5_put 17 = .ok (.imul, 1) := by decide +kernel
theorem dX5_put_18 : decode cX5_put 18 = .ok (.iload 4, 2) := by decide +kernel
theorem dX5_put_20 : decode cX5_put 20 = .ok (.iadd, 1) := by decide +kernel
theorem dX5_put_21 : decode cX5_put 21 = .ok (.iload 4, 2) := by decide +kernel
theorem dX5_put_23 : decode cX5_put 23 = .ok (.iconst 4, 1) := by decide +kernel
theorem dX5_put_24 : decode cX5_put 24 = .ok (.if_icmp .ge 18, 3) := by decide +kernel
theorem dX5_put_27 : decode cX5_put 27 = .ok (.lload_n 2, 1) := by decide +kernel
theorem dX5_put_28 : decode cX5_put 28 = .ok (.bipush 16, 2) := by decide +kernel
theorem dX5_put_30 : decode cX5_put 30 = .ok (.iload 4, 2) := by decide +kernel
theorem dX5_put_32 : decode cX5_put 32 = .ok (.imul, 1) := by decide +kernel
theorem dX5_put_33 : decode cX5_put 33 = .ok (.lshr, 1) := by decide +kernel
theorem dX5_put_34 : decode cX5_put 34 = .ok (.ldc2_w 27, 3) := by decide +kernel
theorem dX5_put_37 : decode cX5_put 37 = .ok (.land, 1) := by decide +kernel
theorem dX5_put_38 : decode cX5_put 38 = .ok (.l2i, 1) := by decide +kernel
theorem dX5_put_39 : decode cX5_put 39 = .ok (.goto 4, 3) := by decide +kernel
theorem dX5_put_42 : decode cX5_put 42 = .ok (.iconst 0, 1) := by decide +kernel
theorem dX5_put_43 : decode cX5_put 43 = .ok (.iastore, 1) := by decide +kernel
theorem dX5_put_44 : decode cX5_put 44 = .ok (.iinc 4 1, 3) := by decide +kernel
theorem dX5_put_47 : decode cX5_put 47 = .ok (.goto (-44), 3) := by decide +kernel
theorem dX5_put_50 : decode cX5_put 50 = .ok (.return_, 1) := by decide +kernel
theorem dX5_copy_0 : decode cX5_copy 0 = .ok (.iconst 0, 1) := by decide +kernel
theorem dX5_copy_1 : decode cX5_copy 1 = .ok (.istore_n 3, 1) := by decide +kernel
theorem dX5_copy_2 : decode cX5_copy 2 = .ok (.iload_n 3, 1) := by decide +kernel
theorem dX5_copy_3 : decode cX5_copy 3 = .ok (.bipush 36, 2) := by decide +kernel
theorem dX5_copy_5 : decode cX5_copy 5 = .ok (.if_icmp .ge 31, 3) := by decide +kernel
theorem dX5_copy_8 : decode cX5_copy 8 = .ok (.aload_n 0, 1) := by decide +kernel
theorem dX5_copy_9 : decode cX5_copy 9 = .ok (.getfield 7, 3) := by decide +kernel
theorem dX5_copy_12 : decode cX5_copy 12 = .ok (.bipush 36, 2) := by decide +kernel
theorem dX5_copy_14 : decode cX5_copy 14 = .ok (.iload_n 2, 1) := by decide +kernel
theorem dX5_copy_15 : decode cX5_copy 15 = .ok (.imul, 1) := by decide +kernel
theorem dX5_copy_16 : decode cX5_copy 16 = .ok (.iload_n 3, 1) := by decide +kernel
theorem dX5_copy_17 : decode cX5_copy 17 = .ok (.iadd, 1) := by decide +kernel
theorem dX5_copy_18 : decode cX5_copy 18 = .ok (.aload_n 0, 1) := by decide +kernel
theorem dX5_copy_19 : decode cX5_copy 19 = .ok (.getfield 7, 3) := by decide +kernel
theorem dX5_copy_22 : decode cX5_copy 22 = .ok (.bipush 36, 2) := by decide +kernel
theorem dX5_copy_24 : decode cX5_copy 24 = .ok (.iload_n 1, 1) := by decide +kernel
theorem dX5_copy_25 : decode cX5_copy 25 = .ok (.imul, 1) := by decide +kernel
theorem dX5_copy_26 : decode cX5_copy 26 = .ok (.iload_n 3, 1) := by decide +kernel
theorem dX5_copy_27 : decode cX5_copy 27 = .ok (.iadd, 1) := by decide +kernel
theorem dX5_copy_28 : decode cX5_copy 28 = .ok (.iaload, 1) := by decide +kernel
theorem dX5_copy_29 : decode cX5_copy 29 = .ok (.iastore, 1) := by decide +kernel
theorem dX5_copy_30 : decode cX5_copy 30 = .ok (.iinc 3 1, 3) := by decide +kernel
theorem dX5_copy_33 : decode cX5_copy 33 = .ok (.goto (-31), 3) := by decide +kernel
theorem dX5_copy_36 : decode cX5_copy 36 = .ok (.return_, 1) := by decide +kernel
theorem dX5_isZero_0 : decode cX5_isZero 0 = .ok (.iconst 1, 1) := by decide +kernel
theorem dX5_isZero_1 : decode cX5_isZero 1 = .ok (.istore_n 2, 1) := by decide +kernel
theorem dX5_isZero_2 : decode cX5_isZero 2 = .ok (.iconst 0, 1) := by decide +kernel
theorem dX5_isZero_3 : decode cX5_isZero 3 = .ok (.istore_n 3, 1) := by decide +kernel
theorem dX5_isZero_4 : decode cX5_isZero 4 = .ok (.iload_n 3, 1) := by decide +kernel
theorem dX5_isZero_5 : decode cX5_isZero 5 = .ok (.bipush 36, 2) := by decide +kernel
theorem dX5_isZero_7 : decode cX5_isZero 7 = .ok (.if_icmp .ge 33, 3) := by decide +kernel
theorem dX5_isZero_10 : decode cX5_isZero 10 = .ok (.iload_n 2, 1) := by decide +kernel
theorem dX5_isZero_11 : decode cX5_isZero 11 = .ok (.ifCond .eq 21, 3) := by decide +kernel
theorem dX5_isZero_14 : decode cX5_isZero 14 = .ok (.aload_n 0, 1) := by decide +kernel
theorem dX5_isZero_15 : decode cX5_isZero 15 = .ok (.getfield 7, 3) := by decide +kernel
theorem dX5_isZero_18 : decode cX5_isZero 18 = .ok (.bipush 36, 2) := by decide +kernel
theorem dX5_isZero_20 : decode cX5_isZero 20 = .ok (.iload_n 1, 1) := by decide +kernel
theorem dX5_isZero_21 : decode cX5_isZero 21 = .ok (.imul, 1) := by decide +kernel
theorem dX5_isZero_22 : decode cX5_isZero 22 = .ok (.iload_n 3, 1) := by decide +kernel
theorem dX5_isZero_23 : decode cX5_isZero 23 = .ok (.iadd, 1) := by decide +kernel
theorem dX5_isZero_24 : decode cX5_isZero 24 = .ok (.iaload, 1) := by decide +kernel
theorem dX5_isZero_25 : decode cX5_isZero 25 = .ok (.ifCond .ne 7, 3) := by decide +kernel
theorem dX5_isZero_28 : decode cX5_isZero 28 = .ok (.iconst 1, 1) := by decide +kernel
theorem dX5_isZero_29 : decode cX5_isZero 29 = .ok (.goto 4, 3) := by decide +kernel
theorem dX5_isZero_32 : decode cX5_isZero 32 = .ok (.iconst 0, 1) := by decide +kernel
theorem dX5_isZero_33 : decode cX5_isZero 33 = .ok (.istore_n 2, 1) := by decide +kernel
theorem dX5_isZero_34 : decode cX5_isZero 34 = .ok (.iinc 3 1, 3) := by decide +kernel
theorem dX5_isZero_37 : decode cX5_isZero 37 = .ok (.goto (-33), 3) := by decide +kernel
theorem dX5_isZero_40 : decode cX5_isZero 40 = .ok (.iload_n 2, 1) := by decide +kernel
theorem dX5_isZero_41 : decode cX5_isZero 41 = .ok (.ireturn, 1) := by decide +kernel
theorem dX5_compare_0 : decode cX5_compare 0 = .ok (.bipush 35, 2) := by decide +kernel
theorem dX5_compare_2 : decode cX5_compare 2 = .ok (.istore_n 3, 1) := by decide +kernel
theorem dX5_compare_3 : decode cX5_compare 3 = .ok (.iload_n 3, 1) := by decide +kernel
theorem dX5_compare_4 : decode cX5_compare 4 = .ok (.ifCond .lt 50, 3) := by decide +kernel
theorem dX5_compare_7 : decode cX5_compare 7 = .ok (.aload_n 0, 1) := by decide +kernel
theorem dX5_compare_8 : decode cX5_compare 8 = .ok (.getfield 7, 3) := by decide +kernel
theorem dX5_compare_11 : decode cX5_compare 11 = .ok (.bipush 36, 2) := by decide +kernel
theorem dX5_compare_13 : decode cX5_compare 13 = .ok (.iload_n 1, 1) := by decide +kernel
theorem dX5_compare_14 : decode cX5_compare 14 = .ok (.imul, 1) := by decide +kernel
theorem dX5_compare_15 : decode cX5_compare 15 = .ok (.iload_n 3, 1) := by decide +kernel
theorem dX5_compare_16 : decode cX5_compare 16 = .ok (.iadd, 1) := by decide +kernel
theorem dX5_compare_17 : decode cX5_compare 17 = .ok (.iaload, 1) := by decide +kernel
theorem dX5_compare_18 : decode cX5_compare 18 = .ok (.aload_n 0, 1) := by decide +kernel
theorem dX5_compare_19 : decode cX5_compare 19 = .ok (.getfield 7, 3) := by decide +kernel
theorem dX5_compare_22 : decode cX5_compare 22 = .ok (.bipush 36, 2) := by decide +kernel
theorem dX5_compare_24 : decode cX5_compare 24 = .ok (.iload_n 2, 1) := by decide +kernel
theorem dX5_compare_25 : decode cX5_compare 25 = .ok (.imul, 1) := by decide +kernel
theorem dX5_compare_26 : decode cX5_compare 26 = .ok (.iload_n 3, 1) := by decide +kernel
theorem dX5_compare_27 : decode cX5_compare 27 = .ok (.iadd, 1) := by decide +kernel
theorem dX5_compare_28 : decode cX5_compare 28 = .ok (.iaload, 1) := by decide +kernel
theorem dX5_compare_29 : decode cX5_compare 29 = .ok (.isub, 1) := by decide +kernel
theorem dX5_compare_30 : decode cX5_compare 30 = .ok (.istore 4, 2) := by decide +kernel
theorem dX5_compare_32 : decode cX5_compare 32 = .ok (.iload 4, 2) := by decide +kernel
theorem dX5_compare_34 : decode cX5_compare 34 = .ok (.ifCond .eq 14, 3) := by decide +kernel
theorem dX5_compare_37 : decode cX5_compare 37 = .ok (.iload 4, 2) := by decide +kernel
theorem dX5_compare_39 : decode cX5_compare 39 = .ok (.ifCond .ge 7, 3) := by decide +kernel
theorem dX5_compare_42 : decode cX5_compare 42 = .ok (.iconst (-1), 1) := by decide +kernel
theorem dX5_compare_43 : decode cX5_compare 43 = .ok (.goto 4, 3) := by decide +kernel
theorem dX5_compare_46 : decode cX5_compare 46 = .ok (.iconst 1, 1) := by decide +kernel
theorem dX5_compare_47 : decode cX5_compare 47 = .ok (.ireturn, 1) := by decide +kernel
theorem dX5_compare_48 : decode cX5_compare 48 = .ok (.iinc 3 (-1), 3) := by decide +kernel
theorem dX5_compare_51 : decode cX5_compare 51 = .ok (.goto (-48), 3) := by decide +kernel
theorem dX5_compare_54 : decode cX5_compare 54 = .ok (.iconst 0, 1) := by decide +kernel
theorem dX5_compare_55 : decode cX5_compare 55 = .ok (.ireturn, 1) := by decide +kernel
theorem dX5_plus_0 : decode cX5_plus 0 = .ok (.iconst 0, 1) := by decide +kernel
theorem dX5_plus_1 : decode cX5_plus 1 = .ok (.istore_n 3, 1) := by decide +kernel
theorem dX5_plus_2 : decode cX5_plus 2 = .ok (.iconst 0, 1) := by decide +kernel
theorem dX5_plus_3 : decode cX5_plus 3 = .ok (.istore 4, 2) := by decide +kernel
theorem dX5_plus_5 : decode cX5_plus 5 = .ok (.iload 4, 2) := by decide +kernel
theorem dX5_plus_7 : decode cX5_plus 7 = .ok (.bipush 36, 2) := by decide +kernel
theorem dX5_plus_9 : decode cX5_plus 9 = .ok (.if_icmp .ge 61, 3) := by decide +kernel
theorem dX5_plus_12 : decode cX5_plus 12 = .ok (.aload_n 0, 1) := by decide +kernel
theorem dX5_plus_13 : decode cX5_plus 13 = .ok (.getfield 7, 3) := by decide +kernel
theorem dX5_plus_16 : decode cX5_plus 16 = .ok (.bipush 36, 2) := by decide +kernel
theorem dX5_plus_18 : decode cX5_plus 18 = .ok (.iload_n 1, 1) := by decide +kernel
theorem dX5_plus_19 : decode cX5_plus 19 = .ok (.imul, 1) := by decide +kernel
theorem dX5_plus_20 : decode cX5_plus 20 = .ok (.iload 4, 2) := by decide +kernel
theorem dX5_plus_22 : decode cX5_plus 22 = .ok (.iadd, 1) := by decide +kernel
theorem dX5_plus_23 : decode cX5_plus 23 = .ok (.iaload, 1) := by decide +kernel
theorem dX5_plus_24 : decode cX5_plus 24 = .ok (.aload_n 0, 1) := by decide +kernel
theorem dX5_plus_25 : decode cX5_plus 25 = .ok (.getfield 7, 3) := by decide +kernel
theorem dX5_plus_28 : decode cX5_plus 28 = .ok (.bipush 36, 2) := by decide +kernel
theorem dX5_plus_30 : decode cX5_plus 30 = .ok (.iload_n 2, 1) := by decide +kernel
theorem dX5_plus_31 : decode cX5_plus 31 = .ok (.imul, 1) := by decide +kernel
theorem dX5_plus_32 : decode cX5_plus 32 = .ok (.iload 4, 2) := by decide +kernel
theorem dX5_plus_34 : decode cX5_plus 34 = .ok (.iadd, 1) := by decide +kernel
theorem dX5_plus_35 : decode cX5_plus 35 = .ok (.iaload, 1) := by decide +kernel
theorem dX5_plus_36 : decode cX5_plus 36 = .ok (.iadd, 1) := by decide +kernel
theorem dX5_plus_37 : decode cX5_plus 37 = .ok (.iload_n 3, 1) := by decide +kernel
theorem dX5_plus_38 : decode cX5_plus 38 = .ok (.iadd, 1) := by decide +kernel
theorem dX5_plus_39 : decode cX5_plus 39 = .ok (.istore 5, 2) := by decide +kernel
theorem dX5_plus_41 : decode cX5_plus 41 = .ok (.aload_n 0, 1) := by decide +kernel
theorem dX5_plus_42 : decode cX5_plus 42 = .ok (.getfield 7, 3) := by decide +kernel
theorem dX5_plus_45 : decode cX5_plus 45 = .ok (.bipush 36, 2) := by decide +kernel
theorem dX5_plus_47 : decode cX5_plus 47 = .ok (.iload_n 1, 1) := by decide +kernel
theorem dX5_plus_48 : decode cX5_plus 48 = .ok (.imul, 1) := by decide +kernel
theorem dX5_plus_49 : decode cX5_plus 49 = .ok (.iload 4, 2) := by decide +kernel
theorem dX5_plus_51 : decode cX5_plus 51 = .ok (.iadd, 1) := by decide +kernel
theorem dX5_plus_52 : decode cX5_plus 52 = .ok (.iload 5, 2) := by decide +kernel
theorem dX5_plus_54 : decode cX5_plus 54 = .ok (.ldc 29, 2) := by decide +kernel
theorem dX5_plus_56 : decode cX5_plus 56 = .ok (.iand, 1) := by decide +kernel
theorem dX5_plus_57 : decode cX5_plus 57 = .ok (.iastore, 1) := by decide +kernel
theorem dX5_plus_58 : decode cX5_plus 58 = .ok (.iload 5, 2) := by decide +kernel
theorem dX5_plus_60 : decode cX5_plus 60 = .ok (.bipush 16, 2) := by decide +kernel
theorem dX5_plus_62 : decode cX5_plus 62 = .ok (.ishr, 1) := by decide +kernel
theorem dX5_plus_63 : decode cX5_plus 63 = .ok (.istore_n 3, 1) := by decide +kernel
theorem dX5_plus_64 : decode cX5_plus 64 = .ok (.iinc 4 1, 3) := by decide +kernel
theorem dX5_plus_67 : decode cX5_plus 67 = .ok (.goto (-62), 3) := by decide +kernel
theorem dX5_plus_70 : decode cX5_plus 70 = .ok (.return_, 1) := by decide +kernel
theorem dX5_lessen_0 : decode cX5_lessen 0 = .ok (.iconst 0, 1) := by decide +kernel
theorem dX5_lessen_1 : decode cX5_lessen 1 = .ok (.istore_n 3, 1) := by decide +kernel
theorem dX5_lessen_2 : decode cX5_lessen 2 = .ok (.iconst 0, 1) := by decide +kernel
theorem dX5_lessen_3 : decode cX5_lessen 3 = .ok (.istore 4, 2) := by decide +kernel
theorem dX5_lessen_5 : decode cX5_lessen 5 = .ok (.iload 4, 2) := by decide +kernel
theorem dX5_lessen_7 : decode cX5_lessen 7 = .ok (.bipush 36, 2) := by decide +kernel
theorem dX5_lessen_9 : decode cX5_lessen 9 = .ok (.if_icmp .ge 66, 3) := by decide +kernel
theorem dX5_lessen_12 : decode cX5_lessen 12 = .ok (.aload_n 0, 1) := by decide +kernel
theorem dX5_lessen_13 : decode cX5_lessen 13 = .ok (.getfield 7, 3) := by decide +kernel
theorem dX5_lessen_16 : decode cX5_lessen 16 = .ok (.bipush 36, 2) := by decide +kernel
theorem dX5_lessen_18 : decode cX5_lessen 18 = .ok (.iload_n 1, 1) := by decide +kernel
theorem dX5_lessen_19 : decode cX5_lessen 19 = .ok (.imul, 1) := by decide +kernel
theorem dX5_lessen_20 : decode cX5_lessen 20 = .ok (.iload 4, 2) := by decide +kernel
theorem dX5_lessen_22 : decode cX5_lessen 22 = .ok (.iadd, 1) := by decide +kernel
theorem dX5_lessen_23 : decode cX5_lessen 23 = .ok (.iaload, 1) := by decide +kernel
theorem dX5_lessen_24 : decode cX5_lessen 24 = .ok (.aload_n 0, 1) := by decide +kernel
theorem dX5_lessen_25 : decode cX5_lessen 25 = .ok (.getfield 7, 3) := by decide +kernel
theorem dX5_lessen_28 : decode cX5_lessen 28 = .ok (.bipush 36, 2) := by decide +kernel
theorem dX5_lessen_30 : decode cX5_lessen 30 = .ok (.iload_n 2, 1) := by decide +kernel
theorem dX5_lessen_31 : decode cX5_lessen 31 = .ok (.imul, 1) := by decide +kernel
theorem dX5_lessen_32 : decode cX5_lessen 32 = .ok (.iload 4, 2) := by decide +kernel
theorem dX5_lessen_34 : decode cX5_lessen 34 = .ok (.iadd, 1) := by decide +kernel
theorem dX5_lessen_35 : decode cX5_lessen 35 = .ok (.iaload, 1) := by decide +kernel
theorem dX5_lessen_36 : decode cX5_lessen 36 = .ok (.isub, 1) := by decide +kernel
theorem dX5_lessen_37 : decode cX5_lessen 37 = .ok (.iload_n 3, 1) := by decide +kernel
theorem dX5_lessen_38 : decode cX5_lessen 38 = .ok (.isub, 1) := by decide +kernel
theorem dX5_lessen_39 : decode cX5_lessen 39 = .ok (.istore 5, 2) := by decide +kernel
theorem dX5_lessen_41 : decode cX5_lessen 41 = .ok (.aload_n 0, 1) := by decide +kernel
theorem dX5_lessen_42 : decode cX5_lessen 42 = .ok (.getfield 7, 3) := by decide +kernel
theorem dX5_lessen_45 : decode cX5_lessen 45 = .ok (.bipush 36, 2) := by decide +kernel
theorem dX5_lessen_47 : decode cX5_lessen 47 = .ok (.iload_n 1, 1) := by decide +kernel
theorem dX5_lessen_48 : decode cX5_lessen 48 = .ok (.imul, 1) := by decide +kernel
theorem dX5_lessen_49 : decode cX5_lessen 49 = .ok (.iload 4, 2) := by decide +kernel
theorem dX5_lessen_51 : decode cX5_lessen 51 = .ok (.iadd, 1) := by decide +kernel
theorem dX5_lessen_52 : decode cX5_lessen 52 = .ok (.iload 5, 2) := by decide +kernel
theorem dX5_lessen_54 : decode cX5_lessen 54 = .ok (.ldc 29, 2) := by decide +kernel
theorem dX5_lessen_56 : decode cX5_lessen 56 = .ok (.iand, 1) := by decide +kernel
theorem dX5_lessen_57 : decode cX5_lessen 57 = .ok (.iastore, 1) := by decide +kernel
theorem dX5_lessen_58 : decode cX5_lessen 58 = .ok (.iload 5, 2) := by decide +kernel
theorem dX5_lessen_60 : decode cX5_lessen 60 = .ok (.ifCond .ge 7, 3) := by decide +kernel
theorem dX5_lessen_63 : decode cX5_lessen 63 = .ok (.iconst 1, 1) := by decide +kernel
theorem dX5_lessen_64 : decode cX5_lessen 64 = .ok (.goto 4, 3) := by decide +kernel
theorem dX5_lessen_67 : decode cX5_lessen 67 = .ok (.iconst 0, 1) := by decide +kernel
theorem dX5_lessen_68 : decode cX5_lessen 68 = .ok (.istore_n 3, 1) := by decide +kernel
theorem dX5_lessen_69 : decode cX5_lessen 69 = .ok (.iinc 4 1, 3) := by decide +kernel
theorem dX5_lessen_72 : decode cX5_lessen 72 = .ok (.goto (-67), 3) := by decide +kernel
theorem dX5_lessen_75 : decode cX5_lessen 75 = .ok (.return_, 1) := by decide +kernel
set_option maxRecDepth 20000 in
theorem ggX5_multiply_X5_put : GoodIn wsX5_multiply wsX5_put := goodIn_r _ [7, 1, 2, 8, 9, 10, 11, 12, 13, 14] (by decide +kernel) (by decide +kernel)
set_option maxRecDepth 20000 in
theorem gX5_multiply_X5_put : GoodIn wsX5_multiply (wsV RX5 23 RX5 yX5_put wsX5_put) := goodIn_app (goodIn_of _ (by decide +kernel)) ggX5_multiply_X5_put
theorem dX5_multiply_0 : decode cX5_multiply 0 = .ok (.aload_n 0, 1) := by decide +kernel
theorem dX5_multiply_1 : decode cX5_multiply 1 = .ok (.iload_n 3, 1) := by decide +kernel
theorem dX5_multiply_2 : decode cX5_multiply 2 = .ok (.lconst 0, 1) := by decide +kernel
theorem dX5_multiply_3 : decode cX5_multiply 3 = .ok (.invokevirtual 23, 3) := by decide +kernel
theorem dX5_multiply_6 : decode cX5_multiply 6 = .ok (.iconst 0, 1) := by decide +kernel
theorem dX5_multiply_7 : decode cX5_multiply 7 = .ok (.istore 4, 2) := by decide +kernel
theorem dX5_multiply_9 : decode cX5_multiply 9 = .ok (.iload 4, 2) := by decide +kernel
theorem dX5_multiply_11 : decode cX5_multiply 11 = .ok (.bipush 36, 2) := by decide +kernel
theorem dX5_multiply_13 : decode cX5_multiply 13 = .ok (.if_icmp .ge 124, 3) := by decide +kernel
theorem dX5_multiply_16 : decode cX5_multiply 16 = .ok (.lconst 0, 1) := by decide +kernel
theorem dX5_multiply_17 : decode cX5_multiply 17 = .ok (.lstore 5, 2) := by decide +kernel
theorem dX5_multiply_19 : decode cX5_multiply 19 = .ok (.iconst 0, 1) := by decide +kernel
theorem dX5_multiply_20 : decode cX5_multiply 20 = .ok (.istore 7, 2) := by decide +kernel
theorem dX5_multiply_22 : decode cX5_multiply 22 = .ok (.iload 4, 2) := by decide +kernel
theorem dX5_multiply_24 : decode cX5_multiply 24 = .ok (.iload 7, 2) := by decide +kernel
theorem dX5_multiply_26 : decode cX5_multiply 26 = .ok (.iadd, 1) := by decide +kernel
theorem dX5_multiply_27 : decode cX5_multiply 27 = .ok (.bipush 36, 2) := by decide +kernel
theorem dX5_multiply_29 : decode cX5_multiply 29 = .ok (.if_icmp .ge 102, 3) := by decide +kernel
theorem dX5_multiply_32 : decode cX5_multiply 32 = .ok (.aload_n 0, 1) := by decide +kernel
theorem dX5_multiply_33 : decode cX5_multiply 33 = .ok (.getfield 7, 3) := by decide +kernel
theorem dX5_multiply_36 : decode cX5_multiply 36 = .ok (.bipush 36, 2) := by decide +kernel
theorem dX5_multiply_38 : decode cX5_multiply 38 = .ok (.iload_n 1, 1) := by decide +kernel
theorem dX5_multiply_39 : decode cX5_multiply 39 = .ok (.imul, 1) := by decide +kernel
theorem dX5_multiply_40 : decode cX5_multiply 40 = .ok (.iload 4, 2) := by decide +kernel
theorem dX5_multiply_42 : decode cX5_multiply 42 = .ok (.iadd, 1) := by decide +kernel
theorem dX5_multiply_43 : decode cX5_multiply 43 = .ok (.iaload, 1) := by decide +kernel
theorem dX5_multiply_44 : decode cX5_multiply 44 = .ok (.ifCond .le 87, 3) := by decide +kernel
theorem dX5_multiply_47 : decode cX5_multiply 47 = .ok (.aload_n 0, 1) := by decide +kernel
theorem dX5_multiply_48 : decode cX5_multiply 48 = .ok (.getfield 7, 3) := by decide +kernel
theorem dX5_multiply_51 : decode cX5_multiply 51 = .ok (.bipush 36, 2) := by decide +kernel
theorem dX5_multiply_53 : decode cX5_multiply 53 = .ok (.iload_n 1, 1) := by decide +kernel
theorem dX5_multiply_54 : decode cX5_multiply 54 = .ok (.imul, 1) := by decide +kernel
theorem dX5_multiply_55 : decode cX5_multiply 55 = .ok (.iload 4, 2) := by decide +kernel
theorem dX5_multiply_57 : decode cX5_multiply 57 = .ok (.iadd, 1) := by decide +kernel
theorem dX5_multiply_58 : decode cX5_multiply 58 = .ok (.iaload, 1) := by decide +kernel
theorem dX5_multiply_59 : decode cX5_multiply 59 = .ok (.i2l, 1) := by decide +kernel
theorem dX5_multiply_60 : decode cX5_multiply 60 = .ok (.aload_n 0, 1) := by decide +kernel
theorem dX5_multiply_61 : decode cX5_multiply 61 = .ok (.getfield 7, 3) := by decide +kernel
theorem dX5_multiply_64 : decode cX5_multiply 64 = .ok (.bipush 36, 2) := by decide +kernel
theorem dX5_multiply_66 : decode cX5_multiply 66 = .ok (.iload_n 2, 1) := by decide +kernel
theorem dX5_multiply_67 : decode cX5_multiply 67 = .ok (.imul, 1) := by decide +kernel
theorem dX5_multiply_68 : decode cX5_multiply 68 = .ok (.iload 7, 2) := by decide +kernel
theorem dX5_multiply_70 : decode cX5_multiply 70 = .ok (.iadd, 1) := by decide +kernel
theorem dX5_multiply_71 : decode cX5_multiply 71 = .ok (.iaload, 1) := by decide +kernel
theorem dX5_multiply_72 : decode cX5_multiply 72 = .ok (.i2l, 1) := by decide +kernel
theorem dX5_multiply_73 : decode cX5_multiply 73 = .ok (.lmul, 1) := by decide +kernel
theorem dX5_multiply_74 : decode cX5_multiply 74 = .ok (.aload_n 0, 1) := by decide +kernel
theorem dX5_multiply_75 : decode cX5_multiply 75 = .ok (.getfield 7, 3) := by decide +kernel
theorem dX5_multiply_78 : decode cX5_multiply 78 = .ok (.bipush 36, 2) := by decide +kernel
theorem dX5_multiply_80 : decode cX5_multiply 80 = .ok (.iload_n 3, 1) := by decide +kernel
theorem dX5_multiply_81 : decode cX5_multiply 81 = .ok (.imul, 1) := by decide +kernel
theorem dX5_multiply_82 : decode cX5_multiply 82 = .ok (.iload 4, 2) := by decide +kernel
theorem dX5_multiply_84 : decode cX5_multiply 84 = .ok (.iadd, 1) := by decide +kernel
theorem dX5_multiply_85 : decode cX5_multiply 85 = .ok (.iload 7, 2) := by decide +kernel
theorem dX5_multiply_87 : decode cX5_multiply 87 = .ok (.iadd, 1) := by decide +kernel
theorem dX5_multiply_88 : decode cX5_multiply 88 = .ok (.iaload, 1) := by decide +kernel
theorem dX5_multiply_89 : decode cX5_multiply 89 = .ok (.i2l, 1) := by decide +kernel
theorem dX5_multiply_90 : decode cX5_multiply 90 = .ok (.ladd, 1) := by decide +kernel
theorem dX5_multiply_91 : decode cX5_multiply 91 = .ok (.lload 5, 2) := by decide +kernel
theorem dX5_multiply_93 : decode cX5_multiply 93 = .ok (.ladd, 1) := by decide +kernel
theorem dX5_multiply_94 : decode cX5_multiply 94 = .ok (.lstore 8, 2) := by decide +kernel
theorem dX5_multiply_96 : decode cX5_multiply 96 = .ok (.aload_n 0, 1) := by decide +kernel
theorem dX5_multiply_97 : decode cX5_multiply 97 = .ok (.getfield 7, 3) := by decide +kernel
theorem dX5_multiply_100 : decode cX5_multiply 100 = .ok (.bipush 36, 2) := by decide +kernel
theorem dX5_multiply_102 : decode cX5_multiply 102 = .ok (.iload_n 3, 1) := by decide +kernel
theorem dX5_multiply_103 : decode cX5_multiply 103 = .ok (.imul, 1) := by decide +kernel
theorem dX5_multiply_104 : decode cX5_multiply 104 = .ok (.iload 4, 2) := by decide +kernel
theorem dX5_multiply_106 : decode cX5_multiply 106 = .ok (.iadd, 1) := by decide +kernel
theorem dX5_multiply_107 : decode cX5_multiply 107 = .ok (.iload 7, 2) := by decide +kernel
theorem dX5_multiply_109 : decode cX5_multiply 109 = .ok (.iadd, 1) := by decide +kernel
theorem dX5_multiply_110 : decode cX5_multiply 110 = .ok (.lload 8, 2) := by decide +kernel
theorem dX5_multiply_112 : decode cX5_multiply 112 = .ok (.ldc2_w 27, 3) := by decide +kernel
theorem dX5_multiply_115 : decode cX5_multiply 115 = .ok (.land, 1) := by decide +kernel
theorem dX5_multiply_116 : decode cX5_multiply 116 = .ok (.l2i, 1) := by decide +kernel
theorem dX5_multiply_117 : decode cX5_multiply 117 = .ok (.iastore, 1) := by decide +kernel
theorem dX5_multiply_118 : decode cX5_multiply 118 = .ok (.lload 8, 2) := by decide +kernel
theorem dX5_multiply_120 : decode cX5_multiply 120 = .ok (.bipush 16, 2) := by decide +kernel
theorem dX5_multiply_122 : decode cX5_multiply 122 = .ok (.lshr, 1) := by decide +kernel
theorem dX5_multiply_123 : decode cX5_multiply 123 = .ok (.lstore 5, 2) := by decide +kernel
theorem dX5_multiply_125 : decode cX5_multiply 125 = .ok (.iinc 7 1, 3) := by decide +kernel
theorem dX5_multiply_128 : decode cX5_multiply 128 = .ok (.goto (-106), 3) := by decide +kernel
theorem dX5_multiply_131 : decode cX5_multiply 131 = .ok (.iinc 4 1, 3) := by decide +kernel
theorem dX5_multiply_134 : decode cX5_multiply 134 = .ok (.goto (-125), 3) := by decide +kernel
theorem dX5_multiply_137 : decode cX5_multiply 137 = .ok (.return_, 1) := by decide +kernel
theorem dX5_grow_0 : decode cX5_grow 0 = .ok (.lconst 0, 1) := by decide +kernel
theorem dX5_grow_1 : decode cX5_grow 1 = .ok (.lstore 4, 2) := by decide +kernel
theorem dX5_grow_3 : decode cX5_grow 3 = .ok (.iconst 0, 1) := by decide +kernel
theorem dX5_grow_4 : decode cX5_grow 4 = .ok (.istore 6, 2) := by decide +kernel
theorem dX5_grow_6 : decode cX5_grow 6 = .ok (.iload 6, 2) := by decide +kernel
theorem dX5_grow_8 : decode cX5_grow 8 = .ok (.bipush 36, 2) := by decide +kernel
theorem dX5_grow_10 : decode cX5_grow 10 = .ok (.if_icmp .ge 55, 3) := by decide +kernel
theorem dX5_grow_13 : decode cX5_grow 13 = .ok (.aload_n 0, 1) := by decide +kernel
theorem dX5_grow_14 : decode cX5_grow 14 = .ok (.getfield 7, 3) := by decide +kernel
theorem dX5_grow_17 : decode cX5_grow 17 = .ok (.bipush 36, 2) := by decide +kernel
theorem dX5_grow_19 : decode cX5_grow 19 = .ok (.iload_n 1, 1) := by decide +kernel
theorem dX5_grow_20 : decode cX5_grow 20 = .ok (.imul, 1) := by decide +kernel
theorem dX5_grow_21 : decode cX5_grow 21 = .ok (.iload 6, 2) := by decide +kernel
theorem dX5_grow_23 : decode cX5_grow 23 = .ok (.iadd, 1) := by decide +kernel
theorem dX5_grow_24 : decode cX5_grow 24 = .ok (.iaload, 1) := by decide +kernel
theorem dX5_grow_25 : decode cX5_grow 25 = .ok (.i2l, 1) := by decide +kernel
theorem dX5_grow_26 : decode cX5_grow 26 = .ok (.lload_n 2, 1) := by decide +kernel
theorem dX5_grow_27 : decode cX5_grow 27 = .ok (.lmul, 1) := by decide +kernel
theorem dX5_grow_28 : decode cX5_grow 28 = .ok (.lload 4, 2) := by decide +kernel
theorem dX5_grow_30 : decode cX5_grow 30 = .ok (.ladd, 1) := by decide +kernel
theorem dX5_grow_31 : decode cX5_grow 31 = .ok (.lstore 7, 2) := by decide +kernel
theorem dX5_grow_33 : decode cX5_grow 33 = .ok (.aload_n 0, 1) := by decide +kernel
theorem dX5_grow_34 : decode cX5_grow 34 = .ok (.getfield 7, 3) := by decide +kernel
theorem dX5_grow_37 : decode cX5_grow 37 = .ok (.bipush 36, 2) := by decide +kernel
theorem dX5_grow_39 : decode cX5_grow 39 = .ok (.iload_n 1, 1) := by decide +kernel
theorem dX5_grow_40 : decode cX5_grow 40 = .ok (.imul, 1) := by decide +kernel
theorem dX5_grow_41 : decode cX5_grow 41 = .ok (.iload 6, 2) := by decide +kernel
theorem dX5_grow_43 : decode cX5_grow 43 = .ok (.iadd, 1) := by decide +kernel
theorem dX5_grow_44 : decode cX5_grow 44 = .ok (.lload 7, 2) := by decide +kernel
theorem dX5_grow_46 : decode cX5_grow 46 = .ok (.ldc2_w 27, 3) := by decide +kernel
theorem dX5_grow_49 : decode cX5_grow 49 = .ok (.land, 1) := by decide +kernel
theorem dX5_grow_50 : decode cX5_grow 50 = .ok (.l2i, 1) := by decide +kernel
theorem dX5_grow_51 : decode cX5_grow 51 = .ok (.iastore, 1) := by decide +kernel
theorem dX5_grow_52 : decode cX5_grow 52 = .ok (.lload 7, 2) := by decide +kernel
theorem dX5_grow_54 : decode cX5_grow 54 = .ok (.bipush 16, 2) := by decide +kernel
theorem dX5_grow_56 : decode cX5_grow 56 = .ok (.lshr, 1) := by decide +kernel
theorem dX5_grow_57 : decode cX5_grow 57 = .ok (.lstore 4, 2) := by decide +kernel
theorem dX5_grow_59 : decode cX5_grow 59 = .ok (.iinc 6 1, 3) := by decide +kernel
theorem dX5_grow_62 : decode cX5_grow 62 = .ok (.goto (-56), 3) := by decide +kernel
theorem dX5_grow_65 : decode cX5_grow 65 = .ok (.return_, 1) := by decide +kernel
theorem dX5_halve_0 : decode cX5_halve 0 = .ok (.iconst 0, 1) := by decide +kernel
theorem dX5_halve_1 : decode cX5_halve 1 = .ok (.istore_n 2, 1) := by decide +kernel
theorem dX5_halve_2 : decode cX5_halve 2 = .ok (.iload_n 2, 1) := by decide +kernel
theorem dX5_halve_3 : decode cX5_halve 3 = .ok (.bipush 36, 2) := by decide +kernel
theorem dX5_halve_5 : decode cX5_halve 5 = .ok (.if_icmp .ge 66, 3) := by decide +kernel
theorem dX5_halve_8 : decode cX5_halve 8 = .ok (.iload_n 2, 1) := by decide +kernel
theorem dX5_halve_9 : decode cX5_halve 9 = .ok (.iconst 1, 1) := by decide +kernel
theorem dX5_halve_10 : decode cX5_halve 10 = .ok (.iadd, 1) := by decide +kernel
theorem dX5_halve_11 : decode cX5_halve 11 = .ok (.bipush 36, 2) := by decide +kernel
theorem dX5_halve_13 : decode cX5_halve 13 = .ok (.if_icmp .ge 21, 3) := by decide +kernel
theorem dX5_halve_16 : decode cX5_halve 16 = .ok (.aload_n 0, 1) := by decide +kernel
theorem dX5_halve_17 : decode cX5_halve 17 = .ok (.getfield 7, 3) := by decide +kernel
theorem dX5_halve_20 : decode cX5_halve 20 = .ok (.bipush 36, 2) := by decide +kernel
theorem dX5_halve_22 : decode cX5_halve 22 = .ok (.iload_n 1, 1) := by decide +kernel
theorem dX5_halve_23 : decode cX5_halve 23 = .ok (.imul, 1) := by decide +kernel
theorem dX5_halve_24 : decode cX5_halve 24 = .ok (.iload_n 2, 1) := by decide +kernel
theorem dX5_halve_25 : decode cX5_halve 25 = .ok (.iadd, 1) := by decide +kernel
theorem dX5_halve_26 : decode cX5_halve 26 = .ok (.iconst 1, 1) := by decide +kernel
theorem dX5_halve_27 : decode cX5_halve 27 = .ok (.iadd, 1) := by decide +kernel
theorem dX5_halve_28 : decode cX5_halve 28 = .ok (.iaload, 1) := by decide +kernel
theorem dX5_halve_29 : decode cX5_halve 29 = .ok (.iconst 1, 1) := by decide +kernel
theorem dX5_halve_30 : decode cX5_halve 30 = .ok (.iand, 1) := by decide +kernel
theorem dX5_halve_31 : decode cX5_halve 31 = .ok (.goto 4, 3) := by decide +kernel
theorem dX5_halve_34 : decode cX5_halve 34 = .ok (.iconst 0, 1) := by decide +kernel
theorem dX5_halve_35 : decode cX5_halve 35 = .ok (.istore_n 3, 1) := by decide +kernel
theorem dX5_halve_36 : decode cX5_halve 36 = .ok (.aload_n 0, 1) := by decide +kernel
theorem dX5_halve_37 : decode cX5_halve 37 = .ok (.getfield 7, 3) := by decide +kernel
theorem dX5_halve_40 : decode cX5_halve 40 = .ok (.bipush 36, 2) := by decide +kernel
theorem dX5_halve_42 : decode cX5_halve 42 = .ok (.iload_n 1, 1) := by decide +kernel
theorem dX5_halve_43 : decode cX5_halve 43 = .ok (.imul, 1) := by decide +kernel
theorem dX5_halve_44 : decode cX5_halve 44 = .ok (.iload_n 2, 1) := by decide +kernel
theorem dX5_halve_45 : decode cX5_halve 45 = .ok (.iadd, 1) := by decide +kernel
theorem dX5_halve_46 : decode cX5_halve 46 = .ok (.aload_n 0, 1) := by decide +kernel
theorem dX5_halve_47 : decode cX5_halve 47 = .ok (.getfield 7, 3) := by decide +kernel
theorem dX5_halve_50 : decode cX5_halve 50 = .ok (.bipush 36, 2) := by decide +kernel
theorem dX5_halve_52 : decode cX5_halve 52 = .ok (.iload_n 1, 1) := by decide +kernel
theorem dX5_halve_53 : decode cX5_halve 53 = .ok (.imul, 1) := by decide +kernel
theorem dX5_halve_54 : decode cX5_halve 54 = .ok (.iload_n 2, 1) := by decide +kernel
theorem dX5_halve_55 : decode cX5_halve 55 = .ok (.iadd, 1) := by decide +kernel
theorem dX5_halve_56 : decode cX5_halve 56 = .ok (.iaload, 1) := by decide +kernel
theorem dX5_halve_57 : decode cX5_halve 57 = .ok (.iconst 1, 1) := by decide +kernel
theorem dX5_halve_58 : decode cX5_halve 58 = .ok (.ishr, 1) := by decide +kernel
theorem dX5_halve_59 : decode cX5_halve 59 = .ok (.iload_n 3, 1) := by decide +kernel
theorem dX5_halve_60 : decode cX5_halve 60 = .ok (.bipush 15, 2) := by decide +kernel
theorem dX5_halve_62 : decode cX5_halve 62 = .ok (.ishl, 1) := by decide +kernel
theorem dX5_halve_63 : decode cX5_halve 63 = .ok (.ior, 1) := by decide +kernel
theorem dX5_halve_64 : decode cX5_halve 64 = .ok (.iastore, 1) := by decide +kernel
theorem dX5_halve_65 : decode cX5_halve 65 = .ok (.iinc 2 1, 3) := by decide +kernel
theorem dX5_halve_68 : decode cX5_halve 68 = .ok (.goto (-66), 3) := by decide +kernel
theorem dX5_halve_71 : decode cX5_halve 71 = .ok (.return_, 1) := by decide +kernel
theorem dX5_isEven_0 : decode cX5_isEven 0 = .ok (.aload_n 0, 1) := by decide +kernel
theorem dX5_isEven_1 : decode cX5_isEven 1 = .ok (.getfield 7, 3) := by decide +kernel
theorem dX5_isEven_4 : decode cX5_isEven 4 = .ok (.bipush 36, 2) := by decide +kernel
theorem dX5_isEven_6 : decode cX5_isEven 6 = .ok (.iload_n 1, 1) := by decide +kernel
theorem dX5_isEven_7 : decode cX5_isEven 7 = .ok (.imul, 1) := by decide +kernel
theorem dX5_isEven_8 : decode cX5_isEven 8 = .ok (.iaload, 1) := by decide +kernel
theorem dX5_isEven_9 : decode cX5_isEven 9 = .ok (.iconst 1, 1) := by decide +kernel
theorem dX5_isEven_10 : decode cX5_isEven 10 = .ok (.iand, 1) := by decide +kernel
theorem dX5_isEven_11 : decode cX5_isEven 11 = .ok (.ifCond .ne 7, 3) := by decide +kernel
theorem dX5_isEven_14 : decode cX5_isEven 14 = .ok (.iconst 1, 1) := by decide +kernel
theorem dX5_isEven_15 : decode cX5_isEven 15 = .ok (.goto 4, 3) := by decide +kernel
theorem dX5_isEven_18 : decode cX5_isEven 18 = .ok (.iconst 0, 1) := by decide +kernel
theorem dX5_isEven_19 : decode cX5_isEven 19 = .ok (.ireturn, 1) := by decide +kernel
theorem dX5_bitsOf_0 : decode cX5_bitsOf 0 = .ok (.bipush 35, 2) := by decide +kernel
theorem dX5_bitsOf_2 : decode cX5_bitsOf 2 = .ok (.istore_n 2, 1) := by decide +kernel
theorem dX5_bitsOf_3 : decode cX5_bitsOf 3 = .ok (.iload_n 2, 1) := by decide +kernel
theorem dX5_bitsOf_4 : decode cX5_bitsOf 4 = .ok (.ifCond .lt 23, 3) := by decide +kernel
theorem dX5_bitsOf_7 : decode cX5_bitsOf 7 = .ok (.aload_n 0, 1) := by decide +kernel
theorem dX5_bitsOf_8 : decode cX5_bitsOf 8 = .ok (.getfield 7, 3) := by decide +kernel
theorem dX5_bitsOf_11 : decode cX5_bitsOf 11 = .ok (.bipush 36, 2) := by decide +kernel
theorem dX5_bitsOf_13 : decode cX5_bitsOf 13 = .ok (.iload_n 1, 1) := by decide +kernel
theorem dX5_bitsOf_14 : decode cX5_bitsOf 14 = .ok (.imul, 1) := by decide +kernel
theorem dX5_bitsOf_15 : decode cX5_bitsOf 15 = .ok (.iload_n 2, 1) := by decide +kernel
theorem dX5_bitsOf_16 : decode cX5_bitsOf 16 = .ok (.iadd, 1) := by decide +kernel
theorem dX5_bitsOf_17 : decode cX5_bitsOf 17 = .ok (.iaload, 1) := by decide +kernel
theorem dX5_bitsOf_18 : decode cX5_bitsOf 18 = .ok (.ifCond .ne 9, 3) := by decide +kernel
theorem dX5_bitsOf_21 : decode cX5_bitsOf 21 = .ok (.iinc 2 (-1), 3) := by decide +kernel
theorem dX5_bitsOf_24 : decode cX5_bitsOf 24 = .ok (.goto (-21), 3) := by decide +kernel
theorem dX5_bitsOf_27 : decode cX5_bitsOf 27 = .ok (.bipush 16, 2) := by decide +kernel
theorem dX5_bitsOf_29 : decode cX5_bitsOf 29 = .ok (.iload_n 2, 1) := by decide +kernel
theorem dX5_bitsOf_30 : decode cX5_bitsOf 30 = .ok (.iconst 1, 1) := by decide +kernel
theorem dX5_bitsOf_31 : decode cX5_bitsOf 31 = .ok (.iadd, 1) := by decide +kernel
theorem dX5_bitsOf_32 : decode cX5_bitsOf 32 = .ok (.imul, 1) := by decide +kernel
theorem dX5_bitsOf_33 : decode cX5_bitsOf 33 = .ok (.istore_n 3, 1) := by decide +kernel
theorem dX5_bitsOf_34 : decode cX5_bitsOf 34 = .ok (.iload_n 2, 1) := by decide +kernel
theorem dX5_bitsOf_35 : decode cX5_bitsOf 35 = .ok (.ifCond .lt 34, 3) := by decide +kernel
theorem dX5_bitsOf_38 : decode cX5_bitsOf 38 = .ok (.aload_n 0, 1) := by decide +kernel
theorem dX5_bitsOf_39 : decode cX5_bitsOf 39 = .ok (.getfield 7, 3) := by decide +kernel
theorem dX5_bitsOf_42 : decode cX5_bitsOf 42 = .ok (.bipush 36, 2) := by decide +kernel
theorem dX5_bitsOf_44 : decode cX5_bitsOf 44 = .ok (.iload_n 1, 1) := by decide +kernel
theorem dX5_bitsOf_45 : decode cX5_bitsOf 45 = .ok (.imul, 1) := by decide +kernel
theorem dX5_bitsOf_46 : decode cX5_bitsOf 46 = .ok (.iload_n 2, 1) := by decide +kernel
theorem dX5_bitsOf_47 : decode cX5_bitsOf 47 = .ok (.iadd, 1) := by decide +kernel
theorem dX5_bitsOf_48 : decode cX5_bitsOf 48 = .ok (.iaload, 1) := by decide +kernel
theorem dX5_bitsOf_49 : decode cX5_bitsOf 49 = .ok (.iload_n 3, 1) := by decide +kernel
theorem dX5_bitsOf_50 : decode cX5_bitsOf 50 = .ok (.iconst 1, 1) := by decide +kernel
theorem dX5_bitsOf_51 : decode cX5_bitsOf 51 = .ok (.isub, 1) := by decide +kernel
theorem dX5_bitsOf_52 : decode cX5_bitsOf 52 = .ok (.bipush 16, 2) := by decide +kernel
theorem dX5_bitsOf_54 : decode cX5_bitsOf 54 = .ok (.iload_n 2, 1) := by decide +kernel
theorem dX5_bitsOf_55 : decode cX5_bitsOf 55 = .ok (.imul, 1) := by decide +kernel
theorem dX5_bitsOf_56 : decode cX5_bitsOf 56 = .ok (.isub, 1) := by decide +kernel
theorem dX5_bitsOf_57 : decode cX5_bitsOf 57 = .ok (.ishr, 1) := by decide +kernel
theorem dX5_bitsOf_58 : decode cX5_bitsOf 58 = .ok (.iconst 1, 1) := by decide +kernel
theorem dX5_bitsOf_59 : decode cX5_bitsOf 59 = .ok (.iand, 1) := by decide +kernel
theorem dX5_bitsOf_60 : decode cX5_bitsOf 60 = .ok (.ifCond .ne 9, 3) := by decide +kernel
theorem dX5_bitsOf_63 : decode cX5_bitsOf 63 = .ok (.iinc 3 (-1), 3) := by decide +kernel
theorem dX5_bitsOf_66 : decode cX5_bitsOf 66 = .ok (.goto (-32), 3) := by decide +kernel
theorem dX5_bitsOf_69 : decode cX5_bitsOf 69 = .ok (.iload_n 3, 1) := by decide +kernel
theorem dX5_bitsOf_70 : decode cX5_bitsOf 70 = .ok (.ireturn, 1) := by decide +kernel
set_option maxRecDepth 20000 in
theorem ggX5_divide_X5_put : GoodIn wsX5_divide wsX5_put := goodIn_r _ [7, 2, 8, 26, 27, 28, 29, 30, 31, 32] (by decide +kernel) (by decide +kernel)
set_option maxRecDepth 20000 in
theorem gX5_divide_X5_put : GoodIn wsX5_divide (wsV RX5 23 RX5 yX5_put wsX5_put) := goodIn_app (goodIn_of _ (by decide +kernel)) ggX5_divide_X5_put
set_option maxRecDepth 20000 in
theorem ggX5_divide_X5_bitsOf : GoodIn wsX5_divide wsX5_bitsOf := goodIn_r _ [12, 2, 26, 27, 28, 29, 30, 31, 32] (by decide +kernel) (by decide +kernel)
set_option maxRecDepth 20000 in
theorem gX5_divide_X5_bitsOf : GoodIn wsX5_divide (wsV RX5 30 RX5 yX5_bitsOf wsX5_bitsOf) := goodIn_app (goodIn_of _ (by decide +kernel)) ggX5_divide_X5_bitsOf
set_option maxRecDepth 20000 in
theorem ggX5_divide_X5_grow : GoodIn wsX5_divide wsX5_grow := goodIn_r _ [16, 2, 8, 26, 27, 28, 29, 30, 31, 32] (by decide +kernel) (by decide +kernel)
set_option maxRecDepth 20000 in
theorem gX5_divide_X5_grow : GoodIn wsX5_divide (wsV RX5 36 RX5 yX5_grow wsX5_grow) := goodIn_app (goodIn_of _ (by decide +kernel)) ggX5_divide_X5_grow
set_option maxRecDepth 20000 in
theorem ggX5_divide_X5_compare : GoodIn wsX5_divide wsX5_compare := goodIn_r _ [20, 2, 26, 27, 28, 29, 30, 31, 32] (by decide +kernel) (by decide +kernel)
set_option maxRecDepth 20000 in
theorem gX5_divide_X5_compare : GoodIn wsX5_divide (wsV RX5 39 RX5 yX5_compare wsX5_compare) := goodIn_app (goodIn_of _ (by decide +kernel)) ggX5_divide_X5_compare
set_option maxRecDepth 20000 in
theorem ggX5_divide_X5_lessen : GoodIn wsX5_divide wsX5_lessen := goodIn_r _ [24, 2, 25, 26, 27, 28, 29, 30, 31, 32] (by decide +kernel) (by decide +kernel)
set_option maxRecDepth 20000 in
theorem gX5_divide_X5_lessen : GoodIn wsX5_divide (wsV RX5 43 RX5 yX5_lessen wsX5_lessen) := goodIn_app (goodIn_of _ (by decide +kernel)) ggX5_divide_X5_lessen
theorem dX5_divide_0 : decode cX5_divide 0 = .ok (.aload_n 0, 1) := by decide +kernel
theorem dX5_divide_1 : decode cX5_divide 1 = .ok (.bipush 20, 2) := by decide +kernel
theorem dX5_divide_3 : decode cX5_divide 3 = .ok (.lconst 0, 1) := by decide +kernel
theorem dX5_divide_4 : decode cX5_divide 4 = .ok (.invokevirtual 23, 3) := by decide +kernel
theorem dX5_divide_7 : decode cX5_divide 7 = .ok (.aload_n 0, 1) := by decide +kernel
theorem dX5_divide_8 : decode cX5_divide 8 = .ok (.bipush 21, 2) := by decide +kernel
theorem dX5_divide_10 : decode cX5_divide 10 = .ok (.lconst 0, 1) := by decide +kernel
theorem dX5_divide_11 : decode cX5_divide 11 = .ok (.invokevirtual 23, 3) := by decide +kernel
theorem dX5_divide_14 : decode cX5_divide 14 = .ok (.aload_n 0, 1) := by decide +kernel
theorem dX5_divide_15 : decode cX5_divide 15 = .ok (.iload_n 1, 1) := by decide +kernel
theorem dX5_divide_16 : decode cX5_divide 16 = .ok (.invokevirtual 30, 3) := by decide +kernel
theorem dX5_divide_19 : decode cX5_divide 19 = .ok (.iconst 1, 1) := by decide +kernel
theorem dX5_divide_20 : decode cX5_divide 20 = .ok (.isub, 1) := by decide +kernel
theorem dX5_divide_21 : decode cX5_divide 21 = .ok (.istore_n 3, 1) := by decide +kernel
theorem dX5_divide_22 : decode cX5_divide 22 = .ok (.iload_n 3, 1) := by decide +kernel
theorem dX5_divide_23 : decode cX5_divide 23 = .ok (.ifCond .lt 89, 3) := by decide +kernel
theorem dX5_divide_26 : decode cX5_divide 26 = .ok (.aload_n 0, 1) := by decide +kernel
theorem dX5_divide_27 : decode cX5_divide 27 = .ok (.bipush 21, 2) := by decide +kernel
theorem dX5_divide_29 : decode cX5_divide 29 = .ok (.ldc2_w 34, 3) := by decide +kernel
theorem dX5_divide_32 : decode cX5_divide 32 = .ok (.invokevirtual 36, 3) := by decide +kernel
theorem dX5_divide_35 : decode cX5_divide 35 = .ok (.aload_n 0, 1) := by decide +kernel
theorem dX5_divide_36 : decode cX5_divide 36 = .ok (.getfield 7, 3) := by decide +kernel
theorem dX5_divide_39 : decode cX5_divide 39 = .ok (.sipush 756, 3) := by decide +kernel
theorem dX5_divide_42 : decode cX5_divide 42 = .ok (.dup2, 1) := by decide +kernel
theorem dX5_divide_43 : decode cX5_divide 43 = .ok (.iaload, 1) := by decide +kernel
theorem dX5_divide_44 : decode cX5_divide 44 = .ok (.aload_n 0, 1) := by decide +kernel
theorem dX5_divide_45 : decode cX5_divide 45 = .ok (.getfield 7, 3) := by decide +kernel
theorem dX5_divide_48 : decode cX5_divide 48 = .ok (.bipush 36, 2) := by decide +kernel
theorem dX5_divide_50 : decode cX5_divide 50 = .ok (.iload_n 1, 1) := by decide +kernel
theorem dX5_divide_51 : decode cX5_divide 51 = .ok (.imul, 1) := by decide +kernel
theorem dX5_divide_52 : decode cX5_divide 52 = .ok (.iload_n 3, 1) := by decide +kernel
theorem dX5_divide_53 : decode cX5_divide 53 = .ok (.bipush 16, 2) := by decide +kernel
theorem dX5_divide_55 : decode cX5_divide 55 = .ok (.idiv, 1) := by decide +kernel
theorem dX5_divide_56 : decode cX5_divide 56 = .ok (.iadd, 1) := by decide +kernel
theorem dX5_divide_57 : decode cX5_divide 57 = .ok (.iaload, 1) := by decide +kernel
theorem dX5_divide_58 : decode cX5_divide 58 = .ok (.iload_n 3, 1) := by decide +kernel
theorem dX5_divide_59 : decode cX5_divide 59 = .ok (.bipush 16, 2) := by decide +kernel
theorem dX5_divide_61 : decode cX5_divide 61 = .ok (.irem, 1) := by decide +kernel
theorem dX5_divide_62 : decode cX5_divide 62 = .ok (.ishr, 1) := by decide +kernel
theorem dX5_divide_63 : decode cX5_divide 63 = .ok (.iconst 1, 1) := by decide +kernel
theorem dX5_divide_64 : decode cX5_divide 64 = .ok (.iand, 1) := by decide +kernel
theorem dX5_divide_65 : decode cX5_divide 65 = .ok (.ior, 1) := by decide +kernel
theorem dX5_divide_66 : decode cX5_divide 66 = .ok (.iastore, 1) := by decide +kernel
theorem dX5_divide_67 : decode cX5_divide 67 = .ok (.aload_n 0, 1) := by decide +kernel
theorem dX5_divide_68 : decode cX5_divide 68 = .ok (.bipush 21, 2) := by decide +kernel
theorem dX5_divide_70 : decode cX5_divide 70 = .ok (.iload_n 2, 1) := by decide +kernel
theorem dX5_divide_71 : decode cX5_divide 71 = .ok (.invokevirtual 39, 3) := by decide +kernel
theorem dX5_divide_74 : decode cX5_divide 74 = .ok (.ifCond .lt 32, 3) := by decide +kernel
theorem dX5_divide_77 : decode cX5_divide 77 = .ok (.aload_n 0, 1) := by decide +kernel
theorem dX5_divide_78 : decode cX5_divide 78 = .ok (.bipush 21, 2) := by decide +kernel
theorem dX5_divide_80 : decode cX5_divide 80 = .ok (.iload_n 2, 1) := by decide +kernel
theorem dX5_divide_81 : decode cX5_divide 81 = .ok (.invokevirtual 43, 3) := by decide +kernel
theorem dX5_divide_84 : decode cX5_divide 84 = .ok (.aload_n 0, 1) := by decide +kernel
theorem dX5_divide_85 : decode cX5_divide 85 = .ok (.getfield 7, 3) := by decide +kernel
theorem dX5_divide_88 : decode cX5_divide 88 = .ok (.sipush 720, 3) := by decide +kernel
theorem dX5_divide_91 : decode cX5_divide 91 = .ok (.iload_n 3, 1) := by decide +kernel
theorem dX5_divide_92 : decode cX5_divide 92 = .ok (.bipush 16, 2) := by decide +kernel
theorem dX5_divide_94 : decode cX5_divide 94 = .ok (.idiv, 1) := by decide +kernel
theorem dX5_divide_95 : decode cX5_divide 95 = .ok (.iadd, 1) := by decide +kernel
theorem dX5_divide_96 : decode cX5_divide 96 = .ok (.dup2, 1) := by decide +kernel
theorem dX5_divide_97 : decode cX5_divide 97 = .ok (.iaload, 1) := by decide +kernel
theorem dX5_divide_98 : decode cX5_divide 98 = .ok (.iconst 1, 1) := by decide +kernel
theorem dX5_divide_99 : decode cX5_divide 99 = .ok (.iload_n 3, 1) := by decide +kernel
theorem dX5_divide_100 : decode cX5_divide 100 = .ok (.bipush 16, 2) := by decide +kernel
theorem dX5_divide_102 : decode cX5_divide 102 = .ok (.irem, 1) := by decide +kernel
theorem dX5_divide_103 : decode cX5_divide 103 = .ok (.ishl, 1) := by decide +kernel
theorem dX5_divide_104 : decode cX5_divide 104 = .ok (.ior, 1) := by decide +kernel
theorem dX5_divide_105 : decode cX5_divide 105 = .ok (.iastore, 1) := by decide +kernel
theorem dX5_divide_106 : decode cX5_divide 106 = .ok (.iinc 3 (-1), 3) := by decide +kernel
theorem dX5_divide_109 : decode cX5_divide 109 = .ok (.goto (-87), 3) := by decide +kernel
theorem dX5_divide_112 : decode cX5_divide 112 = .ok (.return_, 1) := by decide +kernel
set_option maxRecDepth 20000 in
theorem ggX5_common_X5_copy : GoodIn wsX5_common wsX5_copy := goodIn_r _ [6, 7, 34, 35, 36, 37, 38, 39, 40] (by decide +kernel) (by decide +kernel)
set_option maxRecDepth 20000 in
theorem gX5_common_X5_copy : GoodIn wsX5_common (wsV RX5 47 RX5 yX5_copy wsX5_copy) := goodIn_app (goodIn_of _ (by decide +kernel)) ggX5_common_X5_copy
set_option maxRecDepth 20000 in
theorem ggX5_common_X5_isEven : GoodIn wsX5_common wsX5_isEven := goodIn_r _ [11, 7, 34, 35, 36, 37, 38, 39, 40] (by decide +kernel) (by decide +kernel)
set_option maxRecDepth 20000 in
theorem gX5_common_X5_isEven : GoodIn wsX5_common (wsV RX5 50 RX5 yX5_isEven wsX5_isEven) := goodIn_app (goodIn_of _ (by decide +kernel)) ggX5_common_X5_isEven
set_option maxRecDepth 20000 in
theorem ggX5_common_X5_halve : GoodIn wsX5_common wsX5_halve := goodIn_r _ [15, 7, 34, 35, 36, 37, 38, 39, 40] (by decide +kernel) (by decide +kernel)
set_option maxRecDepth 20000 in
theorem gX5_common_X5_halve : GoodIn wsX5_common (wsV RX5 54 RX5 yX5_halve wsX5_halve) := goodIn_app (goodIn_of _ (by decide +kernel)) ggX5_common_X5_halve
set_option maxRecDepth 20000 in
theorem ggX5_common_X5_isZero : GoodIn wsX5_common wsX5_isZero := goodIn_r _ [19, 7, 34, 35, 36, 37, 38, 39, 40] (by decide +kernel) (by decide +kernel)
set_option maxRecDepth 20000 in
theorem gX5_common_X5_isZero : GoodIn wsX5_common (wsV RX5 58 RX5 yX5_isZero wsX5_isZero) := goodIn_app (goodIn_of _ (by decide +kernel)) ggX5_common_X5_isZero
set_option maxRecDepth 20000 in
theorem ggX5_common_X5_compare : GoodIn wsX5_common wsX5_compare := goodIn_r _ [23, 7, 34, 35, 36, 37, 38, 39, 40] (by decide +kernel) (by decide +kernel)
set_option maxRecDepth 20000 in
theorem gX5_common_X5_compare : GoodIn wsX5_common (wsV RX5 39 RX5 yX5_compare wsX5_compare) := goodIn_app (goodIn_of _ (by decide +kernel)) ggX5_common_X5_compare
set_option maxRecDepth 20000 in
theorem ggX5_common_X5_lessen : GoodIn wsX5_common wsX5_lessen := goodIn_r _ [27, 7, 28, 34, 35, 36, 37, 38, 39, 40] (by decide +kernel) (by decide +kernel)
set_option maxRecDepth 20000 in
theorem gX5_common_X5_lessen : GoodIn wsX5_common (wsV RX5 43 RX5 yX5_lessen wsX5_lessen) := goodIn_app (goodIn_of _ (by decide +kernel)) ggX5_common_X5_lessen
set_option maxRecDepth 20000 in
theorem ggX5_common_X5_grow : GoodIn wsX5_common wsX5_grow := goodIn_r _ [32, 7, 33, 34, 35, 36, 37, 38, 39, 40] (by decide +kernel) (by decide +kernel)
set_option maxRecDepth 20000 in
theorem gX5_common_X5_grow : GoodIn wsX5_common (wsV RX5 36 RX5 yX5_grow wsX5_grow) := goodIn_app (goodIn_of _ (by decide +kernel)) ggX5_common_X5_grow
theorem dX5_common_0 : decode cX5_common 0 = .ok (.aload_n 0, 1) := by decide +kernel
theorem dX5_common_1 : decode cX5_common 1 = .ok (.bipush 16, 2) := by decide +kernel
theorem dX5_common_3 : decode cX5_common 3 = .ok (.bipush 24, 2) := by decide +kernel
theorem dX5_common_5 : decode cX5_common 5 = .ok (.invokevirtual 47, 3) := by decide +kernel
theorem dX5_common_8 : decode cX5_common 8 = .ok (.aload_n 0, 1) := by decide +kernel
theorem dX5_common_9 : decode cX5_common 9 = .ok (.bipush 17, 2) := by decide +kernel
theorem dX5_common_11 : decode cX5_common 11 = .ok (.bipush 25, 2) := by decide +kernel
theorem dX5_common_13 : decode cX5_common 13 = .ok (.invokevirtual 47, 3) := by decide +kernel
theorem dX5_common_16 : decode cX5_common 16 = .ok (.iconst 0, 1) := by decide +kernel
theorem dX5_common_17 : decode cX5_common 17 = .ok (.istore_n 1, 1) := by decide +kernel
theorem dX5_common_18 : decode cX5_common 18 = .ok (.aload_n 0, 1) := by decide +kernel
theorem dX5_common_19 : decode cX5_common 19 = .ok (.bipush 24, 2) := by decide +kernel
theorem dX5_common_21 : decode cX5_common 21 = .ok (.invokevirtual 50, 3) := by decide +kernel
theorem dX5_common_24 : decode cX5_common 24 = .ok (.ifCond .eq 30, 3) := by decide +kernel
theorem dX5_common_27 : decode cX5_common 27 = .ok (.aload_n 0, 1) := by decide +kernel
theorem dX5_common_28 : decode cX5_common 28 = .ok (.bipush 25, 2) := by decide +kernel
theorem dX5_common_30 : decode cX5_common 30 = .ok (.invokevirtual 50, 3) := by decide +kernel
theorem dX5_common_33 : decode cX5_common 33 = .ok (.ifCond .eq 21, 3) := by decide +kernel
theorem dX5_common_36 : decode cX5_common 36 = .ok (.aload_n 0, 1) := by decide +kernel
theorem dX5_common_37 : decode cX5_common 37 = .ok (.bipush 24, 2) := by decide +kernel
theorem dX5_common_39 : decode cX5_common 39 = .ok (.invokevirtual 54, 3) := by decide +kernel
theorem dX5_common_42 : decode cX5_common 42 = .ok (.aload_n 0, 1) := by decide +kernel
theorem dX5_common_43 : decode cX5_common 43 = .ok (.bipush 25, 2) := by decide +kernel
theorem dX5_common_45 : decode cX5_common 45 = .ok (.invokevirtual 54, 3) := by decide +kernel
theorem dX5_common_48 : decode cX5_common 48 = .ok (.iinc 1 1, 3) := by decide +kernel
theorem dX5_common_51 : decode cX5_common 51 = .ok (.goto (-33), 3) := by decide +kernel
theorem dX5_common_54 : decode cX5_common 54 = .ok (.aload_n 0, 1) := by decide +kernel
theorem dX5_common_55 : decode cX5_common 55 = .ok (.bipush 25, 2) := by decide +kernel
theorem dX5_common_57 : decode cX5_common 57 = .ok (.invokevirtual 58, 3) := by decide +kernel
theorem dX5_common_60 : decode cX5_common 60 = .ok (.ifCond .ne 72, 3) := by decide +kernel
theorem dX5_common_63 : decode cX5_common 63 = .ok (.aload_n 0, 1) := by decide +kernel
theorem dX5_common_64 : decode cX5_common 64 = .ok (.bipush 25, 2) := by decide +kernel
theorem dX5_common_66 : decode cX5_common 66 = .ok (.invokevirtual 50, 3) := by decide +kernel
theorem dX5_common_69 : decode cX5_common 69 = .ok (.ifCond .eq 12, 3) := by decide +kernel
theorem dX5_common_72 : decode cX5_common 72 = .ok (.aload_n 0, 1) := by decide +kernel
theorem dX5_common_73 : decode cX5_common 73 = .ok (.bipush 25, 2) := by decide +kernel
theorem dX5_common_75 : decode cX5_common 75 = .ok (.invokevirtual 54, 3) := by decide +kernel
theorem dX5_common_78 : decode cX5_common 78 = .ok (.goto (-15), 3) := by decide +kernel
theorem dX5_common_81 : decode cX5_common 81 = .ok (.aload_n 0, 1) := by decide +kernel
theorem dX5_common_82 : decode cX5_common 82 = .ok (.bipush 24, 2) := by decide +kernel
theorem dX5_common_84 : decode cX5_common 84 = .ok (.invokevirtual 50, 3) := by decide +kernel
theorem dX5_common_87 : decode cX5_common 87 = .ok (.ifCond .eq 12, 3) := by decide +kernel
theorem dX5_common_90 : decode cX5_common 90 = .ok (.aload_n 0, 1) := by decide +kernel
theorem dX5_common_91 : decode cX5_common 91 = .ok (.bipush 24, 2) := by decide +kernel
theorem dX5_common_93 : decode cX5_common 93 = .ok (.invokevirtual 54, 3) := by decide +kernel
theorem dX5_common_96 : decode cX5_common 96 = .ok (.goto (-15), 3) := by decide +kernel
theorem dX5_common_99 : decode cX5_common 99 = .ok (.aload_n 0, 1) := by decide +kernel
theorem dX5_common_100 : decode cX5_common 100 = .ok (.bipush 25, 2) := by decide +kernel
theorem dX5_common_102 : decode cX5_common 102 = .ok (.bipush 24, 2) := by decide +kernel
theorem dX5_common_104 : decode cX5_common 104 = .ok (.invokevirtual 39, 3) := by decide +kernel
theorem dX5_common_107 : decode cX5_common 107 = .ok (.ifCond .lt 14, 3) := by decide +kernel
theorem dX5_common_110 : decode cX5_common 110 = .ok (.aload_n 0, 1) := by decide +kernel
theorem dX5_common_111 : decode cX5_common 111 = .ok (.bipush 25, 2) := by decide +kernel
theorem dX5_common_113 : decode cX5_common 113 = .ok (.bipush 24, 2) := by decide +kernel
theorem dX5_common_115 : decode cX5_common 115 = .ok (.invokevirtual 43, 3) := by decide +kernel
theorem dX5_common_118 : decode cX5_common 118 = .ok (.goto (-64), 3) := by decide +kernel
theorem dX5_common_121 : decode cX5_common 121 = .ok (.aload_n 0, 1) := by decide +kernel
theorem dX5_common_122 : decode cX5_common 122 = .ok (.bipush 24, 2) := by decide +kernel
theorem dX5_common_124 : decode cX5_common 124 = .ok (.bipush 25, 2) := by decide +kernel
theorem dX5_common_126 : decode cX5_common 126 = .ok (.invokevirtual 43, 3) := by decide +kernel
theorem dX5_common_129 : decode cX5_common 129 = .ok (.goto (-75), 3) := by decide +kernel
theorem dX5_common_132 : decode cX5_common 132 = .ok (.iconst 0, 1) := by decide +kernel
theorem dX5_common_133 : decode cX5_common 133 = .ok (.istore_n 2, 1) := by decide +kernel
theorem dX5_common_134 : decode cX5_common 134 = .ok (.iload_n 2, 1) := by decide +kernel
theorem dX5_common_135 : decode cX5_common 135 = .ok (.iload_n 1, 1) := by decide +kernel
theorem dX5_common_136 : decode cX5_common 136 = .ok (.if_icmp .ge 18, 3) := by decide +kernel
theorem dX5_common_139 : decode cX5_common 139 = .ok (.aload_n 0, 1) := by decide +kernel
theorem dX5_common_140 : decode cX5_common 140 = .ok (.bipush 24, 2) := by decide +kernel
theorem dX5_common_142 : decode cX5_common 142 = .ok (.ldc2_w 34, 3) := by decide +kernel
theorem dX5_common_145 : decode cX5_common 145 = .ok (.invokevirtual 36, 3) := by decide +kernel
theorem dX5_common_148 : decode cX5_common 148 = .ok (.iinc 2 1, 3) := by decide +kernel
theorem dX5_common_151 : decode cX5_common 151 = .ok (.goto (-17), 3) := by decide +kernel
theorem dX5_common_154 : decode cX5_common 154 = .ok (.return_, 1) := by decide +kernel
set_option maxRecDepth 20000 in
theorem ggX5_reduce_X5_isZero : GoodIn wsX5_reduce wsX5_isZero := goodIn_r _ [6, 7, 51, 52, 53, 54, 55, 56, 57] (by decide +kernel) (by decide +kernel)
set_option maxRecDepth 20000 in
theorem gX5_reduce_X5_isZero : GoodIn wsX5_reduce (wsV RX5 58 RX5 yX5_isZero wsX5_isZero) := goodIn_app (goodIn_of _ (by decide +kernel)) ggX5_reduce_X5_isZero
set_option maxRecDepth 20000 in
theorem ggX5_reduce_X5_put : GoodIn wsX5_reduce wsX5_put := goodIn_r _ [11, 7, 12, 51, 52, 53, 54, 55, 56, 57] (by decide +kernel) (by decide +kernel)
set_option maxRecDepth 20000 in
theorem gX5_reduce_X5_put : GoodIn wsX5_reduce (wsV RX5 23 RX5 yX5_put wsX5_put) := goodIn_app (goodIn_of _ (by decide +kernel)) ggX5_reduce_X5_put
set_option maxRecDepth 20000 in
theorem ggX5_reduce_X5_common : GoodIn wsX5_reduce wsX5_common := goodIn_r _ [16, 17, 18, 19, 20, 5, 21, 7, 22, 23, 24, 25, 26, 27, 28, 29, 2, 3, 4, 6, 30, 31, 32, 33, 34, 35, 36, 37, 38, 39, 40, 41, 42, 12, 51, 52, 53, 54, 55, 56, 57] (by decide +kernel) (by decide +kernel)
set_option maxRecDepth 20000 in
theorem gX5_reduce_X5_common : GoodIn wsX5_reduce (wsV RX5 64 RX5 yX5_common wsX5_common) := goodIn_app (goodIn_of _ (by decide +kernel)) ggX5_reduce_X5_common
set_option maxRecDepth 20000 in
theorem ggX5_reduce_X5_copy : GoodIn wsX5_reduce wsX5_copy := goodIn_r _ [21, 7, 51, 52, 53, 54, 55, 56, 57] (by decide +kernel) (by decide +kernel)
set_option maxRecDepth 20000 in
theorem gX5_reduce_X5_copy : GoodIn wsX5_reduce (wsV RX5 47 RX5 yX5_copy wsX5_copy) := goodIn_app (goodIn_of _ (by decide +kernel)) ggX5_reduce_X5_copy
set_option maxRecDepth 20000 in
theorem ggX5_reduce_X5_divide : GoodIn wsX5_reduce wsX5_divide := goodIn_r _ [46, 17, 7, 8, 9, 10, 5, 11, 12, 47, 48, 49, 50, 39, 40, 41, 42, 30, 31, 32, 33, 34, 35, 36, 37, 38, 51, 52, 53, 54, 55, 56, 57] (by decide +kernel) (by decide +kernel)
set_option maxRecDepth 20000 in
theorem gX5_reduce_X5_divide : GoodIn wsX5_reduce (wsV RX5 67 RX5 yX5_divide wsX5_divide) := goodIn_app (goodIn_of _ (by decide +kernel)) ggX5_reduce_X5_divide
theorem dX5_reduce_0 : decode cX5_reduce 0 = .ok (.aload_n 0, 1) := by decide +kernel
theorem dX5_reduce_1 : decode cX5_reduce 1 = .ok (.bipush 16, 2) := by decide +kernel
theorem dX5_reduce_3 : decode cX5_reduce 3 = .ok (.invokevirtual 58, 3) := by decide +kernel
theorem dX5_reduce_6 : decode cX5_reduce 6 = .ok (.ifCond .eq 16, 3) := by decide +kernel
theorem dX5_reduce_9 : decode cX5_reduce 9 = .ok (.aload_n 0, 1) := by decide +kernel
theorem dX5_reduce_10 : decode cX5_reduce 10 = .ok (.bipush 17, 2) := by decide +kernel
theorem dX5_reduce_12 : decode cX5_reduce 12 = .ok (.lconst 1, 1) := by decide +kernel
theorem dX5_reduce_13 : decode cX5_reduce 13 = .ok (.invokevirtual 23, 3) := by decide +kernel
theorem dX5_reduce_16 : decode cX5_reduce 16 = .ok (.aload_n 0, 1) := by decide +kernel
theorem dX5_reduce_17 : decode cX5_reduce 17 = .ok (.iconst 0, 1) := by decide +kernel
theorem dX5_reduce_18 : decode cX5_reduce 18 = .ok (.putfield 61, 3) := by decide +kernel
theorem dX5_reduce_21 : decode cX5_reduce 21 = .ok (.return_, 1) := by decide +kernel
theorem dX5_reduce_22 : decode cX5_reduce 22 = .ok (.aload_n 0, 1) := by decide +kernel
