theorem dX5_reduce_23 : decode cX5_reduce 23 = .ok (.invokevirtual 64, 3) := by decide +kernel
theorem dX5_reduce_26 : decode cX5_reduce 26 = .ok (.aload_n 0, 1) := by decide +kernel
theorem dX5_reduce_27 : decode cX5_reduce 27 = .ok (.bipush 24, 2) := by decide +kernel
theorem dX5_reduce_29 : decode cX5_reduce 29 = .ok (.bipush 26, 2) := by decide +kernel
theorem dX5_reduce_31 : decode cX5_reduce 31 = .ok (.invokevirtual 47, 3) := by decide +kernel
theorem dX5_reduce_34 : decode cX5_reduce 34 = .ok (.aload_n 0, 1) := by decide +kernel
theorem dX5_reduce_35 : decode cX5_reduce 35 = .ok (.bipush 16, 2) := by decide +kernel
theorem dX5_reduce_37 : decode cX5_reduce 37 = .ok (.bipush 26, 2) := by decide +kernel
theorem dX5_reduce_39 : decode cX5_reduce 39 = .ok (.invokevirtual 67, 3) := by decide +kernel
theorem dX5_reduce_42 : decode cX5_reduce 42 = .ok (.aload_n 0, 1) := by decide +kernel
theorem dX5_reduce_43 : decode cX5_reduce 43 = .ok (.bipush 20, 2) := by decide +kernel
theorem dX5_reduce_45 : decode cX5_reduce 45 = .ok (.bipush 16, 2) := by decide +kernel
theorem dX5_reduce_47 : decode cX5_reduce 47 = .ok (.invokevirtual 47, 3) := by decide +kernel
theorem dX5_reduce_50 : decode cX5_reduce 50 = .ok (.aload_n 0, 1) := by decide +kernel
theorem dX5_reduce_51 : decode cX5_reduce 51 = .ok (.bipush 17, 2) := by decide +kernel
theorem dX5_reduce_53 : decode cX5_reduce 53 = .ok (.bipush 26, 2) := by decide +kernel
theorem dX5_reduce_55 : decode cX5_reduce 55 = .ok (.invokevirtual 67, 3) := by decide +kernel
theorem dX5_reduce_58 : decode cX5_reduce 58 = .ok (.aload_n 0, 1) := by decide +kernel
theorem dX5_reduce_59 : decode cX5_reduce 59 = .ok (.bipush 20, 2) := by decide +kernel
theorem dX5_reduce_61 : decode cX5_reduce 61 = .ok (.bipush 17, 2) := by decide +kernel
theorem dX5_reduce_63 : decode cX5_reduce 63 = .ok (.invokevirtual 47, 3) := by decide +kernel
theorem dX5_reduce_66 : decode cX5_reduce 66 = .ok (.return_, 1) := by decide +kernel
set_option maxRecDepth 20000 in
theorem ggX5_store_X5_reduce : GoodIn wsX5_store wsX5_reduce := goodIn_r _ [8, 3, 9, 10, 11, 7, 12, 13, 14, 15, 16, 17, 18, 19, 20, 21, 22, 23, 24, 25, 26, 27, 28, 29, 30, 31, 32, 33, 34, 35, 36, 37, 38, 39, 40, 41, 42, 43, 44, 45, 46, 47, 48, 49, 50, 51, 52, 53, 54, 55, 56, 57, 58, 59, 60, 61, 62, 63] (by decide +kernel) (by decide +kernel)
set_option maxRecDepth 20000 in
theorem gX5_store_X5_reduce : GoodIn wsX5_store (wsV RX5 70 RX5 yX5_reduce wsX5_reduce) := goodIn_app (goodIn_of _ (by decide +kernel)) ggX5_store_X5_reduce
set_option maxRecDepth 20000 in
theorem ggX5_store_X5_bitsOf : GoodIn wsX5_store wsX5_bitsOf := goodIn_r _ [56, 13, 57, 58, 59, 60, 61, 62, 63] (by decide +kernel) (by decide +kernel)
set_option maxRecDepth 20000 in
theorem gX5_store_X5_bitsOf : GoodIn wsX5_store (wsV RX5 30 RX5 yX5_bitsOf wsX5_bitsOf) := goodIn_app (goodIn_of _ (by decide +kernel)) ggX5_store_X5_bitsOf
set_option maxRecDepth 20000 in
theorem ggX5_store_X5_copy : GoodIn wsX5_store wsX5_copy := goodIn_r _ [27, 13, 57, 58, 59, 60, 61, 62, 63] (by decide +kernel) (by decide +kernel)
set_option maxRecDepth 20000 in
theorem gX5_store_X5_copy : GoodIn wsX5_store (wsV RX5 47 RX5 yX5_copy wsX5_copy) := goodIn_app (goodIn_of _ (by decide +kernel)) ggX5_store_X5_copy
theorem dX5_store_0 : decode cX5_store 0 = .ok (.aload_n 0, 1) := by decide +kernel
theorem dX5_store_1 : decode cX5_store 1 = .ok (.invokevirtual 70, 3) := by decide +kernel
theorem dX5_store_4 : decode cX5_store 4 = .ok (.aload_n 0, 1) := by decide +kernel
theorem dX5_store_5 : decode cX5_store 5 = .ok (.bipush 16, 2) := by decide +kernel
theorem dX5_store_7 : decode cX5_store 7 = .ok (.invokevirtual 30, 3) := by decide +kernel
theorem dX5_store_10 : decode cX5_store 10 = .ok (.bipush 32, 2) := by decide +kernel
theorem dX5_store_12 : decode cX5_store 12 = .ok (.aload_n 0, 1) := by decide +kernel
theorem dX5_store_13 : decode cX5_store 13 = .ok (.getfield 20, 3) := by decide +kernel
theorem dX5_store_16 : decode cX5_store 16 = .ok (.imul, 1) := by decide +kernel
theorem dX5_store_17 : decode cX5_store 17 = .ok (.if_icmp .gt 19, 3) := by decide +kernel
theorem dX5_store_20 : decode cX5_store 20 = .ok (.aload_n 0, 1) := by decide +kernel
theorem dX5_store_21 : decode cX5_store 21 = .ok (.bipush 17, 2) := by decide +kernel
theorem dX5_store_23 : decode cX5_store 23 = .ok (.invokevirtual 30, 3) := by decide +kernel
theorem dX5_store_26 : decode cX5_store 26 = .ok (.bipush 32, 2) := by decide +kernel
theorem dX5_store_28 : decode cX5_store 28 = .ok (.aload_n 0, 1) := by decide +kernel
theorem dX5_store_29 : decode cX5_store 29 = .ok (.getfield 20, 3) := by decide +kernel
theorem dX5_store_32 : decode cX5_store 32 = .ok (.imul, 1) := by decide +kernel
theorem dX5_store_33 : decode cX5_store 33 = .ok (.if_icmp .le 5, 3) := by decide +kernel
theorem dX5_store_36 : decode cX5_store 36 = .ok (.iconst 1, 1) := by decide +kernel
theorem dX5_store_37 : decode cX5_store 37 = .ok (.ireturn, 1) := by decide +kernel
theorem dX5_store_38 : decode cX5_store 38 = .ok (.aload_n 0, 1) := by decide +kernel
theorem dX5_store_39 : decode cX5_store 39 = .ok (.bipush 16, 2) := by decide +kernel
theorem dX5_store_41 : decode cX5_store 41 = .ok (.iload_n 1, 1) := by decide +kernel
theorem dX5_store_42 : decode cX5_store 42 = .ok (.invokevirtual 47, 3) := by decide +kernel
theorem dX5_store_45 : decode cX5_store 45 = .ok (.aload_n 0, 1) := by decide +kernel
theorem dX5_store_46 : decode cX5_store 46 = .ok (.bipush 17, 2) := by decide +kernel
theorem dX5_store_48 : decode cX5_store 48 = .ok (.bipush 8, 2) := by decide +kernel
theorem dX5_store_50 : decode cX5_store 50 = .ok (.iload_n 1, 1) := by decide +kernel
theorem dX5_store_51 : decode cX5_store 51 = .ok (.iadd, 1) := by decide +kernel
theorem dX5_store_52 : decode cX5_store 52 = .ok (.invokevirtual 47, 3) := by decide +kernel
theorem dX5_store_55 : decode cX5_store 55 = .ok (.aload_n 0, 1) := by decide +kernel
theorem dX5_store_56 : decode cX5_store 56 = .ok (.getfield 13, 3) := by decide +kernel
theorem dX5_store_59 : decode cX5_store 59 = .ok (.iload_n 1, 1) := by decide +kernel
theorem dX5_store_60 : decode cX5_store 60 = .ok (.aload_n 0, 1) := by decide +kernel
theorem dX5_store_61 : decode cX5_store 61 = .ok (.getfield 61, 3) := by decide +kernel
theorem dX5_store_64 : decode cX5_store 64 = .ok (.iastore, 1) := by decide +kernel
theorem dX5_store_65 : decode cX5_store 65 = .ok (.iconst 0, 1) := by decide +kernel
theorem dX5_store_66 : decode cX5_store 66 = .ok (.ireturn, 1) := by decide +kernel
set_option maxRecDepth 20000 in
theorem ggX5_set_X5_isRegister : GoodIn wsX5_set wsX5_isRegister := goodIn_r _ [6, 7, 66, 67, 68, 69, 70, 71, 72] (by decide +kernel) (by decide +kernel)
set_option maxRecDepth 20000 in
theorem gX5_set_X5_isRegister : GoodIn wsX5_set (wsV RX5 73 RX5 yX5_isRegister wsX5_isRegister) := goodIn_app (goodIn_of _ (by decide +kernel)) ggX5_set_X5_isRegister
set_option maxRecDepth 20000 in
theorem ggX5_set_X5_put : GoodIn wsX5_set wsX5_put := goodIn_r _ [11, 12, 13, 66, 67, 68, 69, 70, 71, 72] (by decide +kernel) (by decide +kernel)
set_option maxRecDepth 20000 in
theorem gX5_set_X5_put : GoodIn wsX5_set (wsV RX5 23 RX5 yX5_put wsX5_put) := goodIn_app (goodIn_of _ (by decide +kernel)) ggX5_set_X5_put
set_option maxRecDepth 20000 in
theorem ggX5_set_X5_store : GoodIn wsX5_set wsX5_store := goodIn_r _ [17, 18, 19, 1, 20, 21, 22, 5, 23, 24, 25, 26, 27, 12, 8, 9, 10, 11, 13, 28, 29, 30, 31, 32, 33, 34, 35, 36, 37, 38, 39, 40, 41, 42, 43, 44, 45, 46, 47, 48, 49, 50, 51, 52, 53, 54, 55, 56, 57, 58, 59, 60, 61, 62, 63, 64, 65, 66, 67, 68, 69, 70, 71, 72] (by decide +kernel) (by decide +kernel)
set_option maxRecDepth 20000 in
theorem gX5_set_X5_store : GoodIn wsX5_set (wsV RX5 76 RX5 yX5_store wsX5_store) := goodIn_app (goodIn_of _ (by decide +kernel)) ggX5_set_X5_store
theorem dX5_set_0 : decode cX5_set 0 = .ok (.aload_n 0, 1) := by decide +kernel
theorem dX5_set_1 : decode cX5_set 1 = .ok (.iload_n 1, 1) := by decide +kernel
theorem dX5_set_2 : decode cX5_set 2 = .ok (.invokevirtual 73, 3) := by decide +kernel
theorem dX5_set_5 : decode cX5_set 5 = .ok (.ifCond .ne 5, 3) := by decide +kernel
theorem dX5_set_8 : decode cX5_set 8 = .ok (.iconst 3, 1) := by decide +kernel
theorem dX5_set_9 : decode cX5_set 9 = .ok (.ireturn, 1) := by decide +kernel
theorem dX5_set_10 : decode cX5_set 10 = .ok (.iload_n 3, 1) := by decide +kernel
theorem dX5_set_11 : decode cX5_set 11 = .ok (.ifCond .ne 5, 3) := by decide +kernel
theorem dX5_set_14 : decode cX5_set 14 = .ok (.iconst 2, 1) := by decide +kernel
theorem dX5_set_15 : decode cX5_set 15 = .ok (.ireturn, 1) := by decide +kernel
theorem dX5_set_16 : decode cX5_set 16 = .ok (.iload_n 2, 1) := by decide +kernel
theorem dX5_set_17 : decode cX5_set 17 = .ok (.i2l, 1) := by decide +kernel
theorem dX5_set_18 : decode cX5_set 18 = .ok (.lstore 4, 2) := by decide +kernel
theorem dX5_set_20 : decode cX5_set 20 = .ok (.iload_n 3, 1) := by decide +kernel
theorem dX5_set_21 : decode cX5_set 21 = .ok (.i2l, 1) := by decide +kernel
theorem dX5_set_22 : decode cX5_set 22 = .ok (.lstore 6, 2) := by decide +kernel
theorem dX5_set_24 : decode cX5_set 24 = .ok (.aload_n 0, 1) := by decide +kernel
theorem dX5_set_25 : decode cX5_set 25 = .ok (.bipush 16, 2) := by decide +kernel
theorem dX5_set_27 : decode cX5_set 27 = .ok (.lload 4, 2) := by decide +kernel
theorem dX5_set_29 : decode cX5_set 29 = .ok (.lconst 0, 1) := by decide +kernel
theorem dX5_set_30 : decode cX5_set 30 = .ok (.lcmp, 1) := by decide +kernel
theorem dX5_set_31 : decode cX5_set 31 = .ok (.ifCond .ge 9, 3) := by decide +kernel
theorem dX5_set_34 : decode cX5_set 34 = .ok (.lload 4, 2) := by decide +kernel
theorem dX5_set_36 : decode cX5_set 36 = .ok (.lneg, 1) := by decide +kernel
theorem dX5_set_37 : decode cX5_set 37 = .ok (.goto 5, 3) := by decide +kernel
theorem dX5_set_40 : decode cX5_set 40 = .ok (.lload 4, 2) := by decide +kernel
theorem dX5_set_42 : decode cX5_set 42 = .ok (.invokevirtual 23, 3) := by decide +kernel
theorem dX5_set_45 : decode cX5_set 45 = .ok (.aload_n 0, 1) := by decide +kernel
theorem dX5_set_46 : decode cX5_set 46 = .ok (.bipush 17, 2) := by decide +kernel
theorem dX5_set_48 : decode cX5_set 48 = .ok (.lload 6, 2) := by decide +kernel
theorem dX5_set_50 : decode cX5_set 50 = .ok (.lconst 0, 1) := by decide +kernel
theorem dX5_set_51 : decode cX5_set 51 = .ok (.lcmp, 1) := by decide +kernel
theorem dX5_set_52 : decode cX5_set 52 = .ok (.ifCond .ge 9, 3) := by decide +kernel
theorem dX5_set_55 : decode cX5_set 55 = .ok (.lload 6, 2) := by decide +kernel
theorem dX5_set_57 : decode cX5_set 57 = .ok (.lneg, 1) := by decide +kernel
theorem dX5_set_58 : decode cX5_set 58 = .ok (.goto 5, 3) := by decide +kernel
theorem dX5_set_61 : decode cX5_set 61 = .ok (.lload 6, 2) := by decide +kernel
theorem dX5_set_63 : decode cX5_set 63 = .ok (.invokevirtual 23, 3) := by decide +kernel
theorem dX5_set_66 : decode cX5_set 66 = .ok (.aload_n 0, 1) := by decide +kernel
theorem dX5_set_67 : decode cX5_set 67 = .ok (.lload 4, 2) := by decide +kernel
theorem dX5_set_69 : decode cX5_set 69 = .ok (.lconst 0, 1) := by decide +kernel
theorem dX5_set_70 : decode cX5_set 70 = .ok (.lcmp, 1) := by decide +kernel
theorem dX5_set_71 : decode cX5_set 71 = .ok (.ifCond .ne 7, 3) := by decide +kernel
theorem dX5_set_74 : decode cX5_set 74 = .ok (.iconst 0, 1) := by decide +kernel
theorem dX5_set_75 : decode cX5_set 75 = .ok (.goto 35, 3) := by decide +kernel
theorem dX5_set_78 : decode cX5_set 78 = .ok (.lload 4, 2) := by decide +kernel
theorem dX5_set_80 : decode cX5_set 80 = .ok (.lconst 0, 1) := by decide +kernel
theorem dX5_set_81 : decode cX5_set 81 = .ok (.lcmp, 1) := by decide +kernel
theorem dX5_set_82 : decode cX5_set 82 = .ok (.ifCond .ge 7, 3) := by decide +kernel
theorem dX5_set_85 : decode cX5_set 85 = .ok (.iconst 1, 1) := by decide +kernel
theorem dX5_set_86 : decode cX5_set 86 = .ok (.goto 4, 3) := by decide +kernel
theorem dX5_set_89 : decode cX5_set 89 = .ok (.iconst 0, 1) := by decide +kernel
theorem dX5_set_90 : decode cX5_set 90 = .ok (.lload 6, 2) := by decide +kernel
theorem dX5_set_92 : decode cX5_set 92 = .ok (.lconst 0, 1) := by decide +kernel
theorem dX5_set_93 : decode cX5_set 93 = .ok (.lcmp, 1) := by decide +kernel
theorem dX5_set_94 : decode cX5_set 94 = .ok (.ifCond .ge 7, 3) := by decide +kernel
theorem dX5_set_97 : decode cX5_set 97 = .ok (.iconst 1, 1) := by decide +kernel
theorem dX5_set_98 : decode cX5_set 98 = .ok (.goto 4, 3) := by decide +kernel
theorem dX5_set_101 : decode cX5_set 101 = .ok (.iconst 0, 1) := by decide +kernel
theorem dX5_set_102 : decode cX5_set 102 = .ok (.if_icmp .ne 7, 3) := by decide +kernel
theorem dX5_set_105 : decode cX5_set 105 = .ok (.iconst 1, 1) := by decide +kernel
theorem dX5_set_106 : decode cX5_set 106 = .ok (.goto 4, 3) := by decide +kernel
theorem dX5_set_109 : decode cX5_set 109 = .ok (.iconst (-1), 1) := by decide +kernel
theorem dX5_set_110 : decode cX5_set 110 = .ok (.putfield 61, 3) := by decide +kernel
theorem dX5_set_113 : decode cX5_set 113 = .ok (.aload_n 0, 1) := by decide +kernel
theorem dX5_set_114 : decode cX5_set 114 = .ok (.iload_n 1, 1) := by decide +kernel
theorem dX5_set_115 : decode cX5_set 115 = .ok (.invokevirtual 76, 3) := by decide +kernel
theorem dX5_set_118 : decode cX5_set 118 = .ok (.ireturn, 1) := by decide +kernel
set_option maxRecDepth 20000 in
theorem ggX5_areRegisters_X5_isRegister : GoodIn wsX5_areRegisters wsX5_isRegister := goodIn_r _ [5, 6, 7, 8, 9, 10, 11, 12, 13] (by decide +kernel) (by decide +kernel)
set_option maxRecDepth 20000 in
theorem gX5_areRegisters_X5_isRegister : GoodIn wsX5_areRegisters (wsV RX5 73 RX5 yX5_isRegister wsX5_isRegister) := goodIn_app (goodIn_of _ (by decide +kernel)) ggX5_areRegisters_X5_isRegister
theorem dX5_areRegisters_0 : decode cX5_areRegisters 0 = .ok (.aload_n 0, 1) := by decide +kernel
theorem dX5_areRegisters_1 : decode cX5_areRegisters 1 = .ok (.iload_n 1, 1) := by decide +kernel
theorem dX5_areRegisters_2 : decode cX5_areRegisters 2 = .ok (.invokevirtual 73, 3) := by decide +kernel
theorem dX5_areRegisters_5 : decode cX5_areRegisters 5 = .ok (.ifCond .eq 23, 3) := by decide +kernel
theorem dX5_areRegisters_8 : decode cX5_areRegisters 8 = .ok (.aload_n 0, 1) := by decide +kernel
theorem dX5_areRegisters_9 : decode cX5_areRegisters 9 = .ok (.iload_n 2, 1) := by decide +kernel
theorem dX5_areRegisters_10 : decode cX5_areRegisters 10 = .ok (.invokevirtual 73, 3) := by decide +kernel
theorem dX5_areRegisters_13 : decode cX5_areRegisters 13 = .ok (.ifCond .eq 15, 3) := by decide +kernel
theorem dX5_areRegisters_16 : decode cX5_areRegisters 16 = .ok (.aload_n 0, 1) := by decide +kernel
theorem dX5_areRegisters_17 : decode cX5_areRegisters 17 = .ok (.iload_n 3, 1) := by decide +kernel
theorem dX5_areRegisters_18 : decode cX5_areRegisters 18 = .ok (.invokevirtual 73, 3) := by decide +kernel
theorem dX5_areRegisters_21 : decode cX5_areRegisters 21 = .ok (.ifCond .eq 7, 3) := by decide +kernel
theorem dX5_areRegisters_24 : decode cX5_areRegisters 24 = .ok (.iconst 1, 1) := by decide +kernel
theorem dX5_areRegisters_25 : decode cX5_areRegisters 25 = .ok (.goto 4, 3) := by decide +kernel
theorem dX5_areRegisters_28 : decode cX5_areRegisters 28 = .ok (.iconst 0, 1) := by decide +kernel
theorem dX5_areRegisters_29 : decode cX5_areRegisters 29 = .ok (.ireturn, 1) := by decide +kernel
set_option maxRecDepth 20000 in
theorem ggX5_sum_X5_multiply : GoodIn wsX5_sum wsX5_multiply := goodIn_r _ [7, 8, 9, 10, 11, 12, 6, 13, 69, 70, 71, 72, 73, 74, 75] (by decide +kernel) (by decide +kernel)
set_option maxRecDepth 20000 in
theorem gX5_sum_X5_multiply : GoodIn wsX5_sum (wsV RX5 79 RX5 yX5_multiply wsX5_multiply) := goodIn_app (goodIn_of _ (by decide +kernel)) ggX5_sum_X5_multiply
set_option maxRecDepth 20000 in
theorem ggX5_sum_X5_copy : GoodIn wsX5_sum wsX5_copy := goodIn_r _ [17, 8, 69, 70, 71, 72, 73, 74, 75] (by decide +kernel) (by decide +kernel)
set_option maxRecDepth 20000 in
theorem gX5_sum_X5_copy : GoodIn wsX5_sum (wsV RX5 47 RX5 yX5_copy wsX5_copy) := goodIn_app (goodIn_of _ (by decide +kernel)) ggX5_sum_X5_copy
set_option maxRecDepth 20000 in
theorem ggX5_sum_X5_plus : GoodIn wsX5_sum wsX5_plus := goodIn_r _ [21, 8, 22, 69, 70, 71, 72, 73, 74, 75] (by decide +kernel) (by decide +kernel)
set_option maxRecDepth 20000 in
theorem gX5_sum_X5_plus : GoodIn wsX5_sum (wsV RX5 83 RX5 yX5_plus wsX5_plus) := goodIn_app (goodIn_of _ (by decide +kernel)) ggX5_sum_X5_plus
set_option maxRecDepth 20000 in
theorem ggX5_sum_X5_compare : GoodIn wsX5_sum wsX5_compare := goodIn_r _ [26, 8, 69, 70, 71, 72, 73, 74, 75] (by decide +kernel) (by decide +kernel)
set_option maxRecDepth 20000 in
theorem gX5_sum_X5_compare : GoodIn wsX5_sum (wsV RX5 39 RX5 yX5_compare wsX5_compare) := goodIn_app (goodIn_of _ (by decide +kernel)) ggX5_sum_X5_compare
set_option maxRecDepth 20000 in
theorem ggX5_sum_X5_lessen : GoodIn wsX5_sum wsX5_lessen := goodIn_r _ [30, 8, 22, 69, 70, 71, 72, 73, 74, 75] (by decide +kernel) (by decide +kernel)
set_option maxRecDepth 20000 in
theorem gX5_sum_X5_lessen : GoodIn wsX5_sum (wsV RX5 43 RX5 yX5_lessen wsX5_lessen) := goodIn_app (goodIn_of _ (by decide +kernel)) ggX5_sum_X5_lessen
set_option maxRecDepth 20000 in
theorem ggX5_sum_X5_store : GoodIn wsX5_sum wsX5_store := goodIn_r _ [34, 35, 1, 2, 36, 37, 38, 6, 39, 40, 41, 42, 43, 8, 10, 11, 12, 13, 9, 44, 45, 46, 47, 48, 14, 15, 16, 17, 49, 50, 51, 52, 53, 54, 55, 56, 23, 24, 25, 26, 27, 28, 29, 30, 22, 57, 58, 59, 60, 61, 62, 63, 64, 65, 66, 67, 68, 69, 70, 71, 72, 73, 74, 75] (by decide +kernel) (by decide +kernel)
set_option maxRecDepth 20000 in
theorem gX5_sum_X5_store : GoodIn wsX5_sum (wsV RX5 76 RX5 yX5_store wsX5_store) := goodIn_app (goodIn_of _ (by decide +kernel)) ggX5_sum_X5_store
theorem dX5_sum_0 : decode cX5_sum 0 = .ok (.aload_n 0, 1) := by decide +kernel
theorem dX5_sum_1 : decode cX5_sum 1 = .ok (.iload_n 2, 1) := by decide +kernel
theorem dX5_sum_2 : decode cX5_sum 2 = .ok (.bipush 8, 2) := by decide +kernel
theorem dX5_sum_4 : decode cX5_sum 4 = .ok (.iload_n 3, 1) := by decide +kernel
theorem dX5_sum_5 : decode cX5_sum 5 = .ok (.iadd, 1) := by decide +kernel
theorem dX5_sum_6 : decode cX5_sum 6 = .ok (.bipush 18, 2) := by decide +kernel
theorem dX5_sum_8 : decode cX5_sum 8 = .ok (.invokevirtual 79, 3) := by decide +kernel
theorem dX5_sum_11 : decode cX5_sum 11 = .ok (.aload_n 0, 1) := by decide +kernel
theorem dX5_sum_12 : decode cX5_sum 12 = .ok (.iload_n 3, 1) := by decide +kernel
theorem dX5_sum_13 : decode cX5_sum 13 = .ok (.bipush 8, 2) := by decide +kernel
theorem dX5_sum_15 : decode cX5_sum 15 = .ok (.iload_n 2, 1) := by decide +kernel
theorem dX5_sum_16 : decode cX5_sum 16 = .ok (.iadd, 1) := by decide +kernel
theorem dX5_sum_17 : decode cX5_sum 17 = .ok (.bipush 19, 2) := by decide +kernel
theorem dX5_sum_19 : decode cX5_sum 19 = .ok (.invokevirtual 79, 3) := by decide +kernel
theorem dX5_sum_22 : decode cX5_sum 22 = .ok (.aload_n 0, 1) := by decide +kernel
theorem dX5_sum_23 : decode cX5_sum 23 = .ok (.bipush 8, 2) := by decide +kernel
theorem dX5_sum_25 : decode cX5_sum 25 = .ok (.iload_n 2, 1) := by decide +kernel
theorem dX5_sum_26 : decode cX5_sum 26 = .ok (.iadd, 1) := by decide +kernel
theorem dX5_sum_27 : decode cX5_sum 27 = .ok (.bipush 8, 2) := by decide +kernel
theorem dX5_sum_29 : decode cX5_sum 29 = .ok (.iload_n 3, 1) := by decide +kernel
theorem dX5_sum_30 : decode cX5_sum 30 = .ok (.iadd, 1) := by decide +kernel
theorem dX5_sum_31 : decode cX5_sum 31 = .ok (.bipush 17, 2) := by decide +kernel
theorem dX5_sum_33 : decode cX5_sum 33 = .ok (.invokevirtual 79, 3) := by decide +kernel
theorem dX5_sum_36 : decode cX5_sum 36 = .ok (.aload_n 0, 1) := by decide +kernel
theorem dX5_sum_37 : decode cX5_sum 37 = .ok (.getfield 13, 3) := by decide +kernel
theorem dX5_sum_40 : decode cX5_sum 40 = .ok (.iload_n 2, 1) := by decide +kernel
theorem dX5_sum_41 : decode cX5_sum 41 = .ok (.iaload, 1) := by decide +kernel
theorem dX5_sum_42 : decode cX5_sum 42 = .ok (.istore 5, 2) := by decide +kernel
theorem dX5_sum_44 : decode cX5_sum 44 = .ok (.aload_n 0, 1) := by decide +kernel
theorem dX5_sum_45 : decode cX5_sum 45 = .ok (.getfield 13, 3) := by decide +kernel
theorem dX5_sum_48 : decode cX5_sum 48 = .ok (.iload_n 3, 1) := by decide +kernel
theorem dX5_sum_49 : decode cX5_sum 49 = .ok (.iaload, 1) := by decide +kernel
theorem dX5_sum_50 : decode cX5_sum 50 = .ok (.iload 4, 2) := by decide +kernel
theorem dX5_sum_52 : decode cX5_sum 52 = .ok (.imul, 1) := by decide +kernel
theorem dX5_sum_53 : decode cX5_sum 53 = .ok (.istore 6, 2) := by decide +kernel
theorem dX5_sum_55 : decode cX5_sum 55 = .ok (.iload 5, 2) := by decide +kernel
theorem dX5_sum_57 : decode cX5_sum 57 = .ok (.ifCond .eq 15, 3) := by decide +kernel
theorem dX5_sum_60 : decode cX5_sum 60 = .ok (.iload 6, 2) := by decide +kernel
theorem dX5_sum_62 : decode cX5_sum 62 = .ok (.ifCond .eq 10, 3) := by decide +kernel
theorem dX5_sum_65 : decode cX5_sum 65 = .ok (.iload 5, 2) := by decide +kernel
theorem dX5_sum_67 : decode cX5_sum 67 = .ok (.iload 6, 2) := by decide +kernel
theorem dX5_sum_69 : decode cX5_sum 69 = .ok (.if_icmp .ne 38, 3) := by decide +kernel
theorem dX5_sum_72 : decode cX5_sum 72 = .ok (.aload_n 0, 1) := by decide +kernel
theorem dX5_sum_73 : decode cX5_sum 73 = .ok (.bipush 18, 2) := by decide +kernel
theorem dX5_sum_75 : decode cX5_sum 75 = .ok (.bipush 16, 2) := by decide +kernel
theorem dX5_sum_77 : decode cX5_sum 77 = .ok (.invokevirtual 47, 3) := by decide +kernel
theorem dX5_sum_80 : decode cX5_sum 80 = .ok (.aload_n 0, 1) := by decide +kernel
theorem dX5_sum_81 : decode cX5_sum 81 = .ok (.bipush 16, 2) := by decide +kernel
theorem dX5_sum_83 : decode cX5_sum 83 = .ok (.bipush 19, 2) := by decide +kernel
theorem dX5_sum_85 : decode cX5_sum 85 = .ok (.invokevirtual 83, 3) := by decide +kernel
theorem dX5_sum_88 : decode cX5_sum 88 = .ok (.aload_n 0, 1) := by decide +kernel
theorem dX5_sum_89 : decode cX5_sum 89 = .ok (.iload 5, 2) := by decide +kernel
theorem dX5_sum_91 : decode cX5_sum 91 = .ok (.ifCond .ne 8, 3) := by decide +kernel
theorem dX5_sum_94 : decode cX5_sum 94 = .ok (.iload 6, 2) := by decide +kernel
theorem dX5_sum_96 : decode cX5_sum 96 = .ok (.goto 5, 3) := by decide +kernel
theorem dX5_sum_99 : decode cX5_sum 99 = .ok (.iload 5, 2) := by decide +kernel
theorem dX5_sum_101 : decode cX5_sum 101 = .ok (.putfield 61, 3) := by decide +kernel
theorem dX5_sum_104 : decode cX5_sum 104 = .ok (.goto 61, 3) := by decide +kernel
theorem dX5_sum_107 : decode cX5_sum 107 = .ok (.aload_n 0, 1) := by decide +kernel
theorem dX5_sum_108 : decode cX5_sum 108 = .ok (.bipush 18, 2) := by decide +kernel
theorem dX5_sum_110 : decode cX5_sum 110 = .ok (.bipush 19, 2) := by decide +kernel
theorem dX5_sum_112 : decode cX5_sum 112 = .ok (.invokevirtual 39, 3) := by decide +kernel
theorem dX5_sum_115 : decode cX5_sum 115 = .ok (.ifCond .lt 28, 3) := by decide +kernel
theorem dX5_sum_118 : decode cX5_sum 118 = .ok (.aload_n 0, 1) := by decide +kernel
theorem dX5_sum_119 : decode cX5_sum 119 = .ok (.bipush 18, 2) := by decide +kernel
theorem dX5_sum_121 : decode cX5_sum 121 = .ok (.bipush 16, 2) := by decide +kernel
theorem dX5_sum_123 : decode cX5_sum 123 = .ok (.invokevirtual 47, 3) := by decide +kernel
theorem dX5_sum_126 : decode cX5_sum 126 = .ok (.aload_n 0, 1) := by decide +kernel
theorem dX5_sum_127 : decode cX5_sum 127 = .ok (.bipush 16, 2) := by decide +kernel
theorem dX5_sum_129 : decode cX5_sum 129 = .ok (.bipush 19, 2) := by decide +kernel
theorem dX5_sum_131 : decode cX5_sum 131 = .ok (.invokevirtual 43, 3) := by decide +kernel
theorem dX5_sum_134 : decode cX5_sum 134 = .ok (.aload_n 0, 1) := by decide +kernel
theorem dX5_sum_135 : decode cX5_sum 135 = .ok (.iload 5, 2) := by decide +kernel
theorem dX5_sum_137 : decode cX5_sum 137 = .ok (.putfield 61, 3) := by decide +kernel
theorem dX5_sum_140 : decode cX5_sum 140 = .ok (.goto 25, 3) := by decide +kernel
theorem dX5_sum_143 : decode cX5_sum 143 = .ok (.aload_n 0, 1) := by decide +kernel
theorem dX5_sum_144 : decode cX5_sum 144 = .ok (.bipush 19, 2) := by decide +kernel
theorem dX5_sum_146 : decode cX5_sum 146 = .ok (.bipush 16, 2) := by decide +kernel
theorem dX5_sum_148 : decode cX5_sum 148 = .ok (.invokevirtual 47, 3) := by decide +kernel
theorem dX5_sum_151 : decode cX5_sum 151 = .ok (.aload_n 0, 1) := by decide +kernel
theorem dX5_sum_152 : decode cX5_sum 152 = .ok (.bipush 16, 2) := by decide +kernel
theorem dX5_sum_154 : decode cX5_sum 154 = .ok (.bipush 18, 2) := by decide +kernel
theorem dX5_sum_156 : decode cX5_sum 156 = .ok (.invokevirtual 43, 3) := by decide +kernel
theorem dX5_sum_159 : decode cX5_sum 159 = .ok (.aload_n 0, 1) := by decide +kernel
theorem dX5_sum_160 : decode cX5_sum 160 = .ok (.iload 6, 2) := by decide +kernel
theorem dX5_sum_162 : decode cX5_sum 162 = .ok (.putfield 61, 3) := by decide +kernel
theorem dX5_sum_165 : decode cX5_sum 165 = .ok (.aload_n 0, 1) := by decide +kernel
theorem dX5_sum_166 : decode cX5_sum 166 = .ok (.iload_n 1, 1) := by decide +kernel
theorem dX5_sum_167 : decode cX5_sum 167 = .ok (.invokevirtual 76, 3) := by decide +kernel
theorem dX5_sum_170 : decode cX5_sum 170 = .ok (.ireturn, 1) := by decide +kernel
set_option maxRecDepth 20000 in
theorem ggX5_add_X5_areRegisters : GoodIn wsX5_add wsX5_areRegisters := goodIn_r _ [5, 6, 7, 8, 4, 9, 10, 82, 83, 84, 85, 86, 87, 88] (by decide +kernel) (by decide +kernel)
set_option maxRecDepth 20000 in
theorem gX5_add_X5_areRegisters : GoodIn wsX5_add (wsV RX5 86 RX5 yX5_areRegisters wsX5_areRegisters) := goodIn_app (goodIn_of _ (by decide +kernel)) ggX5_add_X5_areRegisters
set_option maxRecDepth 20000 in
theorem ggX5_add_X5_sum : GoodIn wsX5_add wsX5_sum := goodIn_r _ [14, 15, 16, 17, 18, 19, 4, 20, 21, 22, 23, 24, 25, 26, 27, 28, 29, 30, 31, 32, 33, 34, 35, 36, 37, 38, 39, 40, 41, 42, 43, 44, 45, 46, 47, 48, 49, 50, 51, 52, 53, 54, 55, 56, 57, 58, 59, 60, 61, 62, 63, 64, 65, 66, 67, 68, 69, 70, 71, 72, 73, 74, 75, 76, 77, 78, 79, 80, 81, 82, 83, 84, 85, 86, 87, 88] (by decide +kernel) (by decide +kernel)
set_option maxRecDepth 20000 in
theorem gX5_add_X5_sum : GoodIn wsX5_add (wsV RX5 90 RX5 yX5_sum wsX5_sum) := goodIn_app (goodIn_of _ (by decide +kernel)) ggX5_add_X5_sum
theorem dX5_add_0 : decode cX5_add 0 = .ok (.aload_n 0, 1) := by decide +kernel
theorem dX5_add_1 : decode cX5_add 1 = .ok (.iload_n 1, 1) := by decide +kernel
theorem dX5_add_2 : decode cX5_add 2 = .ok (.iload_n 2, 1) := by decide +kernel
theorem dX5_add_3 : decode cX5_add 3 = .ok (.iload_n 3, 1) := by decide +kernel
theorem dX5_add_4 : decode cX5_add 4 = .ok (.invokevirtual 86, 3) := by decide +kernel
theorem dX5_add_7 : decode cX5_add 7 = .ok (.ifCond .eq 14, 3) := by decide +kernel
theorem dX5_add_10 : decode cX5_add 10 = .ok (.aload_n 0, 1) := by decide +kernel
theorem dX5_add_11 : decode cX5_add 11 = .ok (.iload_n 1, 1) := by decide +kernel
theorem dX5_add_12 : decode cX5_add 12 = .ok (.iload_n 2, 1) := by decide +kernel
theorem dX5_add_13 : decode cX5_add 13 = .ok (.iload_n 3, 1) := by decide +kernel
theorem dX5_add_14 : decode cX5_add 14 = .ok (.iconst 1, 1) := by decide +kernel
theorem dX5_add_15 : decode cX5_add 15 = .ok (.invokevirtual 90, 3) := by decide +kernel
theorem dX5_add_18 : decode cX5_add 18 = .ok (.goto 4, 3) := by decide +kernel
theorem dX5_add_21 : decode cX5_add 21 = .ok (.iconst 3, 1) := by decide +kernel
theorem dX5_add_22 : decode cX5_add 22 = .ok (.ireturn, 1) := by decide +kernel
set_option maxRecDepth 20000 in
theorem ggX5_sub_X5_areRegisters : GoodIn wsX5_sub wsX5_areRegisters := goodIn_r _ [5, 6, 7, 8, 4, 9, 10, 82, 83, 84, 85, 86, 87, 88] (by decide +kernel) (by decide +kernel)
set_option maxRecDepth 20000 in
theorem gX5_sub_X5_areRegisters : GoodIn wsX5_sub (wsV RX5 86 RX5 yX5_areRegisters wsX5_areRegisters) := goodIn_app (goodIn_of _ (by decide +kernel)) ggX5_sub_X5_areRegisters
set_option maxRecDepth 20000 in
theorem ggX5_sub_X5_sum : GoodIn wsX5_sub wsX5_sum := goodIn_r _ [14, 15, 16, 17, 18, 19, 4, 20, 21, 22, 23, 24, 25, 26, 27, 28, 29, 30, 31, 32, 33, 34, 35, 36, 37, 38, 39, 40, 41, 42, 43, 44, 45, 46, 47, 48, 49, 50, 51, 52, 53, 54, 55, 56, 57, 58, 59, 60, 61, 62, 63, 64, 65, 66, 67, 68, 69, 70, 71, 72, 73, 74, 75, 76, 77, 78, 79, 80, 81, 82, 83, 84, 85, 86, 87, 88] (by decide +kernel) (by decide +kernel)
set_option maxRecDepth 20000 in
theorem gX5_sub_X5_sum : GoodIn wsX5_sub (wsV RX5 90 RX5 yX5_sum wsX5_sum) := goodIn_app (goodIn_of _ (by decide +kernel)) ggX5_sub_X5_sum
theorem dX5_sub_0 : decode cX5_sub 0 = .ok (.aload_n 0, 1) := by decide +kernel
theorem dX5_sub_1 : decode cX5_sub 1 = .ok (.iload_n 1, 1) := by decide +kernel
theorem dX5_sub_2 : decode cX5_sub 2 = .ok (.iload_n 2, 1) := by decide +kernel
theorem dX5_sub_3 : decode cX5_sub 3 = .ok (.iload_n 3, 1) := by decide +kernel
theorem dX5_sub_4 : decode cX5_sub 4 = .ok (.invokevirtual 86, 3) := by decide +kernel
theorem dX5_sub_7 : decode cX5_sub 7 = .ok (.ifCond .eq 14, 3) := by decide +kernel
theorem dX5_sub_10 : decode cX5_sub 10 = .ok (.aload_n 0, 1) := by decide +kernel
theorem dX5_sub_11 : decode cX5_sub 11 = .ok (.iload_n 1, 1) := by decide +kernel
theorem dX5_sub_12 : decode cX5_sub 12 = .ok (.iload_n 2, 1) := by decide +kernel
theorem dX5_sub_13 : decode cX5_sub 13 = .ok (.iload_n 3, 1) := by decide +kernel
theorem dX5_sub_14 : decode cX5_sub 14 = .ok (.iconst (-1), 1) := by decide +kernel
theorem dX5_sub_15 : decode cX5_sub 15 = .ok (.invokevirtual 90, 3) := by decide +kernel
theorem dX5_sub_18 : decode cX5_sub 18 = .ok (.goto 4, 3) := by decide +kernel
theorem dX5_sub_21 : decode cX5_sub 21 = .ok (.iconst 3, 1) := by decide +kernel
theorem dX5_sub_22 : decode cX5_sub 22 = .ok (.ireturn, 1) := by decide +kernel
set_option maxRecDepth 20000 in
theorem ggX5_mul_X5_areRegisters : GoodIn wsX5_mul wsX5_areRegisters := goodIn_r _ [7, 8, 9, 10, 6, 11, 12, 74, 75, 76, 77, 78, 79, 80] (by decide +kernel) (by decide +kernel)
set_option maxRecDepth 20000 in
theorem gX5_mul_X5_areRegisters : GoodIn wsX5_mul (wsV RX5 86 RX5 yX5_areRegisters wsX5_areRegisters) := goodIn_app (goodIn_of _ (by decide +kernel)) ggX5_mul_X5_areRegisters
set_option maxRecDepth 20000 in
theorem ggX5_mul_X5_multiply : GoodIn wsX5_mul wsX5_multiply := goodIn_r _ [16, 17, 18, 19, 20, 21, 6, 22, 74, 75, 76, 77, 78, 79, 80] (by decide +kernel) (by decide +kernel)
set_option maxRecDepth 20000 in
theorem gX5_mul_X5_multiply : GoodIn wsX5_mul (wsV RX5 79 RX5 yX5_multiply wsX5_multiply) := goodIn_app (goodIn_of _ (by decide +kernel)) ggX5_mul_X5_multiply
set_option maxRecDepth 20000 in
theorem ggX5_mul_X5_store : GoodIn wsX5_mul wsX5_store := goodIn_r _ [26, 27, 1, 2, 28, 29, 30, 6, 31, 32, 33, 34, 35, 17, 19, 20, 21, 22, 18, 36, 37, 38, 39, 40, 41, 42, 43, 44, 45, 46, 47, 48, 49, 50, 51, 52, 53, 54, 55, 56, 57, 58, 59, 60, 61, 62, 63, 64, 65, 66, 67, 68, 69, 70, 71, 72, 73, 74, 75, 76, 77, 78, 79, 80] (by decide +kernel) (by decide +kernel)
set_option maxRecDepth 20000 in
theorem gX5_mul_X5_store : GoodIn wsX5_mul (wsV RX5 76 RX5 yX5_store wsX5_store) := goodIn_app (goodIn_of _ (by decide +kernel)) ggX5_mul_X5_store
theorem dX5_mul_0 : decode cX5_mul 0 = .ok (.aload_n 0, 1) := by decide +kernel
theorem dX5_mul_1 : decode cX5_mul 1 = .ok (.iload_n 1, 1) := by decide +kernel
theorem dX5_mul_2 : decode cX5_mul 2 = .ok (.iload_n 2, 1) := by decide +kernel
theorem dX5_mul_3 : decode cX5_mul 3 = .ok (.iload_n 3, 1) := by decide +kernel
theorem dX5_mul_4 : decode cX5_mul 4 = .ok (.invokevirtual 86, 3) := by decide +kernel
theorem dX5_mul_7 : decode cX5_mul 7 = .ok (.ifCond .ne 5, 3) := by decide +kernel
theorem dX5_mul_10 : decode cX5_mul 10 = .ok (.iconst 3, 1) := by decide +kernel
theorem dX5_mul_11 : decode cX5_mul 11 = .ok (.ireturn, 1) := by decide +kernel
theorem dX5_mul_12 : decode cX5_mul 12 = .ok (.aload_n 0, 1) := by decide +kernel
theorem dX5_mul_13 : decode cX5_mul 13 = .ok (.iload_n 2, 1) := by decide +kernel
theorem dX5_mul_14 : decode cX5_mul 14 = .ok (.iload_n 3, 1) := by decide +kernel
theorem dX5_mul_15 : decode cX5_mul 15 = .ok (.bipush 16, 2) := by decide +kernel
theorem dX5_mul_17 : decode cX5_mul 17 = .ok (.invokevirtual 79, 3) := by decide +kernel
theorem dX5_mul_20 : decode cX5_mul 20 = .ok (.aload_n 0, 1) := by decide +kernel
theorem dX5_mul_21 : decode cX5_mul 21 = .ok (.bipush 8, 2) := by decide +kernel
theorem dX5_mul_23 : decode cX5_mul 23 = .ok (.iload_n 2, 1) := by decide +kernel
theorem dX5_mul_24 : decode cX5_mul 24 = .ok (.iadd, 1) := by decide +kernel
theorem dX5_mul_25 : decode cX5_mul 25 = .ok (.bipush 8, 2) := by decide +kernel
theorem dX5_mul_27 : decode cX5_mul 27 = .ok (.iload_n 3, 1) := by decide +kernel
theorem dX5_mul_28 : decode cX5_mul 28 = .ok (.iadd, 1) := by decide +kernel
theorem dX5_mul_29 : decode cX5_mul 29 = .ok (.bipush 17, 2) := by decide +kernel
theorem dX5_mul_31 : decode cX5_mul 31 = .ok (.invokevirtual 79, 3) := by decide +kernel
theorem dX5_mul_34 : decode cX5_mul 34 = .ok (.aload_n 0, 1) := by decide +kernel
theorem dX5_mul_35 : decode cX5_mul 35 = .ok (.aload_n 0, 1) := by decide +kernel
theorem dX5_mul_36 : decode cX5_mul 36 = .ok (.getfield 13, 3) := by decide +kernel
theorem dX5_mul_39 : decode cX5_mul 39 = .ok (.iload_n 2, 1) := by decide +kernel
theorem dX5_mul_40 : decode cX5_mul 40 = .ok (.iaload, 1) := by decide +kernel
theorem dX5_mul_41 : decode cX5_mul 41 = .ok (.aload_n 0, 1) := by decide +kernel
theorem dX5_mul_42 : decode cX5_mul 42 = .ok (.getfield 13, 3) := by decide +kernel
theorem dX5_mul_45 : decode cX5_mul 45 = .ok (.iload_n 3, 1) := by decide +kernel
theorem dX5_mul_46 : decode cX5_mul 46 = .ok (.iaload, 1) := by decide +kernel
theorem dX5_mul_47 : decode cX5_mul 47 = .ok (.imul, 1) := by decide +kernel
theorem dX5_mul_48 : decode cX5_mul 48 = .ok (.putfield 61, 3) := by decide +kernel
theorem dX5_mul_51 : decode cX5_mul 51 = .ok (.aload_n 0, 1) := by decide +kernel
theorem dX5_mul_52 : decode cX5_mul 52 = .ok (.iload_n 1, 1) := by decide +kernel
theorem dX5_mul_53 : decode cX5_mul 53 = .ok (.invokevirtual 76, 3) := by decide +kernel
theorem dX5_mul_56 : decode cX5_mul 56 = .ok (.ireturn, 1) := by decide +kernel
set_option maxRecDepth 20000 in
theorem ggX5_div_X5_areRegisters : GoodIn wsX5_div wsX5_areRegisters := goodIn_r _ [7, 8, 9, 10, 6, 11, 12, 74, 75, 76, 77, 78, 79, 80] (by decide +kernel) (by decide +kernel)
set_option maxRecDepth 20000 in
theorem gX5_div_X5_areRegisters : GoodIn wsX5_div (wsV RX5 86 RX5 yX5_areRegisters wsX5_areRegisters) := goodIn_app (goodIn_of _ (by decide +kernel)) ggX5_div_X5_areRegisters
set_option maxRecDepth 20000 in
theorem ggX5_div_X5_multiply : GoodIn wsX5_div wsX5_multiply := goodIn_r _ [16, 17, 18, 19, 20, 21, 6, 22, 74, 75, 76, 77, 78, 79, 80] (by decide +kernel) (by decide +kernel)
set_option maxRecDepth 20000 in
theorem gX5_div_X5_multiply : GoodIn wsX5_div (wsV RX5 79 RX5 yX5_multiply wsX5_multiply) := goodIn_app (goodIn_of _ (by decide +kernel)) ggX5_div_X5_multiply
set_option maxRecDepth 20000 in
theorem ggX5_div_X5_store : GoodIn wsX5_div wsX5_store := goodIn_r _ [26, 27, 1, 2, 28, 29, 30, 6, 31, 32, 33, 34, 35, 17, 19, 20, 21, 22, 18, 36, 37, 38, 39, 40, 41, 42, 43, 44, 45, 46, 47, 48, 49, 50, 51, 52, 53, 54, 55, 56, 57, 58, 59, 60, 61, 62, 63, 64, 65, 66, 67, 68, 69, 70, 71, 72, 73, 74, 75, 76, 77, 78, 79, 80] (by decide +kernel) (by decide +kernel)
set_option maxRecDepth 20000 in
theorem gX5_div_X5_store : GoodIn wsX5_div (wsV RX5 76 RX5 yX5_store wsX5_store) := goodIn_app (goodIn_of _ (by decide +kernel)) ggX5_div_X5_store
theorem dX5_div_0 : decode cX5_div 0 = .ok (.aload_n 0, 1) := by decide +kernel
theorem dX5_div_1 : decode cX5_div 1 = .ok (.iload_n 1, 1) := by decide +kernel
theorem dX5_div_2 : decode cX5_div 2 = .ok (.iload_n 2, 1) := by decide +kernel
theorem dX5_div_3 : decode cX5_div 3 = .ok (.iload_n 3, 1) := by decide +kernel
theorem dX5_div_4 : decode cX5_div 4 = .ok (.invokevirtual 86, 3) := by decide +kernel
theorem dX5_div_7 : decode cX5_div 7 = .ok (.ifCond .ne 5, 3) := by decide +kernel
theorem dX5_div_10 : decode cX5_div 10 = .ok (.iconst 3, 1) := by decide +kernel
theorem dX5_div_11 : decode cX5_div 11 = .ok (.ireturn, 1) := by decide +kernel
theorem dX5_div_12 : decode cX5_div 12 = .ok (.aload_n 0, 1) := by decide +kernel
theorem dX5_div_13 : decode cX5_div 13 = .ok (.getfield 13, 3) := by decide +kernel
theorem dX5_div_16 : decode cX5_div 16 = .ok (.iload_n 3, 1) := by decide +kernel
theorem dX5_div_17 : decode cX5_div 17 = .ok (.iaload, 1) := by decide +kernel
theorem dX5_div_18 : decode cX5_div 18 = .ok (.ifCond .ne 5, 3) := by decide +kernel
theorem dX5_div_21 : decode cX5_div 21 = .ok (.iconst 2, 1) := by decide +kernel
theorem dX5_div_22 : decode cX5_div 22 = .ok (.ireturn, 1) := by decide +kernel
theorem dX5_div_23 : decode cX5_div 23 = .ok (.aload_n 0, 1) := by decide +kernel
theorem dX5_div_24 : decode cX5_div 24 = .ok (.iload_n 2, 1) := by decide +kernel
theorem dX5_div_25 : decode cX5_div 25 = .ok (.bipush 8, 2) := by decide +kernel
theorem dX5_div_27 : decode cX5_div 27 = .ok (.iload_n 3, 1) := by decide +kernel
theorem dX5_div_28 : decode cX5_div 28 = .ok (.iadd, 1) := by decide +kernel
theorem dX5_div_29 : decode cX5_div 29 = .ok (.bipush 16, 2) := by decide +kernel
theorem dX5_div_31 : decode cX5_div 31 = .ok (.invokevirtual 79, 3) := by decide +kernel
theorem dX5_div_34 : decode cX5_div 34 = .ok (.aload_n 0, 1) := by decide +kernel
theorem dX5_div_35 : decode cX5_div 35 = .ok (.bipush 8, 2) := by decide +kernel
theorem dX5_div_37 : decode cX5_div 37 = .ok (.iload_n 2, 1) := by decide +kernel
theorem dX5_div_38 : decode cX5_div 38 = .ok (.iadd, 1) := by decide +kernel
theorem dX5_div_39 : decode cX5_div 39 = .ok (.iload_n 3, 1) := by decide +kernel
theorem dX5_div_40 : decode cX5_div 40 = .ok (.bipush 17, 2) := by decide +kernel
theorem dX5_div_42 : decode cX5_div 42 = .ok (.invokevirtual 79, 3) := by decide +kernel
theorem dX5_div_45 : decode cX5_div 45 = .ok (.aload_n 0, 1) := by decide +kernel
theorem dX5_div_46 : decode cX5_div 46 = .ok (.aload_n 0, 1) := by decide +kernel
theorem dX5_div_47 : decode cX5_div 47 = .ok (.getfield 13, 3) := by decide +kernel
theorem dX5_div_50 : decode cX5_div 50 = .ok (.iload_n 2, 1) := by decide +kernel
theorem dX5_div_51 : decode cX5_div 51 = .ok (.iaload, 1) := by decide +kernel
theorem dX5_div_52 : decode cX5_div 52 = .ok (.aload_n 0, 1) := by decide +kernel
theorem dX5_div_53 : decode cX5_div 53 = .ok (.getfield 13, 3) := by decide +kernel
theorem dX5_div_56 : decode cX5_div 56 = .ok (.iload_n 3, 1) := by decide +kernel
theorem dX5_div_57 : decode cX5_div 57 = .ok (.iaload, 1) := by decide +kernel
theorem dX5_div_58 : decode cX5_div 58 = .ok (.imul, 1) := by decide +kernel
theorem dX5_div_59 : decode cX5_div 59 = .ok (.putfield 61, 3) := by decide +kernel
theorem dX5_div_62 : decode cX5_div 62 = .ok (.aload_n 0, 1) := by decide +kernel
theorem dX5_div_63 : decode cX5_div 63 = .ok (.iload_n 1, 1) := by decide +kernel
theorem dX5_div_64 : decode cX5_div 64 = .ok (.invokevirtual 76, 3) := by decide +kernel
theorem dX5_div_67 : decode cX5_div 67 = .ok (.ireturn, 1) := by decide +kernel
set_option maxRecDepth 20000 in
theorem ggX5_cmp_X5_isRegister : GoodIn wsX5_cmp wsX5_isRegister := goodIn_r _ [6, 7, 22, 23, 24, 25, 26, 27, 28] (by decide +kernel) (by decide +kernel)
set_option maxRecDepth 20000 in
theorem gX5_cmp_X5_isRegister : GoodIn wsX5_cmp (wsV RX5 73 RX5 yX5_isRegister wsX5_isRegister) := goodIn_app (goodIn_of _ (by decide +kernel)) ggX5_cmp_X5_isRegister
set_option maxRecDepth 20000 in
theorem ggX5_cmp_X5_multiply : GoodIn wsX5_cmp wsX5_multiply := goodIn_r _ [11, 12, 13, 14, 15, 16, 5, 17, 22, 23, 24, 25, 26, 27, 28] (by decide +kernel) (by decide +kernel)
set_option maxRecDepth 20000 in
theorem gX5_cmp_X5_multiply : GoodIn wsX5_cmp (wsV RX5 79 RX5 yX5_multiply wsX5_multiply) := goodIn_app (goodIn_of _ (by decide +kernel)) ggX5_cmp_X5_multiply
set_option maxRecDepth 20000 in
theorem ggX5_cmp_X5_compare : GoodIn wsX5_cmp wsX5_compare := goodIn_r _ [21, 12, 22, 23, 24, 25, 26, 27, 28] (by decide +kernel) (by decide +kernel)
set_option maxRecDepth 20000 in
theorem gX5_cmp_X5_compare : GoodIn wsX5_cmp (wsV RX5 39 RX5 yX5_compare wsX5_compare) := goodIn_app (goodIn_of _ (by decide +kernel)) ggX5_cmp_X5_compare
theorem dX5_cmp_0 : decode cX5_cmp 0 = .ok (.aload_n 0, 1) := by decide +kernel
theorem dX5_cmp_1 : decode cX5_cmp 1 = .ok (.iload_n 1, 1) := by decide +kernel
theorem dX5_cmp_2 : decode cX5_cmp 2 = .ok (.invokevirtual 73, 3) := by decide +kernel
theorem dX5_cmp_5 : decode cX5_cmp 5 = .ok (.ifCond .eq 11, 3) := by decide +kernel
theorem dX5_cmp_8 : decode cX5_cmp 8 = .ok (.aload_n 0, 1) := by decide +kernel
theorem dX5_cmp_9 : decode cX5_cmp 9 = .ok (.iload_n 2, 1) := by decide +kernel
theorem dX5_cmp_10 : decode cX5_cmp 10 = .ok (.invokevirtual 73, 3) := by decide +kernel
theorem dX5_cmp_13 : decode cX5_cmp 13 = .ok (.ifCond .ne 5, 3) := by decide +kernel
theorem dX5_cmp_16 : decode cX5_cmp 16 = .ok (.iconst 2, 1) := by decide +kernel
theorem dX5_cmp_17 : decode cX5_cmp 17 = .ok (.ireturn, 1) := by decide +kernel
theorem dX5_cmp_18 : decode cX5_cmp 18 = .ok (.aload_n 0, 1) := by decide +kernel
theorem dX5_cmp_19 : decode cX5_cmp 19 = .ok (.getfield 13, 3) := by decide +kernel
theorem dX5_cmp_22 : decode cX5_cmp 22 = .ok (.iload_n 1, 1) := by decide +kernel
theorem dX5_cmp_23 : decode cX5_cmp 23 = .ok (.iaload, 1) := by decide +kernel
theorem dX5_cmp_24 : decode cX5_cmp 24 = .ok (.aload_n 0, 1) := by decide +kernel
theorem dX5_cmp_25 : decode cX5_cmp 25 = .ok (.getfield 13, 3) := by decide +kernel
theorem dX5_cmp_28 : decode cX5_cmp 28 = .ok (.iload_n 2, 1) := by decide +kernel
theorem dX5_cmp_29 : decode cX5_cmp 29 = .ok (.iaload, 1) := by decide +kernel
theorem dX5_cmp_30 : decode cX5_cmp 30 = .ok (.if_icmp .eq 24, 3) := by decide +kernel
theorem dX5_cmp_33 : decode cX5_cmp 33 = .ok (.aload_n 0, 1) := by decide +kernel
theorem dX5_cmp_34 : decode cX5_cmp 34 = .ok (.getfield 13, 3) := by decide +kernel
theorem dX5_cmp_37 : decode cX5_cmp 37 = .ok (.iload_n 1, 1) := by decide +kernel
theorem dX5_cmp_38 : decode cX5_cmp 38 = .ok (.iaload, 1) := by decide +kernel
theorem dX5_cmp_39 : decode cX5_cmp 39 = .ok (.aload_n 0, 1) := by decide +kernel
theorem dX5_cmp_40 : decode cX5_cmp 40 = .ok (.getfield 13, 3) := by decide +kernel
theorem dX5_cmp_43 : decode cX5_cmp 43 = .ok (.iload_n 2, 1) := by decide +kernel
theorem dX5_cmp_44 : decode cX5_cmp 44 = .ok (.iaload, 1) := by decide +kernel
theorem dX5_cmp_45 : decode cX5_cmp 45 = .ok (.if_icmp .ge 7, 3) := by decide +kernel
theorem dX5_cmp_48 : decode cX5_cmp 48 = .ok (.iconst (-1), 1) := by decide +kernel
theorem dX5_cmp_49 : decode cX5_cmp 49 = .ok (.goto 4, 3) := by decide +kernel
theorem dX5_cmp_52 : decode cX5_cmp 52 = .ok (.iconst 1, 1) := by decide +kernel
theorem dX5_cmp_53 : decode cX5_cmp 53 = .ok (.ireturn, 1) := by decide +kernel
theorem dX5_cmp_54 : decode cX5_cmp 54 = .ok (.aload_n 0, 1) := by decide +kernel
theorem dX5_cmp_55 : decode cX5_cmp 55 = .ok (.iload_n 1, 1) := by decide +kernel
theorem dX5_cmp_56 : decode cX5_cmp 56 = .ok (.bipush 8, 2) := by decide +kernel
theorem dX5_cmp_58 : decode cX5_cmp 58 = .ok (.iload_n 2, 1) := by decide +kernel
theorem dX5_cmp_59 : decode cX5_cmp 59 = .ok (.iadd, 1) := by decide +kernel
theorem dX5_cmp_60 : decode cX5_cmp 60 = .ok (.bipush 18, 2) := by decide +kernel
theorem dX5_cmp_62 : decode cX5_cmp 62 = .ok (.invokevirtual 79, 3) := by decide +kernel
theorem dX5_cmp_65 : decode cX5_cmp 65 = .ok (.aload_n 0, 1) := by decide +kernel
theorem dX5_cmp_66 : decode cX5_cmp 66 = .ok (.iload_n 2, 1) := by decide +kernel
theorem dX5_cmp_67 : decode cX5_cmp 67 = .ok (.bipush 8, 2) := by decide +kernel
theorem dX5_cmp_69 : decode cX5_cmp 69 = .ok (.iload_n 1, 1) := by decide +kernel
theorem dX5_cmp_70 : decode cX5_cmp 70 = .ok (.iadd, 1) := by decide +kernel
theorem dX5_cmp_71 : decode cX5_cmp 71 = .ok (.bipush 19, 2) := by decide +kernel
theorem dX5_cmp_73 : decode cX5_cmp 73 = .ok (.invokevirtual 79, 3) := by decide +kernel
theorem dX5_cmp_76 : decode cX5_cmp 76 = .ok (.aload_n 0, 1) := by decide +kernel
theorem dX5_cmp_77 : decode cX5_cmp 77 = .ok (.getfield 13, 3) := by decide +kernel
theorem dX5_cmp_80 : decode cX5_cmp 80 = .ok (.iload_n 1, 1) := by decide +kernel
theorem dX5_cmp_81 : decode cX5_cmp 81 = .ok (.iaload, 1) := by decide +kernel
theorem dX5_cmp_82 : decode cX5_cmp 82 = .ok (.aload_n 0, 1) := by decide +kernel
theorem dX5_cmp_83 : decode cX5_cmp 83 = .ok (.bipush 18, 2) := by decide +kernel
theorem dX5_cmp_85 : decode cX5_cmp 85 = .ok (.bipush 19, 2) := by decide +kernel
theorem dX5_cmp_87 : decode cX5_cmp 87 = .ok (.invokevirtual 39, 3) := by decide +kernel
theorem dX5_cmp_90 : decode cX5_cmp 90 = .ok (.imul, 1) := by decide +kernel
theorem dX5_cmp_91 : decode cX5_cmp 91 = .ok (.ireturn, 1) := by decide +kernel
set_option maxRecDepth 20000 in
theorem ggX5_down_X5_divide : GoodIn wsX5_down wsX5_divide := goodIn_r _ [5, 6, 7, 8, 9, 10, 4, 11, 12, 13, 14, 15, 16, 17, 18, 19, 20, 21, 22, 23, 24, 25, 26, 27, 28, 29, 42, 43, 44, 45, 46, 47, 48] (by decide +kernel) (by decide +kernel)
set_option maxRecDepth 20000 in
theorem gX5_down_X5_divide : GoodIn wsX5_down (wsV RX5 67 RX5 yX5_divide wsX5_divide) := goodIn_app (goodIn_of _ (by decide +kernel)) ggX5_down_X5_divide
set_option maxRecDepth 20000 in
theorem ggX5_down_X5_isZero : GoodIn wsX5_down wsX5_isZero := goodIn_r _ [33, 7, 42, 43, 44, 45, 46, 47, 48] (by decide +kernel) (by decide +kernel)
set_option maxRecDepth 20000 in
theorem gX5_down_X5_isZero : GoodIn wsX5_down (wsV RX5 58 RX5 yX5_isZero wsX5_isZero) := goodIn_app (goodIn_of _ (by decide +kernel)) ggX5_down_X5_isZero
set_option maxRecDepth 20000 in
theorem ggX5_down_X5_copy : GoodIn wsX5_down wsX5_copy := goodIn_r _ [37, 7, 42, 43, 44, 45, 46, 47, 48] (by decide +kernel) (by decide +kernel)
set_option maxRecDepth 20000 in
theorem gX5_down_X5_copy : GoodIn wsX5_down (wsV RX5 47 RX5 yX5_copy wsX5_copy) := goodIn_app (goodIn_of _ (by decide +kernel)) ggX5_down_X5_copy
set_option maxRecDepth 20000 in
theorem ggX5_down_X5_lessen : GoodIn wsX5_down wsX5_lessen := goodIn_r _ [28, 7, 29, 42, 43, 44, 45, 46, 47, 48] (by decide +kernel) (by decide +kernel)
set_option maxRecDepth 20000 in
theorem gX5_down_X5_lessen : GoodIn wsX5_down (wsV RX5 43 RX5 yX5_lessen wsX5_lessen) := goodIn_app (goodIn_of _ (by decide +kernel)) ggX5_down_X5_lessen
set_option maxRecDepth 20000 in
theorem ggX5_down_X5_put : GoodIn wsX5_down wsX5_put := goodIn_r _ [11, 7, 12, 42, 43, 44, 45, 46, 47, 48] (by decide +kernel) (by decide +kernel)
set_option maxRecDepth 20000 in
theorem gX5_down_X5_put : GoodIn wsX5_down (wsV RX5 23 RX5 yX5_put wsX5_put) := goodIn_app (goodIn_of _ (by decide +kernel)) ggX5_down_X5_put
set_option maxRecDepth 20000 in
theorem ggX5_down_X5_plus : GoodIn wsX5_down wsX5_plus := goodIn_r _ [41, 7, 29, 42, 43, 44, 45, 46, 47, 48] (by decide +kernel) (by decide +kernel)
set_option maxRecDepth 20000 in
theorem gX5_down_X5_plus : GoodIn wsX5_down (wsV RX5 83 RX5 yX5_plus wsX5_plus) := goodIn_app (goodIn_of _ (by decide +kernel)) ggX5_down_X5_plus
theorem dX5_down_0 : decode cX5_down 0 = .ok (.aload_n 0, 1) := by decide +kernel
theorem dX5_down_1 : decode cX5_down 1 = .ok (.iload_n 1, 1) := by decide +kernel
theorem dX5_down_2 : decode cX5_down 2 = .ok (.iload_n 2, 1) := by decide +kernel
theorem dX5_down_3 : decode cX5_down 3 = .ok (.invokevirtual 67, 3) := by decide +kernel
theorem dX5_down_6 : decode cX5_down 6 = .ok (.iload_n 3, 1) := by decide +kernel
theorem dX5_down_7 : decode cX5_down 7 = .ok (.ifCond .ge 12, 3) := by decide +kernel
theorem dX5_down_10 : decode cX5_down 10 = .ok (.aload_n 0, 1) := by decide +kernel
theorem dX5_down_11 : decode cX5_down 11 = .ok (.bipush 21, 2) := by decide +kernel
theorem dX5_down_13 : decode cX5_down 13 = .ok (.invokevirtual 58, 3) := by decide +kernel
theorem dX5_down_16 : decode cX5_down 16 = .ok (.ifCond .eq 18, 3) := by decide +kernel
theorem dX5_down_19 : decode cX5_down 19 = .ok (.aload_n 0, 1) := by decide +kernel
theorem dX5_down_20 : decode cX5_down 20 = .ok (.bipush 20, 2) := by decide +kernel
theorem dX5_down_22 : decode cX5_down 22 = .ok (.invokevirtual 58, 3) := by decide +kernel
theorem dX5_down_25 : decode cX5_down 25 = .ok (.ifCond .eq 7, 3) := by decide +kernel
theorem dX5_down_28 : decode cX5_down 28 = .ok (.iconst 0, 1) := by decide +kernel
theorem dX5_down_29 : decode cX5_down 29 = .ok (.goto 4, 3) := by decide +kernel
theorem dX5_down_32 : decode cX5_down 32 = .ok (.iload_n 3, 1) := by decide +kernel
theorem dX5_down_33 : decode cX5_down 33 = .ok (.ireturn, 1) := by decide +kernel
theorem dX5_down_34 : decode cX5_down 34 = .ok (.aload_n 0, 1) := by decide +kernel
theorem dX5_down_35 : decode cX5_down 35 = .ok (.bipush 21, 2) := by decide +kernel
theorem dX5_down_37 : decode cX5_down 37 = .ok (.bipush 24, 2) := by decide +kernel
theorem dX5_down_39 : decode cX5_down 39 = .ok (.invokevirtual 47, 3) := by decide +kernel
theorem dX5_down_42 : decode cX5_down 42 = .ok (.aload_n 0, 1) := by decide +kernel
theorem dX5_down_43 : decode cX5_down 43 = .ok (.iload_n 2, 1) := by decide +kernel
theorem dX5_down_44 : decode cX5_down 44 = .ok (.bipush 21, 2) := by decide +kernel
theorem dX5_down_46 : decode cX5_down 46 = .ok (.invokevirtual 47, 3) := by decide +kernel
theorem dX5_down_49 : decode cX5_down 49 = .ok (.aload_n 0, 1) := by decide +kernel
theorem dX5_down_50 : decode cX5_down 50 = .ok (.bipush 21, 2) := by decide +kernel
theorem dX5_down_52 : decode cX5_down 52 = .ok (.bipush 24, 2) := by decide +kernel
theorem dX5_down_54 : decode cX5_down 54 = .ok (.invokevirtual 43, 3) := by decide +kernel
theorem dX5_down_57 : decode cX5_down 57 = .ok (.aload_n 0, 1) := by decide +kernel
theorem dX5_down_58 : decode cX5_down 58 = .ok (.bipush 24, 2) := by decide +kernel
theorem dX5_down_60 : decode cX5_down 60 = .ok (.lconst 1, 1) := by decide +kernel
theorem dX5_down_61 : decode cX5_down 61 = .ok (.invokevirtual 23, 3) := by decide +kernel
theorem dX5_down_64 : decode cX5_down 64 = .ok (.aload_n 0, 1) := by decide +kernel
theorem dX5_down_65 : decode cX5_down 65 = .ok (.bipush 20, 2) := by decide +kernel
theorem dX5_down_67 : decode cX5_down 67 = .ok (.bipush 24, 2) := by decide +kernel
theorem dX5_down_69 : decode cX5_down 69 = .ok (.invokevirtual 83, 3) := by decide +kernel
theorem dX5_down_72 : decode cX5_down 72 = .ok (.iconst (-1), 1) := by decide +kernel
theorem dX5_down_73 : decode cX5_down 73 = .ok (.ireturn, 1) := by decide +kernel
set_option maxRecDepth 20000 in
theorem ggX5_quotient_X5_bitsOf : GoodIn wsX5_quotient wsX5_bitsOf := goodIn_r _ [7, 1, 8, 9, 10, 11, 12, 13, 14] (by decide +kernel) (by decide +kernel)
set_option maxRecDepth 20000 in
theorem gX5_quotient_X5_bitsOf : GoodIn wsX5_quotient (wsV RX5 30 RX5 yX5_bitsOf wsX5_bitsOf) := goodIn_app (goodIn_of _ (by decide +kernel)) ggX5_quotient_X5_bitsOf
theorem dX5_quotient_0 : decode cX5_quotient 0 = .ok (.lconst 0, 1) := by decide +kernel
theorem dX5_quotient_1 : decode cX5_quotient 1 = .ok (.lstore_n 2, 1) := by decide +kernel
theorem dX5_quotient_2 : decode cX5_quotient 2 = .ok (.iconst 2, 1) := by decide +kernel
theorem dX5_quotient_3 : decode cX5_quotient 3 = .ok (.istore 4, 2) := by decide +kernel
theorem dX5_quotient_5 : decode cX5_quotient 5 = .ok (.iload 4, 2) := by decide +kernel
theorem dX5_quotient_7 : decode cX5_quotient 7 = .ok (.ifCond .lt 27, 3) := by decide +kernel
theorem dX5_quotient_10 : decode cX5_quotient 10 = .ok (.lload_n 2, 1) := by decide +kernel
theorem dX5_quotient_11 : decode cX5_quotient 11 = .ok (.bipush 16, 2) := by decide +kernel
theorem dX5_quotient_13 : decode cX5_quotient 13 = .ok (.lshl, 1) := by decide +kernel
theorem dX5_quotient_14 : decode cX5_quotient 14 = .ok (.aload_n 0, 1) := by decide +kernel
theorem dX5_quotient_15 : decode cX5_quotient 15 = .ok (.getfield 7, 3) := by decide +kernel
theorem dX5_quotient_18 : decode cX5_quotient 18 = .ok (.sipush 720, 3) := by decide +kernel
theorem dX5_quotient_21 : decode cX5_quotient 21 = .ok (.iload 4, 2) := by decide +kernel
theorem dX5_quotient_23 : decode cX5_quotient 23 = .ok (.iadd, 1) := by decide +kernel
theorem dX5_quotient_24 : decode cX5_quotient 24 = .ok (.iaload, 1) := by decide +kernel
theorem dX5_quotient_25 : decode cX5_quotient 25 = .ok (.i2l, 1) := by decide +kernel
theorem dX5_quotient_26 : decode cX5_quotient 26 = .ok (.ladd, 1) := by decide +kernel
theorem dX5_quotient_27 : decode cX5_quotient 27 = .ok (.lstore_n 2, 1) := by decide +kernel
theorem dX5_quotient_28 : decode cX5_quotient 28 = .ok (.iinc 4 (-1), 3) := by decide +kernel
theorem dX5_quotient_31 : decode cX5_quotient 31 = .ok (.goto (-26), 3) := by decide +kernel
theorem dX5_quotient_34 : decode cX5_quotient 34 = .ok (.aload_n 0, 1) := by decide +kernel
theorem dX5_quotient_35 : decode cX5_quotient 35 = .ok (.bipush 20, 2) := by decide +kernel
theorem dX5_quotient_37 : decode cX5_quotient 37 = .ok (.invokevirtual 30, 3) := by decide +kernel
theorem dX5_quotient_40 : decode cX5_quotient 40 = .ok (.bipush 40, 2) := by decide +kernel
theorem dX5_quotient_42 : decode cX5_quotient 42 = .ok (.if_icmp .le 9, 3) := by decide +kernel
theorem dX5_quotient_45 : decode cX5_quotient 45 = .ok (.ldc2_w 94, 3) := by decide +kernel
theorem dX5_quotient_48 : decode cX5_quotient 48 = .ok (.goto 7, 3) := by decide +kernel
theorem dX5_quotient_51 : decode cX5_quotient 51 = .ok (.iload_n 1, 1) := by decide +kernel
theorem dX5_quotient_52 : decode cX5_quotient 52 = .ok (.i2l, 1) := by decide +kernel
theorem dX5_quotient_53 : decode cX5_quotient 53 = .ok (.lload_n 2, 1) := by decide +kernel
theorem dX5_quotient_54 : decode cX5_quotient 54 = .ok (.lmul, 1) := by decide +kernel
theorem dX5_quotient_55 : decode cX5_quotient 55 = .ok (.lreturn, 1) := by decide +kernel
set_option maxRecDepth 20000 in
theorem ggX5_fits_X5_isRegister : GoodIn wsX5_fits wsX5_isRegister := goodIn_r _ [8, 9, 59, 60, 61, 62, 63, 64, 65] (by decide +kernel) (by decide +kernel)
set_option maxRecDepth 20000 in
theorem gX5_fits_X5_isRegister : GoodIn wsX5_fits (wsV RX5 73 RX5 yX5_isRegister wsX5_isRegister) := goodIn_app (goodIn_of _ (by decide +kernel)) ggX5_fits_X5_isRegister
set_option maxRecDepth 20000 in
theorem ggX5_fits_X5_down : GoodIn wsX5_fits wsX5_down := goodIn_r _ [13, 14, 15, 16, 7, 17, 18, 19, 20, 21, 22, 23, 24, 25, 26, 27, 28, 29, 30, 31, 32, 33, 34, 35, 36, 37, 38, 39, 40, 41, 42, 43, 44, 45, 46, 47, 48, 49, 50, 51, 52, 53, 59, 60, 61, 62, 63, 64, 65] (by decide +kernel) (by decide +kernel)
set_option maxRecDepth 20000 in
theorem gX5_fits_X5_down : GoodIn wsX5_fits (wsV RX5 96 RX5 yX5_down wsX5_down) := goodIn_app (goodIn_of _ (by decide +kernel)) ggX5_fits_X5_down
set_option maxRecDepth 20000 in
theorem ggX5_fits_X5_quotient : GoodIn wsX5_fits wsX5_quotient := goodIn_r _ [57, 19, 58, 25, 26, 27, 7, 28, 59, 60, 61, 62, 63, 64, 65] (by decide +kernel) (by decide +kernel)
set_option maxRecDepth 20000 in
theorem gX5_fits_X5_quotient : GoodIn wsX5_fits (wsV RX5 100 RX5 yX5_quotient wsX5_quotient) := goodIn_app (goodIn_of _ (by decide +kernel)) ggX5_fits_X5_quotient
theorem dX5_fits_0 : decode cX5_fits 0 = .ok (.aload_n 0, 1) := by decide +kernel
theorem dX5_fits_1 : decode cX5_fits 1 = .ok (.iload_n 1, 1) := by decide +kernel
theorem dX5_fits_2 : decode cX5_fits 2 = .ok (.invokevirtual 73, 3) := by decide +kernel
theorem dX5_fits_5 : decode cX5_fits 5 = .ok (.ifCond .ne 5, 3) := by decide +kernel
theorem dX5_fits_8 : decode cX5_fits 8 = .ok (.iconst 0, 1) := by decide +kernel
theorem dX5_fits_9 : decode cX5_fits 9 = .ok (.ireturn, 1) := by decide +kernel
theorem dX5_fits_10 : decode cX5_fits 10 = .ok (.aload_n 0, 1) := by decide +kernel
theorem dX5_fits_11 : decode cX5_fits 11 = .ok (.aload_n 0, 1) := by decide +kernel
theorem dX5_fits_12 : decode cX5_fits 12 = .ok (.iload_n 1, 1) := by decide +kernel
theorem dX5_fits_13 : decode cX5_fits 13 = .ok (.bipush 8, 2) := by decide +kernel
theorem dX5_fits_15 : decode cX5_fits 15 = .ok (.iload_n 1, 1) := by decide +kernel
theorem dX5_fits_16 : decode cX5_fits 16 = .ok (.iadd, 1) := by decide +kernel
theorem dX5_fits_17 : decode cX5_fits 17 = .ok (.aload_n 0, 1) := by decide +kernel
theorem dX5_fits_18 : decode cX5_fits 18 = .ok (.getfield 13, 3) := by decide +kernel
theorem dX5_fits_21 : decode cX5_fits 21 = .ok (.iload_n 1, 1) := by decide +kernel
theorem dX5_fits_22 : decode cX5_fits 22 = .ok (.iaload, 1) := by decide +kernel
theorem dX5_fits_23 : decode cX5_fits 23 = .ok (.invokevirtual 96, 3) := by decide +kernel
theorem dX5_fits_26 : decode cX5_fits 26 = .ok (.invokevirtual 100, 3) := by decide +kernel
theorem dX5_fits_29 : decode cX5_fits 29 = .ok (.lstore_n 2, 1) := by decide +kernel
theorem dX5_fits_30 : decode cX5_fits 30 = .ok (.lload_n 2, 1) := by decide +kernel
theorem dX5_fits_31 : decode cX5_fits 31 = .ok (.ldc2_w 104, 3) := by decide +kernel
theorem dX5_fits_34 : decode cX5_fits 34 = .ok (.lcmp, 1) := by decide +kernel
theorem dX5_fits_35 : decode cX5_fits 35 = .ok (.ifCond .lt 15, 3) := by decide +kernel
theorem dX5_fits_38 : decode cX5_fits 38 = .ok (.lload_n 2, 1) := by decide +kernel
theorem dX5_fits_39 : decode cX5_fits 39 = .ok (.ldc2_w 106, 3) := by decide +kernel
theorem dX5_fits_42 : decode cX5_fits 42 = .ok (.lcmp, 1) := by decide +kernel
theorem dX5_fits_43 : decode cX5_fits 43 = .ok (.ifCond .gt 7, 3) := by decide +kernel
theorem dX5_fits_46 : decode cX5_fits 46 = .ok (.iconst 1, 1) := by decide +kernel
theorem dX5_fits_47 : decode cX5_fits 47 = .ok (.goto 4, 3) := by decide +kernel
theorem dX5_fits_50 : decode cX5_fits 50 = .ok (.iconst 0, 1) := by decide +kernel
theorem dX5_fits_51 : decode cX5_fits 51 = .ok (.ireturn, 1) := by decide +kernel
set_option maxRecDepth 20000 in
theorem ggX5_floorSmall_X5_fits : GoodIn wsX5_floorSmall wsX5_fits := goodIn_r _ [6, 1, 7, 8, 9, 10, 11, 5, 12, 13, 14, 15, 16, 17, 18, 19, 20, 21, 22, 23, 24, 25, 26, 27, 28, 29, 30, 31, 32, 33, 34, 35, 36, 37, 38, 39, 40, 41, 42, 43, 44, 45, 46, 47, 48, 49, 50, 51, 52, 53, 54, 55, 56, 57, 58, 59, 60, 61, 62, 63, 64, 65, 66, 67, 68, 69] (by decide +kernel) (by decide +kernel)
set_option maxRecDepth 20000 in
theorem gX5_floorSmall_X5_fits : GoodIn wsX5_floorSmall (wsV RX5 108 RX5 yX5_fits wsX5_fits) := goodIn_app (goodIn_of _ (by decide +kernel)) ggX5_floorSmall_X5_fits
set_option maxRecDepth 20000 in
theorem ggX5_floorSmall_X5_down : GoodIn wsX5_floorSmall wsX5_down := goodIn_r _ [17, 18, 19, 20, 5, 21, 22, 23, 24, 25, 26, 27, 28, 29, 30, 31, 32, 33, 34, 35, 36, 37, 38, 39, 40, 41, 42, 43, 44, 45, 46, 47, 48, 49, 50, 51, 52, 53, 54, 55, 56, 57, 63, 64, 65, 66, 67, 68, 69] (by decide +kernel) (by decide +kernel)
set_option maxRecDepth 20000 in
theorem gX5_floorSmall_X5_down : GoodIn wsX5_floorSmall (wsV RX5 96 RX5 yX5_down wsX5_down) := goodIn_app (goodIn_of _ (by decide +kernel)) ggX5_floorSmall_X5_down
set_option maxRecDepth 20000 in
theorem ggX5_floorSmall_X5_quotient : GoodIn wsX5_floorSmall wsX5_quotient := goodIn_r _ [61, 23, 62, 29, 30, 31, 5, 32, 63, 64, 65, 66, 67, 68, 69] (by decide +kernel) (by decide +kernel)
set_option maxRecDepth 20000 in
theorem gX5_floorSmall_X5_quotient : GoodIn wsX5_floorSmall (wsV RX5 100 RX5 yX5_quotient wsX5_quotient) := goodIn_app (goodIn_of _ (by decide +kernel)) ggX5_floorSmall_X5_quotient
theorem dX5_floorSmall_0 : decode cX5_floorSmall 0 = .ok (.aload_n 0, 1) := by decide +kernel
theorem dX5_floorSmall_1 : decode cX5_floorSmall 1 = .ok (.iload_n 1, 1) := by decide +kernel
theorem dX5_floorSmall_2 : decode cX5_floorSmall 2 = .ok (.invokevirtual 108, 3) := by decide +kernel
theorem dX5_floorSmall_5 : decode cX5_floorSmall 5 = .ok (.ifCond .eq 26, 3) := by decide +kernel
theorem dX5_floorSmall_8 : decode cX5_floorSmall 8 = .ok (.aload_n 0, 1) := by decide +kernel
theorem dX5_floorSmall_9 : decode cX5_floorSmall 9 = .ok (.aload_n 0, 1) := by decide +kernel
theorem dX5_floorSmall_10 : decode cX5_floorSmall 10 = .ok (.iload_n 1, 1) := by decide +kernel
theorem dX5_floorSmall_11 : decode cX5_floorSmall 11 = .ok (.bipush 8, 2) := by decide +kernel
theorem dX5_floorSmall_13 : decode cX5_floorSmall 13 = .ok (.iload_n 1, 1) := by decide +kernel
theorem dX5_floorSmall_14 : decode cX5_floorSmall 14 = .ok (.iadd, 1) := by decide +kernel
theorem dX5_floorSmall_15 : decode cX5_floorSmall 15 = .ok (.aload_n 0, 1) := by decide +kernel
theorem dX5_floorSmall_16 : decode cX5_floorSmall 16 = .ok (.getfield 13, 3) := by decide +kernel
theorem dX5_floorSmall_19 : decode cX5_floorSmall 19 = .ok (.iload_n 1, 1) := by decide +kernel
theorem dX5_floorSmall_20 : decode cX5_floorSmall 20 = .ok (.iaload, 1) := by decide +kernel
theorem dX5_floorSmall_21 : decode cX5_floorSmall 21 = .ok (.invokevirtual 96, 3) := by decide +kernel
theorem dX5_floorSmall_24 : decode cX5_floorSmall 24 = .ok (.invokevirtual 100, 3) := by decide +kernel
theorem dX5_floorSmall_27 : decode cX5_floorSmall 27 = .ok (.l2i, 1) := by decide +kernel
theorem dX5_floorSmall_28 : decode cX5_floorSmall 28 = .ok (.goto 4, 3) := by decide +kernel
theorem dX5_floorSmall_31 : decode cX5_floorSmall 31 = .ok (.iconst 0, 1) := by decide +kernel
theorem dX5_floorSmall_32 : decode cX5_floorSmall 32 = .ok (.ireturn, 1) := by decide +kernel
set_option maxRecDepth 20000 in
theorem ggX5_cfStart_X5_isRegister : GoodIn wsX5_cfStart wsX5_isRegister := goodIn_r _ [8, 9, 15, 16, 17, 18, 19, 20, 21] (by decide +kernel) (by decide +kernel)
set_option maxRecDepth 20000 in
theorem gX5_cfStart_X5_isRegister : GoodIn wsX5_cfStart (wsV RX5 73 RX5 yX5_isRegister wsX5_isRegister) := goodIn_app (goodIn_of _ (by decide +kernel)) ggX5_cfStart_X5_isRegister
set_option maxRecDepth 20000 in
theorem ggX5_cfStart_X5_copy : GoodIn wsX5_cfStart wsX5_copy := goodIn_r _ [13, 14, 15, 16, 17, 18, 19, 20, 21] (by decide +kernel) (by decide +kernel)
set_option maxRecDepth 20000 in
theorem gX5_cfStart_X5_copy : GoodIn wsX5_cfStart (wsV RX5 47 RX5 yX5_copy wsX5_copy) := goodIn_app (goodIn_of _ (by decide +kernel)) ggX5_cfStart_X5_copy
theorem dX5_cfStart_0 : decode cX5_cfStart 0 = .ok (.aload_n 0, 1) := by decide +kernel
theorem dX5_cfStart_1 : decode cX5_cfStart 1 = .ok (.iload_n 1, 1) := by decide +kernel
theorem dX5_cfStart_2 : decode cX5_cfStart 2 = .ok (.invokevirtual 73, 3) := by decide +kernel
theorem dX5_cfStart_5 : decode cX5_cfStart 5 = .ok (.ifCond .ne 5, 3) := by decide +kernel
theorem dX5_cfStart_8 : decode cX5_cfStart 8 = .ok (.iconst 0, 1) := by decide +kernel
theorem dX5_cfStart_9 : decode cX5_cfStart 9 = .ok (.ireturn, 1) := by decide +kernel
theorem dX5_cfStart_10 : decode cX5_cfStart 10 = .ok (.aload_n 0, 1) := by decide +kernel
theorem dX5_cfStart_11 : decode cX5_cfStart 11 = .ok (.iload_n 1, 1) := by decide +kernel
theorem dX5_cfStart_12 : decode cX5_cfStart 12 = .ok (.bipush 22, 2) := by decide +kernel
theorem dX5_cfStart_14 : decode cX5_cfStart 14 = .ok (.invokevirtual 47, 3) := by decide +kernel
theorem dX5_cfStart_17 : decode cX5_cfStart 17 = .ok (.aload_n 0, 1) := by decide +kernel
theorem dX5_cfStart_18 : decode cX5_cfStart 18 = .ok (.bipush 8, 2) := by decide +kernel
theorem dX5_cfStart_20 : decode cX5_cfStart 20 = .ok (.iload_n 1, 1) := by decide +kernel
theorem dX5_cfStart_21 : decode cX5_cfStart 21 = .ok (.iadd, 1) := by decide +kernel
theorem dX5_cfStart_22 : decode cX5_cfStart 22 = .ok (.bipush 23, 2) := by decide +kernel
theorem dX5_cfStart_24 : decode cX5_cfStart 24 = .ok (.invokevirtual 47, 3) := by decide +kernel
theorem dX5_cfStart_27 : decode cX5_cfStart 27 = .ok (.aload_n 0, 1) := by decide +kernel
theorem dX5_cfStart_28 : decode cX5_cfStart 28 = .ok (.aload_n 0, 1) := by decide +kernel
theorem dX5_cfStart_29 : decode cX5_cfStart 29 = .ok (.getfield 13, 3) := by decide +kernel
theorem dX5_cfStart_32 : decode cX5_cfStart 32 = .ok (.iload_n 1, 1) := by decide +kernel
theorem dX5_cfStart_33 : decode cX5_cfStart 33 = .ok (.iaload, 1) := by decide +kernel
theorem dX5_cfStart_34 : decode cX5_cfStart 34 = .ok (.putfield 111, 3) := by decide +kernel
theorem dX5_cfStart_37 : decode cX5_cfStart 37 = .ok (.aload_n 0, 1) := by decide +kernel
theorem dX5_cfStart_38 : decode cX5_cfStart 38 = .ok (.iconst 1, 1) := by decide +kernel
theorem dX5_cfStart_39 : decode cX5_cfStart 39 = .ok (.putfield 114, 3) := by decide +kernel
theorem dX5_cfStart_42 : decode cX5_cfStart 42 = .ok (.iconst 1, 1) := by decide +kernel
theorem dX5_cfStart_43 : decode cX5_cfStart 43 = .ok (.ireturn, 1) := by decide +kernel
set_option maxRecDepth 20000 in
theorem ggX5_cfNext_X5_down : GoodIn wsX5_cfNext wsX5_down := goodIn_r _ [10, 11, 12, 13, 9, 14, 15, 16, 17, 18, 19, 20, 21, 22, 23, 24, 25, 26, 27, 28, 29, 30, 31, 32, 33, 34, 35, 36, 37, 38, 39, 40, 41, 42, 43, 44, 45, 46, 47, 48, 49, 50, 56, 57, 58, 59, 60, 61, 62] (by decide +kernel) (by decide +kernel)
set_option maxRecDepth 20000 in
theorem gX5_cfNext_X5_down : GoodIn wsX5_cfNext (wsV RX5 96 RX5 yX5_down wsX5_down) := goodIn_app (goodIn_of _ (by decide +kernel)) ggX5_cfNext_X5_down
set_option maxRecDepth 20000 in
theorem ggX5_cfNext_X5_quotient : GoodIn wsX5_cfNext wsX5_quotient := goodIn_r _ [54, 16, 55, 22, 23, 24, 9, 25, 56, 57, 58, 59, 60, 61, 62] (by decide +kernel) (by decide +kernel)
set_option maxRecDepth 20000 in
theorem gX5_cfNext_X5_quotient : GoodIn wsX5_cfNext (wsV RX5 100 RX5 yX5_quotient wsX5_quotient) := goodIn_app (goodIn_of _ (by decide +kernel)) ggX5_cfNext_X5_quotient
set_option maxRecDepth 20000 in
theorem ggX5_cfNext_X5_isZero : GoodIn wsX5_cfNext wsX5_isZero := goodIn_r _ [42, 16, 56, 57, 58, 59, 60, 61, 62] (by decide +kernel) (by decide +kernel)
set_option maxRecDepth 20000 in
theorem gX5_cfNext_X5_isZero : GoodIn wsX5_cfNext (wsV RX5 58 RX5 yX5_isZero wsX5_isZero) := goodIn_app (goodIn_of _ (by decide +kernel)) ggX5_cfNext_X5_isZero
set_option maxRecDepth 20000 in
theorem ggX5_cfNext_X5_copy : GoodIn wsX5_cfNext wsX5_copy := goodIn_r _ [46, 16, 56, 57, 58, 59, 60, 61, 62] (by decide +kernel) (by decide +kernel)
set_option maxRecDepth 20000 in
theorem gX5_cfNext_X5_copy : GoodIn wsX5_cfNext (wsV RX5 47 RX5 yX5_copy wsX5_copy) := goodIn_app (goodIn_of _ (by decide +kernel)) ggX5_cfNext_X5_copy
theorem dX5_cfNext_0 : decode cX5_cfNext 0 = .ok (.aload_n 0, 1) := by decide +kernel
theorem dX5_cfNext_1 : decode cX5_cfNext 1 = .ok (.getfield 114, 3) := by decide +kernel
theorem dX5_cfNext_4 : decode cX5_cfNext 4 = .ok (.ifCond .ne 6, 3) := by decide +kernel
theorem dX5_cfNext_7 : decode cX5_cfNext 7 = .ok (.ldc 118, 2) := by decide +kernel
theorem dX5_cfNext_9 : decode cX5_cfNext 9 = .ok (.ireturn, 1) := by decide +kernel
theorem dX5_cfNext_10 : decode cX5_cfNext 10 = .ok (.aload_n 0, 1) := by decide +kernel
theorem dX5_cfNext_11 : decode cX5_cfNext 11 = .ok (.aload_n 0, 1) := by decide +kernel
theorem dX5_cfNext_12 : decode cX5_cfNext 12 = .ok (.bipush 22, 2) := by decide +kernel
theorem dX5_cfNext_14 : decode cX5_cfNext 14 = .ok (.bipush 23, 2) := by decide +kernel
theorem dX5_cfNext_16 : decode cX5_cfNext 16 = .ok (.aload_n 0, 1) := by decide +kernel
theorem dX5_cfNext_17 : decode cX5_cfNext 17 = .ok (.getfield 111, 3) := by decide +kernel
theorem dX5_cfNext_20 : decode cX5_cfNext 20 = .ok (.invokevirtual 96, 3) := by decide +kernel
theorem dX5_cfNext_23 : decode cX5_cfNext 23 = .ok (.invokevirtual 100, 3) := by decide +kernel
theorem dX5_cfNext_26 : decode cX5_cfNext 26 = .ok (.lstore_n 1, 1) := by decide +kernel
theorem dX5_cfNext_27 : decode cX5_cfNext 27 = .ok (.lload_n 1, 1) := by decide +kernel
theorem dX5_cfNext_28 : decode cX5_cfNext 28 = .ok (.ldc2_w 104, 3) := by decide +kernel
theorem dX5_cfNext_31 : decode cX5_cfNext 31 = .ok (.lcmp, 1) := by decide +kernel
theorem dX5_cfNext_32 : decode cX5_cfNext 32 = .ok (.ifCond .le 11, 3) := by decide +kernel
theorem dX5_cfNext_35 : decode cX5_cfNext 35 = .ok (.lload_n 1, 1) := by decide +kernel
theorem dX5_cfNext_36 : decode cX5_cfNext 36 = .ok (.ldc2_w 106, 3) := by decide +kernel
theorem dX5_cfNext_39 : decode cX5_cfNext 39 = .ok (.lcmp, 1) := by decide +kernel
theorem dX5_cfNext_40 : decode cX5_cfNext 40 = .ok (.ifCond .le 6, 3) := by decide +kernel
theorem dX5_cfNext_43 : decode cX5_cfNext 43 = .ok (.ldc 118, 2) := by decide +kernel
theorem dX5_cfNext_45 : decode cX5_cfNext 45 = .ok (.ireturn, 1) := by decide +kernel
theorem dX5_cfNext_46 : decode cX5_cfNext 46 = .ok (.aload_n 0, 1) := by decide +kernel
theorem dX5_cfNext_47 : decode cX5_cfNext 47 = .ok (.aload_n 0, 1) := by decide +kernel
theorem dX5_cfNext_48 : decode cX5_cfNext 48 = .ok (.bipush 21, 2) := by decide +kernel
theorem dX5_cfNext_50 : decode cX5_cfNext 50 = .ok (.invokevirtual 58, 3) := by decide +kernel
theorem dX5_cfNext_53 : decode cX5_cfNext 53 = .ok (.ifCond .ne 7, 3) := by decide +kernel
theorem dX5_cfNext_56 : decode cX5_cfNext 56 = .ok (.iconst 1, 1) := by decide +kernel
theorem dX5_cfNext_57 : decode cX5_cfNext 57 = .ok (.goto 4, 3) := by decide +kernel
theorem dX5_cfNext_60 : decode cX5_cfNext 60 = .ok (.iconst 0, 1) := by decide +kernel
theorem dX5_cfNext_61 : decode cX5_cfNext 61 = .ok (.putfield 114, 3) := by decide +kernel
theorem dX5_cfNext_64 : decode cX5_cfNext 64 = .ok (.aload_n 0, 1) := by decide +kernel
theorem dX5_cfNext_65 : decode cX5_cfNext 65 = .ok (.bipush 23, 2) := by decide +kernel
theorem dX5_cfNext_67 : decode cX5_cfNext 67 = .ok (.bipush 22, 2) := by decide +kernel
theorem dX5_cfNext_69 : decode cX5_cfNext 69 = .ok (.invokevirtual 47, 3) := by decide +kernel
theorem dX5_cfNext_72 : decode cX5_cfNext 72 = .ok (.aload_n 0, 1) := by decide +kernel
theorem dX5_cfNext_73 : decode cX5_cfNext 73 = .ok (.bipush 21, 2) := by decide +kernel
theorem dX5_cfNext_75 : decode cX5_cfNext 75 = .ok (.bipush 23, 2) := by decide +kernel
theorem dX5_cfNext_77 : decode cX5_cfNext 77 = .ok (.invokevirtual 47, 3) := by decide +kernel
theorem dX5_cfNext_80 : decode cX5_cfNext 80 = .ok (.aload_n 0, 1) := by decide +kernel
theorem dX5_cfNext_81 : decode cX5_cfNext 81 = .ok (.iconst 1, 1) := by decide +kernel
theorem dX5_cfNext_82 : decode cX5_cfNext 82 = .ok (.putfield 111, 3) := by decide +kernel
theorem dX5_cfNext_85 : decode cX5_cfNext 85 = .ok (.lload_n 1, 1) := by decide +kernel
theorem dX5_cfNext_86 : decode cX5_cfNext 86 = .ok (.l2i, 1) := by decide +kernel
theorem dX5_cfNext_87 : decode cX5_cfNext 87 = .ok (.ireturn, 1) := by decide +kernel
theorem dX5_cfDone_0 : decode cX5_cfDone 0 = .ok (.aload_n 0, 1) := by decide +kernel
theorem dX5_cfDone_1 : decode cX5_cfDone 1 = .ok (.getfield 114, 3) := by decide +kernel
theorem dX5_cfDone_4 : decode cX5_cfDone 4 = .ok (.ifCond .ne 7, 3) := by decide +kernel
theorem dX5_cfDone_7 : decode cX5_cfDone 7 = .ok (.iconst 1, 1) := by decide +kernel
theorem dX5_cfDone_8 : decode cX5_cfDone 8 = .ok (.goto 4, 3) := by decide +kernel
theorem dX5_cfDone_11 : decode cX5_cfDone 11 = .ok (.iconst 0, 1) := by decide +kernel
theorem dX5_cfDone_12 : decode cX5_cfDone 12 = .ok (.ireturn, 1) := by decide +kernel
theorem dX5_limb_0 : decode cX5_limb 0 = .ok (.iload_n 2, 1) := by decide +kernel
theorem dX5_limb_1 : decode cX5_limb 1 = .ok (.ifCond .lt 9, 3) := by decide +kernel
theorem dX5_limb_4 : decode cX5_limb 4 = .ok (.iload_n 2, 1) := by decide +kernel
theorem dX5_limb_5 : decode cX5_limb 5 = .ok (.bipush 17, 2) := by decide +kernel
theorem dX5_limb_7 : decode cX5_limb 7 = .ok (.if_icmp .le 7, 3) := by decide +kernel
theorem dX5_limb_10 : decode cX5_limb 10 = .ok (.iconst 0, 1) := by decide +kernel
theorem dX5_limb_11 : decode cX5_limb 11 = .ok (.goto 35, 3) := by decide +kernel
theorem dX5_limb_14 : decode cX5_limb 14 = .ok (.aload_n 0, 1) := by decide +kernel
theorem dX5_limb_15 : decode cX5_limb 15 = .ok (.getfield 7, 3) := by decide +kernel
theorem dX5_limb_18 : decode cX5_limb 18 = .ok (.bipush 36, 2) := by decide +kernel
theorem dX5_limb_20 : decode cX5_limb 20 = .ok (.iload_n 1, 1) := by decide +kernel
theorem dX5_limb_21 : decode cX5_limb 21 = .ok (.imul, 1) := by decide +kernel
theorem dX5_limb_22 : decode cX5_limb 22 = .ok (.iconst 2, 1) := by decide +kernel
theorem dX5_limb_23 : decode cX5_limb 23 = .ok (.iload_n 2, 1) := by decide +kernel
theorem dX5_limb_24 : decode cX5_limb 24 = .ok (.imul, 1) := by decide +kernel
theorem dX5_limb_25 : decode cX5_limb 25 = .ok (.iadd, 1) := by decide +kernel
theorem dX5_limb_26 : decode cX5_limb 26 = .ok (.iaload, 1) := by decide +kernel
theorem dX5_limb_27 : decode cX5_limb 27 = .ok (.aload_n 0, 1) := by decide +kernel
theorem dX5_limb_28 : decode cX5_limb 28 = .ok (.getfield 7, 3) := by decide +kernel
theorem dX5_limb_31 : decode cX5_limb 31 = .ok (.bipush 36, 2) := by decide +kernel
theorem dX5_limb_33 : decode cX5_limb 33 = .ok (.iload_n 1, 1) := by decide +kernel
theorem dX5_limb_34 : decode cX5_limb 34 = .ok (.imul, 1) := by decide +kernel
theorem dX5_limb_35 : decode cX5_limb 35 = .ok (.iconst 2, 1) := by decide +kernel
theorem dX5_limb_36 : decode cX5_limb 36 = .ok (.iload_n 2, 1) := by decide +kernel
theorem dX5_limb_37 : decode cX5_limb 37 = .ok (.imul, 1) := by decide +kernel
theorem dX5_limb_38 : decode cX5_limb 38 = .ok (.iadd, 1) := by decide +kernel
theorem dX5_limb_39 : decode cX5_limb 39 = .ok (.iconst 1, 1) := by decide +kernel
theorem dX5_limb_40 : decode cX5_limb 40 = .ok (.iadd, 1) := by decide +kernel
theorem dX5_limb_41 : decode cX5_limb 41 = .ok (.iaload, 1) := by decide +kernel
theorem dX5_limb_42 : decode cX5_limb 42 = .ok (.bipush 16, 2) := by decide +kernel
theorem dX5_limb_44 : decode cX5_limb 44 = .ok (.ishl, 1) := by decide +kernel
theorem dX5_limb_45 : decode cX5_limb 45 = .ok (.ior, 1) := by decide +kernel
theorem dX5_limb_46 : decode cX5_limb 46 = .ok (.ireturn, 1) := by decide +kernel
set_option maxRecDepth 20000 in
theorem ggX5_numLimb_X5_isRegister : GoodIn wsX5_numLimb wsX5_isRegister := goodIn_r _ [5, 6, 12, 13, 14, 15, 16, 17, 18] (by decide +kernel) (by decide +kernel)
set_option maxRecDepth 20000 in
theorem gX5_numLimb_X5_isRegister : GoodIn wsX5_numLimb (wsV RX5 73 RX5 yX5_isRegister wsX5_isRegister) := goodIn_app (goodIn_of _ (by decide +kernel)) ggX5_numLimb_X5_isRegister
set_option maxRecDepth 20000 in
theorem ggX5_numLimb_X5_limb : GoodIn wsX5_numLimb wsX5_limb := goodIn_r _ [10, 11, 12, 13, 14, 15, 16, 17, 18] (by decide +kernel) (by decide +kernel)
set_option maxRecDepth 20000 in
theorem gX5_numLimb_X5_limb : GoodIn wsX5_numLimb (wsV RX5 119 RX5 yX5_limb wsX5_limb) := goodIn_app (goodIn_of _ (by decide +kernel)) ggX5_numLimb_X5_limb
theorem dX5_numLimb_0 : decode cX5_numLimb 0 = .ok (.aload_n 0, 1) := by decide +kernel
theorem dX5_numLimb_1 : decode cX5_numLimb 1 = .ok (.iload_n 1, 1) := by decide +kernel
theorem dX5_numLimb_2 : decode cX5_numLimb 2 = .ok (.invokevirtual 73, 3) := by decide +kernel
theorem dX5_numLimb_5 : decode cX5_numLimb 5 = .ok (.ifCond .eq 12, 3) := by decide +kernel
theorem dX5_numLimb_8 : decode cX5_numLimb 8 = .ok (.aload_n 0, 1) := by decide +kernel
theorem dX5_numLimb_9 : decode cX5_numLimb 9 = .ok (.iload_n 1, 1) := by decide +kernel
theorem dX5_numLimb_10 : decode cX5_numLimb 10 = .ok (.iload_n 2, 1) := by decide +kernel
theorem dX5_numLimb_11 : decode cX5_numLimb 11 = .ok (.invokevirtual 119, 3) := by decide +kernel
theorem dX5_numLimb_14 : decode cX5_numLimb 14 = .ok (.goto 4, 3) := by decide +kernel
theorem dX5_numLimb_17 : decode cX5_numLimb 17 = .ok (.iconst 0, 1) := by decide +kernel
theorem dX5_numLimb_18 : decode cX5_numLimb 18 = .ok (.ireturn, 1) := by decide +kernel
set_option maxRecDepth 20000 in
theorem ggX5_denLimb_X5_isRegister : GoodIn wsX5_denLimb wsX5_isRegister := goodIn_r _ [5, 6, 12, 13, 14, 15, 16, 17, 18] (by decide +kernel) (by decide +kernel)
set_option maxRecDepth 20000 in
theorem gX5_denLimb_X5_isRegister : GoodIn wsX5_denLimb (wsV RX5 73 RX5 yX5_isRegister wsX5_isRegister) := goodIn_app (goodIn_of _ (by decide +kernel)) ggX5_denLimb_X5_isRegister
set_option maxRecDepth 20000 in
theorem ggX5_denLimb_X5_limb : GoodIn wsX5_denLimb wsX5_limb := goodIn_r _ [10, 11, 12, 13, 14, 15, 16, 17, 18] (by decide +kernel) (by decide +kernel)
set_option maxRecDepth 20000 in
theorem gX5_denLimb_X5_limb : GoodIn wsX5_denLimb (wsV RX5 119 RX5 yX5_limb wsX5_limb) := goodIn_app (goodIn_of _ (by decide +kernel)) ggX5_denLimb_X5_limb
theorem dX5_denLimb_0 : decode cX5_denLimb 0 = .ok (.aload_n 0, 1) := by decide +kernel
theorem dX5_denLimb_1 : decode cX5_denLimb 1 = .ok (.iload_n 1, 1) := by decide +kernel
theorem dX5_denLimb_2 : decode cX5_denLimb 2 = .ok (.invokevirtual 73, 3) := by decide +kernel
theorem dX5_denLimb_5 : decode cX5_denLimb 5 = .ok (.ifCond .eq 15, 3) := by decide +kernel
theorem dX5_denLimb_8 : decode cX5_denLimb 8 = .ok (.aload_n 0, 1) := by decide +kernel
theorem dX5_denLimb_9 : decode cX5_denLimb 9 = .ok (.bipush 8, 2) := by decide +kernel
theorem dX5_denLimb_11 : decode cX5_denLimb 11 = .ok (.iload_n 1, 1) := by decide +kernel
theorem dX5_denLimb_12 : decode cX5_denLimb 12 = .ok (.iadd, 1) := by decide +kernel
theorem dX5_denLimb_13 : decode cX5_denLimb 13 = .ok (.iload_n 2, 1) := by decide +kernel
theorem dX5_denLimb_14 : decode cX5_denLimb 14 = .ok (.invokevirtual 119, 3) := by decide +kernel
theorem dX5_denLimb_17 : decode cX5_denLimb 17 = .ok (.goto 4, 3) := by decide +kernel
theorem dX5_denLimb_20 : decode cX5_denLimb 20 = .ok (.iconst 0, 1) := by decide +kernel
theorem dX5_denLimb_21 : decode cX5_denLimb 21 = .ok (.ireturn, 1) := by decide +kernel
set_option maxRecDepth 20000 in
theorem ggX5_sign_X5_isRegister : GoodIn wsX5_sign wsX5_isRegister := goodIn_r _ [6, 7, 8, 9, 10, 11, 12, 13, 14] (by decide +kernel) (by decide +kernel)
set_option maxRecDepth 20000 in
theorem gX5_sign_X5_isRegister : GoodIn wsX5_sign (wsV RX5 73 RX5 yX5_isRegister wsX5_isRegister) := goodIn_app (goodIn_of _ (by decide +kernel)) ggX5_sign_X5_isRegister
theorem dX5_sign_0 : decode cX5_sign 0 = .ok (.aload_n 0, 1) := by decide +kernel
theorem dX5_sign_1 : decode cX5_sign 1 = .ok (.iload_n 1, 1) := by decide +kernel
theorem dX5_sign_2 : decode cX5_sign 2 = .ok (.invokevirtual 73, 3) := by decide +kernel
theorem dX5_sign_5 : decode cX5_sign 5 = .ok (.ifCond .eq 12, 3) := by decide +kernel
theorem dX5_sign_8 : decode cX5_sign 8 = .ok (.aload_n 0, 1) := by decide +kernel
theorem dX5_sign_9 : decode cX5_sign 9 = .ok (.getfield 13, 3) := by decide +kernel
theorem dX5_sign_12 : decode cX5_sign 12 = .ok (.iload_n 1, 1) := by decide +kernel
theorem dX5_sign_13 : decode cX5_sign 13 = .ok (.iaload, 1) := by decide +kernel
theorem dX5_sign_14 : decode cX5_sign 14 = .ok (.goto 4, 3) := by decide +kernel
theorem dX5_sign_17 : decode cX5_sign 17 = .ok (.iconst 0, 1) := by decide +kernel
theorem dX5_sign_18 : decode cX5_sign 18 = .ok (.ireturn, 1) := by decide +kernel
set_option maxRecDepth 20000 in
theorem ggX5_farther_X5_copy : GoodIn wsX5_farther wsX5_copy := goodIn_r _ [5, 6, 16, 17, 18, 19, 20, 21, 22] (by decide +kernel) (by decide +kernel)
set_option maxRecDepth 20000 in
theorem gX5_farther_X5_copy : GoodIn wsX5_farther (wsV RX5 47 RX5 yX5_copy wsX5_copy) := goodIn_app (goodIn_of _ (by decide +kernel)) ggX5_farther_X5_copy
set_option maxRecDepth 20000 in
theorem ggX5_farther_X5_grow : GoodIn wsX5_farther wsX5_grow := goodIn_r _ [10, 6, 11, 16, 17, 18, 19, 20, 21, 22] (by decide +kernel) (by decide +kernel)
set_option maxRecDepth 20000 in
theorem gX5_farther_X5_grow : GoodIn wsX5_farther (wsV RX5 36 RX5 yX5_grow wsX5_grow) := goodIn_app (goodIn_of _ (by decide +kernel)) ggX5_farther_X5_grow
set_option maxRecDepth 20000 in
theorem ggX5_farther_X5_compare : GoodIn wsX5_farther wsX5_compare := goodIn_r _ [15, 6, 16, 17, 18, 19, 20, 21, 22] (by decide +kernel) (by decide +kernel)
set_option maxRecDepth 20000 in
theorem gX5_farther_X5_compare : GoodIn wsX5_farther (wsV RX5 39 RX5 yX5_compare wsX5_compare) := goodIn_app (goodIn_of _ (by decide +kernel)) ggX5_farther_X5_compare
theorem dX5_farther_0 : decode cX5_farther 0 = .ok (.aload_n 0, 1) := by decide +kernel
theorem dX5_farther_1 : decode cX5_farther 1 = .ok (.bipush 18, 2) := by decide +kernel
theorem dX5_farther_3 : decode cX5_farther 3 = .ok (.bipush 24, 2) := by decide +kernel
theorem dX5_farther_5 : decode cX5_farther 5 = .ok (.invokevirtual 47, 3) := by decide +kernel
theorem dX5_farther_8 : decode cX5_farther 8 = .ok (.aload_n 0, 1) := by decide +kernel
theorem dX5_farther_9 : decode cX5_farther 9 = .ok (.bipush 24, 2) := by decide +kernel
theorem dX5_farther_11 : decode cX5_farther 11 = .ok (.iload_n 2, 1) := by decide +kernel
theorem dX5_farther_12 : decode cX5_farther 12 = .ok (.i2l, 1) := by decide +kernel
theorem dX5_farther_13 : decode cX5_farther 13 = .ok (.invokevirtual 36, 3) := by decide +kernel
theorem dX5_farther_16 : decode cX5_farther 16 = .ok (.aload_n 0, 1) := by decide +kernel
theorem dX5_farther_17 : decode cX5_farther 17 = .ok (.bipush 26, 2) := by decide +kernel
theorem dX5_farther_19 : decode cX5_farther 19 = .ok (.bipush 25, 2) := by decide +kernel
theorem dX5_farther_21 : decode cX5_farther 21 = .ok (.invokevirtual 47, 3) := by decide +kernel
theorem dX5_farther_24 : decode cX5_farther 24 = .ok (.aload_n 0, 1) := by decide +kernel
theorem dX5_farther_25 : decode cX5_farther 25 = .ok (.bipush 25, 2) := by decide +kernel
