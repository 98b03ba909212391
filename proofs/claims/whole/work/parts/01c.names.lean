set_option maxRecDepth 20000 in
theorem ggX0_init_X1_init : GoodIn wsX0_init wsX1_init := goodIn_r _ [11, 12, 2, 3, 13, 14, 15, 19, 20] (by decide +kernel) (by decide +kernel)
set_option maxRecDepth 20000 in
theorem gX0_init_X1_init_n15 : GoodIn wsX0_init (wsX1_init) := ggX0_init_X1_init
theorem dX0_init_0 : decode cX0_init 0 = .ok (.aload_n 0, 1) := by decide +kernel
theorem dX0_init_1 : decode cX0_init 1 = .ok (.invokespecial 1, 3) := by decide +kernel
theorem dX0_init_4 : decode cX0_init 4 = .ok (.aload_n 0, 1) := by decide +kernel
theorem dX0_init_5 : decode cX0_init 5 = .ok (.iconst 0, 1) := by decide +kernel
theorem dX0_init_6 : decode cX0_init 6 = .ok (.putfield 7, 3) := by decide +kernel
theorem dX0_init_9 : decode cX0_init 9 = .ok (.aload_n 0, 1) := by decide +kernel
theorem dX0_init_10 : decode cX0_init 10 = .ok (.new 13, 3) := by decide +kernel
theorem dX0_init_13 : decode cX0_init 13 = .ok (.dup, 1) := by decide +kernel
theorem dX0_init_14 : decode cX0_init 14 = .ok (.invokespecial 15, 3) := by decide +kernel
theorem dX0_init_17 : decode cX0_init 17 = .ok (.putfield 16, 3) := by decide +kernel
theorem dX0_init_20 : decode cX0_init 20 = .ok (.aload_n 0, 1) := by decide +kernel
theorem dX0_init_21 : decode cX0_init 21 = .ok (.new 13, 3) := by decide +kernel
theorem dX0_init_24 : decode cX0_init 24 = .ok (.dup, 1) := by decide +kernel
theorem dX0_init_25 : decode cX0_init 25 = .ok (.invokespecial 15, 3) := by decide +kernel
theorem dX0_init_28 : decode cX0_init 28 = .ok (.putfield 20, 3) := by decide +kernel
theorem dX0_init_31 : decode cX0_init 31 = .ok (.return_, 1) := by decide +kernel
set_option maxRecDepth 20000 in
theorem ggX0_become_X1_become_ : GoodIn wsX0_become wsX1_become_ := goodIn_r _ [8, 9, 10, 11, 12, 13, 14, 18, 19] (by decide +kernel) (by decide +kernel)
set_option maxRecDepth 20000 in
theorem gX0_become_X1_become_ : GoodIn wsX0_become (wsV RX0 23 RX1 yX1_become_ wsX1_become_) := goodIn_app (goodIn_of _ (by decide +kernel)) ggX0_become_X1_become_
theorem dX0_become_0 : decode cX0_become 0 = .ok (.aload_n 0, 1) := by decide +kernel
theorem dX0_become_1 : decode cX0_become 1 = .ok (.aload_n 1, 1) := by decide +kernel
theorem dX0_become_2 : decode cX0_become 2 = .ok (.getfield 7, 3) := by decide +kernel
theorem dX0_become_5 : decode cX0_become 5 = .ok (.putfield 7, 3) := by decide +kernel
theorem dX0_become_8 : decode cX0_become 8 = .ok (.aload_n 0, 1) := by decide +kernel
theorem dX0_become_9 : decode cX0_become 9 = .ok (.getfield 16, 3) := by decide +kernel
theorem dX0_become_12 : decode cX0_become 12 = .ok (.aload_n 1, 1) := by decide +kernel
theorem dX0_become_13 : decode cX0_become 13 = .ok (.getfield 16, 3) := by decide +kernel
theorem dX0_become_16 : decode cX0_become 16 = .ok (.invokevirtual 23, 3) := by decide +kernel
theorem dX0_become_19 : decode cX0_become 19 = .ok (.aload_n 0, 1) := by decide +kernel
theorem dX0_become_20 : decode cX0_become 20 = .ok (.getfield 20, 3) := by decide +kernel
theorem dX0_become_23 : decode cX0_become 23 = .ok (.aload_n 1, 1) := by decide +kernel
theorem dX0_become_24 : decode cX0_become 24 = .ok (.getfield 20, 3) := by decide +kernel
theorem dX0_become_27 : decode cX0_become 27 = .ok (.invokevirtual 23, 3) := by decide +kernel
theorem dX0_become_30 : decode cX0_become 30 = .ok (.return_, 1) := by decide +kernel
theorem dX1_init_0 : decode cX1_init 0 = .ok (.aload_n 0, 1) := by decide +kernel
theorem dX1_init_1 : decode cX1_init 1 = .ok (.invokespecial 3, 3) := by decide +kernel
theorem dX1_init_4 : decode cX1_init 4 = .ok (.aload_n 0, 1) := by decide +kernel
theorem dX1_init_5 : decode cX1_init 5 = .ok (.bipush 20, 2) := by decide +kernel
theorem dX1_init_7 : decode cX1_init 7 = .ok (.newarray .int, 2) := by decide +kernel
theorem dX1_init_9 : decode cX1_init 9 = .ok (.putfield 9, 3) := by decide +kernel
theorem dX1_init_12 : decode cX1_init 12 = .ok (.aload_n 0, 1) := by decide +kernel
theorem dX1_init_13 : decode cX1_init 13 = .ok (.iconst 0, 1) := by decide +kernel
theorem dX1_init_14 : decode cX1_init 14 = .ok (.putfield 13, 3) := by decide +kernel
theorem dX1_init_17 : decode cX1_init 17 = .ok (.return_, 1) := by decide +kernel
theorem dX1_isZero_0 : decode cX1_isZero 0 = .ok (.aload_n 0, 1) := by decide +kernel
theorem dX1_isZero_1 : decode cX1_isZero 1 = .ok (.getfield 13, 3) := by decide +kernel
theorem dX1_isZero_4 : decode cX1_isZero 4 = .ok (.ifCond .ne 7, 3) := by decide +kernel
theorem dX1_isZero_7 : decode cX1_isZero 7 = .ok (.iconst 1, 1) := by decide +kernel
theorem dX1_isZero_8 : decode cX1_isZero 8 = .ok (.goto 4, 3) := by decide +kernel
theorem dX1_isZero_11 : decode cX1_isZero 11 = .ok (.iconst 0, 1) := by decide +kernel
theorem dX1_isZero_12 : decode cX1_isZero 12 = .ok (.ireturn, 1) := by decide +kernel
theorem dX1_isOne_0 : decode cX1_isOne 0 = .ok (.aload_n 0, 1) := by decide +kernel
theorem dX1_isOne_1 : decode cX1_isOne 1 = .ok (.getfield 13, 3) := by decide +kernel
theorem dX1_isOne_4 : decode cX1_isOne 4 = .ok (.iconst 1, 1) := by decide +kernel
theorem dX1_isOne_5 : decode cX1_isOne 5 = .ok (.if_icmp .ne 17, 3) := by decide +kernel
theorem dX1_isOne_8 : decode cX1_isOne 8 = .ok (.aload_n 0, 1) := by decide +kernel
theorem dX1_isOne_9 : decode cX1_isOne 9 = .ok (.getfield 9, 3) := by decide +kernel
theorem dX1_isOne_12 : decode cX1_isOne 12 = .ok (.iconst 0, 1) := by decide +kernel
theorem dX1_isOne_13 : decode cX1_isOne 13 = .ok (.iaload, 1) := by decide +kernel
theorem dX1_isOne_14 : decode cX1_isOne 14 = .ok (.iconst 1, 1) := by decide +kernel
theorem dX1_isOne_15 : decode cX1_isOne 15 = .ok (.if_icmp .ne 7, 3) := by decide +kernel
theorem dX1_isOne_18 : decode cX1_isOne 18 = .ok (.iconst 1, 1) := by decide +kernel
theorem dX1_isOne_19 : decode cX1_isOne 19 = .ok (.goto 4, 3) := by decide +kernel
theorem dX1_isOne_22 : decode cX1_isOne 22 = .ok (.iconst 0, 1) := by decide +kernel
theorem dX1_isOne_23 : decode cX1_isOne 23 = .ok (.ireturn, 1) := by decide +kernel
theorem dX1_limb_0 : decode cX1_limb 0 = .ok (.iload_n 1, 1) := by decide +kernel
theorem dX1_limb_1 : decode cX1_limb 1 = .ok (.ifCond .lt 23, 3) := by decide +kernel
theorem dX1_limb_4 : decode cX1_limb 4 = .ok (.iload_n 1, 1) := by decide +kernel
theorem dX1_limb_5 : decode cX1_limb 5 = .ok (.bipush 20, 2) := by decide +kernel
theorem dX1_limb_7 : decode cX1_limb 7 = .ok (.if_icmp .ge 17, 3) := by decide +kernel
theorem dX1_limb_10 : decode cX1_limb 10 = .ok (.aload_n 0, 1) := by decide +kernel
theorem dX1_limb_11 : decode cX1_limb 11 = .ok (.getfield 9, 3) := by decide +kernel
theorem dX1_limb_14 : decode cX1_limb 14 = .ok (.iload_n 1, 1) := by decide +kernel
theorem dX1_limb_15 : decode cX1_limb 15 = .ok (.iaload, 1) := by decide +kernel
theorem dX1_limb_16 : decode cX1_limb 16 = .ok (.i2l, 1) := by decide +kernel
theorem dX1_limb_17 : decode cX1_limb 17 = .ok (.ldc2_w 17, 3) := by decide +kernel
theorem dX1_limb_20 : decode cX1_limb 20 = .ok (.land, 1) := by decide +kernel
theorem dX1_limb_21 : decode cX1_limb 21 = .ok (.goto 4, 3) := by decide +kernel
theorem dX1_limb_24 : decode cX1_limb 24 = .ok (.lconst 0, 1) := by decide +kernel
theorem dX1_limb_25 : decode cX1_limb 25 = .ok (.lreturn, 1) := by decide +kernel
set_option maxRecDepth 20000 in
theorem ggX1_capped_X1_limb : GoodIn wsX1_capped wsX1_limb := goodIn_r _ [7, 8, 9, 10, 11] (by decide +kernel) (by decide +kernel)
set_option maxRecDepth 20000 in
theorem gX1_capped_X1_limb : GoodIn wsX1_capped (wsV RX1 21 RX1 yX1_limb wsX1_limb) := goodIn_app (goodIn_of _ (by decide +kernel)) ggX1_capped_X1_limb
theorem dX1_capped_0 : decode cX1_capped 0 = .ok (.aload_n 0, 1) := by decide +kernel
theorem dX1_capped_1 : decode cX1_capped 1 = .ok (.getfield 13, 3) := by decide +kernel
theorem dX1_capped_4 : decode cX1_capped 4 = .ok (.iconst 1, 1) := by decide +kernel
theorem dX1_capped_5 : decode cX1_capped 5 = .ok (.if_icmp .le 9, 3) := by decide +kernel
theorem dX1_capped_8 : decode cX1_capped 8 = .ok (.ldc2_w 19, 3) := by decide +kernel
theorem dX1_capped_11 : decode cX1_capped 11 = .ok (.goto 8, 3) := by decide +kernel
theorem dX1_capped_14 : decode cX1_capped 14 = .ok (.aload_n 0, 1) := by decide +kernel
theorem dX1_capped_15 : decode cX1_capped 15 = .ok (.iconst 0, 1) := by decide +kernel
theorem dX1_capped_16 : decode cX1_capped 16 = .ok (.invokevirtual 21, 3) := by decide +kernel
theorem dX1_capped_19 : decode cX1_capped 19 = .ok (.lreturn, 1) := by decide +kernel
set_option maxRecDepth 20000 in
theorem ggX1_become_X1_clear : GoodIn wsX1_become wsX1_clear := goodIn_r _ [6, 7, 1, 12, 13] (by decide +kernel) (by decide +kernel)
set_option maxRecDepth 20000 in
theorem gX1_become_X1_clear : GoodIn wsX1_become (wsV RX1 25 RX1 yX1_clear wsX1_clear) := goodIn_app (goodIn_of _ (by decide +kernel)) ggX1_become_X1_clear
set_option maxRecDepth 20000 in
theorem ggX1_become_X1_trimFrom : GoodIn wsX1_become wsX1_trimFrom := goodIn_r _ [11, 1, 7, 12, 13] (by decide +kernel) (by decide +kernel)
set_option maxRecDepth 20000 in
theorem gX1_become_X1_trimFrom : GoodIn wsX1_become (wsV RX1 28 RX1 yX1_trimFrom wsX1_trimFrom) := goodIn_app (goodIn_of _ (by decide +kernel)) ggX1_become_X1_trimFrom
theorem dX1_become_0 : decode cX1_become 0 = .ok (.aload_n 0, 1) := by decide +kernel
theorem dX1_become_1 : decode cX1_become 1 = .ok (.invokevirtual 25, 3) := by decide +kernel
theorem dX1_become_4 : decode cX1_become 4 = .ok (.aload_n 0, 1) := by decide +kernel
theorem dX1_become_5 : decode cX1_become 5 = .ok (.getfield 9, 3) := by decide +kernel
theorem dX1_become_8 : decode cX1_become 8 = .ok (.iconst 0, 1) := by decide +kernel
theorem dX1_become_9 : decode cX1_become 9 = .ok (.lload_n 1, 1) := by decide +kernel
theorem dX1_become_10 : decode cX1_become 10 = .ok (.l2i, 1) := by decide +kernel
theorem dX1_become_11 : decode cX1_become 11 = .ok (.iastore, 1) := by decide +kernel
theorem dX1_become_12 : decode cX1_become 12 = .ok (.aload_n 0, 1) := by decide +kernel
theorem dX1_become_13 : decode cX1_become 13 = .ok (.iconst 1, 1) := by decide +kernel
theorem dX1_become_14 : decode cX1_become 14 = .ok (.invokevirtual 28, 3) := by decide +kernel
theorem dX1_become_17 : decode cX1_become 17 = .ok (.return_, 1) := by decide +kernel
theorem dX1_become__0 : decode cX1_become_ 0 = .ok (.aload_n 0, 1) := by decide +kernel
theorem dX1_become__1 : decode cX1_become_ 1 = .ok (.getfield 13, 3) := by decide +kernel
theorem dX1_become__4 : decode cX1_become_ 4 = .ok (.aload_n 1, 1) := by decide +kernel
theorem dX1_become__5 : decode cX1_become_ 5 = .ok (.getfield 13, 3) := by decide +kernel
theorem dX1_become__8 : decode cX1_become_ 8 = .ok (.invokestatic 32, 3) := by decide +kernel
theorem dX1_become__11 : decode cX1_become_ 11 = .ok (.iconst 1, 1) := by decide +kernel
theorem dX1_become__12 : decode cX1_become_ 12 = .ok (.isub, 1) := by decide +kernel
theorem dX1_become__13 : decode cX1_become_ 13 = .ok (.istore_n 2, 1) := by decide +kernel
theorem dX1_become__14 : decode cX1_become_ 14 = .ok (.iload_n 2, 1) := by decide +kernel
theorem dX1_become__15 : decode cX1_become_ 15 = .ok (.ifCond .lt 21, 3) := by decide +kernel
theorem dX1_become__18 : decode cX1_become_ 18 = .ok (.aload_n 0, 1) := by decide +kernel
theorem dX1_become__19 : decode cX1_become_ 19 = .ok (.getfield 9, 3) := by decide +kernel
theorem dX1_become__22 : decode cX1_become_ 22 = .ok (.iload_n 2, 1) := by decide +kernel
theorem dX1_become__23 : decode cX1_become_ 23 = .ok (.aload_n 1, 1) := by decide +kernel
theorem dX1_become__24 : decode cX1_become_ 24 = .ok (.getfield 9, 3) := by decide +kernel
theorem dX1_become__27 : decode cX1_become_ 27 = .ok (.iload_n 2, 1) := by decide +kernel
theorem dX1_become__28 : decode cX1_become_ 28 = .ok (.iaload, 1) := by decide +kernel
theorem dX1_become__29 : decode cX1_become_ 29 = .ok (.iastore, 1) := by decide +kernel
theorem dX1_become__30 : decode cX1_become_ 30 = .ok (.iinc 2 (-1), 3) := by decide +kernel
theorem dX1_become__33 : decode cX1_become_ 33 = .ok (.goto (-19), 3) := by decide +kernel
theorem dX1_become__36 : decode cX1_become_ 36 = .ok (.aload_n 0, 1) := by decide +kernel
theorem dX1_become__37 : decode cX1_become_ 37 = .ok (.aload_n 1, 1) := by decide +kernel
theorem dX1_become__38 : decode cX1_become_ 38 = .ok (.getfield 13, 3) := by decide +kernel
theorem dX1_become__41 : decode cX1_become_ 41 = .ok (.putfield 13, 3) := by decide +kernel
theorem dX1_become__44 : decode cX1_become_ 44 = .ok (.return_, 1) := by decide +kernel
set_option maxRecDepth 20000 in
theorem ggX1_compareWith_X1_limb : GoodIn wsX1_compareWith wsX1_limb := goodIn_r _ [7, 2, 8, 9, 10] (by decide +kernel) (by decide +kernel)
set_option maxRecDepth 20000 in
theorem gX1_compareWith_X1_limb : GoodIn wsX1_compareWith (wsV RX1 21 RX1 yX1_limb wsX1_limb) := goodIn_app (goodIn_of _ (by decide +kernel)) ggX1_compareWith_X1_limb
theorem dX1_compareWith_0 : decode cX1_compareWith 0 = .ok (.aload_n 0, 1) := by decide +kernel
theorem dX1_compareWith_1 : decode cX1_compareWith 1 = .ok (.getfield 13, 3) := by decide +kernel
theorem dX1_compareWith_4 : decode cX1_compareWith 4 = .ok (.aload_n 1, 1) := by decide +kernel
theorem dX1_compareWith_5 : decode cX1_compareWith 5 = .ok (.getfield 13, 3) := by decide +kernel
theorem dX1_compareWith_8 : decode cX1_compareWith 8 = .ok (.if_icmp .eq 20, 3) := by decide +kernel
theorem dX1_compareWith_11 : decode cX1_compareWith 11 = .ok (.aload_n 0, 1) := by decide +kernel
theorem dX1_compareWith_12 : decode cX1_compareWith 12 = .ok (.getfield 13, 3) := by decide +kernel
theorem dX1_compareWith_15 : decode cX1_compareWith 15 = .ok (.aload_n 1, 1) := by decide +kernel
theorem dX1_compareWith_16 : decode cX1_compareWith 16 = .ok (.getfield 13, 3) := by decide +kernel
theorem dX1_compareWith_19 : decode cX1_compareWith 19 = .ok (.if_icmp .ge 7, 3) := by decide +kernel
theorem dX1_compareWith_22 : decode cX1_compareWith 22 = .ok (.iconst (-1), 1) := by decide +kernel
theorem dX1_compareWith_23 : decode cX1_compareWith 23 = .ok (.goto 4, 3) := by decide +kernel
theorem dX1_compareWith_26 : decode cX1_compareWith 26 = .ok (.iconst 1, 1) := by decide +kernel
theorem dX1_compareWith_27 : decode cX1_compareWith 27 = .ok (.ireturn, 1) := by decide +kernel
theorem dX1_compareWith_28 : decode cX1_compareWith 28 = .ok (.aload_n 0, 1) := by decide +kernel
theorem dX1_compareWith_29 : decode cX1_compareWith 29 = .ok (.getfield 13, 3) := by decide +kernel
theorem dX1_compareWith_32 : decode cX1_compareWith 32 = .ok (.iconst 1, 1) := by decide +kernel
theorem dX1_compareWith_33 : decode cX1_compareWith 33 = .ok (.isub, 1) := by decide +kernel
theorem dX1_compareWith_34 : decode cX1_compareWith 34 = .ok (.istore_n 2, 1) := by decide +kernel
theorem dX1_compareWith_35 : decode cX1_compareWith 35 = .ok (.iload_n 2, 1) := by decide +kernel
theorem dX1_compareWith_36 : decode cX1_compareWith 36 = .ok (.ifCond .lt 44, 3) := by decide +kernel
theorem dX1_compareWith_39 : decode cX1_compareWith 39 = .ok (.aload_n 0, 1) := by decide +kernel
theorem dX1_compareWith_40 : decode cX1_compareWith 40 = .ok (.getfield 9, 3) := by decide +kernel
theorem dX1_compareWith_43 : decode cX1_compareWith 43 = .ok (.iload_n 2, 1) := by decide +kernel
theorem dX1_compareWith_44 : decode cX1_compareWith 44 = .ok (.iaload, 1) := by decide +kernel
theorem dX1_compareWith_45 : decode cX1_compareWith 45 = .ok (.aload_n 1, 1) := by decide +kernel
theorem dX1_compareWith_46 : decode cX1_compareWith 46 = .ok (.getfield 9, 3) := by decide +kernel
theorem dX1_compareWith_49 : decode cX1_compareWith 49 = .ok (.iload_n 2, 1) := by decide +kernel
theorem dX1_compareWith_50 : decode cX1_compareWith 50 = .ok (.iaload, 1) := by decide +kernel
theorem dX1_compareWith_51 : decode cX1_compareWith 51 = .ok (.if_icmp .eq 23, 3) := by decide +kernel
theorem dX1_compareWith_54 : decode cX1_compareWith 54 = .ok (.aload_n 0, 1) := by decide +kernel
theorem dX1_compareWith_55 : decode cX1_compareWith 55 = .ok (.iload_n 2, 1) := by decide +kernel
theorem dX1_compareWith_56 : decode cX1_compareWith 56 = .ok (.invokevirtual 21, 3) := by decide +kernel
theorem dX1_compareWith_59 : decode cX1_compareWith 59 = .ok (.aload_n 1, 1) := by decide +kernel
theorem dX1_compareWith_60 : decode cX1_compareWith 60 = .ok (.iload_n 2, 1) := by decide +kernel
theorem dX1_compareWith_61 : decode cX1_compareWith 61 = .ok (.invokevirtual 21, 3) := by decide +kernel
theorem dX1_compareWith_64 : decode cX1_compareWith 64 = .ok (.lcmp, 1) := by decide +kernel
theorem dX1_compareWith_65 : decode cX1_compareWith 65 = .ok (.ifCond .ge 7, 3) := by decide +kernel
theorem dX1_compareWith_68 : decode cX1_compareWith 68 = .ok (.iconst (-1), 1) := by decide +kernel
theorem dX1_compareWith_69 : decode cX1_compareWith 69 = .ok (.goto 4, 3) := by decide +kernel
theorem dX1_compareWith_72 : decode cX1_compareWith 72 = .ok (.iconst 1, 1) := by decide +kernel
theorem dX1_compareWith_73 : decode cX1_compareWith 73 = .ok (.ireturn, 1) := by decide +kernel
theorem dX1_compareWith_74 : decode cX1_compareWith 74 = .ok (.iinc 2 (-1), 3) := by decide +kernel
theorem dX1_compareWith_77 : decode cX1_compareWith 77 = .ok (.goto (-42), 3) := by decide +kernel
theorem dX1_compareWith_80 : decode cX1_compareWith 80 = .ok (.iconst 0, 1) := by decide +kernel
theorem dX1_compareWith_81 : decode cX1_compareWith 81 = .ok (.ireturn, 1) := by decide +kernel
set_option maxRecDepth 20000 in
theorem ggX1_becomeSum_X1_limb : GoodIn wsX1_becomeSum wsX1_limb := goodIn_r _ [6, 1, 7, 13, 14] (by decide +kernel) (by decide +kernel)
set_option maxRecDepth 20000 in
theorem gX1_becomeSum_X1_limb : GoodIn wsX1_becomeSum (wsV RX1 21 RX1 yX1_limb wsX1_limb) := goodIn_app (goodIn_of _ (by decide +kernel)) ggX1_becomeSum_X1_limb
set_option maxRecDepth 20000 in
theorem ggX1_becomeSum_X1_trimFrom : GoodIn wsX1_becomeSum wsX1_trimFrom := goodIn_r _ [11, 1, 12, 13, 14] (by decide +kernel) (by decide +kernel)
set_option maxRecDepth 20000 in
theorem gX1_becomeSum_X1_trimFrom : GoodIn wsX1_becomeSum (wsV RX1 28 RX1 yX1_trimFrom wsX1_trimFrom) := goodIn_app (goodIn_of _ (by decide +kernel)) ggX1_becomeSum_X1_trimFrom
theorem dX1_becomeSum_0 : decode cX1_becomeSum 0 = .ok (.lconst 0, 1) := by decide +kernel
theorem dX1_becomeSum_1 : decode cX1_becomeSum 1 = .ok (.lstore_n 3, 1) := by decide +kernel
theorem dX1_becomeSum_2 : decode cX1_becomeSum 2 = .ok (.iconst 0, 1) := by decide +kernel
theorem dX1_becomeSum_3 : decode cX1_becomeSum 3 = .ok (.istore 5, 2) := by decide +kernel
theorem dX1_becomeSum_5 : decode cX1_becomeSum 5 = .ok (.iload 5, 2) := by decide +kernel
theorem dX1_becomeSum_7 : decode cX1_becomeSum 7 = .ok (.bipush 20, 2) := by decide +kernel
theorem dX1_becomeSum_9 : decode cX1_becomeSum 9 = .ok (.if_icmp .ge 42, 3) := by decide +kernel
theorem dX1_becomeSum_12 : decode cX1_becomeSum 12 = .ok (.aload_n 1, 1) := by decide +kernel
theorem dX1_becomeSum_13 : decode cX1_becomeSum 13 = .ok (.iload 5, 2) := by decide +kernel
theorem dX1_becomeSum_15 : decode cX1_becomeSum 15 = .ok (.invokevirtual 21, 3) := by decide +kernel
theorem dX1_becomeSum_18 : decode cX1_becomeSum 18 = .ok (.aload_n 2, 1) := by decide +kernel
theorem dX1_becomeSum_19 : decode cX1_becomeSum 19 = .ok (.iload 5, 2) := by decide +kernel
theorem dX1_becomeSum_21 : decode cX1_becomeSum 21 = .ok (.invokevirtual 21, 3) := by decide +kernel
theorem dX1_becomeSum_24 : decode cX1_becomeSum 24 = .ok (.ladd, 1) := by decide +kernel
theorem dX1_becomeSum_25 : decode cX1_becomeSum 25 = .ok (.lload_n 3, 1) := by decide +kernel
theorem dX1_becomeSum_26 : decode cX1_becomeSum 26 = .ok (.ladd, 1) := by decide +kernel
theorem dX1_becomeSum_27 : decode cX1_becomeSum 27 = .ok (.lstore 6, 2) := by decide +kernel
theorem dX1_becomeSum_29 : decode cX1_becomeSum 29 = .ok (.aload_n 0, 1) := by decide +kernel
theorem dX1_becomeSum_30 : decode cX1_becomeSum 30 = .ok (.getfield 9, 3) := by decide +kernel
theorem dX1_becomeSum_33 : decode cX1_becomeSum 33 = .ok (.iload 5, 2) := by decide +kernel
theorem dX1_becomeSum_35 : decode cX1_becomeSum 35 = .ok (.lload 6, 2) := by decide +kernel
theorem dX1_becomeSum_37 : decode cX1_becomeSum 37 = .ok (.l2i, 1) := by decide +kernel
theorem dX1_becomeSum_38 : decode cX1_becomeSum 38 = .ok (.iastore, 1) := by decide +kernel
theorem dX1_becomeSum_39 : decode cX1_becomeSum 39 = .ok (.lload 6, 2) := by decide +kernel
theorem dX1_becomeSum_41 : decode cX1_becomeSum 41 = .ok (.bipush 32, 2) := by decide +kernel
theorem dX1_becomeSum_43 : decode cX1_becomeSum 43 = .ok (.lushr, 1) := by decide +kernel
theorem dX1_becomeSum_44 : decode cX1_becomeSum 44 = .ok (.lstore_n 3, 1) := by decide +kernel
theorem dX1_becomeSum_45 : decode cX1_becomeSum 45 = .ok (.iinc 5 1, 3) := by decide +kernel
theorem dX1_becomeSum_48 : decode cX1_becomeSum 48 = .ok (.goto (-43), 3) := by decide +kernel
theorem dX1_becomeSum_51 : decode cX1_becomeSum 51 = .ok (.aload_n 0, 1) := by decide +kernel
theorem dX1_becomeSum_52 : decode cX1_becomeSum 52 = .ok (.bipush 20, 2) := by decide +kernel
theorem dX1_becomeSum_54 : decode cX1_becomeSum 54 = .ok (.invokevirtual 28, 3) := by decide +kernel
theorem dX1_becomeSum_57 : decode cX1_becomeSum 57 = .ok (.return_, 1) := by decide +kernel
set_option maxRecDepth 20000 in
theorem ggX1_becomeDifference_X1_limb : GoodIn wsX1_becomeDifference wsX1_limb := goodIn_r _ [6, 1, 7, 13, 14] (by decide +kernel) (by decide +kernel)
set_option maxRecDepth 20000 in
theorem gX1_becomeDifference_X1_limb : GoodIn wsX1_becomeDifference (wsV RX1 21 RX1 yX1_limb wsX1_limb) := goodIn_app (goodIn_of _ (by decide +kernel)) ggX1_becomeDifference_X1_limb
set_option maxRecDepth 20000 in
theorem ggX1_becomeDifference_X1_trimFrom : GoodIn wsX1_becomeDifference wsX1_trimFrom := goodIn_r _ [11, 1, 12, 13, 14] (by decide +kernel) (by decide +kernel)
set_option maxRecDepth 20000 in
theorem gX1_becomeDifference_X1_trimFrom : GoodIn wsX1_becomeDifference (wsV RX1 28 RX1 yX1_trimFrom wsX1_trimFrom) := goodIn_app (goodIn_of _ (by decide +kernel)) ggX1_becomeDifference_X1_trimFrom
theorem dX1_becomeDifference_0 : decode cX1_becomeDifference 0 = .ok (.lconst 0, 1) := by decide +kernel
theorem dX1_becomeDifference_1 : decode cX1_becomeDifference 1 = .ok (.lstore_n 3, 1) := by decide +kernel
theorem dX1_becomeDifference_2 : decode cX1_becomeDifference 2 = .ok (.iconst 0, 1) := by decide +kernel
theorem dX1_becomeDifference_3 : decode cX1_becomeDifference 3 = .ok (.istore 5, 2) := by decide +kernel
theorem dX1_becomeDifference_5 : decode cX1_becomeDifference 5 = .ok (.iload 5, 2) := by decide +kernel
theorem dX1_becomeDifference_7 : decode cX1_becomeDifference 7 = .ok (.bipush 20, 2) := by decide +kernel
theorem dX1_becomeDifference_9 : decode cX1_becomeDifference 9 = .ok (.if_icmp .ge 49, 3) := by decide +kernel
theorem dX1_becomeDifference_12 : decode cX1_becomeDifference 12 = .ok (.aload_n 1, 1) := by decide +kernel
theorem dX1_becomeDifference_13 : decode cX1_becomeDifference 13 = .ok (.iload 5, 2) := by decide +kernel
theorem dX1_becomeDifference_15 : decode cX1_becomeDifference 15 = .ok (.invokevirtual 21, 3) := by decide +kernel
theorem dX1_becomeDifference_18 : decode cX1_becomeDifference 18 = .ok (.aload_n 2, 1) := by decide +kernel
theorem dX1_becomeDifference_19 : decode cX1_becomeDifference 19 = .ok (.iload 5, 2) := by decide +kernel
theorem dX1_becomeDifference_21 : decode cX1_becomeDifference 21 = .ok (.invokevirtual 21, 3) := by decide +kernel
theorem dX1_becomeDifference_24 : decode cX1_becomeDifference 24 = .ok (.lsub, 1) := by decide +kernel
theorem dX1_becomeDifference_25 : decode cX1_becomeDifference 25 = .ok (.lload_n 3, 1) := by decide +kernel
theorem dX1_becomeDifference_26 : decode cX1_becomeDifference 26 = .ok (.lsub, 1) := by decide +kernel
theorem dX1_becomeDifference_27 : decode cX1_becomeDifference 27 = .ok (.lstore 6, 2) := by decide +kernel
theorem dX1_becomeDifference_29 : decode cX1_becomeDifference 29 = .ok (.aload_n 0, 1) := by decide +kernel
theorem dX1_becomeDifference_30 : decode cX1_becomeDifference 30 = .ok (.getfield 9, 3) := by decide +kernel
theorem dX1_becomeDifference_33 : decode cX1_becomeDifference 33 = .ok (.iload 5, 2) := by decide +kernel
theorem dX1_becomeDifference_35 : decode cX1_becomeDifference 35 = .ok (.lload 6, 2) := by decide +kernel
theorem dX1_becomeDifference_37 : decode cX1_becomeDifference 37 = .ok (.l2i, 1) := by decide +kernel
theorem dX1_becomeDifference_38 : decode cX1_becomeDifference 38 = .ok (.iastore, 1) := by decide +kernel
theorem dX1_becomeDifference_39 : decode cX1_becomeDifference 39 = .ok (.lload 6, 2) := by decide +kernel
theorem dX1_becomeDifference_41 : decode cX1_becomeDifference 41 = .ok (.lconst 0, 1) := by decide +kernel
theorem dX1_becomeDifference_42 : decode cX1_becomeDifference 42 = .ok (.lcmp, 1) := by decide +kernel
theorem dX1_becomeDifference_43 : decode cX1_becomeDifference 43 = .ok (.ifCond .ge 7, 3) := by decide +kernel
theorem dX1_becomeDifference_46 : decode cX1_becomeDifference 46 = .ok (.lconst 1, 1) := by decide +kernel
theorem dX1_becomeDifference_47 : decode cX1_becomeDifference 47 = .ok (.goto 4, 3) := by decide +kernel
theorem dX1_becomeDifference_50 : decode cX1_becomeDifference 50 = .ok (.lconst 0, 1) := by decide +kernel
theorem dX1_becomeDifference_51 : decode cX1_becomeDifference 51 = .ok (.lstore_n 3, 1) := by decide +kernel
theorem dX1_becomeDifference_52 : decode cX1_becomeDifference 52 = .ok (.iinc 5 1, 3) := by decide +kernel
theorem dX1_becomeDifference_55 : decode cX1_becomeDifference 55 = .ok (.goto (-50), 3) := by decide +kernel
theorem dX1_becomeDifference_58 : decode cX1_becomeDifference 58 = .ok (.aload_n 0, 1) := by decide +kernel
theorem dX1_becomeDifference_59 : decode cX1_becomeDifference 59 = .ok (.bipush 20, 2) := by decide +kernel
theorem dX1_becomeDifference_61 : decode cX1_becomeDifference 61 = .ok (.invokevirtual 28, 3) := by decide +kernel
theorem dX1_becomeDifference_64 : decode cX1_becomeDifference 64 = .ok (.return_, 1) := by decide +kernel
set_option maxRecDepth 20000 in
theorem ggX1_becomeProduct_X1_clear : GoodIn wsX1_becomeProduct wsX1_clear := goodIn_r _ [6, 1, 7, 25, 26] (by decide +kernel) (by decide +kernel)

