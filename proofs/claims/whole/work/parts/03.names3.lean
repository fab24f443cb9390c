set_option maxRecDepth 20000 in
theorem gwX1_init : wsX1_init.all goodWord = true := by decide +kernel
set_option maxRecDepth 20000 in
theorem ggX0_init_X1_init : GoodIn wsX0_init wsX1_init := goodIn_r _ [4, 5, 6, 7, 8, 9, 10, 11, 12, 13, 14, 15, 16, 17, 18, 19, 20, 21] rfl gwX1_init
set_option maxRecDepth 20000 in
theorem gX0_init_X1_init : GoodIn wsX0_init (wsX1_init) := ggX0_init_X1_init
theorem dX0_init_0 : decode cX0_init 0 = .ok (.aload_n 0, 1) := by decide +kernel
theorem dX0_init_1 : decode cX0_init 1 = .ok (.iload_n 1, 1) := by decide +kernel
theorem dX0_init_2 : decode cX0_init 2 = .ok (.aload_n 2, 1) := by decide +kernel
theorem dX0_init_3 : decode cX0_init 3 = .ok (.invokespecial 3, 3) := by decide +kernel
theorem dX0_init_6 : decode cX0_init 6 = .ok (.return_, 1) := by decide +kernel
theorem dX0_pays_0 : decode cX0_pays 0 = .ok (.iload_n 2, 1) := by decide +kernel
theorem dX0_pays_1 : decode cX0_pays 1 = .ok (.aload_n 1, 1) := by decide +kernel
theorem dX0_pays_2 : decode cX0_pays 2 = .ok (.getfield 9, 3) := by decide +kernel
theorem dX0_pays_5 : decode cX0_pays 5 = .ok (.invokestatic 15, 3) := by decide +kernel
theorem dX0_pays_8 : decode cX0_pays 8 = .ok (.bipush 60, 2) := by decide +kernel
theorem dX0_pays_10 : decode cX0_pays 10 = .ok (.invokestatic 21, 3) := by decide +kernel
theorem dX0_pays_13 : decode cX0_pays 13 = .ok (.ireturn, 1) := by decide +kernel
theorem dX0_worth_0 : decode cX0_worth 0 = .ok (.iconst 1, 1) := by decide +kernel
theorem dX0_worth_1 : decode cX0_worth 1 = .ok (.ireturn, 1) := by decide +kernel
theorem dX0_fail_0 : decode cX0_fail 0 = .ok (.iload_n 1, 1) := by decide +kernel
theorem dX0_fail_1 : decode cX0_fail 1 = .ok (.ifCond .eq 11, 3) := by decide +kernel
theorem dX0_fail_4 : decode cX0_fail 4 = .ok (.new 24, 3) := by decide +kernel
theorem dX0_fail_7 : decode cX0_fail 7 = .ok (.dup, 1) := by decide +kernel
theorem dX0_fail_8 : decode cX0_fail 8 = .ok (.invokespecial 26, 3) := by decide +kernel
theorem dX0_fail_11 : decode cX0_fail 11 = .ok (.athrow, 1) := by decide +kernel
theorem dX0_fail_12 : decode cX0_fail 12 = .ok (.return_, 1) := by decide +kernel
theorem dX1_init_0 : decode cX1_init 0 = .ok (.aload_n 0, 1) := by decide +kernel
theorem dX1_init_1 : decode cX1_init 1 = .ok (.invokespecial 3, 3) := by decide +kernel
theorem dX1_init_4 : decode cX1_init 4 = .ok (.aload_n 0, 1) := by decide +kernel
theorem dX1_init_5 : decode cX1_init 5 = .ok (.iload_n 1, 1) := by decide +kernel
theorem dX1_init_6 : decode cX1_init 6 = .ok (.putfield 9, 3) := by decide +kernel
theorem dX1_init_9 : decode cX1_init 9 = .ok (.aload_n 0, 1) := by decide +kernel
theorem dX1_init_10 : decode cX1_init 10 = .ok (.aload_n 2, 1) := by decide +kernel
theorem dX1_init_11 : decode cX1_init 11 = .ok (.putfield 15, 3) := by decide +kernel
theorem dX1_init_14 : decode cX1_init 14 = .ok (.return_, 1) := by decide +kernel
theorem dX1_isOrIsUnder_0 : decode cX1_isOrIsUnder 0 = .ok (.aload_n 0, 1) := by decide +kernel
theorem dX1_isOrIsUnder_1 : decode cX1_isOrIsUnder 1 = .ok (.astore_n 2, 1) := by decide +kernel
theorem dX1_isOrIsUnder_2 : decode cX1_isOrIsUnder 2 = .ok (.aload_n 2, 1) := by decide +kernel
theorem dX1_isOrIsUnder_3 : decode cX1_isOrIsUnder 3 = .ok (.ifnull 24, 3) := by decide +kernel
theorem dX1_isOrIsUnder_6 : decode cX1_isOrIsUnder 6 = .ok (.aload_n 2, 1) := by decide +kernel
theorem dX1_isOrIsUnder_7 : decode cX1_isOrIsUnder 7 = .ok (.getfield 9, 3) := by decide +kernel
theorem dX1_isOrIsUnder_10 : decode cX1_isOrIsUnder 10 = .ok (.aload_n 1, 1) := by decide +kernel
theorem dX1_isOrIsUnder_11 : decode cX1_isOrIsUnder 11 = .ok (.getfield 9, 3) := by decide +kernel
theorem dX1_isOrIsUnder_14 : decode cX1_isOrIsUnder 14 = .ok (.if_icmp .ne 5, 3) := by decide +kernel
theorem dX1_isOrIsUnder_17 : decode cX1_isOrIsUnder 17 = .ok (.iconst 1, 1) := by decide +kernel
theorem dX1_isOrIsUnder_18 : decode cX1_isOrIsUnder 18 = .ok (.ireturn, 1) := by decide +kernel
theorem dX1_isOrIsUnder_19 : decode cX1_isOrIsUnder 19 = .ok (.aload_n 2, 1) := by decide +kernel
theorem dX1_isOrIsUnder_20 : decode cX1_isOrIsUnder 20 = .ok (.getfield 15, 3) := by decide +kernel
theorem dX1_isOrIsUnder_23 : decode cX1_isOrIsUnder 23 = .ok (.astore_n 2, 1) := by decide +kernel
theorem dX1_isOrIsUnder_24 : decode cX1_isOrIsUnder 24 = .ok (.goto (-22), 3) := by decide +kernel
theorem dX1_isOrIsUnder_27 : decode cX1_isOrIsUnder 27 = .ok (.iconst 0, 1) := by decide +kernel
theorem dX1_isOrIsUnder_28 : decode cX1_isOrIsUnder 28 = .ok (.ireturn, 1) := by decide +kernel
theorem dX1_pays_0 : decode cX1_pays 0 = .ok (.bipush 60, 2) := by decide +kernel
theorem dX1_pays_2 : decode cX1_pays 2 = .ok (.ireturn, 1) := by decide +kernel
theorem dX1_refill_0 : decode cX1_refill 0 = .ok (.iconst 0, 1) := by decide +kernel
theorem dX1_refill_1 : decode cX1_refill 1 = .ok (.istore_n 2, 1) := by decide +kernel
theorem dX1_refill_2 : decode cX1_refill 2 = .ok (.iload_n 2, 1) := by decide +kernel
theorem dX1_refill_3 : decode cX1_refill 3 = .ok (.sipush 1000, 3) := by decide +kernel
theorem dX1_refill_6 : decode cX1_refill 6 = .ok (.if_icmp .ge 45, 3) := by decide +kernel
theorem dX1_refill_9 : decode cX1_refill 9 = .ok (.aload_n 1, 1) := by decide +kernel
theorem dX1_refill_10 : decode cX1_refill 10 = .ok (.getfield 19, 3) := by decide +kernel
theorem dX1_refill_13 : decode cX1_refill 13 = .ok (.ifCond .gt 38, 3) := by decide +kernel
theorem dX1_refill_16 : decode cX1_refill 16 = .ok (.aload_n 1, 1) := by decide +kernel
theorem dX1_refill_17 : decode cX1_refill 17 = .ok (.dup, 1) := by decide +kernel
theorem dX1_refill_18 : decode cX1_refill 18 = .ok (.getfield 19, 3) := by decide +kernel
theorem dX1_refill_21 : decode cX1_refill 21 = .ok (.bipush 60, 2) := by decide +kernel
theorem dX1_refill_23 : decode cX1_refill 23 = .ok (.aload_n 1, 1) := by decide +kernel
theorem dX1_refill_24 : decode cX1_refill 24 = .ok (.getfield 24, 3) := by decide +kernel
theorem dX1_refill_27 : decode cX1_refill 27 = .ok (.imul, 1) := by decide +kernel
theorem dX1_refill_28 : decode cX1_refill 28 = .ok (.iadd, 1) := by decide +kernel
theorem dX1_refill_29 : decode cX1_refill 29 = .ok (.putfield 19, 3) := by decide +kernel
theorem dX1_refill_32 : decode cX1_refill 32 = .ok (.aload_n 1, 1) := by decide +kernel
theorem dX1_refill_33 : decode cX1_refill 33 = .ok (.dup, 1) := by decide +kernel
theorem dX1_refill_34 : decode cX1_refill 34 = .ok (.getfield 27, 3) := by decide +kernel
theorem dX1_refill_37 : decode cX1_refill 37 = .ok (.aload_n 1, 1) := by decide +kernel
theorem dX1_refill_38 : decode cX1_refill 38 = .ok (.getfield 30, 3) := by decide +kernel
theorem dX1_refill_41 : decode cX1_refill 41 = .ok (.iadd, 1) := by decide +kernel
theorem dX1_refill_42 : decode cX1_refill 42 = .ok (.putfield 27, 3) := by decide +kernel
theorem dX1_refill_45 : decode cX1_refill 45 = .ok (.iinc 2 1, 3) := by decide +kernel
theorem dX1_refill_48 : decode cX1_refill 48 = .ok (.goto (-46), 3) := by decide +kernel
theorem dX1_refill_51 : decode cX1_refill 51 = .ok (.return_, 1) := by decide +kernel
theorem dX1_wake_0 : decode cX1_wake 0 = .ok (.aload_n 1, 1) := by decide +kernel
theorem dX1_wake_1 : decode cX1_wake 1 = .ok (.iconst 1, 1) := by decide +kernel
theorem dX1_wake_2 : decode cX1_wake 2 = .ok (.putfield 33, 3) := by decide +kernel
theorem dX1_wake_5 : decode cX1_wake 5 = .ok (.aload_n 1, 1) := by decide +kernel
theorem dX1_wake_6 : decode cX1_wake 6 = .ok (.bipush 60, 2) := by decide +kernel
theorem dX1_wake_8 : decode cX1_wake 8 = .ok (.aload_n 1, 1) := by decide +kernel
theorem dX1_wake_9 : decode cX1_wake 9 = .ok (.getfield 24, 3) := by decide +kernel
theorem dX1_wake_12 : decode cX1_wake 12 = .ok (.imul, 1) := by decide +kernel
theorem dX1_wake_13 : decode cX1_wake 13 = .ok (.putfield 19, 3) := by decide +kernel
theorem dX1_wake_16 : decode cX1_wake 16 = .ok (.aload_n 1, 1) := by decide +kernel
theorem dX1_wake_17 : decode cX1_wake 17 = .ok (.dup, 1) := by decide +kernel
theorem dX1_wake_18 : decode cX1_wake 18 = .ok (.getfield 27, 3) := by decide +kernel
theorem dX1_wake_21 : decode cX1_wake 21 = .ok (.aload_n 1, 1) := by decide +kernel
theorem dX1_wake_22 : decode cX1_wake 22 = .ok (.getfield 30, 3) := by decide +kernel
theorem dX1_wake_25 : decode cX1_wake 25 = .ok (.iadd, 1) := by decide +kernel
theorem dX1_wake_26 : decode cX1_wake 26 = .ok (.putfield 27, 3) := by decide +kernel
theorem dX1_wake_29 : decode cX1_wake 29 = .ok (.return_, 1) := by decide +kernel
theorem dX1_worth_0 : decode cX1_worth 0 = .ok (.iload_n 1, 1) := by decide +kernel
theorem dX1_worth_1 : decode cX1_worth 1 = .ok (.ireturn, 1) := by decide +kernel
theorem dX1_fail_0 : decode cX1_fail 0 = .ok (.iload_n 1, 1) := by decide +kernel
theorem dX1_fail_1 : decode cX1_fail 1 = .ok (.ifCond .eq 11, 3) := by decide +kernel
theorem dX1_fail_4 : decode cX1_fail 4 = .ok (.new 36, 3) := by decide +kernel
theorem dX1_fail_7 : decode cX1_fail 7 = .ok (.dup, 1) := by decide +kernel
theorem dX1_fail_8 : decode cX1_fail 8 = .ok (.invokespecial 38, 3) := by decide +kernel
theorem dX1_fail_11 : decode cX1_fail 11 = .ok (.athrow, 1) := by decide +kernel
theorem dX1_fail_12 : decode cX1_fail 12 = .ok (.return_, 1) := by decide +kernel
set_option maxRecDepth 20000 in
theorem gwX0_init : wsX0_init.all goodWord = true := by decide +kernel
set_option maxRecDepth 20000 in
theorem ggX2_init_X0_init : GoodIn wsX2_init wsX0_init := goodIn_r _ [4, 5, 6, 7, 8, 9, 10, 11, 12, 13, 14, 15, 16, 17, 18, 19, 20, 21, 22, 23, 24, 25] rfl gwX0_init
set_option maxRecDepth 20000 in
theorem gX2_init_X0_init : GoodIn wsX2_init (wsX0_init) := ggX2_init_X0_init
theorem dX2_init_0 : decode cX2_init 0 = .ok (.aload_n 0, 1) := by decide +kernel
theorem dX2_init_1 : decode cX2_init 1 = .ok (.iload_n 1, 1) := by decide +kernel
theorem dX2_init_2 : decode cX2_init 2 = .ok (.aload_n 2, 1) := by decide +kernel
theorem dX2_init_3 : decode cX2_init 3 = .ok (.invokespecial 3, 3) := by decide +kernel
theorem dX2_init_6 : decode cX2_init 6 = .ok (.return_, 1) := by decide +kernel
set_option maxRecDepth 20000 in
theorem gwX0_pays : wsX0_pays.all goodWord = true := by decide +kernel
set_option maxRecDepth 20000 in
theorem ggX2_pays_X0_pays : GoodIn wsX2_pays wsX0_pays := goodIn_r _ [6, 7, 8, 9, 10, 11, 12, 13, 14, 15, 16, 17, 18, 19, 20, 21, 22, 23, 24, 25, 26, 27, 28, 29] rfl gwX0_pays
set_option maxRecDepth 20000 in
theorem gX2_pays_X0_pays_s9 : GoodIn wsX2_pays (va_wsSU RX2 9 yX0_pays wsX0_pays) := goodIn_app (goodIn_r _ [1, 2, 3, 4, 5] rfl (by decide +kernel)) ggX2_pays_X0_pays
theorem dX2_pays_0 : decode cX2_pays 0 = .ok (.bipush 60, 2) := by decide +kernel
theorem dX2_pays_2 : decode cX2_pays 2 = .ok (.aload_n 0, 1) := by decide +kernel
theorem dX2_pays_3 : decode cX2_pays 3 = .ok (.aload_n 1, 1) := by decide +kernel
theorem dX2_pays_4 : decode cX2_pays 4 = .ok (.iload_n 2, 1) := by decide +kernel
theorem dX2_pays_5 : decode cX2_pays 5 = .ok (.invokespecial 9, 3) := by decide +kernel
theorem dX2_pays_8 : decode cX2_pays 8 = .ok (.iadd, 1) := by decide +kernel
theorem dX2_pays_9 : decode cX2_pays 9 = .ok (.iconst 2, 1) := by decide +kernel
theorem dX2_pays_10 : decode cX2_pays 10 = .ok (.idiv, 1) := by decide +kernel
theorem dX2_pays_11 : decode cX2_pays 11 = .ok (.ireturn, 1) := by decide +kernel
theorem dX2_worth_0 : decode cX2_worth 0 = .ok (.iconst 0, 1) := by decide +kernel
theorem dX2_worth_1 : decode cX2_worth 1 = .ok (.ireturn, 1) := by decide +kernel
set_option maxRecDepth 20000 in
theorem gwX5_init : wsX5_init.all goodWord = true := by decide +kernel
set_option maxRecDepth 20000 in
theorem ggX3_init_X5_init : GoodIn wsX3_init wsX5_init := goodIn_r _ [12, 13, 2, 3, 14, 15, 16, 17, 23, 24, 25, 26, 27, 28, 29, 30, 31, 32, 33, 34, 35, 36, 37] rfl gwX5_init
set_option maxRecDepth 20000 in
theorem gX3_init_X5_init : GoodIn wsX3_init (wsX5_init) := ggX3_init_X5_init
theorem dX3_init_0 : decode cX3_init 0 = .ok (.aload_n 0, 1) := by decide +kernel
theorem dX3_init_1 : decode cX3_init 1 = .ok (.invokespecial 3, 3) := by decide +kernel
theorem dX3_init_4 : decode cX3_init 4 = .ok (.aload_n 0, 1) := by decide +kernel
theorem dX3_init_5 : decode cX3_init 5 = .ok (.bipush 6, 2) := by decide +kernel
theorem dX3_init_7 : decode cX3_init 7 = .ok (.anewarray 9, 3) := by decide +kernel
theorem dX3_init_10 : decode cX3_init 10 = .ok (.putfield 11, 3) := by decide +kernel
theorem dX3_init_13 : decode cX3_init 13 = .ok (.aload_n 0, 1) := by decide +kernel
theorem dX3_init_14 : decode cX3_init 14 = .ok (.bipush (-4), 2) := by decide +kernel
theorem dX3_init_16 : decode cX3_init 16 = .ok (.putfield 17, 3) := by decide +kernel
theorem dX3_init_19 : decode cX3_init 19 = .ok (.aload_n 0, 1) := by decide +kernel
theorem dX3_init_20 : decode cX3_init 20 = .ok (.bipush (-4), 2) := by decide +kernel
theorem dX3_init_22 : decode cX3_init 22 = .ok (.putfield 21, 3) := by decide +kernel
theorem dX3_init_25 : decode cX3_init 25 = .ok (.iconst 0, 1) := by decide +kernel
theorem dX3_init_26 : decode cX3_init 26 = .ok (.istore_n 2, 1) := by decide +kernel
theorem dX3_init_27 : decode cX3_init 27 = .ok (.iload_n 2, 1) := by decide +kernel
theorem dX3_init_28 : decode cX3_init 28 = .ok (.bipush 6, 2) := by decide +kernel
theorem dX3_init_30 : decode cX3_init 30 = .ok (.if_icmp .ge 23, 3) := by decide +kernel
theorem dX3_init_33 : decode cX3_init 33 = .ok (.aload_n 0, 1) := by decide +kernel
theorem dX3_init_34 : decode cX3_init 34 = .ok (.getfield 11, 3) := by decide +kernel
theorem dX3_init_37 : decode cX3_init 37 = .ok (.iload_n 2, 1) := by decide +kernel
theorem dX3_init_38 : decode cX3_init 38 = .ok (.new 9, 3) := by decide +kernel
theorem dX3_init_41 : decode cX3_init 41 = .ok (.dup, 1) := by decide +kernel
theorem dX3_init_42 : decode cX3_init 42 = .ok (.aload_n 1, 1) := by decide +kernel
theorem dX3_init_43 : decode cX3_init 43 = .ok (.invokespecial 24, 3) := by decide +kernel
theorem dX3_init_46 : decode cX3_init 46 = .ok (.aastore, 1) := by decide +kernel
theorem dX3_init_47 : decode cX3_init 47 = .ok (.iinc 2 1, 3) := by decide +kernel
theorem dX3_init_50 : decode cX3_init 50 = .ok (.goto (-23), 3) := by decide +kernel
theorem dX3_init_53 : decode cX3_init 53 = .ok (.return_, 1) := by decide +kernel
set_option maxRecDepth 20000 in
theorem gwX5_becomes : wsX5_becomes.all goodWord = true := by decide +kernel
set_option maxRecDepth 20000 in
theorem ggX3_becomes_X5_becomes : GoodIn wsX3_becomes wsX5_becomes := goodIn_r _ [8, 9, 10, 11, 12, 13, 14, 15, 16, 17, 18, 19, 20, 21, 22, 23, 29, 30, 31, 32, 33, 34, 35, 36, 37, 38, 39, 40, 41, 42, 43] rfl gwX5_becomes
set_option maxRecDepth 20000 in
theorem gX3_becomes_X5_becomes : GoodIn wsX3_becomes (wsV RX3 33 RX5 yX5_becomes wsX5_becomes) := goodIn_app (goodIn_r _ [4, 5, 6, 7] rfl (by decide +kernel)) ggX3_becomes_X5_becomes
theorem dX3_becomes_0 : decode cX3_becomes 0 = .ok (.aload_n 0, 1) := by decide +kernel
theorem dX3_becomes_1 : decode cX3_becomes 1 = .ok (.aload_n 1, 1) := by decide +kernel
theorem dX3_becomes_2 : decode cX3_becomes 2 = .ok (.getfield 27, 3) := by decide +kernel
theorem dX3_becomes_5 : decode cX3_becomes 5 = .ok (.putfield 27, 3) := by decide +kernel
theorem dX3_becomes_8 : decode cX3_becomes 8 = .ok (.aload_n 0, 1) := by decide +kernel
theorem dX3_becomes_9 : decode cX3_becomes 9 = .ok (.aload_n 1, 1) := by decide +kernel
theorem dX3_becomes_10 : decode cX3_becomes 10 = .ok (.getfield 30, 3) := by decide +kernel
theorem dX3_becomes_13 : decode cX3_becomes 13 = .ok (.putfield 30, 3) := by decide +kernel
theorem dX3_becomes_16 : decode cX3_becomes 16 = .ok (.iconst 0, 1) := by decide +kernel
theorem dX3_becomes_17 : decode cX3_becomes 17 = .ok (.istore_n 2, 1) := by decide +kernel
theorem dX3_becomes_18 : decode cX3_becomes 18 = .ok (.iload_n 2, 1) := by decide +kernel
theorem dX3_becomes_19 : decode cX3_becomes 19 = .ok (.aload_n 1, 1) := by decide +kernel
theorem dX3_becomes_20 : decode cX3_becomes 20 = .ok (.getfield 27, 3) := by decide +kernel
theorem dX3_becomes_23 : decode cX3_becomes 23 = .ok (.if_icmp .ge 24, 3) := by decide +kernel
theorem dX3_becomes_26 : decode cX3_becomes 26 = .ok (.aload_n 0, 1) := by decide +kernel
theorem dX3_becomes_27 : decode cX3_becomes 27 = .ok (.getfield 11, 3) := by decide +kernel
theorem dX3_becomes_30 : decode cX3_becomes 30 = .ok (.iload_n 2, 1) := by decide +kernel
theorem dX3_becomes_31 : decode cX3_becomes 31 = .ok (.aaload, 1) := by decide +kernel
theorem dX3_becomes_32 : decode cX3_becomes 32 = .ok (.aload_n 1, 1) := by decide +kernel
theorem dX3_becomes_33 : decode cX3_becomes 33 = .ok (.getfield 11, 3) := by decide +kernel
theorem dX3_becomes_36 : decode cX3_becomes 36 = .ok (.iload_n 2, 1) := by decide +kernel
theorem dX3_becomes_37 : decode cX3_becomes 37 = .ok (.aaload, 1) := by decide +kernel
theorem dX3_becomes_38 : decode cX3_becomes 38 = .ok (.invokevirtual 33, 3) := by decide +kernel
theorem dX3_becomes_41 : decode cX3_becomes 41 = .ok (.iinc 2 1, 3) := by decide +kernel
theorem dX3_becomes_44 : decode cX3_becomes 44 = .ok (.goto (-26), 3) := by decide +kernel
theorem dX3_becomes_47 : decode cX3_becomes 47 = .ok (.return_, 1) := by decide +kernel
set_option maxRecDepth 20000 in
theorem gwX11_within : wsX11_within.all goodWord = true := by decide +kernel
set_option maxRecDepth 20000 in
theorem ggX3_has_X11_within : GoodIn wsX3_has wsX11_within := goodIn_r _ [4] rfl gwX11_within
set_option maxRecDepth 20000 in
theorem gX3_has_X11_within_n37 : GoodIn wsX3_has (wsX11_within) := ggX3_has_X11_within
theorem dX3_has_0 : decode cX3_has 0 = .ok (.iload_n 1, 1) := by decide +kernel
theorem dX3_has_1 : decode cX3_has 1 = .ok (.iconst 0, 1) := by decide +kernel
theorem dX3_has_2 : decode cX3_has 2 = .ok (.aload_n 0, 1) := by decide +kernel
theorem dX3_has_3 : decode cX3_has 3 = .ok (.getfield 27, 3) := by decide +kernel
theorem dX3_has_6 : decode cX3_has 6 = .ok (.iconst 1, 1) := by decide +kernel
theorem dX3_has_7 : decode cX3_has 7 = .ok (.isub, 1) := by decide +kernel
theorem dX3_has_8 : decode cX3_has 8 = .ok (.invokestatic 37, 3) := by decide +kernel
theorem dX3_has_11 : decode cX3_has 11 = .ok (.ireturn, 1) := by decide +kernel
set_option maxRecDepth 20000 in
theorem gwX5_beginAnew : wsX5_beginAnew.all goodWord = true := by decide +kernel
set_option maxRecDepth 20000 in
theorem ggX3_addServer_X5_beginAnew : GoodIn wsX3_addServer wsX5_beginAnew := goodIn_r _ [7, 8, 9, 10, 11, 12, 13, 14, 15, 16, 6, 17, 18, 19, 20, 36, 37, 38, 39, 40, 41, 42, 43, 44, 45, 46, 47, 48, 49, 50] rfl gwX5_beginAnew
set_option maxRecDepth 20000 in
theorem gX3_addServer_X5_beginAnew : GoodIn wsX3_addServer (wsV RX3 41 RX5 yX5_beginAnew wsX5_beginAnew) := goodIn_app (goodIn_r _ [3, 4, 5, 6] rfl (by decide +kernel)) ggX3_addServer_X5_beginAnew
set_option maxRecDepth 20000 in
theorem gwX5_setBudget : wsX5_setBudget.all goodWord = true := by decide +kernel
set_option maxRecDepth 20000 in
theorem ggX3_addServer_X5_setBudget : GoodIn wsX3_addServer wsX5_setBudget := goodIn_r _ [24, 25, 26, 27, 28, 29, 30, 36, 37, 38, 39, 40, 41, 42, 43, 44, 45, 46, 47, 48, 49, 50] rfl gwX5_setBudget
set_option maxRecDepth 20000 in
theorem gX3_addServer_X5_setBudget : GoodIn wsX3_addServer (wsV RX3 45 RX5 yX5_setBudget wsX5_setBudget) := goodIn_app (goodIn_r _ [21, 22, 23, 6] rfl (by decide +kernel)) ggX3_addServer_X5_setBudget
theorem dX3_addServer_0 : decode cX3_addServer 0 = .ok (.aload_n 0, 1) := by decide +kernel
theorem dX3_addServer_1 : decode cX3_addServer 1 = .ok (.getfield 27, 3) := by decide +kernel
theorem dX3_addServer_4 : decode cX3_addServer 4 = .ok (.bipush 6, 2) := by decide +kernel
theorem dX3_addServer_6 : decode cX3_addServer 6 = .ok (.if_icmp .lt 4, 3) := by decide +kernel
theorem dX3_addServer_9 : decode cX3_addServer 9 = .ok (.return_, 1) := by decide +kernel
theorem dX3_addServer_10 : decode cX3_addServer 10 = .ok (.aload_n 0, 1) := by decide +kernel
theorem dX3_addServer_11 : decode cX3_addServer 11 = .ok (.getfield 11, 3) := by decide +kernel
theorem dX3_addServer_14 : decode cX3_addServer 14 = .ok (.aload_n 0, 1) := by decide +kernel
theorem dX3_addServer_15 : decode cX3_addServer 15 = .ok (.getfield 27, 3) := by decide +kernel
theorem dX3_addServer_18 : decode cX3_addServer 18 = .ok (.aaload, 1) := by decide +kernel
theorem dX3_addServer_19 : decode cX3_addServer 19 = .ok (.aload_n 1, 1) := by decide +kernel
theorem dX3_addServer_20 : decode cX3_addServer 20 = .ok (.iload_n 2, 1) := by decide +kernel
theorem dX3_addServer_21 : decode cX3_addServer 21 = .ok (.invokevirtual 41, 3) := by decide +kernel
theorem dX3_addServer_24 : decode cX3_addServer 24 = .ok (.aload_n 0, 1) := by decide +kernel
theorem dX3_addServer_25 : decode cX3_addServer 25 = .ok (.getfield 11, 3) := by decide +kernel
theorem dX3_addServer_28 : decode cX3_addServer 28 = .ok (.aload_n 0, 1) := by decide +kernel
theorem dX3_addServer_29 : decode cX3_addServer 29 = .ok (.getfield 27, 3) := by decide +kernel
theorem dX3_addServer_32 : decode cX3_addServer 32 = .ok (.aaload, 1) := by decide +kernel
theorem dX3_addServer_33 : decode cX3_addServer 33 = .ok (.iload_n 3, 1) := by decide +kernel
theorem dX3_addServer_34 : decode cX3_addServer 34 = .ok (.iload 4, 2) := by decide +kernel
theorem dX3_addServer_36 : decode cX3_addServer 36 = .ok (.invokevirtual 45, 3) := by decide +kernel
theorem dX3_addServer_39 : decode cX3_addServer 39 = .ok (.aload_n 0, 1) := by decide +kernel
theorem dX3_addServer_40 : decode cX3_addServer 40 = .ok (.dup, 1) := by decide +kernel
theorem dX3_addServer_41 : decode cX3_addServer 41 = .ok (.getfield 27, 3) := by decide +kernel
theorem dX3_addServer_44 : decode cX3_addServer 44 = .ok (.iconst 1, 1) := by decide +kernel
theorem dX3_addServer_45 : decode cX3_addServer 45 = .ok (.iadd, 1) := by decide +kernel
theorem dX3_addServer_46 : decode cX3_addServer 46 = .ok (.putfield 27, 3) := by decide +kernel
theorem dX3_addServer_49 : decode cX3_addServer 49 = .ok (.return_, 1) := by decide +kernel
set_option maxRecDepth 20000 in
theorem gwX3_has : wsX3_has.all goodWord = true := by decide +kernel
set_option maxRecDepth 20000 in
theorem ggX3_sendingRefusal_X3_has : GoodIn wsX3_sendingRefusal wsX3_has := goodIn_r _ [6, 7, 8, 9, 10, 17, 18, 19, 20, 21] rfl gwX3_has
set_option maxRecDepth 20000 in
theorem gX3_sendingRefusal_X3_has : GoodIn wsX3_sendingRefusal (wsV RX3 49 RX3 yX3_has wsX3_has) := goodIn_app (goodIn_r _ [2, 3, 4, 5] rfl (by decide +kernel)) ggX3_sendingRefusal_X3_has
set_option maxRecDepth 20000 in
theorem ggX3_sendingRefusal_X11_within : GoodIn wsX3_sendingRefusal wsX11_within := goodIn_r _ [10] rfl gwX11_within
set_option maxRecDepth 20000 in
theorem gX3_sendingRefusal_X11_within_n37 : GoodIn wsX3_sendingRefusal (wsX11_within) := ggX3_sendingRefusal_X11_within
set_option maxRecDepth 20000 in
theorem gwX5_isFull : wsX5_isFull.all goodWord = true := by decide +kernel
set_option maxRecDepth 20000 in
theorem ggX3_sendingRefusal_X5_isFull : GoodIn wsX3_sendingRefusal wsX5_isFull := goodIn_r _ [15, 16, 22, 23, 24, 25, 26, 27, 28, 29, 30, 31, 32, 33, 34, 35, 36] rfl gwX5_isFull
set_option maxRecDepth 20000 in
theorem gX3_sendingRefusal_X5_isFull : GoodIn wsX3_sendingRefusal (wsV RX3 53 RX5 yX5_isFull wsX5_isFull) := goodIn_app (goodIn_r _ [11, 12, 13, 14] rfl (by decide +kernel)) ggX3_sendingRefusal_X5_isFull
theorem dX3_sendingRefusal_0 : decode cX3_sendingRefusal 0 = .ok (.aload_n 0, 1) := by decide +kernel
theorem dX3_sendingRefusal_1 : decode cX3_sendingRefusal 1 = .ok (.iload_n 1, 1) := by decide +kernel
theorem dX3_sendingRefusal_2 : decode cX3_sendingRefusal 2 = .ok (.invokevirtual 49, 3) := by decide +kernel
theorem dX3_sendingRefusal_5 : decode cX3_sendingRefusal 5 = .ok (.ifCond .eq 22, 3) := by decide +kernel
theorem dX3_sendingRefusal_8 : decode cX3_sendingRefusal 8 = .ok (.iload_n 2, 1) := by decide +kernel
theorem dX3_sendingRefusal_9 : decode cX3_sendingRefusal 9 = .ok (.iconst 1, 1) := by decide +kernel
theorem dX3_sendingRefusal_10 : decode cX3_sendingRefusal 10 = .ok (.bipush 9, 2) := by decide +kernel
theorem dX3_sendingRefusal_12 : decode cX3_sendingRefusal 12 = .ok (.invokestatic 37, 3) := by decide +kernel
theorem dX3_sendingRefusal_15 : decode cX3_sendingRefusal 15 = .ok (.ifCond .eq 12, 3) := by decide +kernel
theorem dX3_sendingRefusal_18 : decode cX3_sendingRefusal 18 = .ok (.iload_n 3, 1) := by decide +kernel
theorem dX3_sendingRefusal_19 : decode cX3_sendingRefusal 19 = .ok (.iconst 0, 1) := by decide +kernel
theorem dX3_sendingRefusal_20 : decode cX3_sendingRefusal 20 = .ok (.iconst 3, 1) := by decide +kernel
theorem dX3_sendingRefusal_21 : decode cX3_sendingRefusal 21 = .ok (.invokestatic 37, 3) := by decide +kernel
theorem dX3_sendingRefusal_24 : decode cX3_sendingRefusal 24 = .ok (.ifCond .ne 5, 3) := by decide +kernel
theorem dX3_sendingRefusal_27 : decode cX3_sendingRefusal 27 = .ok (.iconst (-1), 1) := by decide +kernel
theorem dX3_sendingRefusal_28 : decode cX3_sendingRefusal 28 = .ok (.ireturn, 1) := by decide +kernel
theorem dX3_sendingRefusal_29 : decode cX3_sendingRefusal 29 = .ok (.aload_n 0, 1) := by decide +kernel
theorem dX3_sendingRefusal_30 : decode cX3_sendingRefusal 30 = .ok (.getfield 11, 3) := by decide +kernel
theorem dX3_sendingRefusal_33 : decode cX3_sendingRefusal 33 = .ok (.iload_n 1, 1) := by decide +kernel
theorem dX3_sendingRefusal_34 : decode cX3_sendingRefusal 34 = .ok (.aaload, 1) := by decide +kernel
theorem dX3_sendingRefusal_35 : decode cX3_sendingRefusal 35 = .ok (.invokevirtual 53, 3) := by decide +kernel
theorem dX3_sendingRefusal_38 : decode cX3_sendingRefusal 38 = .ok (.ifCond .eq 8, 3) := by decide +kernel
theorem dX3_sendingRefusal_41 : decode cX3_sendingRefusal 41 = .ok (.bipush (-2), 2) := by decide +kernel
theorem dX3_sendingRefusal_43 : decode cX3_sendingRefusal 43 = .ok (.goto 4, 3) := by decide +kernel
theorem dX3_sendingRefusal_46 : decode cX3_sendingRefusal 46 = .ok (.iconst 0, 1) := by decide +kernel
theorem dX3_sendingRefusal_47 : decode cX3_sendingRefusal 47 = .ok (.ireturn, 1) := by decide +kernel
set_option maxRecDepth 20000 in
theorem ggX3_tickingRefusal_X11_within : GoodIn wsX3_tickingRefusal wsX11_within := goodIn_r _ [4] rfl gwX11_within
set_option maxRecDepth 20000 in
theorem gX3_tickingRefusal_X11_within_n37 : GoodIn wsX3_tickingRefusal (wsX11_within) := ggX3_tickingRefusal_X11_within
theorem dX3_tickingRefusal_0 : decode cX3_tickingRefusal 0 = .ok (.iload_n 1, 1) := by decide +kernel
theorem dX3_tickingRefusal_1 : decode cX3_tickingRefusal 1 = .ok (.iconst 1, 1) := by decide +kernel
theorem dX3_tickingRefusal_2 : decode cX3_tickingRefusal 2 = .ok (.bipush 60, 2) := by decide +kernel
theorem dX3_tickingRefusal_4 : decode cX3_tickingRefusal 4 = .ok (.invokestatic 37, 3) := by decide +kernel
theorem dX3_tickingRefusal_7 : decode cX3_tickingRefusal 7 = .ok (.ifCond .ne 5, 3) := by decide +kernel
theorem dX3_tickingRefusal_10 : decode cX3_tickingRefusal 10 = .ok (.iconst (-1), 1) := by decide +kernel
theorem dX3_tickingRefusal_11 : decode cX3_tickingRefusal 11 = .ok (.ireturn, 1) := by decide +kernel
theorem dX3_tickingRefusal_12 : decode cX3_tickingRefusal 12 = .ok (.aload_n 0, 1) := by decide +kernel
theorem dX3_tickingRefusal_13 : decode cX3_tickingRefusal 13 = .ok (.getfield 30, 3) := by decide +kernel
theorem dX3_tickingRefusal_16 : decode cX3_tickingRefusal 16 = .ok (.iload_n 1, 1) := by decide +kernel
theorem dX3_tickingRefusal_17 : decode cX3_tickingRefusal 17 = .ok (.iadd, 1) := by decide +kernel
theorem dX3_tickingRefusal_18 : decode cX3_tickingRefusal 18 = .ok (.sipush 9999, 3) := by decide +kernel
theorem dX3_tickingRefusal_21 : decode cX3_tickingRefusal 21 = .ok (.if_icmp .le 8, 3) := by decide +kernel
theorem dX3_tickingRefusal_24 : decode cX3_tickingRefusal 24 = .ok (.bipush (-3), 2) := by decide +kernel
theorem dX3_tickingRefusal_26 : decode cX3_tickingRefusal 26 = .ok (.goto 4, 3) := by decide +kernel
theorem dX3_tickingRefusal_29 : decode cX3_tickingRefusal 29 = .ok (.iconst 0, 1) := by decide +kernel
theorem dX3_tickingRefusal_30 : decode cX3_tickingRefusal 30 = .ok (.ireturn, 1) := by decide +kernel
set_option maxRecDepth 20000 in
theorem gwX3_goOn : wsX3_goOn.all goodWord = true := by decide +kernel
set_option maxRecDepth 20000 in
theorem ggX3_goOnFor_X3_goOn : GoodIn wsX3_goOnFor wsX3_goOn := goodIn_r _ [5, 6, 7, 8, 9, 10, 11, 4, 12, 13, 14, 15, 16, 17, 18, 19, 20, 21, 22, 23, 24, 25, 26, 27, 28, 29, 30, 31, 32, 33, 34, 35, 36, 37, 38, 39, 40, 41, 42, 43, 44, 45, 46, 47, 48, 49, 50, 51, 52, 53, 54, 55, 56, 57, 58, 59, 60, 61, 62, 63, 64, 65, 66, 67, 68, 69, 70, 71, 72, 73, 74, 75, 76, 77, 78, 79, 80, 81, 82, 83, 84, 85, 86, 87, 88, 89, 90, 91, 92, 93, 94, 95, 96, 97, 98, 99, 100, 101, 102, 103, 104, 105, 106, 107, 108, 109, 110, 111, 112, 113, 114, 115, 116, 117, 118, 119, 120, 121, 122, 123, 124, 125, 126, 127, 128, 129, 130, 131, 132, 133, 134, 135, 136, 137, 138, 139, 140, 141, 142, 143, 144, 145, 146, 147, 148, 149, 150, 151, 152, 153, 154, 155, 156, 157, 158, 159, 160, 161] rfl gwX3_goOn
set_option maxRecDepth 20000 in
theorem gX3_goOnFor_X3_goOn : GoodIn wsX3_goOnFor (wsV RX3 57 RX3 yX3_goOn wsX3_goOn) := goodIn_app (goodIn_r _ [1, 2, 3, 4] rfl (by decide +kernel)) ggX3_goOnFor_X3_goOn
theorem dX3_goOnFor_0 : decode cX3_goOnFor 0 = .ok (.iconst 0, 1) := by decide +kernel
theorem dX3_goOnFor_1 : decode cX3_goOnFor 1 = .ok (.istore_n 2, 1) := by decide +kernel
theorem dX3_goOnFor_2 : decode cX3_goOnFor 2 = .ok (.iload_n 2, 1) := by decide +kernel
theorem dX3_goOnFor_3 : decode cX3_goOnFor 3 = .ok (.iload_n 1, 1) := by decide +kernel
theorem dX3_goOnFor_4 : decode cX3_goOnFor 4 = .ok (.if_icmp .ge 14, 3) := by decide +kernel
theorem dX3_goOnFor_7 : decode cX3_goOnFor 7 = .ok (.aload_n 0, 1) := by decide +kernel
theorem dX3_goOnFor_8 : decode cX3_goOnFor 8 = .ok (.iconst 0, 1) := by decide +kernel
theorem dX3_goOnFor_9 : decode cX3_goOnFor 9 = .ok (.invokevirtual 57, 3) := by decide +kernel
theorem dX3_goOnFor_12 : decode cX3_goOnFor 12 = .ok (.iinc 2 1, 3) := by decide +kernel
theorem dX3_goOnFor_15 : decode cX3_goOnFor 15 = .ok (.goto (-13), 3) := by decide +kernel
theorem dX3_goOnFor_18 : decode cX3_goOnFor 18 = .ok (.return_, 1) := by decide +kernel
set_option maxRecDepth 20000 in
theorem gwX3_beginTick : wsX3_beginTick.all goodWord = true := by decide +kernel
set_option maxRecDepth 20000 in
theorem ggX3_goOn_X3_beginTick : GoodIn wsX3_goOn wsX3_beginTick := goodIn_r _ [8, 9, 10, 11, 12, 3, 13, 14, 15, 16, 17, 18, 19, 20, 21, 22, 23, 24, 25, 26, 27, 28, 29, 30, 31, 32, 33, 34, 35, 36, 37, 38, 39, 40, 41, 42, 43, 44, 45, 46, 47, 48, 138, 139, 140, 141, 142, 143, 144, 145, 146, 147, 148, 149, 150, 151, 152, 153, 154, 155, 156, 157] rfl gwX3_beginTick
set_option maxRecDepth 20000 in
theorem gX3_goOn_X3_beginTick : GoodIn wsX3_goOn (wsV RX3 61 RX3 yX3_beginTick wsX3_beginTick) := goodIn_app (goodIn_r _ [4, 5, 6, 7] rfl (by decide +kernel)) ggX3_goOn_X3_beginTick
set_option maxRecDepth 20000 in
theorem gwX3_earliest : wsX3_earliest.all goodWord = true := by decide +kernel
set_option maxRecDepth 20000 in
theorem ggX3_goOn_X3_earliest : GoodIn wsX3_goOn wsX3_earliest := goodIn_r _ [52, 9, 10, 11, 12, 138, 139, 140, 141, 142, 143, 144, 145, 146, 147, 148, 149, 150, 151, 152, 153, 154, 155, 156, 157] rfl gwX3_earliest
set_option maxRecDepth 20000 in
theorem gX3_goOn_X3_earliest : GoodIn wsX3_goOn (wsV RX3 64 RX3 yX3_earliest wsX3_earliest) := goodIn_app (goodIn_r _ [49, 50, 51, 7] rfl (by decide +kernel)) ggX3_goOn_X3_earliest
set_option maxRecDepth 20000 in
theorem gwX3_runChosen : wsX3_runChosen.all goodWord = true := by decide +kernel
set_option maxRecDepth 20000 in
theorem ggX3_goOn_X3_runChosen : GoodIn wsX3_goOn wsX3_runChosen := goodIn_r _ [56, 10, 1, 57, 2, 58, 13, 3, 11, 59, 60, 61, 7, 62, 9, 63, 64, 65, 43, 66, 67, 68, 69, 70, 71, 72, 73, 74, 75, 76, 77, 78, 79, 80, 81, 82, 83, 84, 38, 85, 86, 37, 39, 87, 88, 89, 90, 18, 91, 92, 93, 94, 95, 96, 97, 98, 99, 100, 101, 102, 103, 104, 105, 106, 107, 108, 109, 110, 111, 112, 113, 114, 115, 116, 117, 118, 119, 120, 48, 121, 122, 123, 124, 125, 126, 22, 21, 23, 24, 127, 128, 129, 130, 131, 132, 133, 134, 135, 136, 137, 138, 139, 140, 141, 142, 143, 144, 145, 146, 147, 148, 149, 150, 151, 152, 153, 154, 155, 156, 157] rfl gwX3_runChosen
set_option maxRecDepth 20000 in
theorem gX3_goOn_X3_runChosen : GoodIn wsX3_goOn (wsV RX3 68 RX3 yX3_runChosen wsX3_runChosen) := goodIn_app (goodIn_r _ [53, 54, 55, 7] rfl (by decide +kernel)) ggX3_goOn_X3_runChosen
theorem dX3_goOn_0 : decode cX3_goOn 0 = .ok (.aload_n 0, 1) := by decide +kernel
theorem dX3_goOn_1 : decode cX3_goOn 1 = .ok (.invokevirtual 61, 3) := by decide +kernel
theorem dX3_goOn_4 : decode cX3_goOn 4 = .ok (.aload_n 0, 1) := by decide +kernel
theorem dX3_goOn_5 : decode cX3_goOn 5 = .ok (.iload_n 1, 1) := by decide +kernel
theorem dX3_goOn_6 : decode cX3_goOn 6 = .ok (.ifCond .eq 8, 3) := by decide +kernel
theorem dX3_goOn_9 : decode cX3_goOn 9 = .ok (.bipush (-4), 2) := by decide +kernel
theorem dX3_goOn_11 : decode cX3_goOn 11 = .ok (.goto 7, 3) := by decide +kernel
theorem dX3_goOn_14 : decode cX3_goOn 14 = .ok (.aload_n 0, 1) := by decide +kernel
theorem dX3_goOn_15 : decode cX3_goOn 15 = .ok (.invokevirtual 64, 3) := by decide +kernel
theorem dX3_goOn_18 : decode cX3_goOn 18 = .ok (.putfield 17, 3) := by decide +kernel
theorem dX3_goOn_21 : decode cX3_goOn 21 = .ok (.aload_n 0, 1) := by decide +kernel
theorem dX3_goOn_22 : decode cX3_goOn 22 = .ok (.bipush (-4), 2) := by decide +kernel
theorem dX3_goOn_24 : decode cX3_goOn 24 = .ok (.putfield 21, 3) := by decide +kernel
theorem dX3_goOn_27 : decode cX3_goOn 27 = .ok (.aload_n 0, 1) := by decide +kernel
theorem dX3_goOn_28 : decode cX3_goOn 28 = .ok (.getfield 17, 3) := by decide +kernel
theorem dX3_goOn_31 : decode cX3_goOn 31 = .ok (.bipush (-4), 2) := by decide +kernel
theorem dX3_goOn_33 : decode cX3_goOn 33 = .ok (.if_icmp .eq 7, 3) := by decide +kernel
theorem dX3_goOn_36 : decode cX3_goOn 36 = .ok (.aload_n 0, 1) := by decide +kernel
theorem dX3_goOn_37 : decode cX3_goOn 37 = .ok (.invokevirtual 68, 3) := by decide +kernel
theorem dX3_goOn_40 : decode cX3_goOn 40 = .ok (.aload_n 0, 1) := by decide +kernel
theorem dX3_goOn_41 : decode cX3_goOn 41 = .ok (.dup, 1) := by decide +kernel
theorem dX3_goOn_42 : decode cX3_goOn 42 = .ok (.getfield 30, 3) := by decide +kernel
theorem dX3_goOn_45 : decode cX3_goOn 45 = .ok (.iconst 1, 1) := by decide +kernel
theorem dX3_goOn_46 : decode cX3_goOn 46 = .ok (.iadd, 1) := by decide +kernel
theorem dX3_goOn_47 : decode cX3_goOn 47 = .ok (.putfield 30, 3) := by decide +kernel
theorem dX3_goOn_50 : decode cX3_goOn 50 = .ok (.return_, 1) := by decide +kernel
set_option maxRecDepth 20000 in
theorem gwX1_wake : wsX1_wake.all goodWord = true := by decide +kernel
set_option maxRecDepth 20000 in
theorem ggX3_beginTick_X1_wake : GoodIn wsX3_beginTick wsX1_wake := goodIn_r _ [12, 13, 14, 15, 16, 17, 47, 48, 49, 50, 51, 52, 53, 54, 55, 56, 57, 58, 59, 60, 61] rfl gwX1_wake
set_option maxRecDepth 20000 in
theorem gX3_beginTick_X1_wake_u81X0 : GoodIn wsX3_beginTick (va_wsU RX3 81 RX0 "GreedyServers$Hard" ⟨"GreedyServers$Hard", "wake", "(LGreedyServers$Server;)V"⟩ yX1_wake wsX1_wake) := goodIn_app (goodIn_r _ [7, 8, 9, 10, 11] rfl (by decide +kernel)) ggX3_beginTick_X1_wake
set_option maxRecDepth 20000 in
theorem gX3_beginTick_X1_wake : GoodIn wsX3_beginTick (wsV RX3 81 RX1 yX1_wake wsX1_wake) := goodIn_app (goodIn_r _ [7, 10, 19, 11] rfl (by decide +kernel)) ggX3_beginTick_X1_wake
set_option maxRecDepth 20000 in
theorem gX3_beginTick_X1_wake_u81X2 : GoodIn wsX3_beginTick (va_wsU RX3 81 RX2 "GreedyServers$Hard" ⟨"GreedyServers$Hard", "wake", "(LGreedyServers$Server;)V"⟩ yX1_wake wsX1_wake) := goodIn_app (goodIn_r _ [7, 8, 20, 10, 11] rfl (by decide +kernel)) ggX3_beginTick_X1_wake
set_option maxRecDepth 20000 in
theorem gX3_beginTick_X1_wake_u81X4 : GoodIn wsX3_beginTick (va_wsU RX3 81 RX4 "GreedyServers$Hard" ⟨"GreedyServers$Hard", "wake", "(LGreedyServers$Server;)V"⟩ yX1_wake wsX1_wake) := goodIn_app (goodIn_r _ [7, 8, 21, 10, 11] rfl (by decide +kernel)) ggX3_beginTick_X1_wake
set_option maxRecDepth 20000 in
theorem gX3_beginTick_X1_wake_u81X7 : GoodIn wsX3_beginTick (va_wsU RX3 81 RX7 "GreedyServers$Hard" ⟨"GreedyServers$Hard", "wake", "(LGreedyServers$Server;)V"⟩ yX1_wake wsX1_wake) := goodIn_app (goodIn_r _ [7, 8, 22, 10, 11] rfl (by decide +kernel)) ggX3_beginTick_X1_wake
set_option maxRecDepth 20000 in
theorem gwX9_wake : wsX9_wake.all goodWord = true := by decide +kernel
set_option maxRecDepth 20000 in
theorem ggX3_beginTick_X9_wake : GoodIn wsX3_beginTick wsX9_wake := goodIn_r _ [27, 28, 29, 30, 31, 32, 47, 48, 49, 50, 51, 52, 53, 54, 55, 56, 57, 58, 59, 60, 61] rfl gwX9_wake
set_option maxRecDepth 20000 in
theorem gX3_beginTick_X9_wake_u81X9 : GoodIn wsX3_beginTick (va_wsO RX3 81 RX9 "GreedyServers$Hard" ⟨"GreedyServers$Hard", "wake", "(LGreedyServers$Server;)V"⟩ yX9_wake wsX9_wake) := goodIn_app (goodIn_r _ [7, 8, 10, 24, 25, 26] rfl (by decide +kernel)) ggX3_beginTick_X9_wake
set_option maxRecDepth 20000 in
theorem gwX5_hasEarned : wsX5_hasEarned.all goodWord = true := by decide +kernel
set_option maxRecDepth 20000 in
theorem ggX3_beginTick_X5_hasEarned : GoodIn wsX3_beginTick wsX5_hasEarned := goodIn_r _ [37, 38, 39, 40, 41, 47, 48, 49, 50, 51, 52, 53, 54, 55, 56, 57, 58, 59, 60, 61] rfl gwX5_hasEarned
set_option maxRecDepth 20000 in
theorem gX3_beginTick_X5_hasEarned : GoodIn wsX3_beginTick (wsV RX3 86 RX5 yX5_hasEarned wsX5_hasEarned) := goodIn_app (goodIn_r _ [33, 34, 35, 36] rfl (by decide +kernel)) ggX3_beginTick_X5_hasEarned
theorem dX3_beginTick_0 : decode cX3_beginTick 0 = .ok (.iconst 0, 1) := by decide +kernel
theorem dX3_beginTick_1 : decode cX3_beginTick 1 = .ok (.istore_n 1, 1) := by decide +kernel
theorem dX3_beginTick_2 : decode cX3_beginTick 2 = .ok (.iload_n 1, 1) := by decide +kernel
theorem dX3_beginTick_3 : decode cX3_beginTick 3 = .ok (.aload_n 0, 1) := by decide +kernel
theorem dX3_beginTick_4 : decode cX3_beginTick 4 = .ok (.getfield 27, 3) := by decide +kernel
theorem dX3_beginTick_7 : decode cX3_beginTick 7 = .ok (.if_icmp .ge 70, 3) := by decide +kernel
theorem dX3_beginTick_10 : decode cX3_beginTick 10 = .ok (.aload_n 0, 1) := by decide +kernel
theorem dX3_beginTick_11 : decode cX3_beginTick 11 = .ok (.getfield 11, 3) := by decide +kernel
theorem dX3_beginTick_14 : decode cX3_beginTick 14 = .ok (.iload_n 1, 1) := by decide +kernel
theorem dX3_beginTick_15 : decode cX3_beginTick 15 = .ok (.aaload, 1) := by decide +kernel
theorem dX3_beginTick_16 : decode cX3_beginTick 16 = .ok (.astore_n 2, 1) := by decide +kernel
theorem dX3_beginTick_17 : decode cX3_beginTick 17 = .ok (.aload_n 2, 1) := by decide +kernel
theorem dX3_beginTick_18 : decode cX3_beginTick 18 = .ok (.getfield 71, 3) := by decide +kernel
theorem dX3_beginTick_21 : decode cX3_beginTick 21 = .ok (.iconst 2, 1) := by decide +kernel
theorem dX3_beginTick_22 : decode cX3_beginTick 22 = .ok (.if_icmp .ne 25, 3) := by decide +kernel
theorem dX3_beginTick_25 : decode cX3_beginTick 25 = .ok (.aload_n 2, 1) := by decide +kernel
theorem dX3_beginTick_26 : decode cX3_beginTick 26 = .ok (.getfield 74, 3) := by decide +kernel
theorem dX3_beginTick_29 : decode cX3_beginTick 29 = .ok (.aload_n 0, 1) := by decide +kernel
theorem dX3_beginTick_30 : decode cX3_beginTick 30 = .ok (.getfield 30, 3) := by decide +kernel
theorem dX3_beginTick_33 : decode cX3_beginTick 33 = .ok (.if_icmp .gt 14, 3) := by decide +kernel
theorem dX3_beginTick_36 : decode cX3_beginTick 36 = .ok (.aload_n 2, 1) := by decide +kernel
theorem dX3_beginTick_37 : decode cX3_beginTick 37 = .ok (.getfield 77, 3) := by decide +kernel
theorem dX3_beginTick_40 : decode cX3_beginTick 40 = .ok (.aload_n 2, 1) := by decide +kernel
theorem dX3_beginTick_41 : decode cX3_beginTick 41 = .ok (.invokevirtual 81, 3) := by decide +kernel
theorem dX3_beginTick_44 : decode cX3_beginTick 44 = .ok (.goto 27, 3) := by decide +kernel
theorem dX3_beginTick_47 : decode cX3_beginTick 47 = .ok (.aload_n 2, 1) := by decide +kernel
theorem dX3_beginTick_48 : decode cX3_beginTick 48 = .ok (.getfield 71, 3) := by decide +kernel
theorem dX3_beginTick_51 : decode cX3_beginTick 51 = .ok (.iconst 3, 1) := by decide +kernel
theorem dX3_beginTick_52 : decode cX3_beginTick 52 = .ok (.if_icmp .ne 19, 3) := by decide +kernel
theorem dX3_beginTick_55 : decode cX3_beginTick 55 = .ok (.aload_n 2, 1) := by decide +kernel
theorem dX3_beginTick_56 : decode cX3_beginTick 56 = .ok (.aload_n 0, 1) := by decide +kernel
theorem dX3_beginTick_57 : decode cX3_beginTick 57 = .ok (.getfield 30, 3) := by decide +kernel
theorem dX3_beginTick_60 : decode cX3_beginTick 60 = .ok (.invokevirtual 86, 3) := by decide +kernel
theorem dX3_beginTick_63 : decode cX3_beginTick 63 = .ok (.ifCond .eq 8, 3) := by decide +kernel
theorem dX3_beginTick_66 : decode cX3_beginTick 66 = .ok (.aload_n 2, 1) := by decide +kernel
theorem dX3_beginTick_67 : decode cX3_beginTick 67 = .ok (.iconst 0, 1) := by decide +kernel
theorem dX3_beginTick_68 : decode cX3_beginTick 68 = .ok (.putfield 71, 3) := by decide +kernel
theorem dX3_beginTick_71 : decode cX3_beginTick 71 = .ok (.iinc 1 1, 3) := by decide +kernel
theorem dX3_beginTick_74 : decode cX3_beginTick 74 = .ok (.goto (-72), 3) := by decide +kernel
theorem dX3_beginTick_77 : decode cX3_beginTick 77 = .ok (.return_, 1) := by decide +kernel
theorem dX3_earliest_0 : decode cX3_earliest 0 = .ok (.bipush (-4), 2) := by decide +kernel
theorem dX3_earliest_2 : decode cX3_earliest 2 = .ok (.istore_n 1, 1) := by decide +kernel
theorem dX3_earliest_3 : decode cX3_earliest 3 = .ok (.iconst 0, 1) := by decide +kernel
theorem dX3_earliest_4 : decode cX3_earliest 4 = .ok (.istore_n 2, 1) := by decide +kernel
theorem dX3_earliest_5 : decode cX3_earliest 5 = .ok (.iload_n 2, 1) := by decide +kernel
theorem dX3_earliest_6 : decode cX3_earliest 6 = .ok (.aload_n 0, 1) := by decide +kernel
theorem dX3_earliest_7 : decode cX3_earliest 7 = .ok (.getfield 27, 3) := by decide +kernel
theorem dX3_earliest_10 : decode cX3_earliest 10 = .ok (.if_icmp .ge 51, 3) := by decide +kernel
theorem dX3_earliest_13 : decode cX3_earliest 13 = .ok (.aload_n 0, 1) := by decide +kernel
theorem dX3_earliest_14 : decode cX3_earliest 14 = .ok (.getfield 11, 3) := by decide +kernel
theorem dX3_earliest_17 : decode cX3_earliest 17 = .ok (.iload_n 2, 1) := by decide +kernel
theorem dX3_earliest_18 : decode cX3_earliest 18 = .ok (.aaload, 1) := by decide +kernel
theorem dX3_earliest_19 : decode cX3_earliest 19 = .ok (.getfield 71, 3) := by decide +kernel
theorem dX3_earliest_22 : decode cX3_earliest 22 = .ok (.iconst 1, 1) := by decide +kernel
theorem dX3_earliest_23 : decode cX3_earliest 23 = .ok (.if_icmp .ne 32, 3) := by decide +kernel
theorem dX3_earliest_26 : decode cX3_earliest 26 = .ok (.iload_n 1, 1) := by decide +kernel
theorem dX3_earliest_27 : decode cX3_earliest 27 = .ok (.bipush (-4), 2) := by decide +kernel
theorem dX3_earliest_29 : decode cX3_earliest 29 = .ok (.if_icmp .eq 24, 3) := by decide +kernel
theorem dX3_earliest_32 : decode cX3_earliest 32 = .ok (.aload_n 0, 1) := by decide +kernel
theorem dX3_earliest_33 : decode cX3_earliest 33 = .ok (.getfield 11, 3) := by decide +kernel
theorem dX3_earliest_36 : decode cX3_earliest 36 = .ok (.iload_n 2, 1) := by decide +kernel
theorem dX3_earliest_37 : decode cX3_earliest 37 = .ok (.aaload, 1) := by decide +kernel
theorem dX3_earliest_38 : decode cX3_earliest 38 = .ok (.getfield 74, 3) := by decide +kernel
theorem dX3_earliest_41 : decode cX3_earliest 41 = .ok (.aload_n 0, 1) := by decide +kernel
theorem dX3_earliest_42 : decode cX3_earliest 42 = .ok (.getfield 11, 3) := by decide +kernel
theorem dX3_earliest_45 : decode cX3_earliest 45 = .ok (.iload_n 1, 1) := by decide +kernel
theorem dX3_earliest_46 : decode cX3_earliest 46 = .ok (.aaload, 1) := by decide +kernel
theorem dX3_earliest_47 : decode cX3_earliest 47 = .ok (.getfield 74, 3) := by decide +kernel
theorem dX3_earliest_50 : decode cX3_earliest 50 = .ok (.if_icmp .ge 5, 3) := by decide +kernel
theorem dX3_earliest_53 : decode cX3_earliest 53 = .ok (.iload_n 2, 1) := by decide +kernel
theorem dX3_earliest_54 : decode cX3_earliest 54 = .ok (.istore_n 1, 1) := by decide +kernel
theorem dX3_earliest_55 : decode cX3_earliest 55 = .ok (.iinc 2 1, 3) := by decide +kernel
theorem dX3_earliest_58 : decode cX3_earliest 58 = .ok (.goto (-53), 3) := by decide +kernel
theorem dX3_earliest_61 : decode cX3_earliest 61 = .ok (.iload_n 1, 1) := by decide +kernel
theorem dX3_earliest_62 : decode cX3_earliest 62 = .ok (.ireturn, 1) := by decide +kernel
set_option maxRecDepth 20000 in
theorem gwX3_holderOf : wsX3_holderOf.all goodWord = true := by decide +kernel
set_option maxRecDepth 20000 in
theorem ggX3_runChosen_X3_holderOf : GoodIn wsX3_runChosen wsX3_holderOf := goodIn_r _ [13, 14, 1, 15, 16, 17, 18, 19, 20, 21, 22, 100, 101, 102, 103, 104, 105, 106, 107, 108, 109, 110, 111, 112, 113, 114, 115, 116, 117, 118, 119] rfl gwX3_holderOf
set_option maxRecDepth 20000 in
theorem gX3_runChosen_X3_holderOf : GoodIn wsX3_runChosen (wsV RX3 93 RX3 yX3_holderOf wsX3_holderOf) := goodIn_app (goodIn_r _ [9, 10, 11, 12] rfl (by decide +kernel)) ggX3_runChosen_X3_holderOf
set_option maxRecDepth 20000 in
theorem gwX3_loadOfAll : wsX3_loadOfAll.all goodWord = true := by decide +kernel
set_option maxRecDepth 20000 in
theorem ggX3_runChosen_X3_loadOfAll : GoodIn wsX3_runChosen wsX3_loadOfAll := goodIn_r _ [26, 14, 1, 8, 27, 100, 101, 102, 103, 104, 105, 106, 107, 108, 109, 110, 111, 112, 113, 114, 115, 116, 117, 118, 119] rfl gwX3_loadOfAll
set_option maxRecDepth 20000 in
theorem gX3_runChosen_X3_loadOfAll : GoodIn wsX3_runChosen (wsV RX3 100 RX3 yX3_loadOfAll wsX3_loadOfAll) := goodIn_app (goodIn_r _ [23, 24, 25, 12] rfl (by decide +kernel)) ggX3_runChosen_X3_loadOfAll
set_option maxRecDepth 20000 in
theorem ggX3_runChosen_X0_pays : GoodIn wsX3_runChosen wsX0_pays := goodIn_r _ [34, 35, 36, 37, 38, 39, 40, 41, 42, 105, 106, 107, 108, 109, 110, 111, 112, 113, 114, 115, 116, 117, 118, 119] rfl gwX0_pays
set_option maxRecDepth 20000 in
theorem gX3_runChosen_X0_pays_u103X0 : GoodIn wsX3_runChosen (va_wsO RX3 103 RX0 "GreedyServers$Hard" ⟨"GreedyServers$Hard", "pays", "(LGreedyServers$Server;I)I"⟩ yX0_pays wsX0_pays) := goodIn_app (goodIn_r _ [28, 29, 30, 31, 32, 33] rfl (by decide +kernel)) ggX3_runChosen_X0_pays
set_option maxRecDepth 20000 in
theorem gwX1_pays : wsX1_pays.all goodWord = true := by decide +kernel
set_option maxRecDepth 20000 in
theorem ggX3_runChosen_X1_pays : GoodIn wsX3_runChosen wsX1_pays := goodIn_r _ [43] rfl gwX1_pays
set_option maxRecDepth 20000 in
theorem gX3_runChosen_X1_pays : GoodIn wsX3_runChosen (wsV RX3 103 RX1 yX1_pays wsX1_pays) := goodIn_app (goodIn_r _ [28, 30, 46, 47] rfl (by decide +kernel)) ggX3_runChosen_X1_pays
set_option maxRecDepth 20000 in
theorem gwX2_pays : wsX2_pays.all goodWord = true := by decide +kernel
set_option maxRecDepth 20000 in
theorem ggX3_runChosen_X2_pays : GoodIn wsX3_runChosen wsX2_pays := goodIn_r _ [51, 52, 53, 54, 32, 33, 34, 35, 36, 37, 38, 39, 40, 41, 42, 105, 106, 107, 108, 109, 110, 111, 112, 113, 114, 115, 116, 117, 118, 119] rfl gwX2_pays
set_option maxRecDepth 20000 in
theorem gX3_runChosen_X2_pays_u103X2 : GoodIn wsX3_runChosen (va_wsO RX3 103 RX2 "GreedyServers$Hard" ⟨"GreedyServers$Hard", "pays", "(LGreedyServers$Server;I)I"⟩ yX2_pays wsX2_pays) := goodIn_app (goodIn_r _ [28, 29, 30, 48, 49, 50] rfl (by decide +kernel)) ggX3_runChosen_X2_pays
set_option maxRecDepth 20000 in
theorem gX3_runChosen_X1_pays_u103X4 : GoodIn wsX3_runChosen (va_wsU RX3 103 RX4 "GreedyServers$Hard" ⟨"GreedyServers$Hard", "pays", "(LGreedyServers$Server;I)I"⟩ yX1_pays wsX1_pays) := goodIn_app (goodIn_r _ [28, 29, 55, 30, 47] rfl (by decide +kernel)) ggX3_runChosen_X1_pays
set_option maxRecDepth 20000 in
theorem gwX7_pays : wsX7_pays.all goodWord = true := by decide +kernel
set_option maxRecDepth 20000 in
theorem ggX3_runChosen_X7_pays : GoodIn wsX3_runChosen wsX7_pays := goodIn_r _ [59, 60, 61, 62, 37, 38, 39, 63, 53, 64, 32, 33, 34, 35, 36, 40, 41, 42, 105, 106, 107, 108, 109, 110, 111, 112, 113, 114, 115, 116, 117, 118, 119] rfl gwX7_pays
set_option maxRecDepth 20000 in
theorem gX3_runChosen_X7_pays_u103X7 : GoodIn wsX3_runChosen (va_wsO RX3 103 RX7 "GreedyServers$Hard" ⟨"GreedyServers$Hard", "pays", "(LGreedyServers$Server;I)I"⟩ yX7_pays wsX7_pays) := goodIn_app (goodIn_r _ [28, 29, 30, 56, 57, 58] rfl (by decide +kernel)) ggX3_runChosen_X7_pays
set_option maxRecDepth 20000 in
theorem gX3_runChosen_X1_pays_u103X9 : GoodIn wsX3_runChosen (va_wsU RX3 103 RX9 "GreedyServers$Hard" ⟨"GreedyServers$Hard", "pays", "(LGreedyServers$Server;I)I"⟩ yX1_pays wsX1_pays) := goodIn_app (goodIn_r _ [28, 29, 65, 30, 47] rfl (by decide +kernel)) ggX3_runChosen_X1_pays
set_option maxRecDepth 20000 in
theorem gwX5_runJobNow : wsX5_runJobNow.all goodWord = true := by decide +kernel
set_option maxRecDepth 20000 in
theorem ggX3_runChosen_X5_runJobNow : GoodIn wsX3_runChosen wsX5_runJobNow := goodIn_r _ [69, 20, 70, 22, 21, 71, 72, 73, 74, 75, 18, 76, 77, 78, 79, 105, 106, 107, 108, 109, 110, 111, 112, 113, 114, 115, 116, 117, 118, 119] rfl gwX5_runJobNow
set_option maxRecDepth 20000 in
theorem gX3_runChosen_X5_runJobNow : GoodIn wsX3_runChosen (wsV RX3 107 RX5 yX5_runJobNow wsX5_runJobNow) := goodIn_app (goodIn_r _ [66, 67, 68, 18] rfl (by decide +kernel)) ggX3_runChosen_X5_runJobNow
set_option maxRecDepth 20000 in
theorem gwX1_refill : wsX1_refill.all goodWord = true := by decide +kernel
set_option maxRecDepth 20000 in
theorem ggX3_runChosen_X1_refill : GoodIn wsX3_runChosen wsX1_refill := goodIn_r _ [84, 85, 86, 87, 88, 105, 106, 107, 108, 109, 110, 111, 112, 113, 114, 115, 116, 117, 118, 119] rfl gwX1_refill
set_option maxRecDepth 20000 in
theorem gX3_runChosen_X1_refill_u111X0 : GoodIn wsX3_runChosen (va_wsU RX3 111 RX0 "GreedyServers$Hard" ⟨"GreedyServers$Hard", "refill", "(LGreedyServers$Server;)V"⟩ yX1_refill wsX1_refill) := goodIn_app (goodIn_r _ [80, 81, 82, 83, 47] rfl (by decide +kernel)) ggX3_runChosen_X1_refill
set_option maxRecDepth 20000 in
theorem gX3_runChosen_X1_refill : GoodIn wsX3_runChosen (wsV RX3 111 RX1 yX1_refill wsX1_refill) := goodIn_app (goodIn_r _ [80, 83, 90, 47] rfl (by decide +kernel)) ggX3_runChosen_X1_refill
set_option maxRecDepth 20000 in
theorem gX3_runChosen_X1_refill_u111X2 : GoodIn wsX3_runChosen (va_wsU RX3 111 RX2 "GreedyServers$Hard" ⟨"GreedyServers$Hard", "refill", "(LGreedyServers$Server;)V"⟩ yX1_refill wsX1_refill) := goodIn_app (goodIn_r _ [80, 81, 91, 83, 47] rfl (by decide +kernel)) ggX3_runChosen_X1_refill
set_option maxRecDepth 20000 in
theorem gwX4_refill : wsX4_refill.all goodWord = true := by decide +kernel
set_option maxRecDepth 20000 in
theorem ggX3_runChosen_X4_refill : GoodIn wsX3_runChosen wsX4_refill := goodIn_r _ [96, 97, 105, 106, 107, 108, 109, 110, 111, 112, 113, 114, 115, 116, 117, 118, 119] rfl gwX4_refill
set_option maxRecDepth 20000 in
theorem gX3_runChosen_X4_refill_u111X4 : GoodIn wsX3_runChosen (va_wsO RX3 111 RX4 "GreedyServers$Hard" ⟨"GreedyServers$Hard", "refill", "(LGreedyServers$Server;)V"⟩ yX4_refill wsX4_refill) := goodIn_app (goodIn_r _ [80, 81, 83, 93, 94, 95] rfl (by decide +kernel)) ggX3_runChosen_X4_refill
set_option maxRecDepth 20000 in
theorem gX3_runChosen_X1_refill_u111X7 : GoodIn wsX3_runChosen (va_wsU RX3 111 RX7 "GreedyServers$Hard" ⟨"GreedyServers$Hard", "refill", "(LGreedyServers$Server;)V"⟩ yX1_refill wsX1_refill) := goodIn_app (goodIn_r _ [80, 81, 98, 83, 47] rfl (by decide +kernel)) ggX3_runChosen_X1_refill
set_option maxRecDepth 20000 in
theorem gX3_runChosen_X4_refill_u111X9 : GoodIn wsX3_runChosen (va_wsO RX3 111 RX9 "GreedyServers$Hard" ⟨"GreedyServers$Hard", "refill", "(LGreedyServers$Server;)V"⟩ yX4_refill wsX4_refill) := goodIn_app (goodIn_r _ [80, 81, 83, 99, 94, 95] rfl (by decide +kernel)) ggX3_runChosen_X4_refill
theorem dX3_runChosen_0 : decode cX3_runChosen 0 = .ok (.aload_n 0, 1) := by decide +kernel
theorem dX3_runChosen_1 : decode cX3_runChosen 1 = .ok (.getfield 11, 3) := by decide +kernel
theorem dX3_runChosen_4 : decode cX3_runChosen 4 = .ok (.aload_n 0, 1) := by decide +kernel
theorem dX3_runChosen_5 : decode cX3_runChosen 5 = .ok (.getfield 17, 3) := by decide +kernel
theorem dX3_runChosen_8 : decode cX3_runChosen 8 = .ok (.aaload, 1) := by decide +kernel
theorem dX3_runChosen_9 : decode cX3_runChosen 9 = .ok (.astore_n 1, 1) := by decide +kernel
theorem dX3_runChosen_10 : decode cX3_runChosen 10 = .ok (.aload_n 0, 1) := by decide +kernel
theorem dX3_runChosen_11 : decode cX3_runChosen 11 = .ok (.aload_n 1, 1) := by decide +kernel
theorem dX3_runChosen_12 : decode cX3_runChosen 12 = .ok (.getfield 89, 3) := by decide +kernel
theorem dX3_runChosen_15 : decode cX3_runChosen 15 = .ok (.iconst 0, 1) := by decide +kernel
theorem dX3_runChosen_16 : decode cX3_runChosen 16 = .ok (.iaload, 1) := by decide +kernel
theorem dX3_runChosen_17 : decode cX3_runChosen 17 = .ok (.invokevirtual 93, 3) := by decide +kernel
theorem dX3_runChosen_20 : decode cX3_runChosen 20 = .ok (.istore_n 2, 1) := by decide +kernel
theorem dX3_runChosen_21 : decode cX3_runChosen 21 = .ok (.aload_n 0, 1) := by decide +kernel
theorem dX3_runChosen_22 : decode cX3_runChosen 22 = .ok (.iload_n 2, 1) := by decide +kernel
theorem dX3_runChosen_23 : decode cX3_runChosen 23 = .ok (.bipush (-4), 2) := by decide +kernel
theorem dX3_runChosen_25 : decode cX3_runChosen 25 = .ok (.if_icmp .ne 10, 3) := by decide +kernel
theorem dX3_runChosen_28 : decode cX3_runChosen 28 = .ok (.aload_n 0, 1) := by decide +kernel
theorem dX3_runChosen_29 : decode cX3_runChosen 29 = .ok (.getfield 17, 3) := by decide +kernel
theorem dX3_runChosen_32 : decode cX3_runChosen 32 = .ok (.goto 4, 3) := by decide +kernel
theorem dX3_runChosen_35 : decode cX3_runChosen 35 = .ok (.iload_n 2, 1) := by decide +kernel
theorem dX3_runChosen_36 : decode cX3_runChosen 36 = .ok (.putfield 21, 3) := by decide +kernel
theorem dX3_runChosen_39 : decode cX3_runChosen 39 = .ok (.aload_n 1, 1) := by decide +kernel
theorem dX3_runChosen_40 : decode cX3_runChosen 40 = .ok (.dup, 1) := by decide +kernel
theorem dX3_runChosen_41 : decode cX3_runChosen 41 = .ok (.getfield 97, 3) := by decide +kernel
theorem dX3_runChosen_44 : decode cX3_runChosen 44 = .ok (.aload_n 1, 1) := by decide +kernel
theorem dX3_runChosen_45 : decode cX3_runChosen 45 = .ok (.getfield 77, 3) := by decide +kernel
theorem dX3_runChosen_48 : decode cX3_runChosen 48 = .ok (.aload_n 1, 1) := by decide +kernel
theorem dX3_runChosen_49 : decode cX3_runChosen 49 = .ok (.aload_n 0, 1) := by decide +kernel
theorem dX3_runChosen_50 : decode cX3_runChosen 50 = .ok (.invokevirtual 100, 3) := by decide +kernel
theorem dX3_runChosen_53 : decode cX3_runChosen 53 = .ok (.invokevirtual 103, 3) := by decide +kernel
theorem dX3_runChosen_56 : decode cX3_runChosen 56 = .ok (.isub, 1) := by decide +kernel
theorem dX3_runChosen_57 : decode cX3_runChosen 57 = .ok (.putfield 97, 3) := by decide +kernel
theorem dX3_runChosen_60 : decode cX3_runChosen 60 = .ok (.aload_n 0, 1) := by decide +kernel
theorem dX3_runChosen_61 : decode cX3_runChosen 61 = .ok (.getfield 11, 3) := by decide +kernel
theorem dX3_runChosen_64 : decode cX3_runChosen 64 = .ok (.aload_n 0, 1) := by decide +kernel
theorem dX3_runChosen_65 : decode cX3_runChosen 65 = .ok (.getfield 21, 3) := by decide +kernel
theorem dX3_runChosen_68 : decode cX3_runChosen 68 = .ok (.aaload, 1) := by decide +kernel
theorem dX3_runChosen_69 : decode cX3_runChosen 69 = .ok (.aload_n 0, 1) := by decide +kernel
theorem dX3_runChosen_70 : decode cX3_runChosen 70 = .ok (.getfield 30, 3) := by decide +kernel
theorem dX3_runChosen_73 : decode cX3_runChosen 73 = .ok (.invokevirtual 107, 3) := by decide +kernel
theorem dX3_runChosen_76 : decode cX3_runChosen 76 = .ok (.aload_n 1, 1) := by decide +kernel
theorem dX3_runChosen_77 : decode cX3_runChosen 77 = .ok (.getfield 71, 3) := by decide +kernel
theorem dX3_runChosen_80 : decode cX3_runChosen 80 = .ok (.iconst 1, 1) := by decide +kernel
theorem dX3_runChosen_81 : decode cX3_runChosen 81 = .ok (.if_icmp .ne 18, 3) := by decide +kernel
theorem dX3_runChosen_84 : decode cX3_runChosen 84 = .ok (.aload_n 1, 1) := by decide +kernel
theorem dX3_runChosen_85 : decode cX3_runChosen 85 = .ok (.getfield 97, 3) := by decide +kernel
theorem dX3_runChosen_88 : decode cX3_runChosen 88 = .ok (.ifCond .gt 11, 3) := by decide +kernel
theorem dX3_runChosen_91 : decode cX3_runChosen 91 = .ok (.aload_n 1, 1) := by decide +kernel
theorem dX3_runChosen_92 : decode cX3_runChosen 92 = .ok (.getfield 77, 3) := by decide +kernel
theorem dX3_runChosen_95 : decode cX3_runChosen 95 = .ok (.aload_n 1, 1) := by decide +kernel
theorem dX3_runChosen_96 : decode cX3_runChosen 96 = .ok (.invokevirtual 111, 3) := by decide +kernel
theorem dX3_runChosen_99 : decode cX3_runChosen 99 = .ok (.return_, 1) := by decide +kernel
set_option maxRecDepth 20000 in
theorem gwX5_holdsLock : wsX5_holdsLock.all goodWord = true := by decide +kernel
set_option maxRecDepth 20000 in
theorem ggX3_holderOf_X5_holdsLock : GoodIn wsX3_holderOf wsX5_holdsLock := goodIn_r _ [7, 8, 9, 10, 16, 17, 18, 19, 20, 21, 22, 23, 24, 25, 26, 27, 28, 29, 30] rfl gwX5_holdsLock
set_option maxRecDepth 20000 in
theorem gX3_holderOf_X5_holdsLock : GoodIn wsX3_holderOf (wsV RX3 114 RX5 yX5_holdsLock wsX5_holdsLock) := goodIn_app (goodIn_r _ [3, 4, 5, 6] rfl (by decide +kernel)) ggX3_holderOf_X5_holdsLock
theorem dX3_holderOf_0 : decode cX3_holderOf 0 = .ok (.iload_n 1, 1) := by decide +kernel
theorem dX3_holderOf_1 : decode cX3_holderOf 1 = .ok (.iconst 3, 1) := by decide +kernel
theorem dX3_holderOf_2 : decode cX3_holderOf 2 = .ok (.if_icmp .ne 6, 3) := by decide +kernel
theorem dX3_holderOf_5 : decode cX3_holderOf 5 = .ok (.bipush (-4), 2) := by decide +kernel
theorem dX3_holderOf_7 : decode cX3_holderOf 7 = .ok (.ireturn, 1) := by decide +kernel
theorem dX3_holderOf_8 : decode cX3_holderOf 8 = .ok (.iconst 0, 1) := by decide +kernel
theorem dX3_holderOf_9 : decode cX3_holderOf 9 = .ok (.istore_n 2, 1) := by decide +kernel
theorem dX3_holderOf_10 : decode cX3_holderOf 10 = .ok (.iload_n 2, 1) := by decide +kernel
theorem dX3_holderOf_11 : decode cX3_holderOf 11 = .ok (.aload_n 0, 1) := by decide +kernel
theorem dX3_holderOf_12 : decode cX3_holderOf 12 = .ok (.getfield 27, 3) := by decide +kernel
theorem dX3_holderOf_15 : decode cX3_holderOf 15 = .ok (.if_icmp .ge 24, 3) := by decide +kernel
theorem dX3_holderOf_18 : decode cX3_holderOf 18 = .ok (.aload_n 0, 1) := by decide +kernel
theorem dX3_holderOf_19 : decode cX3_holderOf 19 = .ok (.getfield 11, 3) := by decide +kernel
theorem dX3_holderOf_22 : decode cX3_holderOf 22 = .ok (.iload_n 2, 1) := by decide +kernel
theorem dX3_holderOf_23 : decode cX3_holderOf 23 = .ok (.aaload, 1) := by decide +kernel
theorem dX3_holderOf_24 : decode cX3_holderOf 24 = .ok (.iload_n 1, 1) := by decide +kernel
theorem dX3_holderOf_25 : decode cX3_holderOf 25 = .ok (.invokevirtual 114, 3) := by decide +kernel
theorem dX3_holderOf_28 : decode cX3_holderOf 28 = .ok (.ifCond .eq 5, 3) := by decide +kernel
theorem dX3_holderOf_31 : decode cX3_holderOf 31 = .ok (.iload_n 2, 1) := by decide +kernel
theorem dX3_holderOf_32 : decode cX3_holderOf 32 = .ok (.ireturn, 1) := by decide +kernel
theorem dX3_holderOf_33 : decode cX3_holderOf 33 = .ok (.iinc 2 1, 3) := by decide +kernel
theorem dX3_holderOf_36 : decode cX3_holderOf 36 = .ok (.goto (-26), 3) := by decide +kernel
theorem dX3_holderOf_39 : decode cX3_holderOf 39 = .ok (.bipush (-4), 2) := by decide +kernel
theorem dX3_holderOf_41 : decode cX3_holderOf 41 = .ok (.ireturn, 1) := by decide +kernel
theorem dX3_loadOfAll_0 : decode cX3_loadOfAll 0 = .ok (.iconst 0, 1) := by decide +kernel
theorem dX3_loadOfAll_1 : decode cX3_loadOfAll 1 = .ok (.istore_n 1, 1) := by decide +kernel
theorem dX3_loadOfAll_2 : decode cX3_loadOfAll 2 = .ok (.iconst 0, 1) := by decide +kernel
theorem dX3_loadOfAll_3 : decode cX3_loadOfAll 3 = .ok (.istore_n 2, 1) := by decide +kernel
theorem dX3_loadOfAll_4 : decode cX3_loadOfAll 4 = .ok (.iload_n 2, 1) := by decide +kernel
theorem dX3_loadOfAll_5 : decode cX3_loadOfAll 5 = .ok (.aload_n 0, 1) := by decide +kernel
theorem dX3_loadOfAll_6 : decode cX3_loadOfAll 6 = .ok (.getfield 27, 3) := by decide +kernel
theorem dX3_loadOfAll_9 : decode cX3_loadOfAll 9 = .ok (.if_icmp .ge 33, 3) := by decide +kernel
theorem dX3_loadOfAll_12 : decode cX3_loadOfAll 12 = .ok (.aload_n 0, 1) := by decide +kernel
theorem dX3_loadOfAll_13 : decode cX3_loadOfAll 13 = .ok (.getfield 11, 3) := by decide +kernel
theorem dX3_loadOfAll_16 : decode cX3_loadOfAll 16 = .ok (.iload_n 2, 1) := by decide +kernel
theorem dX3_loadOfAll_17 : decode cX3_loadOfAll 17 = .ok (.aaload, 1) := by decide +kernel
theorem dX3_loadOfAll_18 : decode cX3_loadOfAll 18 = .ok (.getfield 71, 3) := by decide +kernel
theorem dX3_loadOfAll_21 : decode cX3_loadOfAll 21 = .ok (.ifCond .eq 15, 3) := by decide +kernel
theorem dX3_loadOfAll_24 : decode cX3_loadOfAll 24 = .ok (.iload_n 1, 1) := by decide +kernel
theorem dX3_loadOfAll_25 : decode cX3_loadOfAll 25 = .ok (.aload_n 0, 1) := by decide +kernel
theorem dX3_loadOfAll_26 : decode cX3_loadOfAll 26 = .ok (.getfield 11, 3) := by decide +kernel
theorem dX3_loadOfAll_29 : decode cX3_loadOfAll 29 = .ok (.iload_n 2, 1) := by decide +kernel
theorem dX3_loadOfAll_30 : decode cX3_loadOfAll 30 = .ok (.aaload, 1) := by decide +kernel
theorem dX3_loadOfAll_31 : decode cX3_loadOfAll 31 = .ok (.getfield 117, 3) := by decide +kernel
theorem dX3_loadOfAll_34 : decode cX3_loadOfAll 34 = .ok (.iadd, 1) := by decide +kernel
theorem dX3_loadOfAll_35 : decode cX3_loadOfAll 35 = .ok (.istore_n 1, 1) := by decide +kernel
theorem dX3_loadOfAll_36 : decode cX3_loadOfAll 36 = .ok (.iinc 2 1, 3) := by decide +kernel
theorem dX3_loadOfAll_39 : decode cX3_loadOfAll 39 = .ok (.goto (-35), 3) := by decide +kernel
theorem dX3_loadOfAll_42 : decode cX3_loadOfAll 42 = .ok (.iload_n 1, 1) := by decide +kernel
theorem dX3_loadOfAll_43 : decode cX3_loadOfAll 43 = .ok (.ireturn, 1) := by decide +kernel
set_option maxRecDepth 20000 in
theorem gwX3_lateOfAllBut : wsX3_lateOfAllBut.all goodWord = true := by decide +kernel
set_option maxRecDepth 20000 in
theorem ggX3_lateOfAll_X3_lateOfAllBut : GoodIn wsX3_lateOfAll wsX3_lateOfAllBut := goodIn_r _ [5, 6, 7, 8, 9, 10, 11, 12, 13, 14, 15, 16, 17, 18, 19, 20, 21, 22, 23, 24, 25, 26, 27, 28] rfl gwX3_lateOfAllBut
set_option maxRecDepth 20000 in
theorem gX3_lateOfAll_X3_lateOfAllBut : GoodIn wsX3_lateOfAll (wsV RX3 120 RX3 yX3_lateOfAllBut wsX3_lateOfAllBut) := goodIn_app (goodIn_r _ [1, 2, 3, 4] rfl (by decide +kernel)) ggX3_lateOfAll_X3_lateOfAllBut
theorem dX3_lateOfAll_0 : decode cX3_lateOfAll 0 = .ok (.aload_n 0, 1) := by decide +kernel
theorem dX3_lateOfAll_1 : decode cX3_lateOfAll 1 = .ok (.bipush (-4), 2) := by decide +kernel
theorem dX3_lateOfAll_3 : decode cX3_lateOfAll 3 = .ok (.invokevirtual 120, 3) := by decide +kernel
theorem dX3_lateOfAll_6 : decode cX3_lateOfAll 6 = .ok (.ireturn, 1) := by decide +kernel
theorem dX3_lateOfAllBut_0 : decode cX3_lateOfAllBut 0 = .ok (.iconst 0, 1) := by decide +kernel
theorem dX3_lateOfAllBut_1 : decode cX3_lateOfAllBut 1 = .ok (.istore_n 2, 1) := by decide +kernel
theorem dX3_lateOfAllBut_2 : decode cX3_lateOfAllBut 2 = .ok (.iconst 0, 1) := by decide +kernel
theorem dX3_lateOfAllBut_3 : decode cX3_lateOfAllBut 3 = .ok (.istore_n 3, 1) := by decide +kernel
theorem dX3_lateOfAllBut_4 : decode cX3_lateOfAllBut 4 = .ok (.iload_n 3, 1) := by decide +kernel
theorem dX3_lateOfAllBut_5 : decode cX3_lateOfAllBut 5 = .ok (.aload_n 0, 1) := by decide +kernel
theorem dX3_lateOfAllBut_6 : decode cX3_lateOfAllBut 6 = .ok (.getfield 27, 3) := by decide +kernel
theorem dX3_lateOfAllBut_9 : decode cX3_lateOfAllBut 9 = .ok (.if_icmp .ge 26, 3) := by decide +kernel
theorem dX3_lateOfAllBut_12 : decode cX3_lateOfAllBut 12 = .ok (.iload_n 3, 1) := by decide +kernel
theorem dX3_lateOfAllBut_13 : decode cX3_lateOfAllBut 13 = .ok (.iload_n 1, 1) := by decide +kernel
theorem dX3_lateOfAllBut_14 : decode cX3_lateOfAllBut 14 = .ok (.if_icmp .eq 15, 3) := by decide +kernel
theorem dX3_lateOfAllBut_17 : decode cX3_lateOfAllBut 17 = .ok (.iload_n 2, 1) := by decide +kernel
theorem dX3_lateOfAllBut_18 : decode cX3_lateOfAllBut 18 = .ok (.aload_n 0, 1) := by decide +kernel
theorem dX3_lateOfAllBut_19 : decode cX3_lateOfAllBut 19 = .ok (.getfield 11, 3) := by decide +kernel
theorem dX3_lateOfAllBut_22 : decode cX3_lateOfAllBut 22 = .ok (.iload_n 3, 1) := by decide +kernel
theorem dX3_lateOfAllBut_23 : decode cX3_lateOfAllBut 23 = .ok (.aaload, 1) := by decide +kernel
theorem dX3_lateOfAllBut_24 : decode cX3_lateOfAllBut 24 = .ok (.getfield 123, 3) := by decide +kernel
theorem dX3_lateOfAllBut_27 : decode cX3_lateOfAllBut 27 = .ok (.iadd, 1) := by decide +kernel
theorem dX3_lateOfAllBut_28 : decode cX3_lateOfAllBut 28 = .ok (.istore_n 2, 1) := by decide +kernel
theorem dX3_lateOfAllBut_29 : decode cX3_lateOfAllBut 29 = .ok (.iinc 3 1, 3) := by decide +kernel
theorem dX3_lateOfAllBut_32 : decode cX3_lateOfAllBut 32 = .ok (.goto (-28), 3) := by decide +kernel
theorem dX3_lateOfAllBut_35 : decode cX3_lateOfAllBut 35 = .ok (.iload_n 2, 1) := by decide +kernel
theorem dX3_lateOfAllBut_36 : decode cX3_lateOfAllBut 36 = .ok (.ireturn, 1) := by decide +kernel
theorem dX3_doneOfAll_0 : decode cX3_doneOfAll 0 = .ok (.iconst 0, 1) := by decide +kernel
theorem dX3_doneOfAll_1 : decode cX3_doneOfAll 1 = .ok (.istore_n 1, 1) := by decide +kernel
theorem dX3_doneOfAll_2 : decode cX3_doneOfAll 2 = .ok (.iconst 0, 1) := by decide +kernel
theorem dX3_doneOfAll_3 : decode cX3_doneOfAll 3 = .ok (.istore_n 2, 1) := by decide +kernel
theorem dX3_doneOfAll_4 : decode cX3_doneOfAll 4 = .ok (.iload_n 2, 1) := by decide +kernel
theorem dX3_doneOfAll_5 : decode cX3_doneOfAll 5 = .ok (.aload_n 0, 1) := by decide +kernel
theorem dX3_doneOfAll_6 : decode cX3_doneOfAll 6 = .ok (.getfield 27, 3) := by decide +kernel
theorem dX3_doneOfAll_9 : decode cX3_doneOfAll 9 = .ok (.if_icmp .ge 21, 3) := by decide +kernel
theorem dX3_doneOfAll_12 : decode cX3_doneOfAll 12 = .ok (.iload_n 1, 1) := by decide +kernel
theorem dX3_doneOfAll_13 : decode cX3_doneOfAll 13 = .ok (.aload_n 0, 1) := by decide +kernel
theorem dX3_doneOfAll_14 : decode cX3_doneOfAll 14 = .ok (.getfield 11, 3) := by decide +kernel
theorem dX3_doneOfAll_17 : decode cX3_doneOfAll 17 = .ok (.iload_n 2, 1) := by decide +kernel
theorem dX3_doneOfAll_18 : decode cX3_doneOfAll 18 = .ok (.aaload, 1) := by decide +kernel
theorem dX3_doneOfAll_19 : decode cX3_doneOfAll 19 = .ok (.getfield 126, 3) := by decide +kernel
theorem dX3_doneOfAll_22 : decode cX3_doneOfAll 22 = .ok (.iadd, 1) := by decide +kernel
theorem dX3_doneOfAll_23 : decode cX3_doneOfAll 23 = .ok (.istore_n 1, 1) := by decide +kernel
theorem dX3_doneOfAll_24 : decode cX3_doneOfAll 24 = .ok (.iinc 2 1, 3) := by decide +kernel
theorem dX3_doneOfAll_27 : decode cX3_doneOfAll 27 = .ok (.goto (-23), 3) := by decide +kernel
theorem dX3_doneOfAll_30 : decode cX3_doneOfAll 30 = .ok (.iload_n 1, 1) := by decide +kernel
theorem dX3_doneOfAll_31 : decode cX3_doneOfAll 31 = .ok (.ireturn, 1) := by decide +kernel
theorem dX3_jobsOfAll_0 : decode cX3_jobsOfAll 0 = .ok (.iconst 0, 1) := by decide +kernel
theorem dX3_jobsOfAll_1 : decode cX3_jobsOfAll 1 = .ok (.istore_n 1, 1) := by decide +kernel
theorem dX3_jobsOfAll_2 : decode cX3_jobsOfAll 2 = .ok (.iconst 0, 1) := by decide +kernel
theorem dX3_jobsOfAll_3 : decode cX3_jobsOfAll 3 = .ok (.istore_n 2, 1) := by decide +kernel
theorem dX3_jobsOfAll_4 : decode cX3_jobsOfAll 4 = .ok (.iload_n 2, 1) := by decide +kernel
theorem dX3_jobsOfAll_5 : decode cX3_jobsOfAll 5 = .ok (.aload_n 0, 1) := by decide +kernel
theorem dX3_jobsOfAll_6 : decode cX3_jobsOfAll 6 = .ok (.getfield 27, 3) := by decide +kernel
theorem dX3_jobsOfAll_9 : decode cX3_jobsOfAll 9 = .ok (.if_icmp .ge 21, 3) := by decide +kernel
theorem dX3_jobsOfAll_12 : decode cX3_jobsOfAll 12 = .ok (.iload_n 1, 1) := by decide +kernel
theorem dX3_jobsOfAll_13 : decode cX3_jobsOfAll 13 = .ok (.aload_n 0, 1) := by decide +kernel
theorem dX3_jobsOfAll_14 : decode cX3_jobsOfAll 14 = .ok (.getfield 11, 3) := by decide +kernel
theorem dX3_jobsOfAll_17 : decode cX3_jobsOfAll 17 = .ok (.iload_n 2, 1) := by decide +kernel
theorem dX3_jobsOfAll_18 : decode cX3_jobsOfAll 18 = .ok (.aaload, 1) := by decide +kernel
theorem dX3_jobsOfAll_19 : decode cX3_jobsOfAll 19 = .ok (.getfield 129, 3) := by decide +kernel
theorem dX3_jobsOfAll_22 : decode cX3_jobsOfAll 22 = .ok (.iadd, 1) := by decide +kernel
theorem dX3_jobsOfAll_23 : decode cX3_jobsOfAll 23 = .ok (.istore_n 1, 1) := by decide +kernel
theorem dX3_jobsOfAll_24 : decode cX3_jobsOfAll 24 = .ok (.iinc 2 1, 3) := by decide +kernel
theorem dX3_jobsOfAll_27 : decode cX3_jobsOfAll 27 = .ok (.goto (-23), 3) := by decide +kernel
theorem dX3_jobsOfAll_30 : decode cX3_jobsOfAll 30 = .ok (.iload_n 1, 1) := by decide +kernel
theorem dX3_jobsOfAll_31 : decode cX3_jobsOfAll 31 = .ok (.ireturn, 1) := by decide +kernel
theorem dX3_readyOnes_0 : decode cX3_readyOnes 0 = .ok (.iconst 0, 1) := by decide +kernel
theorem dX3_readyOnes_1 : decode cX3_readyOnes 1 = .ok (.istore_n 1, 1) := by decide +kernel
theorem dX3_readyOnes_2 : decode cX3_readyOnes 2 = .ok (.iconst 0, 1) := by decide +kernel
theorem dX3_readyOnes_3 : decode cX3_readyOnes 3 = .ok (.istore_n 2, 1) := by decide +kernel
theorem dX3_readyOnes_4 : decode cX3_readyOnes 4 = .ok (.iload_n 2, 1) := by decide +kernel
theorem dX3_readyOnes_5 : decode cX3_readyOnes 5 = .ok (.aload_n 0, 1) := by decide +kernel
theorem dX3_readyOnes_6 : decode cX3_readyOnes 6 = .ok (.getfield 27, 3) := by decide +kernel
theorem dX3_readyOnes_9 : decode cX3_readyOnes 9 = .ok (.if_icmp .ge 28, 3) := by decide +kernel
theorem dX3_readyOnes_12 : decode cX3_readyOnes 12 = .ok (.aload_n 0, 1) := by decide +kernel
theorem dX3_readyOnes_13 : decode cX3_readyOnes 13 = .ok (.getfield 11, 3) := by decide +kernel
theorem dX3_readyOnes_16 : decode cX3_readyOnes 16 = .ok (.iload_n 2, 1) := by decide +kernel
theorem dX3_readyOnes_17 : decode cX3_readyOnes 17 = .ok (.aaload, 1) := by decide +kernel
theorem dX3_readyOnes_18 : decode cX3_readyOnes 18 = .ok (.getfield 71, 3) := by decide +kernel
theorem dX3_readyOnes_21 : decode cX3_readyOnes 21 = .ok (.iconst 1, 1) := by decide +kernel
theorem dX3_readyOnes_22 : decode cX3_readyOnes 22 = .ok (.if_icmp .ne 9, 3) := by decide +kernel
theorem dX3_readyOnes_25 : decode cX3_readyOnes 25 = .ok (.iload_n 1, 1) := by decide +kernel
theorem dX3_readyOnes_26 : decode cX3_readyOnes 26 = .ok (.iconst 1, 1) := by decide +kernel
theorem dX3_readyOnes_27 : decode cX3_readyOnes 27 = .ok (.iload_n 2, 1) := by decide +kernel
theorem dX3_readyOnes_28 : decode cX3_readyOnes 28 = .ok (.ishl, 1) := by decide +kernel
theorem dX3_readyOnes_29 : decode cX3_readyOnes 29 = .ok (.ior, 1) := by decide +kernel
theorem dX3_readyOnes_30 : decode cX3_readyOnes 30 = .ok (.istore_n 1, 1) := by decide +kernel
theorem dX3_readyOnes_31 : decode cX3_readyOnes 31 = .ok (.iinc 2 1, 3) := by decide +kernel
theorem dX3_readyOnes_34 : decode cX3_readyOnes 34 = .ok (.goto (-30), 3) := by decide +kernel
theorem dX3_readyOnes_37 : decode cX3_readyOnes 37 = .ok (.iload_n 1, 1) := by decide +kernel
theorem dX3_readyOnes_38 : decode cX3_readyOnes 38 = .ok (.ireturn, 1) := by decide +kernel
theorem dX3_isAllIdle_0 : decode cX3_isAllIdle 0 = .ok (.iconst 0, 1) := by decide +kernel
theorem dX3_isAllIdle_1 : decode cX3_isAllIdle 1 = .ok (.istore_n 1, 1) := by decide +kernel
theorem dX3_isAllIdle_2 : decode cX3_isAllIdle 2 = .ok (.iload_n 1, 1) := by decide +kernel
theorem dX3_isAllIdle_3 : decode cX3_isAllIdle 3 = .ok (.aload_n 0, 1) := by decide +kernel
theorem dX3_isAllIdle_4 : decode cX3_isAllIdle 4 = .ok (.getfield 27, 3) := by decide +kernel
theorem dX3_isAllIdle_7 : decode cX3_isAllIdle 7 = .ok (.if_icmp .ge 23, 3) := by decide +kernel
theorem dX3_isAllIdle_10 : decode cX3_isAllIdle 10 = .ok (.aload_n 0, 1) := by decide +kernel
theorem dX3_isAllIdle_11 : decode cX3_isAllIdle 11 = .ok (.getfield 11, 3) := by decide +kernel
theorem dX3_isAllIdle_14 : decode cX3_isAllIdle 14 = .ok (.iload_n 1, 1) := by decide +kernel
theorem dX3_isAllIdle_15 : decode cX3_isAllIdle 15 = .ok (.aaload, 1) := by decide +kernel
theorem dX3_isAllIdle_16 : decode cX3_isAllIdle 16 = .ok (.getfield 71, 3) := by decide +kernel
theorem dX3_isAllIdle_19 : decode cX3_isAllIdle 19 = .ok (.ifCond .eq 5, 3) := by decide +kernel
theorem dX3_isAllIdle_22 : decode cX3_isAllIdle 22 = .ok (.iconst 0, 1) := by decide +kernel
theorem dX3_isAllIdle_23 : decode cX3_isAllIdle 23 = .ok (.ireturn, 1) := by decide +kernel
theorem dX3_isAllIdle_24 : decode cX3_isAllIdle 24 = .ok (.iinc 1 1, 3) := by decide +kernel
theorem dX3_isAllIdle_27 : decode cX3_isAllIdle 27 = .ok (.goto (-25), 3) := by decide +kernel
theorem dX3_isAllIdle_30 : decode cX3_isAllIdle 30 = .ok (.iconst 1, 1) := by decide +kernel
theorem dX3_isAllIdle_31 : decode cX3_isAllIdle 31 = .ok (.ireturn, 1) := by decide +kernel
theorem dX3_demandIn_0 : decode cX3_demandIn 0 = .ok (.iconst 0, 1) := by decide +kernel
theorem dX3_demandIn_1 : decode cX3_demandIn 1 = .ok (.istore_n 2, 1) := by decide +kernel
theorem dX3_demandIn_2 : decode cX3_demandIn 2 = .ok (.iconst 0, 1) := by decide +kernel
theorem dX3_demandIn_3 : decode cX3_demandIn 3 = .ok (.istore_n 3, 1) := by decide +kernel
theorem dX3_demandIn_4 : decode cX3_demandIn 4 = .ok (.iload_n 3, 1) := by decide +kernel
theorem dX3_demandIn_5 : decode cX3_demandIn 5 = .ok (.aload_n 0, 1) := by decide +kernel
theorem dX3_demandIn_6 : decode cX3_demandIn 6 = .ok (.getfield 27, 3) := by decide +kernel
theorem dX3_demandIn_9 : decode cX3_demandIn 9 = .ok (.if_icmp .ge 47, 3) := by decide +kernel
theorem dX3_demandIn_12 : decode cX3_demandIn 12 = .ok (.aload_n 0, 1) := by decide +kernel
theorem dX3_demandIn_13 : decode cX3_demandIn 13 = .ok (.getfield 11, 3) := by decide +kernel
theorem dX3_demandIn_16 : decode cX3_demandIn 16 = .ok (.iload_n 3, 1) := by decide +kernel
theorem dX3_demandIn_17 : decode cX3_demandIn 17 = .ok (.aaload, 1) := by decide +kernel
theorem dX3_demandIn_18 : decode cX3_demandIn 18 = .ok (.getfield 132, 3) := by decide +kernel
theorem dX3_demandIn_21 : decode cX3_demandIn 21 = .ok (.istore 4, 2) := by decide +kernel
theorem dX3_demandIn_23 : decode cX3_demandIn 23 = .ok (.iload_n 2, 1) := by decide +kernel
theorem dX3_demandIn_24 : decode cX3_demandIn 24 = .ok (.iload 4, 2) := by decide +kernel
theorem dX3_demandIn_26 : decode cX3_demandIn 26 = .ok (.iconst 1, 1) := by decide +kernel
theorem dX3_demandIn_27 : decode cX3_demandIn 27 = .ok (.if_icmp .ge 7, 3) := by decide +kernel
theorem dX3_demandIn_30 : decode cX3_demandIn 30 = .ok (.iconst 0, 1) := by decide +kernel
theorem dX3_demandIn_31 : decode cX3_demandIn 31 = .ok (.goto 17, 3) := by decide +kernel
theorem dX3_demandIn_34 : decode cX3_demandIn 34 = .ok (.aload_n 0, 1) := by decide +kernel
theorem dX3_demandIn_35 : decode cX3_demandIn 35 = .ok (.getfield 11, 3) := by decide +kernel
theorem dX3_demandIn_38 : decode cX3_demandIn 38 = .ok (.iload_n 3, 1) := by decide +kernel
theorem dX3_demandIn_39 : decode cX3_demandIn 39 = .ok (.aaload, 1) := by decide +kernel
theorem dX3_demandIn_40 : decode cX3_demandIn 40 = .ok (.getfield 135, 3) := by decide +kernel
theorem dX3_demandIn_43 : decode cX3_demandIn 43 = .ok (.iload_n 1, 1) := by decide +kernel
theorem dX3_demandIn_44 : decode cX3_demandIn 44 = .ok (.iload 4, 2) := by decide +kernel
theorem dX3_demandIn_46 : decode cX3_demandIn 46 = .ok (.idiv, 1) := by decide +kernel
theorem dX3_demandIn_47 : decode cX3_demandIn 47 = .ok (.imul, 1) := by decide +kernel
theorem dX3_demandIn_48 : decode cX3_demandIn 48 = .ok (.iadd, 1) := by decide +kernel
theorem dX3_demandIn_49 : decode cX3_demandIn 49 = .ok (.istore_n 2, 1) := by decide +kernel
theorem dX3_demandIn_50 : decode cX3_demandIn 50 = .ok (.iinc 3 1, 3) := by decide +kernel
theorem dX3_demandIn_53 : decode cX3_demandIn 53 = .ok (.goto (-49), 3) := by decide +kernel
theorem dX3_demandIn_56 : decode cX3_demandIn 56 = .ok (.iload_n 2, 1) := by decide +kernel
theorem dX3_demandIn_57 : decode cX3_demandIn 57 = .ok (.ireturn, 1) := by decide +kernel
set_option maxRecDepth 20000 in
theorem ggX4_init_X1_init : GoodIn wsX4_init wsX1_init := goodIn_r _ [4, 5, 6, 7, 8, 9, 10, 11, 12, 13, 14, 15, 16, 17, 18, 19, 20, 21] rfl gwX1_init
set_option maxRecDepth 20000 in
theorem gX4_init_X1_init : GoodIn wsX4_init (wsX1_init) := ggX4_init_X1_init
theorem dX4_init_0 : decode cX4_init 0 = .ok (.aload_n 0, 1) := by decide +kernel
theorem dX4_init_1 : decode cX4_init 1 = .ok (.iload_n 1, 1) := by decide +kernel
theorem dX4_init_2 : decode cX4_init 2 = .ok (.aload_n 2, 1) := by decide +kernel
theorem dX4_init_3 : decode cX4_init 3 = .ok (.invokespecial 3, 3) := by decide +kernel
theorem dX4_init_6 : decode cX4_init 6 = .ok (.return_, 1) := by decide +kernel
theorem dX4_refill_0 : decode cX4_refill 0 = .ok (.aload_n 1, 1) := by decide +kernel
theorem dX4_refill_1 : decode cX4_refill 1 = .ok (.iconst 2, 1) := by decide +kernel
theorem dX4_refill_2 : decode cX4_refill 2 = .ok (.putfield 9, 3) := by decide +kernel
theorem dX4_refill_5 : decode cX4_refill 5 = .ok (.return_, 1) := by decide +kernel
theorem dX4_worth_0 : decode cX4_worth 0 = .ok (.iconst 2, 1) := by decide +kernel
theorem dX4_worth_1 : decode cX4_worth 1 = .ok (.iload_n 1, 1) := by decide +kernel
theorem dX4_worth_2 : decode cX4_worth 2 = .ok (.imul, 1) := by decide +kernel
theorem dX4_worth_3 : decode cX4_worth 3 = .ok (.ireturn, 1) := by decide +kernel
theorem dX4_fail_0 : decode cX4_fail 0 = .ok (.return_, 1) := by decide +kernel
theorem dX5_init_0 : decode cX5_init 0 = .ok (.aload_n 0, 1) := by decide +kernel
theorem dX5_init_1 : decode cX5_init 1 = .ok (.invokespecial 3, 3) := by decide +kernel
theorem dX5_init_4 : decode cX5_init 4 = .ok (.aload_n 0, 1) := by decide +kernel
theorem dX5_init_5 : decode cX5_init 5 = .ok (.iconst 4, 1) := by decide +kernel
theorem dX5_init_6 : decode cX5_init 6 = .ok (.newarray .int, 2) := by decide +kernel
theorem dX5_init_8 : decode cX5_init 8 = .ok (.putfield 9, 3) := by decide +kernel
theorem dX5_init_11 : decode cX5_init 11 = .ok (.aload_n 0, 1) := by decide +kernel
theorem dX5_init_12 : decode cX5_init 12 = .ok (.iconst 4, 1) := by decide +kernel
theorem dX5_init_13 : decode cX5_init 13 = .ok (.newarray .int, 2) := by decide +kernel
theorem dX5_init_15 : decode cX5_init 15 = .ok (.putfield 15, 3) := by decide +kernel
theorem dX5_init_18 : decode cX5_init 18 = .ok (.aload_n 0, 1) := by decide +kernel
theorem dX5_init_19 : decode cX5_init 19 = .ok (.aload_n 1, 1) := by decide +kernel
theorem dX5_init_20 : decode cX5_init 20 = .ok (.putfield 18, 3) := by decide +kernel
theorem dX5_init_23 : decode cX5_init 23 = .ok (.return_, 1) := by decide +kernel
set_option maxRecDepth 20000 in
theorem gwX5_dropJobs : wsX5_dropJobs.all goodWord = true := by decide +kernel
set_option maxRecDepth 20000 in
theorem ggX5_beginAnew_X5_dropJobs : GoodIn wsX5_beginAnew wsX5_dropJobs := goodIn_r _ [11, 12, 13, 14, 15, 16, 17, 18, 19, 20, 21, 22, 23, 24, 25, 26, 27, 28, 29] rfl gwX5_dropJobs
set_option maxRecDepth 20000 in
theorem gX5_beginAnew_X5_dropJobs : GoodIn wsX5_beginAnew (wsV RX5 38 RX5 yX5_dropJobs wsX5_dropJobs) := goodIn_app (goodIn_r _ [7, 8, 9, 10] rfl (by decide +kernel)) ggX5_beginAnew_X5_dropJobs
theorem dX5_beginAnew_0 : decode cX5_beginAnew 0 = .ok (.aload_n 0, 1) := by decide +kernel
theorem dX5_beginAnew_1 : decode cX5_beginAnew 1 = .ok (.aload_n 1, 1) := by decide +kernel
theorem dX5_beginAnew_2 : decode cX5_beginAnew 2 = .ok (.putfield 18, 3) := by decide +kernel
theorem dX5_beginAnew_5 : decode cX5_beginAnew 5 = .ok (.aload_n 0, 1) := by decide +kernel
theorem dX5_beginAnew_6 : decode cX5_beginAnew 6 = .ok (.iload_n 2, 1) := by decide +kernel
theorem dX5_beginAnew_7 : decode cX5_beginAnew 7 = .ok (.putfield 22, 3) := by decide +kernel
theorem dX5_beginAnew_10 : decode cX5_beginAnew 10 = .ok (.aload_n 0, 1) := by decide +kernel
theorem dX5_beginAnew_11 : decode cX5_beginAnew 11 = .ok (.iconst 0, 1) := by decide +kernel
theorem dX5_beginAnew_12 : decode cX5_beginAnew 12 = .ok (.putfield 26, 3) := by decide +kernel
theorem dX5_beginAnew_15 : decode cX5_beginAnew 15 = .ok (.aload_n 0, 1) := by decide +kernel
theorem dX5_beginAnew_16 : decode cX5_beginAnew 16 = .ok (.iconst 0, 1) := by decide +kernel
theorem dX5_beginAnew_17 : decode cX5_beginAnew 17 = .ok (.putfield 29, 3) := by decide +kernel
theorem dX5_beginAnew_20 : decode cX5_beginAnew 20 = .ok (.aload_n 0, 1) := by decide +kernel
theorem dX5_beginAnew_21 : decode cX5_beginAnew 21 = .ok (.iconst 0, 1) := by decide +kernel
theorem dX5_beginAnew_22 : decode cX5_beginAnew 22 = .ok (.putfield 32, 3) := by decide +kernel
theorem dX5_beginAnew_25 : decode cX5_beginAnew 25 = .ok (.aload_n 0, 1) := by decide +kernel
theorem dX5_beginAnew_26 : decode cX5_beginAnew 26 = .ok (.iconst 0, 1) := by decide +kernel
theorem dX5_beginAnew_27 : decode cX5_beginAnew 27 = .ok (.putfield 35, 3) := by decide +kernel
theorem dX5_beginAnew_30 : decode cX5_beginAnew 30 = .ok (.aload_n 0, 1) := by decide +kernel
theorem dX5_beginAnew_31 : decode cX5_beginAnew 31 = .ok (.invokevirtual 38, 3) := by decide +kernel
theorem dX5_beginAnew_34 : decode cX5_beginAnew 34 = .ok (.return_, 1) := by decide +kernel
set_option maxRecDepth 20000 in
theorem gwX11_partOf : wsX11_partOf.all goodWord = true := by decide +kernel
set_option maxRecDepth 20000 in
theorem ggX5_setBudget_X11_partOf : GoodIn wsX5_setBudget wsX11_partOf := goodIn_r _ [6] rfl gwX11_partOf
set_option maxRecDepth 20000 in
theorem gX5_setBudget_X11_partOf_n47 : GoodIn wsX5_setBudget (wsX11_partOf) := ggX5_setBudget_X11_partOf
theorem dX5_setBudget_0 : decode cX5_setBudget 0 = .ok (.aload_n 0, 1) := by decide +kernel
theorem dX5_setBudget_1 : decode cX5_setBudget 1 = .ok (.iload_n 1, 1) := by decide +kernel
theorem dX5_setBudget_2 : decode cX5_setBudget 2 = .ok (.putfield 41, 3) := by decide +kernel
theorem dX5_setBudget_5 : decode cX5_setBudget 5 = .ok (.aload_n 0, 1) := by decide +kernel
theorem dX5_setBudget_6 : decode cX5_setBudget 6 = .ok (.iload_n 2, 1) := by decide +kernel
theorem dX5_setBudget_7 : decode cX5_setBudget 7 = .ok (.putfield 44, 3) := by decide +kernel
theorem dX5_setBudget_10 : decode cX5_setBudget 10 = .ok (.aload_n 0, 1) := by decide +kernel
theorem dX5_setBudget_11 : decode cX5_setBudget 11 = .ok (.iload_n 1, 1) := by decide +kernel
theorem dX5_setBudget_12 : decode cX5_setBudget 12 = .ok (.iload_n 2, 1) := by decide +kernel
theorem dX5_setBudget_13 : decode cX5_setBudget 13 = .ok (.invokestatic 47, 3) := by decide +kernel
theorem dX5_setBudget_16 : decode cX5_setBudget 16 = .ok (.putfield 51, 3) := by decide +kernel
theorem dX5_setBudget_19 : decode cX5_setBudget 19 = .ok (.return_, 1) := by decide +kernel
theorem dX5_becomes_0 : decode cX5_becomes 0 = .ok (.aload_n 0, 1) := by decide +kernel
theorem dX5_becomes_1 : decode cX5_becomes 1 = .ok (.aload_n 1, 1) := by decide +kernel
theorem dX5_becomes_2 : decode cX5_becomes 2 = .ok (.getfield 18, 3) := by decide +kernel
theorem dX5_becomes_5 : decode cX5_becomes 5 = .ok (.putfield 18, 3) := by decide +kernel
theorem dX5_becomes_8 : decode cX5_becomes 8 = .ok (.aload_n 0, 1) := by decide +kernel
theorem dX5_becomes_9 : decode cX5_becomes 9 = .ok (.aload_n 1, 1) := by decide +kernel
theorem dX5_becomes_10 : decode cX5_becomes 10 = .ok (.getfield 22, 3) := by decide +kernel
theorem dX5_becomes_13 : decode cX5_becomes 13 = .ok (.putfield 22, 3) := by decide +kernel
theorem dX5_becomes_16 : decode cX5_becomes 16 = .ok (.aload_n 0, 1) := by decide +kernel
theorem dX5_becomes_17 : decode cX5_becomes 17 = .ok (.aload_n 1, 1) := by decide +kernel
theorem dX5_becomes_18 : decode cX5_becomes 18 = .ok (.getfield 41, 3) := by decide +kernel
theorem dX5_becomes_21 : decode cX5_becomes 21 = .ok (.putfield 41, 3) := by decide +kernel
theorem dX5_becomes_24 : decode cX5_becomes 24 = .ok (.aload_n 0, 1) := by decide +kernel
theorem dX5_becomes_25 : decode cX5_becomes 25 = .ok (.aload_n 1, 1) := by decide +kernel
theorem dX5_becomes_26 : decode cX5_becomes 26 = .ok (.getfield 44, 3) := by decide +kernel
theorem dX5_becomes_29 : decode cX5_becomes 29 = .ok (.putfield 44, 3) := by decide +kernel
theorem dX5_becomes_32 : decode cX5_becomes 32 = .ok (.aload_n 0, 1) := by decide +kernel
theorem dX5_becomes_33 : decode cX5_becomes 33 = .ok (.aload_n 1, 1) := by decide +kernel
theorem dX5_becomes_34 : decode cX5_becomes 34 = .ok (.getfield 51, 3) := by decide +kernel
theorem dX5_becomes_37 : decode cX5_becomes 37 = .ok (.putfield 51, 3) := by decide +kernel
theorem dX5_becomes_40 : decode cX5_becomes 40 = .ok (.aload_n 0, 1) := by decide +kernel
theorem dX5_becomes_41 : decode cX5_becomes 41 = .ok (.aload_n 1, 1) := by decide +kernel
theorem dX5_becomes_42 : decode cX5_becomes 42 = .ok (.getfield 26, 3) := by decide +kernel
theorem dX5_becomes_45 : decode cX5_becomes 45 = .ok (.putfield 26, 3) := by decide +kernel
theorem dX5_becomes_48 : decode cX5_becomes 48 = .ok (.aload_n 0, 1) := by decide +kernel
theorem dX5_becomes_49 : decode cX5_becomes 49 = .ok (.aload_n 1, 1) := by decide +kernel
theorem dX5_becomes_50 : decode cX5_becomes 50 = .ok (.getfield 29, 3) := by decide +kernel
theorem dX5_becomes_53 : decode cX5_becomes 53 = .ok (.putfield 29, 3) := by decide +kernel
theorem dX5_becomes_56 : decode cX5_becomes 56 = .ok (.aload_n 0, 1) := by decide +kernel
theorem dX5_becomes_57 : decode cX5_becomes 57 = .ok (.aload_n 1, 1) := by decide +kernel
theorem dX5_becomes_58 : decode cX5_becomes 58 = .ok (.getfield 54, 3) := by decide +kernel
theorem dX5_becomes_61 : decode cX5_becomes 61 = .ok (.putfield 54, 3) := by decide +kernel
theorem dX5_becomes_64 : decode cX5_becomes 64 = .ok (.aload_n 0, 1) := by decide +kernel
theorem dX5_becomes_65 : decode cX5_becomes 65 = .ok (.aload_n 1, 1) := by decide +kernel
theorem dX5_becomes_66 : decode cX5_becomes 66 = .ok (.getfield 32, 3) := by decide +kernel
theorem dX5_becomes_69 : decode cX5_becomes 69 = .ok (.putfield 32, 3) := by decide +kernel
theorem dX5_becomes_72 : decode cX5_becomes 72 = .ok (.aload_n 0, 1) := by decide +kernel
theorem dX5_becomes_73 : decode cX5_becomes 73 = .ok (.aload_n 1, 1) := by decide +kernel
theorem dX5_becomes_74 : decode cX5_becomes 74 = .ok (.getfield 35, 3) := by decide +kernel
theorem dX5_becomes_77 : decode cX5_becomes 77 = .ok (.putfield 35, 3) := by decide +kernel
theorem dX5_becomes_80 : decode cX5_becomes 80 = .ok (.aload_n 0, 1) := by decide +kernel
theorem dX5_becomes_81 : decode cX5_becomes 81 = .ok (.aload_n 1, 1) := by decide +kernel
theorem dX5_becomes_82 : decode cX5_becomes 82 = .ok (.getfield 57, 3) := by decide +kernel
theorem dX5_becomes_85 : decode cX5_becomes 85 = .ok (.putfield 57, 3) := by decide +kernel
theorem dX5_becomes_88 : decode cX5_becomes 88 = .ok (.iconst 0, 1) := by decide +kernel
theorem dX5_becomes_89 : decode cX5_becomes 89 = .ok (.istore_n 2, 1) := by decide +kernel
theorem dX5_becomes_90 : decode cX5_becomes 90 = .ok (.iload_n 2, 1) := by decide +kernel
theorem dX5_becomes_91 : decode cX5_becomes 91 = .ok (.aload_n 1, 1) := by decide +kernel
theorem dX5_becomes_92 : decode cX5_becomes 92 = .ok (.getfield 57, 3) := by decide +kernel
theorem dX5_becomes_95 : decode cX5_becomes 95 = .ok (.if_icmp .ge 33, 3) := by decide +kernel
theorem dX5_becomes_98 : decode cX5_becomes 98 = .ok (.aload_n 0, 1) := by decide +kernel
theorem dX5_becomes_99 : decode cX5_becomes 99 = .ok (.getfield 9, 3) := by decide +kernel
theorem dX5_becomes_102 : decode cX5_becomes 102 = .ok (.iload_n 2, 1) := by decide +kernel
theorem dX5_becomes_103 : decode cX5_becomes 103 = .ok (.aload_n 1, 1) := by decide +kernel
theorem dX5_becomes_104 : decode cX5_becomes 104 = .ok (.getfield 9, 3) := by decide +kernel
theorem dX5_becomes_107 : decode cX5_becomes 107 = .ok (.iload_n 2, 1) := by decide +kernel
theorem dX5_becomes_108 : decode cX5_becomes 108 = .ok (.iaload, 1) := by decide +kernel
theorem dX5_becomes_109 : decode cX5_becomes 109 = .ok (.iastore, 1) := by decide +kernel
theorem dX5_becomes_110 : decode cX5_becomes 110 = .ok (.aload_n 0, 1) := by decide +kernel
theorem dX5_becomes_111 : decode cX5_becomes 111 = .ok (.getfield 15, 3) := by decide +kernel
theorem dX5_becomes_114 : decode cX5_becomes 114 = .ok (.iload_n 2, 1) := by decide +kernel
theorem dX5_becomes_115 : decode cX5_becomes 115 = .ok (.aload_n 1, 1) := by decide +kernel
theorem dX5_becomes_116 : decode cX5_becomes 116 = .ok (.getfield 15, 3) := by decide +kernel
theorem dX5_becomes_119 : decode cX5_becomes 119 = .ok (.iload_n 2, 1) := by decide +kernel
theorem dX5_becomes_120 : decode cX5_becomes 120 = .ok (.iaload, 1) := by decide +kernel
theorem dX5_becomes_121 : decode cX5_becomes 121 = .ok (.iastore, 1) := by decide +kernel
theorem dX5_becomes_122 : decode cX5_becomes 122 = .ok (.iinc 2 1, 3) := by decide +kernel
theorem dX5_becomes_125 : decode cX5_becomes 125 = .ok (.goto (-35), 3) := by decide +kernel
theorem dX5_becomes_128 : decode cX5_becomes 128 = .ok (.aload_n 0, 1) := by decide +kernel
theorem dX5_becomes_129 : decode cX5_becomes 129 = .ok (.aload_n 1, 1) := by decide +kernel
theorem dX5_becomes_130 : decode cX5_becomes 130 = .ok (.getfield 60, 3) := by decide +kernel
theorem dX5_becomes_133 : decode cX5_becomes 133 = .ok (.putfield 60, 3) := by decide +kernel
theorem dX5_becomes_136 : decode cX5_becomes 136 = .ok (.aload_n 0, 1) := by decide +kernel
theorem dX5_becomes_137 : decode cX5_becomes 137 = .ok (.aload_n 1, 1) := by decide +kernel
theorem dX5_becomes_138 : decode cX5_becomes 138 = .ok (.getfield 64, 3) := by decide +kernel
theorem dX5_becomes_141 : decode cX5_becomes 141 = .ok (.putfield 64, 3) := by decide +kernel
theorem dX5_becomes_144 : decode cX5_becomes 144 = .ok (.return_, 1) := by decide +kernel
theorem dX5_isFull_0 : decode cX5_isFull 0 = .ok (.aload_n 0, 1) := by decide +kernel
theorem dX5_isFull_1 : decode cX5_isFull 1 = .ok (.getfield 57, 3) := by decide +kernel
theorem dX5_isFull_4 : decode cX5_isFull 4 = .ok (.iconst 4, 1) := by decide +kernel
theorem dX5_isFull_5 : decode cX5_isFull 5 = .ok (.if_icmp .lt 7, 3) := by decide +kernel
theorem dX5_isFull_8 : decode cX5_isFull 8 = .ok (.iconst 1, 1) := by decide +kernel
theorem dX5_isFull_9 : decode cX5_isFull 9 = .ok (.goto 4, 3) := by decide +kernel
theorem dX5_isFull_12 : decode cX5_isFull 12 = .ok (.iconst 0, 1) := by decide +kernel
theorem dX5_isFull_13 : decode cX5_isFull 13 = .ok (.ireturn, 1) := by decide +kernel
theorem dX5_workOfAll_0 : decode cX5_workOfAll 0 = .ok (.iconst 0, 1) := by decide +kernel
theorem dX5_workOfAll_1 : decode cX5_workOfAll 1 = .ok (.istore_n 1, 1) := by decide +kernel
theorem dX5_workOfAll_2 : decode cX5_workOfAll 2 = .ok (.iconst 0, 1) := by decide +kernel
theorem dX5_workOfAll_3 : decode cX5_workOfAll 3 = .ok (.istore_n 2, 1) := by decide +kernel
theorem dX5_workOfAll_4 : decode cX5_workOfAll 4 = .ok (.iload_n 2, 1) := by decide +kernel
theorem dX5_workOfAll_5 : decode cX5_workOfAll 5 = .ok (.aload_n 0, 1) := by decide +kernel
theorem dX5_workOfAll_6 : decode cX5_workOfAll 6 = .ok (.getfield 57, 3) := by decide +kernel
theorem dX5_workOfAll_9 : decode cX5_workOfAll 9 = .ok (.if_icmp .ge 18, 3) := by decide +kernel
theorem dX5_workOfAll_12 : decode cX5_workOfAll 12 = .ok (.iload_n 1, 1) := by decide +kernel
theorem dX5_workOfAll_13 : decode cX5_workOfAll 13 = .ok (.aload_n 0, 1) := by decide +kernel
theorem dX5_workOfAll_14 : decode cX5_workOfAll 14 = .ok (.getfield 9, 3) := by decide +kernel
theorem dX5_workOfAll_17 : decode cX5_workOfAll 17 = .ok (.iload_n 2, 1) := by decide +kernel
theorem dX5_workOfAll_18 : decode cX5_workOfAll 18 = .ok (.iaload, 1) := by decide +kernel
theorem dX5_workOfAll_19 : decode cX5_workOfAll 19 = .ok (.iadd, 1) := by decide +kernel
theorem dX5_workOfAll_20 : decode cX5_workOfAll 20 = .ok (.istore_n 1, 1) := by decide +kernel
theorem dX5_workOfAll_21 : decode cX5_workOfAll 21 = .ok (.iinc 2 1, 3) := by decide +kernel
theorem dX5_workOfAll_24 : decode cX5_workOfAll 24 = .ok (.goto (-20), 3) := by decide +kernel
theorem dX5_workOfAll_27 : decode cX5_workOfAll 27 = .ok (.iload_n 1, 1) := by decide +kernel
theorem dX5_workOfAll_28 : decode cX5_workOfAll 28 = .ok (.ireturn, 1) := by decide +kernel
theorem dX5_holdsLock_0 : decode cX5_holdsLock 0 = .ok (.aload_n 0, 1) := by decide +kernel
theorem dX5_holdsLock_1 : decode cX5_holdsLock 1 = .ok (.getfield 57, 3) := by decide +kernel
theorem dX5_holdsLock_4 : decode cX5_holdsLock 4 = .ok (.ifCond .le 24, 3) := by decide +kernel
theorem dX5_holdsLock_7 : decode cX5_holdsLock 7 = .ok (.aload_n 0, 1) := by decide +kernel
theorem dX5_holdsLock_8 : decode cX5_holdsLock 8 = .ok (.getfield 60, 3) := by decide +kernel
theorem dX5_holdsLock_11 : decode cX5_holdsLock 11 = .ok (.ifCond .eq 17, 3) := by decide +kernel
theorem dX5_holdsLock_14 : decode cX5_holdsLock 14 = .ok (.aload_n 0, 1) := by decide +kernel
theorem dX5_holdsLock_15 : decode cX5_holdsLock 15 = .ok (.getfield 15, 3) := by decide +kernel
theorem dX5_holdsLock_18 : decode cX5_holdsLock 18 = .ok (.iconst 0, 1) := by decide +kernel
theorem dX5_holdsLock_19 : decode cX5_holdsLock 19 = .ok (.iaload, 1) := by decide +kernel
theorem dX5_holdsLock_20 : decode cX5_holdsLock 20 = .ok (.iload_n 1, 1) := by decide +kernel
theorem dX5_holdsLock_21 : decode cX5_holdsLock 21 = .ok (.if_icmp .ne 7, 3) := by decide +kernel
theorem dX5_holdsLock_24 : decode cX5_holdsLock 24 = .ok (.iconst 1, 1) := by decide +kernel
theorem dX5_holdsLock_25 : decode cX5_holdsLock 25 = .ok (.goto 4, 3) := by decide +kernel
theorem dX5_holdsLock_28 : decode cX5_holdsLock 28 = .ok (.iconst 0, 1) := by decide +kernel
theorem dX5_holdsLock_29 : decode cX5_holdsLock 29 = .ok (.ireturn, 1) := by decide +kernel
theorem dX5_hasEarned_0 : decode cX5_hasEarned 0 = .ok (.aload_n 0, 1) := by decide +kernel
theorem dX5_hasEarned_1 : decode cX5_hasEarned 1 = .ok (.getfield 26, 3) := by decide +kernel
theorem dX5_hasEarned_4 : decode cX5_hasEarned 4 = .ok (.aload_n 0, 1) := by decide +kernel
theorem dX5_hasEarned_5 : decode cX5_hasEarned 5 = .ok (.getfield 44, 3) := by decide +kernel
theorem dX5_hasEarned_8 : decode cX5_hasEarned 8 = .ok (.imul, 1) := by decide +kernel
theorem dX5_hasEarned_9 : decode cX5_hasEarned 9 = .ok (.bipush 60, 2) := by decide +kernel
theorem dX5_hasEarned_11 : decode cX5_hasEarned 11 = .ok (.aload_n 0, 1) := by decide +kernel
theorem dX5_hasEarned_12 : decode cX5_hasEarned 12 = .ok (.getfield 41, 3) := by decide +kernel
theorem dX5_hasEarned_15 : decode cX5_hasEarned 15 = .ok (.imul, 1) := by decide +kernel
theorem dX5_hasEarned_16 : decode cX5_hasEarned 16 = .ok (.aload_n 0, 1) := by decide +kernel
theorem dX5_hasEarned_17 : decode cX5_hasEarned 17 = .ok (.getfield 29, 3) := by decide +kernel
theorem dX5_hasEarned_20 : decode cX5_hasEarned 20 = .ok (.iload_n 1, 1) := by decide +kernel
theorem dX5_hasEarned_21 : decode cX5_hasEarned 21 = .ok (.isub, 1) := by decide +kernel
theorem dX5_hasEarned_22 : decode cX5_hasEarned 22 = .ok (.imul, 1) := by decide +kernel
theorem dX5_hasEarned_23 : decode cX5_hasEarned 23 = .ok (.if_icmp .lt 7, 3) := by decide +kernel
theorem dX5_hasEarned_26 : decode cX5_hasEarned 26 = .ok (.iconst 1, 1) := by decide +kernel
theorem dX5_hasEarned_27 : decode cX5_hasEarned 27 = .ok (.goto 4, 3) := by decide +kernel
theorem dX5_hasEarned_30 : decode cX5_hasEarned 30 = .ok (.iconst 0, 1) := by decide +kernel
theorem dX5_hasEarned_31 : decode cX5_hasEarned 31 = .ok (.ireturn, 1) := by decide +kernel
set_option maxRecDepth 20000 in
theorem ggX5_takeJob_X5_isFull : GoodIn wsX5_takeJob wsX5_isFull := goodIn_r _ [14, 2, 19, 20, 21, 22, 23, 24, 25, 26, 27, 28, 29, 30, 31, 32, 33] rfl gwX5_isFull
set_option maxRecDepth 20000 in
theorem gX5_takeJob_X5_isFull : GoodIn wsX5_takeJob (wsV RX5 67 RX5 yX5_isFull wsX5_isFull) := goodIn_app (goodIn_r _ [10, 11, 12, 13] rfl (by decide +kernel)) ggX5_takeJob_X5_isFull
set_option maxRecDepth 20000 in
theorem ggX5_takeJob_X5_hasEarned : GoodIn wsX5_takeJob wsX5_hasEarned := goodIn_r _ [18, 5, 7, 6, 8, 19, 20, 21, 22, 23, 24, 25, 26, 27, 28, 29, 30, 31, 32, 33] rfl gwX5_hasEarned
set_option maxRecDepth 20000 in
theorem gX5_takeJob_X5_hasEarned : GoodIn wsX5_takeJob (wsV RX5 71 RX5 yX5_hasEarned wsX5_hasEarned) := goodIn_app (goodIn_r _ [15, 16, 17, 13] rfl (by decide +kernel)) ggX5_takeJob_X5_hasEarned
theorem dX5_takeJob_0 : decode cX5_takeJob 0 = .ok (.aload_n 0, 1) := by decide +kernel
theorem dX5_takeJob_1 : decode cX5_takeJob 1 = .ok (.invokevirtual 67, 3) := by decide +kernel
theorem dX5_takeJob_4 : decode cX5_takeJob 4 = .ok (.ifCond .eq 4, 3) := by decide +kernel
theorem dX5_takeJob_7 : decode cX5_takeJob 7 = .ok (.return_, 1) := by decide +kernel
theorem dX5_takeJob_8 : decode cX5_takeJob 8 = .ok (.aload_n 0, 1) := by decide +kernel
theorem dX5_takeJob_9 : decode cX5_takeJob 9 = .ok (.getfield 9, 3) := by decide +kernel
theorem dX5_takeJob_12 : decode cX5_takeJob 12 = .ok (.aload_n 0, 1) := by decide +kernel
theorem dX5_takeJob_13 : decode cX5_takeJob 13 = .ok (.getfield 57, 3) := by decide +kernel
theorem dX5_takeJob_16 : decode cX5_takeJob 16 = .ok (.iload_n 1, 1) := by decide +kernel
theorem dX5_takeJob_17 : decode cX5_takeJob 17 = .ok (.iastore, 1) := by decide +kernel
theorem dX5_takeJob_18 : decode cX5_takeJob 18 = .ok (.aload_n 0, 1) := by decide +kernel
theorem dX5_takeJob_19 : decode cX5_takeJob 19 = .ok (.getfield 15, 3) := by decide +kernel
theorem dX5_takeJob_22 : decode cX5_takeJob 22 = .ok (.aload_n 0, 1) := by decide +kernel
theorem dX5_takeJob_23 : decode cX5_takeJob 23 = .ok (.getfield 57, 3) := by decide +kernel
theorem dX5_takeJob_26 : decode cX5_takeJob 26 = .ok (.iload_n 2, 1) := by decide +kernel
theorem dX5_takeJob_27 : decode cX5_takeJob 27 = .ok (.iastore, 1) := by decide +kernel
theorem dX5_takeJob_28 : decode cX5_takeJob 28 = .ok (.aload_n 0, 1) := by decide +kernel
theorem dX5_takeJob_29 : decode cX5_takeJob 29 = .ok (.dup, 1) := by decide +kernel
theorem dX5_takeJob_30 : decode cX5_takeJob 30 = .ok (.getfield 57, 3) := by decide +kernel
theorem dX5_takeJob_33 : decode cX5_takeJob 33 = .ok (.iconst 1, 1) := by decide +kernel
theorem dX5_takeJob_34 : decode cX5_takeJob 34 = .ok (.iadd, 1) := by decide +kernel
theorem dX5_takeJob_35 : decode cX5_takeJob 35 = .ok (.putfield 57, 3) := by decide +kernel
theorem dX5_takeJob_38 : decode cX5_takeJob 38 = .ok (.aload_n 0, 1) := by decide +kernel
theorem dX5_takeJob_39 : decode cX5_takeJob 39 = .ok (.getfield 54, 3) := by decide +kernel
theorem dX5_takeJob_42 : decode cX5_takeJob 42 = .ok (.ifCond .eq 12, 3) := by decide +kernel
theorem dX5_takeJob_45 : decode cX5_takeJob 45 = .ok (.aload_n 0, 1) := by decide +kernel
theorem dX5_takeJob_46 : decode cX5_takeJob 46 = .ok (.getfield 54, 3) := by decide +kernel
theorem dX5_takeJob_49 : decode cX5_takeJob 49 = .ok (.iconst 3, 1) := by decide +kernel
theorem dX5_takeJob_50 : decode cX5_takeJob 50 = .ok (.if_icmp .eq 4, 3) := by decide +kernel
theorem dX5_takeJob_53 : decode cX5_takeJob 53 = .ok (.return_, 1) := by decide +kernel
theorem dX5_takeJob_54 : decode cX5_takeJob 54 = .ok (.aload_n 0, 1) := by decide +kernel
theorem dX5_takeJob_55 : decode cX5_takeJob 55 = .ok (.getfield 54, 3) := by decide +kernel
theorem dX5_takeJob_58 : decode cX5_takeJob 58 = .ok (.ifCond .eq 18, 3) := by decide +kernel
theorem dX5_takeJob_61 : decode cX5_takeJob 61 = .ok (.aload_n 0, 1) := by decide +kernel
theorem dX5_takeJob_62 : decode cX5_takeJob 62 = .ok (.getfield 26, 3) := by decide +kernel
theorem dX5_takeJob_65 : decode cX5_takeJob 65 = .ok (.ifCond .le 11, 3) := by decide +kernel
theorem dX5_takeJob_68 : decode cX5_takeJob 68 = .ok (.aload_n 0, 1) := by decide +kernel
theorem dX5_takeJob_69 : decode cX5_takeJob 69 = .ok (.iload_n 3, 1) := by decide +kernel
theorem dX5_takeJob_70 : decode cX5_takeJob 70 = .ok (.invokevirtual 71, 3) := by decide +kernel
theorem dX5_takeJob_73 : decode cX5_takeJob 73 = .ok (.ifCond .eq 24, 3) := by decide +kernel
theorem dX5_takeJob_76 : decode cX5_takeJob 76 = .ok (.aload_n 0, 1) := by decide +kernel
theorem dX5_takeJob_77 : decode cX5_takeJob 77 = .ok (.bipush 60, 2) := by decide +kernel
theorem dX5_takeJob_79 : decode cX5_takeJob 79 = .ok (.aload_n 0, 1) := by decide +kernel
theorem dX5_takeJob_80 : decode cX5_takeJob 80 = .ok (.getfield 41, 3) := by decide +kernel
theorem dX5_takeJob_83 : decode cX5_takeJob 83 = .ok (.imul, 1) := by decide +kernel
theorem dX5_takeJob_84 : decode cX5_takeJob 84 = .ok (.putfield 26, 3) := by decide +kernel
theorem dX5_takeJob_87 : decode cX5_takeJob 87 = .ok (.aload_n 0, 1) := by decide +kernel
theorem dX5_takeJob_88 : decode cX5_takeJob 88 = .ok (.iload_n 3, 1) := by decide +kernel
theorem dX5_takeJob_89 : decode cX5_takeJob 89 = .ok (.aload_n 0, 1) := by decide +kernel
theorem dX5_takeJob_90 : decode cX5_takeJob 90 = .ok (.getfield 44, 3) := by decide +kernel
theorem dX5_takeJob_93 : decode cX5_takeJob 93 = .ok (.iadd, 1) := by decide +kernel
theorem dX5_takeJob_94 : decode cX5_takeJob 94 = .ok (.putfield 29, 3) := by decide +kernel
theorem dX5_takeJob_97 : decode cX5_takeJob 97 = .ok (.aload_n 0, 1) := by decide +kernel
theorem dX5_takeJob_98 : decode cX5_takeJob 98 = .ok (.iconst 1, 1) := by decide +kernel
theorem dX5_takeJob_99 : decode cX5_takeJob 99 = .ok (.putfield 54, 3) := by decide +kernel
theorem dX5_takeJob_102 : decode cX5_takeJob 102 = .ok (.aload_n 0, 1) := by decide +kernel
theorem dX5_takeJob_103 : decode cX5_takeJob 103 = .ok (.aload_n 0, 1) := by decide +kernel
theorem dX5_takeJob_104 : decode cX5_takeJob 104 = .ok (.getfield 29, 3) := by decide +kernel
theorem dX5_takeJob_107 : decode cX5_takeJob 107 = .ok (.putfield 64, 3) := by decide +kernel
theorem dX5_takeJob_110 : decode cX5_takeJob 110 = .ok (.return_, 1) := by decide +kernel
theorem dX5_dropJobs_0 : decode cX5_dropJobs 0 = .ok (.aload_n 0, 1) := by decide +kernel
theorem dX5_dropJobs_1 : decode cX5_dropJobs 1 = .ok (.iconst 0, 1) := by decide +kernel
theorem dX5_dropJobs_2 : decode cX5_dropJobs 2 = .ok (.putfield 57, 3) := by decide +kernel
theorem dX5_dropJobs_5 : decode cX5_dropJobs 5 = .ok (.aload_n 0, 1) := by decide +kernel
theorem dX5_dropJobs_6 : decode cX5_dropJobs 6 = .ok (.iconst 0, 1) := by decide +kernel
theorem dX5_dropJobs_7 : decode cX5_dropJobs 7 = .ok (.putfield 60, 3) := by decide +kernel
theorem dX5_dropJobs_10 : decode cX5_dropJobs 10 = .ok (.aload_n 0, 1) := by decide +kernel
theorem dX5_dropJobs_11 : decode cX5_dropJobs 11 = .ok (.iconst 0, 1) := by decide +kernel
theorem dX5_dropJobs_12 : decode cX5_dropJobs 12 = .ok (.putfield 54, 3) := by decide +kernel
theorem dX5_dropJobs_15 : decode cX5_dropJobs 15 = .ok (.return_, 1) := by decide +kernel
set_option maxRecDepth 20000 in
theorem gwX5_endJobNow : wsX5_endJobNow.all goodWord = true := by decide +kernel
set_option maxRecDepth 20000 in
theorem ggX5_runJobNow_X5_endJobNow : GoodIn wsX5_runJobNow wsX5_endJobNow := goodIn_r _ [11, 12, 1, 2, 3, 4, 13, 5, 14, 15, 16, 17, 18, 19, 20, 21, 22, 23, 24, 25, 26, 27, 28, 29] rfl gwX5_endJobNow
set_option maxRecDepth 20000 in
theorem gX5_runJobNow_X5_endJobNow : GoodIn wsX5_runJobNow (wsV RX5 75 RX5 yX5_endJobNow wsX5_endJobNow) := goodIn_app (goodIn_r _ [7, 8, 9, 10] rfl (by decide +kernel)) ggX5_runJobNow_X5_endJobNow
theorem dX5_runJobNow_0 : decode cX5_runJobNow 0 = .ok (.aload_n 0, 1) := by decide +kernel
theorem dX5_runJobNow_1 : decode cX5_runJobNow 1 = .ok (.getfield 57, 3) := by decide +kernel
theorem dX5_runJobNow_4 : decode cX5_runJobNow 4 = .ok (.ifCond .ne 4, 3) := by decide +kernel
theorem dX5_runJobNow_7 : decode cX5_runJobNow 7 = .ok (.return_, 1) := by decide +kernel
theorem dX5_runJobNow_8 : decode cX5_runJobNow 8 = .ok (.aload_n 0, 1) := by decide +kernel
theorem dX5_runJobNow_9 : decode cX5_runJobNow 9 = .ok (.getfield 9, 3) := by decide +kernel
theorem dX5_runJobNow_12 : decode cX5_runJobNow 12 = .ok (.iconst 0, 1) := by decide +kernel
theorem dX5_runJobNow_13 : decode cX5_runJobNow 13 = .ok (.dup2, 1) := by decide +kernel
theorem dX5_runJobNow_14 : decode cX5_runJobNow 14 = .ok (.iaload, 1) := by decide +kernel
theorem dX5_runJobNow_15 : decode cX5_runJobNow 15 = .ok (.iconst 1, 1) := by decide +kernel
theorem dX5_runJobNow_16 : decode cX5_runJobNow 16 = .ok (.isub, 1) := by decide +kernel
theorem dX5_runJobNow_17 : decode cX5_runJobNow 17 = .ok (.iastore, 1) := by decide +kernel
theorem dX5_runJobNow_18 : decode cX5_runJobNow 18 = .ok (.aload_n 0, 1) := by decide +kernel
theorem dX5_runJobNow_19 : decode cX5_runJobNow 19 = .ok (.aload_n 0, 1) := by decide +kernel
theorem dX5_runJobNow_20 : decode cX5_runJobNow 20 = .ok (.getfield 15, 3) := by decide +kernel
theorem dX5_runJobNow_23 : decode cX5_runJobNow 23 = .ok (.iconst 0, 1) := by decide +kernel
theorem dX5_runJobNow_24 : decode cX5_runJobNow 24 = .ok (.iaload, 1) := by decide +kernel
theorem dX5_runJobNow_25 : decode cX5_runJobNow 25 = .ok (.iconst 3, 1) := by decide +kernel
theorem dX5_runJobNow_26 : decode cX5_runJobNow 26 = .ok (.if_icmp .eq 7, 3) := by decide +kernel
theorem dX5_runJobNow_29 : decode cX5_runJobNow 29 = .ok (.iconst 1, 1) := by decide +kernel
theorem dX5_runJobNow_30 : decode cX5_runJobNow 30 = .ok (.goto 4, 3) := by decide +kernel
theorem dX5_runJobNow_33 : decode cX5_runJobNow 33 = .ok (.iconst 0, 1) := by decide +kernel
theorem dX5_runJobNow_34 : decode cX5_runJobNow 34 = .ok (.putfield 60, 3) := by decide +kernel
theorem dX5_runJobNow_37 : decode cX5_runJobNow 37 = .ok (.iload_n 1, 1) := by decide +kernel
theorem dX5_runJobNow_38 : decode cX5_runJobNow 38 = .ok (.aload_n 0, 1) := by decide +kernel
theorem dX5_runJobNow_39 : decode cX5_runJobNow 39 = .ok (.getfield 64, 3) := by decide +kernel
theorem dX5_runJobNow_42 : decode cX5_runJobNow 42 = .ok (.if_icmp .lt 23, 3) := by decide +kernel
theorem dX5_runJobNow_45 : decode cX5_runJobNow 45 = .ok (.aload_n 0, 1) := by decide +kernel
theorem dX5_runJobNow_46 : decode cX5_runJobNow 46 = .ok (.getfield 32, 3) := by decide +kernel
theorem dX5_runJobNow_49 : decode cX5_runJobNow 49 = .ok (.sipush 999, 3) := by decide +kernel
theorem dX5_runJobNow_52 : decode cX5_runJobNow 52 = .ok (.if_icmp .ge 13, 3) := by decide +kernel
theorem dX5_runJobNow_55 : decode cX5_runJobNow 55 = .ok (.aload_n 0, 1) := by decide +kernel
theorem dX5_runJobNow_56 : decode cX5_runJobNow 56 = .ok (.dup, 1) := by decide +kernel
theorem dX5_runJobNow_57 : decode cX5_runJobNow 57 = .ok (.getfield 32, 3) := by decide +kernel
theorem dX5_runJobNow_60 : decode cX5_runJobNow 60 = .ok (.iconst 1, 1) := by decide +kernel
theorem dX5_runJobNow_61 : decode cX5_runJobNow 61 = .ok (.iadd, 1) := by decide +kernel
theorem dX5_runJobNow_62 : decode cX5_runJobNow 62 = .ok (.putfield 32, 3) := by decide +kernel
theorem dX5_runJobNow_65 : decode cX5_runJobNow 65 = .ok (.aload_n 0, 1) := by decide +kernel
theorem dX5_runJobNow_66 : decode cX5_runJobNow 66 = .ok (.getfield 9, 3) := by decide +kernel
theorem dX5_runJobNow_69 : decode cX5_runJobNow 69 = .ok (.iconst 0, 1) := by decide +kernel
theorem dX5_runJobNow_70 : decode cX5_runJobNow 70 = .ok (.iaload, 1) := by decide +kernel
theorem dX5_runJobNow_71 : decode cX5_runJobNow 71 = .ok (.ifCond .gt 7, 3) := by decide +kernel
theorem dX5_runJobNow_74 : decode cX5_runJobNow 74 = .ok (.aload_n 0, 1) := by decide +kernel
theorem dX5_runJobNow_75 : decode cX5_runJobNow 75 = .ok (.invokevirtual 75, 3) := by decide +kernel
theorem dX5_runJobNow_78 : decode cX5_runJobNow 78 = .ok (.return_, 1) := by decide +kernel
theorem dX5_endJobNow_0 : decode cX5_endJobNow 0 = .ok (.aload_n 0, 1) := by decide +kernel
theorem dX5_endJobNow_1 : decode cX5_endJobNow 1 = .ok (.getfield 35, 3) := by decide +kernel
theorem dX5_endJobNow_4 : decode cX5_endJobNow 4 = .ok (.sipush 999, 3) := by decide +kernel
theorem dX5_endJobNow_7 : decode cX5_endJobNow 7 = .ok (.if_icmp .ge 13, 3) := by decide +kernel
theorem dX5_endJobNow_10 : decode cX5_endJobNow 10 = .ok (.aload_n 0, 1) := by decide +kernel
theorem dX5_endJobNow_11 : decode cX5_endJobNow 11 = .ok (.dup, 1) := by decide +kernel
theorem dX5_endJobNow_12 : decode cX5_endJobNow 12 = .ok (.getfield 35, 3) := by decide +kernel
theorem dX5_endJobNow_15 : decode cX5_endJobNow 15 = .ok (.iconst 1, 1) := by decide +kernel
theorem dX5_endJobNow_16 : decode cX5_endJobNow 16 = .ok (.iadd, 1) := by decide +kernel
theorem dX5_endJobNow_17 : decode cX5_endJobNow 17 = .ok (.putfield 35, 3) := by decide +kernel
theorem dX5_endJobNow_20 : decode cX5_endJobNow 20 = .ok (.aload_n 0, 1) := by decide +kernel
theorem dX5_endJobNow_21 : decode cX5_endJobNow 21 = .ok (.dup, 1) := by decide +kernel
theorem dX5_endJobNow_22 : decode cX5_endJobNow 22 = .ok (.getfield 57, 3) := by decide +kernel
theorem dX5_endJobNow_25 : decode cX5_endJobNow 25 = .ok (.iconst 1, 1) := by decide +kernel
theorem dX5_endJobNow_26 : decode cX5_endJobNow 26 = .ok (.isub, 1) := by decide +kernel
theorem dX5_endJobNow_27 : decode cX5_endJobNow 27 = .ok (.putfield 57, 3) := by decide +kernel
theorem dX5_endJobNow_30 : decode cX5_endJobNow 30 = .ok (.iconst 0, 1) := by decide +kernel
theorem dX5_endJobNow_31 : decode cX5_endJobNow 31 = .ok (.istore_n 1, 1) := by decide +kernel
theorem dX5_endJobNow_32 : decode cX5_endJobNow 32 = .ok (.iload_n 1, 1) := by decide +kernel
theorem dX5_endJobNow_33 : decode cX5_endJobNow 33 = .ok (.aload_n 0, 1) := by decide +kernel
theorem dX5_endJobNow_34 : decode cX5_endJobNow 34 = .ok (.getfield 57, 3) := by decide +kernel
theorem dX5_endJobNow_37 : decode cX5_endJobNow 37 = .ok (.if_icmp .ge 37, 3) := by decide +kernel
theorem dX5_endJobNow_40 : decode cX5_endJobNow 40 = .ok (.aload_n 0, 1) := by decide +kernel
theorem dX5_endJobNow_41 : decode cX5_endJobNow 41 = .ok (.getfield 9, 3) := by decide +kernel
theorem dX5_endJobNow_44 : decode cX5_endJobNow 44 = .ok (.iload_n 1, 1) := by decide +kernel
theorem dX5_endJobNow_45 : decode cX5_endJobNow 45 = .ok (.aload_n 0, 1) := by decide +kernel
theorem dX5_endJobNow_46 : decode cX5_endJobNow 46 = .ok (.getfield 9, 3) := by decide +kernel
theorem dX5_endJobNow_49 : decode cX5_endJobNow 49 = .ok (.iload_n 1, 1) := by decide +kernel
theorem dX5_endJobNow_50 : decode cX5_endJobNow 50 = .ok (.iconst 1, 1) := by decide +kernel
theorem dX5_endJobNow_51 : decode cX5_endJobNow 51 = .ok (.iadd, 1) := by decide +kernel
theorem dX5_endJobNow_52 : decode cX5_endJobNow 52 = .ok (.iaload, 1) := by decide +kernel
theorem dX5_endJobNow_53 : decode cX5_endJobNow 53 = .ok (.iastore, 1) := by decide +kernel
theorem dX5_endJobNow_54 : decode cX5_endJobNow 54 = .ok (.aload_n 0, 1) := by decide +kernel
theorem dX5_endJobNow_55 : decode cX5_endJobNow 55 = .ok (.getfield 15, 3) := by decide +kernel
theorem dX5_endJobNow_58 : decode cX5_endJobNow 58 = .ok (.iload_n 1, 1) := by decide +kernel
theorem dX5_endJobNow_59 : decode cX5_endJobNow 59 = .ok (.aload_n 0, 1) := by decide +kernel
theorem dX5_endJobNow_60 : decode cX5_endJobNow 60 = .ok (.getfield 15, 3) := by decide +kernel
theorem dX5_endJobNow_63 : decode cX5_endJobNow 63 = .ok (.iload_n 1, 1) := by decide +kernel
theorem dX5_endJobNow_64 : decode cX5_endJobNow 64 = .ok (.iconst 1, 1) := by decide +kernel
theorem dX5_endJobNow_65 : decode cX5_endJobNow 65 = .ok (.iadd, 1) := by decide +kernel
theorem dX5_endJobNow_66 : decode cX5_endJobNow 66 = .ok (.iaload, 1) := by decide +kernel
theorem dX5_endJobNow_67 : decode cX5_endJobNow 67 = .ok (.iastore, 1) := by decide +kernel
theorem dX5_endJobNow_68 : decode cX5_endJobNow 68 = .ok (.iinc 1 1, 3) := by decide +kernel
theorem dX5_endJobNow_71 : decode cX5_endJobNow 71 = .ok (.goto (-39), 3) := by decide +kernel
theorem dX5_endJobNow_74 : decode cX5_endJobNow 74 = .ok (.aload_n 0, 1) := by decide +kernel
theorem dX5_endJobNow_75 : decode cX5_endJobNow 75 = .ok (.iconst 0, 1) := by decide +kernel
theorem dX5_endJobNow_76 : decode cX5_endJobNow 76 = .ok (.putfield 60, 3) := by decide +kernel
theorem dX5_endJobNow_79 : decode cX5_endJobNow 79 = .ok (.aload_n 0, 1) := by decide +kernel
theorem dX5_endJobNow_80 : decode cX5_endJobNow 80 = .ok (.aload_n 0, 1) := by decide +kernel
theorem dX5_endJobNow_81 : decode cX5_endJobNow 81 = .ok (.getfield 29, 3) := by decide +kernel
theorem dX5_endJobNow_84 : decode cX5_endJobNow 84 = .ok (.putfield 64, 3) := by decide +kernel
theorem dX5_endJobNow_87 : decode cX5_endJobNow 87 = .ok (.aload_n 0, 1) := by decide +kernel
theorem dX5_endJobNow_88 : decode cX5_endJobNow 88 = .ok (.getfield 57, 3) := by decide +kernel
theorem dX5_endJobNow_91 : decode cX5_endJobNow 91 = .ok (.ifCond .ne 8, 3) := by decide +kernel
theorem dX5_endJobNow_94 : decode cX5_endJobNow 94 = .ok (.aload_n 0, 1) := by decide +kernel
theorem dX5_endJobNow_95 : decode cX5_endJobNow 95 = .ok (.iconst 3, 1) := by decide +kernel
theorem dX5_endJobNow_96 : decode cX5_endJobNow 96 = .ok (.putfield 54, 3) := by decide +kernel
theorem dX5_endJobNow_99 : decode cX5_endJobNow 99 = .ok (.return_, 1) := by decide +kernel
theorem dX6_init_0 : decode cX6_init 0 = .ok (.aload_n 0, 1) := by decide +kernel
theorem dX6_init_1 : decode cX6_init 1 = .ok (.invokespecial 3, 3) := by decide +kernel
theorem dX6_init_4 : decode cX6_init 4 = .ok (.aload_n 0, 1) := by decide +kernel
theorem dX6_init_5 : decode cX6_init 5 = .ok (.iconst 0, 1) := by decide +kernel
theorem dX6_init_6 : decode cX6_init 6 = .ok (.putfield 9, 3) := by decide +kernel
theorem dX6_init_9 : decode cX6_init 9 = .ok (.aload_n 0, 1) := by decide +kernel
theorem dX6_init_10 : decode cX6_init 10 = .ok (.bipush 100, 2) := by decide +kernel
theorem dX6_init_12 : decode cX6_init 12 = .ok (.newarray .int, 2) := by decide +kernel
theorem dX6_init_14 : decode cX6_init 14 = .ok (.putfield 15, 3) := by decide +kernel
theorem dX6_init_17 : decode cX6_init 17 = .ok (.aload_n 0, 1) := by decide +kernel
theorem dX6_init_18 : decode cX6_init 18 = .ok (.aload_n 1, 1) := by decide +kernel
theorem dX6_init_19 : decode cX6_init 19 = .ok (.putfield 19, 3) := by decide +kernel
theorem dX6_init_22 : decode cX6_init 22 = .ok (.return_, 1) := by decide +kernel
theorem dX6_holdSort_0 : decode cX6_holdSort 0 = .ok (.aload_n 0, 1) := by decide +kernel
theorem dX6_holdSort_1 : decode cX6_holdSort 1 = .ok (.iconst 1, 1) := by decide +kernel
theorem dX6_holdSort_2 : decode cX6_holdSort 2 = .ok (.putfield 9, 3) := by decide +kernel
theorem dX6_holdSort_5 : decode cX6_holdSort 5 = .ok (.aload_n 0, 1) := by decide +kernel
theorem dX6_holdSort_6 : decode cX6_holdSort 6 = .ok (.aload_n 1, 1) := by decide +kernel
theorem dX6_holdSort_7 : decode cX6_holdSort 7 = .ok (.putfield 19, 3) := by decide +kernel
theorem dX6_holdSort_10 : decode cX6_holdSort 10 = .ok (.aload_n 0, 1) := by decide +kernel
theorem dX6_holdSort_11 : decode cX6_holdSort 11 = .ok (.iload_n 2, 1) := by decide +kernel
theorem dX6_holdSort_12 : decode cX6_holdSort 12 = .ok (.putfield 23, 3) := by decide +kernel
theorem dX6_holdSort_15 : decode cX6_holdSort 15 = .ok (.return_, 1) := by decide +kernel
set_option maxRecDepth 20000 in
theorem gwJ7_fill_53178 : wsJ7_fill_53178.all goodWord = true := by decide +kernel
set_option maxRecDepth 20000 in
theorem ggX6_holdRow_J7_fill_53178 : GoodIn wsX6_holdRow wsJ7_fill_53178 := goodIn_r _ [8] rfl gwJ7_fill_53178
set_option maxRecDepth 20000 in
theorem gX6_holdRow_J7_fill_53178 : GoodIn wsX6_holdRow (va_wsS RX6 32 yJ7_fill_53178 wsJ7_fill_53178) := goodIn_app (goodIn_r _ [5, 6, 7] rfl (by decide +kernel)) ggX6_holdRow_J7_fill_53178
theorem dX6_holdRow_0 : decode cX6_holdRow 0 = .ok (.aload_n 0, 1) := by decide +kernel
theorem dX6_holdRow_1 : decode cX6_holdRow 1 = .ok (.iconst 2, 1) := by decide +kernel
theorem dX6_holdRow_2 : decode cX6_holdRow 2 = .ok (.putfield 9, 3) := by decide +kernel
theorem dX6_holdRow_5 : decode cX6_holdRow 5 = .ok (.aload_n 0, 1) := by decide +kernel
theorem dX6_holdRow_6 : decode cX6_holdRow 6 = .ok (.iload_n 1, 1) := by decide +kernel
theorem dX6_holdRow_7 : decode cX6_holdRow 7 = .ok (.putfield 26, 3) := by decide +kernel
theorem dX6_holdRow_10 : decode cX6_holdRow 10 = .ok (.aload_n 0, 1) := by decide +kernel
theorem dX6_holdRow_11 : decode cX6_holdRow 11 = .ok (.iload_n 2, 1) := by decide +kernel
theorem dX6_holdRow_12 : decode cX6_holdRow 12 = .ok (.putfield 29, 3) := by decide +kernel
theorem dX6_holdRow_15 : decode cX6_holdRow 15 = .ok (.aload_n 0, 1) := by decide +kernel
theorem dX6_holdRow_16 : decode cX6_holdRow 16 = .ok (.getfield 15, 3) := by decide +kernel
theorem dX6_holdRow_19 : decode cX6_holdRow 19 = .ok (.iconst 0, 1) := by decide +kernel
theorem dX6_holdRow_20 : decode cX6_holdRow 20 = .ok (.invokestatic 32, 3) := by decide +kernel
theorem dX6_holdRow_23 : decode cX6_holdRow 23 = .ok (.return_, 1) := by decide +kernel
set_option maxRecDepth 20000 in
theorem ggX6_hasPlaces_X11_within : GoodIn wsX6_hasPlaces wsX11_within := goodIn_r _ [4] rfl gwX11_within
set_option maxRecDepth 20000 in
theorem gX6_hasPlaces_X11_within_n38 : GoodIn wsX6_hasPlaces (wsX11_within) := ggX6_hasPlaces_X11_within
theorem dX6_hasPlaces_0 : decode cX6_hasPlaces 0 = .ok (.iload_n 1, 1) := by decide +kernel
theorem dX6_hasPlaces_1 : decode cX6_hasPlaces 1 = .ok (.iconst 0, 1) := by decide +kernel
theorem dX6_hasPlaces_2 : decode cX6_hasPlaces 2 = .ok (.aload_n 0, 1) := by decide +kernel
theorem dX6_hasPlaces_3 : decode cX6_hasPlaces 3 = .ok (.getfield 29, 3) := by decide +kernel
theorem dX6_hasPlaces_6 : decode cX6_hasPlaces 6 = .ok (.invokestatic 38, 3) := by decide +kernel
theorem dX6_hasPlaces_9 : decode cX6_hasPlaces 9 = .ok (.ifCond .eq 21, 3) := by decide +kernel
theorem dX6_hasPlaces_12 : decode cX6_hasPlaces 12 = .ok (.iload_n 2, 1) := by decide +kernel
theorem dX6_hasPlaces_13 : decode cX6_hasPlaces 13 = .ok (.iconst 0, 1) := by decide +kernel
theorem dX6_hasPlaces_14 : decode cX6_hasPlaces 14 = .ok (.aload_n 0, 1) := by decide +kernel
theorem dX6_hasPlaces_15 : decode cX6_hasPlaces 15 = .ok (.getfield 29, 3) := by decide +kernel
theorem dX6_hasPlaces_18 : decode cX6_hasPlaces 18 = .ok (.iload_n 1, 1) := by decide +kernel
theorem dX6_hasPlaces_19 : decode cX6_hasPlaces 19 = .ok (.isub, 1) := by decide +kernel
theorem dX6_hasPlaces_20 : decode cX6_hasPlaces 20 = .ok (.invokestatic 38, 3) := by decide +kernel
theorem dX6_hasPlaces_23 : decode cX6_hasPlaces 23 = .ok (.ifCond .eq 7, 3) := by decide +kernel
theorem dX6_hasPlaces_26 : decode cX6_hasPlaces 26 = .ok (.iconst 1, 1) := by decide +kernel
theorem dX6_hasPlaces_27 : decode cX6_hasPlaces 27 = .ok (.goto 4, 3) := by decide +kernel
theorem dX6_hasPlaces_30 : decode cX6_hasPlaces 30 = .ok (.iconst 0, 1) := by decide +kernel
theorem dX6_hasPlaces_31 : decode cX6_hasPlaces 31 = .ok (.ireturn, 1) := by decide +kernel
set_option maxRecDepth 20000 in
theorem ggX6_at_X11_within : GoodIn wsX6_at wsX11_within := goodIn_r _ [4] rfl gwX11_within
set_option maxRecDepth 20000 in
theorem gX6_at_X11_within_n38 : GoodIn wsX6_at (wsX11_within) := ggX6_at_X11_within
theorem dX6_at_0 : decode cX6_at 0 = .ok (.iload_n 1, 1) := by decide +kernel
theorem dX6_at_1 : decode cX6_at 1 = .ok (.iconst 0, 1) := by decide +kernel
theorem dX6_at_2 : decode cX6_at 2 = .ok (.bipush 99, 2) := by decide +kernel
theorem dX6_at_4 : decode cX6_at 4 = .ok (.invokestatic 38, 3) := by decide +kernel
theorem dX6_at_7 : decode cX6_at 7 = .ok (.ifCond .eq 12, 3) := by decide +kernel
theorem dX6_at_10 : decode cX6_at 10 = .ok (.aload_n 0, 1) := by decide +kernel
theorem dX6_at_11 : decode cX6_at 11 = .ok (.getfield 15, 3) := by decide +kernel
theorem dX6_at_14 : decode cX6_at 14 = .ok (.iload_n 1, 1) := by decide +kernel
theorem dX6_at_15 : decode cX6_at 15 = .ok (.iaload, 1) := by decide +kernel
theorem dX6_at_16 : decode cX6_at 16 = .ok (.goto 4, 3) := by decide +kernel
theorem dX6_at_19 : decode cX6_at 19 = .ok (.iconst 0, 1) := by decide +kernel
theorem dX6_at_20 : decode cX6_at 20 = .ok (.ireturn, 1) := by decide +kernel
theorem dX6_setElement_0 : decode cX6_setElement 0 = .ok (.aload_n 0, 1) := by decide +kernel
theorem dX6_setElement_1 : decode cX6_setElement 1 = .ok (.getfield 15, 3) := by decide +kernel
theorem dX6_setElement_4 : decode cX6_setElement 4 = .ok (.iload_n 1, 1) := by decide +kernel
theorem dX6_setElement_5 : decode cX6_setElement 5 = .ok (.aload_n 0, 1) := by decide +kernel
theorem dX6_setElement_6 : decode cX6_setElement 6 = .ok (.getfield 26, 3) := by decide +kernel
theorem dX6_setElement_9 : decode cX6_setElement 9 = .ok (.ifCond .ne 8, 3) := by decide +kernel
theorem dX6_setElement_12 : decode cX6_setElement 12 = .ok (.iload_n 2, 1) := by decide +kernel
theorem dX6_setElement_13 : decode cX6_setElement 13 = .ok (.i2b, 1) := by decide +kernel
theorem dX6_setElement_14 : decode cX6_setElement 14 = .ok (.goto 17, 3) := by decide +kernel
theorem dX6_setElement_17 : decode cX6_setElement 17 = .ok (.aload_n 0, 1) := by decide +kernel
theorem dX6_setElement_18 : decode cX6_setElement 18 = .ok (.getfield 26, 3) := by decide +kernel
theorem dX6_setElement_21 : decode cX6_setElement 21 = .ok (.iconst 1, 1) := by decide +kernel
theorem dX6_setElement_22 : decode cX6_setElement 22 = .ok (.if_icmp .ne 8, 3) := by decide +kernel
theorem dX6_setElement_25 : decode cX6_setElement 25 = .ok (.iload_n 2, 1) := by decide +kernel
theorem dX6_setElement_26 : decode cX6_setElement 26 = .ok (.i2s, 1) := by decide +kernel
theorem dX6_setElement_27 : decode cX6_setElement 27 = .ok (.goto 4, 3) := by decide +kernel
theorem dX6_setElement_30 : decode cX6_setElement 30 = .ok (.iload_n 2, 1) := by decide +kernel
theorem dX6_setElement_31 : decode cX6_setElement 31 = .ok (.iastore, 1) := by decide +kernel
theorem dX6_setElement_32 : decode cX6_setElement 32 = .ok (.return_, 1) := by decide +kernel
set_option maxRecDepth 20000 in
theorem gwX6_at : wsX6_at.all goodWord = true := by decide +kernel
set_option maxRecDepth 20000 in
theorem ggX6_isSkipped_X6_at : GoodIn wsX6_isSkipped wsX6_at := goodIn_r _ [7, 8, 9, 10, 11, 12, 13, 14, 15, 16, 17] rfl gwX6_at
set_option maxRecDepth 20000 in
theorem gX6_isSkipped_X6_at : GoodIn wsX6_isSkipped (wsV RX6 42 RX6 yX6_at wsX6_at) := goodIn_app (goodIn_r _ [3, 4, 5, 6] rfl (by decide +kernel)) ggX6_isSkipped_X6_at
theorem dX6_isSkipped_0 : decode cX6_isSkipped 0 = .ok (.aload_n 0, 1) := by decide +kernel
theorem dX6_isSkipped_1 : decode cX6_isSkipped 1 = .ok (.iload_n 1, 1) := by decide +kernel
theorem dX6_isSkipped_2 : decode cX6_isSkipped 2 = .ok (.invokevirtual 42, 3) := by decide +kernel
theorem dX6_isSkipped_5 : decode cX6_isSkipped 5 = .ok (.aload_n 0, 1) := by decide +kernel
theorem dX6_isSkipped_6 : decode cX6_isSkipped 6 = .ok (.getfield 26, 3) := by decide +kernel
theorem dX6_isSkipped_9 : decode cX6_isSkipped 9 = .ok (.ifCond .ne 8, 3) := by decide +kernel
theorem dX6_isSkipped_12 : decode cX6_isSkipped 12 = .ok (.bipush (-128), 2) := by decide +kernel
theorem dX6_isSkipped_14 : decode cX6_isSkipped 14 = .ok (.goto 19, 3) := by decide +kernel
theorem dX6_isSkipped_17 : decode cX6_isSkipped 17 = .ok (.aload_n 0, 1) := by decide +kernel
theorem dX6_isSkipped_18 : decode cX6_isSkipped 18 = .ok (.getfield 26, 3) := by decide +kernel
theorem dX6_isSkipped_21 : decode cX6_isSkipped 21 = .ok (.iconst 1, 1) := by decide +kernel
theorem dX6_isSkipped_22 : decode cX6_isSkipped 22 = .ok (.if_icmp .ne 9, 3) := by decide +kernel
theorem dX6_isSkipped_25 : decode cX6_isSkipped 25 = .ok (.sipush (-32768), 3) := by decide +kernel
theorem dX6_isSkipped_28 : decode cX6_isSkipped 28 = .ok (.goto 5, 3) := by decide +kernel
theorem dX6_isSkipped_31 : decode cX6_isSkipped 31 = .ok (.ldc 46, 2) := by decide +kernel
theorem dX6_isSkipped_33 : decode cX6_isSkipped 33 = .ok (.if_icmp .ne 7, 3) := by decide +kernel
theorem dX6_isSkipped_36 : decode cX6_isSkipped 36 = .ok (.iconst 1, 1) := by decide +kernel
theorem dX6_isSkipped_37 : decode cX6_isSkipped 37 = .ok (.goto 4, 3) := by decide +kernel
theorem dX6_isSkipped_40 : decode cX6_isSkipped 40 = .ok (.iconst 0, 1) := by decide +kernel
theorem dX6_isSkipped_41 : decode cX6_isSkipped 41 = .ok (.ireturn, 1) := by decide +kernel
set_option maxRecDepth 20000 in
theorem ggX7_init_X0_init : GoodIn wsX7_init wsX0_init := goodIn_r _ [4, 5, 6, 7, 8, 9, 10, 11, 12, 13, 14, 15, 16, 17, 18, 19, 20, 21, 22, 23, 24, 25] rfl gwX0_init
set_option maxRecDepth 20000 in
theorem gX7_init_X0_init : GoodIn wsX7_init (wsX0_init) := ggX7_init_X0_init
theorem dX7_init_0 : decode cX7_init 0 = .ok (.aload_n 0, 1) := by decide +kernel
theorem dX7_init_1 : decode cX7_init 1 = .ok (.iload_n 1, 1) := by decide +kernel
theorem dX7_init_2 : decode cX7_init 2 = .ok (.aload_n 2, 1) := by decide +kernel
theorem dX7_init_3 : decode cX7_init 3 = .ok (.invokespecial 1, 3) := by decide +kernel
theorem dX7_init_6 : decode cX7_init 6 = .ok (.return_, 1) := by decide +kernel
set_option maxRecDepth 20000 in
theorem ggX7_pays_X0_pays : GoodIn wsX7_pays wsX0_pays := goodIn_r _ [12, 13, 14, 4, 5, 6, 15, 16, 17, 18, 19, 20, 21, 22, 23, 24, 25, 26, 27, 28, 29, 30, 31, 32] rfl gwX0_pays
set_option maxRecDepth 20000 in
theorem gX7_pays_X0_pays_s7 : GoodIn wsX7_pays (va_wsSU RX7 7 yX0_pays wsX0_pays) := goodIn_app (goodIn_r _ [7, 8, 9, 10, 11] rfl (by decide +kernel)) ggX7_pays_X0_pays
theorem dX7_pays_0 : decode cX7_pays 0 = .ok (.aload_n 0, 1) := by decide +kernel
theorem dX7_pays_1 : decode cX7_pays 1 = .ok (.aload_n 1, 1) := by decide +kernel
theorem dX7_pays_2 : decode cX7_pays 2 = .ok (.iload_n 2, 1) := by decide +kernel
theorem dX7_pays_3 : decode cX7_pays 3 = .ok (.invokespecial 7, 3) := by decide +kernel
theorem dX7_pays_6 : decode cX7_pays 6 = .ok (.aload_n 1, 1) := by decide +kernel
theorem dX7_pays_7 : decode cX7_pays 7 = .ok (.getfield 11, 3) := by decide +kernel
theorem dX7_pays_10 : decode cX7_pays 10 = .ok (.isub, 1) := by decide +kernel
theorem dX7_pays_11 : decode cX7_pays 11 = .ok (.aload_n 1, 1) := by decide +kernel
theorem dX7_pays_12 : decode cX7_pays 12 = .ok (.getfield 17, 3) := by decide +kernel
theorem dX7_pays_15 : decode cX7_pays 15 = .ok (.invokestatic 20, 3) := by decide +kernel
theorem dX7_pays_18 : decode cX7_pays 18 = .ok (.ireturn, 1) := by decide +kernel
set_option maxRecDepth 20000 in
theorem gwX0_worth : wsX0_worth.all goodWord = true := by decide +kernel
set_option maxRecDepth 20000 in
theorem ggX7_worth_X0_worth : GoodIn wsX7_worth wsX0_worth := goodIn_r _ [6] rfl gwX0_worth
set_option maxRecDepth 20000 in
theorem gX7_worth_X0_worth_s26 : GoodIn wsX7_worth (va_wsSU RX7 26 yX0_worth wsX0_worth) := goodIn_app (goodIn_r _ [1, 2, 3, 4, 5] rfl (by decide +kernel)) ggX7_worth_X0_worth
theorem dX7_worth_0 : decode cX7_worth 0 = .ok (.aload_n 0, 1) := by decide +kernel
theorem dX7_worth_1 : decode cX7_worth 1 = .ok (.iload_n 1, 1) := by decide +kernel
theorem dX7_worth_2 : decode cX7_worth 2 = .ok (.invokespecial 26, 3) := by decide +kernel
theorem dX7_worth_5 : decode cX7_worth 5 = .ok (.iconst 3, 1) := by decide +kernel
theorem dX7_worth_6 : decode cX7_worth 6 = .ok (.iadd, 1) := by decide +kernel
theorem dX7_worth_7 : decode cX7_worth 7 = .ok (.ireturn, 1) := by decide +kernel
theorem dX8_digitsBehind_0 : decode cX8_digitsBehind 0 = .ok (.iload_n 0, 1) := by decide +kernel
theorem dX8_digitsBehind_1 : decode cX8_digitsBehind 1 = .ok (.lookupswitch 42 #[(106, 38), (115, 35), (116, 40)], 35) := by decide +kernel
theorem dX8_digitsBehind_36 : decode cX8_digitsBehind 36 = .ok (.bipush 6, 2) := by decide +kernel
theorem dX8_digitsBehind_38 : decode cX8_digitsBehind 38 = .ok (.ireturn, 1) := by decide +kernel
theorem dX8_digitsBehind_39 : decode cX8_digitsBehind 39 = .ok (.iconst 3, 1) := by decide +kernel
theorem dX8_digitsBehind_40 : decode cX8_digitsBehind 40 = .ok (.ireturn, 1) := by decide +kernel
theorem dX8_digitsBehind_41 : decode cX8_digitsBehind 41 = .ok (.iconst 2, 1) := by decide +kernel
theorem dX8_digitsBehind_42 : decode cX8_digitsBehind 42 = .ok (.ireturn, 1) := by decide +kernel
theorem dX8_digitsBehind_43 : decode cX8_digitsBehind 43 = .ok (.iconst (-1), 1) := by decide +kernel
theorem dX8_digitsBehind_44 : decode cX8_digitsBehind 44 = .ok (.ireturn, 1) := by decide +kernel
set_option maxRecDepth 20000 in
theorem gwX8_digitsBehind : wsX8_digitsBehind.all goodWord = true := by decide +kernel
set_option maxRecDepth 20000 in
theorem ggX8_lengthFrom_X8_digitsBehind : GoodIn wsX8_lengthFrom wsX8_digitsBehind := goodIn_r _ [4] rfl gwX8_digitsBehind
set_option maxRecDepth 20000 in
theorem gX8_lengthFrom_X8_digitsBehind : GoodIn wsX8_lengthFrom (va_wsS RX8 9 yX8_digitsBehind wsX8_digitsBehind) := goodIn_app (goodIn_r _ [1, 2, 3] rfl (by decide +kernel)) ggX8_lengthFrom_X8_digitsBehind
theorem dX8_lengthFrom_0 : decode cX8_lengthFrom 0 = .ok (.iload_n 0, 1) := by decide +kernel
theorem dX8_lengthFrom_1 : decode cX8_lengthFrom 1 = .ok (.invokestatic 9, 3) := by decide +kernel
theorem dX8_lengthFrom_4 : decode cX8_lengthFrom 4 = .ok (.iconst 2, 1) := by decide +kernel
theorem dX8_lengthFrom_5 : decode cX8_lengthFrom 5 = .ok (.iadd, 1) := by decide +kernel
theorem dX8_lengthFrom_6 : decode cX8_lengthFrom 6 = .ok (.ireturn, 1) := by decide +kernel
set_option maxRecDepth 20000 in
theorem ggX8_firstBadByte_X6_at : GoodIn wsX8_firstBadByte wsX6_at := goodIn_r _ [6, 7, 8, 9, 10, 15, 16, 17, 18, 19, 20] rfl gwX6_at
set_option maxRecDepth 20000 in
theorem gX8_firstBadByte_X6_at : GoodIn wsX8_firstBadByte (wsV RX8 21 RX6 yX6_at wsX6_at) := goodIn_app (goodIn_r _ [2, 3, 4, 5] rfl (by decide +kernel)) ggX8_firstBadByte_X6_at
set_option maxRecDepth 20000 in
theorem ggX8_firstBadByte_X8_digitsBehind : GoodIn wsX8_firstBadByte wsX8_digitsBehind := goodIn_r _ [14] rfl gwX8_digitsBehind
set_option maxRecDepth 20000 in
theorem gX8_firstBadByte_X8_digitsBehind : GoodIn wsX8_firstBadByte (va_wsS RX8 9 yX8_digitsBehind wsX8_digitsBehind) := goodIn_app (goodIn_r _ [11, 12, 13] rfl (by decide +kernel)) ggX8_firstBadByte_X8_digitsBehind
set_option maxRecDepth 20000 in
theorem ggX8_firstBadByte_X11_within : GoodIn wsX8_firstBadByte wsX11_within := goodIn_r _ [10] rfl gwX11_within
set_option maxRecDepth 20000 in
theorem gX8_firstBadByte_X11_within_n24 : GoodIn wsX8_firstBadByte (wsX11_within) := ggX8_firstBadByte_X11_within
theorem dX8_firstBadByte_0 : decode cX8_firstBadByte 0 = .ok (.iconst (-1), 1) := by decide +kernel
theorem dX8_firstBadByte_1 : decode cX8_firstBadByte 1 = .ok (.istore_n 1, 1) := by decide +kernel
theorem dX8_firstBadByte_2 : decode cX8_firstBadByte 2 = .ok (.iconst 0, 1) := by decide +kernel
theorem dX8_firstBadByte_3 : decode cX8_firstBadByte 3 = .ok (.istore_n 2, 1) := by decide +kernel
theorem dX8_firstBadByte_4 : decode cX8_firstBadByte 4 = .ok (.iload_n 2, 1) := by decide +kernel
theorem dX8_firstBadByte_5 : decode cX8_firstBadByte 5 = .ok (.aload_n 0, 1) := by decide +kernel
theorem dX8_firstBadByte_6 : decode cX8_firstBadByte 6 = .ok (.getfield 15, 3) := by decide +kernel
theorem dX8_firstBadByte_9 : decode cX8_firstBadByte 9 = .ok (.if_icmp .ge 68, 3) := by decide +kernel
theorem dX8_firstBadByte_12 : decode cX8_firstBadByte 12 = .ok (.aload_n 0, 1) := by decide +kernel
theorem dX8_firstBadByte_13 : decode cX8_firstBadByte 13 = .ok (.iload_n 2, 1) := by decide +kernel
theorem dX8_firstBadByte_14 : decode cX8_firstBadByte 14 = .ok (.invokevirtual 21, 3) := by decide +kernel
theorem dX8_firstBadByte_17 : decode cX8_firstBadByte 17 = .ok (.istore_n 3, 1) := by decide +kernel
theorem dX8_firstBadByte_18 : decode cX8_firstBadByte 18 = .ok (.iload_n 1, 1) := by decide +kernel
theorem dX8_firstBadByte_19 : decode cX8_firstBadByte 19 = .ok (.iconst (-1), 1) := by decide +kernel
theorem dX8_firstBadByte_20 : decode cX8_firstBadByte 20 = .ok (.if_icmp .ne 15, 3) := by decide +kernel
theorem dX8_firstBadByte_23 : decode cX8_firstBadByte 23 = .ok (.iload_n 3, 1) := by decide +kernel
theorem dX8_firstBadByte_24 : decode cX8_firstBadByte 24 = .ok (.invokestatic 9, 3) := by decide +kernel
theorem dX8_firstBadByte_27 : decode cX8_firstBadByte 27 = .ok (.istore_n 1, 1) := by decide +kernel
theorem dX8_firstBadByte_28 : decode cX8_firstBadByte 28 = .ok (.iload_n 1, 1) := by decide +kernel
theorem dX8_firstBadByte_29 : decode cX8_firstBadByte 29 = .ok (.iconst (-1), 1) := by decide +kernel
theorem dX8_firstBadByte_30 : decode cX8_firstBadByte 30 = .ok (.if_icmp .ne 41, 3) := by decide +kernel
theorem dX8_firstBadByte_33 : decode cX8_firstBadByte 33 = .ok (.iload_n 2, 1) := by decide +kernel
theorem dX8_firstBadByte_34 : decode cX8_firstBadByte 34 = .ok (.ireturn, 1) := by decide +kernel
theorem dX8_firstBadByte_35 : decode cX8_firstBadByte 35 = .ok (.iload_n 1, 1) := by decide +kernel
theorem dX8_firstBadByte_36 : decode cX8_firstBadByte 36 = .ok (.ifCond .le 22, 3) := by decide +kernel
theorem dX8_firstBadByte_39 : decode cX8_firstBadByte 39 = .ok (.iload_n 3, 1) := by decide +kernel
theorem dX8_firstBadByte_40 : decode cX8_firstBadByte 40 = .ok (.bipush 48, 2) := by decide +kernel
theorem dX8_firstBadByte_42 : decode cX8_firstBadByte 42 = .ok (.bipush 57, 2) := by decide +kernel
theorem dX8_firstBadByte_44 : decode cX8_firstBadByte 44 = .ok (.invokestatic 24, 3) := by decide +kernel
theorem dX8_firstBadByte_47 : decode cX8_firstBadByte 47 = .ok (.ifCond .ne 5, 3) := by decide +kernel
theorem dX8_firstBadByte_50 : decode cX8_firstBadByte 50 = .ok (.iload_n 2, 1) := by decide +kernel
theorem dX8_firstBadByte_51 : decode cX8_firstBadByte 51 = .ok (.ireturn, 1) := by decide +kernel
theorem dX8_firstBadByte_52 : decode cX8_firstBadByte 52 = .ok (.iinc 1 (-1), 3) := by decide +kernel
theorem dX8_firstBadByte_55 : decode cX8_firstBadByte 55 = .ok (.goto 16, 3) := by decide +kernel
theorem dX8_firstBadByte_58 : decode cX8_firstBadByte 58 = .ok (.iload_n 3, 1) := by decide +kernel
theorem dX8_firstBadByte_59 : decode cX8_firstBadByte 59 = .ok (.bipush 59, 2) := by decide +kernel
theorem dX8_firstBadByte_61 : decode cX8_firstBadByte 61 = .ok (.if_icmp .ne 8, 3) := by decide +kernel
theorem dX8_firstBadByte_64 : decode cX8_firstBadByte 64 = .ok (.iconst (-1), 1) := by decide +kernel
theorem dX8_firstBadByte_65 : decode cX8_firstBadByte 65 = .ok (.istore_n 1, 1) := by decide +kernel
theorem dX8_firstBadByte_66 : decode cX8_firstBadByte 66 = .ok (.goto 5, 3) := by decide +kernel
theorem dX8_firstBadByte_69 : decode cX8_firstBadByte 69 = .ok (.iload_n 2, 1) := by decide +kernel
theorem dX8_firstBadByte_70 : decode cX8_firstBadByte 70 = .ok (.ireturn, 1) := by decide +kernel
theorem dX8_firstBadByte_71 : decode cX8_firstBadByte 71 = .ok (.iinc 2 1, 3) := by decide +kernel
theorem dX8_firstBadByte_74 : decode cX8_firstBadByte 74 = .ok (.goto (-70), 3) := by decide +kernel
theorem dX8_firstBadByte_77 : decode cX8_firstBadByte 77 = .ok (.aload_n 0, 1) := by decide +kernel
theorem dX8_firstBadByte_78 : decode cX8_firstBadByte 78 = .ok (.getfield 15, 3) := by decide +kernel
theorem dX8_firstBadByte_81 : decode cX8_firstBadByte 81 = .ok (.ifCond .eq 8, 3) := by decide +kernel
theorem dX8_firstBadByte_84 : decode cX8_firstBadByte 84 = .ok (.iload_n 1, 1) := by decide +kernel
theorem dX8_firstBadByte_85 : decode cX8_firstBadByte 85 = .ok (.iconst (-1), 1) := by decide +kernel
theorem dX8_firstBadByte_86 : decode cX8_firstBadByte 86 = .ok (.if_icmp .eq 10, 3) := by decide +kernel
theorem dX8_firstBadByte_89 : decode cX8_firstBadByte 89 = .ok (.aload_n 0, 1) := by decide +kernel
theorem dX8_firstBadByte_90 : decode cX8_firstBadByte 90 = .ok (.getfield 15, 3) := by decide +kernel
theorem dX8_firstBadByte_93 : decode cX8_firstBadByte 93 = .ok (.goto 5, 3) := by decide +kernel
theorem dX8_firstBadByte_96 : decode cX8_firstBadByte 96 = .ok (.bipush (-4), 2) := by decide +kernel
theorem dX8_firstBadByte_98 : decode cX8_firstBadByte 98 = .ok (.ireturn, 1) := by decide +kernel
set_option maxRecDepth 20000 in
theorem ggX8_digit_X6_at : GoodIn wsX8_digit wsX6_at := goodIn_r _ [5, 6, 7, 8, 9, 10, 11, 12, 13, 14, 15] rfl gwX6_at
set_option maxRecDepth 20000 in
theorem gX8_digit_X6_at : GoodIn wsX8_digit (wsV RX8 21 RX6 yX6_at wsX6_at) := goodIn_app (goodIn_r _ [1, 2, 3, 4] rfl (by decide +kernel)) ggX8_digit_X6_at
theorem dX8_digit_0 : decode cX8_digit 0 = .ok (.aload_n 0, 1) := by decide +kernel
theorem dX8_digit_1 : decode cX8_digit 1 = .ok (.iload_n 1, 1) := by decide +kernel
theorem dX8_digit_2 : decode cX8_digit 2 = .ok (.invokevirtual 21, 3) := by decide +kernel
theorem dX8_digit_5 : decode cX8_digit 5 = .ok (.bipush 48, 2) := by decide +kernel
theorem dX8_digit_7 : decode cX8_digit 7 = .ok (.isub, 1) := by decide +kernel
theorem dX8_digit_8 : decode cX8_digit 8 = .ok (.ireturn, 1) := by decide +kernel
set_option maxRecDepth 20000 in
theorem gwX8_digit : wsX8_digit.all goodWord = true := by decide +kernel
set_option maxRecDepth 20000 in
theorem ggX8_twoDigits_X8_digit : GoodIn wsX8_twoDigits wsX8_digit := goodIn_r _ [4, 5, 6, 7, 8, 9, 10, 11, 12, 13, 14, 15, 16, 17, 18, 19] rfl gwX8_digit
set_option maxRecDepth 20000 in
theorem gX8_twoDigits_X8_digit : GoodIn wsX8_twoDigits (va_wsS RX8 28 yX8_digit wsX8_digit) := goodIn_app (goodIn_r _ [1, 2, 3] rfl (by decide +kernel)) ggX8_twoDigits_X8_digit
theorem dX8_twoDigits_0 : decode cX8_twoDigits 0 = .ok (.bipush 10, 2) := by decide +kernel
theorem dX8_twoDigits_2 : decode cX8_twoDigits 2 = .ok (.aload_n 0, 1) := by decide +kernel
theorem dX8_twoDigits_3 : decode cX8_twoDigits 3 = .ok (.iload_n 1, 1) := by decide +kernel
theorem dX8_twoDigits_4 : decode cX8_twoDigits 4 = .ok (.invokestatic 28, 3) := by decide +kernel
theorem dX8_twoDigits_7 : decode cX8_twoDigits 7 = .ok (.imul, 1) := by decide +kernel
theorem dX8_twoDigits_8 : decode cX8_twoDigits 8 = .ok (.aload_n 0, 1) := by decide +kernel
theorem dX8_twoDigits_9 : decode cX8_twoDigits 9 = .ok (.iload_n 1, 1) := by decide +kernel
theorem dX8_twoDigits_10 : decode cX8_twoDigits 10 = .ok (.iconst 1, 1) := by decide +kernel
theorem dX8_twoDigits_11 : decode cX8_twoDigits 11 = .ok (.iadd, 1) := by decide +kernel
theorem dX8_twoDigits_12 : decode cX8_twoDigits 12 = .ok (.invokestatic 28, 3) := by decide +kernel
theorem dX8_twoDigits_15 : decode cX8_twoDigits 15 = .ok (.iadd, 1) := by decide +kernel
theorem dX8_twoDigits_16 : decode cX8_twoDigits 16 = .ok (.ireturn, 1) := by decide +kernel
set_option maxRecDepth 20000 in
theorem ggX8_isDone_X6_at : GoodIn wsX8_isDone wsX6_at := goodIn_r _ [5, 6, 7, 8, 9, 217, 218, 219, 220, 221, 222] rfl gwX6_at
set_option maxRecDepth 20000 in
theorem gX8_isDone_X6_at : GoodIn wsX8_isDone (wsV RX8 21 RX6 yX6_at wsX6_at) := goodIn_app (goodIn_r _ [1, 2, 3, 4] rfl (by decide +kernel)) ggX8_isDone_X6_at
set_option maxRecDepth 20000 in
theorem gwX8_isServerAdded : wsX8_isServerAdded.all goodWord = true := by decide +kernel
set_option maxRecDepth 20000 in
theorem ggX8_isDone_X8_isServerAdded : GoodIn wsX8_isDone wsX8_isServerAdded := goodIn_r _ [13, 14, 15, 16, 12, 17, 1, 2, 3, 4, 5, 6, 7, 8, 9, 18, 19, 20, 21, 22, 23, 24, 25, 26, 27, 28, 29, 30, 31, 32, 33, 34, 35, 36, 37, 38, 39, 40, 41, 42, 43, 44, 45, 46, 47, 48, 49, 50, 51, 52, 53, 54, 55, 56, 57, 223, 224, 225, 226, 227, 217, 218, 219, 220, 221, 222, 228, 229, 230, 231, 232, 233, 234, 235, 236, 237, 238, 239, 240, 241, 242] rfl gwX8_isServerAdded
set_option maxRecDepth 20000 in
theorem gX8_isDone_X8_isServerAdded : GoodIn wsX8_isDone (va_wsS RX8 32 yX8_isServerAdded wsX8_isServerAdded) := goodIn_app (goodIn_r _ [10, 11, 12] rfl (by decide +kernel)) ggX8_isDone_X8_isServerAdded
set_option maxRecDepth 20000 in
theorem gwX8_isJobSent : wsX8_isJobSent.all goodWord = true := by decide +kernel
set_option maxRecDepth 20000 in
theorem ggX8_isDone_X8_isJobSent : GoodIn wsX8_isDone wsX8_isJobSent := goodIn_r _ [60, 61, 62, 15, 16, 12, 17, 1, 2, 3, 4, 5, 6, 7, 8, 9, 63, 64, 65, 27, 66, 30, 67, 68, 69, 70, 29, 71, 72, 73, 34, 74, 46, 75, 76, 77, 78, 79, 80, 48, 38, 53, 54, 39, 81, 82, 83, 84, 85, 86, 223, 224, 225, 226, 227, 217, 218, 219, 220, 221, 222, 228, 229, 230, 231, 232, 233, 234, 235, 236, 237, 238, 239, 240, 241, 242] rfl gwX8_isJobSent
set_option maxRecDepth 20000 in
theorem gX8_isDone_X8_isJobSent : GoodIn wsX8_isDone (va_wsS RX8 36 yX8_isJobSent wsX8_isJobSent) := goodIn_app (goodIn_r _ [58, 59, 12] rfl (by decide +kernel)) ggX8_isDone_X8_isJobSent
set_option maxRecDepth 20000 in
theorem gwX8_twoDigits : wsX8_twoDigits.all goodWord = true := by decide +kernel
set_option maxRecDepth 20000 in
theorem ggX8_isDone_X8_twoDigits : GoodIn wsX8_isDone wsX8_twoDigits := goodIn_r _ [20, 15, 16, 12, 17, 1, 2, 3, 4, 5, 6, 7, 8, 9, 217, 218, 219, 220, 221, 222] rfl gwX8_twoDigits
set_option maxRecDepth 20000 in
theorem gX8_isDone_X8_twoDigits : GoodIn wsX8_isDone (va_wsS RX8 40 yX8_twoDigits wsX8_twoDigits) := goodIn_app (goodIn_r _ [18, 19, 12] rfl (by decide +kernel)) ggX8_isDone_X8_twoDigits
set_option maxRecDepth 20000 in
theorem gwX3_tickingRefusal : wsX3_tickingRefusal.all goodWord = true := by decide +kernel
set_option maxRecDepth 20000 in
theorem ggX8_isDone_X3_tickingRefusal : GoodIn wsX8_isDone wsX3_tickingRefusal := goodIn_r _ [90, 91, 7, 8, 9, 223, 224, 225, 226, 227] rfl gwX3_tickingRefusal
set_option maxRecDepth 20000 in
theorem gX8_isDone_X3_tickingRefusal : GoodIn wsX8_isDone (wsV RX8 43 RX3 yX3_tickingRefusal wsX3_tickingRefusal) := goodIn_app (goodIn_r _ [87, 88, 89, 27] rfl (by decide +kernel)) ggX8_isDone_X3_tickingRefusal
set_option maxRecDepth 20000 in
theorem gwX3_goOnFor : wsX3_goOnFor.all goodWord = true := by decide +kernel
set_option maxRecDepth 20000 in
theorem ggX8_isDone_X3_goOnFor : GoodIn wsX8_isDone wsX3_goOnFor := goodIn_r _ [95, 96, 97, 98, 27, 99, 100, 101, 91, 102, 103, 104, 105, 29, 30, 106, 107, 108, 109, 110, 111, 112, 113, 114, 115, 116, 117, 118, 119, 120, 121, 122, 123, 124, 125, 126, 127, 128, 129, 130, 131, 132, 133, 134, 135, 84, 85, 34, 86, 38, 54, 53, 39, 136, 137, 138, 139, 140, 141, 142, 143, 144, 145, 146, 147, 148, 149, 150, 151, 152, 153, 46, 47, 80, 154, 155, 156, 157, 158, 159, 160, 161, 162, 163, 164, 165, 166, 167, 168, 169, 170, 171, 172, 173, 174, 175, 176, 177, 178, 179, 180, 181, 182, 183, 184, 185, 186, 187, 188, 189, 190, 191, 192, 193, 194, 195, 196, 79, 81, 40, 197, 198, 199, 200, 41, 48, 201, 202, 203, 204, 205, 206, 207, 208, 209, 210, 211, 212, 213, 214, 215, 216, 223, 224, 225, 226, 227, 228, 229, 230, 231, 232, 233, 234, 235, 236, 237, 238, 239, 240, 241, 242] rfl gwX3_goOnFor
set_option maxRecDepth 20000 in
theorem gX8_isDone_X3_goOnFor : GoodIn wsX8_isDone (wsV RX8 48 RX3 yX3_goOnFor wsX3_goOnFor) := goodIn_app (goodIn_r _ [92, 93, 94, 27] rfl (by decide +kernel)) ggX8_isDone_X3_goOnFor
theorem dX8_isDone_0 : decode cX8_isDone 0 = .ok (.aload_n 0, 1) := by decide +kernel
theorem dX8_isDone_1 : decode cX8_isDone 1 = .ok (.iload_n 1, 1) := by decide +kernel
theorem dX8_isDone_2 : decode cX8_isDone 2 = .ok (.invokevirtual 21, 3) := by decide +kernel
theorem dX8_isDone_5 : decode cX8_isDone 5 = .ok (.lookupswitch 42 #[(106, 35), (115, 27)], 27) := by decide +kernel
theorem dX8_isDone_32 : decode cX8_isDone 32 = .ok (.aload_n 0, 1) := by decide +kernel
theorem dX8_isDone_33 : decode cX8_isDone 33 = .ok (.iload_n 1, 1) := by decide +kernel
theorem dX8_isDone_34 : decode cX8_isDone 34 = .ok (.aload_n 2, 1) := by decide +kernel
theorem dX8_isDone_35 : decode cX8_isDone 35 = .ok (.aload_n 3, 1) := by decide +kernel
theorem dX8_isDone_36 : decode cX8_isDone 36 = .ok (.invokestatic 32, 3) := by decide +kernel
theorem dX8_isDone_39 : decode cX8_isDone 39 = .ok (.ireturn, 1) := by decide +kernel
theorem dX8_isDone_40 : decode cX8_isDone 40 = .ok (.aload_n 0, 1) := by decide +kernel
theorem dX8_isDone_41 : decode cX8_isDone 41 = .ok (.iload_n 1, 1) := by decide +kernel
theorem dX8_isDone_42 : decode cX8_isDone 42 = .ok (.aload_n 2, 1) := by decide +kernel
theorem dX8_isDone_43 : decode cX8_isDone 43 = .ok (.invokestatic 36, 3) := by decide +kernel
theorem dX8_isDone_46 : decode cX8_isDone 46 = .ok (.ireturn, 1) := by decide +kernel
theorem dX8_isDone_47 : decode cX8_isDone 47 = .ok (.aload_n 0, 1) := by decide +kernel
theorem dX8_isDone_48 : decode cX8_isDone 48 = .ok (.iload_n 1, 1) := by decide +kernel
theorem dX8_isDone_49 : decode cX8_isDone 49 = .ok (.iconst 1, 1) := by decide +kernel
theorem dX8_isDone_50 : decode cX8_isDone 50 = .ok (.iadd, 1) := by decide +kernel
theorem dX8_isDone_51 : decode cX8_isDone 51 = .ok (.invokestatic 40, 3) := by decide +kernel
theorem dX8_isDone_54 : decode cX8_isDone 54 = .ok (.istore 4, 2) := by decide +kernel
theorem dX8_isDone_56 : decode cX8_isDone 56 = .ok (.aload_n 2, 1) := by decide +kernel
theorem dX8_isDone_57 : decode cX8_isDone 57 = .ok (.iload 4, 2) := by decide +kernel
theorem dX8_isDone_59 : decode cX8_isDone 59 = .ok (.invokevirtual 43, 3) := by decide +kernel
theorem dX8_isDone_62 : decode cX8_isDone 62 = .ok (.ifCond .eq 5, 3) := by decide +kernel
theorem dX8_isDone_65 : decode cX8_isDone 65 = .ok (.iconst 0, 1) := by decide +kernel
theorem dX8_isDone_66 : decode cX8_isDone 66 = .ok (.ireturn, 1) := by decide +kernel
theorem dX8_isDone_67 : decode cX8_isDone 67 = .ok (.aload_n 2, 1) := by decide +kernel
theorem dX8_isDone_68 : decode cX8_isDone 68 = .ok (.iload 4, 2) := by decide +kernel
theorem dX8_isDone_70 : decode cX8_isDone 70 = .ok (.invokevirtual 48, 3) := by decide +kernel
theorem dX8_isDone_73 : decode cX8_isDone 73 = .ok (.iconst 1, 1) := by decide +kernel
theorem dX8_isDone_74 : decode cX8_isDone 74 = .ok (.ireturn, 1) := by decide +kernel
set_option maxRecDepth 20000 in
theorem ggX8_isServerAdded_X8_digit : GoodIn wsX8_isServerAdded wsX8_digit := goodIn_r _ [5, 6, 7, 8, 9, 10, 11, 12, 13, 14, 60, 61, 62, 63, 64, 65] rfl gwX8_digit
set_option maxRecDepth 20000 in
theorem gX8_isServerAdded_X8_digit : GoodIn wsX8_isServerAdded (va_wsS RX8 28 yX8_digit wsX8_digit) := goodIn_app (goodIn_r _ [2, 3, 4] rfl (by decide +kernel)) ggX8_isServerAdded_X8_digit
set_option maxRecDepth 20000 in
theorem ggX8_isServerAdded_X8_twoDigits : GoodIn wsX8_isServerAdded wsX8_twoDigits := goodIn_r _ [17, 2, 3, 4, 5, 6, 7, 8, 9, 10, 11, 12, 13, 14, 60, 61, 62, 63, 64, 65] rfl gwX8_twoDigits
set_option maxRecDepth 20000 in
theorem gX8_isServerAdded_X8_twoDigits : GoodIn wsX8_isServerAdded (va_wsS RX8 40 yX8_twoDigits wsX8_twoDigits) := goodIn_app (goodIn_r _ [15, 16, 4] rfl (by decide +kernel)) ggX8_isServerAdded_X8_twoDigits
set_option maxRecDepth 20000 in
theorem ggX8_isServerAdded_X11_within : GoodIn wsX8_isServerAdded wsX11_within := goodIn_r _ [14] rfl gwX11_within
set_option maxRecDepth 20000 in
theorem gX8_isServerAdded_X11_within_n24 : GoodIn wsX8_isServerAdded (wsX11_within) := ggX8_isServerAdded_X11_within
set_option maxRecDepth 20000 in
theorem gwX11_isBudget : wsX11_isBudget.all goodWord = true := by decide +kernel
set_option maxRecDepth 20000 in
theorem ggX8_isServerAdded_X11_isBudget : GoodIn wsX8_isServerAdded wsX11_isBudget := goodIn_r _ [19, 20, 12, 13, 14] rfl gwX11_isBudget
set_option maxRecDepth 20000 in
theorem gX8_isServerAdded_X11_isBudget_n52 : GoodIn wsX8_isServerAdded (wsX11_isBudget) := ggX8_isServerAdded_X11_isBudget
set_option maxRecDepth 20000 in
theorem gwX3_addServer : wsX3_addServer.all goodWord = true := by decide +kernel
set_option maxRecDepth 20000 in
theorem ggX8_isServerAdded_X3_addServer : GoodIn wsX8_isServerAdded wsX3_addServer := goodIn_r _ [25, 26, 27, 28, 29, 30, 31, 32, 33, 34, 35, 36, 37, 38, 39, 40, 41, 42, 43, 44, 45, 46, 47, 48, 49, 50, 51, 52, 53, 13, 54, 55, 56, 57, 58, 59, 66, 67, 68, 69, 70, 71, 72, 73, 74, 75, 76, 77, 78, 79, 80] rfl gwX3_addServer
set_option maxRecDepth 20000 in
theorem gX8_isServerAdded_X3_addServer : GoodIn wsX8_isServerAdded (wsV RX8 59 RX3 yX3_addServer wsX3_addServer) := goodIn_app (goodIn_r _ [21, 22, 23, 24] rfl (by decide +kernel)) ggX8_isServerAdded_X3_addServer
theorem dX8_isServerAdded_0 : decode cX8_isServerAdded 0 = .ok (.aload_n 0, 1) := by decide +kernel
theorem dX8_isServerAdded_1 : decode cX8_isServerAdded 1 = .ok (.iload_n 1, 1) := by decide +kernel
theorem dX8_isServerAdded_2 : decode cX8_isServerAdded 2 = .ok (.iconst 1, 1) := by decide +kernel
theorem dX8_isServerAdded_3 : decode cX8_isServerAdded 3 = .ok (.iadd, 1) := by decide +kernel
theorem dX8_isServerAdded_4 : decode cX8_isServerAdded 4 = .ok (.invokestatic 28, 3) := by decide +kernel
theorem dX8_isServerAdded_7 : decode cX8_isServerAdded 7 = .ok (.istore 4, 2) := by decide +kernel
theorem dX8_isServerAdded_9 : decode cX8_isServerAdded 9 = .ok (.aload_n 0, 1) := by decide +kernel
theorem dX8_isServerAdded_10 : decode cX8_isServerAdded 10 = .ok (.iload_n 1, 1) := by decide +kernel
theorem dX8_isServerAdded_11 : decode cX8_isServerAdded 11 = .ok (.iconst 2, 1) := by decide +kernel
theorem dX8_isServerAdded_12 : decode cX8_isServerAdded 12 = .ok (.iadd, 1) := by decide +kernel
theorem dX8_isServerAdded_13 : decode cX8_isServerAdded 13 = .ok (.invokestatic 28, 3) := by decide +kernel
theorem dX8_isServerAdded_16 : decode cX8_isServerAdded 16 = .ok (.istore 5, 2) := by decide +kernel
theorem dX8_isServerAdded_18 : decode cX8_isServerAdded 18 = .ok (.aload_n 0, 1) := by decide +kernel
theorem dX8_isServerAdded_19 : decode cX8_isServerAdded 19 = .ok (.iload_n 1, 1) := by decide +kernel
theorem dX8_isServerAdded_20 : decode cX8_isServerAdded 20 = .ok (.iconst 3, 1) := by decide +kernel
theorem dX8_isServerAdded_21 : decode cX8_isServerAdded 21 = .ok (.iadd, 1) := by decide +kernel
theorem dX8_isServerAdded_22 : decode cX8_isServerAdded 22 = .ok (.invokestatic 40, 3) := by decide +kernel
theorem dX8_isServerAdded_25 : decode cX8_isServerAdded 25 = .ok (.istore 6, 2) := by decide +kernel
theorem dX8_isServerAdded_27 : decode cX8_isServerAdded 27 = .ok (.aload_n 0, 1) := by decide +kernel
theorem dX8_isServerAdded_28 : decode cX8_isServerAdded 28 = .ok (.iload_n 1, 1) := by decide +kernel
theorem dX8_isServerAdded_29 : decode cX8_isServerAdded 29 = .ok (.iconst 5, 1) := by decide +kernel
theorem dX8_isServerAdded_30 : decode cX8_isServerAdded 30 = .ok (.iadd, 1) := by decide +kernel
theorem dX8_isServerAdded_31 : decode cX8_isServerAdded 31 = .ok (.invokestatic 40, 3) := by decide +kernel
theorem dX8_isServerAdded_34 : decode cX8_isServerAdded 34 = .ok (.istore 7, 2) := by decide +kernel
theorem dX8_isServerAdded_36 : decode cX8_isServerAdded 36 = .ok (.iload 4, 2) := by decide +kernel
theorem dX8_isServerAdded_38 : decode cX8_isServerAdded 38 = .ok (.iconst 0, 1) := by decide +kernel
theorem dX8_isServerAdded_39 : decode cX8_isServerAdded 39 = .ok (.aload_n 3, 1) := by decide +kernel
theorem dX8_isServerAdded_40 : decode cX8_isServerAdded 40 = .ok (.arraylength, 1) := by decide +kernel
theorem dX8_isServerAdded_41 : decode cX8_isServerAdded 41 = .ok (.iconst 1, 1) := by decide +kernel
theorem dX8_isServerAdded_42 : decode cX8_isServerAdded 42 = .ok (.isub, 1) := by decide +kernel
theorem dX8_isServerAdded_43 : decode cX8_isServerAdded 43 = .ok (.invokestatic 24, 3) := by decide +kernel
theorem dX8_isServerAdded_46 : decode cX8_isServerAdded 46 = .ok (.ifCond .eq 22, 3) := by decide +kernel
theorem dX8_isServerAdded_49 : decode cX8_isServerAdded 49 = .ok (.iload 6, 2) := by decide +kernel
theorem dX8_isServerAdded_51 : decode cX8_isServerAdded 51 = .ok (.iload 7, 2) := by decide +kernel
theorem dX8_isServerAdded_53 : decode cX8_isServerAdded 53 = .ok (.invokestatic 52, 3) := by decide +kernel
theorem dX8_isServerAdded_56 : decode cX8_isServerAdded 56 = .ok (.ifCond .eq 12, 3) := by decide +kernel
theorem dX8_isServerAdded_59 : decode cX8_isServerAdded 59 = .ok (.aload_n 2, 1) := by decide +kernel
theorem dX8_isServerAdded_60 : decode cX8_isServerAdded 60 = .ok (.getfield 56, 3) := by decide +kernel
theorem dX8_isServerAdded_63 : decode cX8_isServerAdded 63 = .ok (.bipush 6, 2) := by decide +kernel
theorem dX8_isServerAdded_65 : decode cX8_isServerAdded 65 = .ok (.if_icmp .lt 5, 3) := by decide +kernel
theorem dX8_isServerAdded_68 : decode cX8_isServerAdded 68 = .ok (.iconst 0, 1) := by decide +kernel
theorem dX8_isServerAdded_69 : decode cX8_isServerAdded 69 = .ok (.ireturn, 1) := by decide +kernel
theorem dX8_isServerAdded_70 : decode cX8_isServerAdded 70 = .ok (.aload_n 2, 1) := by decide +kernel
theorem dX8_isServerAdded_71 : decode cX8_isServerAdded 71 = .ok (.aload_n 3, 1) := by decide +kernel
theorem dX8_isServerAdded_72 : decode cX8_isServerAdded 72 = .ok (.iload 4, 2) := by decide +kernel
theorem dX8_isServerAdded_74 : decode cX8_isServerAdded 74 = .ok (.aaload, 1) := by decide +kernel
theorem dX8_isServerAdded_75 : decode cX8_isServerAdded 75 = .ok (.iload 5, 2) := by decide +kernel
theorem dX8_isServerAdded_77 : decode cX8_isServerAdded 77 = .ok (.iload 6, 2) := by decide +kernel
theorem dX8_isServerAdded_79 : decode cX8_isServerAdded 79 = .ok (.iload 7, 2) := by decide +kernel
theorem dX8_isServerAdded_81 : decode cX8_isServerAdded 81 = .ok (.invokevirtual 59, 3) := by decide +kernel
theorem dX8_isServerAdded_84 : decode cX8_isServerAdded 84 = .ok (.iconst 1, 1) := by decide +kernel
theorem dX8_isServerAdded_85 : decode cX8_isServerAdded 85 = .ok (.ireturn, 1) := by decide +kernel
set_option maxRecDepth 20000 in
theorem ggX8_isJobSent_X8_digit : GoodIn wsX8_isJobSent wsX8_digit := goodIn_r _ [6, 7, 8, 9, 10, 11, 12, 13, 14, 15, 55, 56, 57, 58, 59, 60] rfl gwX8_digit
set_option maxRecDepth 20000 in
theorem gX8_isJobSent_X8_digit : GoodIn wsX8_isJobSent (va_wsS RX8 28 yX8_digit wsX8_digit) := goodIn_app (goodIn_r _ [3, 4, 5] rfl (by decide +kernel)) ggX8_isJobSent_X8_digit
set_option maxRecDepth 20000 in
theorem gwX3_sendingRefusal : wsX3_sendingRefusal.all goodWord = true := by decide +kernel
set_option maxRecDepth 20000 in
theorem ggX8_isJobSent_X3_sendingRefusal : GoodIn wsX8_isJobSent wsX3_sendingRefusal := goodIn_r _ [20, 21, 22, 23, 24, 19, 25, 26, 13, 14, 15, 27, 28, 29, 30, 31, 32, 50, 51, 52, 53, 54, 61, 62, 63, 64, 65, 66, 67, 68, 69, 70, 71, 72, 73, 74, 75] rfl gwX3_sendingRefusal
set_option maxRecDepth 20000 in
theorem gX8_isJobSent_X3_sendingRefusal : GoodIn wsX8_isJobSent (wsV RX8 63 RX3 yX3_sendingRefusal wsX3_sendingRefusal) := goodIn_app (goodIn_r _ [16, 17, 18, 19] rfl (by decide +kernel)) ggX8_isJobSent_X3_sendingRefusal
set_option maxRecDepth 20000 in
theorem gwX5_takeJob : wsX5_takeJob.all goodWord = true := by decide +kernel
set_option maxRecDepth 20000 in
theorem ggX8_isJobSent_X5_takeJob : GoodIn wsX8_isJobSent wsX5_takeJob := goodIn_r _ [36, 37, 32, 38, 39, 40, 41, 42, 43, 44, 45, 28, 29, 30, 31, 46, 47, 48, 49, 61, 62, 63, 64, 65, 66, 67, 68, 69, 70, 71, 72, 73, 74, 75] rfl gwX5_takeJob
set_option maxRecDepth 20000 in
theorem gX8_isJobSent_X5_takeJob : GoodIn wsX8_isJobSent (wsV RX8 74 RX5 yX5_takeJob wsX5_takeJob) := goodIn_app (goodIn_r _ [33, 34, 35, 30] rfl (by decide +kernel)) ggX8_isJobSent_X5_takeJob
theorem dX8_isJobSent_0 : decode cX8_isJobSent 0 = .ok (.aload_n 0, 1) := by decide +kernel
theorem dX8_isJobSent_1 : decode cX8_isJobSent 1 = .ok (.iload_n 1, 1) := by decide +kernel
theorem dX8_isJobSent_2 : decode cX8_isJobSent 2 = .ok (.iconst 1, 1) := by decide +kernel
theorem dX8_isJobSent_3 : decode cX8_isJobSent 3 = .ok (.iadd, 1) := by decide +kernel
theorem dX8_isJobSent_4 : decode cX8_isJobSent 4 = .ok (.invokestatic 28, 3) := by decide +kernel
theorem dX8_isJobSent_7 : decode cX8_isJobSent 7 = .ok (.istore_n 3, 1) := by decide +kernel
theorem dX8_isJobSent_8 : decode cX8_isJobSent 8 = .ok (.aload_n 0, 1) := by decide +kernel
theorem dX8_isJobSent_9 : decode cX8_isJobSent 9 = .ok (.iload_n 1, 1) := by decide +kernel
theorem dX8_isJobSent_10 : decode cX8_isJobSent 10 = .ok (.iconst 2, 1) := by decide +kernel
theorem dX8_isJobSent_11 : decode cX8_isJobSent 11 = .ok (.iadd, 1) := by decide +kernel
theorem dX8_isJobSent_12 : decode cX8_isJobSent 12 = .ok (.invokestatic 28, 3) := by decide +kernel
theorem dX8_isJobSent_15 : decode cX8_isJobSent 15 = .ok (.istore 4, 2) := by decide +kernel
theorem dX8_isJobSent_17 : decode cX8_isJobSent 17 = .ok (.aload_n 0, 1) := by decide +kernel
theorem dX8_isJobSent_18 : decode cX8_isJobSent 18 = .ok (.iload_n 1, 1) := by decide +kernel
theorem dX8_isJobSent_19 : decode cX8_isJobSent 19 = .ok (.iconst 3, 1) := by decide +kernel
theorem dX8_isJobSent_20 : decode cX8_isJobSent 20 = .ok (.iadd, 1) := by decide +kernel
theorem dX8_isJobSent_21 : decode cX8_isJobSent 21 = .ok (.invokestatic 28, 3) := by decide +kernel
theorem dX8_isJobSent_24 : decode cX8_isJobSent 24 = .ok (.istore 5, 2) := by decide +kernel
theorem dX8_isJobSent_26 : decode cX8_isJobSent 26 = .ok (.aload_n 2, 1) := by decide +kernel
theorem dX8_isJobSent_27 : decode cX8_isJobSent 27 = .ok (.iload_n 3, 1) := by decide +kernel
theorem dX8_isJobSent_28 : decode cX8_isJobSent 28 = .ok (.iload 4, 2) := by decide +kernel
theorem dX8_isJobSent_30 : decode cX8_isJobSent 30 = .ok (.iload 5, 2) := by decide +kernel
theorem dX8_isJobSent_32 : decode cX8_isJobSent 32 = .ok (.invokevirtual 63, 3) := by decide +kernel
theorem dX8_isJobSent_35 : decode cX8_isJobSent 35 = .ok (.ifCond .eq 5, 3) := by decide +kernel
theorem dX8_isJobSent_38 : decode cX8_isJobSent 38 = .ok (.iconst 0, 1) := by decide +kernel
theorem dX8_isJobSent_39 : decode cX8_isJobSent 39 = .ok (.ireturn, 1) := by decide +kernel
theorem dX8_isJobSent_40 : decode cX8_isJobSent 40 = .ok (.aload_n 2, 1) := by decide +kernel
theorem dX8_isJobSent_41 : decode cX8_isJobSent 41 = .ok (.getfield 67, 3) := by decide +kernel
theorem dX8_isJobSent_44 : decode cX8_isJobSent 44 = .ok (.iload_n 3, 1) := by decide +kernel
theorem dX8_isJobSent_45 : decode cX8_isJobSent 45 = .ok (.aaload, 1) := by decide +kernel
theorem dX8_isJobSent_46 : decode cX8_isJobSent 46 = .ok (.iload 4, 2) := by decide +kernel
theorem dX8_isJobSent_48 : decode cX8_isJobSent 48 = .ok (.iload 5, 2) := by decide +kernel
theorem dX8_isJobSent_50 : decode cX8_isJobSent 50 = .ok (.aload_n 2, 1) := by decide +kernel
theorem dX8_isJobSent_51 : decode cX8_isJobSent 51 = .ok (.getfield 71, 3) := by decide +kernel
theorem dX8_isJobSent_54 : decode cX8_isJobSent 54 = .ok (.invokevirtual 74, 3) := by decide +kernel
theorem dX8_isJobSent_57 : decode cX8_isJobSent 57 = .ok (.iconst 1, 1) := by decide +kernel
theorem dX8_isJobSent_58 : decode cX8_isJobSent 58 = .ok (.ireturn, 1) := by decide +kernel
set_option maxRecDepth 20000 in
theorem gwX4_init : wsX4_init.all goodWord = true := by decide +kernel
set_option maxRecDepth 20000 in
theorem ggX9_init_X4_init : GoodIn wsX9_init wsX4_init := goodIn_r _ [4, 5, 6, 7, 8, 9, 10, 11, 12, 13, 14, 15, 16, 17, 18, 19, 20, 21, 22, 23, 24, 25] rfl gwX4_init
set_option maxRecDepth 20000 in
theorem gX9_init_X4_init : GoodIn wsX9_init (wsX4_init) := ggX9_init_X4_init
theorem dX9_init_0 : decode cX9_init 0 = .ok (.aload_n 0, 1) := by decide +kernel
theorem dX9_init_1 : decode cX9_init 1 = .ok (.iload_n 1, 1) := by decide +kernel
theorem dX9_init_2 : decode cX9_init 2 = .ok (.aload_n 2, 1) := by decide +kernel
theorem dX9_init_3 : decode cX9_init 3 = .ok (.invokespecial 1, 3) := by decide +kernel
theorem dX9_init_6 : decode cX9_init 6 = .ok (.return_, 1) := by decide +kernel
theorem dX9_wake_0 : decode cX9_wake 0 = .ok (.aload_n 1, 1) := by decide +kernel
theorem dX9_wake_1 : decode cX9_wake 1 = .ok (.getfield 7, 3) := by decide +kernel
theorem dX9_wake_4 : decode cX9_wake 4 = .ok (.iconst 0, 1) := by decide +kernel
theorem dX9_wake_5 : decode cX9_wake 5 = .ok (.invokestatic 13, 3) := by decide +kernel
theorem dX9_wake_8 : decode cX9_wake 8 = .ok (.istore_n 2, 1) := by decide +kernel
theorem dX9_wake_9 : decode cX9_wake 9 = .ok (.aload_n 0, 1) := by decide +kernel
theorem dX9_wake_10 : decode cX9_wake 10 = .ok (.aload_n 1, 1) := by decide +kernel
theorem dX9_wake_11 : decode cX9_wake 11 = .ok (.invokespecial 19, 3) := by decide +kernel
theorem dX9_wake_14 : decode cX9_wake 14 = .ok (.aload_n 1, 1) := by decide +kernel
theorem dX9_wake_15 : decode cX9_wake 15 = .ok (.dup, 1) := by decide +kernel
theorem dX9_wake_16 : decode cX9_wake 16 = .ok (.getfield 7, 3) := by decide +kernel
theorem dX9_wake_19 : decode cX9_wake 19 = .ok (.iload_n 2, 1) := by decide +kernel
theorem dX9_wake_20 : decode cX9_wake 20 = .ok (.iadd, 1) := by decide +kernel
theorem dX9_wake_21 : decode cX9_wake 21 = .ok (.putfield 7, 3) := by decide +kernel
theorem dX9_wake_24 : decode cX9_wake 24 = .ok (.return_, 1) := by decide +kernel
set_option maxRecDepth 20000 in
theorem gwX4_worth : wsX4_worth.all goodWord = true := by decide +kernel
set_option maxRecDepth 20000 in
theorem ggX9_worth_X4_worth : GoodIn wsX9_worth wsX4_worth := goodIn_r _ [6] rfl gwX4_worth
set_option maxRecDepth 20000 in
theorem gX9_worth_X4_worth_s23 : GoodIn wsX9_worth (va_wsSU RX9 23 yX4_worth wsX4_worth) := goodIn_app (goodIn_r _ [1, 2, 3, 4, 5] rfl (by decide +kernel)) ggX9_worth_X4_worth
theorem dX9_worth_0 : decode cX9_worth 0 = .ok (.aload_n 0, 1) := by decide +kernel
theorem dX9_worth_1 : decode cX9_worth 1 = .ok (.iload_n 1, 1) := by decide +kernel
theorem dX9_worth_2 : decode cX9_worth 2 = .ok (.invokespecial 23, 3) := by decide +kernel
theorem dX9_worth_5 : decode cX9_worth 5 = .ok (.iconst 1, 1) := by decide +kernel
theorem dX9_worth_6 : decode cX9_worth 6 = .ok (.iadd, 1) := by decide +kernel
theorem dX9_worth_7 : decode cX9_worth 7 = .ok (.ireturn, 1) := by decide +kernel
theorem dX9_fail_0 : decode cX9_fail 0 = .ok (.iload_n 1, 1) := by decide +kernel
theorem dX9_fail_1 : decode cX9_fail 1 = .ok (.ifCond .eq 11, 3) := by decide +kernel
theorem dX9_fail_4 : decode cX9_fail 4 = .ok (.new 27, 3) := by decide +kernel
theorem dX9_fail_7 : decode cX9_fail 7 = .ok (.dup, 1) := by decide +kernel
theorem dX9_fail_8 : decode cX9_fail 8 = .ok (.invokespecial 29, 3) := by decide +kernel
theorem dX9_fail_11 : decode cX9_fail 11 = .ok (.athrow, 1) := by decide +kernel
theorem dX9_fail_12 : decode cX9_fail 12 = .ok (.return_, 1) := by decide +kernel
theorem dX10_init_0 : decode cX10_init 0 = .ok (.aload_n 0, 1) := by decide +kernel
theorem dX10_init_1 : decode cX10_init 1 = .ok (.invokespecial 3, 3) := by decide +kernel
theorem dX10_init_4 : decode cX10_init 4 = .ok (.aload_n 0, 1) := by decide +kernel
theorem dX10_init_5 : decode cX10_init 5 = .ok (.bipush 20, 2) := by decide +kernel
theorem dX10_init_7 : decode cX10_init 7 = .ok (.newarray .int, 2) := by decide +kernel
theorem dX10_init_9 : decode cX10_init 9 = .ok (.putfield 9, 3) := by decide +kernel
theorem dX10_init_12 : decode cX10_init 12 = .ok (.aload_n 0, 1) := by decide +kernel
theorem dX10_init_13 : decode cX10_init 13 = .ok (.aload_n 1, 1) := by decide +kernel
theorem dX10_init_14 : decode cX10_init 14 = .ok (.putfield 15, 3) := by decide +kernel
theorem dX10_init_17 : decode cX10_init 17 = .ok (.return_, 1) := by decide +kernel
set_option maxRecDepth 20000 in
theorem ggX10_becomeEmpty_J7_fill_53178 : GoodIn wsX10_becomeEmpty wsJ7_fill_53178 := goodIn_r _ [8] rfl gwJ7_fill_53178
set_option maxRecDepth 20000 in
theorem gX10_becomeEmpty_J7_fill_53178 : GoodIn wsX10_becomeEmpty (va_wsS RX10 27 yJ7_fill_53178 wsJ7_fill_53178) := goodIn_app (goodIn_r _ [5, 6, 7] rfl (by decide +kernel)) ggX10_becomeEmpty_J7_fill_53178
theorem dX10_becomeEmpty_0 : decode cX10_becomeEmpty 0 = .ok (.aload_n 0, 1) := by decide +kernel
theorem dX10_becomeEmpty_1 : decode cX10_becomeEmpty 1 = .ok (.iconst 1, 1) := by decide +kernel
theorem dX10_becomeEmpty_2 : decode cX10_becomeEmpty 2 = .ok (.putfield 19, 3) := by decide +kernel
theorem dX10_becomeEmpty_5 : decode cX10_becomeEmpty 5 = .ok (.aload_n 0, 1) := by decide +kernel
theorem dX10_becomeEmpty_6 : decode cX10_becomeEmpty 6 = .ok (.aload_n 1, 1) := by decide +kernel
theorem dX10_becomeEmpty_7 : decode cX10_becomeEmpty 7 = .ok (.putfield 15, 3) := by decide +kernel
theorem dX10_becomeEmpty_10 : decode cX10_becomeEmpty 10 = .ok (.aload_n 0, 1) := by decide +kernel
theorem dX10_becomeEmpty_11 : decode cX10_becomeEmpty 11 = .ok (.iload_n 2, 1) := by decide +kernel
theorem dX10_becomeEmpty_12 : decode cX10_becomeEmpty 12 = .ok (.putfield 23, 3) := by decide +kernel
theorem dX10_becomeEmpty_15 : decode cX10_becomeEmpty 15 = .ok (.aload_n 0, 1) := by decide +kernel
theorem dX10_becomeEmpty_16 : decode cX10_becomeEmpty 16 = .ok (.getfield 9, 3) := by decide +kernel
theorem dX10_becomeEmpty_19 : decode cX10_becomeEmpty 19 = .ok (.bipush (-4), 2) := by decide +kernel
theorem dX10_becomeEmpty_21 : decode cX10_becomeEmpty 21 = .ok (.invokestatic 27, 3) := by decide +kernel
theorem dX10_becomeEmpty_24 : decode cX10_becomeEmpty 24 = .ok (.return_, 1) := by decide +kernel
theorem dX10_becomeLike_0 : decode cX10_becomeLike 0 = .ok (.aload_n 0, 1) := by decide +kernel
theorem dX10_becomeLike_1 : decode cX10_becomeLike 1 = .ok (.aload_n 1, 1) := by decide +kernel
theorem dX10_becomeLike_2 : decode cX10_becomeLike 2 = .ok (.getfield 19, 3) := by decide +kernel
theorem dX10_becomeLike_5 : decode cX10_becomeLike 5 = .ok (.putfield 19, 3) := by decide +kernel
theorem dX10_becomeLike_8 : decode cX10_becomeLike 8 = .ok (.aload_n 0, 1) := by decide +kernel
theorem dX10_becomeLike_9 : decode cX10_becomeLike 9 = .ok (.aload_n 1, 1) := by decide +kernel
theorem dX10_becomeLike_10 : decode cX10_becomeLike 10 = .ok (.getfield 15, 3) := by decide +kernel
theorem dX10_becomeLike_13 : decode cX10_becomeLike 13 = .ok (.putfield 15, 3) := by decide +kernel
theorem dX10_becomeLike_16 : decode cX10_becomeLike 16 = .ok (.aload_n 0, 1) := by decide +kernel
theorem dX10_becomeLike_17 : decode cX10_becomeLike 17 = .ok (.aload_n 1, 1) := by decide +kernel
theorem dX10_becomeLike_18 : decode cX10_becomeLike 18 = .ok (.getfield 23, 3) := by decide +kernel
theorem dX10_becomeLike_21 : decode cX10_becomeLike 21 = .ok (.putfield 23, 3) := by decide +kernel
theorem dX10_becomeLike_24 : decode cX10_becomeLike 24 = .ok (.aload_n 1, 1) := by decide +kernel
theorem dX10_becomeLike_25 : decode cX10_becomeLike 25 = .ok (.getfield 9, 3) := by decide +kernel
theorem dX10_becomeLike_28 : decode cX10_becomeLike 28 = .ok (.iconst 0, 1) := by decide +kernel
theorem dX10_becomeLike_29 : decode cX10_becomeLike 29 = .ok (.aload_n 0, 1) := by decide +kernel
theorem dX10_becomeLike_30 : decode cX10_becomeLike 30 = .ok (.getfield 9, 3) := by decide +kernel
theorem dX10_becomeLike_33 : decode cX10_becomeLike 33 = .ok (.iconst 0, 1) := by decide +kernel
theorem dX10_becomeLike_34 : decode cX10_becomeLike 34 = .ok (.bipush 20, 2) := by decide +kernel
theorem dX10_becomeLike_36 : decode cX10_becomeLike 36 = .ok (.invokestatic 33, 3) := by decide +kernel
theorem dX10_becomeLike_39 : decode cX10_becomeLike 39 = .ok (.return_, 1) := by decide +kernel
set_option maxRecDepth 20000 in
theorem ggX10_hasPlace_X11_within : GoodIn wsX10_hasPlace wsX11_within := goodIn_r _ [4] rfl gwX11_within
set_option maxRecDepth 20000 in
theorem gX10_hasPlace_X11_within_n39 : GoodIn wsX10_hasPlace (wsX11_within) := ggX10_hasPlace_X11_within
theorem dX10_hasPlace_0 : decode cX10_hasPlace 0 = .ok (.iload_n 1, 1) := by decide +kernel
theorem dX10_hasPlace_1 : decode cX10_hasPlace 1 = .ok (.iconst 0, 1) := by decide +kernel
theorem dX10_hasPlace_2 : decode cX10_hasPlace 2 = .ok (.aload_n 0, 1) := by decide +kernel
theorem dX10_hasPlace_3 : decode cX10_hasPlace 3 = .ok (.getfield 23, 3) := by decide +kernel
theorem dX10_hasPlace_6 : decode cX10_hasPlace 6 = .ok (.iconst 1, 1) := by decide +kernel
theorem dX10_hasPlace_7 : decode cX10_hasPlace 7 = .ok (.isub, 1) := by decide +kernel
theorem dX10_hasPlace_8 : decode cX10_hasPlace 8 = .ok (.invokestatic 39, 3) := by decide +kernel
theorem dX10_hasPlace_11 : decode cX10_hasPlace 11 = .ok (.ireturn, 1) := by decide +kernel
set_option maxRecDepth 20000 in
theorem ggX11_init_X1_init : GoodIn wsX11_init wsX1_init := goodIn_r _ [43, 44, 2, 3, 45, 46, 99, 100, 97, 98, 105, 106, 101, 102, 103, 104, 107, 108] rfl gwX1_init
set_option maxRecDepth 20000 in
theorem gX11_init_X1_init : GoodIn wsX11_init (wsX1_init) := ggX11_init_X1_init
set_option maxRecDepth 20000 in
theorem ggX11_init_X0_init : GoodIn wsX11_init wsX0_init := goodIn_r _ [49, 50, 42, 6, 43, 44, 2, 3, 45, 46, 99, 100, 97, 98, 105, 106, 101, 102, 103, 104, 107, 108] rfl gwX0_init
set_option maxRecDepth 20000 in
theorem gX11_init_X0_init : GoodIn wsX11_init (wsX0_init) := ggX11_init_X0_init
set_option maxRecDepth 20000 in
theorem ggX11_init_X4_init : GoodIn wsX11_init wsX4_init := goodIn_r _ [53, 54, 42, 6, 43, 44, 2, 3, 45, 46, 99, 100, 97, 98, 105, 106, 101, 102, 103, 104, 107, 108] rfl gwX4_init
set_option maxRecDepth 20000 in
theorem gX11_init_X4_init : GoodIn wsX11_init (wsX4_init) := ggX11_init_X4_init
set_option maxRecDepth 20000 in
theorem gwX7_init : wsX7_init.all goodWord = true := by decide +kernel
set_option maxRecDepth 20000 in
theorem ggX11_init_X7_init : GoodIn wsX11_init wsX7_init := goodIn_r _ [57, 58, 48, 9, 49, 50, 42, 6, 43, 44, 2, 3, 45, 46, 99, 100, 97, 98, 105, 106, 101, 102, 103, 104, 107, 108] rfl gwX7_init
set_option maxRecDepth 20000 in
theorem gX11_init_X7_init : GoodIn wsX11_init (wsX7_init) := ggX11_init_X7_init
set_option maxRecDepth 20000 in
theorem gwX2_init : wsX2_init.all goodWord = true := by decide +kernel
set_option maxRecDepth 20000 in
theorem ggX11_init_X2_init : GoodIn wsX11_init wsX2_init := goodIn_r _ [61, 62, 48, 9, 49, 50, 42, 6, 43, 44, 2, 3, 45, 46, 99, 100, 97, 98, 105, 106, 101, 102, 103, 104, 107, 108] rfl gwX2_init
set_option maxRecDepth 20000 in
theorem gX11_init_X2_init : GoodIn wsX11_init (wsX2_init) := ggX11_init_X2_init
set_option maxRecDepth 20000 in
theorem gwX9_init : wsX9_init.all goodWord = true := by decide +kernel
set_option maxRecDepth 20000 in
theorem ggX11_init_X9_init : GoodIn wsX11_init wsX9_init := goodIn_r _ [65, 66, 52, 12, 53, 54, 42, 6, 43, 44, 2, 3, 45, 46, 99, 100, 97, 98, 105, 106, 101, 102, 103, 104, 107, 108] rfl gwX9_init
set_option maxRecDepth 20000 in
theorem gX11_init_X9_init : GoodIn wsX11_init (wsX9_init) := ggX11_init_X9_init
set_option maxRecDepth 20000 in
theorem gwX3_init : wsX3_init.all goodWord = true := by decide +kernel
set_option maxRecDepth 20000 in
theorem ggX11_init_X3_init : GoodIn wsX11_init wsX3_init := goodIn_r _ [69, 70, 2, 3, 71, 72, 73, 74, 75, 76, 77, 78, 79, 80, 37, 81, 82, 83, 120, 121, 122, 123, 124, 135, 136, 137, 138, 139, 140, 141, 142, 143, 144, 145, 146, 147, 148, 149] rfl gwX3_init
set_option maxRecDepth 20000 in
theorem gX11_init_X3_init : GoodIn wsX11_init (wsX3_init) := ggX11_init_X3_init
set_option maxRecDepth 20000 in
theorem gwX6_init : wsX6_init.all goodWord = true := by decide +kernel
set_option maxRecDepth 20000 in
theorem ggX11_init_X6_init : GoodIn wsX11_init wsX6_init := goodIn_r _ [86, 87, 2, 3, 88, 37, 89, 90, 125, 126, 127, 128, 129, 130] rfl gwX6_init
set_option maxRecDepth 20000 in
theorem gX11_init_X6_init : GoodIn wsX11_init (wsX6_init) := ggX11_init_X6_init
set_option maxRecDepth 20000 in
theorem gwX10_init : wsX10_init.all goodWord = true := by decide +kernel
set_option maxRecDepth 20000 in
theorem ggX11_init_X10_init : GoodIn wsX11_init wsX10_init := goodIn_r _ [93, 94, 2, 3, 37, 95, 96, 131, 132, 133, 134] rfl gwX10_init
set_option maxRecDepth 20000 in
theorem gX11_init_X10_init : GoodIn wsX11_init (wsX10_init) := ggX11_init_X10_init
theorem dX11_init_0 : decode cX11_init 0 = .ok (.aload_n 0, 1) := by decide +kernel
theorem dX11_init_1 : decode cX11_init 1 = .ok (.invokespecial 1, 3) := by decide +kernel
theorem dX11_init_4 : decode cX11_init 4 = .ok (.new 7, 3) := by decide +kernel
theorem dX11_init_7 : decode cX11_init 7 = .ok (.dup, 1) := by decide +kernel
theorem dX11_init_8 : decode cX11_init 8 = .ok (.iconst 0, 1) := by decide +kernel
theorem dX11_init_9 : decode cX11_init 9 = .ok (.aconst_null, 1) := by decide +kernel
theorem dX11_init_10 : decode cX11_init 10 = .ok (.invokespecial 9, 3) := by decide +kernel
theorem dX11_init_13 : decode cX11_init 13 = .ok (.astore_n 1, 1) := by decide +kernel
theorem dX11_init_14 : decode cX11_init 14 = .ok (.new 12, 3) := by decide +kernel
theorem dX11_init_17 : decode cX11_init 17 = .ok (.dup, 1) := by decide +kernel
theorem dX11_init_18 : decode cX11_init 18 = .ok (.iconst 1, 1) := by decide +kernel
theorem dX11_init_19 : decode cX11_init 19 = .ok (.aload_n 1, 1) := by decide +kernel
theorem dX11_init_20 : decode cX11_init 20 = .ok (.invokespecial 14, 3) := by decide +kernel
theorem dX11_init_23 : decode cX11_init 23 = .ok (.astore_n 2, 1) := by decide +kernel
theorem dX11_init_24 : decode cX11_init 24 = .ok (.new 15, 3) := by decide +kernel
theorem dX11_init_27 : decode cX11_init 27 = .ok (.dup, 1) := by decide +kernel
theorem dX11_init_28 : decode cX11_init 28 = .ok (.iconst 2, 1) := by decide +kernel
theorem dX11_init_29 : decode cX11_init 29 = .ok (.aload_n 1, 1) := by decide +kernel
theorem dX11_init_30 : decode cX11_init 30 = .ok (.invokespecial 17, 3) := by decide +kernel
theorem dX11_init_33 : decode cX11_init 33 = .ok (.astore_n 3, 1) := by decide +kernel
theorem dX11_init_34 : decode cX11_init 34 = .ok (.aload_n 0, 1) := by decide +kernel
theorem dX11_init_35 : decode cX11_init 35 = .ok (.bipush 6, 2) := by decide +kernel
theorem dX11_init_37 : decode cX11_init 37 = .ok (.anewarray 7, 3) := by decide +kernel
theorem dX11_init_40 : decode cX11_init 40 = .ok (.dup, 1) := by decide +kernel
theorem dX11_init_41 : decode cX11_init 41 = .ok (.iconst 0, 1) := by decide +kernel
theorem dX11_init_42 : decode cX11_init 42 = .ok (.aload_n 1, 1) := by decide +kernel
theorem dX11_init_43 : decode cX11_init 43 = .ok (.aastore, 1) := by decide +kernel
theorem dX11_init_44 : decode cX11_init 44 = .ok (.dup, 1) := by decide +kernel
theorem dX11_init_45 : decode cX11_init 45 = .ok (.iconst 1, 1) := by decide +kernel
theorem dX11_init_46 : decode cX11_init 46 = .ok (.aload_n 2, 1) := by decide +kernel
theorem dX11_init_47 : decode cX11_init 47 = .ok (.aastore, 1) := by decide +kernel
theorem dX11_init_48 : decode cX11_init 48 = .ok (.dup, 1) := by decide +kernel
theorem dX11_init_49 : decode cX11_init 49 = .ok (.iconst 2, 1) := by decide +kernel
theorem dX11_init_50 : decode cX11_init 50 = .ok (.aload_n 3, 1) := by decide +kernel
theorem dX11_init_51 : decode cX11_init 51 = .ok (.aastore, 1) := by decide +kernel
theorem dX11_init_52 : decode cX11_init 52 = .ok (.dup, 1) := by decide +kernel
theorem dX11_init_53 : decode cX11_init 53 = .ok (.iconst 3, 1) := by decide +kernel
theorem dX11_init_54 : decode cX11_init 54 = .ok (.new 18, 3) := by decide +kernel
theorem dX11_init_57 : decode cX11_init 57 = .ok (.dup, 1) := by decide +kernel
theorem dX11_init_58 : decode cX11_init 58 = .ok (.iconst 3, 1) := by decide +kernel
theorem dX11_init_59 : decode cX11_init 59 = .ok (.aload_n 2, 1) := by decide +kernel
theorem dX11_init_60 : decode cX11_init 60 = .ok (.invokespecial 20, 3) := by decide +kernel
theorem dX11_init_63 : decode cX11_init 63 = .ok (.aastore, 1) := by decide +kernel
theorem dX11_init_64 : decode cX11_init 64 = .ok (.dup, 1) := by decide +kernel
theorem dX11_init_65 : decode cX11_init 65 = .ok (.iconst 4, 1) := by decide +kernel
theorem dX11_init_66 : decode cX11_init 66 = .ok (.new 21, 3) := by decide +kernel
theorem dX11_init_69 : decode cX11_init 69 = .ok (.dup, 1) := by decide +kernel
theorem dX11_init_70 : decode cX11_init 70 = .ok (.iconst 4, 1) := by decide +kernel
theorem dX11_init_71 : decode cX11_init 71 = .ok (.aload_n 2, 1) := by decide +kernel
theorem dX11_init_72 : decode cX11_init 72 = .ok (.invokespecial 23, 3) := by decide +kernel
theorem dX11_init_75 : decode cX11_init 75 = .ok (.aastore, 1) := by decide +kernel
theorem dX11_init_76 : decode cX11_init 76 = .ok (.dup, 1) := by decide +kernel
theorem dX11_init_77 : decode cX11_init 77 = .ok (.iconst 5, 1) := by decide +kernel
theorem dX11_init_78 : decode cX11_init 78 = .ok (.new 24, 3) := by decide +kernel
theorem dX11_init_81 : decode cX11_init 81 = .ok (.dup, 1) := by decide +kernel
theorem dX11_init_82 : decode cX11_init 82 = .ok (.iconst 5, 1) := by decide +kernel
theorem dX11_init_83 : decode cX11_init 83 = .ok (.aload_n 3, 1) := by decide +kernel
theorem dX11_init_84 : decode cX11_init 84 = .ok (.invokespecial 26, 3) := by decide +kernel
theorem dX11_init_87 : decode cX11_init 87 = .ok (.aastore, 1) := by decide +kernel
theorem dX11_init_88 : decode cX11_init 88 = .ok (.putfield 27, 3) := by decide +kernel
theorem dX11_init_91 : decode cX11_init 91 = .ok (.aload_n 0, 1) := by decide +kernel
theorem dX11_init_92 : decode cX11_init 92 = .ok (.new 33, 3) := by decide +kernel
theorem dX11_init_95 : decode cX11_init 95 = .ok (.dup, 1) := by decide +kernel
theorem dX11_init_96 : decode cX11_init 96 = .ok (.aload_n 1, 1) := by decide +kernel
theorem dX11_init_97 : decode cX11_init 97 = .ok (.invokespecial 35, 3) := by decide +kernel
theorem dX11_init_100 : decode cX11_init 100 = .ok (.putfield 38, 3) := by decide +kernel
theorem dX11_init_103 : decode cX11_init 103 = .ok (.aload_n 0, 1) := by decide +kernel
theorem dX11_init_104 : decode cX11_init 104 = .ok (.new 33, 3) := by decide +kernel
theorem dX11_init_107 : decode cX11_init 107 = .ok (.dup, 1) := by decide +kernel
theorem dX11_init_108 : decode cX11_init 108 = .ok (.aload_n 1, 1) := by decide +kernel
theorem dX11_init_109 : decode cX11_init 109 = .ok (.invokespecial 35, 3) := by decide +kernel
theorem dX11_init_112 : decode cX11_init 112 = .ok (.putfield 42, 3) := by decide +kernel
theorem dX11_init_115 : decode cX11_init 115 = .ok (.aload_n 0, 1) := by decide +kernel
theorem dX11_init_116 : decode cX11_init 116 = .ok (.new 33, 3) := by decide +kernel
theorem dX11_init_119 : decode cX11_init 119 = .ok (.dup, 1) := by decide +kernel
theorem dX11_init_120 : decode cX11_init 120 = .ok (.aload_n 1, 1) := by decide +kernel
theorem dX11_init_121 : decode cX11_init 121 = .ok (.invokespecial 35, 3) := by decide +kernel
theorem dX11_init_124 : decode cX11_init 124 = .ok (.putfield 45, 3) := by decide +kernel
theorem dX11_init_127 : decode cX11_init 127 = .ok (.aload_n 0, 1) := by decide +kernel
theorem dX11_init_128 : decode cX11_init 128 = .ok (.bipush 8, 2) := by decide +kernel
theorem dX11_init_130 : decode cX11_init 130 = .ok (.anewarray 48, 3) := by decide +kernel
theorem dX11_init_133 : decode cX11_init 133 = .ok (.putfield 50, 3) := by decide +kernel
theorem dX11_init_136 : decode cX11_init 136 = .ok (.iconst 0, 1) := by decide +kernel
theorem dX11_init_137 : decode cX11_init 137 = .ok (.istore 4, 2) := by decide +kernel
theorem dX11_init_139 : decode cX11_init 139 = .ok (.iload 4, 2) := by decide +kernel
theorem dX11_init_141 : decode cX11_init 141 = .ok (.bipush 8, 2) := by decide +kernel
theorem dX11_init_143 : decode cX11_init 143 = .ok (.if_icmp .ge 24, 3) := by decide +kernel
theorem dX11_init_146 : decode cX11_init 146 = .ok (.aload_n 0, 1) := by decide +kernel
theorem dX11_init_147 : decode cX11_init 147 = .ok (.getfield 50, 3) := by decide +kernel
theorem dX11_init_150 : decode cX11_init 150 = .ok (.iload 4, 2) := by decide +kernel
theorem dX11_init_152 : decode cX11_init 152 = .ok (.new 48, 3) := by decide +kernel
theorem dX11_init_155 : decode cX11_init 155 = .ok (.dup, 1) := by decide +kernel
theorem dX11_init_156 : decode cX11_init 156 = .ok (.aload_n 1, 1) := by decide +kernel
theorem dX11_init_157 : decode cX11_init 157 = .ok (.invokespecial 54, 3) := by decide +kernel
theorem dX11_init_160 : decode cX11_init 160 = .ok (.aastore, 1) := by decide +kernel
theorem dX11_init_161 : decode cX11_init 161 = .ok (.iinc 4 1, 3) := by decide +kernel
theorem dX11_init_164 : decode cX11_init 164 = .ok (.goto (-25), 3) := by decide +kernel
theorem dX11_init_167 : decode cX11_init 167 = .ok (.aload_n 0, 1) := by decide +kernel
theorem dX11_init_168 : decode cX11_init 168 = .ok (.iconst 4, 1) := by decide +kernel
theorem dX11_init_169 : decode cX11_init 169 = .ok (.anewarray 55, 3) := by decide +kernel
theorem dX11_init_172 : decode cX11_init 172 = .ok (.putfield 57, 3) := by decide +kernel
theorem dX11_init_175 : decode cX11_init 175 = .ok (.iconst 0, 1) := by decide +kernel
theorem dX11_init_176 : decode cX11_init 176 = .ok (.istore 4, 2) := by decide +kernel
theorem dX11_init_178 : decode cX11_init 178 = .ok (.iload 4, 2) := by decide +kernel
theorem dX11_init_180 : decode cX11_init 180 = .ok (.iconst 4, 1) := by decide +kernel
theorem dX11_init_181 : decode cX11_init 181 = .ok (.if_icmp .ge 24, 3) := by decide +kernel
theorem dX11_init_184 : decode cX11_init 184 = .ok (.aload_n 0, 1) := by decide +kernel
theorem dX11_init_185 : decode cX11_init 185 = .ok (.getfield 57, 3) := by decide +kernel
theorem dX11_init_188 : decode cX11_init 188 = .ok (.iload 4, 2) := by decide +kernel
theorem dX11_init_190 : decode cX11_init 190 = .ok (.new 55, 3) := by decide +kernel
theorem dX11_init_193 : decode cX11_init 193 = .ok (.dup, 1) := by decide +kernel
theorem dX11_init_194 : decode cX11_init 194 = .ok (.aload_n 1, 1) := by decide +kernel
theorem dX11_init_195 : decode cX11_init 195 = .ok (.invokespecial 61, 3) := by decide +kernel
theorem dX11_init_198 : decode cX11_init 198 = .ok (.aastore, 1) := by decide +kernel
theorem dX11_init_199 : decode cX11_init 199 = .ok (.iinc 4 1, 3) := by decide +kernel
theorem dX11_init_202 : decode cX11_init 202 = .ok (.goto (-24), 3) := by decide +kernel
theorem dX11_init_205 : decode cX11_init 205 = .ok (.aload_n 0, 1) := by decide +kernel
theorem dX11_init_206 : decode cX11_init 206 = .ok (.iconst 4, 1) := by decide +kernel
theorem dX11_init_207 : decode cX11_init 207 = .ok (.newarray .int, 2) := by decide +kernel
theorem dX11_init_209 : decode cX11_init 209 = .ok (.putfield 62, 3) := by decide +kernel
theorem dX11_init_212 : decode cX11_init 212 = .ok (.aload_n 0, 1) := by decide +kernel
theorem dX11_init_213 : decode cX11_init 213 = .ok (.iconst 4, 1) := by decide +kernel
theorem dX11_init_214 : decode cX11_init 214 = .ok (.newarray .int, 2) := by decide +kernel
theorem dX11_init_216 : decode cX11_init 216 = .ok (.putfield 66, 3) := by decide +kernel
theorem dX11_init_219 : decode cX11_init 219 = .ok (.aload_n 0, 1) := by decide +kernel
theorem dX11_init_220 : decode cX11_init 220 = .ok (.bipush 6, 2) := by decide +kernel
theorem dX11_init_222 : decode cX11_init 222 = .ok (.newarray .int, 2) := by decide +kernel
theorem dX11_init_224 : decode cX11_init 224 = .ok (.putfield 69, 3) := by decide +kernel
theorem dX11_init_227 : decode cX11_init 227 = .ok (.return_, 1) := by decide +kernel
set_option maxRecDepth 20000 in
theorem gwX11_rowRefusal : wsX11_rowRefusal.all goodWord = true := by decide +kernel
set_option maxRecDepth 20000 in
theorem ggX11_text_X11_rowRefusal : GoodIn wsX11_text wsX11_rowRefusal := goodIn_r _ [11, 12, 13, 14, 10, 15, 1, 16, 17, 18, 19, 20, 21, 22, 257, 258, 259, 260, 261, 262, 263, 264, 265, 266, 267, 268, 269, 270, 271, 272, 273] rfl gwX11_rowRefusal
set_option maxRecDepth 20000 in
theorem gX11_text_X11_rowRefusal : GoodIn wsX11_text (wsV RX11 72 RX11 yX11_rowRefusal wsX11_rowRefusal) := goodIn_app (goodIn_r _ [7, 8, 9, 10] rfl (by decide +kernel)) ggX11_text_X11_rowRefusal
set_option maxRecDepth 20000 in
theorem gwX8_firstBadByte : wsX8_firstBadByte.all goodWord = true := by decide +kernel
set_option maxRecDepth 20000 in
theorem ggX11_text_X8_firstBadByte : GoodIn wsX11_text wsX8_firstBadByte := goodIn_r _ [26, 27, 28, 29, 30, 31, 32, 33, 21, 10, 22, 34, 35, 25, 36, 268, 269, 270, 271, 272, 273] rfl gwX8_firstBadByte
set_option maxRecDepth 20000 in
theorem gX11_text_X8_firstBadByte : GoodIn wsX11_text (va_wsS RX11 80 yX8_firstBadByte wsX8_firstBadByte) := goodIn_app (goodIn_r _ [23, 24, 25] rfl (by decide +kernel)) ggX11_text_X8_firstBadByte
set_option maxRecDepth 20000 in
theorem gwX3_becomes : wsX3_becomes.all goodWord = true := by decide +kernel
set_option maxRecDepth 20000 in
theorem ggX11_text_X3_becomes : GoodIn wsX11_text wsX3_becomes := goodIn_r _ [41, 42, 43, 44, 45, 46, 47, 48, 49, 50, 51, 52, 53, 54, 55, 56, 57, 58, 59, 60, 61, 62, 63, 64, 274, 275, 276, 277, 278, 279, 280, 281, 282, 283, 284, 285, 286, 287, 288, 289, 290, 291, 292, 293] rfl gwX3_becomes
set_option maxRecDepth 20000 in
theorem gX11_text_X3_becomes : GoodIn wsX11_text (wsV RX11 86 RX3 yX3_becomes wsX3_becomes) := goodIn_app (goodIn_r _ [37, 38, 39, 40] rfl (by decide +kernel)) ggX11_text_X3_becomes
set_option maxRecDepth 20000 in
theorem gwX8_isDone : wsX8_isDone.all goodWord = true := by decide +kernel
set_option maxRecDepth 20000 in
theorem ggX11_text_X8_isDone : GoodIn wsX11_text wsX8_isDone := goodIn_r _ [67, 28, 29, 30, 31, 32, 33, 21, 10, 22, 68, 69, 25, 70, 71, 72, 73, 74, 75, 76, 77, 78, 79, 20, 80, 81, 82, 40, 83, 42, 44, 84, 85, 86, 48, 87, 50, 51, 55, 56, 58, 59, 88, 89, 90, 91, 60, 63, 57, 92, 93, 94, 95, 52, 53, 54, 96, 97, 98, 99, 100, 101, 102, 103, 104, 105, 106, 107, 108, 109, 110, 111, 112, 113, 114, 115, 116, 117, 118, 61, 62, 64, 119, 120, 121, 122, 123, 124, 125, 126, 127, 43, 128, 129, 130, 131, 132, 133, 134, 135, 136, 137, 138, 139, 140, 141, 142, 143, 144, 145, 146, 147, 148, 149, 150, 151, 152, 153, 154, 155, 156, 157, 158, 159, 160, 161, 162, 163, 164, 165, 166, 167, 168, 169, 170, 171, 172, 173, 174, 175, 176, 177, 178, 179, 180, 181, 182, 183, 184, 185, 186, 187, 188, 189, 190, 191, 192, 193, 194, 195, 196, 197, 198, 199, 200, 201, 202, 203, 204, 205, 206, 207, 208, 209, 210, 211, 212, 213, 214, 215, 216, 217, 218, 219, 220, 221, 222, 223, 224, 225, 226, 227, 228, 229, 230, 231, 232, 233, 234, 235, 236, 237, 238, 239, 240, 241, 242, 243, 244, 245, 246, 247, 248, 249, 250, 251, 252, 268, 269, 270, 271, 272, 273, 274, 275, 276, 277, 278, 279, 280, 281, 282, 283, 284, 285, 286, 287, 288, 289, 290, 291, 292, 293] rfl gwX8_isDone
set_option maxRecDepth 20000 in
theorem gX11_text_X8_isDone : GoodIn wsX11_text (va_wsS RX11 93 yX8_isDone wsX8_isDone) := goodIn_app (goodIn_r _ [65, 66, 25] rfl (by decide +kernel)) ggX11_text_X8_isDone
set_option maxRecDepth 20000 in
theorem ggX11_text_X6_at : GoodIn wsX11_text wsX6_at := goodIn_r _ [32, 33, 21, 10, 22, 268, 269, 270, 271, 272, 273] rfl gwX6_at
set_option maxRecDepth 20000 in
theorem gX11_text_X6_at : GoodIn wsX11_text (wsV RX11 97 RX6 yX6_at wsX6_at) := goodIn_app (goodIn_r _ [253, 29, 30, 31] rfl (by decide +kernel)) ggX11_text_X6_at
set_option maxRecDepth 20000 in
theorem gwX8_lengthFrom : wsX8_lengthFrom.all goodWord = true := by decide +kernel
set_option maxRecDepth 20000 in
theorem ggX11_text_X8_lengthFrom : GoodIn wsX11_text wsX8_lengthFrom := goodIn_r _ [256, 34, 35, 25, 36] rfl gwX8_lengthFrom
set_option maxRecDepth 20000 in
theorem gX11_text_X8_lengthFrom : GoodIn wsX11_text (va_wsS RX11 100 yX8_lengthFrom wsX8_lengthFrom) := goodIn_app (goodIn_r _ [254, 255, 25] rfl (by decide +kernel)) ggX11_text_X8_lengthFrom
theorem dX11_text_0 : decode cX11_text 0 = .ok (.aload_n 0, 1) := by decide +kernel
theorem dX11_text_1 : decode cX11_text 1 = .ok (.iload_n 1, 1) := by decide +kernel
theorem dX11_text_2 : decode cX11_text 2 = .ok (.invokevirtual 72, 3) := by decide +kernel
theorem dX11_text_5 : decode cX11_text 5 = .ok (.istore_n 2, 1) := by decide +kernel
theorem dX11_text_6 : decode cX11_text 6 = .ok (.iload_n 2, 1) := by decide +kernel
theorem dX11_text_7 : decode cX11_text 7 = .ok (.ifCond .eq 5, 3) := by decide +kernel
theorem dX11_text_10 : decode cX11_text 10 = .ok (.iload_n 2, 1) := by decide +kernel
theorem dX11_text_11 : decode cX11_text 11 = .ok (.ireturn, 1) := by decide +kernel
theorem dX11_text_12 : decode cX11_text 12 = .ok (.aload_n 0, 1) := by decide +kernel
theorem dX11_text_13 : decode cX11_text 13 = .ok (.getfield 50, 3) := by decide +kernel
theorem dX11_text_16 : decode cX11_text 16 = .ok (.iload_n 1, 1) := by decide +kernel
theorem dX11_text_17 : decode cX11_text 17 = .ok (.aaload, 1) := by decide +kernel
theorem dX11_text_18 : decode cX11_text 18 = .ok (.astore_n 3, 1) := by decide +kernel
theorem dX11_text_19 : decode cX11_text 19 = .ok (.aload_n 3, 1) := by decide +kernel
theorem dX11_text_20 : decode cX11_text 20 = .ok (.getfield 76, 3) := by decide +kernel
theorem dX11_text_23 : decode cX11_text 23 = .ok (.ifCond .eq 6, 3) := by decide +kernel
theorem dX11_text_26 : decode cX11_text 26 = .ok (.bipush (-12), 2) := by decide +kernel
theorem dX11_text_28 : decode cX11_text 28 = .ok (.ireturn, 1) := by decide +kernel
theorem dX11_text_29 : decode cX11_text 29 = .ok (.aload_n 3, 1) := by decide +kernel
theorem dX11_text_30 : decode cX11_text 30 = .ok (.invokestatic 80, 3) := by decide +kernel
theorem dX11_text_33 : decode cX11_text 33 = .ok (.istore 4, 2) := by decide +kernel
theorem dX11_text_35 : decode cX11_text 35 = .ok (.iload 4, 2) := by decide +kernel
theorem dX11_text_37 : decode cX11_text 37 = .ok (.bipush (-4), 2) := by decide +kernel
theorem dX11_text_39 : decode cX11_text 39 = .ok (.if_icmp .eq 10, 3) := by decide +kernel
theorem dX11_text_42 : decode cX11_text 42 = .ok (.sipush (-1000), 3) := by decide +kernel
theorem dX11_text_45 : decode cX11_text 45 = .ok (.iload 4, 2) := by decide +kernel
theorem dX11_text_47 : decode cX11_text 47 = .ok (.isub, 1) := by decide +kernel
theorem dX11_text_48 : decode cX11_text 48 = .ok (.ireturn, 1) := by decide +kernel
theorem dX11_text_49 : decode cX11_text 49 = .ok (.aload_n 0, 1) := by decide +kernel
theorem dX11_text_50 : decode cX11_text 50 = .ok (.getfield 42, 3) := by decide +kernel
theorem dX11_text_53 : decode cX11_text 53 = .ok (.aload_n 0, 1) := by decide +kernel
theorem dX11_text_54 : decode cX11_text 54 = .ok (.getfield 38, 3) := by decide +kernel
theorem dX11_text_57 : decode cX11_text 57 = .ok (.invokevirtual 86, 3) := by decide +kernel
theorem dX11_text_60 : decode cX11_text 60 = .ok (.iconst 0, 1) := by decide +kernel
theorem dX11_text_61 : decode cX11_text 61 = .ok (.istore 5, 2) := by decide +kernel
theorem dX11_text_63 : decode cX11_text 63 = .ok (.iconst 0, 1) := by decide +kernel
theorem dX11_text_64 : decode cX11_text 64 = .ok (.istore 6, 2) := by decide +kernel
theorem dX11_text_66 : decode cX11_text 66 = .ok (.iconst 0, 1) := by decide +kernel
theorem dX11_text_67 : decode cX11_text 67 = .ok (.istore 7, 2) := by decide +kernel
theorem dX11_text_69 : decode cX11_text 69 = .ok (.iload 7, 2) := by decide +kernel
theorem dX11_text_71 : decode cX11_text 71 = .ok (.aload_n 3, 1) := by decide +kernel
theorem dX11_text_72 : decode cX11_text 72 = .ok (.getfield 90, 3) := by decide +kernel
theorem dX11_text_75 : decode cX11_text 75 = .ok (.if_icmp .ge 59, 3) := by decide +kernel
theorem dX11_text_78 : decode cX11_text 78 = .ok (.iload 6, 2) := by decide +kernel
theorem dX11_text_80 : decode cX11_text 80 = .ok (.aload_n 3, 1) := by decide +kernel
theorem dX11_text_81 : decode cX11_text 81 = .ok (.getfield 90, 3) := by decide +kernel
theorem dX11_text_84 : decode cX11_text 84 = .ok (.if_icmp .ge 50, 3) := by decide +kernel
theorem dX11_text_87 : decode cX11_text 87 = .ok (.aload_n 3, 1) := by decide +kernel
theorem dX11_text_88 : decode cX11_text 88 = .ok (.iload 6, 2) := by decide +kernel
theorem dX11_text_90 : decode cX11_text 90 = .ok (.aload_n 0, 1) := by decide +kernel
theorem dX11_text_91 : decode cX11_text 91 = .ok (.getfield 42, 3) := by decide +kernel
theorem dX11_text_94 : decode cX11_text 94 = .ok (.aload_n 0, 1) := by decide +kernel
theorem dX11_text_95 : decode cX11_text 95 = .ok (.getfield 27, 3) := by decide +kernel
theorem dX11_text_98 : decode cX11_text 98 = .ok (.invokestatic 93, 3) := by decide +kernel
theorem dX11_text_101 : decode cX11_text 101 = .ok (.ifCond .ne 10, 3) := by decide +kernel
theorem dX11_text_104 : decode cX11_text 104 = .ok (.sipush (-2000), 3) := by decide +kernel
theorem dX11_text_107 : decode cX11_text 107 = .ok (.iload 6, 2) := by decide +kernel
theorem dX11_text_109 : decode cX11_text 109 = .ok (.isub, 1) := by decide +kernel
theorem dX11_text_110 : decode cX11_text 110 = .ok (.ireturn, 1) := by decide +kernel
theorem dX11_text_111 : decode cX11_text 111 = .ok (.iinc 5 1, 3) := by decide +kernel
theorem dX11_text_114 : decode cX11_text 114 = .ok (.iload 6, 2) := by decide +kernel
theorem dX11_text_116 : decode cX11_text 116 = .ok (.aload_n 3, 1) := by decide +kernel
theorem dX11_text_117 : decode cX11_text 117 = .ok (.iload 6, 2) := by decide +kernel
theorem dX11_text_119 : decode cX11_text 119 = .ok (.invokevirtual 97, 3) := by decide +kernel
theorem dX11_text_122 : decode cX11_text 122 = .ok (.invokestatic 100, 3) := by decide +kernel
theorem dX11_text_125 : decode cX11_text 125 = .ok (.iadd, 1) := by decide +kernel
theorem dX11_text_126 : decode cX11_text 126 = .ok (.istore 6, 2) := by decide +kernel
theorem dX11_text_128 : decode cX11_text 128 = .ok (.iinc 7 1, 3) := by decide +kernel
theorem dX11_text_131 : decode cX11_text 131 = .ok (.goto (-62), 3) := by decide +kernel
theorem dX11_text_134 : decode cX11_text 134 = .ok (.aload_n 0, 1) := by decide +kernel
theorem dX11_text_135 : decode cX11_text 135 = .ok (.getfield 38, 3) := by decide +kernel
theorem dX11_text_138 : decode cX11_text 138 = .ok (.aload_n 0, 1) := by decide +kernel
theorem dX11_text_139 : decode cX11_text 139 = .ok (.getfield 42, 3) := by decide +kernel
theorem dX11_text_142 : decode cX11_text 142 = .ok (.invokevirtual 86, 3) := by decide +kernel
theorem dX11_text_145 : decode cX11_text 145 = .ok (.iload 5, 2) := by decide +kernel
theorem dX11_text_147 : decode cX11_text 147 = .ok (.ireturn, 1) := by decide +kernel
set_option maxRecDepth 20000 in
theorem ggX11_server_X3_has : GoodIn wsX11_server wsX3_has := goodIn_r _ [19, 20, 21, 22, 23, 80, 81, 82, 83, 84] rfl gwX3_has
set_option maxRecDepth 20000 in
theorem gX11_server_X3_has : GoodIn wsX11_server (wsV RX11 103 RX3 yX3_has wsX3_has) := goodIn_app (goodIn_r _ [15, 16, 17, 18] rfl (by decide +kernel)) ggX11_server_X3_has
set_option maxRecDepth 20000 in
theorem ggX11_server_X3_loadOfAll : GoodIn wsX11_server wsX3_loadOfAll := goodIn_r _ [27, 20, 28, 29, 30, 80, 81, 82, 83, 84, 85, 86, 87, 88, 89, 90, 91, 92, 93, 94, 95, 96, 97, 98, 99] rfl gwX3_loadOfAll
set_option maxRecDepth 20000 in
theorem gX11_server_X3_loadOfAll : GoodIn wsX11_server (wsV RX11 150 RX3 yX3_loadOfAll wsX3_loadOfAll) := goodIn_app (goodIn_r _ [24, 25, 26, 18] rfl (by decide +kernel)) ggX11_server_X3_loadOfAll
set_option maxRecDepth 20000 in
theorem ggX11_server_X0_pays : GoodIn wsX11_server wsX0_pays := goodIn_r _ [37, 38, 39, 40, 41, 42, 43, 44, 45, 85, 86, 87, 88, 89, 90, 91, 92, 93, 94, 95, 96, 97, 98, 99] rfl gwX0_pays
set_option maxRecDepth 20000 in
theorem gX11_server_X0_pays_u154X0 : GoodIn wsX11_server (va_wsO RX11 154 RX0 "GreedyServers$Hard" ⟨"GreedyServers$Hard", "pays", "(LGreedyServers$Server;I)I"⟩ yX0_pays wsX0_pays) := goodIn_app (goodIn_r _ [31, 32, 33, 34, 35, 36] rfl (by decide +kernel)) ggX11_server_X0_pays
set_option maxRecDepth 20000 in
theorem ggX11_server_X1_pays : GoodIn wsX11_server wsX1_pays := goodIn_r _ [46] rfl gwX1_pays
set_option maxRecDepth 20000 in
theorem gX11_server_X1_pays : GoodIn wsX11_server (wsV RX11 154 RX1 yX1_pays wsX1_pays) := goodIn_app (goodIn_r _ [31, 33, 49, 50] rfl (by decide +kernel)) ggX11_server_X1_pays
set_option maxRecDepth 20000 in
theorem ggX11_server_X2_pays : GoodIn wsX11_server wsX2_pays := goodIn_r _ [54, 55, 56, 57, 35, 36, 37, 38, 39, 40, 41, 42, 43, 44, 45, 85, 86, 87, 88, 89, 90, 91, 92, 93, 94, 95, 96, 97, 98, 99] rfl gwX2_pays
set_option maxRecDepth 20000 in
theorem gX11_server_X2_pays_u154X2 : GoodIn wsX11_server (va_wsO RX11 154 RX2 "GreedyServers$Hard" ⟨"GreedyServers$Hard", "pays", "(LGreedyServers$Server;I)I"⟩ yX2_pays wsX2_pays) := goodIn_app (goodIn_r _ [31, 32, 33, 51, 52, 53] rfl (by decide +kernel)) ggX11_server_X2_pays
set_option maxRecDepth 20000 in
theorem gX11_server_X1_pays_u154X4 : GoodIn wsX11_server (va_wsU RX11 154 RX4 "GreedyServers$Hard" ⟨"GreedyServers$Hard", "pays", "(LGreedyServers$Server;I)I"⟩ yX1_pays wsX1_pays) := goodIn_app (goodIn_r _ [31, 32, 58, 33, 50] rfl (by decide +kernel)) ggX11_server_X1_pays
set_option maxRecDepth 20000 in
theorem ggX11_server_X7_pays : GoodIn wsX11_server wsX7_pays := goodIn_r _ [62, 63, 64, 65, 40, 41, 42, 66, 56, 67, 35, 36, 37, 38, 39, 43, 44, 45, 85, 86, 87, 88, 89, 90, 91, 92, 93, 94, 95, 96, 97, 98, 99] rfl gwX7_pays
set_option maxRecDepth 20000 in
theorem gX11_server_X7_pays_u154X7 : GoodIn wsX11_server (va_wsO RX11 154 RX7 "GreedyServers$Hard" ⟨"GreedyServers$Hard", "pays", "(LGreedyServers$Server;I)I"⟩ yX7_pays wsX7_pays) := goodIn_app (goodIn_r _ [31, 32, 33, 59, 60, 61] rfl (by decide +kernel)) ggX11_server_X7_pays
set_option maxRecDepth 20000 in
theorem gX11_server_X1_pays_u154X9 : GoodIn wsX11_server (va_wsU RX11 154 RX9 "GreedyServers$Hard" ⟨"GreedyServers$Hard", "pays", "(LGreedyServers$Server;I)I"⟩ yX1_pays wsX1_pays) := goodIn_app (goodIn_r _ [31, 32, 68, 33, 50] rfl (by decide +kernel)) ggX11_server_X1_pays
theorem dX11_server_0 : decode cX11_server 0 = .ok (.aload_n 0, 1) := by decide +kernel
theorem dX11_server_1 : decode cX11_server 1 = .ok (.getfield 38, 3) := by decide +kernel
theorem dX11_server_4 : decode cX11_server 4 = .ok (.iload_n 1, 1) := by decide +kernel
theorem dX11_server_5 : decode cX11_server 5 = .ok (.invokevirtual 103, 3) := by decide +kernel
theorem dX11_server_8 : decode cX11_server 8 = .ok (.ifCond .ne 5, 3) := by decide +kernel
theorem dX11_server_11 : decode cX11_server 11 = .ok (.iconst (-1), 1) := by decide +kernel
theorem dX11_server_12 : decode cX11_server 12 = .ok (.ireturn, 1) := by decide +kernel
theorem dX11_server_13 : decode cX11_server 13 = .ok (.aload_n 0, 1) := by decide +kernel
theorem dX11_server_14 : decode cX11_server 14 = .ok (.getfield 38, 3) := by decide +kernel
theorem dX11_server_17 : decode cX11_server 17 = .ok (.getfield 107, 3) := by decide +kernel
theorem dX11_server_20 : decode cX11_server 20 = .ok (.iload_n 1, 1) := by decide +kernel
theorem dX11_server_21 : decode cX11_server 21 = .ok (.aaload, 1) := by decide +kernel
theorem dX11_server_22 : decode cX11_server 22 = .ok (.astore_n 3, 1) := by decide +kernel
theorem dX11_server_23 : decode cX11_server 23 = .ok (.iload_n 2, 1) := by decide +kernel
theorem dX11_server_24 : decode cX11_server 24 = .ok (.tableswitch 142 0 11 #[64, 72, 77, 82, 87, 92, 101, 106, 111, 116, 121, 126], 64) := by decide +kernel
theorem dX11_server_88 : decode cX11_server 88 = .ok (.aload_n 3, 1) := by decide +kernel
theorem dX11_server_89 : decode cX11_server 89 = .ok (.getfield 111, 3) := by decide +kernel
theorem dX11_server_92 : decode cX11_server 92 = .ok (.getfield 117, 3) := by decide +kernel
theorem dX11_server_95 : decode cX11_server 95 = .ok (.ireturn, 1) := by decide +kernel
theorem dX11_server_96 : decode cX11_server 96 = .ok (.aload_n 3, 1) := by decide +kernel
theorem dX11_server_97 : decode cX11_server 97 = .ok (.getfield 120, 3) := by decide +kernel
theorem dX11_server_100 : decode cX11_server 100 = .ok (.ireturn, 1) := by decide +kernel
theorem dX11_server_101 : decode cX11_server 101 = .ok (.aload_n 3, 1) := by decide +kernel
theorem dX11_server_102 : decode cX11_server 102 = .ok (.getfield 123, 3) := by decide +kernel
theorem dX11_server_105 : decode cX11_server 105 = .ok (.ireturn, 1) := by decide +kernel
theorem dX11_server_106 : decode cX11_server 106 = .ok (.aload_n 3, 1) := by decide +kernel
theorem dX11_server_107 : decode cX11_server 107 = .ok (.getfield 126, 3) := by decide +kernel
theorem dX11_server_110 : decode cX11_server 110 = .ok (.ireturn, 1) := by decide +kernel
theorem dX11_server_111 : decode cX11_server 111 = .ok (.aload_n 3, 1) := by decide +kernel
theorem dX11_server_112 : decode cX11_server 112 = .ok (.getfield 129, 3) := by decide +kernel
theorem dX11_server_115 : decode cX11_server 115 = .ok (.ireturn, 1) := by decide +kernel
theorem dX11_server_116 : decode cX11_server 116 = .ok (.aload_n 3, 1) := by decide +kernel
theorem dX11_server_117 : decode cX11_server 117 = .ok (.getfield 132, 3) := by decide +kernel
theorem dX11_server_120 : decode cX11_server 120 = .ok (.sipush 10000, 3) := by decide +kernel
theorem dX11_server_123 : decode cX11_server 123 = .ok (.iadd, 1) := by decide +kernel
theorem dX11_server_124 : decode cX11_server 124 = .ok (.ireturn, 1) := by decide +kernel
theorem dX11_server_125 : decode cX11_server 125 = .ok (.aload_n 3, 1) := by decide +kernel
theorem dX11_server_126 : decode cX11_server 126 = .ok (.getfield 135, 3) := by decide +kernel
theorem dX11_server_129 : decode cX11_server 129 = .ok (.ireturn, 1) := by decide +kernel
theorem dX11_server_130 : decode cX11_server 130 = .ok (.aload_n 3, 1) := by decide +kernel
theorem dX11_server_131 : decode cX11_server 131 = .ok (.getfield 138, 3) := by decide +kernel
theorem dX11_server_134 : decode cX11_server 134 = .ok (.ireturn, 1) := by decide +kernel
theorem dX11_server_135 : decode cX11_server 135 = .ok (.aload_n 3, 1) := by decide +kernel
theorem dX11_server_136 : decode cX11_server 136 = .ok (.getfield 141, 3) := by decide +kernel
theorem dX11_server_139 : decode cX11_server 139 = .ok (.ireturn, 1) := by decide +kernel
theorem dX11_server_140 : decode cX11_server 140 = .ok (.aload_n 3, 1) := by decide +kernel
theorem dX11_server_141 : decode cX11_server 141 = .ok (.getfield 144, 3) := by decide +kernel
theorem dX11_server_144 : decode cX11_server 144 = .ok (.ireturn, 1) := by decide +kernel
theorem dX11_server_145 : decode cX11_server 145 = .ok (.aload_n 3, 1) := by decide +kernel
theorem dX11_server_146 : decode cX11_server 146 = .ok (.getfield 147, 3) := by decide +kernel
theorem dX11_server_149 : decode cX11_server 149 = .ok (.ireturn, 1) := by decide +kernel
theorem dX11_server_150 : decode cX11_server 150 = .ok (.aload_n 3, 1) := by decide +kernel
theorem dX11_server_151 : decode cX11_server 151 = .ok (.getfield 111, 3) := by decide +kernel
theorem dX11_server_154 : decode cX11_server 154 = .ok (.aload_n 3, 1) := by decide +kernel
theorem dX11_server_155 : decode cX11_server 155 = .ok (.aload_n 0, 1) := by decide +kernel
theorem dX11_server_156 : decode cX11_server 156 = .ok (.getfield 38, 3) := by decide +kernel
theorem dX11_server_159 : decode cX11_server 159 = .ok (.invokevirtual 150, 3) := by decide +kernel
theorem dX11_server_162 : decode cX11_server 162 = .ok (.invokevirtual 154, 3) := by decide +kernel
theorem dX11_server_165 : decode cX11_server 165 = .ok (.ireturn, 1) := by decide +kernel
theorem dX11_server_166 : decode cX11_server 166 = .ok (.iconst (-1), 1) := by decide +kernel
theorem dX11_server_167 : decode cX11_server 167 = .ok (.ireturn, 1) := by decide +kernel
set_option maxRecDepth 20000 in
theorem ggX11_job_X3_has : GoodIn wsX11_job wsX3_has := goodIn_r _ [12, 13, 14, 15, 16, 29, 30, 31, 32, 33] rfl gwX3_has
set_option maxRecDepth 20000 in
theorem gX11_job_X3_has : GoodIn wsX11_job (wsV RX11 103 RX3 yX3_has wsX3_has) := goodIn_app (goodIn_r _ [8, 9, 10, 11] rfl (by decide +kernel)) ggX11_job_X3_has
set_option maxRecDepth 20000 in
theorem ggX11_job_X11_within : GoodIn wsX11_job wsX11_within := goodIn_r _ [16] rfl gwX11_within
set_option maxRecDepth 20000 in
theorem gX11_job_X11_within : GoodIn wsX11_job (va_wsS RX11 158 yX11_within wsX11_within) := goodIn_app (goodIn_r _ [17, 14, 15] rfl (by decide +kernel)) ggX11_job_X11_within
theorem dX11_job_0 : decode cX11_job 0 = .ok (.aload_n 0, 1) := by decide +kernel
theorem dX11_job_1 : decode cX11_job 1 = .ok (.getfield 38, 3) := by decide +kernel
theorem dX11_job_4 : decode cX11_job 4 = .ok (.iload_n 1, 1) := by decide +kernel
theorem dX11_job_5 : decode cX11_job 5 = .ok (.invokevirtual 103, 3) := by decide +kernel
theorem dX11_job_8 : decode cX11_job 8 = .ok (.ifCond .eq 25, 3) := by decide +kernel
theorem dX11_job_11 : decode cX11_job 11 = .ok (.iload_n 2, 1) := by decide +kernel
theorem dX11_job_12 : decode cX11_job 12 = .ok (.iconst 0, 1) := by decide +kernel
theorem dX11_job_13 : decode cX11_job 13 = .ok (.aload_n 0, 1) := by decide +kernel
theorem dX11_job_14 : decode cX11_job 14 = .ok (.getfield 38, 3) := by decide +kernel
theorem dX11_job_17 : decode cX11_job 17 = .ok (.getfield 107, 3) := by decide +kernel
theorem dX11_job_20 : decode cX11_job 20 = .ok (.iload_n 1, 1) := by decide +kernel
theorem dX11_job_21 : decode cX11_job 21 = .ok (.aaload, 1) := by decide +kernel
theorem dX11_job_22 : decode cX11_job 22 = .ok (.getfield 141, 3) := by decide +kernel
theorem dX11_job_25 : decode cX11_job 25 = .ok (.iconst 1, 1) := by decide +kernel
theorem dX11_job_26 : decode cX11_job 26 = .ok (.isub, 1) := by decide +kernel
theorem dX11_job_27 : decode cX11_job 27 = .ok (.invokestatic 158, 3) := by decide +kernel
theorem dX11_job_30 : decode cX11_job 30 = .ok (.ifCond .ne 5, 3) := by decide +kernel
theorem dX11_job_33 : decode cX11_job 33 = .ok (.iconst (-1), 1) := by decide +kernel
theorem dX11_job_34 : decode cX11_job 34 = .ok (.ireturn, 1) := by decide +kernel
theorem dX11_job_35 : decode cX11_job 35 = .ok (.aload_n 0, 1) := by decide +kernel
theorem dX11_job_36 : decode cX11_job 36 = .ok (.getfield 38, 3) := by decide +kernel
theorem dX11_job_39 : decode cX11_job 39 = .ok (.getfield 107, 3) := by decide +kernel
theorem dX11_job_42 : decode cX11_job 42 = .ok (.iload_n 1, 1) := by decide +kernel
theorem dX11_job_43 : decode cX11_job 43 = .ok (.aaload, 1) := by decide +kernel
theorem dX11_job_44 : decode cX11_job 44 = .ok (.astore 4, 2) := by decide +kernel
theorem dX11_job_46 : decode cX11_job 46 = .ok (.iload_n 3, 1) := by decide +kernel
theorem dX11_job_47 : decode cX11_job 47 = .ok (.tableswitch 78 0 3 #[29, 37, 45, 63], 29) := by decide +kernel
theorem dX11_job_76 : decode cX11_job 76 = .ok (.aload 4, 2) := by decide +kernel
theorem dX11_job_78 : decode cX11_job 78 = .ok (.getfield 162, 3) := by decide +kernel
theorem dX11_job_81 : decode cX11_job 81 = .ok (.iload_n 2, 1) := by decide +kernel
theorem dX11_job_82 : decode cX11_job 82 = .ok (.iaload, 1) := by decide +kernel
theorem dX11_job_83 : decode cX11_job 83 = .ok (.ireturn, 1) := by decide +kernel
theorem dX11_job_84 : decode cX11_job 84 = .ok (.aload 4, 2) := by decide +kernel
theorem dX11_job_86 : decode cX11_job 86 = .ok (.getfield 165, 3) := by decide +kernel
theorem dX11_job_89 : decode cX11_job 89 = .ok (.iload_n 2, 1) := by decide +kernel
theorem dX11_job_90 : decode cX11_job 90 = .ok (.iaload, 1) := by decide +kernel
theorem dX11_job_91 : decode cX11_job 91 = .ok (.ireturn, 1) := by decide +kernel
theorem dX11_job_92 : decode cX11_job 92 = .ok (.iload_n 2, 1) := by decide +kernel
theorem dX11_job_93 : decode cX11_job 93 = .ok (.ifCond .ne 15, 3) := by decide +kernel
theorem dX11_job_96 : decode cX11_job 96 = .ok (.aload 4, 2) := by decide +kernel
theorem dX11_job_98 : decode cX11_job 98 = .ok (.getfield 168, 3) := by decide +kernel
theorem dX11_job_101 : decode cX11_job 101 = .ok (.ifCond .eq 7, 3) := by decide +kernel
theorem dX11_job_104 : decode cX11_job 104 = .ok (.iconst 1, 1) := by decide +kernel
theorem dX11_job_105 : decode cX11_job 105 = .ok (.goto 4, 3) := by decide +kernel
theorem dX11_job_108 : decode cX11_job 108 = .ok (.iconst 0, 1) := by decide +kernel
theorem dX11_job_109 : decode cX11_job 109 = .ok (.ireturn, 1) := by decide +kernel
theorem dX11_job_110 : decode cX11_job 110 = .ok (.iload_n 2, 1) := by decide +kernel
theorem dX11_job_111 : decode cX11_job 111 = .ok (.ifCond .ne 11, 3) := by decide +kernel
theorem dX11_job_114 : decode cX11_job 114 = .ok (.aload 4, 2) := by decide +kernel
theorem dX11_job_116 : decode cX11_job 116 = .ok (.getfield 172, 3) := by decide +kernel
theorem dX11_job_119 : decode cX11_job 119 = .ok (.goto 5, 3) := by decide +kernel
theorem dX11_job_122 : decode cX11_job 122 = .ok (.bipush (-4), 2) := by decide +kernel
theorem dX11_job_124 : decode cX11_job 124 = .ok (.ireturn, 1) := by decide +kernel
theorem dX11_job_125 : decode cX11_job 125 = .ok (.iconst (-1), 1) := by decide +kernel
theorem dX11_job_126 : decode cX11_job 126 = .ok (.ireturn, 1) := by decide +kernel
set_option maxRecDepth 20000 in
theorem ggX11_comes_X11_isBudget : GoodIn wsX11_comes wsX11_isBudget := goodIn_r _ [9, 10, 11, 8, 12] rfl gwX11_isBudget
set_option maxRecDepth 20000 in
theorem gX11_comes_X11_isBudget : GoodIn wsX11_comes (va_wsS RX11 175 yX11_isBudget wsX11_isBudget) := goodIn_app (goodIn_r _ [6, 7, 8] rfl (by decide +kernel)) ggX11_comes_X11_isBudget
set_option maxRecDepth 20000 in
theorem gwX11_sortRefusal : wsX11_sortRefusal.all goodWord = true := by decide +kernel
set_option maxRecDepth 20000 in
theorem ggX11_comes_X11_sortRefusal : GoodIn wsX11_comes wsX11_sortRefusal := goodIn_r _ [16, 17, 18, 19, 8, 20, 3, 21, 22, 23, 24, 10, 11, 12, 59, 60, 61, 62, 63, 64, 65, 66, 67, 68, 69, 75, 76, 77, 78, 79, 80] rfl gwX11_sortRefusal
set_option maxRecDepth 20000 in
theorem gX11_comes_X11_sortRefusal : GoodIn wsX11_comes (wsV RX11 179 RX11 yX11_sortRefusal wsX11_sortRefusal) := goodIn_app (goodIn_r _ [13, 14, 15, 8] rfl (by decide +kernel)) ggX11_comes_X11_sortRefusal
set_option maxRecDepth 20000 in
theorem ggX11_comes_X3_addServer : GoodIn wsX11_comes wsX3_addServer := goodIn_r _ [29, 30, 31, 32, 33, 34, 35, 36, 37, 38, 39, 40, 41, 42, 43, 44, 45, 46, 47, 48, 49, 50, 51, 52, 53, 54, 55, 56, 57, 8, 58, 70, 71, 72, 73, 74, 81, 82, 83, 84, 85, 86, 87, 88, 89, 90, 91, 92, 93, 94, 95] rfl gwX3_addServer
set_option maxRecDepth 20000 in
theorem gX11_comes_X3_addServer : GoodIn wsX11_comes (wsV RX11 185 RX3 yX3_addServer wsX3_addServer) := goodIn_app (goodIn_r _ [25, 26, 27, 28] rfl (by decide +kernel)) ggX11_comes_X3_addServer
theorem dX11_comes_0 : decode cX11_comes 0 = .ok (.iload_n 2, 1) := by decide +kernel
theorem dX11_comes_1 : decode cX11_comes 1 = .ok (.iload_n 3, 1) := by decide +kernel
theorem dX11_comes_2 : decode cX11_comes 2 = .ok (.invokestatic 175, 3) := by decide +kernel
theorem dX11_comes_5 : decode cX11_comes 5 = .ok (.ifCond .ne 5, 3) := by decide +kernel
theorem dX11_comes_8 : decode cX11_comes 8 = .ok (.iconst (-1), 1) := by decide +kernel
theorem dX11_comes_9 : decode cX11_comes 9 = .ok (.ireturn, 1) := by decide +kernel
theorem dX11_comes_10 : decode cX11_comes 10 = .ok (.aload_n 0, 1) := by decide +kernel
theorem dX11_comes_11 : decode cX11_comes 11 = .ok (.iload_n 1, 1) := by decide +kernel
theorem dX11_comes_12 : decode cX11_comes 12 = .ok (.invokevirtual 179, 3) := by decide +kernel
theorem dX11_comes_15 : decode cX11_comes 15 = .ok (.istore 4, 2) := by decide +kernel
theorem dX11_comes_17 : decode cX11_comes 17 = .ok (.iload 4, 2) := by decide +kernel
theorem dX11_comes_19 : decode cX11_comes 19 = .ok (.ifCond .eq 6, 3) := by decide +kernel
theorem dX11_comes_22 : decode cX11_comes 22 = .ok (.iload 4, 2) := by decide +kernel
theorem dX11_comes_24 : decode cX11_comes 24 = .ok (.ireturn, 1) := by decide +kernel
theorem dX11_comes_25 : decode cX11_comes 25 = .ok (.aload_n 0, 1) := by decide +kernel
theorem dX11_comes_26 : decode cX11_comes 26 = .ok (.getfield 38, 3) := by decide +kernel
theorem dX11_comes_29 : decode cX11_comes 29 = .ok (.getfield 182, 3) := by decide +kernel
theorem dX11_comes_32 : decode cX11_comes 32 = .ok (.bipush 6, 2) := by decide +kernel
theorem dX11_comes_34 : decode cX11_comes 34 = .ok (.if_icmp .lt 6, 3) := by decide +kernel
theorem dX11_comes_37 : decode cX11_comes 37 = .ok (.bipush (-2), 2) := by decide +kernel
theorem dX11_comes_39 : decode cX11_comes 39 = .ok (.ireturn, 1) := by decide +kernel
theorem dX11_comes_40 : decode cX11_comes 40 = .ok (.aload_n 0, 1) := by decide +kernel
theorem dX11_comes_41 : decode cX11_comes 41 = .ok (.getfield 38, 3) := by decide +kernel
theorem dX11_comes_44 : decode cX11_comes 44 = .ok (.aload_n 0, 1) := by decide +kernel
theorem dX11_comes_45 : decode cX11_comes 45 = .ok (.getfield 50, 3) := by decide +kernel
theorem dX11_comes_48 : decode cX11_comes 48 = .ok (.iload_n 1, 1) := by decide +kernel
theorem dX11_comes_49 : decode cX11_comes 49 = .ok (.aaload, 1) := by decide +kernel
theorem dX11_comes_50 : decode cX11_comes 50 = .ok (.getfield 183, 3) := by decide +kernel
theorem dX11_comes_53 : decode cX11_comes 53 = .ok (.aload_n 0, 1) := by decide +kernel
theorem dX11_comes_54 : decode cX11_comes 54 = .ok (.getfield 50, 3) := by decide +kernel
theorem dX11_comes_57 : decode cX11_comes 57 = .ok (.iload_n 1, 1) := by decide +kernel
theorem dX11_comes_58 : decode cX11_comes 58 = .ok (.aaload, 1) := by decide +kernel
theorem dX11_comes_59 : decode cX11_comes 59 = .ok (.getfield 184, 3) := by decide +kernel
theorem dX11_comes_62 : decode cX11_comes 62 = .ok (.iload_n 2, 1) := by decide +kernel
theorem dX11_comes_63 : decode cX11_comes 63 = .ok (.iload_n 3, 1) := by decide +kernel
theorem dX11_comes_64 : decode cX11_comes 64 = .ok (.invokevirtual 185, 3) := by decide +kernel
theorem dX11_comes_67 : decode cX11_comes 67 = .ok (.aload_n 0, 1) := by decide +kernel
theorem dX11_comes_68 : decode cX11_comes 68 = .ok (.getfield 38, 3) := by decide +kernel
theorem dX11_comes_71 : decode cX11_comes 71 = .ok (.getfield 182, 3) := by decide +kernel
theorem dX11_comes_74 : decode cX11_comes 74 = .ok (.iconst 1, 1) := by decide +kernel
theorem dX11_comes_75 : decode cX11_comes 75 = .ok (.isub, 1) := by decide +kernel
theorem dX11_comes_76 : decode cX11_comes 76 = .ok (.ireturn, 1) := by decide +kernel
set_option maxRecDepth 20000 in
theorem ggX11_sends_X3_sendingRefusal : GoodIn wsX11_sends wsX3_sendingRefusal := goodIn_r _ [9, 10, 11, 12, 13, 8, 14, 15, 16, 17, 18, 19, 20, 21, 22, 23, 24, 53, 54, 55, 56, 57, 58, 59, 60, 61, 62, 63, 64, 65, 66, 67, 68, 69, 70, 71, 72] rfl gwX3_sendingRefusal
set_option maxRecDepth 20000 in
theorem gX11_sends_X3_sendingRefusal : GoodIn wsX11_sends (wsV RX11 189 RX3 yX3_sendingRefusal wsX3_sendingRefusal) := goodIn_app (goodIn_r _ [5, 6, 7, 8] rfl (by decide +kernel)) ggX11_sends_X3_sendingRefusal
set_option maxRecDepth 20000 in
theorem ggX11_sends_X5_takeJob : GoodIn wsX11_sends wsX5_takeJob := goodIn_r _ [28, 29, 24, 30, 31, 32, 33, 34, 35, 36, 37, 20, 21, 22, 23, 38, 39, 40, 41, 58, 59, 60, 61, 62, 63, 64, 65, 66, 67, 68, 69, 70, 71, 72] rfl gwX5_takeJob
set_option maxRecDepth 20000 in
theorem gX11_sends_X5_takeJob : GoodIn wsX11_sends (wsV RX11 196 RX5 yX5_takeJob wsX5_takeJob) := goodIn_app (goodIn_r _ [25, 26, 27, 22] rfl (by decide +kernel)) ggX11_sends_X5_takeJob
theorem dX11_sends_0 : decode cX11_sends 0 = .ok (.aload_n 0, 1) := by decide +kernel
theorem dX11_sends_1 : decode cX11_sends 1 = .ok (.getfield 38, 3) := by decide +kernel
theorem dX11_sends_4 : decode cX11_sends 4 = .ok (.iload_n 1, 1) := by decide +kernel
theorem dX11_sends_5 : decode cX11_sends 5 = .ok (.iload_n 2, 1) := by decide +kernel
theorem dX11_sends_6 : decode cX11_sends 6 = .ok (.iload_n 3, 1) := by decide +kernel
theorem dX11_sends_7 : decode cX11_sends 7 = .ok (.invokevirtual 189, 3) := by decide +kernel
theorem dX11_sends_10 : decode cX11_sends 10 = .ok (.istore 4, 2) := by decide +kernel
theorem dX11_sends_12 : decode cX11_sends 12 = .ok (.iload 4, 2) := by decide +kernel
theorem dX11_sends_14 : decode cX11_sends 14 = .ok (.ifCond .eq 6, 3) := by decide +kernel
theorem dX11_sends_17 : decode cX11_sends 17 = .ok (.iload 4, 2) := by decide +kernel
theorem dX11_sends_19 : decode cX11_sends 19 = .ok (.ireturn, 1) := by decide +kernel
theorem dX11_sends_20 : decode cX11_sends 20 = .ok (.aload_n 0, 1) := by decide +kernel
theorem dX11_sends_21 : decode cX11_sends 21 = .ok (.getfield 38, 3) := by decide +kernel
theorem dX11_sends_24 : decode cX11_sends 24 = .ok (.getfield 107, 3) := by decide +kernel
theorem dX11_sends_27 : decode cX11_sends 27 = .ok (.iload_n 1, 1) := by decide +kernel
theorem dX11_sends_28 : decode cX11_sends 28 = .ok (.aaload, 1) := by decide +kernel
theorem dX11_sends_29 : decode cX11_sends 29 = .ok (.iload_n 2, 1) := by decide +kernel
theorem dX11_sends_30 : decode cX11_sends 30 = .ok (.iload_n 3, 1) := by decide +kernel
theorem dX11_sends_31 : decode cX11_sends 31 = .ok (.aload_n 0, 1) := by decide +kernel
theorem dX11_sends_32 : decode cX11_sends 32 = .ok (.getfield 38, 3) := by decide +kernel
theorem dX11_sends_35 : decode cX11_sends 35 = .ok (.getfield 193, 3) := by decide +kernel
theorem dX11_sends_38 : decode cX11_sends 38 = .ok (.invokevirtual 196, 3) := by decide +kernel
theorem dX11_sends_41 : decode cX11_sends 41 = .ok (.aload_n 0, 1) := by decide +kernel
theorem dX11_sends_42 : decode cX11_sends 42 = .ok (.getfield 38, 3) := by decide +kernel
theorem dX11_sends_45 : decode cX11_sends 45 = .ok (.getfield 107, 3) := by decide +kernel
theorem dX11_sends_48 : decode cX11_sends 48 = .ok (.iload_n 1, 1) := by decide +kernel
theorem dX11_sends_49 : decode cX11_sends 49 = .ok (.aaload, 1) := by decide +kernel
theorem dX11_sends_50 : decode cX11_sends 50 = .ok (.getfield 141, 3) := by decide +kernel
theorem dX11_sends_53 : decode cX11_sends 53 = .ok (.ireturn, 1) := by decide +kernel
set_option maxRecDepth 20000 in
theorem ggX11_drops_X3_has : GoodIn wsX11_drops wsX3_has := goodIn_r _ [8, 9, 10, 11, 12, 32, 33, 34, 35, 36] rfl gwX3_has
set_option maxRecDepth 20000 in
theorem gX11_drops_X3_has : GoodIn wsX11_drops (wsV RX11 103 RX3 yX3_has wsX3_has) := goodIn_app (goodIn_r _ [4, 5, 6, 7] rfl (by decide +kernel)) ggX11_drops_X3_has
set_option maxRecDepth 20000 in
theorem ggX11_drops_X5_dropJobs : GoodIn wsX11_drops wsX5_dropJobs := goodIn_r _ [17, 18, 19, 20, 37, 38, 39, 40, 41, 42, 43, 44, 45, 46, 47, 48, 49, 50, 51] rfl gwX5_dropJobs
set_option maxRecDepth 20000 in
theorem gX11_drops_X5_dropJobs : GoodIn wsX11_drops (wsV RX11 200 RX5 yX5_dropJobs wsX5_dropJobs) := goodIn_app (goodIn_r _ [13, 14, 15, 16] rfl (by decide +kernel)) ggX11_drops_X5_dropJobs
theorem dX11_drops_0 : decode cX11_drops 0 = .ok (.aload_n 0, 1) := by decide +kernel
theorem dX11_drops_1 : decode cX11_drops 1 = .ok (.getfield 38, 3) := by decide +kernel
theorem dX11_drops_4 : decode cX11_drops 4 = .ok (.iload_n 1, 1) := by decide +kernel
theorem dX11_drops_5 : decode cX11_drops 5 = .ok (.invokevirtual 103, 3) := by decide +kernel
theorem dX11_drops_8 : decode cX11_drops 8 = .ok (.ifCond .ne 5, 3) := by decide +kernel
theorem dX11_drops_11 : decode cX11_drops 11 = .ok (.iconst (-1), 1) := by decide +kernel
theorem dX11_drops_12 : decode cX11_drops 12 = .ok (.ireturn, 1) := by decide +kernel
theorem dX11_drops_13 : decode cX11_drops 13 = .ok (.aload_n 0, 1) := by decide +kernel
theorem dX11_drops_14 : decode cX11_drops 14 = .ok (.getfield 38, 3) := by decide +kernel
theorem dX11_drops_17 : decode cX11_drops 17 = .ok (.getfield 107, 3) := by decide +kernel
theorem dX11_drops_20 : decode cX11_drops 20 = .ok (.iload_n 1, 1) := by decide +kernel
theorem dX11_drops_21 : decode cX11_drops 21 = .ok (.aaload, 1) := by decide +kernel
theorem dX11_drops_22 : decode cX11_drops 22 = .ok (.getfield 141, 3) := by decide +kernel
theorem dX11_drops_25 : decode cX11_drops 25 = .ok (.istore_n 2, 1) := by decide +kernel
theorem dX11_drops_26 : decode cX11_drops 26 = .ok (.aload_n 0, 1) := by decide +kernel
theorem dX11_drops_27 : decode cX11_drops 27 = .ok (.getfield 38, 3) := by decide +kernel
theorem dX11_drops_30 : decode cX11_drops 30 = .ok (.getfield 107, 3) := by decide +kernel
theorem dX11_drops_33 : decode cX11_drops 33 = .ok (.iload_n 1, 1) := by decide +kernel
theorem dX11_drops_34 : decode cX11_drops 34 = .ok (.aaload, 1) := by decide +kernel
theorem dX11_drops_35 : decode cX11_drops 35 = .ok (.invokevirtual 200, 3) := by decide +kernel
theorem dX11_drops_38 : decode cX11_drops 38 = .ok (.iload_n 2, 1) := by decide +kernel
theorem dX11_drops_39 : decode cX11_drops 39 = .ok (.ireturn, 1) := by decide +kernel
set_option maxRecDepth 20000 in
theorem ggX11_ticks_X3_tickingRefusal : GoodIn wsX11_ticks wsX3_tickingRefusal := goodIn_r _ [6, 7, 8, 9, 10, 174, 175, 176, 177, 178] rfl gwX3_tickingRefusal
set_option maxRecDepth 20000 in
theorem gX11_ticks_X3_tickingRefusal : GoodIn wsX11_ticks (wsV RX11 203 RX3 yX3_tickingRefusal wsX3_tickingRefusal) := goodIn_app (goodIn_r _ [2, 3, 4, 5] rfl (by decide +kernel)) ggX11_ticks_X3_tickingRefusal
set_option maxRecDepth 20000 in
theorem ggX11_ticks_X3_goOnFor : GoodIn wsX11_ticks wsX3_goOnFor := goodIn_r _ [14, 15, 16, 17, 5, 18, 19, 20, 7, 21, 22, 23, 24, 25, 26, 27, 28, 29, 30, 31, 32, 33, 34, 35, 36, 37, 38, 39, 40, 41, 42, 43, 44, 45, 46, 47, 48, 49, 50, 51, 52, 53, 54, 55, 56, 57, 58, 59, 60, 61, 62, 63, 64, 65, 66, 67, 68, 69, 70, 71, 72, 73, 74, 75, 76, 77, 78, 79, 80, 81, 82, 83, 84, 85, 86, 87, 88, 89, 90, 91, 92, 93, 94, 95, 96, 97, 98, 99, 100, 101, 102, 103, 104, 105, 106, 107, 108, 109, 110, 111, 112, 113, 114, 115, 116, 117, 118, 119, 120, 121, 122, 123, 124, 125, 126, 127, 128, 129, 130, 131, 132, 133, 134, 135, 136, 137, 138, 139, 140, 141, 142, 143, 144, 145, 146, 147, 148, 149, 150, 151, 152, 153, 174, 175, 176, 177, 178, 179, 180, 181, 182, 183, 184, 185, 186, 187, 188, 189, 190, 191, 192, 193] rfl gwX3_goOnFor
set_option maxRecDepth 20000 in
theorem gX11_ticks_X3_goOnFor : GoodIn wsX11_ticks (wsV RX11 206 RX3 yX3_goOnFor wsX3_goOnFor) := goodIn_app (goodIn_r _ [11, 12, 13, 5] rfl (by decide +kernel)) ggX11_ticks_X3_goOnFor
set_option maxRecDepth 20000 in
theorem gwX3_lateOfAll : wsX3_lateOfAll.all goodWord = true := by decide +kernel
set_option maxRecDepth 20000 in
theorem ggX11_ticks_X3_lateOfAll : GoodIn wsX11_ticks wsX3_lateOfAll := goodIn_r _ [157, 158, 159, 160, 5, 161, 25, 26, 162, 174, 175, 176, 177, 178, 179, 180, 181, 182, 183, 184, 185, 186, 187, 188, 189, 190, 191, 192, 193] rfl gwX3_lateOfAll
set_option maxRecDepth 20000 in
theorem gX11_ticks_X3_lateOfAll : GoodIn wsX11_ticks (wsV RX11 210 RX3 yX3_lateOfAll wsX3_lateOfAll) := goodIn_app (goodIn_r _ [154, 155, 156, 5] rfl (by decide +kernel)) ggX11_ticks_X3_lateOfAll
theorem dX11_ticks_0 : decode cX11_ticks 0 = .ok (.aload_n 0, 1) := by decide +kernel
theorem dX11_ticks_1 : decode cX11_ticks 1 = .ok (.getfield 38, 3) := by decide +kernel
theorem dX11_ticks_4 : decode cX11_ticks 4 = .ok (.iload_n 1, 1) := by decide +kernel
theorem dX11_ticks_5 : decode cX11_ticks 5 = .ok (.invokevirtual 203, 3) := by decide +kernel
theorem dX11_ticks_8 : decode cX11_ticks 8 = .ok (.istore_n 2, 1) := by decide +kernel
theorem dX11_ticks_9 : decode cX11_ticks 9 = .ok (.iload_n 2, 1) := by decide +kernel
theorem dX11_ticks_10 : decode cX11_ticks 10 = .ok (.ifCond .eq 5, 3) := by decide +kernel
theorem dX11_ticks_13 : decode cX11_ticks 13 = .ok (.iload_n 2, 1) := by decide +kernel
theorem dX11_ticks_14 : decode cX11_ticks 14 = .ok (.ireturn, 1) := by decide +kernel
theorem dX11_ticks_15 : decode cX11_ticks 15 = .ok (.aload_n 0, 1) := by decide +kernel
theorem dX11_ticks_16 : decode cX11_ticks 16 = .ok (.getfield 38, 3) := by decide +kernel
theorem dX11_ticks_19 : decode cX11_ticks 19 = .ok (.iload_n 1, 1) := by decide +kernel
theorem dX11_ticks_20 : decode cX11_ticks 20 = .ok (.invokevirtual 206, 3) := by decide +kernel
theorem dX11_ticks_23 : decode cX11_ticks 23 = .ok (.aload_n 0, 1) := by decide +kernel
theorem dX11_ticks_24 : decode cX11_ticks 24 = .ok (.getfield 38, 3) := by decide +kernel
theorem dX11_ticks_27 : decode cX11_ticks 27 = .ok (.invokevirtual 210, 3) := by decide +kernel
theorem dX11_ticks_30 : decode cX11_ticks 30 = .ok (.ireturn, 1) := by decide +kernel
set_option maxRecDepth 20000 in
theorem ggX11_then_X3_has : GoodIn wsX11_then wsX3_has := goodIn_r _ [13, 14, 15, 16, 17, 188, 189, 190, 191, 192] rfl gwX3_has
set_option maxRecDepth 20000 in
theorem gX11_then_X3_has : GoodIn wsX11_then (wsV RX11 103 RX3 yX3_has wsX3_has) := goodIn_app (goodIn_r _ [9, 10, 11, 12] rfl (by decide +kernel)) ggX11_then_X3_has
set_option maxRecDepth 20000 in
theorem ggX11_then_X11_within : GoodIn wsX11_then wsX11_within := goodIn_r _ [17] rfl gwX11_within
set_option maxRecDepth 20000 in
theorem gX11_then_X11_within : GoodIn wsX11_then (va_wsS RX11 158 yX11_within wsX11_within) := goodIn_app (goodIn_r _ [18, 15, 16] rfl (by decide +kernel)) ggX11_then_X11_within
set_option maxRecDepth 20000 in
theorem ggX11_then_X3_becomes : GoodIn wsX11_then wsX3_becomes := goodIn_r _ [22, 14, 23, 24, 25, 26, 27, 28, 29, 30, 31, 32, 33, 34, 35, 36, 37, 38, 39, 40, 41, 42, 43, 44, 188, 189, 190, 191, 192, 193, 194, 195, 196, 197, 198, 199, 200, 201, 202, 203, 204, 205, 206, 207] rfl gwX3_becomes
set_option maxRecDepth 20000 in
theorem gX11_then_X3_becomes : GoodIn wsX11_then (wsV RX11 86 RX3 yX3_becomes wsX3_becomes) := goodIn_app (goodIn_r _ [19, 20, 21, 12] rfl (by decide +kernel)) ggX11_then_X3_becomes
set_option maxRecDepth 20000 in
theorem ggX11_then_X3_goOnFor : GoodIn wsX11_then wsX3_goOnFor := goodIn_r _ [48, 49, 50, 51, 12, 52, 53, 54, 23, 55, 56, 57, 58, 14, 24, 59, 60, 61, 62, 63, 64, 65, 66, 67, 68, 69, 70, 71, 72, 73, 74, 75, 76, 77, 78, 79, 80, 81, 82, 83, 84, 85, 86, 87, 88, 89, 90, 28, 91, 35, 33, 32, 36, 92, 93, 94, 95, 96, 97, 98, 99, 100, 101, 102, 103, 104, 105, 106, 107, 108, 109, 40, 43, 42, 110, 111, 112, 113, 114, 115, 116, 117, 118, 119, 120, 121, 122, 123, 124, 125, 126, 127, 128, 129, 130, 131, 132, 133, 134, 135, 136, 137, 138, 139, 140, 141, 142, 143, 144, 145, 146, 147, 148, 149, 150, 151, 152, 41, 44, 38, 153, 154, 155, 156, 39, 37, 157, 158, 159, 160, 161, 162, 163, 164, 165, 166, 167, 168, 169, 170, 171, 172, 188, 189, 190, 191, 192, 193, 194, 195, 196, 197, 198, 199, 200, 201, 202, 203, 204, 205, 206, 207] rfl gwX3_goOnFor
set_option maxRecDepth 20000 in
theorem gX11_then_X3_goOnFor : GoodIn wsX11_then (wsV RX11 206 RX3 yX3_goOnFor wsX3_goOnFor) := goodIn_app (goodIn_r _ [45, 46, 47, 12] rfl (by decide +kernel)) ggX11_then_X3_goOnFor
set_option maxRecDepth 20000 in
theorem gwX5_workOfAll : wsX5_workOfAll.all goodWord = true := by decide +kernel
set_option maxRecDepth 20000 in
theorem ggX11_then_X5_workOfAll : GoodIn wsX11_then wsX5_workOfAll := goodIn_r _ [176, 40, 41, 193, 194, 195, 196, 197, 198, 199, 200, 201, 202, 203, 204, 205, 206, 207] rfl gwX5_workOfAll
set_option maxRecDepth 20000 in
theorem gX11_then_X5_workOfAll : GoodIn wsX11_then (wsV RX11 213 RX5 yX5_workOfAll wsX5_workOfAll) := goodIn_app (goodIn_r _ [173, 174, 175, 28] rfl (by decide +kernel)) ggX11_then_X5_workOfAll
theorem dX11_then_0 : decode cX11_then 0 = .ok (.aload_n 0, 1) := by decide +kernel
theorem dX11_then_1 : decode cX11_then 1 = .ok (.getfield 38, 3) := by decide +kernel
theorem dX11_then_4 : decode cX11_then 4 = .ok (.iload_n 1, 1) := by decide +kernel
theorem dX11_then_5 : decode cX11_then 5 = .ok (.invokevirtual 103, 3) := by decide +kernel
theorem dX11_then_8 : decode cX11_then 8 = .ok (.ifCond .eq 22, 3) := by decide +kernel
theorem dX11_then_11 : decode cX11_then 11 = .ok (.iload_n 2, 1) := by decide +kernel
theorem dX11_then_12 : decode cX11_then 12 = .ok (.iconst 0, 1) := by decide +kernel
theorem dX11_then_13 : decode cX11_then 13 = .ok (.bipush 99, 2) := by decide +kernel
theorem dX11_then_15 : decode cX11_then 15 = .ok (.invokestatic 158, 3) := by decide +kernel
theorem dX11_then_18 : decode cX11_then 18 = .ok (.ifCond .eq 12, 3) := by decide +kernel
theorem dX11_then_21 : decode cX11_then 21 = .ok (.iload_n 3, 1) := by decide +kernel
theorem dX11_then_22 : decode cX11_then 22 = .ok (.iconst 0, 1) := by decide +kernel
theorem dX11_then_23 : decode cX11_then 23 = .ok (.iconst 5, 1) := by decide +kernel
theorem dX11_then_24 : decode cX11_then 24 = .ok (.invokestatic 158, 3) := by decide +kernel
theorem dX11_then_27 : decode cX11_then 27 = .ok (.ifCond .ne 5, 3) := by decide +kernel
theorem dX11_then_30 : decode cX11_then 30 = .ok (.iconst (-1), 1) := by decide +kernel
theorem dX11_then_31 : decode cX11_then 31 = .ok (.ireturn, 1) := by decide +kernel
theorem dX11_then_32 : decode cX11_then 32 = .ok (.aload_n 0, 1) := by decide +kernel
theorem dX11_then_33 : decode cX11_then 33 = .ok (.getfield 42, 3) := by decide +kernel
theorem dX11_then_36 : decode cX11_then 36 = .ok (.aload_n 0, 1) := by decide +kernel
theorem dX11_then_37 : decode cX11_then 37 = .ok (.getfield 38, 3) := by decide +kernel
theorem dX11_then_40 : decode cX11_then 40 = .ok (.invokevirtual 86, 3) := by decide +kernel
theorem dX11_then_43 : decode cX11_then 43 = .ok (.aload_n 0, 1) := by decide +kernel
theorem dX11_then_44 : decode cX11_then 44 = .ok (.getfield 42, 3) := by decide +kernel
theorem dX11_then_47 : decode cX11_then 47 = .ok (.iload_n 2, 1) := by decide +kernel
theorem dX11_then_48 : decode cX11_then 48 = .ok (.invokevirtual 206, 3) := by decide +kernel
theorem dX11_then_51 : decode cX11_then 51 = .ok (.aload_n 0, 1) := by decide +kernel
theorem dX11_then_52 : decode cX11_then 52 = .ok (.getfield 42, 3) := by decide +kernel
theorem dX11_then_55 : decode cX11_then 55 = .ok (.getfield 107, 3) := by decide +kernel
theorem dX11_then_58 : decode cX11_then 58 = .ok (.iload_n 1, 1) := by decide +kernel
theorem dX11_then_59 : decode cX11_then 59 = .ok (.aaload, 1) := by decide +kernel
theorem dX11_then_60 : decode cX11_then 60 = .ok (.astore 4, 2) := by decide +kernel
theorem dX11_then_62 : decode cX11_then 62 = .ok (.iload_n 3, 1) := by decide +kernel
theorem dX11_then_63 : decode cX11_then 63 = .ok (.tableswitch 67 0 4 #[33, 39, 49, 55, 61], 33) := by decide +kernel
theorem dX11_then_96 : decode cX11_then 96 = .ok (.aload 4, 2) := by decide +kernel
theorem dX11_then_98 : decode cX11_then 98 = .ok (.invokevirtual 213, 3) := by decide +kernel
theorem dX11_then_101 : decode cX11_then 101 = .ok (.ireturn, 1) := by decide +kernel
theorem dX11_then_102 : decode cX11_then 102 = .ok (.aload 4, 2) := by decide +kernel
theorem dX11_then_104 : decode cX11_then 104 = .ok (.getfield 132, 3) := by decide +kernel
theorem dX11_then_107 : decode cX11_then 107 = .ok (.sipush 10000, 3) := by decide +kernel
theorem dX11_then_110 : decode cX11_then 110 = .ok (.iadd, 1) := by decide +kernel
theorem dX11_then_111 : decode cX11_then 111 = .ok (.ireturn, 1) := by decide +kernel
theorem dX11_then_112 : decode cX11_then 112 = .ok (.aload 4, 2) := by decide +kernel
theorem dX11_then_114 : decode cX11_then 114 = .ok (.getfield 135, 3) := by decide +kernel
theorem dX11_then_117 : decode cX11_then 117 = .ok (.ireturn, 1) := by decide +kernel
theorem dX11_then_118 : decode cX11_then 118 = .ok (.aload 4, 2) := by decide +kernel
theorem dX11_then_120 : decode cX11_then 120 = .ok (.getfield 138, 3) := by decide +kernel
theorem dX11_then_123 : decode cX11_then 123 = .ok (.ireturn, 1) := by decide +kernel
theorem dX11_then_124 : decode cX11_then 124 = .ok (.aload 4, 2) := by decide +kernel
theorem dX11_then_126 : decode cX11_then 126 = .ok (.getfield 144, 3) := by decide +kernel
theorem dX11_then_129 : decode cX11_then 129 = .ok (.ireturn, 1) := by decide +kernel
theorem dX11_then_130 : decode cX11_then 130 = .ok (.aload 4, 2) := by decide +kernel
theorem dX11_then_132 : decode cX11_then 132 = .ok (.getfield 147, 3) := by decide +kernel
theorem dX11_then_135 : decode cX11_then 135 = .ok (.ireturn, 1) := by decide +kernel
set_option maxRecDepth 20000 in
theorem ggX11_runs_X11_within : GoodIn wsX11_runs wsX11_within := goodIn_r _ [8] rfl gwX11_within
set_option maxRecDepth 20000 in
theorem gX11_runs_X11_within : GoodIn wsX11_runs (va_wsS RX11 158 yX11_within wsX11_within) := goodIn_app (goodIn_r _ [5, 6, 7] rfl (by decide +kernel)) ggX11_runs_X11_within
set_option maxRecDepth 20000 in
theorem ggX11_runs_X3_becomes : GoodIn wsX11_runs wsX3_becomes := goodIn_r _ [13, 14, 15, 16, 17, 18, 19, 20, 21, 22, 23, 24, 25, 26, 27, 28, 29, 30, 31, 32, 33, 34, 35, 36, 176, 177, 178, 179, 180, 181, 182, 183, 184, 185, 186, 187, 188, 189, 190, 191, 192, 193, 194, 195] rfl gwX3_becomes
set_option maxRecDepth 20000 in
theorem gX11_runs_X3_becomes : GoodIn wsX11_runs (wsV RX11 86 RX3 yX3_becomes wsX3_becomes) := goodIn_app (goodIn_r _ [9, 10, 11, 12] rfl (by decide +kernel)) ggX11_runs_X3_becomes
set_option maxRecDepth 20000 in
theorem ggX11_runs_X3_goOnFor : GoodIn wsX11_runs wsX3_goOnFor := goodIn_r _ [40, 41, 42, 43, 12, 44, 45, 46, 15, 47, 48, 49, 50, 14, 16, 51, 52, 53, 54, 55, 56, 57, 58, 59, 60, 61, 62, 63, 64, 65, 66, 67, 68, 69, 70, 71, 72, 73, 74, 75, 76, 77, 78, 79, 80, 81, 82, 20, 83, 27, 25, 24, 28, 84, 85, 86, 87, 88, 89, 90, 91, 92, 93, 94, 95, 96, 97, 98, 99, 100, 101, 32, 35, 34, 102, 103, 104, 105, 106, 107, 108, 109, 110, 111, 112, 113, 114, 115, 116, 117, 118, 119, 120, 121, 122, 123, 124, 125, 126, 127, 128, 129, 130, 131, 132, 133, 134, 135, 136, 137, 138, 139, 140, 141, 142, 143, 144, 33, 36, 30, 145, 146, 147, 148, 31, 29, 149, 150, 151, 152, 153, 154, 155, 156, 157, 158, 159, 160, 161, 162, 163, 164, 176, 177, 178, 179, 180, 181, 182, 183, 184, 185, 186, 187, 188, 189, 190, 191, 192, 193, 194, 195] rfl gwX3_goOnFor
set_option maxRecDepth 20000 in
theorem gX11_runs_X3_goOnFor : GoodIn wsX11_runs (wsV RX11 206 RX3 yX3_goOnFor wsX3_goOnFor) := goodIn_app (goodIn_r _ [37, 38, 39, 12] rfl (by decide +kernel)) ggX11_runs_X3_goOnFor
theorem dX11_runs_0 : decode cX11_runs 0 = .ok (.iload_n 1, 1) := by decide +kernel
theorem dX11_runs_1 : decode cX11_runs 1 = .ok (.iconst 1, 1) := by decide +kernel
theorem dX11_runs_2 : decode cX11_runs 2 = .ok (.bipush 99, 2) := by decide +kernel
theorem dX11_runs_4 : decode cX11_runs 4 = .ok (.invokestatic 158, 3) := by decide +kernel
theorem dX11_runs_7 : decode cX11_runs 7 = .ok (.ifCond .eq 12, 3) := by decide +kernel
theorem dX11_runs_10 : decode cX11_runs 10 = .ok (.iload_n 2, 1) := by decide +kernel
theorem dX11_runs_11 : decode cX11_runs 11 = .ok (.iconst 0, 1) := by decide +kernel
theorem dX11_runs_12 : decode cX11_runs 12 = .ok (.iconst 1, 1) := by decide +kernel
theorem dX11_runs_13 : decode cX11_runs 13 = .ok (.invokestatic 158, 3) := by decide +kernel
theorem dX11_runs_16 : decode cX11_runs 16 = .ok (.ifCond .ne 5, 3) := by decide +kernel
theorem dX11_runs_19 : decode cX11_runs 19 = .ok (.iconst (-1), 1) := by decide +kernel
theorem dX11_runs_20 : decode cX11_runs 20 = .ok (.ireturn, 1) := by decide +kernel
theorem dX11_runs_21 : decode cX11_runs 21 = .ok (.aload_n 0, 1) := by decide +kernel
theorem dX11_runs_22 : decode cX11_runs 22 = .ok (.getfield 42, 3) := by decide +kernel
theorem dX11_runs_25 : decode cX11_runs 25 = .ok (.aload_n 0, 1) := by decide +kernel
theorem dX11_runs_26 : decode cX11_runs 26 = .ok (.getfield 38, 3) := by decide +kernel
theorem dX11_runs_29 : decode cX11_runs 29 = .ok (.invokevirtual 86, 3) := by decide +kernel
theorem dX11_runs_32 : decode cX11_runs 32 = .ok (.aload_n 0, 1) := by decide +kernel
theorem dX11_runs_33 : decode cX11_runs 33 = .ok (.getfield 42, 3) := by decide +kernel
theorem dX11_runs_36 : decode cX11_runs 36 = .ok (.iload_n 1, 1) := by decide +kernel
theorem dX11_runs_37 : decode cX11_runs 37 = .ok (.invokevirtual 206, 3) := by decide +kernel
theorem dX11_runs_40 : decode cX11_runs 40 = .ok (.iload_n 2, 1) := by decide +kernel
theorem dX11_runs_41 : decode cX11_runs 41 = .ok (.ifCond .ne 13, 3) := by decide +kernel
theorem dX11_runs_44 : decode cX11_runs 44 = .ok (.aload_n 0, 1) := by decide +kernel
theorem dX11_runs_45 : decode cX11_runs 45 = .ok (.getfield 42, 3) := by decide +kernel
theorem dX11_runs_48 : decode cX11_runs 48 = .ok (.getfield 216, 3) := by decide +kernel
theorem dX11_runs_51 : decode cX11_runs 51 = .ok (.goto 10, 3) := by decide +kernel
theorem dX11_runs_54 : decode cX11_runs 54 = .ok (.aload_n 0, 1) := by decide +kernel
theorem dX11_runs_55 : decode cX11_runs 55 = .ok (.getfield 42, 3) := by decide +kernel
theorem dX11_runs_58 : decode cX11_runs 58 = .ok (.getfield 219, 3) := by decide +kernel
theorem dX11_runs_61 : decode cX11_runs 61 = .ok (.ireturn, 1) := by decide +kernel
set_option maxRecDepth 20000 in
theorem ggX11_quiet_X11_within : GoodIn wsX11_quiet wsX11_within := goodIn_r _ [6] rfl gwX11_within
set_option maxRecDepth 20000 in
theorem gX11_quiet_X11_within : GoodIn wsX11_quiet (va_wsS RX11 158 yX11_within wsX11_within) := goodIn_app (goodIn_r _ [3, 4, 5] rfl (by decide +kernel)) ggX11_quiet_X11_within
set_option maxRecDepth 20000 in
theorem ggX11_quiet_X3_becomes : GoodIn wsX11_quiet wsX3_becomes := goodIn_r _ [11, 12, 13, 14, 15, 16, 17, 18, 19, 20, 21, 22, 23, 24, 25, 26, 27, 28, 29, 30, 31, 32, 33, 34, 179, 180, 181, 182, 183, 184, 185, 186, 187, 188, 189, 190, 191, 192, 193, 194, 195, 196, 197, 198] rfl gwX3_becomes
set_option maxRecDepth 20000 in
theorem gX11_quiet_X3_becomes : GoodIn wsX11_quiet (wsV RX11 86 RX3 yX3_becomes wsX3_becomes) := goodIn_app (goodIn_r _ [7, 8, 9, 10] rfl (by decide +kernel)) ggX11_quiet_X3_becomes
set_option maxRecDepth 20000 in
theorem gwX3_jobsOfAll : wsX3_jobsOfAll.all goodWord = true := by decide +kernel
set_option maxRecDepth 20000 in
theorem ggX11_quiet_X3_jobsOfAll : GoodIn wsX11_quiet wsX3_jobsOfAll := goodIn_r _ [38, 12, 14, 39, 179, 180, 181, 182, 183, 184, 185, 186, 187, 188, 189, 190, 191, 192, 193, 194, 195, 196, 197, 198] rfl gwX3_jobsOfAll
set_option maxRecDepth 20000 in
theorem gX11_quiet_X3_jobsOfAll : GoodIn wsX11_quiet (wsV RX11 222 RX3 yX3_jobsOfAll wsX3_jobsOfAll) := goodIn_app (goodIn_r _ [35, 36, 37, 10] rfl (by decide +kernel)) ggX11_quiet_X3_jobsOfAll
set_option maxRecDepth 20000 in
theorem gwX3_isAllIdle : wsX3_isAllIdle.all goodWord = true := by decide +kernel
set_option maxRecDepth 20000 in
theorem ggX11_quiet_X3_isAllIdle : GoodIn wsX11_quiet wsX3_isAllIdle := goodIn_r _ [43, 12, 14, 44, 179, 180, 181, 182, 183, 184, 185, 186, 187, 188, 189, 190, 191, 192, 193, 194, 195, 196, 197, 198] rfl gwX3_isAllIdle
set_option maxRecDepth 20000 in
theorem gX11_quiet_X3_isAllIdle : GoodIn wsX11_quiet (wsV RX11 225 RX3 yX3_isAllIdle wsX3_isAllIdle) := goodIn_app (goodIn_r _ [40, 41, 42, 10] rfl (by decide +kernel)) ggX11_quiet_X3_isAllIdle
set_option maxRecDepth 20000 in
theorem ggX11_quiet_X3_goOn : GoodIn wsX11_quiet wsX3_goOn := goodIn_r _ [48, 49, 50, 13, 51, 52, 53, 10, 54, 12, 14, 44, 55, 56, 57, 58, 59, 60, 61, 62, 63, 64, 65, 66, 67, 68, 69, 70, 71, 72, 73, 74, 75, 76, 77, 78, 79, 80, 81, 82, 83, 84, 85, 18, 86, 25, 23, 22, 26, 87, 88, 89, 90, 91, 92, 93, 94, 95, 96, 97, 98, 99, 100, 101, 102, 103, 104, 30, 33, 32, 105, 106, 107, 108, 109, 110, 111, 112, 113, 114, 115, 116, 117, 118, 119, 120, 121, 122, 123, 124, 125, 126, 127, 128, 129, 130, 131, 132, 133, 134, 135, 136, 137, 138, 139, 140, 141, 142, 143, 144, 145, 146, 147, 31, 34, 28, 148, 149, 150, 151, 29, 27, 152, 153, 154, 155, 156, 157, 158, 159, 160, 161, 162, 163, 164, 165, 166, 167, 179, 180, 181, 182, 183, 184, 185, 186, 187, 188, 189, 190, 191, 192, 193, 194, 195, 196, 197, 198] rfl gwX3_goOn
set_option maxRecDepth 20000 in
theorem gX11_quiet_X3_goOn : GoodIn wsX11_quiet (wsV RX11 229 RX3 yX3_goOn wsX3_goOn) := goodIn_app (goodIn_r _ [45, 46, 47, 10] rfl (by decide +kernel)) ggX11_quiet_X3_goOn
theorem dX11_quiet_0 : decode cX11_quiet 0 = .ok (.iload_n 1, 1) := by decide +kernel
