set_option maxRecDepth 20000 in
theorem gX12_ran_X12_within : GoodIn wsX12_ran (va_wsS RX12 55 yX12_within wsX12_within) := goodIn_app (goodIn_r _ [10, 11, 7] rfl (by decide +kernel)) ggX12_ran_X12_within
set_option maxRecDepth 20000 in
theorem ggX12_ran_X12_keep : GoodIn wsX12_ran wsX12_keep := goodIn_r _ [16, 17, 18, 19, 20, 9, 88, 89, 90, 91, 92, 93, 94, 95, 96, 97, 98, 99, 100, 101, 102, 103, 104, 105, 106, 107, 108, 109] rfl gwX12_keep
set_option maxRecDepth 20000 in
theorem gX12_ran_X12_keep : GoodIn wsX12_ran (wsV RX12 169 RX12 yX12_keep wsX12_keep) := goodIn_app (goodIn_r _ [13, 14, 15, 7] rfl (by decide +kernel)) ggX12_ran_X12_keep
set_option maxRecDepth 20000 in
theorem ggX12_ran_X12_goes : GoodIn wsX12_ran wsX12_goes := goodIn_r _ [24, 25, 26, 27, 7, 28, 3, 2, 19, 18, 17, 20, 29, 30, 31, 32, 33, 34, 35, 36, 9, 37, 38, 39, 40, 41, 42, 43, 44, 45, 46, 47, 48, 49, 50, 51, 52, 53, 54, 55, 56, 57, 58, 59, 60, 61, 62, 63, 64, 65, 66, 67, 68, 69, 70, 71, 72, 73, 74, 75, 76, 77, 78, 79, 80, 81, 82, 83, 88, 89, 90, 91, 92, 93, 94, 95, 96, 97, 98, 99, 100, 101, 102, 103, 104, 105, 106, 107, 108, 109] rfl gwX12_goes
set_option maxRecDepth 20000 in
theorem gX12_ran_X12_goes : GoodIn wsX12_ran (wsV RX12 144 RX12 yX12_goes wsX12_goes) := goodIn_app (goodIn_r _ [21, 22, 23, 7] rfl (by decide +kernel)) ggX12_ran_X12_goes
set_option maxRecDepth 20000 in
theorem ggX12_ran_X12_again : GoodIn wsX12_ran wsX12_again := goodIn_r _ [87, 17, 18, 19, 20, 9, 88, 89, 90, 91, 92, 93, 94, 95, 96, 97, 98, 99, 100, 101, 102, 103, 104, 105, 106, 107, 108, 109] rfl gwX12_again
set_option maxRecDepth 20000 in
theorem gX12_ran_X12_again : GoodIn wsX12_ran (wsV RX12 176 RX12 yX12_again wsX12_again) := goodIn_app (goodIn_r _ [84, 85, 86, 7] rfl (by decide +kernel)) ggX12_ran_X12_again
theorem dX12_ran_0 : decode cX12_ran 0 = .ok (.aload_n 0, 1) := by decide +kernel
theorem dX12_ran_1 : decode cX12_ran 1 = .ok (.iload_n 1, 1) := by decide +kernel
theorem dX12_ran_2 : decode cX12_ran 2 = .ok (.invokevirtual 137, 3) := by decide +kernel
theorem dX12_ran_5 : decode cX12_ran 5 = .ok (.ifCond .eq 22, 3) := by decide +kernel
theorem dX12_ran_8 : decode cX12_ran 8 = .ok (.iload_n 2, 1) := by decide +kernel
theorem dX12_ran_9 : decode cX12_ran 9 = .ok (.iconst 0, 1) := by decide +kernel
theorem dX12_ran_10 : decode cX12_ran 10 = .ok (.bipush 99, 2) := by decide +kernel
theorem dX12_ran_12 : decode cX12_ran 12 = .ok (.invokestatic 55, 3) := by decide +kernel
theorem dX12_ran_15 : decode cX12_ran 15 = .ok (.ifCond .eq 12, 3) := by decide +kernel
theorem dX12_ran_18 : decode cX12_ran 18 = .ok (.iload_n 3, 1) := by decide +kernel
theorem dX12_ran_19 : decode cX12_ran 19 = .ok (.iconst 0, 1) := by decide +kernel
theorem dX12_ran_20 : decode cX12_ran 20 = .ok (.iconst 1, 1) := by decide +kernel
theorem dX12_ran_21 : decode cX12_ran 21 = .ok (.invokestatic 55, 3) := by decide +kernel
theorem dX12_ran_24 : decode cX12_ran 24 = .ok (.ifCond .ne 5, 3) := by decide +kernel
theorem dX12_ran_27 : decode cX12_ran 27 = .ok (.iconst (-1), 1) := by decide +kernel
theorem dX12_ran_28 : decode cX12_ran 28 = .ok (.ireturn, 1) := by decide +kernel
theorem dX12_ran_29 : decode cX12_ran 29 = .ok (.aload_n 0, 1) := by decide +kernel
theorem dX12_ran_30 : decode cX12_ran 30 = .ok (.aload_n 0, 1) := by decide +kernel
theorem dX12_ran_31 : decode cX12_ran 31 = .ok (.getfield 24, 3) := by decide +kernel
theorem dX12_ran_34 : decode cX12_ran 34 = .ok (.invokevirtual 169, 3) := by decide +kernel
theorem dX12_ran_37 : decode cX12_ran 37 = .ok (.iconst 0, 1) := by decide +kernel
theorem dX12_ran_38 : decode cX12_ran 38 = .ok (.istore 4, 2) := by decide +kernel
theorem dX12_ran_40 : decode cX12_ran 40 = .ok (.iconst 0, 1) := by decide +kernel
theorem dX12_ran_41 : decode cX12_ran 41 = .ok (.istore 5, 2) := by decide +kernel
theorem dX12_ran_43 : decode cX12_ran 43 = .ok (.iload 5, 2) := by decide +kernel
theorem dX12_ran_45 : decode cX12_ran 45 = .ok (.iload_n 2, 1) := by decide +kernel
theorem dX12_ran_46 : decode cX12_ran 46 = .ok (.if_icmp .ge 35, 3) := by decide +kernel
theorem dX12_ran_49 : decode cX12_ran 49 = .ok (.aload_n 0, 1) := by decide +kernel
theorem dX12_ran_50 : decode cX12_ran 50 = .ok (.invokevirtual 144, 3) := by decide +kernel
theorem dX12_ran_53 : decode cX12_ran 53 = .ok (.iload_n 3, 1) := by decide +kernel
theorem dX12_ran_54 : decode cX12_ran 54 = .ok (.ifCond .ne 10, 3) := by decide +kernel
theorem dX12_ran_57 : decode cX12_ran 57 = .ok (.aload_n 0, 1) := by decide +kernel
theorem dX12_ran_58 : decode cX12_ran 58 = .ok (.getfield 104, 3) := by decide +kernel
theorem dX12_ran_61 : decode cX12_ran 61 = .ok (.goto 7, 3) := by decide +kernel
theorem dX12_ran_64 : decode cX12_ran 64 = .ok (.aload_n 0, 1) := by decide +kernel
theorem dX12_ran_65 : decode cX12_ran 65 = .ok (.getfield 101, 3) := by decide +kernel
theorem dX12_ran_68 : decode cX12_ran 68 = .ok (.iload_n 1, 1) := by decide +kernel
theorem dX12_ran_69 : decode cX12_ran 69 = .ok (.if_icmp .ne 6, 3) := by decide +kernel
theorem dX12_ran_72 : decode cX12_ran 72 = .ok (.iinc 4 1, 3) := by decide +kernel
theorem dX12_ran_75 : decode cX12_ran 75 = .ok (.iinc 5 1, 3) := by decide +kernel
theorem dX12_ran_78 : decode cX12_ran 78 = .ok (.goto (-35), 3) := by decide +kernel
theorem dX12_ran_81 : decode cX12_ran 81 = .ok (.aload_n 0, 1) := by decide +kernel
theorem dX12_ran_82 : decode cX12_ran 82 = .ok (.aload_n 0, 1) := by decide +kernel
theorem dX12_ran_83 : decode cX12_ran 83 = .ok (.getfield 24, 3) := by decide +kernel
theorem dX12_ran_86 : decode cX12_ran 86 = .ok (.invokevirtual 176, 3) := by decide +kernel
theorem dX12_ran_89 : decode cX12_ran 89 = .ok (.iload 4, 2) := by decide +kernel
theorem dX12_ran_91 : decode cX12_ran 91 = .ok (.ireturn, 1) := by decide +kernel
set_option maxRecDepth 20000 in
theorem ggX12_admitted_X12_isSize : GoodIn wsX12_admitted wsX12_isSize := goodIn_r _ [5, 6, 7, 4, 8] rfl gwX12_isSize
set_option maxRecDepth 20000 in
theorem gX12_admitted_X12_isSize : GoodIn wsX12_admitted (va_wsS RX12 129 yX12_isSize wsX12_isSize) := goodIn_app (goodIn_r _ [2, 3, 4] rfl (by decide +kernel)) ggX12_admitted_X12_isSize
set_option maxRecDepth 20000 in
theorem ggX12_admitted_X12_share : GoodIn wsX12_admitted wsX12_share := goodIn_r _ [12, 13, 14, 15, 16, 17, 18, 19, 20, 21, 22, 23, 24, 25, 26, 27, 28, 29, 30, 31, 32, 33, 34, 35] rfl gwX12_share
set_option maxRecDepth 20000 in
theorem gX12_admitted_X12_share : GoodIn wsX12_admitted (wsV RX12 63 RX12 yX12_share wsX12_share) := goodIn_app (goodIn_r _ [9, 10, 11, 4] rfl (by decide +kernel)) ggX12_admitted_X12_share
theorem dX12_admitted_0 : decode cX12_admitted 0 = .ok (.iload_n 1, 1) := by decide +kernel
theorem dX12_admitted_1 : decode cX12_admitted 1 = .ok (.iload_n 2, 1) := by decide +kernel
theorem dX12_admitted_2 : decode cX12_admitted 2 = .ok (.invokestatic 129, 3) := by decide +kernel
theorem dX12_admitted_5 : decode cX12_admitted 5 = .ok (.ifCond .ne 5, 3) := by decide +kernel
theorem dX12_admitted_8 : decode cX12_admitted 8 = .ok (.iconst (-1), 1) := by decide +kernel
theorem dX12_admitted_9 : decode cX12_admitted 9 = .ok (.ireturn, 1) := by decide +kernel
theorem dX12_admitted_10 : decode cX12_admitted 10 = .ok (.bipush 60, 2) := by decide +kernel
theorem dX12_admitted_12 : decode cX12_admitted 12 = .ok (.iload_n 1, 1) := by decide +kernel
theorem dX12_admitted_13 : decode cX12_admitted 13 = .ok (.imul, 1) := by decide +kernel
theorem dX12_admitted_14 : decode cX12_admitted 14 = .ok (.iload_n 2, 1) := by decide +kernel
theorem dX12_admitted_15 : decode cX12_admitted 15 = .ok (.idiv, 1) := by decide +kernel
theorem dX12_admitted_16 : decode cX12_admitted 16 = .ok (.istore_n 3, 1) := by decide +kernel
theorem dX12_admitted_17 : decode cX12_admitted 17 = .ok (.iconst 0, 1) := by decide +kernel
theorem dX12_admitted_18 : decode cX12_admitted 18 = .ok (.istore 4, 2) := by decide +kernel
theorem dX12_admitted_20 : decode cX12_admitted 20 = .ok (.iload 4, 2) := by decide +kernel
theorem dX12_admitted_22 : decode cX12_admitted 22 = .ok (.aload_n 0, 1) := by decide +kernel
theorem dX12_admitted_23 : decode cX12_admitted 23 = .ok (.getfield 51, 3) := by decide +kernel
theorem dX12_admitted_26 : decode cX12_admitted 26 = .ok (.if_icmp .ge 18, 3) := by decide +kernel
theorem dX12_admitted_29 : decode cX12_admitted 29 = .ok (.iload_n 3, 1) := by decide +kernel
theorem dX12_admitted_30 : decode cX12_admitted 30 = .ok (.aload_n 0, 1) := by decide +kernel
theorem dX12_admitted_31 : decode cX12_admitted 31 = .ok (.iload 4, 2) := by decide +kernel
theorem dX12_admitted_33 : decode cX12_admitted 33 = .ok (.invokevirtual 63, 3) := by decide +kernel
theorem dX12_admitted_36 : decode cX12_admitted 36 = .ok (.iadd, 1) := by decide +kernel
theorem dX12_admitted_37 : decode cX12_admitted 37 = .ok (.istore_n 3, 1) := by decide +kernel
theorem dX12_admitted_38 : decode cX12_admitted 38 = .ok (.iinc 4 1, 3) := by decide +kernel
theorem dX12_admitted_41 : decode cX12_admitted 41 = .ok (.goto (-21), 3) := by decide +kernel
theorem dX12_admitted_44 : decode cX12_admitted 44 = .ok (.iload_n 3, 1) := by decide +kernel
theorem dX12_admitted_45 : decode cX12_admitted 45 = .ok (.bipush 60, 2) := by decide +kernel
theorem dX12_admitted_47 : decode cX12_admitted 47 = .ok (.if_icmp .gt 7, 3) := by decide +kernel
theorem dX12_admitted_50 : decode cX12_admitted 50 = .ok (.iconst 1, 1) := by decide +kernel
theorem dX12_admitted_51 : decode cX12_admitted 51 = .ok (.goto 4, 3) := by decide +kernel
theorem dX12_admitted_54 : decode cX12_admitted 54 = .ok (.iconst 0, 1) := by decide +kernel
theorem dX12_admitted_55 : decode cX12_admitted 55 = .ok (.ireturn, 1) := by decide +kernel
theorem dX12_demandIn_0 : decode cX12_demandIn 0 = .ok (.iconst 0, 1) := by decide +kernel
theorem dX12_demandIn_1 : decode cX12_demandIn 1 = .ok (.istore_n 2, 1) := by decide +kernel
theorem dX12_demandIn_2 : decode cX12_demandIn 2 = .ok (.iconst 0, 1) := by decide +kernel
theorem dX12_demandIn_3 : decode cX12_demandIn 3 = .ok (.istore_n 3, 1) := by decide +kernel
theorem dX12_demandIn_4 : decode cX12_demandIn 4 = .ok (.iload_n 3, 1) := by decide +kernel
theorem dX12_demandIn_5 : decode cX12_demandIn 5 = .ok (.aload_n 0, 1) := by decide +kernel
theorem dX12_demandIn_6 : decode cX12_demandIn 6 = .ok (.getfield 51, 3) := by decide +kernel
theorem dX12_demandIn_9 : decode cX12_demandIn 9 = .ok (.if_icmp .ge 33, 3) := by decide +kernel
theorem dX12_demandIn_12 : decode cX12_demandIn 12 = .ok (.iload_n 2, 1) := by decide +kernel
theorem dX12_demandIn_13 : decode cX12_demandIn 13 = .ok (.aload_n 0, 1) := by decide +kernel
theorem dX12_demandIn_14 : decode cX12_demandIn 14 = .ok (.getfield 9, 3) := by decide +kernel
theorem dX12_demandIn_17 : decode cX12_demandIn 17 = .ok (.bipush 12, 2) := by decide +kernel
theorem dX12_demandIn_19 : decode cX12_demandIn 19 = .ok (.iload_n 3, 1) := by decide +kernel
theorem dX12_demandIn_20 : decode cX12_demandIn 20 = .ok (.iadd, 1) := by decide +kernel
theorem dX12_demandIn_21 : decode cX12_demandIn 21 = .ok (.iaload, 1) := by decide +kernel
theorem dX12_demandIn_22 : decode cX12_demandIn 22 = .ok (.iload_n 1, 1) := by decide +kernel
theorem dX12_demandIn_23 : decode cX12_demandIn 23 = .ok (.aload_n 0, 1) := by decide +kernel
theorem dX12_demandIn_24 : decode cX12_demandIn 24 = .ok (.getfield 9, 3) := by decide +kernel
theorem dX12_demandIn_27 : decode cX12_demandIn 27 = .ok (.bipush 18, 2) := by decide +kernel
theorem dX12_demandIn_29 : decode cX12_demandIn 29 = .ok (.iload_n 3, 1) := by decide +kernel
theorem dX12_demandIn_30 : decode cX12_demandIn 30 = .ok (.iadd, 1) := by decide +kernel
theorem dX12_demandIn_31 : decode cX12_demandIn 31 = .ok (.iaload, 1) := by decide +kernel
theorem dX12_demandIn_32 : decode cX12_demandIn 32 = .ok (.idiv, 1) := by decide +kernel
theorem dX12_demandIn_33 : decode cX12_demandIn 33 = .ok (.imul, 1) := by decide +kernel
theorem dX12_demandIn_34 : decode cX12_demandIn 34 = .ok (.iadd, 1) := by decide +kernel
theorem dX12_demandIn_35 : decode cX12_demandIn 35 = .ok (.istore_n 2, 1) := by decide +kernel
theorem dX12_demandIn_36 : decode cX12_demandIn 36 = .ok (.iinc 3 1, 3) := by decide +kernel
theorem dX12_demandIn_39 : decode cX12_demandIn 39 = .ok (.goto (-35), 3) := by decide +kernel
theorem dX12_demandIn_42 : decode cX12_demandIn 42 = .ok (.iload_n 2, 1) := by decide +kernel
theorem dX12_demandIn_43 : decode cX12_demandIn 43 = .ok (.ireturn, 1) := by decide +kernel
set_option maxRecDepth 20000 in
theorem ggX12_demand_X12_within : GoodIn wsX12_demand wsX12_within := goodIn_r _ [4] rfl gwX12_within
set_option maxRecDepth 20000 in
theorem gX12_demand_X12_within : GoodIn wsX12_demand (va_wsS RX12 55 yX12_within wsX12_within) := goodIn_app (goodIn_r _ [1, 2, 3] rfl (by decide +kernel)) ggX12_demand_X12_within
set_option maxRecDepth 20000 in
theorem gwX12_demandIn : wsX12_demandIn.all goodWord = true := by decide +kernel
set_option maxRecDepth 20000 in
theorem ggX12_demand_X12_demandIn : GoodIn wsX12_demand wsX12_demandIn := goodIn_r _ [8, 9, 10, 11, 12, 13, 14, 15, 16, 17, 18, 19, 20, 21, 22, 23, 24, 25, 26, 27, 28, 29, 30, 31, 32] rfl gwX12_demandIn
set_option maxRecDepth 20000 in
theorem gX12_demand_X12_demandIn : GoodIn wsX12_demand (wsV RX12 203 RX12 yX12_demandIn wsX12_demandIn) := goodIn_app (goodIn_r _ [5, 6, 7, 3] rfl (by decide +kernel)) ggX12_demand_X12_demandIn
theorem dX12_demand_0 : decode cX12_demand 0 = .ok (.iload_n 1, 1) := by decide +kernel
theorem dX12_demand_1 : decode cX12_demand 1 = .ok (.iconst 1, 1) := by decide +kernel
theorem dX12_demand_2 : decode cX12_demand 2 = .ok (.bipush 99, 2) := by decide +kernel
theorem dX12_demand_4 : decode cX12_demand 4 = .ok (.invokestatic 55, 3) := by decide +kernel
theorem dX12_demand_7 : decode cX12_demand 7 = .ok (.ifCond .eq 12, 3) := by decide +kernel
theorem dX12_demand_10 : decode cX12_demand 10 = .ok (.iload_n 2, 1) := by decide +kernel
theorem dX12_demand_11 : decode cX12_demand 11 = .ok (.iconst 0, 1) := by decide +kernel
theorem dX12_demand_12 : decode cX12_demand 12 = .ok (.iconst 1, 1) := by decide +kernel
theorem dX12_demand_13 : decode cX12_demand 13 = .ok (.invokestatic 55, 3) := by decide +kernel
theorem dX12_demand_16 : decode cX12_demand 16 = .ok (.ifCond .ne 5, 3) := by decide +kernel
theorem dX12_demand_19 : decode cX12_demand 19 = .ok (.iconst (-1), 1) := by decide +kernel
theorem dX12_demand_20 : decode cX12_demand 20 = .ok (.ireturn, 1) := by decide +kernel
theorem dX12_demand_21 : decode cX12_demand 21 = .ok (.iload_n 2, 1) := by decide +kernel
theorem dX12_demand_22 : decode cX12_demand 22 = .ok (.ifCond .ne 9, 3) := by decide +kernel
theorem dX12_demand_25 : decode cX12_demand 25 = .ok (.aload_n 0, 1) := by decide +kernel
theorem dX12_demand_26 : decode cX12_demand 26 = .ok (.iload_n 1, 1) := by decide +kernel
theorem dX12_demand_27 : decode cX12_demand 27 = .ok (.invokevirtual 203, 3) := by decide +kernel
theorem dX12_demand_30 : decode cX12_demand 30 = .ok (.ireturn, 1) := by decide +kernel
theorem dX12_demand_31 : decode cX12_demand 31 = .ok (.iconst 1, 1) := by decide +kernel
theorem dX12_demand_32 : decode cX12_demand 32 = .ok (.istore_n 3, 1) := by decide +kernel
theorem dX12_demand_33 : decode cX12_demand 33 = .ok (.iload_n 3, 1) := by decide +kernel
theorem dX12_demand_34 : decode cX12_demand 34 = .ok (.iload_n 1, 1) := by decide +kernel
theorem dX12_demand_35 : decode cX12_demand 35 = .ok (.if_icmp .gt 20, 3) := by decide +kernel
theorem dX12_demand_38 : decode cX12_demand 38 = .ok (.aload_n 0, 1) := by decide +kernel
theorem dX12_demand_39 : decode cX12_demand 39 = .ok (.iload_n 3, 1) := by decide +kernel
theorem dX12_demand_40 : decode cX12_demand 40 = .ok (.invokevirtual 203, 3) := by decide +kernel
theorem dX12_demand_43 : decode cX12_demand 43 = .ok (.iload_n 3, 1) := by decide +kernel
theorem dX12_demand_44 : decode cX12_demand 44 = .ok (.if_icmp .le 5, 3) := by decide +kernel
theorem dX12_demand_47 : decode cX12_demand 47 = .ok (.iconst 0, 1) := by decide +kernel
theorem dX12_demand_48 : decode cX12_demand 48 = .ok (.ireturn, 1) := by decide +kernel
theorem dX12_demand_49 : decode cX12_demand 49 = .ok (.iinc 3 1, 3) := by decide +kernel
theorem dX12_demand_52 : decode cX12_demand 52 = .ok (.goto (-19), 3) := by decide +kernel
theorem dX12_demand_55 : decode cX12_demand 55 = .ok (.iconst 1, 1) := by decide +kernel
theorem dX12_demand_56 : decode cX12_demand 56 = .ok (.ireturn, 1) := by decide +kernel
set_option maxRecDepth 20000 in
theorem ggX12_needs_X12_isServer : GoodIn wsX12_needs wsX12_isServer := goodIn_r _ [11, 12, 13, 14, 10, 15, 92, 93, 94, 95, 96, 97, 98, 99, 100, 101, 102, 103, 104, 105, 106, 107, 108, 109, 110, 111, 112, 113] rfl gwX12_isServer
set_option maxRecDepth 20000 in
theorem gX12_needs_X12_isServer : GoodIn wsX12_needs (wsV RX12 137 RX12 yX12_isServer wsX12_isServer) := goodIn_app (goodIn_r _ [7, 8, 9, 10] rfl (by decide +kernel)) ggX12_needs_X12_isServer
set_option maxRecDepth 20000 in
theorem ggX12_needs_X12_within : GoodIn wsX12_needs wsX12_within := goodIn_r _ [15] rfl gwX12_within
set_option maxRecDepth 20000 in
theorem gX12_needs_X12_within : GoodIn wsX12_needs (va_wsS RX12 55 yX12_within wsX12_within) := goodIn_app (goodIn_r _ [13, 14, 10] rfl (by decide +kernel)) ggX12_needs_X12_within
set_option maxRecDepth 20000 in
theorem ggX12_needs_X12_keep : GoodIn wsX12_needs wsX12_keep := goodIn_r _ [19, 2, 20, 21, 22, 12, 92, 93, 94, 95, 96, 97, 98, 99, 100, 101, 102, 103, 104, 105, 106, 107, 108, 109, 110, 111, 112, 113] rfl gwX12_keep
set_option maxRecDepth 20000 in
theorem gX12_needs_X12_keep : GoodIn wsX12_needs (wsV RX12 169 RX12 yX12_keep wsX12_keep) := goodIn_app (goodIn_r _ [16, 17, 18, 10] rfl (by decide +kernel)) ggX12_needs_X12_keep
set_option maxRecDepth 20000 in
theorem ggX12_needs_X12_goesOn : GoodIn wsX12_needs wsX12_goesOn := goodIn_r _ [26, 27, 28, 29, 10, 30, 31, 32, 33, 34, 35, 36, 21, 20, 2, 22, 3, 4, 5, 6, 37, 38, 39, 40, 12, 41, 42, 43, 44, 45, 46, 47, 48, 49, 50, 51, 52, 53, 54, 55, 56, 57, 58, 59, 60, 61, 62, 63, 64, 65, 66, 67, 68, 69, 70, 71, 72, 73, 74, 75, 76, 77, 78, 79, 80, 81, 82, 83, 84, 85, 86, 87, 92, 93, 94, 95, 96, 97, 98, 99, 100, 101, 102, 103, 104, 105, 106, 107, 108, 109, 110, 111, 112, 113] rfl gwX12_goesOn
set_option maxRecDepth 20000 in
theorem gX12_needs_X12_goesOn : GoodIn wsX12_needs (wsV RX12 191 RX12 yX12_goesOn wsX12_goesOn) := goodIn_app (goodIn_r _ [23, 24, 25, 10] rfl (by decide +kernel)) ggX12_needs_X12_goesOn
set_option maxRecDepth 20000 in
theorem ggX12_needs_X12_again : GoodIn wsX12_needs wsX12_again := goodIn_r _ [91, 2, 20, 21, 22, 12, 92, 93, 94, 95, 96, 97, 98, 99, 100, 101, 102, 103, 104, 105, 106, 107, 108, 109, 110, 111, 112, 113] rfl gwX12_again
set_option maxRecDepth 20000 in
theorem gX12_needs_X12_again : GoodIn wsX12_needs (wsV RX12 176 RX12 yX12_again wsX12_again) := goodIn_app (goodIn_r _ [88, 89, 90, 10] rfl (by decide +kernel)) ggX12_needs_X12_again
theorem dX12_needs_0 : decode cX12_needs 0 = .ok (.aload_n 0, 1) := by decide +kernel
theorem dX12_needs_1 : decode cX12_needs 1 = .ok (.iload_n 1, 1) := by decide +kernel
theorem dX12_needs_2 : decode cX12_needs 2 = .ok (.invokevirtual 137, 3) := by decide +kernel
theorem dX12_needs_5 : decode cX12_needs 5 = .ok (.ifCond .eq 13, 3) := by decide +kernel
theorem dX12_needs_8 : decode cX12_needs 8 = .ok (.iload_n 2, 1) := by decide +kernel
theorem dX12_needs_9 : decode cX12_needs 9 = .ok (.iconst 0, 1) := by decide +kernel
theorem dX12_needs_10 : decode cX12_needs 10 = .ok (.bipush 60, 2) := by decide +kernel
theorem dX12_needs_12 : decode cX12_needs 12 = .ok (.invokestatic 55, 3) := by decide +kernel
theorem dX12_needs_15 : decode cX12_needs 15 = .ok (.ifCond .ne 5, 3) := by decide +kernel
theorem dX12_needs_18 : decode cX12_needs 18 = .ok (.iconst (-1), 1) := by decide +kernel
theorem dX12_needs_19 : decode cX12_needs 19 = .ok (.ireturn, 1) := by decide +kernel
theorem dX12_needs_20 : decode cX12_needs 20 = .ok (.aload_n 0, 1) := by decide +kernel
theorem dX12_needs_21 : decode cX12_needs 21 = .ok (.aload_n 0, 1) := by decide +kernel
theorem dX12_needs_22 : decode cX12_needs 22 = .ok (.getfield 24, 3) := by decide +kernel
theorem dX12_needs_25 : decode cX12_needs 25 = .ok (.invokevirtual 169, 3) := by decide +kernel
theorem dX12_needs_28 : decode cX12_needs 28 = .ok (.bipush (-4), 2) := by decide +kernel
theorem dX12_needs_30 : decode cX12_needs 30 = .ok (.istore_n 3, 1) := by decide +kernel
theorem dX12_needs_31 : decode cX12_needs 31 = .ok (.iconst 1, 1) := by decide +kernel
theorem dX12_needs_32 : decode cX12_needs 32 = .ok (.istore 4, 2) := by decide +kernel
theorem dX12_needs_34 : decode cX12_needs 34 = .ok (.iload 4, 2) := by decide +kernel
theorem dX12_needs_36 : decode cX12_needs 36 = .ok (.bipush 30, 2) := by decide +kernel
theorem dX12_needs_38 : decode cX12_needs 38 = .ok (.aload_n 0, 1) := by decide +kernel
theorem dX12_needs_39 : decode cX12_needs 39 = .ok (.getfield 9, 3) := by decide +kernel
theorem dX12_needs_42 : decode cX12_needs 42 = .ok (.bipush 18, 2) := by decide +kernel
theorem dX12_needs_44 : decode cX12_needs 44 = .ok (.iload_n 1, 1) := by decide +kernel
theorem dX12_needs_45 : decode cX12_needs 45 = .ok (.iadd, 1) := by decide +kernel
theorem dX12_needs_46 : decode cX12_needs 46 = .ok (.iaload, 1) := by decide +kernel
theorem dX12_needs_47 : decode cX12_needs 47 = .ok (.invokestatic 76, 3) := by decide +kernel
theorem dX12_needs_50 : decode cX12_needs 50 = .ok (.if_icmp .gt 63, 3) := by decide +kernel
theorem dX12_needs_53 : decode cX12_needs 53 = .ok (.iload_n 3, 1) := by decide +kernel
theorem dX12_needs_54 : decode cX12_needs 54 = .ok (.bipush (-4), 2) := by decide +kernel
theorem dX12_needs_56 : decode cX12_needs 56 = .ok (.if_icmp .ne 57, 3) := by decide +kernel
theorem dX12_needs_59 : decode cX12_needs 59 = .ok (.aload_n 0, 1) := by decide +kernel
theorem dX12_needs_60 : decode cX12_needs 60 = .ok (.getfield 9, 3) := by decide +kernel
theorem dX12_needs_63 : decode cX12_needs 63 = .ok (.bipush 12, 2) := by decide +kernel
theorem dX12_needs_65 : decode cX12_needs 65 = .ok (.iload_n 1, 1) := by decide +kernel
theorem dX12_needs_66 : decode cX12_needs 66 = .ok (.iadd, 1) := by decide +kernel
theorem dX12_needs_67 : decode cX12_needs 67 = .ok (.iload 4, 2) := by decide +kernel
theorem dX12_needs_69 : decode cX12_needs 69 = .ok (.iastore, 1) := by decide +kernel
theorem dX12_needs_70 : decode cX12_needs 70 = .ok (.aload_n 0, 1) := by decide +kernel
theorem dX12_needs_71 : decode cX12_needs 71 = .ok (.iload_n 2, 1) := by decide +kernel
theorem dX12_needs_72 : decode cX12_needs 72 = .ok (.invokevirtual 191, 3) := by decide +kernel
theorem dX12_needs_75 : decode cX12_needs 75 = .ok (.aload_n 0, 1) := by decide +kernel
theorem dX12_needs_76 : decode cX12_needs 76 = .ok (.getfield 9, 3) := by decide +kernel
theorem dX12_needs_79 : decode cX12_needs 79 = .ok (.bipush 48, 2) := by decide +kernel
theorem dX12_needs_81 : decode cX12_needs 81 = .ok (.iload_n 1, 1) := by decide +kernel
theorem dX12_needs_82 : decode cX12_needs 82 = .ok (.iadd, 1) := by decide +kernel
theorem dX12_needs_83 : decode cX12_needs 83 = .ok (.iaload, 1) := by decide +kernel
theorem dX12_needs_84 : decode cX12_needs 84 = .ok (.aload_n 0, 1) := by decide +kernel
theorem dX12_needs_85 : decode cX12_needs 85 = .ok (.getfield 24, 3) := by decide +kernel
theorem dX12_needs_88 : decode cX12_needs 88 = .ok (.bipush 48, 2) := by decide +kernel
theorem dX12_needs_90 : decode cX12_needs 90 = .ok (.iload_n 1, 1) := by decide +kernel
theorem dX12_needs_91 : decode cX12_needs 91 = .ok (.iadd, 1) := by decide +kernel
theorem dX12_needs_92 : decode cX12_needs 92 = .ok (.iaload, 1) := by decide +kernel
theorem dX12_needs_93 : decode cX12_needs 93 = .ok (.if_icmp .ne 6, 3) := by decide +kernel
theorem dX12_needs_96 : decode cX12_needs 96 = .ok (.iload 4, 2) := by decide +kernel
theorem dX12_needs_98 : decode cX12_needs 98 = .ok (.istore_n 3, 1) := by decide +kernel
theorem dX12_needs_99 : decode cX12_needs 99 = .ok (.aload_n 0, 1) := by decide +kernel
theorem dX12_needs_100 : decode cX12_needs 100 = .ok (.aload_n 0, 1) := by decide +kernel
theorem dX12_needs_101 : decode cX12_needs 101 = .ok (.getfield 24, 3) := by decide +kernel
theorem dX12_needs_104 : decode cX12_needs 104 = .ok (.invokevirtual 176, 3) := by decide +kernel
theorem dX12_needs_107 : decode cX12_needs 107 = .ok (.iinc 4 1, 3) := by decide +kernel
theorem dX12_needs_110 : decode cX12_needs 110 = .ok (.goto (-76), 3) := by decide +kernel
theorem dX12_needs_113 : decode cX12_needs 113 = .ok (.iload_n 3, 1) := by decide +kernel
theorem dX12_needs_114 : decode cX12_needs 114 = .ok (.ireturn, 1) := by decide +kernel
set_option maxRecDepth 20000 in
theorem ggX12_alone_X12_isServer : GoodIn wsX12_alone wsX12_isServer := goodIn_r _ [8, 2, 9, 10, 7, 11, 96, 97, 98, 99, 100, 101, 102, 103, 104, 105, 106, 107, 108, 109, 110, 111, 112, 113, 114, 115, 116, 117] rfl gwX12_isServer
set_option maxRecDepth 20000 in
theorem gX12_alone_X12_isServer : GoodIn wsX12_alone (wsV RX12 137 RX12 yX12_isServer wsX12_isServer) := goodIn_app (goodIn_r _ [4, 5, 6, 7] rfl (by decide +kernel)) ggX12_alone_X12_isServer
set_option maxRecDepth 20000 in
theorem ggX12_alone_X12_within : GoodIn wsX12_alone wsX12_within := goodIn_r _ [11] rfl gwX12_within
set_option maxRecDepth 20000 in
theorem gX12_alone_X12_within : GoodIn wsX12_alone (va_wsS RX12 55 yX12_within wsX12_within) := goodIn_app (goodIn_r _ [9, 10, 7] rfl (by decide +kernel)) ggX12_alone_X12_within
set_option maxRecDepth 20000 in
theorem ggX12_alone_X12_keep : GoodIn wsX12_alone wsX12_keep := goodIn_r _ [15, 3, 16, 17, 18, 2, 96, 97, 98, 99, 100, 101, 102, 103, 104, 105, 106, 107, 108, 109, 110, 111, 112, 113, 114, 115, 116, 117] rfl gwX12_keep
set_option maxRecDepth 20000 in
theorem gX12_alone_X12_keep : GoodIn wsX12_alone (wsV RX12 169 RX12 yX12_keep wsX12_keep) := goodIn_app (goodIn_r _ [12, 13, 14, 7] rfl (by decide +kernel)) ggX12_alone_X12_keep
set_option maxRecDepth 20000 in
theorem ggX12_alone_X12_goesOff : GoodIn wsX12_alone wsX12_goesOff := goodIn_r _ [22, 3, 96, 97, 98, 99, 100, 101, 102, 103, 104, 105, 106, 107, 108, 109, 110, 111, 112, 113, 114, 115, 116, 117] rfl gwX12_goesOff
set_option maxRecDepth 20000 in
theorem gX12_alone_X12_goesOff : GoodIn wsX12_alone (wsV RX12 182 RX12 yX12_goesOff wsX12_goesOff) := goodIn_app (goodIn_r _ [19, 20, 21, 7] rfl (by decide +kernel)) ggX12_alone_X12_goesOff
set_option maxRecDepth 20000 in
theorem ggX12_alone_X12_goesOn : GoodIn wsX12_alone wsX12_goesOn := goodIn_r _ [26, 27, 28, 29, 7, 30, 31, 32, 33, 34, 35, 36, 17, 16, 3, 18, 37, 38, 39, 40, 41, 42, 43, 44, 2, 45, 46, 47, 48, 49, 50, 51, 52, 53, 54, 55, 56, 57, 58, 59, 60, 61, 62, 63, 64, 65, 66, 67, 68, 69, 70, 71, 72, 73, 74, 75, 76, 77, 78, 79, 80, 81, 82, 83, 84, 85, 86, 87, 88, 89, 90, 91, 96, 97, 98, 99, 100, 101, 102, 103, 104, 105, 106, 107, 108, 109, 110, 111, 112, 113, 114, 115, 116, 117] rfl gwX12_goesOn
set_option maxRecDepth 20000 in
theorem gX12_alone_X12_goesOn : GoodIn wsX12_alone (wsV RX12 191 RX12 yX12_goesOn wsX12_goesOn) := goodIn_app (goodIn_r _ [23, 24, 25, 7] rfl (by decide +kernel)) ggX12_alone_X12_goesOn
set_option maxRecDepth 20000 in
theorem ggX12_alone_X12_again : GoodIn wsX12_alone wsX12_again := goodIn_r _ [95, 3, 16, 17, 18, 2, 96, 97, 98, 99, 100, 101, 102, 103, 104, 105, 106, 107, 108, 109, 110, 111, 112, 113, 114, 115, 116, 117] rfl gwX12_again
set_option maxRecDepth 20000 in
theorem gX12_alone_X12_again : GoodIn wsX12_alone (wsV RX12 176 RX12 yX12_again wsX12_again) := goodIn_app (goodIn_r _ [92, 93, 94, 7] rfl (by decide +kernel)) ggX12_alone_X12_again
theorem dX12_alone_0 : decode cX12_alone 0 = .ok (.aload_n 0, 1) := by decide +kernel
theorem dX12_alone_1 : decode cX12_alone 1 = .ok (.iload_n 1, 1) := by decide +kernel
theorem dX12_alone_2 : decode cX12_alone 2 = .ok (.invokevirtual 137, 3) := by decide +kernel
theorem dX12_alone_5 : decode cX12_alone 5 = .ok (.ifCond .eq 13, 3) := by decide +kernel
theorem dX12_alone_8 : decode cX12_alone 8 = .ok (.iload_n 2, 1) := by decide +kernel
theorem dX12_alone_9 : decode cX12_alone 9 = .ok (.iconst 0, 1) := by decide +kernel
theorem dX12_alone_10 : decode cX12_alone 10 = .ok (.bipush 60, 2) := by decide +kernel
theorem dX12_alone_12 : decode cX12_alone 12 = .ok (.invokestatic 55, 3) := by decide +kernel
theorem dX12_alone_15 : decode cX12_alone 15 = .ok (.ifCond .ne 5, 3) := by decide +kernel
theorem dX12_alone_18 : decode cX12_alone 18 = .ok (.iconst (-1), 1) := by decide +kernel
theorem dX12_alone_19 : decode cX12_alone 19 = .ok (.ireturn, 1) := by decide +kernel
theorem dX12_alone_20 : decode cX12_alone 20 = .ok (.aload_n 0, 1) := by decide +kernel
theorem dX12_alone_21 : decode cX12_alone 21 = .ok (.aload_n 0, 1) := by decide +kernel
theorem dX12_alone_22 : decode cX12_alone 22 = .ok (.getfield 24, 3) := by decide +kernel
theorem dX12_alone_25 : decode cX12_alone 25 = .ok (.invokevirtual 169, 3) := by decide +kernel
theorem dX12_alone_28 : decode cX12_alone 28 = .ok (.iconst 0, 1) := by decide +kernel
theorem dX12_alone_29 : decode cX12_alone 29 = .ok (.istore_n 3, 1) := by decide +kernel
theorem dX12_alone_30 : decode cX12_alone 30 = .ok (.iload_n 3, 1) := by decide +kernel
theorem dX12_alone_31 : decode cX12_alone 31 = .ok (.aload_n 0, 1) := by decide +kernel
theorem dX12_alone_32 : decode cX12_alone 32 = .ok (.getfield 51, 3) := by decide +kernel
theorem dX12_alone_35 : decode cX12_alone 35 = .ok (.if_icmp .ge 20, 3) := by decide +kernel
theorem dX12_alone_38 : decode cX12_alone 38 = .ok (.iload_n 3, 1) := by decide +kernel
theorem dX12_alone_39 : decode cX12_alone 39 = .ok (.iload_n 1, 1) := by decide +kernel
theorem dX12_alone_40 : decode cX12_alone 40 = .ok (.if_icmp .eq 9, 3) := by decide +kernel
theorem dX12_alone_43 : decode cX12_alone 43 = .ok (.aload_n 0, 1) := by decide +kernel
theorem dX12_alone_44 : decode cX12_alone 44 = .ok (.iload_n 3, 1) := by decide +kernel
theorem dX12_alone_45 : decode cX12_alone 45 = .ok (.invokevirtual 182, 3) := by decide +kernel
theorem dX12_alone_48 : decode cX12_alone 48 = .ok (.pop, 1) := by decide +kernel
theorem dX12_alone_49 : decode cX12_alone 49 = .ok (.iinc 3 1, 3) := by decide +kernel
theorem dX12_alone_52 : decode cX12_alone 52 = .ok (.goto (-22), 3) := by decide +kernel
theorem dX12_alone_55 : decode cX12_alone 55 = .ok (.aload_n 0, 1) := by decide +kernel
theorem dX12_alone_56 : decode cX12_alone 56 = .ok (.iload_n 2, 1) := by decide +kernel
theorem dX12_alone_57 : decode cX12_alone 57 = .ok (.invokevirtual 191, 3) := by decide +kernel
theorem dX12_alone_60 : decode cX12_alone 60 = .ok (.aload_n 0, 1) := by decide +kernel
theorem dX12_alone_61 : decode cX12_alone 61 = .ok (.getfield 9, 3) := by decide +kernel
theorem dX12_alone_64 : decode cX12_alone 64 = .ok (.bipush 48, 2) := by decide +kernel
theorem dX12_alone_66 : decode cX12_alone 66 = .ok (.iload_n 1, 1) := by decide +kernel
theorem dX12_alone_67 : decode cX12_alone 67 = .ok (.iadd, 1) := by decide +kernel
theorem dX12_alone_68 : decode cX12_alone 68 = .ok (.iaload, 1) := by decide +kernel
theorem dX12_alone_69 : decode cX12_alone 69 = .ok (.aload_n 0, 1) := by decide +kernel
theorem dX12_alone_70 : decode cX12_alone 70 = .ok (.getfield 24, 3) := by decide +kernel
theorem dX12_alone_73 : decode cX12_alone 73 = .ok (.bipush 48, 2) := by decide +kernel
theorem dX12_alone_75 : decode cX12_alone 75 = .ok (.iload_n 1, 1) := by decide +kernel
theorem dX12_alone_76 : decode cX12_alone 76 = .ok (.iadd, 1) := by decide +kernel
theorem dX12_alone_77 : decode cX12_alone 77 = .ok (.iaload, 1) := by decide +kernel
theorem dX12_alone_78 : decode cX12_alone 78 = .ok (.isub, 1) := by decide +kernel
theorem dX12_alone_79 : decode cX12_alone 79 = .ok (.istore_n 3, 1) := by decide +kernel
theorem dX12_alone_80 : decode cX12_alone 80 = .ok (.aload_n 0, 1) := by decide +kernel
theorem dX12_alone_81 : decode cX12_alone 81 = .ok (.aload_n 0, 1) := by decide +kernel
theorem dX12_alone_82 : decode cX12_alone 82 = .ok (.getfield 24, 3) := by decide +kernel
theorem dX12_alone_85 : decode cX12_alone 85 = .ok (.invokevirtual 176, 3) := by decide +kernel
theorem dX12_alone_88 : decode cX12_alone 88 = .ok (.iload_n 3, 1) := by decide +kernel
theorem dX12_alone_89 : decode cX12_alone 89 = .ok (.ireturn, 1) := by decide +kernel
set_option maxRecDepth 20000 in
theorem ggX12_kindBest_X12_isServer : GoodIn wsX12_kindBest wsX12_isServer := goodIn_r _ [7, 8, 9, 10, 6, 11, 96, 97, 98, 99, 100, 101, 102, 103, 104, 105, 106, 107, 108, 109, 110, 111, 112, 113, 114, 115, 116, 117] rfl gwX12_isServer
set_option maxRecDepth 20000 in
theorem gX12_kindBest_X12_isServer : GoodIn wsX12_kindBest (wsV RX12 137 RX12 yX12_isServer wsX12_isServer) := goodIn_app (goodIn_r _ [3, 4, 5, 6] rfl (by decide +kernel)) ggX12_kindBest_X12_isServer
set_option maxRecDepth 20000 in
theorem ggX12_kindBest_X12_within : GoodIn wsX12_kindBest wsX12_within := goodIn_r _ [11] rfl gwX12_within
set_option maxRecDepth 20000 in
theorem gX12_kindBest_X12_within : GoodIn wsX12_kindBest (va_wsS RX12 55 yX12_within wsX12_within) := goodIn_app (goodIn_r _ [9, 10, 6] rfl (by decide +kernel)) ggX12_kindBest_X12_within
set_option maxRecDepth 20000 in
theorem ggX12_kindBest_X12_keep : GoodIn wsX12_kindBest wsX12_keep := goodIn_r _ [15, 2, 16, 17, 18, 8, 96, 97, 98, 99, 100, 101, 102, 103, 104, 105, 106, 107, 108, 109, 110, 111, 112, 113, 114, 115, 116, 117] rfl gwX12_keep
set_option maxRecDepth 20000 in
theorem gX12_kindBest_X12_keep : GoodIn wsX12_kindBest (wsV RX12 169 RX12 yX12_keep wsX12_keep) := goodIn_app (goodIn_r _ [12, 13, 14, 6] rfl (by decide +kernel)) ggX12_kindBest_X12_keep
set_option maxRecDepth 20000 in
theorem ggX12_kindBest_X12_goesOn : GoodIn wsX12_kindBest wsX12_goesOn := goodIn_r _ [22, 23, 24, 25, 6, 26, 27, 28, 29, 30, 31, 32, 17, 16, 2, 18, 33, 34, 35, 36, 37, 38, 39, 40, 8, 41, 42, 43, 44, 45, 46, 47, 48, 49, 50, 51, 52, 53, 54, 55, 56, 57, 58, 59, 60, 61, 62, 63, 64, 65, 66, 67, 68, 69, 70, 71, 72, 73, 74, 75, 76, 77, 78, 79, 80, 81, 82, 83, 84, 85, 86, 87, 96, 97, 98, 99, 100, 101, 102, 103, 104, 105, 106, 107, 108, 109, 110, 111, 112, 113, 114, 115, 116, 117] rfl gwX12_goesOn
set_option maxRecDepth 20000 in
theorem gX12_kindBest_X12_goesOn : GoodIn wsX12_kindBest (wsV RX12 191 RX12 yX12_goesOn wsX12_goesOn) := goodIn_app (goodIn_r _ [19, 20, 21, 6] rfl (by decide +kernel)) ggX12_kindBest_X12_goesOn
set_option maxRecDepth 20000 in
theorem ggX12_kindBest_X12_allLate : GoodIn wsX12_kindBest wsX12_allLate := goodIn_r _ [91, 8, 2, 96, 97, 98, 99, 100, 101, 102, 103, 104, 105, 106, 107, 108, 109, 110, 111, 112, 113, 114, 115, 116, 117] rfl gwX12_allLate
set_option maxRecDepth 20000 in
theorem gX12_kindBest_X12_allLate : GoodIn wsX12_kindBest (wsV RX12 185 RX12 yX12_allLate wsX12_allLate) := goodIn_app (goodIn_r _ [88, 89, 90, 6] rfl (by decide +kernel)) ggX12_kindBest_X12_allLate
set_option maxRecDepth 20000 in
theorem ggX12_kindBest_X12_again : GoodIn wsX12_kindBest wsX12_again := goodIn_r _ [95, 2, 16, 17, 18, 8, 96, 97, 98, 99, 100, 101, 102, 103, 104, 105, 106, 107, 108, 109, 110, 111, 112, 113, 114, 115, 116, 117] rfl gwX12_again
set_option maxRecDepth 20000 in
theorem gX12_kindBest_X12_again : GoodIn wsX12_kindBest (wsV RX12 176 RX12 yX12_again wsX12_again) := goodIn_app (goodIn_r _ [92, 93, 94, 6] rfl (by decide +kernel)) ggX12_kindBest_X12_again
theorem dX12_kindBest_0 : decode cX12_kindBest 0 = .ok (.aload_n 0, 1) := by decide +kernel
theorem dX12_kindBest_1 : decode cX12_kindBest 1 = .ok (.iload_n 1, 1) := by decide +kernel
theorem dX12_kindBest_2 : decode cX12_kindBest 2 = .ok (.invokevirtual 137, 3) := by decide +kernel
theorem dX12_kindBest_5 : decode cX12_kindBest 5 = .ok (.ifCond .eq 22, 3) := by decide +kernel
theorem dX12_kindBest_8 : decode cX12_kindBest 8 = .ok (.iload_n 2, 1) := by decide +kernel
theorem dX12_kindBest_9 : decode cX12_kindBest 9 = .ok (.iconst 0, 1) := by decide +kernel
theorem dX12_kindBest_10 : decode cX12_kindBest 10 = .ok (.bipush 60, 2) := by decide +kernel
theorem dX12_kindBest_12 : decode cX12_kindBest 12 = .ok (.invokestatic 55, 3) := by decide +kernel
theorem dX12_kindBest_15 : decode cX12_kindBest 15 = .ok (.ifCond .eq 12, 3) := by decide +kernel
theorem dX12_kindBest_18 : decode cX12_kindBest 18 = .ok (.iload_n 3, 1) := by decide +kernel
theorem dX12_kindBest_19 : decode cX12_kindBest 19 = .ok (.iconst 0, 1) := by decide +kernel
theorem dX12_kindBest_20 : decode cX12_kindBest 20 = .ok (.iconst 1, 1) := by decide +kernel
theorem dX12_kindBest_21 : decode cX12_kindBest 21 = .ok (.invokestatic 55, 3) := by decide +kernel
theorem dX12_kindBest_24 : decode cX12_kindBest 24 = .ok (.ifCond .ne 5, 3) := by decide +kernel
theorem dX12_kindBest_27 : decode cX12_kindBest 27 = .ok (.iconst (-1), 1) := by decide +kernel
theorem dX12_kindBest_28 : decode cX12_kindBest 28 = .ok (.ireturn, 1) := by decide +kernel
theorem dX12_kindBest_29 : decode cX12_kindBest 29 = .ok (.aload_n 0, 1) := by decide +kernel
theorem dX12_kindBest_30 : decode cX12_kindBest 30 = .ok (.aload_n 0, 1) := by decide +kernel
theorem dX12_kindBest_31 : decode cX12_kindBest 31 = .ok (.getfield 24, 3) := by decide +kernel
theorem dX12_kindBest_34 : decode cX12_kindBest 34 = .ok (.invokevirtual 169, 3) := by decide +kernel
theorem dX12_kindBest_37 : decode cX12_kindBest 37 = .ok (.iconst 0, 1) := by decide +kernel
theorem dX12_kindBest_38 : decode cX12_kindBest 38 = .ok (.istore 4, 2) := by decide +kernel
theorem dX12_kindBest_40 : decode cX12_kindBest 40 = .ok (.iconst 0, 1) := by decide +kernel
theorem dX12_kindBest_41 : decode cX12_kindBest 41 = .ok (.istore 5, 2) := by decide +kernel
theorem dX12_kindBest_43 : decode cX12_kindBest 43 = .ok (.iconst 0, 1) := by decide +kernel
theorem dX12_kindBest_44 : decode cX12_kindBest 44 = .ok (.istore 6, 2) := by decide +kernel
theorem dX12_kindBest_46 : decode cX12_kindBest 46 = .ok (.iload 6, 2) := by decide +kernel
theorem dX12_kindBest_48 : decode cX12_kindBest 48 = .ok (.bipush 6, 2) := by decide +kernel
theorem dX12_kindBest_50 : decode cX12_kindBest 50 = .ok (.if_icmp .ge 56, 3) := by decide +kernel
theorem dX12_kindBest_53 : decode cX12_kindBest 53 = .ok (.aload_n 0, 1) := by decide +kernel
theorem dX12_kindBest_54 : decode cX12_kindBest 54 = .ok (.getfield 9, 3) := by decide +kernel
theorem dX12_kindBest_57 : decode cX12_kindBest 57 = .ok (.iconst 0, 1) := by decide +kernel
theorem dX12_kindBest_58 : decode cX12_kindBest 58 = .ok (.iload_n 1, 1) := by decide +kernel
theorem dX12_kindBest_59 : decode cX12_kindBest 59 = .ok (.iadd, 1) := by decide +kernel
theorem dX12_kindBest_60 : decode cX12_kindBest 60 = .ok (.iload 6, 2) := by decide +kernel
theorem dX12_kindBest_62 : decode cX12_kindBest 62 = .ok (.iastore, 1) := by decide +kernel
theorem dX12_kindBest_63 : decode cX12_kindBest 63 = .ok (.aload_n 0, 1) := by decide +kernel
theorem dX12_kindBest_64 : decode cX12_kindBest 64 = .ok (.iload_n 2, 1) := by decide +kernel
theorem dX12_kindBest_65 : decode cX12_kindBest 65 = .ok (.invokevirtual 191, 3) := by decide +kernel
theorem dX12_kindBest_68 : decode cX12_kindBest 68 = .ok (.iload 6, 2) := by decide +kernel
theorem dX12_kindBest_70 : decode cX12_kindBest 70 = .ok (.ifCond .eq 12, 3) := by decide +kernel
theorem dX12_kindBest_73 : decode cX12_kindBest 73 = .ok (.aload_n 0, 1) := by decide +kernel
theorem dX12_kindBest_74 : decode cX12_kindBest 74 = .ok (.invokevirtual 185, 3) := by decide +kernel
theorem dX12_kindBest_77 : decode cX12_kindBest 77 = .ok (.iload 5, 2) := by decide +kernel
theorem dX12_kindBest_79 : decode cX12_kindBest 79 = .ok (.if_icmp .ge 13, 3) := by decide +kernel
theorem dX12_kindBest_82 : decode cX12_kindBest 82 = .ok (.iload 6, 2) := by decide +kernel
theorem dX12_kindBest_84 : decode cX12_kindBest 84 = .ok (.istore 4, 2) := by decide +kernel
theorem dX12_kindBest_86 : decode cX12_kindBest 86 = .ok (.aload_n 0, 1) := by decide +kernel
theorem dX12_kindBest_87 : decode cX12_kindBest 87 = .ok (.invokevirtual 185, 3) := by decide +kernel
theorem dX12_kindBest_90 : decode cX12_kindBest 90 = .ok (.istore 5, 2) := by decide +kernel
theorem dX12_kindBest_92 : decode cX12_kindBest 92 = .ok (.aload_n 0, 1) := by decide +kernel
theorem dX12_kindBest_93 : decode cX12_kindBest 93 = .ok (.aload_n 0, 1) := by decide +kernel
theorem dX12_kindBest_94 : decode cX12_kindBest 94 = .ok (.getfield 24, 3) := by decide +kernel
theorem dX12_kindBest_97 : decode cX12_kindBest 97 = .ok (.invokevirtual 176, 3) := by decide +kernel
theorem dX12_kindBest_100 : decode cX12_kindBest 100 = .ok (.iinc 6 1, 3) := by decide +kernel
theorem dX12_kindBest_103 : decode cX12_kindBest 103 = .ok (.goto (-57), 3) := by decide +kernel
theorem dX12_kindBest_106 : decode cX12_kindBest 106 = .ok (.iload_n 3, 1) := by decide +kernel
theorem dX12_kindBest_107 : decode cX12_kindBest 107 = .ok (.ifCond .ne 8, 3) := by decide +kernel
theorem dX12_kindBest_110 : decode cX12_kindBest 110 = .ok (.iload 4, 2) := by decide +kernel
theorem dX12_kindBest_112 : decode cX12_kindBest 112 = .ok (.goto 5, 3) := by decide +kernel
theorem dX12_kindBest_115 : decode cX12_kindBest 115 = .ok (.iload 5, 2) := by decide +kernel
theorem dX12_kindBest_117 : decode cX12_kindBest 117 = .ok (.ireturn, 1) := by decide +kernel
set_option maxRecDepth 20000 in
theorem ggX12_others_X12_goesOff : GoodIn wsX12_others wsX12_goesOff := goodIn_r _ [7, 1, 89, 90, 91, 92, 93, 94, 95, 96, 97, 98, 99, 100, 101, 102, 103, 104, 105, 106, 107, 108, 109, 110] rfl gwX12_goesOff
set_option maxRecDepth 20000 in
theorem gX12_others_X12_goesOff : GoodIn wsX12_others (wsV RX12 182 RX12 yX12_goesOff wsX12_goesOff) := goodIn_app (goodIn_r _ [3, 4, 5, 6] rfl (by decide +kernel)) ggX12_others_X12_goesOff
set_option maxRecDepth 20000 in
theorem ggX12_others_X12_goesOn : GoodIn wsX12_others wsX12_goesOn := goodIn_r _ [11, 12, 13, 14, 6, 15, 16, 17, 18, 19, 20, 21, 22, 23, 1, 24, 25, 26, 27, 28, 29, 30, 31, 32, 33, 34, 35, 36, 37, 38, 39, 40, 41, 42, 43, 44, 45, 46, 47, 48, 49, 50, 51, 52, 53, 54, 55, 56, 57, 58, 59, 60, 61, 62, 63, 64, 65, 66, 67, 68, 69, 70, 71, 72, 73, 74, 75, 76, 77, 78, 79, 80, 89, 90, 91, 92, 93, 94, 95, 96, 97, 98, 99, 100, 101, 102, 103, 104, 105, 106, 107, 108, 109, 110] rfl gwX12_goesOn
set_option maxRecDepth 20000 in
theorem gX12_others_X12_goesOn : GoodIn wsX12_others (wsV RX12 191 RX12 yX12_goesOn wsX12_goesOn) := goodIn_app (goodIn_r _ [8, 9, 10, 6] rfl (by decide +kernel)) ggX12_others_X12_goesOn
set_option maxRecDepth 20000 in
theorem ggX12_others_X12_allLate : GoodIn wsX12_others wsX12_allLate := goodIn_r _ [84, 33, 1, 89, 90, 91, 92, 93, 94, 95, 96, 97, 98, 99, 100, 101, 102, 103, 104, 105, 106, 107, 108, 109, 110] rfl gwX12_allLate
set_option maxRecDepth 20000 in
theorem gX12_others_X12_allLate : GoodIn wsX12_others (wsV RX12 185 RX12 yX12_allLate wsX12_allLate) := goodIn_app (goodIn_r _ [81, 82, 83, 6] rfl (by decide +kernel)) ggX12_others_X12_allLate
set_option maxRecDepth 20000 in
theorem ggX12_others_X12_again : GoodIn wsX12_others wsX12_again := goodIn_r _ [88, 1, 23, 22, 24, 33, 89, 90, 91, 92, 93, 94, 95, 96, 97, 98, 99, 100, 101, 102, 103, 104, 105, 106, 107, 108, 109, 110] rfl gwX12_again
set_option maxRecDepth 20000 in
theorem gX12_others_X12_again : GoodIn wsX12_others (wsV RX12 176 RX12 yX12_again wsX12_again) := goodIn_app (goodIn_r _ [85, 86, 87, 6] rfl (by decide +kernel)) ggX12_others_X12_again
theorem dX12_others_0 : decode cX12_others 0 = .ok (.iload_n 3, 1) := by decide +kernel
theorem dX12_others_1 : decode cX12_others 1 = .ok (.ifCond .ne 9, 3) := by decide +kernel
theorem dX12_others_4 : decode cX12_others 4 = .ok (.aload_n 0, 1) := by decide +kernel
theorem dX12_others_5 : decode cX12_others 5 = .ok (.iload_n 1, 1) := by decide +kernel
theorem dX12_others_6 : decode cX12_others 6 = .ok (.invokevirtual 182, 3) := by decide +kernel
theorem dX12_others_9 : decode cX12_others 9 = .ok (.pop, 1) := by decide +kernel
theorem dX12_others_10 : decode cX12_others 10 = .ok (.aload_n 0, 1) := by decide +kernel
theorem dX12_others_11 : decode cX12_others 11 = .ok (.iload_n 2, 1) := by decide +kernel
theorem dX12_others_12 : decode cX12_others 12 = .ok (.invokevirtual 191, 3) := by decide +kernel
theorem dX12_others_15 : decode cX12_others 15 = .ok (.aload_n 0, 1) := by decide +kernel
theorem dX12_others_16 : decode cX12_others 16 = .ok (.invokevirtual 185, 3) := by decide +kernel
theorem dX12_others_19 : decode cX12_others 19 = .ok (.aload_n 0, 1) := by decide +kernel
theorem dX12_others_20 : decode cX12_others 20 = .ok (.getfield 9, 3) := by decide +kernel
theorem dX12_others_23 : decode cX12_others 23 = .ok (.bipush 48, 2) := by decide +kernel
theorem dX12_others_25 : decode cX12_others 25 = .ok (.iload_n 1, 1) := by decide +kernel
theorem dX12_others_26 : decode cX12_others 26 = .ok (.iadd, 1) := by decide +kernel
theorem dX12_others_27 : decode cX12_others 27 = .ok (.iaload, 1) := by decide +kernel
theorem dX12_others_28 : decode cX12_others 28 = .ok (.isub, 1) := by decide +kernel
theorem dX12_others_29 : decode cX12_others 29 = .ok (.istore 4, 2) := by decide +kernel
theorem dX12_others_31 : decode cX12_others 31 = .ok (.aload_n 0, 1) := by decide +kernel
theorem dX12_others_32 : decode cX12_others 32 = .ok (.aload_n 0, 1) := by decide +kernel
theorem dX12_others_33 : decode cX12_others 33 = .ok (.getfield 24, 3) := by decide +kernel
theorem dX12_others_36 : decode cX12_others 36 = .ok (.invokevirtual 176, 3) := by decide +kernel
theorem dX12_others_39 : decode cX12_others 39 = .ok (.iload 4, 2) := by decide +kernel
theorem dX12_others_41 : decode cX12_others 41 = .ok (.ireturn, 1) := by decide +kernel
set_option maxRecDepth 20000 in
theorem ggX12_send_X12_within : GoodIn wsX12_send wsX12_within := goodIn_r _ [6] rfl gwX12_within
set_option maxRecDepth 20000 in
theorem gX12_send_X12_within : GoodIn wsX12_send (va_wsS RX12 55 yX12_within wsX12_within) := goodIn_app (goodIn_r _ [3, 4, 5] rfl (by decide +kernel)) ggX12_send_X12_within
set_option maxRecDepth 20000 in
theorem ggX12_send_X12_keep : GoodIn wsX12_send wsX12_keep := goodIn_r _ [10, 11, 12, 13, 14, 2, 100, 101, 102, 103, 104, 105, 106, 107, 108, 109, 110, 111, 112, 113, 114, 115, 116, 117, 118, 119, 120, 121] rfl gwX12_keep
set_option maxRecDepth 20000 in
theorem gX12_send_X12_keep : GoodIn wsX12_send (wsV RX12 169 RX12 yX12_keep wsX12_keep) := goodIn_app (goodIn_r _ [7, 8, 9, 5] rfl (by decide +kernel)) ggX12_send_X12_keep
set_option maxRecDepth 20000 in
theorem gwX12_others : wsX12_others.all goodWord = true := by decide +kernel
set_option maxRecDepth 20000 in
theorem ggX12_send_X12_others : GoodIn wsX12_send wsX12_others := goodIn_r _ [18, 11, 1, 19, 20, 21, 5, 22, 23, 24, 25, 26, 27, 28, 29, 30, 31, 32, 33, 34, 35, 36, 13, 12, 14, 37, 38, 39, 40, 41, 42, 43, 44, 2, 45, 46, 47, 48, 49, 50, 51, 52, 53, 54, 55, 56, 57, 58, 59, 60, 61, 62, 63, 64, 65, 66, 67, 68, 69, 70, 71, 72, 73, 74, 75, 76, 77, 78, 79, 80, 81, 82, 83, 84, 85, 86, 87, 88, 89, 90, 91, 92, 93, 94, 95, 96, 97, 98, 99, 100, 101, 102, 103, 104, 105, 106, 107, 108, 109, 110, 111, 112, 113, 114, 115, 116, 117, 118, 119, 120, 121] rfl gwX12_others
set_option maxRecDepth 20000 in
theorem gX12_send_X12_others : GoodIn wsX12_send (wsV RX12 206 RX12 yX12_others wsX12_others) := goodIn_app (goodIn_r _ [15, 16, 17, 5] rfl (by decide +kernel)) ggX12_send_X12_others
theorem dX12_send_0 : decode cX12_send 0 = .ok (.iload_n 1, 1) := by decide +kernel
theorem dX12_send_1 : decode cX12_send 1 = .ok (.iconst 0, 1) := by decide +kernel
theorem dX12_send_2 : decode cX12_send 2 = .ok (.bipush 60, 2) := by decide +kernel
theorem dX12_send_4 : decode cX12_send 4 = .ok (.invokestatic 55, 3) := by decide +kernel
theorem dX12_send_7 : decode cX12_send 7 = .ok (.ifCond .ne 5, 3) := by decide +kernel
theorem dX12_send_10 : decode cX12_send 10 = .ok (.iconst (-1), 1) := by decide +kernel
theorem dX12_send_11 : decode cX12_send 11 = .ok (.ireturn, 1) := by decide +kernel
theorem dX12_send_12 : decode cX12_send 12 = .ok (.aload_n 0, 1) := by decide +kernel
theorem dX12_send_13 : decode cX12_send 13 = .ok (.aload_n 0, 1) := by decide +kernel
theorem dX12_send_14 : decode cX12_send 14 = .ok (.getfield 24, 3) := by decide +kernel
theorem dX12_send_17 : decode cX12_send 17 = .ok (.invokevirtual 169, 3) := by decide +kernel
theorem dX12_send_20 : decode cX12_send 20 = .ok (.bipush (-4), 2) := by decide +kernel
theorem dX12_send_22 : decode cX12_send 22 = .ok (.istore_n 2, 1) := by decide +kernel
theorem dX12_send_23 : decode cX12_send 23 = .ok (.iconst 0, 1) := by decide +kernel
theorem dX12_send_24 : decode cX12_send 24 = .ok (.istore_n 3, 1) := by decide +kernel
theorem dX12_send_25 : decode cX12_send 25 = .ok (.iconst 0, 1) := by decide +kernel
theorem dX12_send_26 : decode cX12_send 26 = .ok (.istore 4, 2) := by decide +kernel
theorem dX12_send_28 : decode cX12_send 28 = .ok (.iload 4, 2) := by decide +kernel
theorem dX12_send_30 : decode cX12_send 30 = .ok (.aload_n 0, 1) := by decide +kernel
theorem dX12_send_31 : decode cX12_send 31 = .ok (.getfield 51, 3) := by decide +kernel
theorem dX12_send_34 : decode cX12_send 34 = .ok (.if_icmp .ge 53, 3) := by decide +kernel
theorem dX12_send_37 : decode cX12_send 37 = .ok (.aload_n 0, 1) := by decide +kernel
theorem dX12_send_38 : decode cX12_send 38 = .ok (.iload 4, 2) := by decide +kernel
theorem dX12_send_40 : decode cX12_send 40 = .ok (.iload_n 1, 1) := by decide +kernel
theorem dX12_send_41 : decode cX12_send 41 = .ok (.iconst 0, 1) := by decide +kernel
theorem dX12_send_42 : decode cX12_send 42 = .ok (.invokevirtual 206, 3) := by decide +kernel
theorem dX12_send_45 : decode cX12_send 45 = .ok (.istore 5, 2) := by decide +kernel
theorem dX12_send_47 : decode cX12_send 47 = .ok (.iload 5, 2) := by decide +kernel
theorem dX12_send_49 : decode cX12_send 49 = .ok (.aload_n 0, 1) := by decide +kernel
theorem dX12_send_50 : decode cX12_send 50 = .ok (.iload 4, 2) := by decide +kernel
theorem dX12_send_52 : decode cX12_send 52 = .ok (.iload_n 1, 1) := by decide +kernel
theorem dX12_send_53 : decode cX12_send 53 = .ok (.iconst 1, 1) := by decide +kernel
theorem dX12_send_54 : decode cX12_send 54 = .ok (.invokevirtual 206, 3) := by decide +kernel
theorem dX12_send_57 : decode cX12_send 57 = .ok (.if_icmp .ge 24, 3) := by decide +kernel
theorem dX12_send_60 : decode cX12_send 60 = .ok (.iload_n 2, 1) := by decide +kernel
theorem dX12_send_61 : decode cX12_send 61 = .ok (.bipush (-4), 2) := by decide +kernel
theorem dX12_send_63 : decode cX12_send 63 = .ok (.if_icmp .eq 12, 3) := by decide +kernel
theorem dX12_send_66 : decode cX12_send 66 = .ok (.iload 5, 2) := by decide +kernel
theorem dX12_send_68 : decode cX12_send 68 = .ok (.iload_n 3, 1) := by decide +kernel
theorem dX12_send_69 : decode cX12_send 69 = .ok (.if_icmp .lt 6, 3) := by decide +kernel
theorem dX12_send_72 : decode cX12_send 72 = .ok (.goto 9, 3) := by decide +kernel
theorem dX12_send_75 : decode cX12_send 75 = .ok (.iload 4, 2) := by decide +kernel
theorem dX12_send_77 : decode cX12_send 77 = .ok (.istore_n 2, 1) := by decide +kernel
theorem dX12_send_78 : decode cX12_send 78 = .ok (.iload 5, 2) := by decide +kernel
theorem dX12_send_80 : decode cX12_send 80 = .ok (.istore_n 3, 1) := by decide +kernel
theorem dX12_send_81 : decode cX12_send 81 = .ok (.iinc 4 1, 3) := by decide +kernel
theorem dX12_send_84 : decode cX12_send 84 = .ok (.goto (-56), 3) := by decide +kernel
theorem dX12_send_87 : decode cX12_send 87 = .ok (.iload_n 2, 1) := by decide +kernel
theorem dX12_send_88 : decode cX12_send 88 = .ok (.ireturn, 1) := by decide +kernel
set_option maxRecDepth 20000 in
theorem ggX12_load__X12_within : GoodIn wsX12_load_ wsX12_within := goodIn_r _ [9] rfl gwX12_within
set_option maxRecDepth 20000 in
theorem gX12_load__X12_within : GoodIn wsX12_load_ (va_wsS RX12 55 yX12_within wsX12_within) := goodIn_app (goodIn_r _ [6, 7, 8] rfl (by decide +kernel)) ggX12_load__X12_within
set_option maxRecDepth 20000 in
theorem ggX12_load__X12_keep : GoodIn wsX12_load_ wsX12_keep := goodIn_r _ [13, 14, 15, 16, 17, 18, 84, 85, 86, 87, 88, 89, 90, 91, 92, 93, 94, 95, 96, 97, 98, 99, 100, 101, 102, 103, 104, 105] rfl gwX12_keep
set_option maxRecDepth 20000 in
theorem gX12_load__X12_keep : GoodIn wsX12_load_ (wsV RX12 169 RX12 yX12_keep wsX12_keep) := goodIn_app (goodIn_r _ [10, 11, 12, 8] rfl (by decide +kernel)) ggX12_load__X12_keep
set_option maxRecDepth 20000 in
theorem ggX12_load__X12_load : GoodIn wsX12_load_ wsX12_load := goodIn_r _ [22, 18, 14, 23, 24, 25, 8, 26, 84, 85, 86, 87, 88, 89, 90, 91, 92, 93, 94, 95, 96, 97, 98, 99, 100, 101, 102, 103, 104, 105] rfl gwX12_load
set_option maxRecDepth 20000 in
theorem gX12_load__X12_load : GoodIn wsX12_load_ (wsV RX12 66 RX12 yX12_load wsX12_load) := goodIn_app (goodIn_r _ [19, 20, 21, 8] rfl (by decide +kernel)) ggX12_load__X12_load
set_option maxRecDepth 20000 in
theorem ggX12_load__X12_goes : GoodIn wsX12_load_ wsX12_goes := goodIn_r _ [30, 31, 32, 33, 8, 34, 35, 36, 16, 15, 14, 17, 2, 3, 4, 5, 37, 38, 39, 40, 18, 41, 42, 43, 44, 45, 46, 47, 48, 49, 50, 51, 52, 53, 54, 55, 56, 57, 58, 59, 60, 61, 62, 63, 64, 65, 66, 67, 19, 20, 21, 22, 23, 24, 25, 26, 68, 69, 70, 71, 72, 73, 74, 75, 76, 77, 78, 79, 84, 85, 86, 87, 88, 89, 90, 91, 92, 93, 94, 95, 96, 97, 98, 99, 100, 101, 102, 103, 104, 105] rfl gwX12_goes
set_option maxRecDepth 20000 in
theorem gX12_load__X12_goes : GoodIn wsX12_load_ (wsV RX12 144 RX12 yX12_goes wsX12_goes) := goodIn_app (goodIn_r _ [27, 28, 29, 8] rfl (by decide +kernel)) ggX12_load__X12_goes
set_option maxRecDepth 20000 in
theorem ggX12_load__X12_again : GoodIn wsX12_load_ wsX12_again := goodIn_r _ [83, 14, 15, 16, 17, 18, 84, 85, 86, 87, 88, 89, 90, 91, 92, 93, 94, 95, 96, 97, 98, 99, 100, 101, 102, 103, 104, 105] rfl gwX12_again
set_option maxRecDepth 20000 in
theorem gX12_load__X12_again : GoodIn wsX12_load_ (wsV RX12 176 RX12 yX12_again wsX12_again) := goodIn_app (goodIn_r _ [80, 81, 82, 8] rfl (by decide +kernel)) ggX12_load__X12_again
theorem dX12_load__0 : decode cX12_load_ 0 = .ok (.iload_n 1, 1) := by decide +kernel
theorem dX12_load__1 : decode cX12_load_ 1 = .ok (.iconst 0, 1) := by decide +kernel
theorem dX12_load__2 : decode cX12_load_ 2 = .ok (.bipush 99, 2) := by decide +kernel
theorem dX12_load__4 : decode cX12_load_ 4 = .ok (.invokestatic 55, 3) := by decide +kernel
theorem dX12_load__7 : decode cX12_load_ 7 = .ok (.ifCond .ne 5, 3) := by decide +kernel
theorem dX12_load__10 : decode cX12_load_ 10 = .ok (.iconst (-1), 1) := by decide +kernel
theorem dX12_load__11 : decode cX12_load_ 11 = .ok (.ireturn, 1) := by decide +kernel
theorem dX12_load__12 : decode cX12_load_ 12 = .ok (.aload_n 0, 1) := by decide +kernel
theorem dX12_load__13 : decode cX12_load_ 13 = .ok (.aload_n 0, 1) := by decide +kernel
theorem dX12_load__14 : decode cX12_load_ 14 = .ok (.getfield 24, 3) := by decide +kernel
theorem dX12_load__17 : decode cX12_load_ 17 = .ok (.invokevirtual 169, 3) := by decide +kernel
theorem dX12_load__20 : decode cX12_load_ 20 = .ok (.aload_n 0, 1) := by decide +kernel
theorem dX12_load__21 : decode cX12_load_ 21 = .ok (.invokevirtual 66, 3) := by decide +kernel
theorem dX12_load__24 : decode cX12_load_ 24 = .ok (.istore_n 2, 1) := by decide +kernel
theorem dX12_load__25 : decode cX12_load_ 25 = .ok (.iconst 1, 1) := by decide +kernel
theorem dX12_load__26 : decode cX12_load_ 26 = .ok (.istore_n 3, 1) := by decide +kernel
theorem dX12_load__27 : decode cX12_load_ 27 = .ok (.iload_n 3, 1) := by decide +kernel
theorem dX12_load__28 : decode cX12_load_ 28 = .ok (.iload_n 1, 1) := by decide +kernel
theorem dX12_load__29 : decode cX12_load_ 29 = .ok (.if_icmp .ge 22, 3) := by decide +kernel
theorem dX12_load__32 : decode cX12_load_ 32 = .ok (.aload_n 0, 1) := by decide +kernel
theorem dX12_load__33 : decode cX12_load_ 33 = .ok (.invokevirtual 144, 3) := by decide +kernel
theorem dX12_load__36 : decode cX12_load_ 36 = .ok (.iload_n 2, 1) := by decide +kernel
theorem dX12_load__37 : decode cX12_load_ 37 = .ok (.aload_n 0, 1) := by decide +kernel
theorem dX12_load__38 : decode cX12_load_ 38 = .ok (.invokevirtual 66, 3) := by decide +kernel
theorem dX12_load__41 : decode cX12_load_ 41 = .ok (.invokestatic 76, 3) := by decide +kernel
theorem dX12_load__44 : decode cX12_load_ 44 = .ok (.istore_n 2, 1) := by decide +kernel
theorem dX12_load__45 : decode cX12_load_ 45 = .ok (.iinc 3 1, 3) := by decide +kernel
theorem dX12_load__48 : decode cX12_load_ 48 = .ok (.goto (-21), 3) := by decide +kernel
theorem dX12_load__51 : decode cX12_load_ 51 = .ok (.aload_n 0, 1) := by decide +kernel
theorem dX12_load__52 : decode cX12_load_ 52 = .ok (.aload_n 0, 1) := by decide +kernel
theorem dX12_load__53 : decode cX12_load_ 53 = .ok (.getfield 24, 3) := by decide +kernel
theorem dX12_load__56 : decode cX12_load_ 56 = .ok (.invokevirtual 176, 3) := by decide +kernel
theorem dX12_load__59 : decode cX12_load_ 59 = .ok (.iload_n 2, 1) := by decide +kernel
theorem dX12_load__60 : decode cX12_load_ 60 = .ok (.ireturn, 1) := by decide +kernel
theorem dX12_isSkipped_0 : decode cX12_isSkipped 0 = .ok (.iload_n 2, 1) := by decide +kernel
theorem dX12_isSkipped_1 : decode cX12_isSkipped 1 = .ok (.aload_n 0, 1) := by decide +kernel
theorem dX12_isSkipped_2 : decode cX12_isSkipped 2 = .ok (.getfield 33, 3) := by decide +kernel
theorem dX12_isSkipped_5 : decode cX12_isSkipped 5 = .ok (.iload_n 1, 1) := by decide +kernel
theorem dX12_isSkipped_6 : decode cX12_isSkipped 6 = .ok (.iaload, 1) := by decide +kernel
theorem dX12_isSkipped_7 : decode cX12_isSkipped 7 = .ok (.ifCond .ne 8, 3) := by decide +kernel
theorem dX12_isSkipped_10 : decode cX12_isSkipped 10 = .ok (.bipush (-128), 2) := by decide +kernel
theorem dX12_isSkipped_12 : decode cX12_isSkipped 12 = .ok (.goto 21, 3) := by decide +kernel
theorem dX12_isSkipped_15 : decode cX12_isSkipped 15 = .ok (.aload_n 0, 1) := by decide +kernel
theorem dX12_isSkipped_16 : decode cX12_isSkipped 16 = .ok (.getfield 33, 3) := by decide +kernel
theorem dX12_isSkipped_19 : decode cX12_isSkipped 19 = .ok (.iload_n 1, 1) := by decide +kernel
theorem dX12_isSkipped_20 : decode cX12_isSkipped 20 = .ok (.iaload, 1) := by decide +kernel
theorem dX12_isSkipped_21 : decode cX12_isSkipped 21 = .ok (.iconst 1, 1) := by decide +kernel
theorem dX12_isSkipped_22 : decode cX12_isSkipped 22 = .ok (.if_icmp .ne 9, 3) := by decide +kernel
theorem dX12_isSkipped_25 : decode cX12_isSkipped 25 = .ok (.sipush (-32768), 3) := by decide +kernel
theorem dX12_isSkipped_28 : decode cX12_isSkipped 28 = .ok (.goto 5, 3) := by decide +kernel
theorem dX12_isSkipped_31 : decode cX12_isSkipped 31 = .ok (.ldc 216, 2) := by decide +kernel
theorem dX12_isSkipped_33 : decode cX12_isSkipped 33 = .ok (.if_icmp .ne 7, 3) := by decide +kernel
theorem dX12_isSkipped_36 : decode cX12_isSkipped 36 = .ok (.iconst 1, 1) := by decide +kernel
theorem dX12_isSkipped_37 : decode cX12_isSkipped 37 = .ok (.goto 4, 3) := by decide +kernel
theorem dX12_isSkipped_40 : decode cX12_isSkipped 40 = .ok (.iconst 0, 1) := by decide +kernel
theorem dX12_isSkipped_41 : decode cX12_isSkipped 41 = .ok (.ireturn, 1) := by decide +kernel
set_option maxRecDepth 20000 in
theorem ggX12_isSo_X12_goes : GoodIn wsX12_isSo wsX12_goes := goodIn_r _ [9, 10, 11, 12, 8, 13, 14, 3, 15, 16, 17, 18, 19, 20, 21, 22, 23, 24, 25, 26, 27, 28, 29, 30, 31, 32, 33, 34, 35, 36, 37, 38, 39, 40, 41, 42, 43, 44, 45, 46, 47, 48, 49, 50, 51, 52, 53, 54, 55, 56, 57, 58, 59, 60, 61, 62, 63, 64, 65, 66, 67, 68, 69, 70, 71, 72, 73, 74, 85, 86, 87, 88, 89, 90, 91, 92, 93, 94, 95, 96, 97, 98, 99, 100, 101, 102, 103, 104, 105, 106] rfl gwX12_goes
set_option maxRecDepth 20000 in
theorem gX12_isSo_X12_goes : GoodIn wsX12_isSo (wsV RX12 144 RX12 yX12_goes wsX12_goes) := goodIn_app (goodIn_r _ [5, 6, 7, 8] rfl (by decide +kernel)) ggX12_isSo_X12_goes
set_option maxRecDepth 20000 in
theorem gwX12_isSkipped : wsX12_isSkipped.all goodWord = true := by decide +kernel
set_option maxRecDepth 20000 in
theorem ggX12_isSo_X12_isSkipped : GoodIn wsX12_isSo wsX12_isSkipped := goodIn_r _ [78, 79, 80, 85, 86, 87, 88, 89, 90, 91, 92, 93, 94, 95, 96, 97, 98, 99, 100, 101, 102, 103, 104, 105, 106] rfl gwX12_isSkipped
set_option maxRecDepth 20000 in
theorem gX12_isSo_X12_isSkipped : GoodIn wsX12_isSo (wsV RX12 217 RX12 yX12_isSkipped wsX12_isSkipped) := goodIn_app (goodIn_r _ [75, 76, 77, 8] rfl (by decide +kernel)) ggX12_isSo_X12_isSkipped
set_option maxRecDepth 20000 in
theorem ggX12_isSo_X12_again : GoodIn wsX12_isSo wsX12_again := goodIn_r _ [84, 17, 16, 15, 18, 27, 85, 86, 87, 88, 89, 90, 91, 92, 93, 94, 95, 96, 97, 98, 99, 100, 101, 102, 103, 104, 105, 106] rfl gwX12_again
set_option maxRecDepth 20000 in
theorem gX12_isSo_X12_again : GoodIn wsX12_isSo (wsV RX12 176 RX12 yX12_again wsX12_again) := goodIn_app (goodIn_r _ [81, 82, 83, 8] rfl (by decide +kernel)) ggX12_isSo_X12_again
theorem dX12_isSo_0 : decode cX12_isSo 0 = .ok (.iconst 1, 1) := by decide +kernel
theorem dX12_isSo_1 : decode cX12_isSo 1 = .ok (.istore_n 2, 1) := by decide +kernel
theorem dX12_isSo_2 : decode cX12_isSo 2 = .ok (.iconst 0, 1) := by decide +kernel
theorem dX12_isSo_3 : decode cX12_isSo 3 = .ok (.istore_n 3, 1) := by decide +kernel
theorem dX12_isSo_4 : decode cX12_isSo 4 = .ok (.iload_n 3, 1) := by decide +kernel
theorem dX12_isSo_5 : decode cX12_isSo 5 = .ok (.aload_n 0, 1) := by decide +kernel
theorem dX12_isSo_6 : decode cX12_isSo 6 = .ok (.getfield 36, 3) := by decide +kernel
theorem dX12_isSo_9 : decode cX12_isSo 9 = .ok (.iload_n 1, 1) := by decide +kernel
theorem dX12_isSo_10 : decode cX12_isSo 10 = .ok (.iaload, 1) := by decide +kernel
theorem dX12_isSo_11 : decode cX12_isSo 11 = .ok (.if_icmp .ge 69, 3) := by decide +kernel
theorem dX12_isSo_14 : decode cX12_isSo 14 = .ok (.iload_n 2, 1) := by decide +kernel
theorem dX12_isSo_15 : decode cX12_isSo 15 = .ok (.ifCond .eq 65, 3) := by decide +kernel
theorem dX12_isSo_18 : decode cX12_isSo 18 = .ok (.aload_n 0, 1) := by decide +kernel
theorem dX12_isSo_19 : decode cX12_isSo 19 = .ok (.invokevirtual 144, 3) := by decide +kernel
theorem dX12_isSo_22 : decode cX12_isSo 22 = .ok (.aload_n 0, 1) := by decide +kernel
theorem dX12_isSo_23 : decode cX12_isSo 23 = .ok (.getfield 39, 3) := by decide +kernel
theorem dX12_isSo_26 : decode cX12_isSo 26 = .ok (.bipush 100, 2) := by decide +kernel
theorem dX12_isSo_28 : decode cX12_isSo 28 = .ok (.iload_n 1, 1) := by decide +kernel
theorem dX12_isSo_29 : decode cX12_isSo 29 = .ok (.imul, 1) := by decide +kernel
theorem dX12_isSo_30 : decode cX12_isSo 30 = .ok (.iload_n 3, 1) := by decide +kernel
theorem dX12_isSo_31 : decode cX12_isSo 31 = .ok (.iadd, 1) := by decide +kernel
theorem dX12_isSo_32 : decode cX12_isSo 32 = .ok (.iaload, 1) := by decide +kernel
theorem dX12_isSo_33 : decode cX12_isSo 33 = .ok (.istore 4, 2) := by decide +kernel
theorem dX12_isSo_35 : decode cX12_isSo 35 = .ok (.aload_n 0, 1) := by decide +kernel
theorem dX12_isSo_36 : decode cX12_isSo 36 = .ok (.iload_n 1, 1) := by decide +kernel
theorem dX12_isSo_37 : decode cX12_isSo 37 = .ok (.iload 4, 2) := by decide +kernel
theorem dX12_isSo_39 : decode cX12_isSo 39 = .ok (.invokevirtual 217, 3) := by decide +kernel
theorem dX12_isSo_42 : decode cX12_isSo 42 = .ok (.ifCond .ne 26, 3) := by decide +kernel
theorem dX12_isSo_45 : decode cX12_isSo 45 = .ok (.iload 4, 2) := by decide +kernel
theorem dX12_isSo_47 : decode cX12_isSo 47 = .ok (.aload_n 0, 1) := by decide +kernel
theorem dX12_isSo_48 : decode cX12_isSo 48 = .ok (.getfield 104, 3) := by decide +kernel
theorem dX12_isSo_51 : decode cX12_isSo 51 = .ok (.bipush (-4), 2) := by decide +kernel
theorem dX12_isSo_53 : decode cX12_isSo 53 = .ok (.if_icmp .ne 8, 3) := by decide +kernel
theorem dX12_isSo_56 : decode cX12_isSo 56 = .ok (.bipush 6, 2) := by decide +kernel
theorem dX12_isSo_58 : decode cX12_isSo 58 = .ok (.goto 7, 3) := by decide +kernel
theorem dX12_isSo_61 : decode cX12_isSo 61 = .ok (.aload_n 0, 1) := by decide +kernel
theorem dX12_isSo_62 : decode cX12_isSo 62 = .ok (.getfield 104, 3) := by decide +kernel
theorem dX12_isSo_65 : decode cX12_isSo 65 = .ok (.if_icmp .ne 7, 3) := by decide +kernel
theorem dX12_isSo_68 : decode cX12_isSo 68 = .ok (.iconst 1, 1) := by decide +kernel
theorem dX12_isSo_69 : decode cX12_isSo 69 = .ok (.goto 4, 3) := by decide +kernel
theorem dX12_isSo_72 : decode cX12_isSo 72 = .ok (.iconst 0, 1) := by decide +kernel
theorem dX12_isSo_73 : decode cX12_isSo 73 = .ok (.istore_n 2, 1) := by decide +kernel
theorem dX12_isSo_74 : decode cX12_isSo 74 = .ok (.iinc 3 1, 3) := by decide +kernel
theorem dX12_isSo_77 : decode cX12_isSo 77 = .ok (.goto (-73), 3) := by decide +kernel
theorem dX12_isSo_80 : decode cX12_isSo 80 = .ok (.aload_n 0, 1) := by decide +kernel
theorem dX12_isSo_81 : decode cX12_isSo 81 = .ok (.aload_n 0, 1) := by decide +kernel
theorem dX12_isSo_82 : decode cX12_isSo 82 = .ok (.getfield 24, 3) := by decide +kernel
theorem dX12_isSo_85 : decode cX12_isSo 85 = .ok (.invokevirtual 176, 3) := by decide +kernel
theorem dX12_isSo_88 : decode cX12_isSo 88 = .ok (.iload_n 2, 1) := by decide +kernel
theorem dX12_isSo_89 : decode cX12_isSo 89 = .ok (.ireturn, 1) := by decide +kernel
set_option maxRecDepth 20000 in
theorem ggX12_whoRan_X12_isShelf : GoodIn wsX12_whoRan wsX12_isShelf := goodIn_r _ [6, 7, 8, 5, 9] rfl gwX12_isShelf
set_option maxRecDepth 20000 in
theorem gX12_whoRan_X12_isShelf : GoodIn wsX12_whoRan (va_wsS RX12 163 yX12_isShelf wsX12_isShelf) := goodIn_app (goodIn_r _ [3, 4, 5] rfl (by decide +kernel)) ggX12_whoRan_X12_isShelf
set_option maxRecDepth 20000 in
theorem ggX12_whoRan_X12_isServer : GoodIn wsX12_whoRan wsX12_isServer := goodIn_r _ [13, 14, 7, 8, 5, 9, 108, 109, 110, 111, 112, 113, 114, 115, 116, 117, 118, 119, 120, 121, 122, 123, 124, 125, 126, 127, 128, 129] rfl gwX12_isServer
set_option maxRecDepth 20000 in
theorem gX12_whoRan_X12_isServer : GoodIn wsX12_whoRan (wsV RX12 137 RX12 yX12_isServer wsX12_isServer) := goodIn_app (goodIn_r _ [10, 11, 12, 5] rfl (by decide +kernel)) ggX12_whoRan_X12_isServer
set_option maxRecDepth 20000 in
theorem ggX12_whoRan_X12_within : GoodIn wsX12_whoRan wsX12_within := goodIn_r _ [9] rfl gwX12_within
set_option maxRecDepth 20000 in
theorem gX12_whoRan_X12_within : GoodIn wsX12_whoRan (va_wsS RX12 55 yX12_within wsX12_within) := goodIn_app (goodIn_r _ [7, 8, 5] rfl (by decide +kernel)) ggX12_whoRan_X12_within
set_option maxRecDepth 20000 in
theorem ggX12_whoRan_X12_noRow : GoodIn wsX12_whoRan wsX12_noRow := goodIn_r _ [18, 19, 108, 109, 110, 111, 112, 113, 114, 115, 116, 117, 118, 119, 120, 121, 122, 123, 124, 125, 126, 127, 128, 129] rfl gwX12_noRow
set_option maxRecDepth 20000 in
theorem gX12_whoRan_X12_noRow : GoodIn wsX12_whoRan (wsV RX12 59 RX12 yX12_noRow wsX12_noRow) := goodIn_app (goodIn_r _ [15, 16, 17, 5] rfl (by decide +kernel)) ggX12_whoRan_X12_noRow
set_option maxRecDepth 20000 in
theorem ggX12_whoRan_X12_keep : GoodIn wsX12_whoRan wsX12_keep := goodIn_r _ [23, 2, 24, 25, 26, 14, 108, 109, 110, 111, 112, 113, 114, 115, 116, 117, 118, 119, 120, 121, 122, 123, 124, 125, 126, 127, 128, 129] rfl gwX12_keep
set_option maxRecDepth 20000 in
theorem gX12_whoRan_X12_keep : GoodIn wsX12_whoRan (wsV RX12 169 RX12 yX12_keep wsX12_keep) := goodIn_app (goodIn_r _ [20, 21, 22, 5] rfl (by decide +kernel)) ggX12_whoRan_X12_keep
set_option maxRecDepth 20000 in
theorem gwX12_isSo : wsX12_isSo.all goodWord = true := by decide +kernel
set_option maxRecDepth 20000 in
theorem ggX12_whoRan_X12_isSo : GoodIn wsX12_whoRan wsX12_isSo := goodIn_r _ [30, 31, 32, 33, 1, 34, 35, 36, 5, 37, 38, 39, 40, 41, 42, 25, 24, 2, 26, 43, 44, 45, 46, 47, 48, 49, 50, 14, 51, 52, 53, 54, 55, 56, 57, 58, 59, 60, 61, 62, 63, 64, 65, 66, 67, 68, 69, 70, 71, 72, 73, 74, 75, 76, 77, 78, 79, 80, 81, 82, 83, 84, 85, 86, 87, 88, 89, 90, 91, 92, 93, 94, 95, 96, 97, 98, 99, 100, 101, 102, 103, 104, 105, 106, 107, 108, 109, 110, 111, 112, 113, 114, 115, 116, 117, 118, 119, 120, 121, 122, 123, 124, 125, 126, 127, 128, 129] rfl gwX12_isSo
set_option maxRecDepth 20000 in
theorem gX12_whoRan_X12_isSo : GoodIn wsX12_whoRan (wsV RX12 220 RX12 yX12_isSo wsX12_isSo) := goodIn_app (goodIn_r _ [27, 28, 29, 5] rfl (by decide +kernel)) ggX12_whoRan_X12_isSo
theorem dX12_whoRan_0 : decode cX12_whoRan 0 = .ok (.iload_n 1, 1) := by decide +kernel
theorem dX12_whoRan_1 : decode cX12_whoRan 1 = .ok (.invokestatic 163, 3) := by decide +kernel
theorem dX12_whoRan_4 : decode cX12_whoRan 4 = .ok (.ifCond .eq 20, 3) := by decide +kernel
theorem dX12_whoRan_7 : decode cX12_whoRan 7 = .ok (.aload_n 0, 1) := by decide +kernel
theorem dX12_whoRan_8 : decode cX12_whoRan 8 = .ok (.iload_n 2, 1) := by decide +kernel
theorem dX12_whoRan_9 : decode cX12_whoRan 9 = .ok (.invokevirtual 137, 3) := by decide +kernel
theorem dX12_whoRan_12 : decode cX12_whoRan 12 = .ok (.ifCond .eq 12, 3) := by decide +kernel
theorem dX12_whoRan_15 : decode cX12_whoRan 15 = .ok (.iload_n 3, 1) := by decide +kernel
theorem dX12_whoRan_16 : decode cX12_whoRan 16 = .ok (.iconst 0, 1) := by decide +kernel
theorem dX12_whoRan_17 : decode cX12_whoRan 17 = .ok (.iconst 1, 1) := by decide +kernel
theorem dX12_whoRan_18 : decode cX12_whoRan 18 = .ok (.invokestatic 55, 3) := by decide +kernel
theorem dX12_whoRan_21 : decode cX12_whoRan 21 = .ok (.ifCond .ne 5, 3) := by decide +kernel
theorem dX12_whoRan_24 : decode cX12_whoRan 24 = .ok (.iconst (-1), 1) := by decide +kernel
theorem dX12_whoRan_25 : decode cX12_whoRan 25 = .ok (.ireturn, 1) := by decide +kernel
theorem dX12_whoRan_26 : decode cX12_whoRan 26 = .ok (.aload_n 0, 1) := by decide +kernel
theorem dX12_whoRan_27 : decode cX12_whoRan 27 = .ok (.iload_n 1, 1) := by decide +kernel
theorem dX12_whoRan_28 : decode cX12_whoRan 28 = .ok (.invokevirtual 59, 3) := by decide +kernel
theorem dX12_whoRan_31 : decode cX12_whoRan 31 = .ok (.istore 4, 2) := by decide +kernel
theorem dX12_whoRan_33 : decode cX12_whoRan 33 = .ok (.iload 4, 2) := by decide +kernel
theorem dX12_whoRan_35 : decode cX12_whoRan 35 = .ok (.ifCond .ge 6, 3) := by decide +kernel
theorem dX12_whoRan_38 : decode cX12_whoRan 38 = .ok (.iload 4, 2) := by decide +kernel
theorem dX12_whoRan_40 : decode cX12_whoRan 40 = .ok (.ireturn, 1) := by decide +kernel
theorem dX12_whoRan_41 : decode cX12_whoRan 41 = .ok (.aload_n 0, 1) := by decide +kernel
theorem dX12_whoRan_42 : decode cX12_whoRan 42 = .ok (.aload_n 0, 1) := by decide +kernel
theorem dX12_whoRan_43 : decode cX12_whoRan 43 = .ok (.getfield 24, 3) := by decide +kernel
theorem dX12_whoRan_46 : decode cX12_whoRan 46 = .ok (.invokevirtual 169, 3) := by decide +kernel
theorem dX12_whoRan_49 : decode cX12_whoRan 49 = .ok (.iconst 0, 1) := by decide +kernel
theorem dX12_whoRan_50 : decode cX12_whoRan 50 = .ok (.istore 5, 2) := by decide +kernel
theorem dX12_whoRan_52 : decode cX12_whoRan 52 = .ok (.iconst 0, 1) := by decide +kernel
theorem dX12_whoRan_53 : decode cX12_whoRan 53 = .ok (.istore 6, 2) := by decide +kernel
theorem dX12_whoRan_55 : decode cX12_whoRan 55 = .ok (.iload 6, 2) := by decide +kernel
theorem dX12_whoRan_57 : decode cX12_whoRan 57 = .ok (.iload_n 3, 1) := by decide +kernel
theorem dX12_whoRan_58 : decode cX12_whoRan 58 = .ok (.ifCond .ne 8, 3) := by decide +kernel
theorem dX12_whoRan_61 : decode cX12_whoRan 61 = .ok (.bipush 6, 2) := by decide +kernel
theorem dX12_whoRan_63 : decode cX12_whoRan 63 = .ok (.goto 5, 3) := by decide +kernel
theorem dX12_whoRan_66 : decode cX12_whoRan 66 = .ok (.bipush 10, 2) := by decide +kernel
theorem dX12_whoRan_68 : decode cX12_whoRan 68 = .ok (.if_icmp .ge 45, 3) := by decide +kernel
theorem dX12_whoRan_71 : decode cX12_whoRan 71 = .ok (.aload_n 0, 1) := by decide +kernel
theorem dX12_whoRan_72 : decode cX12_whoRan 72 = .ok (.getfield 9, 3) := by decide +kernel
theorem dX12_whoRan_75 : decode cX12_whoRan 75 = .ok (.iload_n 3, 1) := by decide +kernel
theorem dX12_whoRan_76 : decode cX12_whoRan 76 = .ok (.ifCond .ne 7, 3) := by decide +kernel
theorem dX12_whoRan_79 : decode cX12_whoRan 79 = .ok (.iconst 0, 1) := by decide +kernel
theorem dX12_whoRan_80 : decode cX12_whoRan 80 = .ok (.goto 5, 3) := by decide +kernel
theorem dX12_whoRan_83 : decode cX12_whoRan 83 = .ok (.bipush 6, 2) := by decide +kernel
theorem dX12_whoRan_85 : decode cX12_whoRan 85 = .ok (.iload_n 2, 1) := by decide +kernel
theorem dX12_whoRan_86 : decode cX12_whoRan 86 = .ok (.iadd, 1) := by decide +kernel
theorem dX12_whoRan_87 : decode cX12_whoRan 87 = .ok (.iload 6, 2) := by decide +kernel
theorem dX12_whoRan_89 : decode cX12_whoRan 89 = .ok (.iastore, 1) := by decide +kernel
theorem dX12_whoRan_90 : decode cX12_whoRan 90 = .ok (.aload_n 0, 1) := by decide +kernel
theorem dX12_whoRan_91 : decode cX12_whoRan 91 = .ok (.iload_n 1, 1) := by decide +kernel
theorem dX12_whoRan_92 : decode cX12_whoRan 92 = .ok (.invokevirtual 220, 3) := by decide +kernel
theorem dX12_whoRan_95 : decode cX12_whoRan 95 = .ok (.ifCond .eq 12, 3) := by decide +kernel
theorem dX12_whoRan_98 : decode cX12_whoRan 98 = .ok (.iload 5, 2) := by decide +kernel
theorem dX12_whoRan_100 : decode cX12_whoRan 100 = .ok (.iconst 1, 1) := by decide +kernel
theorem dX12_whoRan_101 : decode cX12_whoRan 101 = .ok (.iload 6, 2) := by decide +kernel
theorem dX12_whoRan_103 : decode cX12_whoRan 103 = .ok (.ishl, 1) := by decide +kernel
theorem dX12_whoRan_104 : decode cX12_whoRan 104 = .ok (.ior, 1) := by decide +kernel
theorem dX12_whoRan_105 : decode cX12_whoRan 105 = .ok (.istore 5, 2) := by decide +kernel
theorem dX12_whoRan_107 : decode cX12_whoRan 107 = .ok (.iinc 6 1, 3) := by decide +kernel
theorem dX12_whoRan_110 : decode cX12_whoRan 110 = .ok (.goto (-55), 3) := by decide +kernel
theorem dX12_whoRan_113 : decode cX12_whoRan 113 = .ok (.iload 5, 2) := by decide +kernel
theorem dX12_whoRan_115 : decode cX12_whoRan 115 = .ok (.ireturn, 1) := by decide +kernel
set_option maxRecDepth 20000 in
theorem ggX12_has_X12_jobComes : GoodIn wsX12_has wsX12_jobComes := goodIn_r _ [7, 1, 8, 9, 10, 11, 12, 13, 6, 14, 85, 86, 87, 88, 89, 90, 91, 92, 93, 94, 95, 96, 97, 98, 99, 100, 101, 102, 103, 104, 105, 106] rfl gwX12_jobComes
set_option maxRecDepth 20000 in
theorem gX12_has_X12_jobComes : GoodIn wsX12_has (wsV RX12 140 RX12 yX12_jobComes wsX12_jobComes) := goodIn_app (goodIn_r _ [3, 4, 5, 6] rfl (by decide +kernel)) ggX12_has_X12_jobComes
set_option maxRecDepth 20000 in
theorem ggX12_has_X12_goesOn : GoodIn wsX12_has wsX12_goesOn := goodIn_r _ [18, 19, 20, 21, 6, 22, 23, 24, 25, 26, 27, 28, 9, 8, 1, 10, 29, 30, 31, 32, 33, 34, 35, 36, 37, 38, 39, 40, 41, 11, 12, 13, 14, 42, 43, 44, 45, 46, 47, 48, 49, 50, 51, 52, 53, 54, 55, 56, 57, 58, 59, 60, 61, 62, 63, 64, 65, 66, 67, 68, 69, 70, 71, 72, 73, 74, 75, 76, 77, 78, 79, 80, 85, 86, 87, 88, 89, 90, 91, 92, 93, 94, 95, 96, 97, 98, 99, 100, 101, 102, 103, 104, 105, 106] rfl gwX12_goesOn
set_option maxRecDepth 20000 in
theorem gX12_has_X12_goesOn : GoodIn wsX12_has (wsV RX12 191 RX12 yX12_goesOn wsX12_goesOn) := goodIn_app (goodIn_r _ [15, 16, 17, 6] rfl (by decide +kernel)) ggX12_has_X12_goesOn
set_option maxRecDepth 20000 in
theorem ggX12_has_X12_again : GoodIn wsX12_has wsX12_again := goodIn_r _ [84, 1, 8, 9, 10, 37, 85, 86, 87, 88, 89, 90, 91, 92, 93, 94, 95, 96, 97, 98, 99, 100, 101, 102, 103, 104, 105, 106] rfl gwX12_again
set_option maxRecDepth 20000 in
theorem gX12_has_X12_again : GoodIn wsX12_has (wsV RX12 176 RX12 yX12_again wsX12_again) := goodIn_app (goodIn_r _ [81, 82, 83, 6] rfl (by decide +kernel)) ggX12_has_X12_again
theorem dX12_has_0 : decode cX12_has 0 = .ok (.iload 4, 2) := by decide +kernel
theorem dX12_has_2 : decode cX12_has 2 = .ok (.iconst 1, 1) := by decide +kernel
theorem dX12_has_3 : decode cX12_has 3 = .ok (.if_icmp .ne 10, 3) := by decide +kernel
theorem dX12_has_6 : decode cX12_has 6 = .ok (.aload_n 0, 1) := by decide +kernel
theorem dX12_has_7 : decode cX12_has 7 = .ok (.iload_n 2, 1) := by decide +kernel
theorem dX12_has_8 : decode cX12_has 8 = .ok (.iconst 5, 1) := by decide +kernel
theorem dX12_has_9 : decode cX12_has 9 = .ok (.iconst 3, 1) := by decide +kernel
theorem dX12_has_10 : decode cX12_has 10 = .ok (.invokevirtual 140, 3) := by decide +kernel
theorem dX12_has_13 : decode cX12_has 13 = .ok (.iload 5, 2) := by decide +kernel
theorem dX12_has_15 : decode cX12_has 15 = .ok (.iconst 1, 1) := by decide +kernel
theorem dX12_has_16 : decode cX12_has 16 = .ok (.if_icmp .ne 10, 3) := by decide +kernel
theorem dX12_has_19 : decode cX12_has 19 = .ok (.aload_n 0, 1) := by decide +kernel
theorem dX12_has_20 : decode cX12_has 20 = .ok (.iload_n 3, 1) := by decide +kernel
theorem dX12_has_21 : decode cX12_has 21 = .ok (.iconst 5, 1) := by decide +kernel
theorem dX12_has_22 : decode cX12_has 22 = .ok (.iconst 3, 1) := by decide +kernel
theorem dX12_has_23 : decode cX12_has 23 = .ok (.invokevirtual 140, 3) := by decide +kernel
theorem dX12_has_26 : decode cX12_has 26 = .ok (.aload_n 0, 1) := by decide +kernel
theorem dX12_has_27 : decode cX12_has 27 = .ok (.iload 6, 2) := by decide +kernel
theorem dX12_has_29 : decode cX12_has 29 = .ok (.invokevirtual 191, 3) := by decide +kernel
theorem dX12_has_32 : decode cX12_has 32 = .ok (.iconst 4, 1) := by decide +kernel
theorem dX12_has_33 : decode cX12_has 33 = .ok (.iload_n 1, 1) := by decide +kernel
theorem dX12_has_34 : decode cX12_has 34 = .ok (.iload_n 2, 1) := by decide +kernel
theorem dX12_has_35 : decode cX12_has 35 = .ok (.if_icmp .ne 8, 3) := by decide +kernel
theorem dX12_has_38 : decode cX12_has 38 = .ok (.iload 4, 2) := by decide +kernel
theorem dX12_has_40 : decode cX12_has 40 = .ok (.goto 5, 3) := by decide +kernel
theorem dX12_has_43 : decode cX12_has 43 = .ok (.iload 5, 2) := by decide +kernel
theorem dX12_has_45 : decode cX12_has 45 = .ok (.imul, 1) := by decide +kernel
theorem dX12_has_46 : decode cX12_has 46 = .ok (.aload_n 0, 1) := by decide +kernel
theorem dX12_has_47 : decode cX12_has 47 = .ok (.getfield 9, 3) := by decide +kernel
theorem dX12_has_50 : decode cX12_has 50 = .ok (.bipush 48, 2) := by decide +kernel
theorem dX12_has_52 : decode cX12_has 52 = .ok (.iload_n 1, 1) := by decide +kernel
theorem dX12_has_53 : decode cX12_has 53 = .ok (.iadd, 1) := by decide +kernel
theorem dX12_has_54 : decode cX12_has 54 = .ok (.iaload, 1) := by decide +kernel
theorem dX12_has_55 : decode cX12_has 55 = .ok (.aload_n 0, 1) := by decide +kernel
theorem dX12_has_56 : decode cX12_has 56 = .ok (.getfield 24, 3) := by decide +kernel
theorem dX12_has_59 : decode cX12_has 59 = .ok (.bipush 48, 2) := by decide +kernel
theorem dX12_has_61 : decode cX12_has 61 = .ok (.iload_n 1, 1) := by decide +kernel
theorem dX12_has_62 : decode cX12_has 62 = .ok (.iadd, 1) := by decide +kernel
theorem dX12_has_63 : decode cX12_has 63 = .ok (.iaload, 1) := by decide +kernel
theorem dX12_has_64 : decode cX12_has 64 = .ok (.isub, 1) := by decide +kernel
theorem dX12_has_65 : decode cX12_has 65 = .ok (.isub, 1) := by decide +kernel
theorem dX12_has_66 : decode cX12_has 66 = .ok (.istore 7, 2) := by decide +kernel
theorem dX12_has_68 : decode cX12_has 68 = .ok (.aload_n 0, 1) := by decide +kernel
theorem dX12_has_69 : decode cX12_has 69 = .ok (.aload_n 0, 1) := by decide +kernel
theorem dX12_has_70 : decode cX12_has 70 = .ok (.getfield 24, 3) := by decide +kernel
theorem dX12_has_73 : decode cX12_has 73 = .ok (.invokevirtual 176, 3) := by decide +kernel
theorem dX12_has_76 : decode cX12_has 76 = .ok (.iload 7, 2) := by decide +kernel
theorem dX12_has_78 : decode cX12_has 78 = .ok (.ireturn, 1) := by decide +kernel
set_option maxRecDepth 20000 in
theorem ggX12_two_X12_isServer : GoodIn wsX12_two wsX12_isServer := goodIn_r _ [7, 8, 9, 10, 6, 11, 100, 101, 102, 103, 104, 105, 106, 107, 108, 109, 110, 111, 112, 113, 114, 115, 116, 117, 118, 119, 120, 121] rfl gwX12_isServer
set_option maxRecDepth 20000 in
theorem gX12_two_X12_isServer : GoodIn wsX12_two (wsV RX12 137 RX12 yX12_isServer wsX12_isServer) := goodIn_app (goodIn_r _ [3, 4, 5, 6] rfl (by decide +kernel)) ggX12_two_X12_isServer
set_option maxRecDepth 20000 in
theorem ggX12_two_X12_within : GoodIn wsX12_two wsX12_within := goodIn_r _ [11] rfl gwX12_within
set_option maxRecDepth 20000 in
theorem gX12_two_X12_within : GoodIn wsX12_two (va_wsS RX12 55 yX12_within wsX12_within) := goodIn_app (goodIn_r _ [9, 10, 6] rfl (by decide +kernel)) ggX12_two_X12_within
set_option maxRecDepth 20000 in
theorem ggX12_two_X12_keep : GoodIn wsX12_two wsX12_keep := goodIn_r _ [15, 1, 16, 17, 18, 8, 100, 101, 102, 103, 104, 105, 106, 107, 108, 109, 110, 111, 112, 113, 114, 115, 116, 117, 118, 119, 120, 121] rfl gwX12_keep
set_option maxRecDepth 20000 in
theorem gX12_two_X12_keep : GoodIn wsX12_two (wsV RX12 169 RX12 yX12_keep wsX12_keep) := goodIn_app (goodIn_r _ [12, 13, 14, 6] rfl (by decide +kernel)) ggX12_two_X12_keep
set_option maxRecDepth 20000 in
theorem gwX12_has : wsX12_has.all goodWord = true := by decide +kernel
set_option maxRecDepth 20000 in
theorem ggX12_two_X12_has : GoodIn wsX12_two wsX12_has := goodIn_r _ [22, 1, 2, 23, 24, 25, 6, 26, 16, 17, 18, 27, 28, 29, 30, 31, 32, 33, 34, 35, 36, 37, 38, 39, 40, 41, 42, 43, 44, 45, 46, 47, 48, 49, 50, 51, 52, 8, 53, 54, 55, 56, 57, 58, 59, 60, 61, 62, 63, 64, 65, 66, 67, 68, 69, 70, 71, 72, 73, 74, 75, 76, 77, 78, 79, 80, 81, 82, 83, 84, 85, 86, 87, 88, 89, 90, 91, 92, 93, 94, 95, 96, 97, 98, 99, 100, 101, 102, 103, 104, 105, 106, 107, 108, 109, 110, 111, 112, 113, 114, 115, 116, 117, 118, 119, 120, 121] rfl gwX12_has
set_option maxRecDepth 20000 in
theorem gX12_two_X12_has : GoodIn wsX12_two (wsV RX12 223 RX12 yX12_has wsX12_has) := goodIn_app (goodIn_r _ [19, 20, 21, 6] rfl (by decide +kernel)) ggX12_two_X12_has
theorem dX12_two_0 : decode cX12_two 0 = .ok (.aload_n 0, 1) := by decide +kernel
theorem dX12_two_1 : decode cX12_two 1 = .ok (.iload_n 1, 1) := by decide +kernel
theorem dX12_two_2 : decode cX12_two 2 = .ok (.invokevirtual 137, 3) := by decide +kernel
theorem dX12_two_5 : decode cX12_two 5 = .ok (.ifCond .eq 26, 3) := by decide +kernel
theorem dX12_two_8 : decode cX12_two 8 = .ok (.aload_n 0, 1) := by decide +kernel
theorem dX12_two_9 : decode cX12_two 9 = .ok (.iload_n 2, 1) := by decide +kernel
theorem dX12_two_10 : decode cX12_two 10 = .ok (.invokevirtual 137, 3) := by decide +kernel
theorem dX12_two_13 : decode cX12_two 13 = .ok (.ifCond .eq 18, 3) := by decide +kernel
theorem dX12_two_16 : decode cX12_two 16 = .ok (.iload_n 1, 1) := by decide +kernel
theorem dX12_two_17 : decode cX12_two 17 = .ok (.iload_n 2, 1) := by decide +kernel
theorem dX12_two_18 : decode cX12_two 18 = .ok (.if_icmp .eq 13, 3) := by decide +kernel
theorem dX12_two_21 : decode cX12_two 21 = .ok (.iload_n 3, 1) := by decide +kernel
theorem dX12_two_22 : decode cX12_two 22 = .ok (.iconst 1, 1) := by decide +kernel
theorem dX12_two_23 : decode cX12_two 23 = .ok (.bipush 60, 2) := by decide +kernel
theorem dX12_two_25 : decode cX12_two 25 = .ok (.invokestatic 55, 3) := by decide +kernel
theorem dX12_two_28 : decode cX12_two 28 = .ok (.ifCond .ne 5, 3) := by decide +kernel
theorem dX12_two_31 : decode cX12_two 31 = .ok (.iconst (-1), 1) := by decide +kernel
theorem dX12_two_32 : decode cX12_two 32 = .ok (.ireturn, 1) := by decide +kernel
theorem dX12_two_33 : decode cX12_two 33 = .ok (.aload_n 0, 1) := by decide +kernel
theorem dX12_two_34 : decode cX12_two 34 = .ok (.getfield 9, 3) := by decide +kernel
theorem dX12_two_37 : decode cX12_two 37 = .ok (.bipush 42, 2) := by decide +kernel
theorem dX12_two_39 : decode cX12_two 39 = .ok (.iload_n 1, 1) := by decide +kernel
theorem dX12_two_40 : decode cX12_two 40 = .ok (.iadd, 1) := by decide +kernel
theorem dX12_two_41 : decode cX12_two 41 = .ok (.iaload, 1) := by decide +kernel
theorem dX12_two_42 : decode cX12_two 42 = .ok (.iconst 4, 1) := by decide +kernel
theorem dX12_two_43 : decode cX12_two 43 = .ok (.if_icmp .eq 16, 3) := by decide +kernel
theorem dX12_two_46 : decode cX12_two 46 = .ok (.aload_n 0, 1) := by decide +kernel
theorem dX12_two_47 : decode cX12_two 47 = .ok (.getfield 9, 3) := by decide +kernel
theorem dX12_two_50 : decode cX12_two 50 = .ok (.bipush 42, 2) := by decide +kernel
theorem dX12_two_52 : decode cX12_two 52 = .ok (.iload_n 2, 1) := by decide +kernel
theorem dX12_two_53 : decode cX12_two 53 = .ok (.iadd, 1) := by decide +kernel
theorem dX12_two_54 : decode cX12_two 54 = .ok (.iaload, 1) := by decide +kernel
theorem dX12_two_55 : decode cX12_two 55 = .ok (.iconst 4, 1) := by decide +kernel
theorem dX12_two_56 : decode cX12_two 56 = .ok (.if_icmp .ne 6, 3) := by decide +kernel
theorem dX12_two_59 : decode cX12_two 59 = .ok (.bipush (-2), 2) := by decide +kernel
theorem dX12_two_61 : decode cX12_two 61 = .ok (.ireturn, 1) := by decide +kernel
theorem dX12_two_62 : decode cX12_two 62 = .ok (.aload_n 0, 1) := by decide +kernel
theorem dX12_two_63 : decode cX12_two 63 = .ok (.aload_n 0, 1) := by decide +kernel
theorem dX12_two_64 : decode cX12_two 64 = .ok (.getfield 24, 3) := by decide +kernel
theorem dX12_two_67 : decode cX12_two 67 = .ok (.invokevirtual 169, 3) := by decide +kernel
theorem dX12_two_70 : decode cX12_two 70 = .ok (.iconst 0, 1) := by decide +kernel
theorem dX12_two_71 : decode cX12_two 71 = .ok (.istore 4, 2) := by decide +kernel
theorem dX12_two_73 : decode cX12_two 73 = .ok (.iload 4, 2) := by decide +kernel
theorem dX12_two_75 : decode cX12_two 75 = .ok (.iconst 2, 1) := by decide +kernel
theorem dX12_two_76 : decode cX12_two 76 = .ok (.if_icmp .ge 91, 3) := by decide +kernel
theorem dX12_two_79 : decode cX12_two 79 = .ok (.iconst 0, 1) := by decide +kernel
theorem dX12_two_80 : decode cX12_two 80 = .ok (.istore 5, 2) := by decide +kernel
theorem dX12_two_82 : decode cX12_two 82 = .ok (.iload 5, 2) := by decide +kernel
theorem dX12_two_84 : decode cX12_two 84 = .ok (.iconst 2, 1) := by decide +kernel
theorem dX12_two_85 : decode cX12_two 85 = .ok (.if_icmp .ge 76, 3) := by decide +kernel
theorem dX12_two_88 : decode cX12_two 88 = .ok (.aload_n 0, 1) := by decide +kernel
theorem dX12_two_89 : decode cX12_two 89 = .ok (.iload_n 1, 1) := by decide +kernel
theorem dX12_two_90 : decode cX12_two 90 = .ok (.iload_n 1, 1) := by decide +kernel
theorem dX12_two_91 : decode cX12_two 91 = .ok (.iload_n 2, 1) := by decide +kernel
theorem dX12_two_92 : decode cX12_two 92 = .ok (.iload 4, 2) := by decide +kernel
theorem dX12_two_94 : decode cX12_two 94 = .ok (.iload 5, 2) := by decide +kernel
theorem dX12_two_96 : decode cX12_two 96 = .ok (.iload_n 3, 1) := by decide +kernel
theorem dX12_two_97 : decode cX12_two 97 = .ok (.invokevirtual 223, 3) := by decide +kernel
theorem dX12_two_100 : decode cX12_two 100 = .ok (.aload_n 0, 1) := by decide +kernel
theorem dX12_two_101 : decode cX12_two 101 = .ok (.iload_n 1, 1) := by decide +kernel
theorem dX12_two_102 : decode cX12_two 102 = .ok (.iload_n 1, 1) := by decide +kernel
theorem dX12_two_103 : decode cX12_two 103 = .ok (.iload_n 2, 1) := by decide +kernel
theorem dX12_two_104 : decode cX12_two 104 = .ok (.iconst 1, 1) := by decide +kernel
theorem dX12_two_105 : decode cX12_two 105 = .ok (.iload 4, 2) := by decide +kernel
theorem dX12_two_107 : decode cX12_two 107 = .ok (.isub, 1) := by decide +kernel
theorem dX12_two_108 : decode cX12_two 108 = .ok (.iload 5, 2) := by decide +kernel
theorem dX12_two_110 : decode cX12_two 110 = .ok (.iload_n 3, 1) := by decide +kernel
theorem dX12_two_111 : decode cX12_two 111 = .ok (.invokevirtual 223, 3) := by decide +kernel
theorem dX12_two_114 : decode cX12_two 114 = .ok (.if_icmp .lt 41, 3) := by decide +kernel
theorem dX12_two_117 : decode cX12_two 117 = .ok (.aload_n 0, 1) := by decide +kernel
theorem dX12_two_118 : decode cX12_two 118 = .ok (.iload_n 2, 1) := by decide +kernel
theorem dX12_two_119 : decode cX12_two 119 = .ok (.iload_n 1, 1) := by decide +kernel
theorem dX12_two_120 : decode cX12_two 120 = .ok (.iload_n 2, 1) := by decide +kernel
theorem dX12_two_121 : decode cX12_two 121 = .ok (.iload 4, 2) := by decide +kernel
theorem dX12_two_123 : decode cX12_two 123 = .ok (.iload 5, 2) := by decide +kernel
theorem dX12_two_125 : decode cX12_two 125 = .ok (.iload_n 3, 1) := by decide +kernel
theorem dX12_two_126 : decode cX12_two 126 = .ok (.invokevirtual 223, 3) := by decide +kernel
theorem dX12_two_129 : decode cX12_two 129 = .ok (.aload_n 0, 1) := by decide +kernel
theorem dX12_two_130 : decode cX12_two 130 = .ok (.iload_n 2, 1) := by decide +kernel
theorem dX12_two_131 : decode cX12_two 131 = .ok (.iload_n 1, 1) := by decide +kernel
theorem dX12_two_132 : decode cX12_two 132 = .ok (.iload_n 2, 1) := by decide +kernel
theorem dX12_two_133 : decode cX12_two 133 = .ok (.iload 4, 2) := by decide +kernel
theorem dX12_two_135 : decode cX12_two 135 = .ok (.iconst 1, 1) := by decide +kernel
theorem dX12_two_136 : decode cX12_two 136 = .ok (.iload 5, 2) := by decide +kernel
theorem dX12_two_138 : decode cX12_two 138 = .ok (.isub, 1) := by decide +kernel
theorem dX12_two_139 : decode cX12_two 139 = .ok (.iload_n 3, 1) := by decide +kernel
theorem dX12_two_140 : decode cX12_two 140 = .ok (.invokevirtual 223, 3) := by decide +kernel
theorem dX12_two_143 : decode cX12_two 143 = .ok (.if_icmp .lt 12, 3) := by decide +kernel
theorem dX12_two_146 : decode cX12_two 146 = .ok (.bipush 10, 2) := by decide +kernel
theorem dX12_two_148 : decode cX12_two 148 = .ok (.iload 4, 2) := by decide +kernel
theorem dX12_two_150 : decode cX12_two 150 = .ok (.imul, 1) := by decide +kernel
theorem dX12_two_151 : decode cX12_two 151 = .ok (.iload 5, 2) := by decide +kernel
theorem dX12_two_153 : decode cX12_two 153 = .ok (.iadd, 1) := by decide +kernel
theorem dX12_two_154 : decode cX12_two 154 = .ok (.ireturn, 1) := by decide +kernel
theorem dX12_two_155 : decode cX12_two 155 = .ok (.iinc 5 1, 3) := by decide +kernel
theorem dX12_two_158 : decode cX12_two 158 = .ok (.goto (-76), 3) := by decide +kernel
theorem dX12_two_161 : decode cX12_two 161 = .ok (.iinc 4 1, 3) := by decide +kernel
theorem dX12_two_164 : decode cX12_two 164 = .ok (.goto (-91), 3) := by decide +kernel
theorem dX12_two_167 : decode cX12_two 167 = .ok (.bipush (-4), 2) := by decide +kernel
theorem dX12_two_169 : decode cX12_two 169 = .ok (.ireturn, 1) := by decide +kernel
theorem dX12_part_0 : decode cX12_part 0 = .ok (.lload_n 0, 1) := by decide +kernel
theorem dX12_part_1 : decode cX12_part 1 = .ok (.lstore 5, 2) := by decide +kernel
theorem dX12_part_3 : decode cX12_part 3 = .ok (.lload_n 2, 1) := by decide +kernel
theorem dX12_part_4 : decode cX12_part 4 = .ok (.lstore 7, 2) := by decide +kernel
theorem dX12_part_6 : decode cX12_part 6 = .ok (.lload 7, 2) := by decide +kernel
theorem dX12_part_8 : decode cX12_part 8 = .ok (.lconst 0, 1) := by decide +kernel
theorem dX12_part_9 : decode cX12_part 9 = .ok (.lcmp, 1) := by decide +kernel
theorem dX12_part_10 : decode cX12_part 10 = .ok (.ifCond .eq 21, 3) := by decide +kernel
theorem dX12_part_13 : decode cX12_part 13 = .ok (.lload 5, 2) := by decide +kernel
theorem dX12_part_15 : decode cX12_part 15 = .ok (.lload 7, 2) := by decide +kernel
theorem dX12_part_17 : decode cX12_part 17 = .ok (.lrem, 1) := by decide +kernel
theorem dX12_part_18 : decode cX12_part 18 = .ok (.lstore 9, 2) := by decide +kernel
theorem dX12_part_20 : decode cX12_part 20 = .ok (.lload 7, 2) := by decide +kernel
theorem dX12_part_22 : decode cX12_part 22 = .ok (.lstore 5, 2) := by decide +kernel
theorem dX12_part_24 : decode cX12_part 24 = .ok (.lload 9, 2) := by decide +kernel
theorem dX12_part_26 : decode cX12_part 26 = .ok (.lstore 7, 2) := by decide +kernel
theorem dX12_part_28 : decode cX12_part 28 = .ok (.goto (-22), 3) := by decide +kernel
theorem dX12_part_31 : decode cX12_part 31 = .ok (.iload 4, 2) := by decide +kernel
theorem dX12_part_33 : decode cX12_part 33 = .ok (.ifCond .ne 7, 3) := by decide +kernel
theorem dX12_part_36 : decode cX12_part 36 = .ok (.lload_n 0, 1) := by decide +kernel
theorem dX12_part_37 : decode cX12_part 37 = .ok (.goto 4, 3) := by decide +kernel
theorem dX12_part_40 : decode cX12_part 40 = .ok (.lload_n 2, 1) := by decide +kernel
theorem dX12_part_41 : decode cX12_part 41 = .ok (.lload 5, 2) := by decide +kernel
theorem dX12_part_43 : decode cX12_part 43 = .ok (.ldiv, 1) := by decide +kernel
theorem dX12_part_44 : decode cX12_part 44 = .ok (.lreturn, 1) := by decide +kernel
set_option maxRecDepth 20000 in
theorem ggX12_breaks_X12_isServer : GoodIn wsX12_breaks wsX12_isServer := goodIn_r _ [8, 9, 10, 11, 7, 12, 88, 89, 90, 91, 92, 93, 94, 95, 96, 97, 98, 99, 100, 101, 102, 103, 104, 105, 106, 107, 108, 109] rfl gwX12_isServer
set_option maxRecDepth 20000 in
theorem gX12_breaks_X12_isServer : GoodIn wsX12_breaks (wsV RX12 137 RX12 yX12_isServer wsX12_isServer) := goodIn_app (goodIn_r _ [4, 5, 6, 7] rfl (by decide +kernel)) ggX12_breaks_X12_isServer
set_option maxRecDepth 20000 in
theorem ggX12_breaks_X12_within : GoodIn wsX12_breaks wsX12_within := goodIn_r _ [12] rfl gwX12_within
set_option maxRecDepth 20000 in
theorem gX12_breaks_X12_within : GoodIn wsX12_breaks (va_wsS RX12 55 yX12_within wsX12_within) := goodIn_app (goodIn_r _ [10, 11, 7] rfl (by decide +kernel)) ggX12_breaks_X12_within
set_option maxRecDepth 20000 in
theorem ggX12_breaks_X12_keep : GoodIn wsX12_breaks wsX12_keep := goodIn_r _ [16, 3, 17, 18, 19, 9, 88, 89, 90, 91, 92, 93, 94, 95, 96, 97, 98, 99, 100, 101, 102, 103, 104, 105, 106, 107, 108, 109] rfl gwX12_keep
set_option maxRecDepth 20000 in
theorem gX12_breaks_X12_keep : GoodIn wsX12_breaks (wsV RX12 169 RX12 yX12_keep wsX12_keep) := goodIn_app (goodIn_r _ [13, 14, 15, 7] rfl (by decide +kernel)) ggX12_breaks_X12_keep
set_option maxRecDepth 20000 in
theorem ggX12_breaks_X12_goesBy : GoodIn wsX12_breaks wsX12_goesBy := goodIn_r _ [23, 24, 25, 18, 17, 3, 19, 26, 27, 28, 29, 30, 31, 32, 7, 33, 9, 34, 35, 36, 37, 38, 39, 40, 41, 42, 43, 44, 45, 46, 47, 48, 49, 50, 51, 52, 53, 54, 55, 56, 57, 58, 59, 60, 61, 62, 63, 64, 65, 66, 67, 68, 69, 70, 71, 72, 73, 74, 75, 76, 77, 78, 79, 80, 88, 89, 90, 91, 92, 93, 94, 95, 96, 97, 98, 99, 100, 101, 102, 103, 104, 105, 106, 107, 108, 109] rfl gwX12_goesBy
set_option maxRecDepth 20000 in
theorem gX12_breaks_X12_goesBy : GoodIn wsX12_breaks (wsV RX12 119 RX12 yX12_goesBy wsX12_goesBy) := goodIn_app (goodIn_r _ [20, 21, 22, 7] rfl (by decide +kernel)) ggX12_breaks_X12_goesBy
set_option maxRecDepth 20000 in
theorem ggX12_breaks_X12_again : GoodIn wsX12_breaks wsX12_again := goodIn_r _ [84, 3, 17, 18, 19, 9, 88, 89, 90, 91, 92, 93, 94, 95, 96, 97, 98, 99, 100, 101, 102, 103, 104, 105, 106, 107, 108, 109] rfl gwX12_again
set_option maxRecDepth 20000 in
theorem gX12_breaks_X12_again : GoodIn wsX12_breaks (wsV RX12 176 RX12 yX12_again wsX12_again) := goodIn_app (goodIn_r _ [81, 82, 83, 7] rfl (by decide +kernel)) ggX12_breaks_X12_again
set_option maxRecDepth 20000 in
theorem gwX12_part : wsX12_part.all goodWord = true := by decide +kernel
set_option maxRecDepth 20000 in
theorem ggX12_breaks_X12_part : GoodIn wsX12_breaks wsX12_part := goodIn_r _ [87] rfl gwX12_part
set_option maxRecDepth 20000 in
theorem gX12_breaks_X12_part : GoodIn wsX12_breaks (va_wsS RX12 229 yX12_part wsX12_part) := goodIn_app (goodIn_r _ [85, 86, 7] rfl (by decide +kernel)) ggX12_breaks_X12_part
theorem dX12_breaks_0 : decode cX12_breaks 0 = .ok (.aload_n 0, 1) := by decide +kernel
theorem dX12_breaks_1 : decode cX12_breaks 1 = .ok (.iload_n 1, 1) := by decide +kernel
theorem dX12_breaks_2 : decode cX12_breaks 2 = .ok (.invokevirtual 137, 3) := by decide +kernel
theorem dX12_breaks_5 : decode cX12_breaks 5 = .ok (.ifCond .eq 33, 3) := by decide +kernel
theorem dX12_breaks_8 : decode cX12_breaks 8 = .ok (.iload_n 2, 1) := by decide +kernel
theorem dX12_breaks_9 : decode cX12_breaks 9 = .ok (.iconst 0, 1) := by decide +kernel
theorem dX12_breaks_10 : decode cX12_breaks 10 = .ok (.bipush 7, 2) := by decide +kernel
theorem dX12_breaks_12 : decode cX12_breaks 12 = .ok (.invokestatic 55, 3) := by decide +kernel
theorem dX12_breaks_15 : decode cX12_breaks 15 = .ok (.ifCond .eq 23, 3) := by decide +kernel
theorem dX12_breaks_18 : decode cX12_breaks 18 = .ok (.iload_n 3, 1) := by decide +kernel
theorem dX12_breaks_19 : decode cX12_breaks 19 = .ok (.iconst 2, 1) := by decide +kernel
theorem dX12_breaks_20 : decode cX12_breaks 20 = .ok (.bipush 20, 2) := by decide +kernel
theorem dX12_breaks_22 : decode cX12_breaks 22 = .ok (.invokestatic 55, 3) := by decide +kernel
theorem dX12_breaks_25 : decode cX12_breaks 25 = .ok (.ifCond .eq 13, 3) := by decide +kernel
theorem dX12_breaks_28 : decode cX12_breaks 28 = .ok (.iload 4, 2) := by decide +kernel
theorem dX12_breaks_30 : decode cX12_breaks 30 = .ok (.iconst 0, 1) := by decide +kernel
theorem dX12_breaks_31 : decode cX12_breaks 31 = .ok (.iconst 1, 1) := by decide +kernel
theorem dX12_breaks_32 : decode cX12_breaks 32 = .ok (.invokestatic 55, 3) := by decide +kernel
theorem dX12_breaks_35 : decode cX12_breaks 35 = .ok (.ifCond .ne 7, 3) := by decide +kernel
theorem dX12_breaks_38 : decode cX12_breaks 38 = .ok (.ldc2_w 227, 3) := by decide +kernel
theorem dX12_breaks_41 : decode cX12_breaks 41 = .ok (.lreturn, 1) := by decide +kernel
theorem dX12_breaks_42 : decode cX12_breaks 42 = .ok (.aload_n 0, 1) := by decide +kernel
theorem dX12_breaks_43 : decode cX12_breaks 43 = .ok (.aload_n 0, 1) := by decide +kernel
theorem dX12_breaks_44 : decode cX12_breaks 44 = .ok (.getfield 24, 3) := by decide +kernel
theorem dX12_breaks_47 : decode cX12_breaks 47 = .ok (.invokevirtual 169, 3) := by decide +kernel
theorem dX12_breaks_50 : decode cX12_breaks 50 = .ok (.lconst 0, 1) := by decide +kernel
theorem dX12_breaks_51 : decode cX12_breaks 51 = .ok (.lstore 5, 2) := by decide +kernel
theorem dX12_breaks_53 : decode cX12_breaks 53 = .ok (.lconst 1, 1) := by decide +kernel
theorem dX12_breaks_54 : decode cX12_breaks 54 = .ok (.lstore 7, 2) := by decide +kernel
theorem dX12_breaks_56 : decode cX12_breaks 56 = .ok (.iconst 0, 1) := by decide +kernel
theorem dX12_breaks_57 : decode cX12_breaks 57 = .ok (.istore 9, 2) := by decide +kernel
theorem dX12_breaks_59 : decode cX12_breaks 59 = .ok (.iload 9, 2) := by decide +kernel
theorem dX12_breaks_61 : decode cX12_breaks 61 = .ok (.iload_n 2, 1) := by decide +kernel
theorem dX12_breaks_62 : decode cX12_breaks 62 = .ok (.if_icmp .ge 16, 3) := by decide +kernel
theorem dX12_breaks_65 : decode cX12_breaks 65 = .ok (.lload 7, 2) := by decide +kernel
theorem dX12_breaks_67 : decode cX12_breaks 67 = .ok (.iload_n 3, 1) := by decide +kernel
theorem dX12_breaks_68 : decode cX12_breaks 68 = .ok (.i2l, 1) := by decide +kernel
theorem dX12_breaks_69 : decode cX12_breaks 69 = .ok (.lmul, 1) := by decide +kernel
theorem dX12_breaks_70 : decode cX12_breaks 70 = .ok (.lstore 7, 2) := by decide +kernel
theorem dX12_breaks_72 : decode cX12_breaks 72 = .ok (.iinc 9 1, 3) := by decide +kernel
theorem dX12_breaks_75 : decode cX12_breaks 75 = .ok (.goto (-16), 3) := by decide +kernel
theorem dX12_breaks_78 : decode cX12_breaks 78 = .ok (.iconst 0, 1) := by decide +kernel
theorem dX12_breaks_79 : decode cX12_breaks 79 = .ok (.istore 9, 2) := by decide +kernel
theorem dX12_breaks_81 : decode cX12_breaks 81 = .ok (.iload 9, 2) := by decide +kernel
theorem dX12_breaks_83 : decode cX12_breaks 83 = .ok (.iconst 1, 1) := by decide +kernel
theorem dX12_breaks_84 : decode cX12_breaks 84 = .ok (.iload_n 2, 1) := by decide +kernel
theorem dX12_breaks_85 : decode cX12_breaks 85 = .ok (.ishl, 1) := by decide +kernel
theorem dX12_breaks_86 : decode cX12_breaks 86 = .ok (.if_icmp .ge 101, 3) := by decide +kernel
theorem dX12_breaks_89 : decode cX12_breaks 89 = .ok (.lconst 1, 1) := by decide +kernel
theorem dX12_breaks_90 : decode cX12_breaks 90 = .ok (.lstore 10, 2) := by decide +kernel
theorem dX12_breaks_92 : decode cX12_breaks 92 = .ok (.iconst 0, 1) := by decide +kernel
theorem dX12_breaks_93 : decode cX12_breaks 93 = .ok (.istore 12, 2) := by decide +kernel
theorem dX12_breaks_95 : decode cX12_breaks 95 = .ok (.iload 12, 2) := by decide +kernel
theorem dX12_breaks_97 : decode cX12_breaks 97 = .ok (.iload_n 2, 1) := by decide +kernel
theorem dX12_breaks_98 : decode cX12_breaks 98 = .ok (.if_icmp .ge 47, 3) := by decide +kernel
theorem dX12_breaks_101 : decode cX12_breaks 101 = .ok (.iload 9, 2) := by decide +kernel
theorem dX12_breaks_103 : decode cX12_breaks 103 = .ok (.iload 12, 2) := by decide +kernel
theorem dX12_breaks_105 : decode cX12_breaks 105 = .ok (.ishr, 1) := by decide +kernel
theorem dX12_breaks_106 : decode cX12_breaks 106 = .ok (.iconst 1, 1) := by decide +kernel
theorem dX12_breaks_107 : decode cX12_breaks 107 = .ok (.iand, 1) := by decide +kernel
theorem dX12_breaks_108 : decode cX12_breaks 108 = .ok (.iconst 1, 1) := by decide +kernel
theorem dX12_breaks_109 : decode cX12_breaks 109 = .ok (.if_icmp .ne 7, 3) := by decide +kernel
theorem dX12_breaks_112 : decode cX12_breaks 112 = .ok (.iconst 1, 1) := by decide +kernel
theorem dX12_breaks_113 : decode cX12_breaks 113 = .ok (.goto 4, 3) := by decide +kernel
theorem dX12_breaks_116 : decode cX12_breaks 116 = .ok (.iconst 0, 1) := by decide +kernel
theorem dX12_breaks_117 : decode cX12_breaks 117 = .ok (.istore 13, 2) := by decide +kernel
theorem dX12_breaks_119 : decode cX12_breaks 119 = .ok (.iload 13, 2) := by decide +kernel
theorem dX12_breaks_121 : decode cX12_breaks 121 = .ok (.ifCond .ne 12, 3) := by decide +kernel
theorem dX12_breaks_124 : decode cX12_breaks 124 = .ok (.lload 10, 2) := by decide +kernel
theorem dX12_breaks_126 : decode cX12_breaks 126 = .ok (.iload_n 3, 1) := by decide +kernel
theorem dX12_breaks_127 : decode cX12_breaks 127 = .ok (.iconst 1, 1) := by decide +kernel
theorem dX12_breaks_128 : decode cX12_breaks 128 = .ok (.isub, 1) := by decide +kernel
theorem dX12_breaks_129 : decode cX12_breaks 129 = .ok (.i2l, 1) := by decide +kernel
theorem dX12_breaks_130 : decode cX12_breaks 130 = .ok (.lmul, 1) := by decide +kernel
theorem dX12_breaks_131 : decode cX12_breaks 131 = .ok (.lstore 10, 2) := by decide +kernel
theorem dX12_breaks_133 : decode cX12_breaks 133 = .ok (.aload_n 0, 1) := by decide +kernel
theorem dX12_breaks_134 : decode cX12_breaks 134 = .ok (.iload 13, 2) := by decide +kernel
theorem dX12_breaks_136 : decode cX12_breaks 136 = .ok (.invokevirtual 119, 3) := by decide +kernel
theorem dX12_breaks_139 : decode cX12_breaks 139 = .ok (.iinc 12 1, 3) := by decide +kernel
theorem dX12_breaks_142 : decode cX12_breaks 142 = .ok (.goto (-47), 3) := by decide +kernel
theorem dX12_breaks_145 : decode cX12_breaks 145 = .ok (.aload_n 0, 1) := by decide +kernel
theorem dX12_breaks_146 : decode cX12_breaks 146 = .ok (.getfield 9, 3) := by decide +kernel
theorem dX12_breaks_149 : decode cX12_breaks 149 = .ok (.bipush 48, 2) := by decide +kernel
theorem dX12_breaks_151 : decode cX12_breaks 151 = .ok (.iload_n 1, 1) := by decide +kernel
theorem dX12_breaks_152 : decode cX12_breaks 152 = .ok (.iadd, 1) := by decide +kernel
theorem dX12_breaks_153 : decode cX12_breaks 153 = .ok (.iaload, 1) := by decide +kernel
theorem dX12_breaks_154 : decode cX12_breaks 154 = .ok (.aload_n 0, 1) := by decide +kernel
theorem dX12_breaks_155 : decode cX12_breaks 155 = .ok (.getfield 24, 3) := by decide +kernel
theorem dX12_breaks_158 : decode cX12_breaks 158 = .ok (.bipush 48, 2) := by decide +kernel
theorem dX12_breaks_160 : decode cX12_breaks 160 = .ok (.iload_n 1, 1) := by decide +kernel
theorem dX12_breaks_161 : decode cX12_breaks 161 = .ok (.iadd, 1) := by decide +kernel
theorem dX12_breaks_162 : decode cX12_breaks 162 = .ok (.iaload, 1) := by decide +kernel
theorem dX12_breaks_163 : decode cX12_breaks 163 = .ok (.if_icmp .le 10, 3) := by decide +kernel
theorem dX12_breaks_166 : decode cX12_breaks 166 = .ok (.lload 5, 2) := by decide +kernel
theorem dX12_breaks_168 : decode cX12_breaks 168 = .ok (.lload 10, 2) := by decide +kernel
theorem dX12_breaks_170 : decode cX12_breaks 170 = .ok (.ladd, 1) := by decide +kernel
theorem dX12_breaks_171 : decode cX12_breaks 171 = .ok (.lstore 5, 2) := by decide +kernel
theorem dX12_breaks_173 : decode cX12_breaks 173 = .ok (.aload_n 0, 1) := by decide +kernel
theorem dX12_breaks_174 : decode cX12_breaks 174 = .ok (.aload_n 0, 1) := by decide +kernel
theorem dX12_breaks_175 : decode cX12_breaks 175 = .ok (.getfield 24, 3) := by decide +kernel
theorem dX12_breaks_178 : decode cX12_breaks 178 = .ok (.invokevirtual 176, 3) := by decide +kernel
theorem dX12_breaks_181 : decode cX12_breaks 181 = .ok (.iinc 9 1, 3) := by decide +kernel
theorem dX12_breaks_184 : decode cX12_breaks 184 = .ok (.goto (-103), 3) := by decide +kernel
theorem dX12_breaks_187 : decode cX12_breaks 187 = .ok (.lload 5, 2) := by decide +kernel
theorem dX12_breaks_189 : decode cX12_breaks 189 = .ok (.lload 7, 2) := by decide +kernel
theorem dX12_breaks_191 : decode cX12_breaks 191 = .ok (.iload 4, 2) := by decide +kernel
theorem dX12_breaks_193 : decode cX12_breaks 193 = .ok (.invokestatic 229, 3) := by decide +kernel
theorem dX12_breaks_196 : decode cX12_breaks 196 = .ok (.lreturn, 1) := by decide +kernel
set_option maxRecDepth 20000 in
theorem ggX12_share__X12_isServer : GoodIn wsX12_share_ wsX12_isServer := goodIn_r _ [7, 8, 9, 10, 6, 11, 23, 24, 25, 26, 27, 28, 29, 30, 31, 32, 33, 34, 35, 36, 37, 38, 39, 40, 41, 42, 43, 44] rfl gwX12_isServer
set_option maxRecDepth 20000 in
theorem gX12_share__X12_isServer : GoodIn wsX12_share_ (wsV RX12 137 RX12 yX12_isServer wsX12_isServer) := goodIn_app (goodIn_r _ [3, 4, 5, 6] rfl (by decide +kernel)) ggX12_share__X12_isServer
set_option maxRecDepth 20000 in
theorem ggX12_share__X12_within : GoodIn wsX12_share_ wsX12_within := goodIn_r _ [11] rfl gwX12_within
set_option maxRecDepth 20000 in
theorem gX12_share__X12_within : GoodIn wsX12_share_ (va_wsS RX12 55 yX12_within wsX12_within) := goodIn_app (goodIn_r _ [9, 10, 6] rfl (by decide +kernel)) ggX12_share__X12_within
set_option maxRecDepth 20000 in
theorem ggX12_share__X12_load : GoodIn wsX12_share_ wsX12_load := goodIn_r _ [15, 8, 2, 16, 17, 18, 6, 19, 23, 24, 25, 26, 27, 28, 29, 30, 31, 32, 33, 34, 35, 36, 37, 38, 39, 40, 41, 42, 43, 44] rfl gwX12_load
set_option maxRecDepth 20000 in
theorem gX12_share__X12_load : GoodIn wsX12_share_ (wsV RX12 66 RX12 yX12_load wsX12_load) := goodIn_app (goodIn_r _ [12, 13, 14, 6] rfl (by decide +kernel)) ggX12_share__X12_load
set_option maxRecDepth 20000 in
theorem ggX12_share__X12_share : GoodIn wsX12_share_ wsX12_share := goodIn_r _ [19, 2, 23, 24, 25, 26, 27, 28, 29, 30, 31, 32, 33, 34, 35, 36, 37, 38, 39, 40, 41, 42, 43, 44] rfl gwX12_share
set_option maxRecDepth 20000 in
theorem gX12_share__X12_share : GoodIn wsX12_share_ (wsV RX12 63 RX12 yX12_share wsX12_share) := goodIn_app (goodIn_r _ [16, 17, 18, 6] rfl (by decide +kernel)) ggX12_share__X12_share
set_option maxRecDepth 20000 in
theorem ggX12_share__X12_part : GoodIn wsX12_share_ wsX12_part := goodIn_r _ [22] rfl gwX12_part
set_option maxRecDepth 20000 in
theorem gX12_share__X12_part : GoodIn wsX12_share_ (va_wsS RX12 229 yX12_part wsX12_part) := goodIn_app (goodIn_r _ [20, 21, 6] rfl (by decide +kernel)) ggX12_share__X12_part
theorem dX12_share__0 : decode cX12_share_ 0 = .ok (.aload_n 0, 1) := by decide +kernel
theorem dX12_share__1 : decode cX12_share_ 1 = .ok (.iload_n 1, 1) := by decide +kernel
theorem dX12_share__2 : decode cX12_share_ 2 = .ok (.invokevirtual 137, 3) := by decide +kernel
theorem dX12_share__5 : decode cX12_share_ 5 = .ok (.ifCond .eq 12, 3) := by decide +kernel
theorem dX12_share__8 : decode cX12_share_ 8 = .ok (.iload_n 2, 1) := by decide +kernel
theorem dX12_share__9 : decode cX12_share_ 9 = .ok (.iconst 0, 1) := by decide +kernel
theorem dX12_share__10 : decode cX12_share_ 10 = .ok (.iconst 1, 1) := by decide +kernel
theorem dX12_share__11 : decode cX12_share_ 11 = .ok (.invokestatic 55, 3) := by decide +kernel
theorem dX12_share__14 : decode cX12_share_ 14 = .ok (.ifCond .ne 7, 3) := by decide +kernel
theorem dX12_share__17 : decode cX12_share_ 17 = .ok (.ldc2_w 227, 3) := by decide +kernel
theorem dX12_share__20 : decode cX12_share_ 20 = .ok (.lreturn, 1) := by decide +kernel
theorem dX12_share__21 : decode cX12_share_ 21 = .ok (.aload_n 0, 1) := by decide +kernel
theorem dX12_share__22 : decode cX12_share_ 22 = .ok (.invokevirtual 66, 3) := by decide +kernel
theorem dX12_share__25 : decode cX12_share_ 25 = .ok (.istore_n 3, 1) := by decide +kernel
theorem dX12_share__26 : decode cX12_share_ 26 = .ok (.iload_n 3, 1) := by decide +kernel
theorem dX12_share__27 : decode cX12_share_ 27 = .ok (.ifCond .ne 8, 3) := by decide +kernel
theorem dX12_share__30 : decode cX12_share_ 30 = .ok (.iload_n 2, 1) := by decide +kernel
theorem dX12_share__31 : decode cX12_share_ 31 = .ok (.i2l, 1) := by decide +kernel
theorem dX12_share__32 : decode cX12_share_ 32 = .ok (.goto 31, 3) := by decide +kernel
theorem dX12_share__35 : decode cX12_share_ 35 = .ok (.aload_n 0, 1) := by decide +kernel
theorem dX12_share__36 : decode cX12_share_ 36 = .ok (.getfield 9, 3) := by decide +kernel
theorem dX12_share__39 : decode cX12_share_ 39 = .ok (.bipush 36, 2) := by decide +kernel
theorem dX12_share__41 : decode cX12_share_ 41 = .ok (.iload_n 1, 1) := by decide +kernel
theorem dX12_share__42 : decode cX12_share_ 42 = .ok (.iadd, 1) := by decide +kernel
theorem dX12_share__43 : decode cX12_share_ 43 = .ok (.iaload, 1) := by decide +kernel
theorem dX12_share__44 : decode cX12_share_ 44 = .ok (.ifCond .ne 7, 3) := by decide +kernel
theorem dX12_share__47 : decode cX12_share_ 47 = .ok (.lconst 0, 1) := by decide +kernel
theorem dX12_share__48 : decode cX12_share_ 48 = .ok (.goto 9, 3) := by decide +kernel
theorem dX12_share__51 : decode cX12_share_ 51 = .ok (.aload_n 0, 1) := by decide +kernel
theorem dX12_share__52 : decode cX12_share_ 52 = .ok (.iload_n 1, 1) := by decide +kernel
theorem dX12_share__53 : decode cX12_share_ 53 = .ok (.invokevirtual 63, 3) := by decide +kernel
theorem dX12_share__56 : decode cX12_share_ 56 = .ok (.i2l, 1) := by decide +kernel
theorem dX12_share__57 : decode cX12_share_ 57 = .ok (.iload_n 3, 1) := by decide +kernel
theorem dX12_share__58 : decode cX12_share_ 58 = .ok (.i2l, 1) := by decide +kernel
theorem dX12_share__59 : decode cX12_share_ 59 = .ok (.iload_n 2, 1) := by decide +kernel
theorem dX12_share__60 : decode cX12_share_ 60 = .ok (.invokestatic 229, 3) := by decide +kernel
theorem dX12_share__63 : decode cX12_share_ 63 = .ok (.lreturn, 1) := by decide +kernel
theorem dX12_quotient_0 : decode cX12_quotient 0 = .ok (.lload_n 1, 1) := by decide +kernel
theorem dX12_quotient_1 : decode cX12_quotient 1 = .ok (.lstore 6, 2) := by decide +kernel
theorem dX12_quotient_3 : decode cX12_quotient 3 = .ok (.lload_n 3, 1) := by decide +kernel
theorem dX12_quotient_4 : decode cX12_quotient 4 = .ok (.lstore 8, 2) := by decide +kernel
theorem dX12_quotient_6 : decode cX12_quotient 6 = .ok (.aload_n 0, 1) := by decide +kernel
theorem dX12_quotient_7 : decode cX12_quotient 7 = .ok (.iconst 0, 1) := by decide +kernel
theorem dX12_quotient_8 : decode cX12_quotient 8 = .ok (.putfield 123, 3) := by decide +kernel
theorem dX12_quotient_11 : decode cX12_quotient 11 = .ok (.lload 6, 2) := by decide +kernel
theorem dX12_quotient_13 : decode cX12_quotient 13 = .ok (.ldc2_w 233, 3) := by decide +kernel
theorem dX12_quotient_16 : decode cX12_quotient 16 = .ok (.lload 8, 2) := by decide +kernel
theorem dX12_quotient_18 : decode cX12_quotient 18 = .ok (.lmul, 1) := by decide +kernel
theorem dX12_quotient_19 : decode cX12_quotient 19 = .ok (.lcmp, 1) := by decide +kernel
theorem dX12_quotient_20 : decode cX12_quotient 20 = .ok (.ifCond .lt 24, 3) := by decide +kernel
theorem dX12_quotient_23 : decode cX12_quotient 23 = .ok (.lload 8, 2) := by decide +kernel
theorem dX12_quotient_25 : decode cX12_quotient 25 = .ok (.ldc2_w 233, 3) := by decide +kernel
theorem dX12_quotient_28 : decode cX12_quotient 28 = .ok (.lmul, 1) := by decide +kernel
theorem dX12_quotient_29 : decode cX12_quotient 29 = .ok (.lstore 8, 2) := by decide +kernel
theorem dX12_quotient_31 : decode cX12_quotient 31 = .ok (.aload_n 0, 1) := by decide +kernel
theorem dX12_quotient_32 : decode cX12_quotient 32 = .ok (.dup, 1) := by decide +kernel
theorem dX12_quotient_33 : decode cX12_quotient 33 = .ok (.getfield 123, 3) := by decide +kernel
theorem dX12_quotient_36 : decode cX12_quotient 36 = .ok (.iconst 1, 1) := by decide +kernel
theorem dX12_quotient_37 : decode cX12_quotient 37 = .ok (.iadd, 1) := by decide +kernel
theorem dX12_quotient_38 : decode cX12_quotient 38 = .ok (.putfield 123, 3) := by decide +kernel
theorem dX12_quotient_41 : decode cX12_quotient 41 = .ok (.goto (-30), 3) := by decide +kernel
theorem dX12_quotient_44 : decode cX12_quotient 44 = .ok (.lload 6, 2) := by decide +kernel
theorem dX12_quotient_46 : decode cX12_quotient 46 = .ok (.lload 8, 2) := by decide +kernel
theorem dX12_quotient_48 : decode cX12_quotient 48 = .ok (.lcmp, 1) := by decide +kernel
theorem dX12_quotient_49 : decode cX12_quotient 49 = .ok (.ifCond .ge 24, 3) := by decide +kernel
theorem dX12_quotient_52 : decode cX12_quotient 52 = .ok (.lload 6, 2) := by decide +kernel
theorem dX12_quotient_54 : decode cX12_quotient 54 = .ok (.ldc2_w 233, 3) := by decide +kernel
theorem dX12_quotient_57 : decode cX12_quotient 57 = .ok (.lmul, 1) := by decide +kernel
theorem dX12_quotient_58 : decode cX12_quotient 58 = .ok (.lstore 6, 2) := by decide +kernel
theorem dX12_quotient_60 : decode cX12_quotient 60 = .ok (.aload_n 0, 1) := by decide +kernel
theorem dX12_quotient_61 : decode cX12_quotient 61 = .ok (.dup, 1) := by decide +kernel
theorem dX12_quotient_62 : decode cX12_quotient 62 = .ok (.getfield 123, 3) := by decide +kernel
theorem dX12_quotient_65 : decode cX12_quotient 65 = .ok (.iconst 1, 1) := by decide +kernel
theorem dX12_quotient_66 : decode cX12_quotient 66 = .ok (.isub, 1) := by decide +kernel
theorem dX12_quotient_67 : decode cX12_quotient 67 = .ok (.putfield 123, 3) := by decide +kernel
theorem dX12_quotient_70 : decode cX12_quotient 70 = .ok (.goto (-26), 3) := by decide +kernel
theorem dX12_quotient_73 : decode cX12_quotient 73 = .ok (.lconst 0, 1) := by decide +kernel
theorem dX12_quotient_74 : decode cX12_quotient 74 = .ok (.lstore 10, 2) := by decide +kernel
theorem dX12_quotient_76 : decode cX12_quotient 76 = .ok (.iconst 0, 1) := by decide +kernel
theorem dX12_quotient_77 : decode cX12_quotient 77 = .ok (.istore 12, 2) := by decide +kernel
theorem dX12_quotient_79 : decode cX12_quotient 79 = .ok (.iload 12, 2) := by decide +kernel
theorem dX12_quotient_81 : decode cX12_quotient 81 = .ok (.iload 5, 2) := by decide +kernel
theorem dX12_quotient_83 : decode cX12_quotient 83 = .ok (.if_icmp .gt 46, 3) := by decide +kernel
theorem dX12_quotient_86 : decode cX12_quotient 86 = .ok (.lload 10, 2) := by decide +kernel
theorem dX12_quotient_88 : decode cX12_quotient 88 = .ok (.ldc2_w 233, 3) := by decide +kernel
theorem dX12_quotient_91 : decode cX12_quotient 91 = .ok (.lmul, 1) := by decide +kernel
theorem dX12_quotient_92 : decode cX12_quotient 92 = .ok (.lstore 10, 2) := by decide +kernel
theorem dX12_quotient_94 : decode cX12_quotient 94 = .ok (.lload 6, 2) := by decide +kernel
theorem dX12_quotient_96 : decode cX12_quotient 96 = .ok (.lload 8, 2) := by decide +kernel
theorem dX12_quotient_98 : decode cX12_quotient 98 = .ok (.lcmp, 1) := by decide +kernel
theorem dX12_quotient_99 : decode cX12_quotient 99 = .ok (.ifCond .lt 16, 3) := by decide +kernel
theorem dX12_quotient_102 : decode cX12_quotient 102 = .ok (.lload 10, 2) := by decide +kernel
theorem dX12_quotient_104 : decode cX12_quotient 104 = .ok (.lconst 1, 1) := by decide +kernel
theorem dX12_quotient_105 : decode cX12_quotient 105 = .ok (.ladd, 1) := by decide +kernel
theorem dX12_quotient_106 : decode cX12_quotient 106 = .ok (.lstore 10, 2) := by decide +kernel
theorem dX12_quotient_108 : decode cX12_quotient 108 = .ok (.lload 6, 2) := by decide +kernel
theorem dX12_quotient_110 : decode cX12_quotient 110 = .ok (.lload 8, 2) := by decide +kernel
theorem dX12_quotient_112 : decode cX12_quotient 112 = .ok (.lsub, 1) := by decide +kernel
theorem dX12_quotient_113 : decode cX12_quotient 113 = .ok (.lstore 6, 2) := by decide +kernel
theorem dX12_quotient_115 : decode cX12_quotient 115 = .ok (.lload 6, 2) := by decide +kernel
theorem dX12_quotient_117 : decode cX12_quotient 117 = .ok (.ldc2_w 233, 3) := by decide +kernel
theorem dX12_quotient_120 : decode cX12_quotient 120 = .ok (.lmul, 1) := by decide +kernel
theorem dX12_quotient_121 : decode cX12_quotient 121 = .ok (.lstore 6, 2) := by decide +kernel
theorem dX12_quotient_123 : decode cX12_quotient 123 = .ok (.iinc 12 1, 3) := by decide +kernel
theorem dX12_quotient_126 : decode cX12_quotient 126 = .ok (.goto (-47), 3) := by decide +kernel
theorem dX12_quotient_129 : decode cX12_quotient 129 = .ok (.lload 6, 2) := by decide +kernel
theorem dX12_quotient_131 : decode cX12_quotient 131 = .ok (.lload 8, 2) := by decide +kernel
theorem dX12_quotient_133 : decode cX12_quotient 133 = .ok (.lcmp, 1) := by decide +kernel
theorem dX12_quotient_134 : decode cX12_quotient 134 = .ok (.ifCond .gt 22, 3) := by decide +kernel
theorem dX12_quotient_137 : decode cX12_quotient 137 = .ok (.lload 6, 2) := by decide +kernel
theorem dX12_quotient_139 : decode cX12_quotient 139 = .ok (.lload 8, 2) := by decide +kernel
theorem dX12_quotient_141 : decode cX12_quotient 141 = .ok (.lcmp, 1) := by decide +kernel
theorem dX12_quotient_142 : decode cX12_quotient 142 = .ok (.ifCond .ne 20, 3) := by decide +kernel
theorem dX12_quotient_145 : decode cX12_quotient 145 = .ok (.lload 10, 2) := by decide +kernel
theorem dX12_quotient_147 : decode cX12_quotient 147 = .ok (.ldc2_w 233, 3) := by decide +kernel
theorem dX12_quotient_150 : decode cX12_quotient 150 = .ok (.lrem, 1) := by decide +kernel
theorem dX12_quotient_151 : decode cX12_quotient 151 = .ok (.lconst 1, 1) := by decide +kernel
theorem dX12_quotient_152 : decode cX12_quotient 152 = .ok (.lcmp, 1) := by decide +kernel
theorem dX12_quotient_153 : decode cX12_quotient 153 = .ok (.ifCond .ne 9, 3) := by decide +kernel
theorem dX12_quotient_156 : decode cX12_quotient 156 = .ok (.lload 10, 2) := by decide +kernel
theorem dX12_quotient_158 : decode cX12_quotient 158 = .ok (.lconst 1, 1) := by decide +kernel
theorem dX12_quotient_159 : decode cX12_quotient 159 = .ok (.ladd, 1) := by decide +kernel
theorem dX12_quotient_160 : decode cX12_quotient 160 = .ok (.lstore 10, 2) := by decide +kernel
theorem dX12_quotient_162 : decode cX12_quotient 162 = .ok (.lload 10, 2) := by decide +kernel
theorem dX12_quotient_164 : decode cX12_quotient 164 = .ok (.lreturn, 1) := by decide +kernel
set_option maxRecDepth 20000 in
theorem ggX12_bits_X12_isServer : GoodIn wsX12_bits wsX12_isServer := goodIn_r _ [8, 9, 10, 11, 7, 12, 18, 19, 20, 21, 22, 23, 24, 25, 26, 27, 28, 29, 30, 31, 32, 33, 34, 35, 36, 37, 38, 39] rfl gwX12_isServer
set_option maxRecDepth 20000 in
theorem gX12_bits_X12_isServer : GoodIn wsX12_bits (wsV RX12 137 RX12 yX12_isServer wsX12_isServer) := goodIn_app (goodIn_r _ [4, 5, 6, 7] rfl (by decide +kernel)) ggX12_bits_X12_isServer
set_option maxRecDepth 20000 in
theorem gwX12_quotient : wsX12_quotient.all goodWord = true := by decide +kernel
set_option maxRecDepth 20000 in
theorem ggX12_bits_X12_quotient : GoodIn wsX12_bits wsX12_quotient := goodIn_r _ [16, 3, 17, 18, 19, 20, 21, 22, 23, 24, 25, 26, 27, 28, 29, 30, 31, 32, 33, 34, 35, 36, 37, 38, 39] rfl gwX12_quotient
set_option maxRecDepth 20000 in
theorem gX12_bits_X12_quotient : GoodIn wsX12_bits (wsV RX12 235 RX12 yX12_quotient wsX12_quotient) := goodIn_app (goodIn_r _ [13, 14, 15, 7] rfl (by decide +kernel)) ggX12_bits_X12_quotient
theorem dX12_bits_0 : decode cX12_bits 0 = .ok (.aload_n 0, 1) := by decide +kernel
theorem dX12_bits_1 : decode cX12_bits 1 = .ok (.iload_n 1, 1) := by decide +kernel
theorem dX12_bits_2 : decode cX12_bits 2 = .ok (.invokevirtual 137, 3) := by decide +kernel
theorem dX12_bits_5 : decode cX12_bits 5 = .ok (.ifCond .ne 5, 3) := by decide +kernel
theorem dX12_bits_8 : decode cX12_bits 8 = .ok (.iconst (-1), 1) := by decide +kernel
theorem dX12_bits_9 : decode cX12_bits 9 = .ok (.ireturn, 1) := by decide +kernel
theorem dX12_bits_10 : decode cX12_bits 10 = .ok (.aload_n 0, 1) := by decide +kernel
theorem dX12_bits_11 : decode cX12_bits 11 = .ok (.aload_n 0, 1) := by decide +kernel
theorem dX12_bits_12 : decode cX12_bits 12 = .ok (.getfield 9, 3) := by decide +kernel
theorem dX12_bits_15 : decode cX12_bits 15 = .ok (.bipush 12, 2) := by decide +kernel
theorem dX12_bits_17 : decode cX12_bits 17 = .ok (.iload_n 1, 1) := by decide +kernel
theorem dX12_bits_18 : decode cX12_bits 18 = .ok (.iadd, 1) := by decide +kernel
theorem dX12_bits_19 : decode cX12_bits 19 = .ok (.iaload, 1) := by decide +kernel
theorem dX12_bits_20 : decode cX12_bits 20 = .ok (.i2l, 1) := by decide +kernel
theorem dX12_bits_21 : decode cX12_bits 21 = .ok (.aload_n 0, 1) := by decide +kernel
theorem dX12_bits_22 : decode cX12_bits 22 = .ok (.getfield 9, 3) := by decide +kernel
theorem dX12_bits_25 : decode cX12_bits 25 = .ok (.bipush 18, 2) := by decide +kernel
theorem dX12_bits_27 : decode cX12_bits 27 = .ok (.iload_n 1, 1) := by decide +kernel
theorem dX12_bits_28 : decode cX12_bits 28 = .ok (.iadd, 1) := by decide +kernel
theorem dX12_bits_29 : decode cX12_bits 29 = .ok (.iaload, 1) := by decide +kernel
theorem dX12_bits_30 : decode cX12_bits 30 = .ok (.i2l, 1) := by decide +kernel
theorem dX12_bits_31 : decode cX12_bits 31 = .ok (.bipush 23, 2) := by decide +kernel
theorem dX12_bits_33 : decode cX12_bits 33 = .ok (.invokevirtual 235, 3) := by decide +kernel
theorem dX12_bits_36 : decode cX12_bits 36 = .ok (.lstore_n 2, 1) := by decide +kernel
theorem dX12_bits_37 : decode cX12_bits 37 = .ok (.lload_n 2, 1) := by decide +kernel
theorem dX12_bits_38 : decode cX12_bits 38 = .ok (.ldc2_w 238, 3) := by decide +kernel
theorem dX12_bits_41 : decode cX12_bits 41 = .ok (.aload_n 0, 1) := by decide +kernel
theorem dX12_bits_42 : decode cX12_bits 42 = .ok (.getfield 123, 3) := by decide +kernel
theorem dX12_bits_45 : decode cX12_bits 45 = .ok (.i2l, 1) := by decide +kernel
theorem dX12_bits_46 : decode cX12_bits 46 = .ok (.ladd, 1) := by decide +kernel
theorem dX12_bits_47 : decode cX12_bits 47 = .ok (.bipush 23, 2) := by decide +kernel
theorem dX12_bits_49 : decode cX12_bits 49 = .ok (.lshl, 1) := by decide +kernel
theorem dX12_bits_50 : decode cX12_bits 50 = .ok (.ladd, 1) := by decide +kernel
theorem dX12_bits_51 : decode cX12_bits 51 = .ok (.l2i, 1) := by decide +kernel
theorem dX12_bits_52 : decode cX12_bits 52 = .ok (.ireturn, 1) := by decide +kernel
set_option maxRecDepth 20000 in
theorem ggX12_wide_X12_isServer : GoodIn wsX12_wide wsX12_isServer := goodIn_r _ [11, 12, 13, 14, 10, 15, 21, 22, 23, 24, 25, 26, 27, 28, 29, 30, 31, 32, 33, 34, 35, 36, 37, 38, 39, 40, 41, 42] rfl gwX12_isServer
set_option maxRecDepth 20000 in
theorem gX12_wide_X12_isServer : GoodIn wsX12_wide (wsV RX12 137 RX12 yX12_isServer wsX12_isServer) := goodIn_app (goodIn_r _ [7, 8, 9, 10] rfl (by decide +kernel)) ggX12_wide_X12_isServer
set_option maxRecDepth 20000 in
theorem ggX12_wide_X12_quotient : GoodIn wsX12_wide wsX12_quotient := goodIn_r _ [19, 5, 20, 21, 22, 23, 24, 25, 26, 27, 28, 29, 30, 31, 32, 33, 34, 35, 36, 37, 38, 39, 40, 41, 42] rfl gwX12_quotient
set_option maxRecDepth 20000 in
theorem gX12_wide_X12_quotient : GoodIn wsX12_wide (wsV RX12 235 RX12 yX12_quotient wsX12_quotient) := goodIn_app (goodIn_r _ [16, 17, 18, 10] rfl (by decide +kernel)) ggX12_wide_X12_quotient
theorem dX12_wide_0 : decode cX12_wide 0 = .ok (.aload_n 0, 1) := by decide +kernel
theorem dX12_wide_1 : decode cX12_wide 1 = .ok (.iload_n 1, 1) := by decide +kernel
theorem dX12_wide_2 : decode cX12_wide 2 = .ok (.invokevirtual 137, 3) := by decide +kernel
theorem dX12_wide_5 : decode cX12_wide 5 = .ok (.ifCond .ne 7, 3) := by decide +kernel
theorem dX12_wide_8 : decode cX12_wide 8 = .ok (.ldc2_w 227, 3) := by decide +kernel
theorem dX12_wide_11 : decode cX12_wide 11 = .ok (.lreturn, 1) := by decide +kernel
theorem dX12_wide_12 : decode cX12_wide 12 = .ok (.aload_n 0, 1) := by decide +kernel
theorem dX12_wide_13 : decode cX12_wide 13 = .ok (.getfield 9, 3) := by decide +kernel
theorem dX12_wide_16 : decode cX12_wide 16 = .ok (.bipush 24, 2) := by decide +kernel
theorem dX12_wide_18 : decode cX12_wide 18 = .ok (.iload_n 1, 1) := by decide +kernel
theorem dX12_wide_19 : decode cX12_wide 19 = .ok (.iadd, 1) := by decide +kernel
theorem dX12_wide_20 : decode cX12_wide 20 = .ok (.iaload, 1) := by decide +kernel
theorem dX12_wide_21 : decode cX12_wide 21 = .ok (.istore_n 2, 1) := by decide +kernel
theorem dX12_wide_22 : decode cX12_wide 22 = .ok (.iload_n 2, 1) := by decide +kernel
theorem dX12_wide_23 : decode cX12_wide 23 = .ok (.ifCond .ne 5, 3) := by decide +kernel
theorem dX12_wide_26 : decode cX12_wide 26 = .ok (.lconst 0, 1) := by decide +kernel
theorem dX12_wide_27 : decode cX12_wide 27 = .ok (.lreturn, 1) := by decide +kernel
theorem dX12_wide_28 : decode cX12_wide 28 = .ok (.aload_n 0, 1) := by decide +kernel
theorem dX12_wide_29 : decode cX12_wide 29 = .ok (.iload_n 2, 1) := by decide +kernel
theorem dX12_wide_30 : decode cX12_wide 30 = .ok (.ifCond .ge 9, 3) := by decide +kernel
theorem dX12_wide_33 : decode cX12_wide 33 = .ok (.iload_n 2, 1) := by decide +kernel
theorem dX12_wide_34 : decode cX12_wide 34 = .ok (.ineg, 1) := by decide +kernel
theorem dX12_wide_35 : decode cX12_wide 35 = .ok (.i2l, 1) := by decide +kernel
theorem dX12_wide_36 : decode cX12_wide 36 = .ok (.goto 5, 3) := by decide +kernel
theorem dX12_wide_39 : decode cX12_wide 39 = .ok (.iload_n 2, 1) := by decide +kernel
theorem dX12_wide_40 : decode cX12_wide 40 = .ok (.i2l, 1) := by decide +kernel
theorem dX12_wide_41 : decode cX12_wide 41 = .ok (.ldc2_w 240, 3) := by decide +kernel
theorem dX12_wide_44 : decode cX12_wide 44 = .ok (.bipush 52, 2) := by decide +kernel
theorem dX12_wide_46 : decode cX12_wide 46 = .ok (.invokevirtual 235, 3) := by decide +kernel
theorem dX12_wide_49 : decode cX12_wide 49 = .ok (.lstore_n 3, 1) := by decide +kernel
theorem dX12_wide_50 : decode cX12_wide 50 = .ok (.lload_n 3, 1) := by decide +kernel
theorem dX12_wide_51 : decode cX12_wide 51 = .ok (.ldc2_w 242, 3) := by decide +kernel
theorem dX12_wide_54 : decode cX12_wide 54 = .ok (.aload_n 0, 1) := by decide +kernel
theorem dX12_wide_55 : decode cX12_wide 55 = .ok (.getfield 123, 3) := by decide +kernel
theorem dX12_wide_58 : decode cX12_wide 58 = .ok (.i2l, 1) := by decide +kernel
theorem dX12_wide_59 : decode cX12_wide 59 = .ok (.ladd, 1) := by decide +kernel
theorem dX12_wide_60 : decode cX12_wide 60 = .ok (.bipush 52, 2) := by decide +kernel
theorem dX12_wide_62 : decode cX12_wide 62 = .ok (.lshl, 1) := by decide +kernel
theorem dX12_wide_63 : decode cX12_wide 63 = .ok (.ladd, 1) := by decide +kernel
theorem dX12_wide_64 : decode cX12_wide 64 = .ok (.lstore 5, 2) := by decide +kernel
theorem dX12_wide_66 : decode cX12_wide 66 = .ok (.iload_n 2, 1) := by decide +kernel
theorem dX12_wide_67 : decode cX12_wide 67 = .ok (.ifCond .ge 12, 3) := by decide +kernel
theorem dX12_wide_70 : decode cX12_wide 70 = .ok (.lload 5, 2) := by decide +kernel
theorem dX12_wide_72 : decode cX12_wide 72 = .ok (.ldc2_w 244, 3) := by decide +kernel
theorem dX12_wide_75 : decode cX12_wide 75 = .ok (.lor, 1) := by decide +kernel
theorem dX12_wide_76 : decode cX12_wide 76 = .ok (.goto 5, 3) := by decide +kernel
theorem dX12_wide_79 : decode cX12_wide 79 = .ok (.lload 5, 2) := by decide +kernel
theorem dX12_wide_81 : decode cX12_wide 81 = .ok (.lreturn, 1) := by decide +kernel
set_option maxRecDepth 20000 in
theorem ggX12_forged_X12_isShelf : GoodIn wsX12_forged wsX12_isShelf := goodIn_r _ [7, 8, 9, 6, 10] rfl gwX12_isShelf
set_option maxRecDepth 20000 in
theorem gX12_forged_X12_isShelf : GoodIn wsX12_forged (va_wsS RX12 163 yX12_isShelf wsX12_isShelf) := goodIn_app (goodIn_r _ [4, 5, 6] rfl (by decide +kernel)) ggX12_forged_X12_isShelf
set_option maxRecDepth 20000 in
theorem ggX12_forged_X12_noRow : GoodIn wsX12_forged wsX12_noRow := goodIn_r _ [14, 15, 21, 22, 23, 24, 25, 26, 27, 28, 29, 30, 31, 32, 33, 34, 35, 36, 37, 38, 39, 40, 41, 42] rfl gwX12_noRow
set_option maxRecDepth 20000 in
theorem gX12_forged_X12_noRow : GoodIn wsX12_forged (wsV RX12 59 RX12 yX12_noRow wsX12_noRow) := goodIn_app (goodIn_r _ [11, 12, 13, 6] rfl (by decide +kernel)) ggX12_forged_X12_noRow
set_option maxRecDepth 20000 in
theorem ggX12_forged_X12_isServer : GoodIn wsX12_forged wsX12_isServer := goodIn_r _ [19, 20, 8, 9, 6, 10, 21, 22, 23, 24, 25, 26, 27, 28, 29, 30, 31, 32, 33, 34, 35, 36, 37, 38, 39, 40, 41, 42] rfl gwX12_isServer
set_option maxRecDepth 20000 in
theorem gX12_forged_X12_isServer : GoodIn wsX12_forged (wsV RX12 137 RX12 yX12_isServer wsX12_isServer) := goodIn_app (goodIn_r _ [16, 17, 18, 6] rfl (by decide +kernel)) ggX12_forged_X12_isServer
theorem dX12_forged_0 : decode cX12_forged 0 = .ok (.iload_n 1, 1) := by decide +kernel
theorem dX12_forged_1 : decode cX12_forged 1 = .ok (.invokestatic 163, 3) := by decide +kernel
theorem dX12_forged_4 : decode cX12_forged 4 = .ok (.ifCond .ne 5, 3) := by decide +kernel
theorem dX12_forged_7 : decode cX12_forged 7 = .ok (.iconst (-1), 1) := by decide +kernel
theorem dX12_forged_8 : decode cX12_forged 8 = .ok (.ireturn, 1) := by decide +kernel
theorem dX12_forged_9 : decode cX12_forged 9 = .ok (.aload_n 0, 1) := by decide +kernel
theorem dX12_forged_10 : decode cX12_forged 10 = .ok (.iload_n 1, 1) := by decide +kernel
theorem dX12_forged_11 : decode cX12_forged 11 = .ok (.invokevirtual 59, 3) := by decide +kernel
theorem dX12_forged_14 : decode cX12_forged 14 = .ok (.istore_n 2, 1) := by decide +kernel
theorem dX12_forged_15 : decode cX12_forged 15 = .ok (.iload_n 2, 1) := by decide +kernel
theorem dX12_forged_16 : decode cX12_forged 16 = .ok (.ifCond .ge 5, 3) := by decide +kernel
theorem dX12_forged_19 : decode cX12_forged 19 = .ok (.iload_n 2, 1) := by decide +kernel
theorem dX12_forged_20 : decode cX12_forged 20 = .ok (.ireturn, 1) := by decide +kernel
theorem dX12_forged_21 : decode cX12_forged 21 = .ok (.iconst 0, 1) := by decide +kernel
theorem dX12_forged_22 : decode cX12_forged 22 = .ok (.istore_n 3, 1) := by decide +kernel
theorem dX12_forged_23 : decode cX12_forged 23 = .ok (.iload_n 3, 1) := by decide +kernel
theorem dX12_forged_24 : decode cX12_forged 24 = .ok (.aload_n 0, 1) := by decide +kernel
theorem dX12_forged_25 : decode cX12_forged 25 = .ok (.getfield 36, 3) := by decide +kernel
theorem dX12_forged_28 : decode cX12_forged 28 = .ok (.iload_n 1, 1) := by decide +kernel
theorem dX12_forged_29 : decode cX12_forged 29 = .ok (.iaload, 1) := by decide +kernel
theorem dX12_forged_30 : decode cX12_forged 30 = .ok (.if_icmp .ge 42, 3) := by decide +kernel
theorem dX12_forged_33 : decode cX12_forged 33 = .ok (.aload_n 0, 1) := by decide +kernel
theorem dX12_forged_34 : decode cX12_forged 34 = .ok (.iload_n 3, 1) := by decide +kernel
theorem dX12_forged_35 : decode cX12_forged 35 = .ok (.invokevirtual 137, 3) := by decide +kernel
theorem dX12_forged_38 : decode cX12_forged 38 = .ok (.ifCond .eq 26, 3) := by decide +kernel
theorem dX12_forged_41 : decode cX12_forged 41 = .ok (.aload_n 0, 1) := by decide +kernel
theorem dX12_forged_42 : decode cX12_forged 42 = .ok (.getfield 39, 3) := by decide +kernel
theorem dX12_forged_45 : decode cX12_forged 45 = .ok (.bipush 100, 2) := by decide +kernel
theorem dX12_forged_47 : decode cX12_forged 47 = .ok (.iload_n 1, 1) := by decide +kernel
theorem dX12_forged_48 : decode cX12_forged 48 = .ok (.imul, 1) := by decide +kernel
theorem dX12_forged_49 : decode cX12_forged 49 = .ok (.iload_n 3, 1) := by decide +kernel
theorem dX12_forged_50 : decode cX12_forged 50 = .ok (.iadd, 1) := by decide +kernel
theorem dX12_forged_51 : decode cX12_forged 51 = .ok (.iaload, 1) := by decide +kernel
theorem dX12_forged_52 : decode cX12_forged 52 = .ok (.aload_n 0, 1) := by decide +kernel
theorem dX12_forged_53 : decode cX12_forged 53 = .ok (.getfield 9, 3) := by decide +kernel
theorem dX12_forged_56 : decode cX12_forged 56 = .ok (.bipush 30, 2) := by decide +kernel
theorem dX12_forged_58 : decode cX12_forged 58 = .ok (.iload_n 3, 1) := by decide +kernel
theorem dX12_forged_59 : decode cX12_forged 59 = .ok (.iadd, 1) := by decide +kernel
theorem dX12_forged_60 : decode cX12_forged 60 = .ok (.iaload, 1) := by decide +kernel
theorem dX12_forged_61 : decode cX12_forged 61 = .ok (.if_icmp .eq 5, 3) := by decide +kernel
theorem dX12_forged_64 : decode cX12_forged 64 = .ok (.iload_n 3, 1) := by decide +kernel
theorem dX12_forged_65 : decode cX12_forged 65 = .ok (.ireturn, 1) := by decide +kernel
theorem dX12_forged_66 : decode cX12_forged 66 = .ok (.iinc 3 1, 3) := by decide +kernel
theorem dX12_forged_69 : decode cX12_forged 69 = .ok (.goto (-46), 3) := by decide +kernel
theorem dX12_forged_72 : decode cX12_forged 72 = .ok (.bipush (-4), 2) := by decide +kernel
theorem dX12_forged_74 : decode cX12_forged 74 = .ok (.ireturn, 1) := by decide +kernel
set_option maxRecDepth 20000 in
theorem ggX12_judge_X12_isShelf : GoodIn wsX12_judge wsX12_isShelf := goodIn_r _ [7, 8, 9, 6, 10] rfl gwX12_isShelf
set_option maxRecDepth 20000 in
theorem gX12_judge_X12_isShelf : GoodIn wsX12_judge (va_wsS RX12 163 yX12_isShelf wsX12_isShelf) := goodIn_app (goodIn_r _ [4, 5, 6] rfl (by decide +kernel)) ggX12_judge_X12_isShelf
set_option maxRecDepth 20000 in
theorem ggX12_judge_X12_noRow : GoodIn wsX12_judge wsX12_noRow := goodIn_r _ [14, 15, 100, 101, 102, 103, 104, 105, 106, 107, 108, 109, 110, 111, 112, 113, 114, 115, 116, 117, 118, 119, 120, 121] rfl gwX12_noRow
set_option maxRecDepth 20000 in
theorem gX12_judge_X12_noRow : GoodIn wsX12_judge (wsV RX12 59 RX12 yX12_noRow wsX12_noRow) := goodIn_app (goodIn_r _ [11, 12, 13, 6] rfl (by decide +kernel)) ggX12_judge_X12_noRow
set_option maxRecDepth 20000 in
theorem ggX12_judge_X12_keep : GoodIn wsX12_judge wsX12_keep := goodIn_r _ [19, 20, 21, 22, 23, 24, 100, 101, 102, 103, 104, 105, 106, 107, 108, 109, 110, 111, 112, 113, 114, 115, 116, 117, 118, 119, 120, 121] rfl gwX12_keep
set_option maxRecDepth 20000 in
theorem gX12_judge_X12_keep : GoodIn wsX12_judge (wsV RX12 169 RX12 yX12_keep wsX12_keep) := goodIn_app (goodIn_r _ [16, 17, 18, 6] rfl (by decide +kernel)) ggX12_judge_X12_keep
set_option maxRecDepth 20000 in
theorem ggX12_judge_X12_isSkipped : GoodIn wsX12_judge wsX12_isSkipped := goodIn_r _ [28, 29, 30, 100, 101, 102, 103, 104, 105, 106, 107, 108, 109, 110, 111, 112, 113, 114, 115, 116, 117, 118, 119, 120, 121] rfl gwX12_isSkipped
set_option maxRecDepth 20000 in
theorem gX12_judge_X12_isSkipped : GoodIn wsX12_judge (wsV RX12 217 RX12 yX12_isSkipped wsX12_isSkipped) := goodIn_app (goodIn_r _ [25, 26, 27, 6] rfl (by decide +kernel)) ggX12_judge_X12_isSkipped
set_option maxRecDepth 20000 in
theorem ggX12_judge_X12_load : GoodIn wsX12_judge wsX12_load := goodIn_r _ [34, 24, 20, 35, 36, 37, 6, 38, 100, 101, 102, 103, 104, 105, 106, 107, 108, 109, 110, 111, 112, 113, 114, 115, 116, 117, 118, 119, 120, 121] rfl gwX12_load
set_option maxRecDepth 20000 in
theorem gX12_judge_X12_load : GoodIn wsX12_judge (wsV RX12 66 RX12 yX12_load wsX12_load) := goodIn_app (goodIn_r _ [31, 32, 33, 6] rfl (by decide +kernel)) ggX12_judge_X12_load
set_option maxRecDepth 20000 in
theorem ggX12_judge_X12_goes : GoodIn wsX12_judge wsX12_goes := goodIn_r _ [42, 43, 44, 45, 6, 46, 47, 48, 22, 21, 20, 23, 49, 50, 51, 52, 53, 54, 55, 56, 24, 57, 58, 59, 60, 61, 62, 63, 64, 65, 66, 67, 68, 69, 70, 71, 72, 73, 74, 75, 76, 77, 78, 79, 80, 81, 82, 83, 31, 32, 33, 34, 35, 36, 37, 38, 84, 85, 86, 87, 88, 89, 90, 91, 92, 93, 94, 95, 100, 101, 102, 103, 104, 105, 106, 107, 108, 109, 110, 111, 112, 113, 114, 115, 116, 117, 118, 119, 120, 121] rfl gwX12_goes
set_option maxRecDepth 20000 in
theorem gX12_judge_X12_goes : GoodIn wsX12_judge (wsV RX12 144 RX12 yX12_goes wsX12_goes) := goodIn_app (goodIn_r _ [39, 40, 41, 6] rfl (by decide +kernel)) ggX12_judge_X12_goes
set_option maxRecDepth 20000 in
theorem ggX12_judge_X12_again : GoodIn wsX12_judge wsX12_again := goodIn_r _ [99, 20, 21, 22, 23, 24, 100, 101, 102, 103, 104, 105, 106, 107, 108, 109, 110, 111, 112, 113, 114, 115, 116, 117, 118, 119, 120, 121] rfl gwX12_again
set_option maxRecDepth 20000 in
theorem gX12_judge_X12_again : GoodIn wsX12_judge (wsV RX12 176 RX12 yX12_again wsX12_again) := goodIn_app (goodIn_r _ [96, 97, 98, 6] rfl (by decide +kernel)) ggX12_judge_X12_again
theorem dX12_judge_0 : decode cX12_judge 0 = .ok (.iload_n 1, 1) := by decide +kernel
theorem dX12_judge_1 : decode cX12_judge 1 = .ok (.invokestatic 163, 3) := by decide +kernel
theorem dX12_judge_4 : decode cX12_judge 4 = .ok (.ifCond .ne 5, 3) := by decide +kernel
theorem dX12_judge_7 : decode cX12_judge 7 = .ok (.iconst (-1), 1) := by decide +kernel
theorem dX12_judge_8 : decode cX12_judge 8 = .ok (.ireturn, 1) := by decide +kernel
theorem dX12_judge_9 : decode cX12_judge 9 = .ok (.aload_n 0, 1) := by decide +kernel
theorem dX12_judge_10 : decode cX12_judge 10 = .ok (.iload_n 1, 1) := by decide +kernel
theorem dX12_judge_11 : decode cX12_judge 11 = .ok (.invokevirtual 59, 3) := by decide +kernel
theorem dX12_judge_14 : decode cX12_judge 14 = .ok (.istore_n 2, 1) := by decide +kernel
theorem dX12_judge_15 : decode cX12_judge 15 = .ok (.iload_n 2, 1) := by decide +kernel
theorem dX12_judge_16 : decode cX12_judge 16 = .ok (.ifCond .ge 5, 3) := by decide +kernel
theorem dX12_judge_19 : decode cX12_judge 19 = .ok (.iload_n 2, 1) := by decide +kernel
theorem dX12_judge_20 : decode cX12_judge 20 = .ok (.ireturn, 1) := by decide +kernel
theorem dX12_judge_21 : decode cX12_judge 21 = .ok (.aload_n 0, 1) := by decide +kernel
theorem dX12_judge_22 : decode cX12_judge 22 = .ok (.aload_n 0, 1) := by decide +kernel
theorem dX12_judge_23 : decode cX12_judge 23 = .ok (.getfield 24, 3) := by decide +kernel
theorem dX12_judge_26 : decode cX12_judge 26 = .ok (.invokevirtual 169, 3) := by decide +kernel
theorem dX12_judge_29 : decode cX12_judge 29 = .ok (.bipush (-4), 2) := by decide +kernel
theorem dX12_judge_31 : decode cX12_judge 31 = .ok (.istore_n 3, 1) := by decide +kernel
theorem dX12_judge_32 : decode cX12_judge 32 = .ok (.iconst 0, 1) := by decide +kernel
theorem dX12_judge_33 : decode cX12_judge 33 = .ok (.istore 4, 2) := by decide +kernel
theorem dX12_judge_35 : decode cX12_judge 35 = .ok (.iload 4, 2) := by decide +kernel
theorem dX12_judge_37 : decode cX12_judge 37 = .ok (.aload_n 0, 1) := by decide +kernel
theorem dX12_judge_38 : decode cX12_judge 38 = .ok (.getfield 36, 3) := by decide +kernel
theorem dX12_judge_41 : decode cX12_judge 41 = .ok (.iload_n 1, 1) := by decide +kernel
theorem dX12_judge_42 : decode cX12_judge 42 = .ok (.iaload, 1) := by decide +kernel
theorem dX12_judge_43 : decode cX12_judge 43 = .ok (.if_icmp .ge 61, 3) := by decide +kernel
theorem dX12_judge_46 : decode cX12_judge 46 = .ok (.iload_n 3, 1) := by decide +kernel
theorem dX12_judge_47 : decode cX12_judge 47 = .ok (.bipush (-4), 2) := by decide +kernel
theorem dX12_judge_49 : decode cX12_judge 49 = .ok (.if_icmp .ne 55, 3) := by decide +kernel
theorem dX12_judge_52 : decode cX12_judge 52 = .ok (.aload_n 0, 1) := by decide +kernel
theorem dX12_judge_53 : decode cX12_judge 53 = .ok (.iload_n 1, 1) := by decide +kernel
theorem dX12_judge_54 : decode cX12_judge 54 = .ok (.aload_n 0, 1) := by decide +kernel
theorem dX12_judge_55 : decode cX12_judge 55 = .ok (.getfield 39, 3) := by decide +kernel
theorem dX12_judge_58 : decode cX12_judge 58 = .ok (.bipush 100, 2) := by decide +kernel
theorem dX12_judge_60 : decode cX12_judge 60 = .ok (.iload_n 1, 1) := by decide +kernel
theorem dX12_judge_61 : decode cX12_judge 61 = .ok (.imul, 1) := by decide +kernel
theorem dX12_judge_62 : decode cX12_judge 62 = .ok (.iload 4, 2) := by decide +kernel
theorem dX12_judge_64 : decode cX12_judge 64 = .ok (.iadd, 1) := by decide +kernel
theorem dX12_judge_65 : decode cX12_judge 65 = .ok (.iaload, 1) := by decide +kernel
theorem dX12_judge_66 : decode cX12_judge 66 = .ok (.invokevirtual 217, 3) := by decide +kernel
theorem dX12_judge_69 : decode cX12_judge 69 = .ok (.ifCond .ne 25, 3) := by decide +kernel
theorem dX12_judge_72 : decode cX12_judge 72 = .ok (.aload_n 0, 1) := by decide +kernel
theorem dX12_judge_73 : decode cX12_judge 73 = .ok (.getfield 39, 3) := by decide +kernel
theorem dX12_judge_76 : decode cX12_judge 76 = .ok (.bipush 100, 2) := by decide +kernel
theorem dX12_judge_78 : decode cX12_judge 78 = .ok (.iload_n 1, 1) := by decide +kernel
theorem dX12_judge_79 : decode cX12_judge 79 = .ok (.imul, 1) := by decide +kernel
theorem dX12_judge_80 : decode cX12_judge 80 = .ok (.iload 4, 2) := by decide +kernel
theorem dX12_judge_82 : decode cX12_judge 82 = .ok (.iadd, 1) := by decide +kernel
theorem dX12_judge_83 : decode cX12_judge 83 = .ok (.iaload, 1) := by decide +kernel
theorem dX12_judge_84 : decode cX12_judge 84 = .ok (.aload_n 0, 1) := by decide +kernel
theorem dX12_judge_85 : decode cX12_judge 85 = .ok (.invokevirtual 66, 3) := by decide +kernel
theorem dX12_judge_88 : decode cX12_judge 88 = .ok (.if_icmp .eq 6, 3) := by decide +kernel
theorem dX12_judge_91 : decode cX12_judge 91 = .ok (.iload 4, 2) := by decide +kernel
theorem dX12_judge_93 : decode cX12_judge 93 = .ok (.istore_n 3, 1) := by decide +kernel
theorem dX12_judge_94 : decode cX12_judge 94 = .ok (.aload_n 0, 1) := by decide +kernel
theorem dX12_judge_95 : decode cX12_judge 95 = .ok (.invokevirtual 144, 3) := by decide +kernel
theorem dX12_judge_98 : decode cX12_judge 98 = .ok (.iinc 4 1, 3) := by decide +kernel
theorem dX12_judge_101 : decode cX12_judge 101 = .ok (.goto (-66), 3) := by decide +kernel
theorem dX12_judge_104 : decode cX12_judge 104 = .ok (.aload_n 0, 1) := by decide +kernel
theorem dX12_judge_105 : decode cX12_judge 105 = .ok (.aload_n 0, 1) := by decide +kernel
theorem dX12_judge_106 : decode cX12_judge 106 = .ok (.getfield 24, 3) := by decide +kernel
theorem dX12_judge_109 : decode cX12_judge 109 = .ok (.invokevirtual 176, 3) := by decide +kernel
theorem dX12_judge_112 : decode cX12_judge 112 = .ok (.iload_n 3, 1) := by decide +kernel
theorem dX12_judge_113 : decode cX12_judge 113 = .ok (.ireturn, 1) := by decide +kernel
theorem dX12_draw_0 : decode cX12_draw 0 = .ok (.aload_n 0, 1) := by decide +kernel
theorem dX12_draw_1 : decode cX12_draw 1 = .ok (.aload_n 0, 1) := by decide +kernel
theorem dX12_draw_2 : decode cX12_draw 2 = .ok (.getfield 246, 3) := by decide +kernel
theorem dX12_draw_5 : decode cX12_draw 5 = .ok (.ldc 249, 2) := by decide +kernel
theorem dX12_draw_7 : decode cX12_draw 7 = .ok (.imul, 1) := by decide +kernel
theorem dX12_draw_8 : decode cX12_draw 8 = .ok (.sipush 12345, 3) := by decide +kernel
theorem dX12_draw_11 : decode cX12_draw 11 = .ok (.iadd, 1) := by decide +kernel
theorem dX12_draw_12 : decode cX12_draw 12 = .ok (.putfield 246, 3) := by decide +kernel
theorem dX12_draw_15 : decode cX12_draw 15 = .ok (.aload_n 0, 1) := by decide +kernel
theorem dX12_draw_16 : decode cX12_draw 16 = .ok (.getfield 246, 3) := by decide +kernel
theorem dX12_draw_19 : decode cX12_draw 19 = .ok (.ldc 250, 2) := by decide +kernel
theorem dX12_draw_21 : decode cX12_draw 21 = .ok (.iand, 1) := by decide +kernel
theorem dX12_draw_22 : decode cX12_draw 22 = .ok (.ldc 251, 2) := by decide +kernel
theorem dX12_draw_24 : decode cX12_draw 24 = .ok (.idiv, 1) := by decide +kernel
theorem dX12_draw_25 : decode cX12_draw 25 = .ok (.iload_n 1, 1) := by decide +kernel
theorem dX12_draw_26 : decode cX12_draw 26 = .ok (.irem, 1) := by decide +kernel
theorem dX12_draw_27 : decode cX12_draw 27 = .ok (.ireturn, 1) := by decide +kernel
set_option maxRecDepth 20000 in
theorem gwX12_draw : wsX12_draw.all goodWord = true := by decide +kernel
set_option maxRecDepth 20000 in
theorem ggX12_sixTimes_X12_draw : GoodIn wsX12_sixTimes wsX12_draw := goodIn_r _ [7, 8, 9, 10, 11, 88, 89, 90, 91, 92, 93, 94, 95, 96, 97, 98, 99, 100, 101, 102, 103, 104, 105, 106, 107, 108, 109] rfl gwX12_draw
set_option maxRecDepth 20000 in
theorem gX12_sixTimes_X12_draw : GoodIn wsX12_sixTimes (wsV RX12 252 RX12 yX12_draw wsX12_draw) := goodIn_app (goodIn_r _ [3, 4, 5, 6] rfl (by decide +kernel)) ggX12_sixTimes_X12_draw
set_option maxRecDepth 20000 in
theorem ggX12_sixTimes_X12_jobComes : GoodIn wsX12_sixTimes wsX12_jobComes := goodIn_r _ [15, 2, 16, 17, 18, 19, 20, 21, 6, 22, 88, 89, 90, 91, 92, 93, 94, 95, 96, 97, 98, 99, 100, 101, 102, 103, 104, 105, 106, 107, 108, 109] rfl gwX12_jobComes
set_option maxRecDepth 20000 in
theorem gX12_sixTimes_X12_jobComes : GoodIn wsX12_sixTimes (wsV RX12 140 RX12 yX12_jobComes wsX12_jobComes) := goodIn_app (goodIn_r _ [12, 13, 14, 6] rfl (by decide +kernel)) ggX12_sixTimes_X12_jobComes
set_option maxRecDepth 20000 in
theorem ggX12_sixTimes_X12_goesOn : GoodIn wsX12_sixTimes wsX12_goesOn := goodIn_r _ [26, 27, 28, 29, 6, 30, 31, 32, 33, 34, 35, 36, 17, 16, 2, 18, 37, 38, 39, 40, 41, 42, 43, 44, 1, 45, 46, 47, 48, 19, 20, 21, 22, 49, 50, 51, 52, 53, 54, 55, 56, 57, 58, 59, 60, 61, 62, 63, 64, 65, 66, 67, 68, 69, 70, 71, 72, 73, 74, 75, 76, 77, 78, 79, 80, 81, 82, 83, 84, 85, 86, 87, 88, 89, 90, 91, 92, 93, 94, 95, 96, 97, 98, 99, 100, 101, 102, 103, 104, 105, 106, 107, 108, 109] rfl gwX12_goesOn
set_option maxRecDepth 20000 in
theorem gX12_sixTimes_X12_goesOn : GoodIn wsX12_sixTimes (wsV RX12 191 RX12 yX12_goesOn wsX12_goesOn) := goodIn_app (goodIn_r _ [23, 24, 25, 6] rfl (by decide +kernel)) ggX12_sixTimes_X12_goesOn
theorem dX12_sixTimes_0 : decode cX12_sixTimes 0 = .ok (.iconst 0, 1) := by decide +kernel
theorem dX12_sixTimes_1 : decode cX12_sixTimes 1 = .ok (.istore_n 1, 1) := by decide +kernel
theorem dX12_sixTimes_2 : decode cX12_sixTimes 2 = .ok (.iload_n 1, 1) := by decide +kernel
theorem dX12_sixTimes_3 : decode cX12_sixTimes 3 = .ok (.bipush 6, 2) := by decide +kernel
theorem dX12_sixTimes_5 : decode cX12_sixTimes 5 = .ok (.if_icmp .ge 61, 3) := by decide +kernel
theorem dX12_sixTimes_8 : decode cX12_sixTimes 8 = .ok (.iconst 1, 1) := by decide +kernel
theorem dX12_sixTimes_9 : decode cX12_sixTimes 9 = .ok (.aload_n 0, 1) := by decide +kernel
theorem dX12_sixTimes_10 : decode cX12_sixTimes 10 = .ok (.bipush 9, 2) := by decide +kernel
theorem dX12_sixTimes_12 : decode cX12_sixTimes 12 = .ok (.invokevirtual 252, 3) := by decide +kernel
theorem dX12_sixTimes_15 : decode cX12_sixTimes 15 = .ok (.iadd, 1) := by decide +kernel
theorem dX12_sixTimes_16 : decode cX12_sixTimes 16 = .ok (.istore_n 2, 1) := by decide +kernel
theorem dX12_sixTimes_17 : decode cX12_sixTimes 17 = .ok (.aload_n 0, 1) := by decide +kernel
theorem dX12_sixTimes_18 : decode cX12_sixTimes 18 = .ok (.iconst 4, 1) := by decide +kernel
theorem dX12_sixTimes_19 : decode cX12_sixTimes 19 = .ok (.invokevirtual 252, 3) := by decide +kernel
theorem dX12_sixTimes_22 : decode cX12_sixTimes 22 = .ok (.istore_n 3, 1) := by decide +kernel
theorem dX12_sixTimes_23 : decode cX12_sixTimes 23 = .ok (.aload_n 0, 1) := by decide +kernel
theorem dX12_sixTimes_24 : decode cX12_sixTimes 24 = .ok (.aload_n 0, 1) := by decide +kernel
theorem dX12_sixTimes_25 : decode cX12_sixTimes 25 = .ok (.getfield 51, 3) := by decide +kernel
theorem dX12_sixTimes_28 : decode cX12_sixTimes 28 = .ok (.invokevirtual 252, 3) := by decide +kernel
theorem dX12_sixTimes_31 : decode cX12_sixTimes 31 = .ok (.istore 4, 2) := by decide +kernel
theorem dX12_sixTimes_33 : decode cX12_sixTimes 33 = .ok (.aload_n 0, 1) := by decide +kernel
theorem dX12_sixTimes_34 : decode cX12_sixTimes 34 = .ok (.getfield 9, 3) := by decide +kernel
theorem dX12_sixTimes_37 : decode cX12_sixTimes 37 = .ok (.bipush 42, 2) := by decide +kernel
theorem dX12_sixTimes_39 : decode cX12_sixTimes 39 = .ok (.iload 4, 2) := by decide +kernel
theorem dX12_sixTimes_41 : decode cX12_sixTimes 41 = .ok (.iadd, 1) := by decide +kernel
theorem dX12_sixTimes_42 : decode cX12_sixTimes 42 = .ok (.iaload, 1) := by decide +kernel
theorem dX12_sixTimes_43 : decode cX12_sixTimes 43 = .ok (.iconst 4, 1) := by decide +kernel
theorem dX12_sixTimes_44 : decode cX12_sixTimes 44 = .ok (.if_icmp .ge 11, 3) := by decide +kernel
theorem dX12_sixTimes_47 : decode cX12_sixTimes 47 = .ok (.aload_n 0, 1) := by decide +kernel
theorem dX12_sixTimes_48 : decode cX12_sixTimes 48 = .ok (.iload 4, 2) := by decide +kernel
theorem dX12_sixTimes_50 : decode cX12_sixTimes 50 = .ok (.iload_n 2, 1) := by decide +kernel
theorem dX12_sixTimes_51 : decode cX12_sixTimes 51 = .ok (.iload_n 3, 1) := by decide +kernel
theorem dX12_sixTimes_52 : decode cX12_sixTimes 52 = .ok (.invokevirtual 140, 3) := by decide +kernel
theorem dX12_sixTimes_55 : decode cX12_sixTimes 55 = .ok (.aload_n 0, 1) := by decide +kernel
theorem dX12_sixTimes_56 : decode cX12_sixTimes 56 = .ok (.iconst 5, 1) := by decide +kernel
theorem dX12_sixTimes_57 : decode cX12_sixTimes 57 = .ok (.invokevirtual 191, 3) := by decide +kernel
theorem dX12_sixTimes_60 : decode cX12_sixTimes 60 = .ok (.iinc 1 1, 3) := by decide +kernel
theorem dX12_sixTimes_63 : decode cX12_sixTimes 63 = .ok (.goto (-61), 3) := by decide +kernel
theorem dX12_sixTimes_66 : decode cX12_sixTimes 66 = .ok (.return_, 1) := by decide +kernel
theorem dX12_allDone_0 : decode cX12_allDone 0 = .ok (.iconst 0, 1) := by decide +kernel
theorem dX12_allDone_1 : decode cX12_allDone 1 = .ok (.istore_n 1, 1) := by decide +kernel
theorem dX12_allDone_2 : decode cX12_allDone 2 = .ok (.iconst 0, 1) := by decide +kernel
theorem dX12_allDone_3 : decode cX12_allDone 3 = .ok (.istore_n 2, 1) := by decide +kernel
theorem dX12_allDone_4 : decode cX12_allDone 4 = .ok (.iload_n 2, 1) := by decide +kernel
theorem dX12_allDone_5 : decode cX12_allDone 5 = .ok (.aload_n 0, 1) := by decide +kernel
theorem dX12_allDone_6 : decode cX12_allDone 6 = .ok (.getfield 51, 3) := by decide +kernel
theorem dX12_allDone_9 : decode cX12_allDone 9 = .ok (.if_icmp .ge 21, 3) := by decide +kernel
theorem dX12_allDone_12 : decode cX12_allDone 12 = .ok (.iload_n 1, 1) := by decide +kernel
theorem dX12_allDone_13 : decode cX12_allDone 13 = .ok (.aload_n 0, 1) := by decide +kernel
theorem dX12_allDone_14 : decode cX12_allDone 14 = .ok (.getfield 9, 3) := by decide +kernel
theorem dX12_allDone_17 : decode cX12_allDone 17 = .ok (.bipush 54, 2) := by decide +kernel
theorem dX12_allDone_19 : decode cX12_allDone 19 = .ok (.iload_n 2, 1) := by decide +kernel
theorem dX12_allDone_20 : decode cX12_allDone 20 = .ok (.iadd, 1) := by decide +kernel
theorem dX12_allDone_21 : decode cX12_allDone 21 = .ok (.iaload, 1) := by decide +kernel
theorem dX12_allDone_22 : decode cX12_allDone 22 = .ok (.iadd, 1) := by decide +kernel
theorem dX12_allDone_23 : decode cX12_allDone 23 = .ok (.istore_n 1, 1) := by decide +kernel
theorem dX12_allDone_24 : decode cX12_allDone 24 = .ok (.iinc 2 1, 3) := by decide +kernel
theorem dX12_allDone_27 : decode cX12_allDone 27 = .ok (.goto (-23), 3) := by decide +kernel
theorem dX12_allDone_30 : decode cX12_allDone 30 = .ok (.iload_n 1, 1) := by decide +kernel
theorem dX12_allDone_31 : decode cX12_allDone 31 = .ok (.ireturn, 1) := by decide +kernel
set_option maxRecDepth 20000 in
theorem ggX12_days_X12_within : GoodIn wsX12_days wsX12_within := goodIn_r _ [7] rfl gwX12_within
set_option maxRecDepth 20000 in
theorem gX12_days_X12_within : GoodIn wsX12_days (va_wsS RX12 55 yX12_within wsX12_within) := goodIn_app (goodIn_r _ [4, 5, 6] rfl (by decide +kernel)) ggX12_days_X12_within
set_option maxRecDepth 20000 in
theorem ggX12_days_X12_keep : GoodIn wsX12_days wsX12_keep := goodIn_r _ [11, 12, 13, 14, 15, 1, 112, 113, 114, 115, 116, 117, 118, 119, 120, 121, 122, 123, 124, 125, 126, 127, 128, 129, 130, 131, 132, 133] rfl gwX12_keep
set_option maxRecDepth 20000 in
theorem gX12_days_X12_keep : GoodIn wsX12_days (wsV RX12 169 RX12 yX12_keep wsX12_keep) := goodIn_app (goodIn_r _ [8, 9, 10, 6] rfl (by decide +kernel)) ggX12_days_X12_keep
set_option maxRecDepth 20000 in
theorem ggX12_days_X12_allLate : GoodIn wsX12_days wsX12_allLate := goodIn_r _ [19, 1, 12, 112, 113, 114, 115, 116, 117, 118, 119, 120, 121, 122, 123, 124, 125, 126, 127, 128, 129, 130, 131, 132, 133] rfl gwX12_allLate
set_option maxRecDepth 20000 in
theorem gX12_days_X12_allLate : GoodIn wsX12_days (wsV RX12 185 RX12 yX12_allLate wsX12_allLate) := goodIn_app (goodIn_r _ [16, 17, 18, 6] rfl (by decide +kernel)) ggX12_days_X12_allLate
set_option maxRecDepth 20000 in
theorem gwX12_allDone : wsX12_allDone.all goodWord = true := by decide +kernel
set_option maxRecDepth 20000 in
theorem ggX12_days_X12_allDone : GoodIn wsX12_days wsX12_allDone := goodIn_r _ [23, 1, 12, 112, 113, 114, 115, 116, 117, 118, 119, 120, 121, 122, 123, 124, 125, 126, 127, 128, 129, 130, 131, 132, 133] rfl gwX12_allDone
set_option maxRecDepth 20000 in
theorem gX12_days_X12_allDone : GoodIn wsX12_days (wsV RX12 255 RX12 yX12_allDone wsX12_allDone) := goodIn_app (goodIn_r _ [20, 21, 22, 6] rfl (by decide +kernel)) ggX12_days_X12_allDone
set_option maxRecDepth 20000 in
theorem gwX12_sixTimes : wsX12_sixTimes.all goodWord = true := by decide +kernel
set_option maxRecDepth 20000 in
theorem ggX12_days_X12_sixTimes : GoodIn wsX12_days wsX12_sixTimes := goodIn_r _ [27, 1, 12, 28, 29, 30, 6, 31, 3, 32, 33, 34, 35, 36, 37, 38, 13, 14, 15, 39, 40, 41, 42, 43, 44, 45, 46, 47, 48, 49, 50, 51, 52, 53, 54, 55, 56, 57, 58, 59, 60, 61, 62, 63, 64, 65, 66, 67, 68, 69, 70, 71, 72, 73, 74, 75, 76, 77, 78, 79, 80, 81, 82, 83, 84, 85, 86, 87, 88, 89, 90, 91, 92, 93, 94, 95, 96, 97, 98, 99, 100, 101, 102, 103, 104, 105, 106, 107, 112, 113, 114, 115, 116, 117, 118, 119, 120, 121, 122, 123, 124, 125, 126, 127, 128, 129, 130, 131, 132, 133] rfl gwX12_sixTimes
set_option maxRecDepth 20000 in
theorem gX12_days_X12_sixTimes : GoodIn wsX12_days (wsV RX12 258 RX12 yX12_sixTimes wsX12_sixTimes) := goodIn_app (goodIn_r _ [24, 25, 26, 6] rfl (by decide +kernel)) ggX12_days_X12_sixTimes
set_option maxRecDepth 20000 in
theorem ggX12_days_X12_again : GoodIn wsX12_days wsX12_again := goodIn_r _ [111, 12, 13, 14, 15, 1, 112, 113, 114, 115, 116, 117, 118, 119, 120, 121, 122, 123, 124, 125, 126, 127, 128, 129, 130, 131, 132, 133] rfl gwX12_again
set_option maxRecDepth 20000 in
theorem gX12_days_X12_again : GoodIn wsX12_days (wsV RX12 176 RX12 yX12_again wsX12_again) := goodIn_app (goodIn_r _ [108, 109, 110, 6] rfl (by decide +kernel)) ggX12_days_X12_again
theorem dX12_days_0 : decode cX12_days 0 = .ok (.iload_n 1, 1) := by decide +kernel
theorem dX12_days_1 : decode cX12_days 1 = .ok (.iconst 1, 1) := by decide +kernel
theorem dX12_days_2 : decode cX12_days 2 = .ok (.bipush 20, 2) := by decide +kernel
theorem dX12_days_4 : decode cX12_days 4 = .ok (.invokestatic 55, 3) := by decide +kernel
theorem dX12_days_7 : decode cX12_days 7 = .ok (.ifCond .eq 12, 3) := by decide +kernel
theorem dX12_days_10 : decode cX12_days 10 = .ok (.iload_n 3, 1) := by decide +kernel
theorem dX12_days_11 : decode cX12_days 11 = .ok (.iconst 0, 1) := by decide +kernel
theorem dX12_days_12 : decode cX12_days 12 = .ok (.iconst 1, 1) := by decide +kernel
theorem dX12_days_13 : decode cX12_days 13 = .ok (.invokestatic 55, 3) := by decide +kernel
theorem dX12_days_16 : decode cX12_days 16 = .ok (.ifCond .ne 5, 3) := by decide +kernel
theorem dX12_days_19 : decode cX12_days 19 = .ok (.iconst (-1), 1) := by decide +kernel
theorem dX12_days_20 : decode cX12_days 20 = .ok (.ireturn, 1) := by decide +kernel
theorem dX12_days_21 : decode cX12_days 21 = .ok (.aload_n 0, 1) := by decide +kernel
theorem dX12_days_22 : decode cX12_days 22 = .ok (.getfield 51, 3) := by decide +kernel
theorem dX12_days_25 : decode cX12_days 25 = .ok (.ifCond .ne 5, 3) := by decide +kernel
theorem dX12_days_28 : decode cX12_days 28 = .ok (.iconst 0, 1) := by decide +kernel
theorem dX12_days_29 : decode cX12_days 29 = .ok (.ireturn, 1) := by decide +kernel
theorem dX12_days_30 : decode cX12_days 30 = .ok (.aload_n 0, 1) := by decide +kernel
theorem dX12_days_31 : decode cX12_days 31 = .ok (.aload_n 0, 1) := by decide +kernel
theorem dX12_days_32 : decode cX12_days 32 = .ok (.getfield 24, 3) := by decide +kernel
theorem dX12_days_35 : decode cX12_days 35 = .ok (.invokevirtual 169, 3) := by decide +kernel
theorem dX12_days_38 : decode cX12_days 38 = .ok (.aload_n 0, 1) := by decide +kernel
theorem dX12_days_39 : decode cX12_days 39 = .ok (.iload_n 2, 1) := by decide +kernel
theorem dX12_days_40 : decode cX12_days 40 = .ok (.putfield 246, 3) := by decide +kernel
theorem dX12_days_43 : decode cX12_days 43 = .ok (.iconst 0, 1) := by decide +kernel
theorem dX12_days_44 : decode cX12_days 44 = .ok (.istore 4, 2) := by decide +kernel
theorem dX12_days_46 : decode cX12_days 46 = .ok (.iconst 0, 1) := by decide +kernel
theorem dX12_days_47 : decode cX12_days 47 = .ok (.istore 5, 2) := by decide +kernel
theorem dX12_days_49 : decode cX12_days 49 = .ok (.iload 5, 2) := by decide +kernel
theorem dX12_days_51 : decode cX12_days 51 = .ok (.iload_n 1, 1) := by decide +kernel
theorem dX12_days_52 : decode cX12_days 52 = .ok (.if_icmp .ge 61, 3) := by decide +kernel
theorem dX12_days_55 : decode cX12_days 55 = .ok (.iload_n 3, 1) := by decide +kernel
theorem dX12_days_56 : decode cX12_days 56 = .ok (.ifCond .ne 10, 3) := by decide +kernel
theorem dX12_days_59 : decode cX12_days 59 = .ok (.aload_n 0, 1) := by decide +kernel
theorem dX12_days_60 : decode cX12_days 60 = .ok (.invokevirtual 185, 3) := by decide +kernel
theorem dX12_days_63 : decode cX12_days 63 = .ok (.goto 7, 3) := by decide +kernel
theorem dX12_days_66 : decode cX12_days 66 = .ok (.aload_n 0, 1) := by decide +kernel
theorem dX12_days_67 : decode cX12_days 67 = .ok (.invokevirtual 255, 3) := by decide +kernel
theorem dX12_days_70 : decode cX12_days 70 = .ok (.istore 6, 2) := by decide +kernel
theorem dX12_days_72 : decode cX12_days 72 = .ok (.aload_n 0, 1) := by decide +kernel
theorem dX12_days_73 : decode cX12_days 73 = .ok (.invokevirtual 258, 3) := by decide +kernel
theorem dX12_days_76 : decode cX12_days 76 = .ok (.iload 4, 2) := by decide +kernel
theorem dX12_days_78 : decode cX12_days 78 = .ok (.iload_n 3, 1) := by decide +kernel
theorem dX12_days_79 : decode cX12_days 79 = .ok (.ifCond .ne 10, 3) := by decide +kernel
theorem dX12_days_82 : decode cX12_days 82 = .ok (.aload_n 0, 1) := by decide +kernel
theorem dX12_days_83 : decode cX12_days 83 = .ok (.invokevirtual 185, 3) := by decide +kernel
theorem dX12_days_86 : decode cX12_days 86 = .ok (.goto 7, 3) := by decide +kernel
theorem dX12_days_89 : decode cX12_days 89 = .ok (.aload_n 0, 1) := by decide +kernel
theorem dX12_days_90 : decode cX12_days 90 = .ok (.invokevirtual 255, 3) := by decide +kernel
theorem dX12_days_93 : decode cX12_days 93 = .ok (.iload 6, 2) := by decide +kernel
theorem dX12_days_95 : decode cX12_days 95 = .ok (.isub, 1) := by decide +kernel
theorem dX12_days_96 : decode cX12_days 96 = .ok (.iadd, 1) := by decide +kernel
theorem dX12_days_97 : decode cX12_days 97 = .ok (.istore 4, 2) := by decide +kernel
theorem dX12_days_99 : decode cX12_days 99 = .ok (.aload_n 0, 1) := by decide +kernel
theorem dX12_days_100 : decode cX12_days 100 = .ok (.aload_n 0, 1) := by decide +kernel
theorem dX12_days_101 : decode cX12_days 101 = .ok (.getfield 24, 3) := by decide +kernel
theorem dX12_days_104 : decode cX12_days 104 = .ok (.invokevirtual 176, 3) := by decide +kernel
theorem dX12_days_107 : decode cX12_days 107 = .ok (.iinc 5 1, 3) := by decide +kernel
theorem dX12_days_110 : decode cX12_days 110 = .ok (.goto (-61), 3) := by decide +kernel
theorem dX12_days_113 : decode cX12_days 113 = .ok (.iload 4, 2) := by decide +kernel
theorem dX12_days_115 : decode cX12_days 115 = .ok (.ireturn, 1) := by decide +kernel
theorem dX12_keep_0 : decode cX12_keep 0 = .ok (.iconst 0, 1) := by decide +kernel
theorem dX12_keep_1 : decode cX12_keep 1 = .ok (.istore_n 2, 1) := by decide +kernel
theorem dX12_keep_2 : decode cX12_keep 2 = .ok (.iload_n 2, 1) := by decide +kernel
theorem dX12_keep_3 : decode cX12_keep 3 = .ok (.bipush 72, 2) := by decide +kernel
theorem dX12_keep_5 : decode cX12_keep 5 = .ok (.if_icmp .ge 18, 3) := by decide +kernel
theorem dX12_keep_8 : decode cX12_keep 8 = .ok (.aload_n 1, 1) := by decide +kernel
theorem dX12_keep_9 : decode cX12_keep 9 = .ok (.iload_n 2, 1) := by decide +kernel
theorem dX12_keep_10 : decode cX12_keep 10 = .ok (.aload_n 0, 1) := by decide +kernel
theorem dX12_keep_11 : decode cX12_keep 11 = .ok (.getfield 9, 3) := by decide +kernel
theorem dX12_keep_14 : decode cX12_keep 14 = .ok (.iload_n 2, 1) := by decide +kernel
theorem dX12_keep_15 : decode cX12_keep 15 = .ok (.iaload, 1) := by decide +kernel
theorem dX12_keep_16 : decode cX12_keep 16 = .ok (.iastore, 1) := by decide +kernel
theorem dX12_keep_17 : decode cX12_keep 17 = .ok (.iinc 2 1, 3) := by decide +kernel
theorem dX12_keep_20 : decode cX12_keep 20 = .ok (.goto (-18), 3) := by decide +kernel
theorem dX12_keep_23 : decode cX12_keep 23 = .ok (.iconst 0, 1) := by decide +kernel
theorem dX12_keep_24 : decode cX12_keep 24 = .ok (.istore_n 2, 1) := by decide +kernel
theorem dX12_keep_25 : decode cX12_keep 25 = .ok (.iload_n 2, 1) := by decide +kernel
theorem dX12_keep_26 : decode cX12_keep 26 = .ok (.bipush 24, 2) := by decide +kernel
theorem dX12_keep_28 : decode cX12_keep 28 = .ok (.if_icmp .ge 33, 3) := by decide +kernel
theorem dX12_keep_31 : decode cX12_keep 31 = .ok (.aload_n 1, 1) := by decide +kernel
theorem dX12_keep_32 : decode cX12_keep 32 = .ok (.bipush 72, 2) := by decide +kernel
theorem dX12_keep_34 : decode cX12_keep 34 = .ok (.iload_n 2, 1) := by decide +kernel
theorem dX12_keep_35 : decode cX12_keep 35 = .ok (.iadd, 1) := by decide +kernel
theorem dX12_keep_36 : decode cX12_keep 36 = .ok (.aload_n 0, 1) := by decide +kernel
theorem dX12_keep_37 : decode cX12_keep 37 = .ok (.getfield 15, 3) := by decide +kernel
theorem dX12_keep_40 : decode cX12_keep 40 = .ok (.iload_n 2, 1) := by decide +kernel
theorem dX12_keep_41 : decode cX12_keep 41 = .ok (.iaload, 1) := by decide +kernel
theorem dX12_keep_42 : decode cX12_keep 42 = .ok (.iastore, 1) := by decide +kernel
theorem dX12_keep_43 : decode cX12_keep 43 = .ok (.aload_n 1, 1) := by decide +kernel
theorem dX12_keep_44 : decode cX12_keep 44 = .ok (.bipush 96, 2) := by decide +kernel
theorem dX12_keep_46 : decode cX12_keep 46 = .ok (.iload_n 2, 1) := by decide +kernel
theorem dX12_keep_47 : decode cX12_keep 47 = .ok (.iadd, 1) := by decide +kernel
theorem dX12_keep_48 : decode cX12_keep 48 = .ok (.aload_n 0, 1) := by decide +kernel
theorem dX12_keep_49 : decode cX12_keep 49 = .ok (.getfield 18, 3) := by decide +kernel
theorem dX12_keep_52 : decode cX12_keep 52 = .ok (.iload_n 2, 1) := by decide +kernel
theorem dX12_keep_53 : decode cX12_keep 53 = .ok (.iaload, 1) := by decide +kernel
theorem dX12_keep_54 : decode cX12_keep 54 = .ok (.iastore, 1) := by decide +kernel
theorem dX12_keep_55 : decode cX12_keep 55 = .ok (.iinc 2 1, 3) := by decide +kernel
theorem dX12_keep_58 : decode cX12_keep 58 = .ok (.goto (-33), 3) := by decide +kernel
theorem dX12_keep_61 : decode cX12_keep 61 = .ok (.aload_n 1, 1) := by decide +kernel
theorem dX12_keep_62 : decode cX12_keep 62 = .ok (.bipush 120, 2) := by decide +kernel
theorem dX12_keep_64 : decode cX12_keep 64 = .ok (.aload_n 0, 1) := by decide +kernel
theorem dX12_keep_65 : decode cX12_keep 65 = .ok (.getfield 86, 3) := by decide +kernel
theorem dX12_keep_68 : decode cX12_keep 68 = .ok (.iastore, 1) := by decide +kernel
theorem dX12_keep_69 : decode cX12_keep 69 = .ok (.aload_n 1, 1) := by decide +kernel
theorem dX12_keep_70 : decode cX12_keep 70 = .ok (.bipush 121, 2) := by decide +kernel
theorem dX12_keep_72 : decode cX12_keep 72 = .ok (.aload_n 0, 1) := by decide +kernel
theorem dX12_keep_73 : decode cX12_keep 73 = .ok (.getfield 51, 3) := by decide +kernel
theorem dX12_keep_76 : decode cX12_keep 76 = .ok (.iastore, 1) := by decide +kernel
theorem dX12_keep_77 : decode cX12_keep 77 = .ok (.return_, 1) := by decide +kernel
theorem dX12_again_0 : decode cX12_again 0 = .ok (.iconst 0, 1) := by decide +kernel
theorem dX12_again_1 : decode cX12_again 1 = .ok (.istore_n 2, 1) := by decide +kernel
theorem dX12_again_2 : decode cX12_again 2 = .ok (.iload_n 2, 1) := by decide +kernel
theorem dX12_again_3 : decode cX12_again 3 = .ok (.bipush 72, 2) := by decide +kernel
theorem dX12_again_5 : decode cX12_again 5 = .ok (.if_icmp .ge 18, 3) := by decide +kernel
theorem dX12_again_8 : decode cX12_again 8 = .ok (.aload_n 0, 1) := by decide +kernel
theorem dX12_again_9 : decode cX12_again 9 = .ok (.getfield 9, 3) := by decide +kernel
theorem dX12_again_12 : decode cX12_again 12 = .ok (.iload_n 2, 1) := by decide +kernel
theorem dX12_again_13 : decode cX12_again 13 = .ok (.aload_n 1, 1) := by decide +kernel
theorem dX12_again_14 : decode cX12_again 14 = .ok (.iload_n 2, 1) := by decide +kernel
theorem dX12_again_15 : decode cX12_again 15 = .ok (.iaload, 1) := by decide +kernel
theorem dX12_again_16 : decode cX12_again 16 = .ok (.iastore, 1) := by decide +kernel
theorem dX12_again_17 : decode cX12_again 17 = .ok (.iinc 2 1, 3) := by decide +kernel
theorem dX12_again_20 : decode cX12_again 20 = .ok (.goto (-18), 3) := by decide +kernel
theorem dX12_again_23 : decode cX12_again 23 = .ok (.iconst 0, 1) := by decide +kernel
theorem dX12_again_24 : decode cX12_again 24 = .ok (.istore_n 2, 1) := by decide +kernel
theorem dX12_again_25 : decode cX12_again 25 = .ok (.iload_n 2, 1) := by decide +kernel
theorem dX12_again_26 : decode cX12_again 26 = .ok (.bipush 24, 2) := by decide +kernel
theorem dX12_again_28 : decode cX12_again 28 = .ok (.if_icmp .ge 33, 3) := by decide +kernel
theorem dX12_again_31 : decode cX12_again 31 = .ok (.aload_n 0, 1) := by decide +kernel
theorem dX12_again_32 : decode cX12_again 32 = .ok (.getfield 15, 3) := by decide +kernel
theorem dX12_again_35 : decode cX12_again 35 = .ok (.iload_n 2, 1) := by decide +kernel
theorem dX12_again_36 : decode cX12_again 36 = .ok (.aload_n 1, 1) := by decide +kernel
theorem dX12_again_37 : decode cX12_again 37 = .ok (.bipush 72, 2) := by decide +kernel
theorem dX12_again_39 : decode cX12_again 39 = .ok (.iload_n 2, 1) := by decide +kernel
theorem dX12_again_40 : decode cX12_again 40 = .ok (.iadd, 1) := by decide +kernel
theorem dX12_again_41 : decode cX12_again 41 = .ok (.iaload, 1) := by decide +kernel
theorem dX12_again_42 : decode cX12_again 42 = .ok (.iastore, 1) := by decide +kernel
theorem dX12_again_43 : decode cX12_again 43 = .ok (.aload_n 0, 1) := by decide +kernel
theorem dX12_again_44 : decode cX12_again 44 = .ok (.getfield 18, 3) := by decide +kernel
theorem dX12_again_47 : decode cX12_again 47 = .ok (.iload_n 2, 1) := by decide +kernel
theorem dX12_again_48 : decode cX12_again 48 = .ok (.aload_n 1, 1) := by decide +kernel
theorem dX12_again_49 : decode cX12_again 49 = .ok (.bipush 96, 2) := by decide +kernel
theorem dX12_again_51 : decode cX12_again 51 = .ok (.iload_n 2, 1) := by decide +kernel
theorem dX12_again_52 : decode cX12_again 52 = .ok (.iadd, 1) := by decide +kernel
theorem dX12_again_53 : decode cX12_again 53 = .ok (.iaload, 1) := by decide +kernel
theorem dX12_again_54 : decode cX12_again 54 = .ok (.iastore, 1) := by decide +kernel
theorem dX12_again_55 : decode cX12_again 55 = .ok (.iinc 2 1, 3) := by decide +kernel
theorem dX12_again_58 : decode cX12_again 58 = .ok (.goto (-33), 3) := by decide +kernel
theorem dX12_again_61 : decode cX12_again 61 = .ok (.aload_n 0, 1) := by decide +kernel
theorem dX12_again_62 : decode cX12_again 62 = .ok (.aload_n 1, 1) := by decide +kernel
theorem dX12_again_63 : decode cX12_again 63 = .ok (.bipush 120, 2) := by decide +kernel
theorem dX12_again_65 : decode cX12_again 65 = .ok (.iaload, 1) := by decide +kernel
theorem dX12_again_66 : decode cX12_again 66 = .ok (.putfield 86, 3) := by decide +kernel
theorem dX12_again_69 : decode cX12_again 69 = .ok (.aload_n 0, 1) := by decide +kernel
theorem dX12_again_70 : decode cX12_again 70 = .ok (.aload_n 1, 1) := by decide +kernel
theorem dX12_again_71 : decode cX12_again 71 = .ok (.bipush 121, 2) := by decide +kernel
theorem dX12_again_73 : decode cX12_again 73 = .ok (.iaload, 1) := by decide +kernel
theorem dX12_again_74 : decode cX12_again 74 = .ok (.putfield 51, 3) := by decide +kernel
theorem dX12_again_77 : decode cX12_again 77 = .ok (.return_, 1) := by decide +kernel
set_option maxRecDepth 20000 in
theorem ggX12_image_X12_keep : GoodIn wsX12_image wsX12_keep := goodIn_r _ [8, 9, 10, 11, 3, 12, 13, 14, 15, 16, 17, 18, 19, 20, 21, 22, 23, 24, 25, 26, 27, 28, 29, 30, 31, 32, 33, 34] rfl gwX12_keep
set_option maxRecDepth 20000 in
theorem gX12_image_X12_keep : GoodIn wsX12_image (wsV RX12 169 RX12 yX12_keep wsX12_keep) := goodIn_app (goodIn_r _ [4, 5, 6, 7] rfl (by decide +kernel)) ggX12_image_X12_keep
theorem dX12_image_0 : decode cX12_image 0 = .ok (.aload_n 0, 1) := by decide +kernel
theorem dX12_image_1 : decode cX12_image 1 = .ok (.iconst 1, 1) := by decide +kernel
theorem dX12_image_2 : decode cX12_image 2 = .ok (.putfield 261, 3) := by decide +kernel
theorem dX12_image_5 : decode cX12_image 5 = .ok (.aload_n 0, 1) := by decide +kernel
theorem dX12_image_6 : decode cX12_image 6 = .ok (.aload_n 0, 1) := by decide +kernel
theorem dX12_image_7 : decode cX12_image 7 = .ok (.getfield 27, 3) := by decide +kernel
theorem dX12_image_10 : decode cX12_image 10 = .ok (.invokevirtual 169, 3) := by decide +kernel
theorem dX12_image_13 : decode cX12_image 13 = .ok (.aload_n 0, 1) := by decide +kernel
theorem dX12_image_14 : decode cX12_image 14 = .ok (.getfield 86, 3) := by decide +kernel
theorem dX12_image_17 : decode cX12_image 17 = .ok (.ireturn, 1) := by decide +kernel
set_option maxRecDepth 20000 in
theorem ggX12_restore_X12_again : GoodIn wsX12_restore wsX12_again := goodIn_r _ [8, 9, 10, 11, 3, 12, 13, 14, 15, 16, 17, 18, 19, 20, 21, 22, 23, 24, 25, 26, 27, 28, 29, 30, 31, 32, 33, 34] rfl gwX12_again
set_option maxRecDepth 20000 in
theorem gX12_restore_X12_again : GoodIn wsX12_restore (wsV RX12 176 RX12 yX12_again wsX12_again) := goodIn_app (goodIn_r _ [4, 5, 6, 7] rfl (by decide +kernel)) ggX12_restore_X12_again
theorem dX12_restore_0 : decode cX12_restore 0 = .ok (.aload_n 0, 1) := by decide +kernel
theorem dX12_restore_1 : decode cX12_restore 1 = .ok (.getfield 261, 3) := by decide +kernel
theorem dX12_restore_4 : decode cX12_restore 4 = .ok (.ifCond .ne 6, 3) := by decide +kernel
theorem dX12_restore_7 : decode cX12_restore 7 = .ok (.bipush (-3), 2) := by decide +kernel
theorem dX12_restore_9 : decode cX12_restore 9 = .ok (.ireturn, 1) := by decide +kernel
theorem dX12_restore_10 : decode cX12_restore 10 = .ok (.aload_n 0, 1) := by decide +kernel
theorem dX12_restore_11 : decode cX12_restore 11 = .ok (.aload_n 0, 1) := by decide +kernel
theorem dX12_restore_12 : decode cX12_restore 12 = .ok (.getfield 27, 3) := by decide +kernel
theorem dX12_restore_15 : decode cX12_restore 15 = .ok (.invokevirtual 176, 3) := by decide +kernel
theorem dX12_restore_18 : decode cX12_restore 18 = .ok (.aload_n 0, 1) := by decide +kernel
theorem dX12_restore_19 : decode cX12_restore 19 = .ok (.getfield 86, 3) := by decide +kernel
theorem dX12_restore_22 : decode cX12_restore 22 = .ok (.ireturn, 1) := by decide +kernel
set_option maxRecDepth 20000 in
theorem ggX12_count_X12_load : GoodIn wsX12_count wsX12_load := goodIn_r _ [8, 1, 3, 9, 10, 11, 7, 12, 26, 27, 28, 29, 30, 31, 32, 33, 34, 35, 36, 37, 38, 39, 40, 41, 42, 43, 44, 45, 46, 47] rfl gwX12_load
set_option maxRecDepth 20000 in
theorem gX12_count_X12_load : GoodIn wsX12_count (wsV RX12 66 RX12 yX12_load wsX12_load) := goodIn_app (goodIn_r _ [4, 5, 6, 7] rfl (by decide +kernel)) ggX12_count_X12_load
set_option maxRecDepth 20000 in
theorem gwX12_allJobs : wsX12_allJobs.all goodWord = true := by decide +kernel
set_option maxRecDepth 20000 in
theorem ggX12_count_X12_allJobs : GoodIn wsX12_count wsX12_allJobs := goodIn_r _ [16, 1, 3, 26, 27, 28, 29, 30, 31, 32, 33, 34, 35, 36, 37, 38, 39, 40, 41, 42, 43, 44, 45, 46, 47] rfl gwX12_allJobs
set_option maxRecDepth 20000 in
theorem gX12_count_X12_allJobs : GoodIn wsX12_count (wsV RX12 265 RX12 yX12_allJobs wsX12_allJobs) := goodIn_app (goodIn_r _ [13, 14, 15, 7] rfl (by decide +kernel)) ggX12_count_X12_allJobs
set_option maxRecDepth 20000 in
theorem ggX12_count_X12_allLate : GoodIn wsX12_count wsX12_allLate := goodIn_r _ [20, 1, 3, 26, 27, 28, 29, 30, 31, 32, 33, 34, 35, 36, 37, 38, 39, 40, 41, 42, 43, 44, 45, 46, 47] rfl gwX12_allLate
set_option maxRecDepth 20000 in
theorem gX12_count_X12_allLate : GoodIn wsX12_count (wsV RX12 185 RX12 yX12_allLate wsX12_allLate) := goodIn_app (goodIn_r _ [17, 18, 19, 7] rfl (by decide +kernel)) ggX12_count_X12_allLate
set_option maxRecDepth 20000 in
theorem ggX12_count_X12_holder : GoodIn wsX12_count wsX12_holder := goodIn_r _ [24, 1, 3, 25, 26, 27, 28, 29, 30, 31, 32, 33, 34, 35, 36, 37, 38, 39, 40, 41, 42, 43, 44, 45, 46, 47] rfl gwX12_holder
set_option maxRecDepth 20000 in
theorem gX12_count_X12_holder : GoodIn wsX12_count (wsV RX12 107 RX12 yX12_holder wsX12_holder) := goodIn_app (goodIn_r _ [21, 22, 23, 7] rfl (by decide +kernel)) ggX12_count_X12_holder
theorem dX12_count_0 : decode cX12_count 0 = .ok (.iconst 0, 1) := by decide +kernel
theorem dX12_count_1 : decode cX12_count 1 = .ok (.istore_n 2, 1) := by decide +kernel
theorem dX12_count_2 : decode cX12_count 2 = .ok (.iload_n 1, 1) := by decide +kernel
theorem dX12_count_3 : decode cX12_count 3 = .ok (.tableswitch 120 0 8 #[49, 54, 59, 64, 101, 106, 111, 111, 111], 49) := by decide +kernel
theorem dX12_count_52 : decode cX12_count 52 = .ok (.aload_n 0, 1) := by decide +kernel
theorem dX12_count_53 : decode cX12_count 53 = .ok (.getfield 51, 3) := by decide +kernel
theorem dX12_count_56 : decode cX12_count 56 = .ok (.ireturn, 1) := by decide +kernel
theorem dX12_count_57 : decode cX12_count 57 = .ok (.aload_n 0, 1) := by decide +kernel
theorem dX12_count_58 : decode cX12_count 58 = .ok (.getfield 86, 3) := by decide +kernel
theorem dX12_count_61 : decode cX12_count 61 = .ok (.ireturn, 1) := by decide +kernel
theorem dX12_count_62 : decode cX12_count 62 = .ok (.aload_n 0, 1) := by decide +kernel
theorem dX12_count_63 : decode cX12_count 63 = .ok (.invokevirtual 66, 3) := by decide +kernel
theorem dX12_count_66 : decode cX12_count 66 = .ok (.ireturn, 1) := by decide +kernel
theorem dX12_count_67 : decode cX12_count 67 = .ok (.iconst 0, 1) := by decide +kernel
theorem dX12_count_68 : decode cX12_count 68 = .ok (.istore_n 3, 1) := by decide +kernel
theorem dX12_count_69 : decode cX12_count 69 = .ok (.iload_n 3, 1) := by decide +kernel
theorem dX12_count_70 : decode cX12_count 70 = .ok (.aload_n 0, 1) := by decide +kernel
theorem dX12_count_71 : decode cX12_count 71 = .ok (.getfield 51, 3) := by decide +kernel
theorem dX12_count_74 : decode cX12_count 74 = .ok (.if_icmp .ge 28, 3) := by decide +kernel
theorem dX12_count_77 : decode cX12_count 77 = .ok (.aload_n 0, 1) := by decide +kernel
theorem dX12_count_78 : decode cX12_count 78 = .ok (.getfield 9, 3) := by decide +kernel
theorem dX12_count_81 : decode cX12_count 81 = .ok (.bipush 36, 2) := by decide +kernel
theorem dX12_count_83 : decode cX12_count 83 = .ok (.iload_n 3, 1) := by decide +kernel
theorem dX12_count_84 : decode cX12_count 84 = .ok (.iadd, 1) := by decide +kernel
theorem dX12_count_85 : decode cX12_count 85 = .ok (.iaload, 1) := by decide +kernel
theorem dX12_count_86 : decode cX12_count 86 = .ok (.iconst 1, 1) := by decide +kernel
theorem dX12_count_87 : decode cX12_count 87 = .ok (.if_icmp .ne 9, 3) := by decide +kernel
theorem dX12_count_90 : decode cX12_count 90 = .ok (.iload_n 2, 1) := by decide +kernel
theorem dX12_count_91 : decode cX12_count 91 = .ok (.iconst 1, 1) := by decide +kernel
theorem dX12_count_92 : decode cX12_count 92 = .ok (.iload_n 3, 1) := by decide +kernel
theorem dX12_count_93 : decode cX12_count 93 = .ok (.ishl, 1) := by decide +kernel
theorem dX12_count_94 : decode cX12_count 94 = .ok (.ior, 1) := by decide +kernel
theorem dX12_count_95 : decode cX12_count 95 = .ok (.istore_n 2, 1) := by decide +kernel
theorem dX12_count_96 : decode cX12_count 96 = .ok (.iinc 3 1, 3) := by decide +kernel
theorem dX12_count_99 : decode cX12_count 99 = .ok (.goto (-30), 3) := by decide +kernel
theorem dX12_count_102 : decode cX12_count 102 = .ok (.iload_n 2, 1) := by decide +kernel
theorem dX12_count_103 : decode cX12_count 103 = .ok (.ireturn, 1) := by decide +kernel
theorem dX12_count_104 : decode cX12_count 104 = .ok (.aload_n 0, 1) := by decide +kernel
theorem dX12_count_105 : decode cX12_count 105 = .ok (.invokevirtual 265, 3) := by decide +kernel
theorem dX12_count_108 : decode cX12_count 108 = .ok (.ireturn, 1) := by decide +kernel
theorem dX12_count_109 : decode cX12_count 109 = .ok (.aload_n 0, 1) := by decide +kernel
theorem dX12_count_110 : decode cX12_count 110 = .ok (.invokevirtual 185, 3) := by decide +kernel
theorem dX12_count_113 : decode cX12_count 113 = .ok (.ireturn, 1) := by decide +kernel
theorem dX12_count_114 : decode cX12_count 114 = .ok (.aload_n 0, 1) := by decide +kernel
theorem dX12_count_115 : decode cX12_count 115 = .ok (.iload_n 1, 1) := by decide +kernel
theorem dX12_count_116 : decode cX12_count 116 = .ok (.bipush 6, 2) := by decide +kernel
theorem dX12_count_118 : decode cX12_count 118 = .ok (.isub, 1) := by decide +kernel
theorem dX12_count_119 : decode cX12_count 119 = .ok (.invokevirtual 107, 3) := by decide +kernel
theorem dX12_count_122 : decode cX12_count 122 = .ok (.ireturn, 1) := by decide +kernel
theorem dX12_count_123 : decode cX12_count 123 = .ok (.iconst (-1), 1) := by decide +kernel
theorem dX12_count_124 : decode cX12_count 124 = .ok (.ireturn, 1) := by decide +kernel
set_option maxRecDepth 20000 in
theorem ggX12_isTray_X12_within : GoodIn wsX12_isTray wsX12_within := goodIn_r _ [4] rfl gwX12_within
set_option maxRecDepth 20000 in
theorem gX12_isTray_X12_within : GoodIn wsX12_isTray (va_wsS RX12 55 yX12_within wsX12_within) := goodIn_app (goodIn_r _ [1, 2, 3] rfl (by decide +kernel)) ggX12_isTray_X12_within
theorem dX12_isTray_0 : decode cX12_isTray 0 = .ok (.iload_n 0, 1) := by decide +kernel
theorem dX12_isTray_1 : decode cX12_isTray 1 = .ok (.iconst 0, 1) := by decide +kernel
theorem dX12_isTray_2 : decode cX12_isTray 2 = .ok (.iconst 3, 1) := by decide +kernel
theorem dX12_isTray_3 : decode cX12_isTray 3 = .ok (.invokestatic 55, 3) := by decide +kernel
theorem dX12_isTray_6 : decode cX12_isTray 6 = .ok (.ireturn, 1) := by decide +kernel
theorem dX12_isUnder_0 : decode cX12_isUnder 0 = .ok (.iload_n 1, 1) := by decide +kernel
theorem dX12_isUnder_1 : decode cX12_isUnder 1 = .ok (.ifCond .eq 33, 3) := by decide +kernel
theorem dX12_isUnder_4 : decode cX12_isUnder 4 = .ok (.iload_n 0, 1) := by decide +kernel
theorem dX12_isUnder_5 : decode cX12_isUnder 5 = .ok (.iload_n 1, 1) := by decide +kernel
theorem dX12_isUnder_6 : decode cX12_isUnder 6 = .ok (.if_icmp .eq 28, 3) := by decide +kernel
theorem dX12_isUnder_9 : decode cX12_isUnder 9 = .ok (.iload_n 1, 1) := by decide +kernel
theorem dX12_isUnder_10 : decode cX12_isUnder 10 = .ok (.iconst 1, 1) := by decide +kernel
theorem dX12_isUnder_11 : decode cX12_isUnder 11 = .ok (.if_icmp .ne 13, 3) := by decide +kernel
theorem dX12_isUnder_14 : decode cX12_isUnder 14 = .ok (.iload_n 0, 1) := by decide +kernel
theorem dX12_isUnder_15 : decode cX12_isUnder 15 = .ok (.iconst 3, 1) := by decide +kernel
theorem dX12_isUnder_16 : decode cX12_isUnder 16 = .ok (.if_icmp .eq 18, 3) := by decide +kernel
theorem dX12_isUnder_19 : decode cX12_isUnder 19 = .ok (.iload_n 0, 1) := by decide +kernel
theorem dX12_isUnder_20 : decode cX12_isUnder 20 = .ok (.iconst 4, 1) := by decide +kernel
theorem dX12_isUnder_21 : decode cX12_isUnder 21 = .ok (.if_icmp .eq 13, 3) := by decide +kernel
theorem dX12_isUnder_24 : decode cX12_isUnder 24 = .ok (.iload_n 1, 1) := by decide +kernel
theorem dX12_isUnder_25 : decode cX12_isUnder 25 = .ok (.iconst 2, 1) := by decide +kernel
theorem dX12_isUnder_26 : decode cX12_isUnder 26 = .ok (.if_icmp .ne 12, 3) := by decide +kernel
theorem dX12_isUnder_29 : decode cX12_isUnder 29 = .ok (.iload_n 0, 1) := by decide +kernel
theorem dX12_isUnder_30 : decode cX12_isUnder 30 = .ok (.iconst 5, 1) := by decide +kernel
theorem dX12_isUnder_31 : decode cX12_isUnder 31 = .ok (.if_icmp .ne 7, 3) := by decide +kernel
theorem dX12_isUnder_34 : decode cX12_isUnder 34 = .ok (.iconst 1, 1) := by decide +kernel
theorem dX12_isUnder_35 : decode cX12_isUnder 35 = .ok (.goto 4, 3) := by decide +kernel
theorem dX12_isUnder_38 : decode cX12_isUnder 38 = .ok (.iconst 0, 1) := by decide +kernel
theorem dX12_isUnder_39 : decode cX12_isUnder 39 = .ok (.ireturn, 1) := by decide +kernel
set_option maxRecDepth 20000 in
theorem gwX12_isTray : wsX12_isTray.all goodWord = true := by decide +kernel
set_option maxRecDepth 20000 in
theorem ggX12_tray_X12_isTray : GoodIn wsX12_tray wsX12_isTray := goodIn_r _ [7, 8, 9, 6, 10] rfl gwX12_isTray
set_option maxRecDepth 20000 in
theorem gX12_tray_X12_isTray : GoodIn wsX12_tray (va_wsS RX12 268 yX12_isTray wsX12_isTray) := goodIn_app (goodIn_r _ [4, 5, 6] rfl (by decide +kernel)) ggX12_tray_X12_isTray
set_option maxRecDepth 20000 in
theorem ggX12_tray_X12_within : GoodIn wsX12_tray wsX12_within := goodIn_r _ [10] rfl gwX12_within
set_option maxRecDepth 20000 in
theorem gX12_tray_X12_within : GoodIn wsX12_tray (va_wsS RX12 55 yX12_within wsX12_within) := goodIn_app (goodIn_r _ [8, 9, 6] rfl (by decide +kernel)) ggX12_tray_X12_within
theorem dX12_tray_0 : decode cX12_tray 0 = .ok (.iload_n 1, 1) := by decide +kernel
theorem dX12_tray_1 : decode cX12_tray 1 = .ok (.invokestatic 268, 3) := by decide +kernel
theorem dX12_tray_4 : decode cX12_tray 4 = .ok (.ifCond .eq 18, 3) := by decide +kernel
theorem dX12_tray_7 : decode cX12_tray 7 = .ok (.iload_n 2, 1) := by decide +kernel
theorem dX12_tray_8 : decode cX12_tray 8 = .ok (.iconst 0, 1) := by decide +kernel
theorem dX12_tray_9 : decode cX12_tray 9 = .ok (.iconst 5, 1) := by decide +kernel
theorem dX12_tray_10 : decode cX12_tray 10 = .ok (.invokestatic 55, 3) := by decide +kernel
theorem dX12_tray_13 : decode cX12_tray 13 = .ok (.ifCond .eq 9, 3) := by decide +kernel
theorem dX12_tray_16 : decode cX12_tray 16 = .ok (.iload_n 3, 1) := by decide +kernel
theorem dX12_tray_17 : decode cX12_tray 17 = .ok (.bipush 20, 2) := by decide +kernel
theorem dX12_tray_19 : decode cX12_tray 19 = .ok (.if_icmp .le 5, 3) := by decide +kernel
theorem dX12_tray_22 : decode cX12_tray 22 = .ok (.iconst (-1), 1) := by decide +kernel
theorem dX12_tray_23 : decode cX12_tray 23 = .ok (.ireturn, 1) := by decide +kernel
theorem dX12_tray_24 : decode cX12_tray 24 = .ok (.iload_n 3, 1) := by decide +kernel
theorem dX12_tray_25 : decode cX12_tray 25 = .ok (.ifCond .ge 6, 3) := by decide +kernel
theorem dX12_tray_28 : decode cX12_tray 28 = .ok (.bipush (-14), 2) := by decide +kernel
theorem dX12_tray_30 : decode cX12_tray 30 = .ok (.ireturn, 1) := by decide +kernel
theorem dX12_tray_31 : decode cX12_tray 31 = .ok (.aload_n 0, 1) := by decide +kernel
theorem dX12_tray_32 : decode cX12_tray 32 = .ok (.getfield 42, 3) := by decide +kernel
theorem dX12_tray_35 : decode cX12_tray 35 = .ok (.iload_n 1, 1) := by decide +kernel
theorem dX12_tray_36 : decode cX12_tray 36 = .ok (.iload_n 2, 1) := by decide +kernel
theorem dX12_tray_37 : decode cX12_tray 37 = .ok (.iastore, 1) := by decide +kernel
theorem dX12_tray_38 : decode cX12_tray 38 = .ok (.aload_n 0, 1) := by decide +kernel
theorem dX12_tray_39 : decode cX12_tray 39 = .ok (.getfield 45, 3) := by decide +kernel
theorem dX12_tray_42 : decode cX12_tray 42 = .ok (.iload_n 1, 1) := by decide +kernel
theorem dX12_tray_43 : decode cX12_tray 43 = .ok (.iload_n 3, 1) := by decide +kernel
theorem dX12_tray_44 : decode cX12_tray 44 = .ok (.iastore, 1) := by decide +kernel
theorem dX12_tray_45 : decode cX12_tray 45 = .ok (.iconst 0, 1) := by decide +kernel
theorem dX12_tray_46 : decode cX12_tray 46 = .ok (.istore 4, 2) := by decide +kernel
theorem dX12_tray_48 : decode cX12_tray 48 = .ok (.iload 4, 2) := by decide +kernel
theorem dX12_tray_50 : decode cX12_tray 50 = .ok (.bipush 20, 2) := by decide +kernel
theorem dX12_tray_52 : decode cX12_tray 52 = .ok (.if_icmp .ge 22, 3) := by decide +kernel
theorem dX12_tray_55 : decode cX12_tray 55 = .ok (.aload_n 0, 1) := by decide +kernel
theorem dX12_tray_56 : decode cX12_tray 56 = .ok (.getfield 48, 3) := by decide +kernel
theorem dX12_tray_59 : decode cX12_tray 59 = .ok (.bipush 20, 2) := by decide +kernel
theorem dX12_tray_61 : decode cX12_tray 61 = .ok (.iload_n 1, 1) := by decide +kernel
theorem dX12_tray_62 : decode cX12_tray 62 = .ok (.imul, 1) := by decide +kernel
theorem dX12_tray_63 : decode cX12_tray 63 = .ok (.iload 4, 2) := by decide +kernel
theorem dX12_tray_65 : decode cX12_tray 65 = .ok (.iadd, 1) := by decide +kernel
theorem dX12_tray_66 : decode cX12_tray 66 = .ok (.iconst 0, 1) := by decide +kernel
theorem dX12_tray_67 : decode cX12_tray 67 = .ok (.iastore, 1) := by decide +kernel
theorem dX12_tray_68 : decode cX12_tray 68 = .ok (.iinc 4 1, 3) := by decide +kernel
theorem dX12_tray_71 : decode cX12_tray 71 = .ok (.goto (-23), 3) := by decide +kernel
theorem dX12_tray_74 : decode cX12_tray 74 = .ok (.iconst 1, 1) := by decide +kernel
theorem dX12_tray_75 : decode cX12_tray 75 = .ok (.ireturn, 1) := by decide +kernel
set_option maxRecDepth 20000 in
theorem ggX12_lays_X12_isTray : GoodIn wsX12_lays wsX12_isTray := goodIn_r _ [9, 10, 11, 8, 12] rfl gwX12_isTray
set_option maxRecDepth 20000 in
theorem gX12_lays_X12_isTray : GoodIn wsX12_lays (va_wsS RX12 268 yX12_isTray wsX12_isTray) := goodIn_app (goodIn_r _ [6, 7, 8] rfl (by decide +kernel)) ggX12_lays_X12_isTray
set_option maxRecDepth 20000 in
theorem ggX12_lays_X12_isShelf : GoodIn wsX12_lays wsX12_isShelf := goodIn_r _ [15, 10, 11, 8, 12] rfl gwX12_isShelf
set_option maxRecDepth 20000 in
theorem gX12_lays_X12_isShelf : GoodIn wsX12_lays (va_wsS RX12 163 yX12_isShelf wsX12_isShelf) := goodIn_app (goodIn_r _ [13, 14, 8] rfl (by decide +kernel)) ggX12_lays_X12_isShelf
set_option maxRecDepth 20000 in
theorem ggX12_lays_X12_within : GoodIn wsX12_lays wsX12_within := goodIn_r _ [12] rfl gwX12_within
set_option maxRecDepth 20000 in
theorem gX12_lays_X12_within : GoodIn wsX12_lays (va_wsS RX12 55 yX12_within wsX12_within) := goodIn_app (goodIn_r _ [10, 11, 8] rfl (by decide +kernel)) ggX12_lays_X12_within
set_option maxRecDepth 20000 in
theorem gwX12_isUnder : wsX12_isUnder.all goodWord = true := by decide +kernel
set_option maxRecDepth 20000 in
theorem ggX12_lays_X12_isUnder : GoodIn wsX12_lays wsX12_isUnder := goodIn_r _ [18] rfl gwX12_isUnder
set_option maxRecDepth 20000 in
theorem gX12_lays_X12_isUnder : GoodIn wsX12_lays (va_wsS RX12 271 yX12_isUnder wsX12_isUnder) := goodIn_app (goodIn_r _ [16, 17, 8] rfl (by decide +kernel)) ggX12_lays_X12_isUnder
theorem dX12_lays_0 : decode cX12_lays 0 = .ok (.iload_n 1, 1) := by decide +kernel
theorem dX12_lays_1 : decode cX12_lays 1 = .ok (.invokestatic 268, 3) := by decide +kernel
theorem dX12_lays_4 : decode cX12_lays 4 = .ok (.ifCond .eq 10, 3) := by decide +kernel
theorem dX12_lays_7 : decode cX12_lays 7 = .ok (.iload_n 3, 1) := by decide +kernel
theorem dX12_lays_8 : decode cX12_lays 8 = .ok (.invokestatic 163, 3) := by decide +kernel
theorem dX12_lays_11 : decode cX12_lays 11 = .ok (.ifCond .ne 5, 3) := by decide +kernel
theorem dX12_lays_14 : decode cX12_lays 14 = .ok (.iconst (-1), 1) := by decide +kernel
theorem dX12_lays_15 : decode cX12_lays 15 = .ok (.ireturn, 1) := by decide +kernel
theorem dX12_lays_16 : decode cX12_lays 16 = .ok (.aload_n 0, 1) := by decide +kernel
theorem dX12_lays_17 : decode cX12_lays 17 = .ok (.getfield 30, 3) := by decide +kernel
theorem dX12_lays_20 : decode cX12_lays 20 = .ok (.iload_n 3, 1) := by decide +kernel
theorem dX12_lays_21 : decode cX12_lays 21 = .ok (.iaload, 1) := by decide +kernel
theorem dX12_lays_22 : decode cX12_lays 22 = .ok (.iconst 2, 1) := by decide +kernel
theorem dX12_lays_23 : decode cX12_lays 23 = .ok (.if_icmp .ne 6, 3) := by decide +kernel
theorem dX12_lays_26 : decode cX12_lays 26 = .ok (.bipush (-12), 2) := by decide +kernel
theorem dX12_lays_28 : decode cX12_lays 28 = .ok (.ireturn, 1) := by decide +kernel
theorem dX12_lays_29 : decode cX12_lays 29 = .ok (.aload_n 0, 1) := by decide +kernel
theorem dX12_lays_30 : decode cX12_lays 30 = .ok (.getfield 42, 3) := by decide +kernel
theorem dX12_lays_33 : decode cX12_lays 33 = .ok (.iload_n 1, 1) := by decide +kernel
theorem dX12_lays_34 : decode cX12_lays 34 = .ok (.iaload, 1) := by decide +kernel
theorem dX12_lays_35 : decode cX12_lays 35 = .ok (.bipush (-4), 2) := by decide +kernel
theorem dX12_lays_37 : decode cX12_lays 37 = .ok (.if_icmp .ne 6, 3) := by decide +kernel
theorem dX12_lays_40 : decode cX12_lays 40 = .ok (.bipush (-11), 2) := by decide +kernel
theorem dX12_lays_42 : decode cX12_lays 42 = .ok (.ireturn, 1) := by decide +kernel
theorem dX12_lays_43 : decode cX12_lays 43 = .ok (.iload_n 2, 1) := by decide +kernel
theorem dX12_lays_44 : decode cX12_lays 44 = .ok (.iconst 0, 1) := by decide +kernel
theorem dX12_lays_45 : decode cX12_lays 45 = .ok (.aload_n 0, 1) := by decide +kernel
theorem dX12_lays_46 : decode cX12_lays 46 = .ok (.getfield 45, 3) := by decide +kernel
theorem dX12_lays_49 : decode cX12_lays 49 = .ok (.iload_n 1, 1) := by decide +kernel
theorem dX12_lays_50 : decode cX12_lays 50 = .ok (.iaload, 1) := by decide +kernel
theorem dX12_lays_51 : decode cX12_lays 51 = .ok (.iconst 1, 1) := by decide +kernel
theorem dX12_lays_52 : decode cX12_lays 52 = .ok (.isub, 1) := by decide +kernel
theorem dX12_lays_53 : decode cX12_lays 53 = .ok (.invokestatic 55, 3) := by decide +kernel
theorem dX12_lays_56 : decode cX12_lays 56 = .ok (.ifCond .ne 6, 3) := by decide +kernel
theorem dX12_lays_59 : decode cX12_lays 59 = .ok (.bipush (-13), 2) := by decide +kernel
theorem dX12_lays_61 : decode cX12_lays 61 = .ok (.ireturn, 1) := by decide +kernel
theorem dX12_lays_62 : decode cX12_lays 62 = .ok (.aload_n 0, 1) := by decide +kernel
theorem dX12_lays_63 : decode cX12_lays 63 = .ok (.getfield 30, 3) := by decide +kernel
theorem dX12_lays_66 : decode cX12_lays 66 = .ok (.iload_n 3, 1) := by decide +kernel
theorem dX12_lays_67 : decode cX12_lays 67 = .ok (.iaload, 1) := by decide +kernel
theorem dX12_lays_68 : decode cX12_lays 68 = .ok (.iconst 1, 1) := by decide +kernel
theorem dX12_lays_69 : decode cX12_lays 69 = .ok (.if_icmp .ne 24, 3) := by decide +kernel
theorem dX12_lays_72 : decode cX12_lays 72 = .ok (.aload_n 0, 1) := by decide +kernel
theorem dX12_lays_73 : decode cX12_lays 73 = .ok (.getfield 33, 3) := by decide +kernel
theorem dX12_lays_76 : decode cX12_lays 76 = .ok (.iload_n 3, 1) := by decide +kernel
theorem dX12_lays_77 : decode cX12_lays 77 = .ok (.iaload, 1) := by decide +kernel
theorem dX12_lays_78 : decode cX12_lays 78 = .ok (.aload_n 0, 1) := by decide +kernel
theorem dX12_lays_79 : decode cX12_lays 79 = .ok (.getfield 42, 3) := by decide +kernel
theorem dX12_lays_82 : decode cX12_lays 82 = .ok (.iload_n 1, 1) := by decide +kernel
theorem dX12_lays_83 : decode cX12_lays 83 = .ok (.iaload, 1) := by decide +kernel
theorem dX12_lays_84 : decode cX12_lays 84 = .ok (.invokestatic 271, 3) := by decide +kernel
theorem dX12_lays_87 : decode cX12_lays 87 = .ok (.ifCond .ne 6, 3) := by decide +kernel
theorem dX12_lays_90 : decode cX12_lays 90 = .ok (.bipush (-16), 2) := by decide +kernel
theorem dX12_lays_92 : decode cX12_lays 92 = .ok (.ireturn, 1) := by decide +kernel
theorem dX12_lays_93 : decode cX12_lays 93 = .ok (.aload_n 0, 1) := by decide +kernel
theorem dX12_lays_94 : decode cX12_lays 94 = .ok (.getfield 48, 3) := by decide +kernel
theorem dX12_lays_97 : decode cX12_lays 97 = .ok (.bipush 20, 2) := by decide +kernel
theorem dX12_lays_99 : decode cX12_lays 99 = .ok (.iload_n 1, 1) := by decide +kernel
theorem dX12_lays_100 : decode cX12_lays 100 = .ok (.imul, 1) := by decide +kernel
theorem dX12_lays_101 : decode cX12_lays 101 = .ok (.iload_n 2, 1) := by decide +kernel
theorem dX12_lays_102 : decode cX12_lays 102 = .ok (.iadd, 1) := by decide +kernel
theorem dX12_lays_103 : decode cX12_lays 103 = .ok (.aload_n 0, 1) := by decide +kernel
theorem dX12_lays_104 : decode cX12_lays 104 = .ok (.getfield 30, 3) := by decide +kernel
theorem dX12_lays_107 : decode cX12_lays 107 = .ok (.iload_n 3, 1) := by decide +kernel
theorem dX12_lays_108 : decode cX12_lays 108 = .ok (.iaload, 1) := by decide +kernel
theorem dX12_lays_109 : decode cX12_lays 109 = .ok (.iconst 1, 1) := by decide +kernel
theorem dX12_lays_110 : decode cX12_lays 110 = .ok (.if_icmp .ne 14, 3) := by decide +kernel
theorem dX12_lays_113 : decode cX12_lays 113 = .ok (.aload_n 0, 1) := by decide +kernel
theorem dX12_lays_114 : decode cX12_lays 114 = .ok (.getfield 33, 3) := by decide +kernel
theorem dX12_lays_117 : decode cX12_lays 117 = .ok (.iload_n 3, 1) := by decide +kernel
theorem dX12_lays_118 : decode cX12_lays 118 = .ok (.iaload, 1) := by decide +kernel
theorem dX12_lays_119 : decode cX12_lays 119 = .ok (.iconst 1, 1) := by decide +kernel
theorem dX12_lays_120 : decode cX12_lays 120 = .ok (.iadd, 1) := by decide +kernel
theorem dX12_lays_121 : decode cX12_lays 121 = .ok (.goto 4, 3) := by decide +kernel
theorem dX12_lays_124 : decode cX12_lays 124 = .ok (.iconst 0, 1) := by decide +kernel
theorem dX12_lays_125 : decode cX12_lays 125 = .ok (.iastore, 1) := by decide +kernel
theorem dX12_lays_126 : decode cX12_lays 126 = .ok (.iconst 1, 1) := by decide +kernel
theorem dX12_lays_127 : decode cX12_lays 127 = .ok (.ireturn, 1) := by decide +kernel
set_option maxRecDepth 20000 in
theorem ggX12_laid_X12_isTray : GoodIn wsX12_laid wsX12_isTray := goodIn_r _ [7, 8, 9, 6, 10] rfl gwX12_isTray
set_option maxRecDepth 20000 in
theorem gX12_laid_X12_isTray : GoodIn wsX12_laid (va_wsS RX12 268 yX12_isTray wsX12_isTray) := goodIn_app (goodIn_r _ [4, 5, 6] rfl (by decide +kernel)) ggX12_laid_X12_isTray
set_option maxRecDepth 20000 in
theorem ggX12_laid_X12_within : GoodIn wsX12_laid wsX12_within := goodIn_r _ [10] rfl gwX12_within
set_option maxRecDepth 20000 in
theorem gX12_laid_X12_within : GoodIn wsX12_laid (va_wsS RX12 55 yX12_within wsX12_within) := goodIn_app (goodIn_r _ [8, 9, 6] rfl (by decide +kernel)) ggX12_laid_X12_within
theorem dX12_laid_0 : decode cX12_laid 0 = .ok (.iload_n 1, 1) := by decide +kernel
theorem dX12_laid_1 : decode cX12_laid 1 = .ok (.invokestatic 268, 3) := by decide +kernel
theorem dX12_laid_4 : decode cX12_laid 4 = .ok (.ifCond .ne 5, 3) := by decide +kernel
theorem dX12_laid_7 : decode cX12_laid 7 = .ok (.iconst (-1), 1) := by decide +kernel
theorem dX12_laid_8 : decode cX12_laid 8 = .ok (.ireturn, 1) := by decide +kernel
theorem dX12_laid_9 : decode cX12_laid 9 = .ok (.aload_n 0, 1) := by decide +kernel
theorem dX12_laid_10 : decode cX12_laid 10 = .ok (.getfield 42, 3) := by decide +kernel
theorem dX12_laid_13 : decode cX12_laid 13 = .ok (.iload_n 1, 1) := by decide +kernel
theorem dX12_laid_14 : decode cX12_laid 14 = .ok (.iaload, 1) := by decide +kernel
theorem dX12_laid_15 : decode cX12_laid 15 = .ok (.bipush (-4), 2) := by decide +kernel
theorem dX12_laid_17 : decode cX12_laid 17 = .ok (.if_icmp .ne 6, 3) := by decide +kernel
theorem dX12_laid_20 : decode cX12_laid 20 = .ok (.bipush (-11), 2) := by decide +kernel
theorem dX12_laid_22 : decode cX12_laid 22 = .ok (.ireturn, 1) := by decide +kernel
theorem dX12_laid_23 : decode cX12_laid 23 = .ok (.iload_n 2, 1) := by decide +kernel
theorem dX12_laid_24 : decode cX12_laid 24 = .ok (.iconst 0, 1) := by decide +kernel
theorem dX12_laid_25 : decode cX12_laid 25 = .ok (.aload_n 0, 1) := by decide +kernel
theorem dX12_laid_26 : decode cX12_laid 26 = .ok (.getfield 45, 3) := by decide +kernel
theorem dX12_laid_29 : decode cX12_laid 29 = .ok (.iload_n 1, 1) := by decide +kernel
theorem dX12_laid_30 : decode cX12_laid 30 = .ok (.iaload, 1) := by decide +kernel
theorem dX12_laid_31 : decode cX12_laid 31 = .ok (.iconst 1, 1) := by decide +kernel
theorem dX12_laid_32 : decode cX12_laid 32 = .ok (.isub, 1) := by decide +kernel
theorem dX12_laid_33 : decode cX12_laid 33 = .ok (.invokestatic 55, 3) := by decide +kernel
theorem dX12_laid_36 : decode cX12_laid 36 = .ok (.ifCond .ne 6, 3) := by decide +kernel
theorem dX12_laid_39 : decode cX12_laid 39 = .ok (.bipush (-13), 2) := by decide +kernel
theorem dX12_laid_41 : decode cX12_laid 41 = .ok (.ireturn, 1) := by decide +kernel
theorem dX12_laid_42 : decode cX12_laid 42 = .ok (.aload_n 0, 1) := by decide +kernel
theorem dX12_laid_43 : decode cX12_laid 43 = .ok (.getfield 48, 3) := by decide +kernel
theorem dX12_laid_46 : decode cX12_laid 46 = .ok (.bipush 20, 2) := by decide +kernel
theorem dX12_laid_48 : decode cX12_laid 48 = .ok (.iload_n 1, 1) := by decide +kernel
theorem dX12_laid_49 : decode cX12_laid 49 = .ok (.imul, 1) := by decide +kernel
theorem dX12_laid_50 : decode cX12_laid 50 = .ok (.iload_n 2, 1) := by decide +kernel
theorem dX12_laid_51 : decode cX12_laid 51 = .ok (.iadd, 1) := by decide +kernel
theorem dX12_laid_52 : decode cX12_laid 52 = .ok (.iaload, 1) := by decide +kernel
theorem dX12_laid_53 : decode cX12_laid 53 = .ok (.ifCond .ne 8, 3) := by decide +kernel
theorem dX12_laid_56 : decode cX12_laid 56 = .ok (.bipush (-11), 2) := by decide +kernel
theorem dX12_laid_58 : decode cX12_laid 58 = .ok (.goto 16, 3) := by decide +kernel
theorem dX12_laid_61 : decode cX12_laid 61 = .ok (.aload_n 0, 1) := by decide +kernel
theorem dX12_laid_62 : decode cX12_laid 62 = .ok (.getfield 48, 3) := by decide +kernel
theorem dX12_laid_65 : decode cX12_laid 65 = .ok (.bipush 20, 2) := by decide +kernel
theorem dX12_laid_67 : decode cX12_laid 67 = .ok (.iload_n 1, 1) := by decide +kernel
theorem dX12_laid_68 : decode cX12_laid 68 = .ok (.imul, 1) := by decide +kernel
theorem dX12_laid_69 : decode cX12_laid 69 = .ok (.iload_n 2, 1) := by decide +kernel
theorem dX12_laid_70 : decode cX12_laid 70 = .ok (.iadd, 1) := by decide +kernel
theorem dX12_laid_71 : decode cX12_laid 71 = .ok (.iaload, 1) := by decide +kernel
theorem dX12_laid_72 : decode cX12_laid 72 = .ok (.iconst 1, 1) := by decide +kernel
theorem dX12_laid_73 : decode cX12_laid 73 = .ok (.isub, 1) := by decide +kernel
theorem dX12_laid_74 : decode cX12_laid 74 = .ok (.ireturn, 1) := by decide +kernel
set_option maxRecDepth 20000 in
theorem ggX12_like_X12_isTray : GoodIn wsX12_like wsX12_isTray := goodIn_r _ [7, 8, 9, 6, 10] rfl gwX12_isTray
set_option maxRecDepth 20000 in
theorem gX12_like_X12_isTray : GoodIn wsX12_like (va_wsS RX12 268 yX12_isTray wsX12_isTray) := goodIn_app (goodIn_r _ [4, 5, 6] rfl (by decide +kernel)) ggX12_like_X12_isTray
theorem dX12_like_0 : decode cX12_like 0 = .ok (.iload_n 1, 1) := by decide +kernel
theorem dX12_like_1 : decode cX12_like 1 = .ok (.invokestatic 268, 3) := by decide +kernel
theorem dX12_like_4 : decode cX12_like 4 = .ok (.ifCond .eq 10, 3) := by decide +kernel
theorem dX12_like_7 : decode cX12_like 7 = .ok (.iload_n 2, 1) := by decide +kernel
theorem dX12_like_8 : decode cX12_like 8 = .ok (.invokestatic 268, 3) := by decide +kernel
theorem dX12_like_11 : decode cX12_like 11 = .ok (.ifCond .ne 5, 3) := by decide +kernel
theorem dX12_like_14 : decode cX12_like 14 = .ok (.iconst (-1), 1) := by decide +kernel
theorem dX12_like_15 : decode cX12_like 15 = .ok (.ireturn, 1) := by decide +kernel
theorem dX12_like_16 : decode cX12_like 16 = .ok (.aload_n 0, 1) := by decide +kernel
theorem dX12_like_17 : decode cX12_like 17 = .ok (.getfield 42, 3) := by decide +kernel
theorem dX12_like_20 : decode cX12_like 20 = .ok (.iload_n 2, 1) := by decide +kernel
theorem dX12_like_21 : decode cX12_like 21 = .ok (.iaload, 1) := by decide +kernel
theorem dX12_like_22 : decode cX12_like 22 = .ok (.bipush (-4), 2) := by decide +kernel
theorem dX12_like_24 : decode cX12_like 24 = .ok (.if_icmp .ne 6, 3) := by decide +kernel
theorem dX12_like_27 : decode cX12_like 27 = .ok (.bipush (-11), 2) := by decide +kernel
theorem dX12_like_29 : decode cX12_like 29 = .ok (.ireturn, 1) := by decide +kernel
theorem dX12_like_30 : decode cX12_like 30 = .ok (.aload_n 0, 1) := by decide +kernel
theorem dX12_like_31 : decode cX12_like 31 = .ok (.getfield 42, 3) := by decide +kernel
theorem dX12_like_34 : decode cX12_like 34 = .ok (.iload_n 1, 1) := by decide +kernel
theorem dX12_like_35 : decode cX12_like 35 = .ok (.aload_n 0, 1) := by decide +kernel
theorem dX12_like_36 : decode cX12_like 36 = .ok (.getfield 42, 3) := by decide +kernel
theorem dX12_like_39 : decode cX12_like 39 = .ok (.iload_n 2, 1) := by decide +kernel
theorem dX12_like_40 : decode cX12_like 40 = .ok (.iaload, 1) := by decide +kernel
theorem dX12_like_41 : decode cX12_like 41 = .ok (.iastore, 1) := by decide +kernel
theorem dX12_like_42 : decode cX12_like 42 = .ok (.aload_n 0, 1) := by decide +kernel
theorem dX12_like_43 : decode cX12_like 43 = .ok (.getfield 45, 3) := by decide +kernel
theorem dX12_like_46 : decode cX12_like 46 = .ok (.iload_n 1, 1) := by decide +kernel
theorem dX12_like_47 : decode cX12_like 47 = .ok (.aload_n 0, 1) := by decide +kernel
theorem dX12_like_48 : decode cX12_like 48 = .ok (.getfield 45, 3) := by decide +kernel
theorem dX12_like_51 : decode cX12_like 51 = .ok (.iload_n 2, 1) := by decide +kernel
theorem dX12_like_52 : decode cX12_like 52 = .ok (.iaload, 1) := by decide +kernel
theorem dX12_like_53 : decode cX12_like 53 = .ok (.iastore, 1) := by decide +kernel
theorem dX12_like_54 : decode cX12_like 54 = .ok (.iconst 0, 1) := by decide +kernel
theorem dX12_like_55 : decode cX12_like 55 = .ok (.istore_n 3, 1) := by decide +kernel
theorem dX12_like_56 : decode cX12_like 56 = .ok (.iload_n 3, 1) := by decide +kernel
theorem dX12_like_57 : decode cX12_like 57 = .ok (.bipush 20, 2) := by decide +kernel
theorem dX12_like_59 : decode cX12_like 59 = .ok (.if_icmp .ge 31, 3) := by decide +kernel
theorem dX12_like_62 : decode cX12_like 62 = .ok (.aload_n 0, 1) := by decide +kernel
theorem dX12_like_63 : decode cX12_like 63 = .ok (.getfield 48, 3) := by decide +kernel
theorem dX12_like_66 : decode cX12_like 66 = .ok (.bipush 20, 2) := by decide +kernel
theorem dX12_like_68 : decode cX12_like 68 = .ok (.iload_n 1, 1) := by decide +kernel
theorem dX12_like_69 : decode cX12_like 69 = .ok (.imul, 1) := by decide +kernel
theorem dX12_like_70 : decode cX12_like 70 = .ok (.iload_n 3, 1) := by decide +kernel
theorem dX12_like_71 : decode cX12_like 71 = .ok (.iadd, 1) := by decide +kernel
theorem dX12_like_72 : decode cX12_like 72 = .ok (.aload_n 0, 1) := by decide +kernel
theorem dX12_like_73 : decode cX12_like 73 = .ok (.getfield 48, 3) := by decide +kernel
theorem dX12_like_76 : decode cX12_like 76 = .ok (.bipush 20, 2) := by decide +kernel
theorem dX12_like_78 : decode cX12_like 78 = .ok (.iload_n 2, 1) := by decide +kernel
theorem dX12_like_79 : decode cX12_like 79 = .ok (.imul, 1) := by decide +kernel
theorem dX12_like_80 : decode cX12_like 80 = .ok (.iload_n 3, 1) := by decide +kernel
theorem dX12_like_81 : decode cX12_like 81 = .ok (.iadd, 1) := by decide +kernel
theorem dX12_like_82 : decode cX12_like 82 = .ok (.iaload, 1) := by decide +kernel
theorem dX12_like_83 : decode cX12_like 83 = .ok (.iastore, 1) := by decide +kernel
theorem dX12_like_84 : decode cX12_like 84 = .ok (.iinc 3 1, 3) := by decide +kernel
theorem dX12_like_87 : decode cX12_like 87 = .ok (.goto (-31), 3) := by decide +kernel
theorem dX12_like_90 : decode cX12_like 90 = .ok (.aload_n 0, 1) := by decide +kernel
theorem dX12_like_91 : decode cX12_like 91 = .ok (.getfield 45, 3) := by decide +kernel
theorem dX12_like_94 : decode cX12_like 94 = .ok (.iload_n 1, 1) := by decide +kernel
theorem dX12_like_95 : decode cX12_like 95 = .ok (.iaload, 1) := by decide +kernel
theorem dX12_like_96 : decode cX12_like 96 = .ok (.ireturn, 1) := by decide +kernel
set_option maxRecDepth 20000 in
theorem ggX12_keep__X12_isShelf : GoodIn wsX12_keep_ wsX12_isShelf := goodIn_r _ [7, 8, 9, 6, 10] rfl gwX12_isShelf
set_option maxRecDepth 20000 in
theorem gX12_keep__X12_isShelf : GoodIn wsX12_keep_ (va_wsS RX12 163 yX12_isShelf wsX12_isShelf) := goodIn_app (goodIn_r _ [4, 5, 6] rfl (by decide +kernel)) ggX12_keep__X12_isShelf
set_option maxRecDepth 20000 in
theorem ggX12_keep__X12_within : GoodIn wsX12_keep_ wsX12_within := goodIn_r _ [10] rfl gwX12_within
set_option maxRecDepth 20000 in
theorem gX12_keep__X12_within : GoodIn wsX12_keep_ (va_wsS RX12 55 yX12_within wsX12_within) := goodIn_app (goodIn_r _ [8, 9, 6] rfl (by decide +kernel)) ggX12_keep__X12_within
theorem dX12_keep__0 : decode cX12_keep_ 0 = .ok (.iload_n 1, 1) := by decide +kernel
theorem dX12_keep__1 : decode cX12_keep_ 1 = .ok (.invokestatic 163, 3) := by decide +kernel
theorem dX12_keep__4 : decode cX12_keep_ 4 = .ok (.ifCond .eq 12, 3) := by decide +kernel
theorem dX12_keep__7 : decode cX12_keep_ 7 = .ok (.iload_n 2, 1) := by decide +kernel
theorem dX12_keep__8 : decode cX12_keep_ 8 = .ok (.iconst 0, 1) := by decide +kernel
theorem dX12_keep__9 : decode cX12_keep_ 9 = .ok (.iconst 1, 1) := by decide +kernel
theorem dX12_keep__10 : decode cX12_keep_ 10 = .ok (.invokestatic 55, 3) := by decide +kernel
theorem dX12_keep__13 : decode cX12_keep_ 13 = .ok (.ifCond .ne 5, 3) := by decide +kernel
theorem dX12_keep__16 : decode cX12_keep_ 16 = .ok (.iconst (-1), 1) := by decide +kernel
theorem dX12_keep__17 : decode cX12_keep_ 17 = .ok (.ireturn, 1) := by decide +kernel
theorem dX12_keep__18 : decode cX12_keep_ 18 = .ok (.iload_n 2, 1) := by decide +kernel
theorem dX12_keep__19 : decode cX12_keep_ 19 = .ok (.iconst 1, 1) := by decide +kernel
theorem dX12_keep__20 : decode cX12_keep_ 20 = .ok (.if_icmp .ne 25, 3) := by decide +kernel
theorem dX12_keep__23 : decode cX12_keep_ 23 = .ok (.iload_n 3, 1) := by decide +kernel
theorem dX12_keep__24 : decode cX12_keep_ 24 = .ok (.iconst 0, 1) := by decide +kernel
theorem dX12_keep__25 : decode cX12_keep_ 25 = .ok (.iconst 5, 1) := by decide +kernel
theorem dX12_keep__26 : decode cX12_keep_ 26 = .ok (.invokestatic 55, 3) := by decide +kernel
theorem dX12_keep__29 : decode cX12_keep_ 29 = .ok (.ifCond .eq 14, 3) := by decide +kernel
theorem dX12_keep__32 : decode cX12_keep_ 32 = .ok (.iload 4, 2) := by decide +kernel
theorem dX12_keep__34 : decode cX12_keep_ 34 = .ok (.iconst 0, 1) := by decide +kernel
theorem dX12_keep__35 : decode cX12_keep_ 35 = .ok (.bipush 9, 2) := by decide +kernel
theorem dX12_keep__37 : decode cX12_keep_ 37 = .ok (.invokestatic 55, 3) := by decide +kernel
theorem dX12_keep__40 : decode cX12_keep_ 40 = .ok (.ifCond .ne 5, 3) := by decide +kernel
theorem dX12_keep__43 : decode cX12_keep_ 43 = .ok (.iconst (-1), 1) := by decide +kernel
theorem dX12_keep__44 : decode cX12_keep_ 44 = .ok (.ireturn, 1) := by decide +kernel
theorem dX12_keep__45 : decode cX12_keep_ 45 = .ok (.aload_n 0, 1) := by decide +kernel
theorem dX12_keep__46 : decode cX12_keep_ 46 = .ok (.getfield 30, 3) := by decide +kernel
theorem dX12_keep__49 : decode cX12_keep_ 49 = .ok (.iload_n 1, 1) := by decide +kernel
theorem dX12_keep__50 : decode cX12_keep_ 50 = .ok (.iload_n 2, 1) := by decide +kernel
theorem dX12_keep__51 : decode cX12_keep_ 51 = .ok (.iastore, 1) := by decide +kernel
theorem dX12_keep__52 : decode cX12_keep_ 52 = .ok (.aload_n 0, 1) := by decide +kernel
theorem dX12_keep__53 : decode cX12_keep_ 53 = .ok (.getfield 33, 3) := by decide +kernel
theorem dX12_keep__56 : decode cX12_keep_ 56 = .ok (.iload_n 1, 1) := by decide +kernel
theorem dX12_keep__57 : decode cX12_keep_ 57 = .ok (.iload_n 2, 1) := by decide +kernel
theorem dX12_keep__58 : decode cX12_keep_ 58 = .ok (.iconst 1, 1) := by decide +kernel
theorem dX12_keep__59 : decode cX12_keep_ 59 = .ok (.if_icmp .ne 7, 3) := by decide +kernel
theorem dX12_keep__62 : decode cX12_keep_ 62 = .ok (.iload_n 3, 1) := by decide +kernel
theorem dX12_keep__63 : decode cX12_keep_ 63 = .ok (.goto 4, 3) := by decide +kernel
theorem dX12_keep__66 : decode cX12_keep_ 66 = .ok (.iconst 0, 1) := by decide +kernel
theorem dX12_keep__67 : decode cX12_keep_ 67 = .ok (.iastore, 1) := by decide +kernel
theorem dX12_keep__68 : decode cX12_keep_ 68 = .ok (.aload_n 0, 1) := by decide +kernel
theorem dX12_keep__69 : decode cX12_keep_ 69 = .ok (.getfield 36, 3) := by decide +kernel
theorem dX12_keep__72 : decode cX12_keep_ 72 = .ok (.iload_n 1, 1) := by decide +kernel
theorem dX12_keep__73 : decode cX12_keep_ 73 = .ok (.iload_n 2, 1) := by decide +kernel
theorem dX12_keep__74 : decode cX12_keep_ 74 = .ok (.iconst 1, 1) := by decide +kernel
theorem dX12_keep__75 : decode cX12_keep_ 75 = .ok (.if_icmp .ne 8, 3) := by decide +kernel
theorem dX12_keep__78 : decode cX12_keep_ 78 = .ok (.iload 4, 2) := by decide +kernel
theorem dX12_keep__80 : decode cX12_keep_ 80 = .ok (.goto 4, 3) := by decide +kernel
theorem dX12_keep__83 : decode cX12_keep_ 83 = .ok (.iconst 0, 1) := by decide +kernel
theorem dX12_keep__84 : decode cX12_keep_ 84 = .ok (.iastore, 1) := by decide +kernel
theorem dX12_keep__85 : decode cX12_keep_ 85 = .ok (.iconst 0, 1) := by decide +kernel
theorem dX12_keep__86 : decode cX12_keep_ 86 = .ok (.ireturn, 1) := by decide +kernel
set_option maxRecDepth 20000 in
theorem ggX12_row_X12_isShelf : GoodIn wsX12_row wsX12_isShelf := goodIn_r _ [8, 9, 10, 7, 11] rfl gwX12_isShelf
set_option maxRecDepth 20000 in
theorem gX12_row_X12_isShelf : GoodIn wsX12_row (va_wsS RX12 163 yX12_isShelf wsX12_isShelf) := goodIn_app (goodIn_r _ [5, 6, 7] rfl (by decide +kernel)) ggX12_row_X12_isShelf
set_option maxRecDepth 20000 in
theorem ggX12_row_X12_within : GoodIn wsX12_row wsX12_within := goodIn_r _ [11] rfl gwX12_within
set_option maxRecDepth 20000 in
theorem gX12_row_X12_within : GoodIn wsX12_row (va_wsS RX12 55 yX12_within wsX12_within) := goodIn_app (goodIn_r _ [9, 10, 7] rfl (by decide +kernel)) ggX12_row_X12_within
theorem dX12_row_0 : decode cX12_row 0 = .ok (.iload_n 1, 1) := by decide +kernel
theorem dX12_row_1 : decode cX12_row 1 = .ok (.invokestatic 163, 3) := by decide +kernel
theorem dX12_row_4 : decode cX12_row 4 = .ok (.ifCond .eq 18, 3) := by decide +kernel
theorem dX12_row_7 : decode cX12_row 7 = .ok (.iload_n 2, 1) := by decide +kernel
theorem dX12_row_8 : decode cX12_row 8 = .ok (.iconst 0, 1) := by decide +kernel
theorem dX12_row_9 : decode cX12_row 9 = .ok (.iconst 2, 1) := by decide +kernel
theorem dX12_row_10 : decode cX12_row 10 = .ok (.invokestatic 55, 3) := by decide +kernel
theorem dX12_row_13 : decode cX12_row 13 = .ok (.ifCond .eq 9, 3) := by decide +kernel
theorem dX12_row_16 : decode cX12_row 16 = .ok (.iload_n 3, 1) := by decide +kernel
theorem dX12_row_17 : decode cX12_row 17 = .ok (.bipush 100, 2) := by decide +kernel
theorem dX12_row_19 : decode cX12_row 19 = .ok (.if_icmp .le 5, 3) := by decide +kernel
theorem dX12_row_22 : decode cX12_row 22 = .ok (.iconst (-1), 1) := by decide +kernel
theorem dX12_row_23 : decode cX12_row 23 = .ok (.ireturn, 1) := by decide +kernel
theorem dX12_row_24 : decode cX12_row 24 = .ok (.iload_n 3, 1) := by decide +kernel
theorem dX12_row_25 : decode cX12_row 25 = .ok (.ifCond .ge 6, 3) := by decide +kernel
theorem dX12_row_28 : decode cX12_row 28 = .ok (.bipush (-14), 2) := by decide +kernel
theorem dX12_row_30 : decode cX12_row 30 = .ok (.ireturn, 1) := by decide +kernel
theorem dX12_row_31 : decode cX12_row 31 = .ok (.aload_n 0, 1) := by decide +kernel
theorem dX12_row_32 : decode cX12_row 32 = .ok (.getfield 30, 3) := by decide +kernel
theorem dX12_row_35 : decode cX12_row 35 = .ok (.iload_n 1, 1) := by decide +kernel
theorem dX12_row_36 : decode cX12_row 36 = .ok (.iconst 2, 1) := by decide +kernel
theorem dX12_row_37 : decode cX12_row 37 = .ok (.iastore, 1) := by decide +kernel
theorem dX12_row_38 : decode cX12_row 38 = .ok (.aload_n 0, 1) := by decide +kernel
theorem dX12_row_39 : decode cX12_row 39 = .ok (.getfield 33, 3) := by decide +kernel
theorem dX12_row_42 : decode cX12_row 42 = .ok (.iload_n 1, 1) := by decide +kernel
theorem dX12_row_43 : decode cX12_row 43 = .ok (.iload_n 2, 1) := by decide +kernel
theorem dX12_row_44 : decode cX12_row 44 = .ok (.iastore, 1) := by decide +kernel
theorem dX12_row_45 : decode cX12_row 45 = .ok (.aload_n 0, 1) := by decide +kernel
theorem dX12_row_46 : decode cX12_row 46 = .ok (.getfield 36, 3) := by decide +kernel
theorem dX12_row_49 : decode cX12_row 49 = .ok (.iload_n 1, 1) := by decide +kernel
theorem dX12_row_50 : decode cX12_row 50 = .ok (.iload_n 3, 1) := by decide +kernel
theorem dX12_row_51 : decode cX12_row 51 = .ok (.iastore, 1) := by decide +kernel
theorem dX12_row_52 : decode cX12_row 52 = .ok (.iconst 0, 1) := by decide +kernel
theorem dX12_row_53 : decode cX12_row 53 = .ok (.istore 4, 2) := by decide +kernel
theorem dX12_row_55 : decode cX12_row 55 = .ok (.iload 4, 2) := by decide +kernel
theorem dX12_row_57 : decode cX12_row 57 = .ok (.bipush 100, 2) := by decide +kernel
theorem dX12_row_59 : decode cX12_row 59 = .ok (.if_icmp .ge 22, 3) := by decide +kernel
theorem dX12_row_62 : decode cX12_row 62 = .ok (.aload_n 0, 1) := by decide +kernel
theorem dX12_row_63 : decode cX12_row 63 = .ok (.getfield 39, 3) := by decide +kernel
theorem dX12_row_66 : decode cX12_row 66 = .ok (.bipush 100, 2) := by decide +kernel
theorem dX12_row_68 : decode cX12_row 68 = .ok (.iload_n 1, 1) := by decide +kernel
theorem dX12_row_69 : decode cX12_row 69 = .ok (.imul, 1) := by decide +kernel
theorem dX12_row_70 : decode cX12_row 70 = .ok (.iload 4, 2) := by decide +kernel
theorem dX12_row_72 : decode cX12_row 72 = .ok (.iadd, 1) := by decide +kernel
theorem dX12_row_73 : decode cX12_row 73 = .ok (.iconst 0, 1) := by decide +kernel
theorem dX12_row_74 : decode cX12_row 74 = .ok (.iastore, 1) := by decide +kernel
theorem dX12_row_75 : decode cX12_row 75 = .ok (.iinc 4 1, 3) := by decide +kernel
theorem dX12_row_78 : decode cX12_row 78 = .ok (.goto (-23), 3) := by decide +kernel
theorem dX12_row_81 : decode cX12_row 81 = .ok (.iconst 0, 1) := by decide +kernel
theorem dX12_row_82 : decode cX12_row 82 = .ok (.ireturn, 1) := by decide +kernel
set_option maxRecDepth 20000 in
theorem ggX12_put_X12_isShelf : GoodIn wsX12_put wsX12_isShelf := goodIn_r _ [7, 8, 9, 6, 10] rfl gwX12_isShelf
set_option maxRecDepth 20000 in
theorem gX12_put_X12_isShelf : GoodIn wsX12_put (va_wsS RX12 163 yX12_isShelf wsX12_isShelf) := goodIn_app (goodIn_r _ [4, 5, 6] rfl (by decide +kernel)) ggX12_put_X12_isShelf
set_option maxRecDepth 20000 in
theorem ggX12_put_X12_noRow : GoodIn wsX12_put wsX12_noRow := goodIn_r _ [14, 15, 16, 17, 18, 19, 20, 21, 22, 23, 24, 25, 26, 27, 28, 29, 30, 31, 32, 33, 34, 35, 36, 37] rfl gwX12_noRow
set_option maxRecDepth 20000 in
theorem gX12_put_X12_noRow : GoodIn wsX12_put (wsV RX12 59 RX12 yX12_noRow wsX12_noRow) := goodIn_app (goodIn_r _ [11, 12, 13, 6] rfl (by decide +kernel)) ggX12_put_X12_noRow
set_option maxRecDepth 20000 in
theorem ggX12_put_X12_within : GoodIn wsX12_put wsX12_within := goodIn_r _ [10] rfl gwX12_within
set_option maxRecDepth 20000 in
theorem gX12_put_X12_within : GoodIn wsX12_put (va_wsS RX12 55 yX12_within wsX12_within) := goodIn_app (goodIn_r _ [8, 9, 6] rfl (by decide +kernel)) ggX12_put_X12_within
theorem dX12_put_0 : decode cX12_put 0 = .ok (.iload_n 1, 1) := by decide +kernel
theorem dX12_put_1 : decode cX12_put 1 = .ok (.invokestatic 163, 3) := by decide +kernel
theorem dX12_put_4 : decode cX12_put 4 = .ok (.ifCond .ne 5, 3) := by decide +kernel
theorem dX12_put_7 : decode cX12_put 7 = .ok (.iconst (-1), 1) := by decide +kernel
theorem dX12_put_8 : decode cX12_put 8 = .ok (.ireturn, 1) := by decide +kernel
theorem dX12_put_9 : decode cX12_put 9 = .ok (.aload_n 0, 1) := by decide +kernel
theorem dX12_put_10 : decode cX12_put 10 = .ok (.iload_n 1, 1) := by decide +kernel
theorem dX12_put_11 : decode cX12_put 11 = .ok (.invokevirtual 59, 3) := by decide +kernel
theorem dX12_put_14 : decode cX12_put 14 = .ok (.istore 4, 2) := by decide +kernel
theorem dX12_put_16 : decode cX12_put 16 = .ok (.iload 4, 2) := by decide +kernel
theorem dX12_put_18 : decode cX12_put 18 = .ok (.ifCond .ge 6, 3) := by decide +kernel
theorem dX12_put_21 : decode cX12_put 21 = .ok (.iload 4, 2) := by decide +kernel
theorem dX12_put_23 : decode cX12_put 23 = .ok (.ireturn, 1) := by decide +kernel
theorem dX12_put_24 : decode cX12_put 24 = .ok (.iload_n 2, 1) := by decide +kernel
theorem dX12_put_25 : decode cX12_put 25 = .ok (.iconst 0, 1) := by decide +kernel
theorem dX12_put_26 : decode cX12_put 26 = .ok (.aload_n 0, 1) := by decide +kernel
theorem dX12_put_27 : decode cX12_put 27 = .ok (.getfield 36, 3) := by decide +kernel
theorem dX12_put_30 : decode cX12_put 30 = .ok (.iload_n 1, 1) := by decide +kernel
theorem dX12_put_31 : decode cX12_put 31 = .ok (.iaload, 1) := by decide +kernel
theorem dX12_put_32 : decode cX12_put 32 = .ok (.iconst 1, 1) := by decide +kernel
theorem dX12_put_33 : decode cX12_put 33 = .ok (.isub, 1) := by decide +kernel
theorem dX12_put_34 : decode cX12_put 34 = .ok (.invokestatic 55, 3) := by decide +kernel
theorem dX12_put_37 : decode cX12_put 37 = .ok (.ifCond .ne 6, 3) := by decide +kernel
theorem dX12_put_40 : decode cX12_put 40 = .ok (.bipush (-13), 2) := by decide +kernel
theorem dX12_put_42 : decode cX12_put 42 = .ok (.ireturn, 1) := by decide +kernel
theorem dX12_put_43 : decode cX12_put 43 = .ok (.aload_n 0, 1) := by decide +kernel
theorem dX12_put_44 : decode cX12_put 44 = .ok (.getfield 39, 3) := by decide +kernel
theorem dX12_put_47 : decode cX12_put 47 = .ok (.bipush 100, 2) := by decide +kernel
theorem dX12_put_49 : decode cX12_put 49 = .ok (.iload_n 1, 1) := by decide +kernel
theorem dX12_put_50 : decode cX12_put 50 = .ok (.imul, 1) := by decide +kernel
theorem dX12_put_51 : decode cX12_put 51 = .ok (.iload_n 2, 1) := by decide +kernel
theorem dX12_put_52 : decode cX12_put 52 = .ok (.iadd, 1) := by decide +kernel
theorem dX12_put_53 : decode cX12_put 53 = .ok (.aload_n 0, 1) := by decide +kernel
theorem dX12_put_54 : decode cX12_put 54 = .ok (.getfield 33, 3) := by decide +kernel
theorem dX12_put_57 : decode cX12_put 57 = .ok (.iload_n 1, 1) := by decide +kernel
theorem dX12_put_58 : decode cX12_put 58 = .ok (.iaload, 1) := by decide +kernel
theorem dX12_put_59 : decode cX12_put 59 = .ok (.ifCond .ne 8, 3) := by decide +kernel
theorem dX12_put_62 : decode cX12_put 62 = .ok (.iload_n 3, 1) := by decide +kernel
theorem dX12_put_63 : decode cX12_put 63 = .ok (.i2b, 1) := by decide +kernel
theorem dX12_put_64 : decode cX12_put 64 = .ok (.goto 19, 3) := by decide +kernel
theorem dX12_put_67 : decode cX12_put 67 = .ok (.aload_n 0, 1) := by decide +kernel
theorem dX12_put_68 : decode cX12_put 68 = .ok (.getfield 33, 3) := by decide +kernel
theorem dX12_put_71 : decode cX12_put 71 = .ok (.iload_n 1, 1) := by decide +kernel
theorem dX12_put_72 : decode cX12_put 72 = .ok (.iaload, 1) := by decide +kernel
theorem dX12_put_73 : decode cX12_put 73 = .ok (.iconst 1, 1) := by decide +kernel
theorem dX12_put_74 : decode cX12_put 74 = .ok (.if_icmp .ne 8, 3) := by decide +kernel
theorem dX12_put_77 : decode cX12_put 77 = .ok (.iload_n 3, 1) := by decide +kernel
theorem dX12_put_78 : decode cX12_put 78 = .ok (.i2s, 1) := by decide +kernel
theorem dX12_put_79 : decode cX12_put 79 = .ok (.goto 4, 3) := by decide +kernel
theorem dX12_put_82 : decode cX12_put 82 = .ok (.iload_n 3, 1) := by decide +kernel
theorem dX12_put_83 : decode cX12_put 83 = .ok (.iastore, 1) := by decide +kernel
theorem dX12_put_84 : decode cX12_put 84 = .ok (.iconst 0, 1) := by decide +kernel
theorem dX12_put_85 : decode cX12_put 85 = .ok (.ireturn, 1) := by decide +kernel
theorem dX12_thrown_0 : decode cX12_thrown 0 = .ok (.aload_n 0, 1) := by decide +kernel
theorem dX12_thrown_1 : decode cX12_thrown 1 = .ok (.getfield 274, 3) := by decide +kernel
theorem dX12_thrown_4 : decode cX12_thrown 4 = .ok (.ireturn, 1) := by decide +kernel
set_option maxRecDepth 20000 in
theorem ggX12_element_X12_isShelf : GoodIn wsX12_element wsX12_isShelf := goodIn_r _ [8, 9, 10, 7, 11] rfl gwX12_isShelf
set_option maxRecDepth 20000 in
theorem gX12_element_X12_isShelf : GoodIn wsX12_element (va_wsS RX12 163 yX12_isShelf wsX12_isShelf) := goodIn_app (goodIn_r _ [5, 6, 7] rfl (by decide +kernel)) ggX12_element_X12_isShelf
set_option maxRecDepth 20000 in
theorem ggX12_element_X12_within : GoodIn wsX12_element wsX12_within := goodIn_r _ [11] rfl gwX12_within
set_option maxRecDepth 20000 in
theorem gX12_element_X12_within : GoodIn wsX12_element (va_wsS RX12 55 yX12_within wsX12_within) := goodIn_app (goodIn_r _ [9, 10, 7] rfl (by decide +kernel)) ggX12_element_X12_within
theorem dX12_element_0 : decode cX12_element 0 = .ok (.aload_n 0, 1) := by decide +kernel
theorem dX12_element_1 : decode cX12_element 1 = .ok (.iload_n 1, 1) := by decide +kernel
theorem dX12_element_2 : decode cX12_element 2 = .ok (.invokestatic 163, 3) := by decide +kernel
theorem dX12_element_5 : decode cX12_element 5 = .ok (.ifCond .ne 7, 3) := by decide +kernel
theorem dX12_element_8 : decode cX12_element 8 = .ok (.iconst 1, 1) := by decide +kernel
theorem dX12_element_9 : decode cX12_element 9 = .ok (.goto 34, 3) := by decide +kernel
theorem dX12_element_12 : decode cX12_element 12 = .ok (.aload_n 0, 1) := by decide +kernel
theorem dX12_element_13 : decode cX12_element 13 = .ok (.getfield 30, 3) := by decide +kernel
theorem dX12_element_16 : decode cX12_element 16 = .ok (.iload_n 1, 1) := by decide +kernel
theorem dX12_element_17 : decode cX12_element 17 = .ok (.iaload, 1) := by decide +kernel
theorem dX12_element_18 : decode cX12_element 18 = .ok (.iconst 2, 1) := by decide +kernel
theorem dX12_element_19 : decode cX12_element 19 = .ok (.if_icmp .ne 19, 3) := by decide +kernel
theorem dX12_element_22 : decode cX12_element 22 = .ok (.iload_n 2, 1) := by decide +kernel
theorem dX12_element_23 : decode cX12_element 23 = .ok (.iconst 0, 1) := by decide +kernel
theorem dX12_element_24 : decode cX12_element 24 = .ok (.aload_n 0, 1) := by decide +kernel
theorem dX12_element_25 : decode cX12_element 25 = .ok (.getfield 36, 3) := by decide +kernel
theorem dX12_element_28 : decode cX12_element 28 = .ok (.iload_n 1, 1) := by decide +kernel
theorem dX12_element_29 : decode cX12_element 29 = .ok (.iaload, 1) := by decide +kernel
theorem dX12_element_30 : decode cX12_element 30 = .ok (.iconst 1, 1) := by decide +kernel
theorem dX12_element_31 : decode cX12_element 31 = .ok (.isub, 1) := by decide +kernel
theorem dX12_element_32 : decode cX12_element 32 = .ok (.invokestatic 55, 3) := by decide +kernel
theorem dX12_element_35 : decode cX12_element 35 = .ok (.ifCond .ne 7, 3) := by decide +kernel
theorem dX12_element_38 : decode cX12_element 38 = .ok (.iconst 2, 1) := by decide +kernel
theorem dX12_element_39 : decode cX12_element 39 = .ok (.goto 4, 3) := by decide +kernel
theorem dX12_element_42 : decode cX12_element 42 = .ok (.iconst 0, 1) := by decide +kernel
theorem dX12_element_43 : decode cX12_element 43 = .ok (.putfield 274, 3) := by decide +kernel
theorem dX12_element_46 : decode cX12_element 46 = .ok (.aload_n 0, 1) := by decide +kernel
theorem dX12_element_47 : decode cX12_element 47 = .ok (.getfield 274, 3) := by decide +kernel
theorem dX12_element_50 : decode cX12_element 50 = .ok (.ifCond .eq 7, 3) := by decide +kernel
theorem dX12_element_53 : decode cX12_element 53 = .ok (.lconst 0, 1) := by decide +kernel
theorem dX12_element_54 : decode cX12_element 54 = .ok (.goto 15, 3) := by decide +kernel
theorem dX12_element_57 : decode cX12_element 57 = .ok (.aload_n 0, 1) := by decide +kernel
theorem dX12_element_58 : decode cX12_element 58 = .ok (.getfield 39, 3) := by decide +kernel
theorem dX12_element_61 : decode cX12_element 61 = .ok (.bipush 100, 2) := by decide +kernel
theorem dX12_element_63 : decode cX12_element 63 = .ok (.iload_n 1, 1) := by decide +kernel
theorem dX12_element_64 : decode cX12_element 64 = .ok (.imul, 1) := by decide +kernel
theorem dX12_element_65 : decode cX12_element 65 = .ok (.iload_n 2, 1) := by decide +kernel
theorem dX12_element_66 : decode cX12_element 66 = .ok (.iadd, 1) := by decide +kernel
theorem dX12_element_67 : decode cX12_element 67 = .ok (.iaload, 1) := by decide +kernel
theorem dX12_element_68 : decode cX12_element 68 = .ok (.i2l, 1) := by decide +kernel
theorem dX12_element_69 : decode cX12_element 69 = .ok (.lreturn, 1) := by decide +kernel
set_option maxRecDepth 20000 in
theorem ggX12_copy_X12_isShelf : GoodIn wsX12_copy wsX12_isShelf := goodIn_r _ [8, 9, 10, 7, 11] rfl gwX12_isShelf
set_option maxRecDepth 20000 in
theorem gX12_copy_X12_isShelf : GoodIn wsX12_copy (va_wsS RX12 163 yX12_isShelf wsX12_isShelf) := goodIn_app (goodIn_r _ [5, 6, 7] rfl (by decide +kernel)) ggX12_copy_X12_isShelf
theorem dX12_copy_0 : decode cX12_copy 0 = .ok (.iload_n 1, 1) := by decide +kernel
theorem dX12_copy_1 : decode cX12_copy 1 = .ok (.invokestatic 163, 3) := by decide +kernel
theorem dX12_copy_4 : decode cX12_copy 4 = .ok (.ifCond .eq 10, 3) := by decide +kernel
theorem dX12_copy_7 : decode cX12_copy 7 = .ok (.iload_n 3, 1) := by decide +kernel
theorem dX12_copy_8 : decode cX12_copy 8 = .ok (.invokestatic 163, 3) := by decide +kernel
theorem dX12_copy_11 : decode cX12_copy 11 = .ok (.ifCond .ne 5, 3) := by decide +kernel
theorem dX12_copy_14 : decode cX12_copy 14 = .ok (.iconst (-1), 1) := by decide +kernel
theorem dX12_copy_15 : decode cX12_copy 15 = .ok (.ireturn, 1) := by decide +kernel
theorem dX12_copy_16 : decode cX12_copy 16 = .ok (.aload_n 0, 1) := by decide +kernel
theorem dX12_copy_17 : decode cX12_copy 17 = .ok (.getfield 30, 3) := by decide +kernel
theorem dX12_copy_20 : decode cX12_copy 20 = .ok (.iload_n 1, 1) := by decide +kernel
theorem dX12_copy_21 : decode cX12_copy 21 = .ok (.iaload, 1) := by decide +kernel
theorem dX12_copy_22 : decode cX12_copy 22 = .ok (.ifCond .eq 12, 3) := by decide +kernel
theorem dX12_copy_25 : decode cX12_copy 25 = .ok (.aload_n 0, 1) := by decide +kernel
theorem dX12_copy_26 : decode cX12_copy 26 = .ok (.getfield 30, 3) := by decide +kernel
