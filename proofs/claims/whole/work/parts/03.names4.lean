theorem dX11_quiet_1 : decode cX11_quiet 1 = .ok (.iconst 0, 1) := by decide +kernel
theorem dX11_quiet_2 : decode cX11_quiet 2 = .ok (.iconst 1, 1) := by decide +kernel
theorem dX11_quiet_3 : decode cX11_quiet 3 = .ok (.invokestatic 158, 3) := by decide +kernel
theorem dX11_quiet_6 : decode cX11_quiet 6 = .ok (.ifCond .ne 5, 3) := by decide +kernel
theorem dX11_quiet_9 : decode cX11_quiet 9 = .ok (.iconst (-1), 1) := by decide +kernel
theorem dX11_quiet_10 : decode cX11_quiet 10 = .ok (.ireturn, 1) := by decide +kernel
theorem dX11_quiet_11 : decode cX11_quiet 11 = .ok (.aload_n 0, 1) := by decide +kernel
theorem dX11_quiet_12 : decode cX11_quiet 12 = .ok (.getfield 42, 3) := by decide +kernel
theorem dX11_quiet_15 : decode cX11_quiet 15 = .ok (.aload_n 0, 1) := by decide +kernel
theorem dX11_quiet_16 : decode cX11_quiet 16 = .ok (.getfield 38, 3) := by decide +kernel
theorem dX11_quiet_19 : decode cX11_quiet 19 = .ok (.invokevirtual 86, 3) := by decide +kernel
theorem dX11_quiet_22 : decode cX11_quiet 22 = .ok (.iconst 0, 1) := by decide +kernel
theorem dX11_quiet_23 : decode cX11_quiet 23 = .ok (.istore_n 2, 1) := by decide +kernel
theorem dX11_quiet_24 : decode cX11_quiet 24 = .ok (.iload_n 2, 1) := by decide +kernel
theorem dX11_quiet_25 : decode cX11_quiet 25 = .ok (.bipush 99, 2) := by decide +kernel
theorem dX11_quiet_27 : decode cX11_quiet 27 = .ok (.if_icmp .gt 46, 3) := by decide +kernel
theorem dX11_quiet_30 : decode cX11_quiet 30 = .ok (.iload_n 1, 1) := by decide +kernel
theorem dX11_quiet_31 : decode cX11_quiet 31 = .ok (.ifCond .ne 16, 3) := by decide +kernel
theorem dX11_quiet_34 : decode cX11_quiet 34 = .ok (.aload_n 0, 1) := by decide +kernel
theorem dX11_quiet_35 : decode cX11_quiet 35 = .ok (.getfield 42, 3) := by decide +kernel
theorem dX11_quiet_38 : decode cX11_quiet 38 = .ok (.invokevirtual 222, 3) := by decide +kernel
theorem dX11_quiet_41 : decode cX11_quiet 41 = .ok (.ifCond .ne 18, 3) := by decide +kernel
theorem dX11_quiet_44 : decode cX11_quiet 44 = .ok (.goto 13, 3) := by decide +kernel
theorem dX11_quiet_47 : decode cX11_quiet 47 = .ok (.aload_n 0, 1) := by decide +kernel
theorem dX11_quiet_48 : decode cX11_quiet 48 = .ok (.getfield 42, 3) := by decide +kernel
theorem dX11_quiet_51 : decode cX11_quiet 51 = .ok (.invokevirtual 225, 3) := by decide +kernel
theorem dX11_quiet_54 : decode cX11_quiet 54 = .ok (.ifCond .eq 5, 3) := by decide +kernel
theorem dX11_quiet_57 : decode cX11_quiet 57 = .ok (.iload_n 2, 1) := by decide +kernel
theorem dX11_quiet_58 : decode cX11_quiet 58 = .ok (.ireturn, 1) := by decide +kernel
theorem dX11_quiet_59 : decode cX11_quiet 59 = .ok (.aload_n 0, 1) := by decide +kernel
theorem dX11_quiet_60 : decode cX11_quiet 60 = .ok (.getfield 42, 3) := by decide +kernel
theorem dX11_quiet_63 : decode cX11_quiet 63 = .ok (.iconst 0, 1) := by decide +kernel
theorem dX11_quiet_64 : decode cX11_quiet 64 = .ok (.invokevirtual 229, 3) := by decide +kernel
theorem dX11_quiet_67 : decode cX11_quiet 67 = .ok (.iinc 2 1, 3) := by decide +kernel
theorem dX11_quiet_70 : decode cX11_quiet 70 = .ok (.goto (-46), 3) := by decide +kernel
theorem dX11_quiet_73 : decode cX11_quiet 73 = .ok (.bipush (-4), 2) := by decide +kernel
theorem dX11_quiet_75 : decode cX11_quiet 75 = .ok (.ireturn, 1) := by decide +kernel
set_option maxRecDepth 20000 in
theorem gwX11_firstLate : wsX11_firstLate.all goodWord = true := by decide +kernel
set_option maxRecDepth 20000 in
theorem ggX11_misses_X11_firstLate : GoodIn wsX11_misses wsX11_firstLate := goodIn_r _ [7, 2, 1, 8, 9, 10, 11, 12, 13, 14, 15, 16, 17, 18, 19, 20, 21, 22, 23, 24, 25, 26, 27, 28, 29, 30, 31, 32, 33, 34, 35, 36, 37, 38, 39, 40, 41, 42, 43, 44, 45, 46, 47, 48, 49, 50, 51, 52, 53, 54, 55, 56, 57, 58, 59, 60, 61, 62, 63, 64, 65, 66, 67, 68, 69, 70, 71, 72, 73, 74, 75, 76, 77, 78, 79, 80, 81, 82, 83, 84, 85, 86, 87, 88, 89, 90, 91, 92, 93, 94, 95, 96, 97, 98, 99, 100, 101, 102, 103, 104, 105, 106, 107, 108, 109, 110, 111, 112, 113, 114, 115, 116, 117, 118, 119, 120, 121, 122, 123, 124, 125, 126, 127, 128, 129, 130, 131, 132, 133, 134, 135, 136, 137, 138, 139, 140, 141, 142, 143, 144, 145, 146, 147, 148, 149, 150, 151, 152, 153, 154, 155, 156, 157, 158, 159, 160, 161, 162, 163, 6, 164, 165, 166, 177, 178, 179, 180, 181, 182, 183, 184, 185, 186, 187, 188, 189, 190, 191, 192, 193, 194, 195, 196, 197, 198, 199, 200, 201, 202, 203, 204, 205, 206, 207] rfl gwX11_firstLate
set_option maxRecDepth 20000 in
theorem gX11_misses_X11_firstLate : GoodIn wsX11_misses (wsV RX11 233 RX11 yX11_firstLate wsX11_firstLate) := goodIn_app (goodIn_r _ [3, 4, 5, 6] rfl (by decide +kernel)) ggX11_misses_X11_firstLate
set_option maxRecDepth 20000 in
theorem ggX11_misses_X3_has : GoodIn wsX11_misses wsX3_has := goodIn_r _ [170, 14, 171, 6, 172, 188, 189, 190, 191, 192] rfl gwX3_has
set_option maxRecDepth 20000 in
theorem gX11_misses_X3_has : GoodIn wsX11_misses (wsV RX11 103 RX3 yX3_has wsX3_has) := goodIn_app (goodIn_r _ [167, 168, 169, 12] rfl (by decide +kernel)) ggX11_misses_X3_has
set_option maxRecDepth 20000 in
theorem ggX11_misses_X3_becomes : GoodIn wsX11_misses wsX3_becomes := goodIn_r _ [13, 14, 15, 16, 17, 18, 19, 20, 21, 22, 23, 24, 25, 26, 27, 28, 29, 30, 31, 32, 33, 34, 35, 36, 188, 189, 190, 191, 192, 193, 194, 195, 196, 197, 198, 199, 200, 201, 202, 203, 204, 205, 206, 207] rfl gwX3_becomes
set_option maxRecDepth 20000 in
theorem gX11_misses_X3_becomes : GoodIn wsX11_misses (wsV RX11 86 RX3 yX3_becomes wsX3_becomes) := goodIn_app (goodIn_r _ [9, 10, 11, 12] rfl (by decide +kernel)) ggX11_misses_X3_becomes
set_option maxRecDepth 20000 in
theorem gwX11_ticksTillLate : wsX11_ticksTillLate.all goodWord = true := by decide +kernel
set_option maxRecDepth 20000 in
theorem ggX11_misses_X11_ticksTillLate : GoodIn wsX11_misses wsX11_ticksTillLate := goodIn_r _ [176, 2, 37, 38, 39, 12, 40, 41, 42, 15, 43, 44, 45, 46, 14, 16, 47, 48, 49, 50, 51, 52, 53, 54, 55, 56, 57, 58, 59, 60, 61, 62, 63, 64, 65, 66, 67, 68, 69, 70, 71, 72, 73, 74, 75, 76, 77, 78, 20, 79, 27, 25, 24, 28, 80, 81, 82, 83, 84, 85, 86, 87, 88, 89, 90, 91, 92, 93, 94, 95, 96, 97, 32, 35, 34, 98, 99, 100, 101, 102, 103, 104, 105, 106, 107, 108, 109, 110, 111, 112, 113, 114, 115, 116, 117, 118, 119, 120, 121, 122, 123, 124, 125, 126, 127, 128, 129, 130, 131, 132, 133, 134, 135, 136, 137, 138, 139, 140, 33, 36, 30, 141, 142, 143, 144, 31, 29, 145, 146, 147, 148, 149, 150, 151, 152, 153, 154, 155, 156, 157, 158, 159, 160, 161, 162, 163, 6, 164, 165, 166, 1, 177, 178, 179, 180, 181, 182, 183, 184, 185, 186, 187, 188, 189, 190, 191, 192, 193, 194, 195, 196, 197, 198, 199, 200, 201, 202, 203, 204, 205, 206, 207] rfl gwX11_ticksTillLate
set_option maxRecDepth 20000 in
theorem gX11_misses_X11_ticksTillLate : GoodIn wsX11_misses (wsV RX11 236 RX11 yX11_ticksTillLate wsX11_ticksTillLate) := goodIn_app (goodIn_r _ [173, 174, 175, 6] rfl (by decide +kernel)) ggX11_misses_X11_ticksTillLate
theorem dX11_misses_0 : decode cX11_misses 0 = .ok (.iload_n 1, 1) := by decide +kernel
theorem dX11_misses_1 : decode cX11_misses 1 = .ok (.iconst (-1), 1) := by decide +kernel
theorem dX11_misses_2 : decode cX11_misses 2 = .ok (.if_icmp .ne 8, 3) := by decide +kernel
theorem dX11_misses_5 : decode cX11_misses 5 = .ok (.aload_n 0, 1) := by decide +kernel
theorem dX11_misses_6 : decode cX11_misses 6 = .ok (.invokevirtual 233, 3) := by decide +kernel
theorem dX11_misses_9 : decode cX11_misses 9 = .ok (.ireturn, 1) := by decide +kernel
theorem dX11_misses_10 : decode cX11_misses 10 = .ok (.aload_n 0, 1) := by decide +kernel
theorem dX11_misses_11 : decode cX11_misses 11 = .ok (.getfield 38, 3) := by decide +kernel
theorem dX11_misses_14 : decode cX11_misses 14 = .ok (.iload_n 1, 1) := by decide +kernel
theorem dX11_misses_15 : decode cX11_misses 15 = .ok (.invokevirtual 103, 3) := by decide +kernel
theorem dX11_misses_18 : decode cX11_misses 18 = .ok (.ifCond .ne 5, 3) := by decide +kernel
theorem dX11_misses_21 : decode cX11_misses 21 = .ok (.iconst (-1), 1) := by decide +kernel
theorem dX11_misses_22 : decode cX11_misses 22 = .ok (.ireturn, 1) := by decide +kernel
theorem dX11_misses_23 : decode cX11_misses 23 = .ok (.aload_n 0, 1) := by decide +kernel
theorem dX11_misses_24 : decode cX11_misses 24 = .ok (.getfield 42, 3) := by decide +kernel
theorem dX11_misses_27 : decode cX11_misses 27 = .ok (.aload_n 0, 1) := by decide +kernel
theorem dX11_misses_28 : decode cX11_misses 28 = .ok (.getfield 38, 3) := by decide +kernel
theorem dX11_misses_31 : decode cX11_misses 31 = .ok (.invokevirtual 86, 3) := by decide +kernel
theorem dX11_misses_34 : decode cX11_misses 34 = .ok (.aload_n 0, 1) := by decide +kernel
theorem dX11_misses_35 : decode cX11_misses 35 = .ok (.iload_n 1, 1) := by decide +kernel
theorem dX11_misses_36 : decode cX11_misses 36 = .ok (.bipush 99, 2) := by decide +kernel
theorem dX11_misses_38 : decode cX11_misses 38 = .ok (.invokevirtual 236, 3) := by decide +kernel
theorem dX11_misses_41 : decode cX11_misses 41 = .ok (.ireturn, 1) := by decide +kernel
set_option maxRecDepth 20000 in
theorem ggX11_firstLate_X3_becomes : GoodIn wsX11_firstLate wsX3_becomes := goodIn_r _ [8, 9, 10, 11, 12, 13, 14, 15, 16, 17, 18, 19, 20, 21, 22, 23, 24, 25, 26, 27, 28, 29, 30, 31, 174, 175, 176, 177, 178, 179, 180, 181, 182, 183, 184, 185, 186, 187, 188, 189, 190, 191, 192, 193] rfl gwX3_becomes
set_option maxRecDepth 20000 in
theorem gX11_firstLate_X3_becomes : GoodIn wsX11_firstLate (wsV RX11 86 RX3 yX3_becomes wsX3_becomes) := goodIn_app (goodIn_r _ [4, 5, 6, 7] rfl (by decide +kernel)) ggX11_firstLate_X3_becomes
set_option maxRecDepth 20000 in
theorem ggX11_firstLate_X3_goOn : GoodIn wsX11_firstLate wsX3_goOn := goodIn_r _ [35, 36, 37, 10, 38, 39, 40, 7, 41, 9, 11, 42, 43, 44, 45, 46, 47, 48, 49, 50, 51, 52, 53, 54, 55, 56, 57, 58, 59, 60, 61, 62, 63, 64, 65, 66, 67, 68, 69, 70, 71, 72, 73, 15, 74, 22, 20, 19, 23, 75, 76, 77, 78, 79, 80, 81, 82, 83, 84, 85, 86, 87, 88, 89, 90, 91, 92, 27, 30, 29, 93, 94, 95, 96, 97, 98, 99, 100, 101, 102, 103, 104, 105, 106, 107, 108, 109, 110, 111, 112, 113, 114, 115, 116, 117, 118, 119, 120, 121, 122, 123, 124, 125, 126, 127, 128, 129, 130, 131, 132, 133, 134, 135, 28, 31, 25, 136, 137, 138, 139, 26, 24, 140, 141, 142, 143, 144, 145, 146, 147, 148, 149, 150, 151, 152, 153, 154, 155, 174, 175, 176, 177, 178, 179, 180, 181, 182, 183, 184, 185, 186, 187, 188, 189, 190, 191, 192, 193] rfl gwX3_goOn
set_option maxRecDepth 20000 in
theorem gX11_firstLate_X3_goOn : GoodIn wsX11_firstLate (wsV RX11 229 RX3 yX3_goOn wsX3_goOn) := goodIn_app (goodIn_r _ [32, 33, 34, 7] rfl (by decide +kernel)) ggX11_firstLate_X3_goOn
set_option maxRecDepth 20000 in
theorem gwX11_lateMore : wsX11_lateMore.all goodWord = true := by decide +kernel
set_option maxRecDepth 20000 in
theorem ggX11_firstLate_X11_lateMore : GoodIn wsX11_firstLate wsX11_lateMore := goodIn_r _ [160, 1, 161, 162, 2, 163, 164, 165, 166, 167, 168, 169, 170, 171, 172, 173, 174, 175, 176, 177, 178, 179, 180, 181, 182, 183, 184, 185, 186, 187, 188, 189, 190, 191, 192, 193] rfl gwX11_lateMore
set_option maxRecDepth 20000 in
theorem gX11_firstLate_X11_lateMore : GoodIn wsX11_firstLate (wsV RX11 240 RX11 yX11_lateMore wsX11_lateMore) := goodIn_app (goodIn_r _ [156, 157, 158, 159] rfl (by decide +kernel)) ggX11_firstLate_X11_lateMore
theorem dX11_firstLate_0 : decode cX11_firstLate 0 = .ok (.aload_n 0, 1) := by decide +kernel
theorem dX11_firstLate_1 : decode cX11_firstLate 1 = .ok (.getfield 42, 3) := by decide +kernel
theorem dX11_firstLate_4 : decode cX11_firstLate 4 = .ok (.aload_n 0, 1) := by decide +kernel
theorem dX11_firstLate_5 : decode cX11_firstLate 5 = .ok (.getfield 38, 3) := by decide +kernel
theorem dX11_firstLate_8 : decode cX11_firstLate 8 = .ok (.invokevirtual 86, 3) := by decide +kernel
theorem dX11_firstLate_11 : decode cX11_firstLate 11 = .ok (.iconst 1, 1) := by decide +kernel
theorem dX11_firstLate_12 : decode cX11_firstLate 12 = .ok (.istore_n 1, 1) := by decide +kernel
theorem dX11_firstLate_13 : decode cX11_firstLate 13 = .ok (.iload_n 1, 1) := by decide +kernel
theorem dX11_firstLate_14 : decode cX11_firstLate 14 = .ok (.bipush 99, 2) := by decide +kernel
theorem dX11_firstLate_16 : decode cX11_firstLate 16 = .ok (.if_icmp .gt 46, 3) := by decide +kernel
theorem dX11_firstLate_19 : decode cX11_firstLate 19 = .ok (.aload_n 0, 1) := by decide +kernel
theorem dX11_firstLate_20 : decode cX11_firstLate 20 = .ok (.getfield 42, 3) := by decide +kernel
theorem dX11_firstLate_23 : decode cX11_firstLate 23 = .ok (.iconst 0, 1) := by decide +kernel
theorem dX11_firstLate_24 : decode cX11_firstLate 24 = .ok (.invokevirtual 229, 3) := by decide +kernel
theorem dX11_firstLate_27 : decode cX11_firstLate 27 = .ok (.iconst 0, 1) := by decide +kernel
theorem dX11_firstLate_28 : decode cX11_firstLate 28 = .ok (.istore_n 2, 1) := by decide +kernel
theorem dX11_firstLate_29 : decode cX11_firstLate 29 = .ok (.iload_n 2, 1) := by decide +kernel
theorem dX11_firstLate_30 : decode cX11_firstLate 30 = .ok (.aload_n 0, 1) := by decide +kernel
theorem dX11_firstLate_31 : decode cX11_firstLate 31 = .ok (.getfield 38, 3) := by decide +kernel
theorem dX11_firstLate_34 : decode cX11_firstLate 34 = .ok (.getfield 182, 3) := by decide +kernel
theorem dX11_firstLate_37 : decode cX11_firstLate 37 = .ok (.if_icmp .ge 19, 3) := by decide +kernel
theorem dX11_firstLate_40 : decode cX11_firstLate 40 = .ok (.aload_n 0, 1) := by decide +kernel
theorem dX11_firstLate_41 : decode cX11_firstLate 41 = .ok (.iload_n 2, 1) := by decide +kernel
theorem dX11_firstLate_42 : decode cX11_firstLate 42 = .ok (.invokevirtual 240, 3) := by decide +kernel
theorem dX11_firstLate_45 : decode cX11_firstLate 45 = .ok (.ifCond .le 5, 3) := by decide +kernel
theorem dX11_firstLate_48 : decode cX11_firstLate 48 = .ok (.iload_n 2, 1) := by decide +kernel
theorem dX11_firstLate_49 : decode cX11_firstLate 49 = .ok (.ireturn, 1) := by decide +kernel
theorem dX11_firstLate_50 : decode cX11_firstLate 50 = .ok (.iinc 2 1, 3) := by decide +kernel
theorem dX11_firstLate_53 : decode cX11_firstLate 53 = .ok (.goto (-24), 3) := by decide +kernel
theorem dX11_firstLate_56 : decode cX11_firstLate 56 = .ok (.iinc 1 1, 3) := by decide +kernel
theorem dX11_firstLate_59 : decode cX11_firstLate 59 = .ok (.goto (-46), 3) := by decide +kernel
theorem dX11_firstLate_62 : decode cX11_firstLate 62 = .ok (.bipush (-4), 2) := by decide +kernel
theorem dX11_firstLate_64 : decode cX11_firstLate 64 = .ok (.ireturn, 1) := by decide +kernel
set_option maxRecDepth 20000 in
theorem ggX11_ticksTillLate_X3_goOn : GoodIn wsX11_ticksTillLate wsX3_goOn := goodIn_r _ [6, 7, 8, 9, 10, 11, 12, 5, 13, 14, 15, 16, 17, 18, 19, 20, 21, 22, 23, 24, 25, 26, 27, 28, 29, 30, 31, 32, 33, 34, 35, 36, 37, 38, 39, 40, 41, 42, 43, 44, 45, 46, 47, 48, 49, 50, 51, 52, 53, 54, 55, 56, 57, 58, 59, 60, 61, 62, 63, 64, 65, 66, 67, 68, 69, 70, 71, 72, 73, 74, 75, 76, 77, 78, 79, 80, 81, 82, 83, 84, 85, 86, 87, 88, 89, 90, 91, 92, 93, 94, 95, 96, 97, 98, 99, 100, 101, 102, 103, 104, 105, 106, 107, 108, 109, 110, 111, 112, 113, 114, 115, 116, 117, 118, 119, 120, 121, 122, 123, 124, 125, 126, 127, 128, 129, 130, 131, 132, 133, 134, 135, 136, 137, 138, 139, 140, 141, 142, 162, 163, 164, 165, 166, 167, 168, 169, 170, 171, 172, 173, 174, 175, 176, 177, 178, 179, 180, 181] rfl gwX3_goOn
set_option maxRecDepth 20000 in
theorem gX11_ticksTillLate_X3_goOn : GoodIn wsX11_ticksTillLate (wsV RX11 229 RX3 yX3_goOn wsX3_goOn) := goodIn_app (goodIn_r _ [2, 3, 4, 5] rfl (by decide +kernel)) ggX11_ticksTillLate_X3_goOn
set_option maxRecDepth 20000 in
theorem ggX11_ticksTillLate_X11_lateMore : GoodIn wsX11_ticksTillLate wsX11_lateMore := goodIn_r _ [147, 1, 148, 149, 150, 151, 152, 153, 154, 155, 156, 157, 158, 159, 160, 161, 162, 163, 164, 165, 166, 167, 168, 169, 170, 171, 172, 173, 174, 175, 176, 177, 178, 179, 180, 181] rfl gwX11_lateMore
set_option maxRecDepth 20000 in
theorem gX11_ticksTillLate_X11_lateMore : GoodIn wsX11_ticksTillLate (wsV RX11 240 RX11 yX11_lateMore wsX11_lateMore) := goodIn_app (goodIn_r _ [143, 144, 145, 146] rfl (by decide +kernel)) ggX11_ticksTillLate_X11_lateMore
theorem dX11_ticksTillLate_0 : decode cX11_ticksTillLate 0 = .ok (.iconst 1, 1) := by decide +kernel
theorem dX11_ticksTillLate_1 : decode cX11_ticksTillLate 1 = .ok (.istore_n 3, 1) := by decide +kernel
theorem dX11_ticksTillLate_2 : decode cX11_ticksTillLate 2 = .ok (.iload_n 3, 1) := by decide +kernel
theorem dX11_ticksTillLate_3 : decode cX11_ticksTillLate 3 = .ok (.iload_n 2, 1) := by decide +kernel
theorem dX11_ticksTillLate_4 : decode cX11_ticksTillLate 4 = .ok (.if_icmp .gt 27, 3) := by decide +kernel
theorem dX11_ticksTillLate_7 : decode cX11_ticksTillLate 7 = .ok (.aload_n 0, 1) := by decide +kernel
theorem dX11_ticksTillLate_8 : decode cX11_ticksTillLate 8 = .ok (.getfield 42, 3) := by decide +kernel
theorem dX11_ticksTillLate_11 : decode cX11_ticksTillLate 11 = .ok (.iconst 0, 1) := by decide +kernel
theorem dX11_ticksTillLate_12 : decode cX11_ticksTillLate 12 = .ok (.invokevirtual 229, 3) := by decide +kernel
theorem dX11_ticksTillLate_15 : decode cX11_ticksTillLate 15 = .ok (.aload_n 0, 1) := by decide +kernel
theorem dX11_ticksTillLate_16 : decode cX11_ticksTillLate 16 = .ok (.iload_n 1, 1) := by decide +kernel
theorem dX11_ticksTillLate_17 : decode cX11_ticksTillLate 17 = .ok (.invokevirtual 240, 3) := by decide +kernel
theorem dX11_ticksTillLate_20 : decode cX11_ticksTillLate 20 = .ok (.ifCond .le 5, 3) := by decide +kernel
theorem dX11_ticksTillLate_23 : decode cX11_ticksTillLate 23 = .ok (.iload_n 3, 1) := by decide +kernel
theorem dX11_ticksTillLate_24 : decode cX11_ticksTillLate 24 = .ok (.ireturn, 1) := by decide +kernel
theorem dX11_ticksTillLate_25 : decode cX11_ticksTillLate 25 = .ok (.iinc 3 1, 3) := by decide +kernel
theorem dX11_ticksTillLate_28 : decode cX11_ticksTillLate 28 = .ok (.goto (-26), 3) := by decide +kernel
theorem dX11_ticksTillLate_31 : decode cX11_ticksTillLate 31 = .ok (.bipush (-4), 2) := by decide +kernel
theorem dX11_ticksTillLate_33 : decode cX11_ticksTillLate 33 = .ok (.ireturn, 1) := by decide +kernel
theorem dX11_lateMore_0 : decode cX11_lateMore 0 = .ok (.aload_n 0, 1) := by decide +kernel
theorem dX11_lateMore_1 : decode cX11_lateMore 1 = .ok (.getfield 42, 3) := by decide +kernel
theorem dX11_lateMore_4 : decode cX11_lateMore 4 = .ok (.getfield 107, 3) := by decide +kernel
theorem dX11_lateMore_7 : decode cX11_lateMore 7 = .ok (.iload_n 1, 1) := by decide +kernel
theorem dX11_lateMore_8 : decode cX11_lateMore 8 = .ok (.aaload, 1) := by decide +kernel
theorem dX11_lateMore_9 : decode cX11_lateMore 9 = .ok (.getfield 144, 3) := by decide +kernel
theorem dX11_lateMore_12 : decode cX11_lateMore 12 = .ok (.aload_n 0, 1) := by decide +kernel
theorem dX11_lateMore_13 : decode cX11_lateMore 13 = .ok (.getfield 38, 3) := by decide +kernel
theorem dX11_lateMore_16 : decode cX11_lateMore 16 = .ok (.getfield 107, 3) := by decide +kernel
theorem dX11_lateMore_19 : decode cX11_lateMore 19 = .ok (.iload_n 1, 1) := by decide +kernel
theorem dX11_lateMore_20 : decode cX11_lateMore 20 = .ok (.aaload, 1) := by decide +kernel
theorem dX11_lateMore_21 : decode cX11_lateMore 21 = .ok (.getfield 144, 3) := by decide +kernel
theorem dX11_lateMore_24 : decode cX11_lateMore 24 = .ok (.isub, 1) := by decide +kernel
theorem dX11_lateMore_25 : decode cX11_lateMore 25 = .ok (.ireturn, 1) := by decide +kernel
set_option maxRecDepth 20000 in
theorem ggX11_ran_X3_has : GoodIn wsX11_ran wsX3_has := goodIn_r _ [9, 10, 11, 12, 13, 176, 177, 178, 179, 180] rfl gwX3_has
set_option maxRecDepth 20000 in
theorem gX11_ran_X3_has : GoodIn wsX11_ran (wsV RX11 103 RX3 yX3_has wsX3_has) := goodIn_app (goodIn_r _ [5, 6, 7, 8] rfl (by decide +kernel)) ggX11_ran_X3_has
set_option maxRecDepth 20000 in
theorem ggX11_ran_X11_within : GoodIn wsX11_ran wsX11_within := goodIn_r _ [13] rfl gwX11_within
set_option maxRecDepth 20000 in
theorem gX11_ran_X11_within : GoodIn wsX11_ran (va_wsS RX11 158 yX11_within wsX11_within) := goodIn_app (goodIn_r _ [14, 11, 12] rfl (by decide +kernel)) ggX11_ran_X11_within
set_option maxRecDepth 20000 in
theorem ggX11_ran_X3_becomes : GoodIn wsX11_ran wsX3_becomes := goodIn_r _ [18, 10, 19, 20, 21, 22, 23, 24, 25, 26, 27, 28, 29, 30, 31, 32, 33, 34, 35, 36, 37, 38, 39, 40, 176, 177, 178, 179, 180, 181, 182, 183, 184, 185, 186, 187, 188, 189, 190, 191, 192, 193, 194, 195] rfl gwX3_becomes
set_option maxRecDepth 20000 in
theorem gX11_ran_X3_becomes : GoodIn wsX11_ran (wsV RX11 86 RX3 yX3_becomes wsX3_becomes) := goodIn_app (goodIn_r _ [15, 16, 17, 8] rfl (by decide +kernel)) ggX11_ran_X3_becomes
set_option maxRecDepth 20000 in
theorem ggX11_ran_X3_goOn : GoodIn wsX11_ran wsX3_goOn := goodIn_r _ [44, 45, 46, 19, 47, 48, 49, 8, 50, 10, 20, 51, 52, 53, 54, 55, 56, 57, 58, 59, 60, 61, 62, 63, 64, 65, 66, 67, 68, 69, 70, 71, 72, 73, 74, 75, 76, 77, 78, 79, 80, 81, 82, 24, 83, 31, 29, 28, 32, 84, 85, 86, 87, 88, 89, 90, 91, 92, 93, 94, 95, 96, 97, 98, 99, 100, 101, 36, 39, 38, 102, 103, 104, 105, 106, 107, 108, 109, 110, 111, 112, 113, 114, 115, 116, 117, 118, 119, 120, 121, 122, 123, 124, 125, 126, 127, 128, 129, 130, 131, 132, 133, 134, 135, 136, 137, 138, 139, 140, 141, 142, 143, 144, 37, 40, 34, 145, 146, 147, 148, 35, 33, 149, 150, 151, 152, 153, 154, 155, 156, 157, 158, 159, 160, 161, 162, 163, 164, 176, 177, 178, 179, 180, 181, 182, 183, 184, 185, 186, 187, 188, 189, 190, 191, 192, 193, 194, 195] rfl gwX3_goOn
set_option maxRecDepth 20000 in
theorem gX11_ran_X3_goOn : GoodIn wsX11_ran (wsV RX11 229 RX3 yX3_goOn wsX3_goOn) := goodIn_app (goodIn_r _ [41, 42, 43, 8] rfl (by decide +kernel)) ggX11_ran_X3_goOn
theorem dX11_ran_0 : decode cX11_ran 0 = .ok (.aload_n 0, 1) := by decide +kernel
theorem dX11_ran_1 : decode cX11_ran 1 = .ok (.getfield 38, 3) := by decide +kernel
theorem dX11_ran_4 : decode cX11_ran 4 = .ok (.iload_n 1, 1) := by decide +kernel
theorem dX11_ran_5 : decode cX11_ran 5 = .ok (.invokevirtual 103, 3) := by decide +kernel
theorem dX11_ran_8 : decode cX11_ran 8 = .ok (.ifCond .eq 22, 3) := by decide +kernel
theorem dX11_ran_11 : decode cX11_ran 11 = .ok (.iload_n 2, 1) := by decide +kernel
theorem dX11_ran_12 : decode cX11_ran 12 = .ok (.iconst 0, 1) := by decide +kernel
theorem dX11_ran_13 : decode cX11_ran 13 = .ok (.bipush 99, 2) := by decide +kernel
theorem dX11_ran_15 : decode cX11_ran 15 = .ok (.invokestatic 158, 3) := by decide +kernel
theorem dX11_ran_18 : decode cX11_ran 18 = .ok (.ifCond .eq 12, 3) := by decide +kernel
theorem dX11_ran_21 : decode cX11_ran 21 = .ok (.iload_n 3, 1) := by decide +kernel
theorem dX11_ran_22 : decode cX11_ran 22 = .ok (.iconst 0, 1) := by decide +kernel
theorem dX11_ran_23 : decode cX11_ran 23 = .ok (.iconst 1, 1) := by decide +kernel
theorem dX11_ran_24 : decode cX11_ran 24 = .ok (.invokestatic 158, 3) := by decide +kernel
theorem dX11_ran_27 : decode cX11_ran 27 = .ok (.ifCond .ne 5, 3) := by decide +kernel
theorem dX11_ran_30 : decode cX11_ran 30 = .ok (.iconst (-1), 1) := by decide +kernel
theorem dX11_ran_31 : decode cX11_ran 31 = .ok (.ireturn, 1) := by decide +kernel
theorem dX11_ran_32 : decode cX11_ran 32 = .ok (.aload_n 0, 1) := by decide +kernel
theorem dX11_ran_33 : decode cX11_ran 33 = .ok (.getfield 42, 3) := by decide +kernel
theorem dX11_ran_36 : decode cX11_ran 36 = .ok (.aload_n 0, 1) := by decide +kernel
theorem dX11_ran_37 : decode cX11_ran 37 = .ok (.getfield 38, 3) := by decide +kernel
theorem dX11_ran_40 : decode cX11_ran 40 = .ok (.invokevirtual 86, 3) := by decide +kernel
theorem dX11_ran_43 : decode cX11_ran 43 = .ok (.iconst 0, 1) := by decide +kernel
theorem dX11_ran_44 : decode cX11_ran 44 = .ok (.istore 4, 2) := by decide +kernel
theorem dX11_ran_46 : decode cX11_ran 46 = .ok (.iconst 0, 1) := by decide +kernel
theorem dX11_ran_47 : decode cX11_ran 47 = .ok (.istore 5, 2) := by decide +kernel
theorem dX11_ran_49 : decode cX11_ran 49 = .ok (.iload 5, 2) := by decide +kernel
theorem dX11_ran_51 : decode cX11_ran 51 = .ok (.iload_n 2, 1) := by decide +kernel
theorem dX11_ran_52 : decode cX11_ran 52 = .ok (.if_icmp .ge 45, 3) := by decide +kernel
theorem dX11_ran_55 : decode cX11_ran 55 = .ok (.aload_n 0, 1) := by decide +kernel
theorem dX11_ran_56 : decode cX11_ran 56 = .ok (.getfield 42, 3) := by decide +kernel
theorem dX11_ran_59 : decode cX11_ran 59 = .ok (.iconst 0, 1) := by decide +kernel
theorem dX11_ran_60 : decode cX11_ran 60 = .ok (.invokevirtual 229, 3) := by decide +kernel
theorem dX11_ran_63 : decode cX11_ran 63 = .ok (.iload_n 3, 1) := by decide +kernel
theorem dX11_ran_64 : decode cX11_ran 64 = .ok (.ifCond .ne 13, 3) := by decide +kernel
theorem dX11_ran_67 : decode cX11_ran 67 = .ok (.aload_n 0, 1) := by decide +kernel
theorem dX11_ran_68 : decode cX11_ran 68 = .ok (.getfield 42, 3) := by decide +kernel
theorem dX11_ran_71 : decode cX11_ran 71 = .ok (.getfield 219, 3) := by decide +kernel
theorem dX11_ran_74 : decode cX11_ran 74 = .ok (.goto 10, 3) := by decide +kernel
theorem dX11_ran_77 : decode cX11_ran 77 = .ok (.aload_n 0, 1) := by decide +kernel
theorem dX11_ran_78 : decode cX11_ran 78 = .ok (.getfield 42, 3) := by decide +kernel
theorem dX11_ran_81 : decode cX11_ran 81 = .ok (.getfield 216, 3) := by decide +kernel
theorem dX11_ran_84 : decode cX11_ran 84 = .ok (.iload_n 1, 1) := by decide +kernel
theorem dX11_ran_85 : decode cX11_ran 85 = .ok (.if_icmp .ne 6, 3) := by decide +kernel
theorem dX11_ran_88 : decode cX11_ran 88 = .ok (.iinc 4 1, 3) := by decide +kernel
theorem dX11_ran_91 : decode cX11_ran 91 = .ok (.iinc 5 1, 3) := by decide +kernel
theorem dX11_ran_94 : decode cX11_ran 94 = .ok (.goto (-45), 3) := by decide +kernel
theorem dX11_ran_97 : decode cX11_ran 97 = .ok (.iload 4, 2) := by decide +kernel
theorem dX11_ran_99 : decode cX11_ran 99 = .ok (.ireturn, 1) := by decide +kernel
set_option maxRecDepth 20000 in
theorem ggX11_admitted_X11_isBudget : GoodIn wsX11_admitted wsX11_isBudget := goodIn_r _ [8, 9, 10, 7, 11] rfl gwX11_isBudget
set_option maxRecDepth 20000 in
theorem gX11_admitted_X11_isBudget : GoodIn wsX11_admitted (va_wsS RX11 175 yX11_isBudget wsX11_isBudget) := goodIn_app (goodIn_r _ [5, 6, 7] rfl (by decide +kernel)) ggX11_admitted_X11_isBudget
set_option maxRecDepth 20000 in
theorem ggX11_admitted_X11_partOf : GoodIn wsX11_admitted wsX11_partOf := goodIn_r _ [14] rfl gwX11_partOf
set_option maxRecDepth 20000 in
theorem gX11_admitted_X11_partOf : GoodIn wsX11_admitted (va_wsS RX11 243 yX11_partOf wsX11_partOf) := goodIn_app (goodIn_r _ [12, 13, 7] rfl (by decide +kernel)) ggX11_admitted_X11_partOf
theorem dX11_admitted_0 : decode cX11_admitted 0 = .ok (.iload_n 1, 1) := by decide +kernel
theorem dX11_admitted_1 : decode cX11_admitted 1 = .ok (.iload_n 2, 1) := by decide +kernel
theorem dX11_admitted_2 : decode cX11_admitted 2 = .ok (.invokestatic 175, 3) := by decide +kernel
theorem dX11_admitted_5 : decode cX11_admitted 5 = .ok (.ifCond .ne 5, 3) := by decide +kernel
theorem dX11_admitted_8 : decode cX11_admitted 8 = .ok (.iconst (-1), 1) := by decide +kernel
theorem dX11_admitted_9 : decode cX11_admitted 9 = .ok (.ireturn, 1) := by decide +kernel
theorem dX11_admitted_10 : decode cX11_admitted 10 = .ok (.iload_n 1, 1) := by decide +kernel
theorem dX11_admitted_11 : decode cX11_admitted 11 = .ok (.iload_n 2, 1) := by decide +kernel
theorem dX11_admitted_12 : decode cX11_admitted 12 = .ok (.invokestatic 243, 3) := by decide +kernel
theorem dX11_admitted_15 : decode cX11_admitted 15 = .ok (.istore_n 3, 1) := by decide +kernel
theorem dX11_admitted_16 : decode cX11_admitted 16 = .ok (.iconst 0, 1) := by decide +kernel
theorem dX11_admitted_17 : decode cX11_admitted 17 = .ok (.istore 4, 2) := by decide +kernel
theorem dX11_admitted_19 : decode cX11_admitted 19 = .ok (.iload 4, 2) := by decide +kernel
theorem dX11_admitted_21 : decode cX11_admitted 21 = .ok (.aload_n 0, 1) := by decide +kernel
theorem dX11_admitted_22 : decode cX11_admitted 22 = .ok (.getfield 38, 3) := by decide +kernel
theorem dX11_admitted_25 : decode cX11_admitted 25 = .ok (.getfield 182, 3) := by decide +kernel
theorem dX11_admitted_28 : decode cX11_admitted 28 = .ok (.if_icmp .ge 25, 3) := by decide +kernel
theorem dX11_admitted_31 : decode cX11_admitted 31 = .ok (.iload_n 3, 1) := by decide +kernel
theorem dX11_admitted_32 : decode cX11_admitted 32 = .ok (.aload_n 0, 1) := by decide +kernel
theorem dX11_admitted_33 : decode cX11_admitted 33 = .ok (.getfield 38, 3) := by decide +kernel
theorem dX11_admitted_36 : decode cX11_admitted 36 = .ok (.getfield 107, 3) := by decide +kernel
theorem dX11_admitted_39 : decode cX11_admitted 39 = .ok (.iload 4, 2) := by decide +kernel
theorem dX11_admitted_41 : decode cX11_admitted 41 = .ok (.aaload, 1) := by decide +kernel
theorem dX11_admitted_42 : decode cX11_admitted 42 = .ok (.getfield 129, 3) := by decide +kernel
theorem dX11_admitted_45 : decode cX11_admitted 45 = .ok (.iadd, 1) := by decide +kernel
theorem dX11_admitted_46 : decode cX11_admitted 46 = .ok (.istore_n 3, 1) := by decide +kernel
theorem dX11_admitted_47 : decode cX11_admitted 47 = .ok (.iinc 4 1, 3) := by decide +kernel
theorem dX11_admitted_50 : decode cX11_admitted 50 = .ok (.goto (-31), 3) := by decide +kernel
theorem dX11_admitted_53 : decode cX11_admitted 53 = .ok (.iload_n 3, 1) := by decide +kernel
theorem dX11_admitted_54 : decode cX11_admitted 54 = .ok (.bipush 60, 2) := by decide +kernel
theorem dX11_admitted_56 : decode cX11_admitted 56 = .ok (.if_icmp .gt 7, 3) := by decide +kernel
theorem dX11_admitted_59 : decode cX11_admitted 59 = .ok (.iconst 1, 1) := by decide +kernel
theorem dX11_admitted_60 : decode cX11_admitted 60 = .ok (.goto 4, 3) := by decide +kernel
theorem dX11_admitted_63 : decode cX11_admitted 63 = .ok (.iconst 0, 1) := by decide +kernel
theorem dX11_admitted_64 : decode cX11_admitted 64 = .ok (.ireturn, 1) := by decide +kernel
set_option maxRecDepth 20000 in
theorem ggX11_demand_X11_within : GoodIn wsX11_demand wsX11_within := goodIn_r _ [5] rfl gwX11_within
set_option maxRecDepth 20000 in
theorem gX11_demand_X11_within : GoodIn wsX11_demand (va_wsS RX11 158 yX11_within wsX11_within) := goodIn_app (goodIn_r _ [2, 3, 4] rfl (by decide +kernel)) ggX11_demand_X11_within
set_option maxRecDepth 20000 in
theorem gwX3_demandIn : wsX3_demandIn.all goodWord = true := by decide +kernel
set_option maxRecDepth 20000 in
theorem ggX11_demand_X3_demandIn : GoodIn wsX11_demand wsX3_demandIn := goodIn_r _ [10, 11, 12, 13, 14, 26, 27, 28, 29, 30, 31, 32, 33, 34, 35, 36, 37, 38, 39, 40, 41, 42, 43, 44, 45] rfl gwX3_demandIn
set_option maxRecDepth 20000 in
theorem gX11_demand_X3_demandIn : GoodIn wsX11_demand (wsV RX11 246 RX3 yX3_demandIn wsX3_demandIn) := goodIn_app (goodIn_r _ [6, 7, 8, 9] rfl (by decide +kernel)) ggX11_demand_X3_demandIn
theorem dX11_demand_0 : decode cX11_demand 0 = .ok (.iload_n 1, 1) := by decide +kernel
theorem dX11_demand_1 : decode cX11_demand 1 = .ok (.iconst 1, 1) := by decide +kernel
theorem dX11_demand_2 : decode cX11_demand 2 = .ok (.bipush 99, 2) := by decide +kernel
theorem dX11_demand_4 : decode cX11_demand 4 = .ok (.invokestatic 158, 3) := by decide +kernel
theorem dX11_demand_7 : decode cX11_demand 7 = .ok (.ifCond .eq 12, 3) := by decide +kernel
theorem dX11_demand_10 : decode cX11_demand 10 = .ok (.iload_n 2, 1) := by decide +kernel
theorem dX11_demand_11 : decode cX11_demand 11 = .ok (.iconst 0, 1) := by decide +kernel
theorem dX11_demand_12 : decode cX11_demand 12 = .ok (.iconst 1, 1) := by decide +kernel
theorem dX11_demand_13 : decode cX11_demand 13 = .ok (.invokestatic 158, 3) := by decide +kernel
theorem dX11_demand_16 : decode cX11_demand 16 = .ok (.ifCond .ne 5, 3) := by decide +kernel
theorem dX11_demand_19 : decode cX11_demand 19 = .ok (.iconst (-1), 1) := by decide +kernel
theorem dX11_demand_20 : decode cX11_demand 20 = .ok (.ireturn, 1) := by decide +kernel
theorem dX11_demand_21 : decode cX11_demand 21 = .ok (.iload_n 2, 1) := by decide +kernel
theorem dX11_demand_22 : decode cX11_demand 22 = .ok (.ifCond .ne 12, 3) := by decide +kernel
theorem dX11_demand_25 : decode cX11_demand 25 = .ok (.aload_n 0, 1) := by decide +kernel
theorem dX11_demand_26 : decode cX11_demand 26 = .ok (.getfield 38, 3) := by decide +kernel
theorem dX11_demand_29 : decode cX11_demand 29 = .ok (.iload_n 1, 1) := by decide +kernel
theorem dX11_demand_30 : decode cX11_demand 30 = .ok (.invokevirtual 246, 3) := by decide +kernel
theorem dX11_demand_33 : decode cX11_demand 33 = .ok (.ireturn, 1) := by decide +kernel
theorem dX11_demand_34 : decode cX11_demand 34 = .ok (.iconst 1, 1) := by decide +kernel
theorem dX11_demand_35 : decode cX11_demand 35 = .ok (.istore_n 3, 1) := by decide +kernel
theorem dX11_demand_36 : decode cX11_demand 36 = .ok (.iload_n 3, 1) := by decide +kernel
theorem dX11_demand_37 : decode cX11_demand 37 = .ok (.iload_n 1, 1) := by decide +kernel
theorem dX11_demand_38 : decode cX11_demand 38 = .ok (.if_icmp .gt 23, 3) := by decide +kernel
theorem dX11_demand_41 : decode cX11_demand 41 = .ok (.aload_n 0, 1) := by decide +kernel
theorem dX11_demand_42 : decode cX11_demand 42 = .ok (.getfield 38, 3) := by decide +kernel
theorem dX11_demand_45 : decode cX11_demand 45 = .ok (.iload_n 3, 1) := by decide +kernel
theorem dX11_demand_46 : decode cX11_demand 46 = .ok (.invokevirtual 246, 3) := by decide +kernel
theorem dX11_demand_49 : decode cX11_demand 49 = .ok (.iload_n 3, 1) := by decide +kernel
theorem dX11_demand_50 : decode cX11_demand 50 = .ok (.if_icmp .le 5, 3) := by decide +kernel
theorem dX11_demand_53 : decode cX11_demand 53 = .ok (.iconst 0, 1) := by decide +kernel
theorem dX11_demand_54 : decode cX11_demand 54 = .ok (.ireturn, 1) := by decide +kernel
theorem dX11_demand_55 : decode cX11_demand 55 = .ok (.iinc 3 1, 3) := by decide +kernel
theorem dX11_demand_58 : decode cX11_demand 58 = .ok (.goto (-22), 3) := by decide +kernel
theorem dX11_demand_61 : decode cX11_demand 61 = .ok (.iconst 1, 1) := by decide +kernel
theorem dX11_demand_62 : decode cX11_demand 62 = .ok (.ireturn, 1) := by decide +kernel
set_option maxRecDepth 20000 in
theorem ggX11_needs_X3_has : GoodIn wsX11_needs wsX3_has := goodIn_r _ [9, 10, 11, 12, 13, 191, 192, 193, 194, 195] rfl gwX3_has
set_option maxRecDepth 20000 in
theorem gX11_needs_X3_has : GoodIn wsX11_needs (wsV RX11 103 RX3 yX3_has wsX3_has) := goodIn_app (goodIn_r _ [5, 6, 7, 8] rfl (by decide +kernel)) ggX11_needs_X3_has
set_option maxRecDepth 20000 in
theorem ggX11_needs_X11_within : GoodIn wsX11_needs wsX11_within := goodIn_r _ [13] rfl gwX11_within
set_option maxRecDepth 20000 in
theorem gX11_needs_X11_within : GoodIn wsX11_needs (va_wsS RX11 158 yX11_within wsX11_within) := goodIn_app (goodIn_r _ [14, 11, 12] rfl (by decide +kernel)) ggX11_needs_X11_within
set_option maxRecDepth 20000 in
theorem ggX11_needs_X3_becomes : GoodIn wsX11_needs wsX3_becomes := goodIn_r _ [18, 10, 19, 20, 21, 22, 23, 24, 25, 26, 27, 28, 29, 30, 31, 32, 33, 34, 35, 36, 37, 38, 39, 40, 191, 192, 193, 194, 195, 196, 197, 198, 199, 200, 201, 202, 203, 204, 205, 206, 207, 208, 209, 210] rfl gwX3_becomes
set_option maxRecDepth 20000 in
theorem gX11_needs_X3_becomes : GoodIn wsX11_needs (wsV RX11 86 RX3 yX3_becomes wsX3_becomes) := goodIn_app (goodIn_r _ [15, 16, 17, 8] rfl (by decide +kernel)) ggX11_needs_X3_becomes
set_option maxRecDepth 20000 in
theorem ggX11_needs_X5_setBudget : GoodIn wsX11_needs wsX5_setBudget := goodIn_r _ [44, 28, 29, 30, 45, 12, 46, 196, 197, 198, 199, 200, 201, 202, 203, 204, 205, 206, 207, 208, 209, 210] rfl gwX5_setBudget
set_option maxRecDepth 20000 in
theorem gX11_needs_X5_setBudget : GoodIn wsX11_needs (wsV RX11 249 RX5 yX5_setBudget wsX5_setBudget) := goodIn_app (goodIn_r _ [41, 42, 43, 24] rfl (by decide +kernel)) ggX11_needs_X5_setBudget
set_option maxRecDepth 20000 in
theorem ggX11_needs_X11_ticksTillLate : GoodIn wsX11_needs wsX11_ticksTillLate := goodIn_r _ [50, 4, 51, 52, 53, 8, 54, 55, 56, 19, 57, 58, 59, 60, 10, 20, 61, 62, 63, 64, 65, 66, 67, 68, 69, 70, 71, 72, 73, 74, 75, 76, 77, 78, 79, 80, 81, 82, 83, 84, 85, 86, 87, 88, 89, 90, 91, 92, 24, 93, 31, 29, 28, 32, 94, 95, 96, 97, 98, 99, 100, 101, 102, 103, 104, 105, 106, 107, 108, 109, 110, 111, 36, 39, 38, 112, 113, 114, 115, 116, 117, 118, 119, 120, 121, 122, 123, 124, 125, 126, 127, 128, 129, 130, 131, 132, 133, 134, 135, 136, 137, 138, 139, 140, 141, 142, 143, 144, 145, 146, 147, 148, 149, 150, 151, 152, 153, 154, 37, 40, 34, 155, 156, 157, 158, 35, 33, 159, 160, 161, 162, 163, 164, 165, 166, 167, 168, 169, 170, 171, 172, 173, 174, 175, 176, 177, 12, 178, 2, 179, 1, 180, 181, 182, 183, 184, 185, 186, 187, 188, 189, 190, 191, 192, 193, 194, 195, 196, 197, 198, 199, 200, 201, 202, 203, 204, 205, 206, 207, 208, 209, 210] rfl gwX11_ticksTillLate
set_option maxRecDepth 20000 in
theorem gX11_needs_X11_ticksTillLate : GoodIn wsX11_needs (wsV RX11 236 RX11 yX11_ticksTillLate wsX11_ticksTillLate) := goodIn_app (goodIn_r _ [47, 48, 49, 12] rfl (by decide +kernel)) ggX11_needs_X11_ticksTillLate
theorem dX11_needs_0 : decode cX11_needs 0 = .ok (.aload_n 0, 1) := by decide +kernel
theorem dX11_needs_1 : decode cX11_needs 1 = .ok (.getfield 38, 3) := by decide +kernel
theorem dX11_needs_4 : decode cX11_needs 4 = .ok (.iload_n 1, 1) := by decide +kernel
theorem dX11_needs_5 : decode cX11_needs 5 = .ok (.invokevirtual 103, 3) := by decide +kernel
theorem dX11_needs_8 : decode cX11_needs 8 = .ok (.ifCond .eq 13, 3) := by decide +kernel
theorem dX11_needs_11 : decode cX11_needs 11 = .ok (.iload_n 2, 1) := by decide +kernel
theorem dX11_needs_12 : decode cX11_needs 12 = .ok (.iconst 0, 1) := by decide +kernel
theorem dX11_needs_13 : decode cX11_needs 13 = .ok (.bipush 60, 2) := by decide +kernel
theorem dX11_needs_15 : decode cX11_needs 15 = .ok (.invokestatic 158, 3) := by decide +kernel
theorem dX11_needs_18 : decode cX11_needs 18 = .ok (.ifCond .ne 5, 3) := by decide +kernel
theorem dX11_needs_21 : decode cX11_needs 21 = .ok (.iconst (-1), 1) := by decide +kernel
theorem dX11_needs_22 : decode cX11_needs 22 = .ok (.ireturn, 1) := by decide +kernel
theorem dX11_needs_23 : decode cX11_needs 23 = .ok (.aload_n 0, 1) := by decide +kernel
theorem dX11_needs_24 : decode cX11_needs 24 = .ok (.getfield 38, 3) := by decide +kernel
theorem dX11_needs_27 : decode cX11_needs 27 = .ok (.getfield 107, 3) := by decide +kernel
theorem dX11_needs_30 : decode cX11_needs 30 = .ok (.iload_n 1, 1) := by decide +kernel
theorem dX11_needs_31 : decode cX11_needs 31 = .ok (.aaload, 1) := by decide +kernel
theorem dX11_needs_32 : decode cX11_needs 32 = .ok (.getfield 126, 3) := by decide +kernel
theorem dX11_needs_35 : decode cX11_needs 35 = .ok (.istore_n 3, 1) := by decide +kernel
theorem dX11_needs_36 : decode cX11_needs 36 = .ok (.iconst 1, 1) := by decide +kernel
theorem dX11_needs_37 : decode cX11_needs 37 = .ok (.istore 4, 2) := by decide +kernel
theorem dX11_needs_39 : decode cX11_needs 39 = .ok (.iload 4, 2) := by decide +kernel
theorem dX11_needs_41 : decode cX11_needs 41 = .ok (.bipush 30, 2) := by decide +kernel
theorem dX11_needs_43 : decode cX11_needs 43 = .ok (.if_icmp .gt 55, 3) := by decide +kernel
theorem dX11_needs_46 : decode cX11_needs 46 = .ok (.iload 4, 2) := by decide +kernel
theorem dX11_needs_48 : decode cX11_needs 48 = .ok (.iload_n 3, 1) := by decide +kernel
theorem dX11_needs_49 : decode cX11_needs 49 = .ok (.if_icmp .gt 49, 3) := by decide +kernel
theorem dX11_needs_52 : decode cX11_needs 52 = .ok (.aload_n 0, 1) := by decide +kernel
theorem dX11_needs_53 : decode cX11_needs 53 = .ok (.getfield 42, 3) := by decide +kernel
theorem dX11_needs_56 : decode cX11_needs 56 = .ok (.aload_n 0, 1) := by decide +kernel
theorem dX11_needs_57 : decode cX11_needs 57 = .ok (.getfield 38, 3) := by decide +kernel
theorem dX11_needs_60 : decode cX11_needs 60 = .ok (.invokevirtual 86, 3) := by decide +kernel
theorem dX11_needs_63 : decode cX11_needs 63 = .ok (.aload_n 0, 1) := by decide +kernel
theorem dX11_needs_64 : decode cX11_needs 64 = .ok (.getfield 42, 3) := by decide +kernel
theorem dX11_needs_67 : decode cX11_needs 67 = .ok (.getfield 107, 3) := by decide +kernel
theorem dX11_needs_70 : decode cX11_needs 70 = .ok (.iload_n 1, 1) := by decide +kernel
theorem dX11_needs_71 : decode cX11_needs 71 = .ok (.aaload, 1) := by decide +kernel
theorem dX11_needs_72 : decode cX11_needs 72 = .ok (.iload 4, 2) := by decide +kernel
theorem dX11_needs_74 : decode cX11_needs 74 = .ok (.iload_n 3, 1) := by decide +kernel
theorem dX11_needs_75 : decode cX11_needs 75 = .ok (.invokevirtual 249, 3) := by decide +kernel
theorem dX11_needs_78 : decode cX11_needs 78 = .ok (.aload_n 0, 1) := by decide +kernel
theorem dX11_needs_79 : decode cX11_needs 79 = .ok (.iload_n 1, 1) := by decide +kernel
theorem dX11_needs_80 : decode cX11_needs 80 = .ok (.iload_n 2, 1) := by decide +kernel
theorem dX11_needs_81 : decode cX11_needs 81 = .ok (.invokevirtual 236, 3) := by decide +kernel
theorem dX11_needs_84 : decode cX11_needs 84 = .ok (.bipush (-4), 2) := by decide +kernel
theorem dX11_needs_86 : decode cX11_needs 86 = .ok (.if_icmp .ne 6, 3) := by decide +kernel
theorem dX11_needs_89 : decode cX11_needs 89 = .ok (.iload 4, 2) := by decide +kernel
theorem dX11_needs_91 : decode cX11_needs 91 = .ok (.ireturn, 1) := by decide +kernel
theorem dX11_needs_92 : decode cX11_needs 92 = .ok (.iinc 4 1, 3) := by decide +kernel
theorem dX11_needs_95 : decode cX11_needs 95 = .ok (.goto (-56), 3) := by decide +kernel
theorem dX11_needs_98 : decode cX11_needs 98 = .ok (.bipush (-4), 2) := by decide +kernel
theorem dX11_needs_100 : decode cX11_needs 100 = .ok (.ireturn, 1) := by decide +kernel
set_option maxRecDepth 20000 in
theorem ggX11_alone_X3_has : GoodIn wsX11_alone wsX3_has := goodIn_r _ [9, 10, 11, 12, 13, 189, 190, 191, 192, 193] rfl gwX3_has
set_option maxRecDepth 20000 in
theorem gX11_alone_X3_has : GoodIn wsX11_alone (wsV RX11 103 RX3 yX3_has wsX3_has) := goodIn_app (goodIn_r _ [5, 6, 7, 8] rfl (by decide +kernel)) ggX11_alone_X3_has
set_option maxRecDepth 20000 in
theorem ggX11_alone_X11_within : GoodIn wsX11_alone wsX11_within := goodIn_r _ [13] rfl gwX11_within
set_option maxRecDepth 20000 in
theorem gX11_alone_X11_within : GoodIn wsX11_alone (va_wsS RX11 158 yX11_within wsX11_within) := goodIn_app (goodIn_r _ [14, 11, 12] rfl (by decide +kernel)) ggX11_alone_X11_within
set_option maxRecDepth 20000 in
theorem ggX11_alone_X3_becomes : GoodIn wsX11_alone wsX3_becomes := goodIn_r _ [18, 10, 19, 20, 21, 22, 23, 24, 25, 26, 27, 28, 29, 30, 31, 32, 33, 34, 35, 36, 37, 38, 39, 40, 189, 190, 191, 192, 193, 194, 195, 196, 197, 198, 199, 200, 201, 202, 203, 204, 205, 206, 207, 208] rfl gwX3_becomes
set_option maxRecDepth 20000 in
theorem gX11_alone_X3_becomes : GoodIn wsX11_alone (wsV RX11 86 RX3 yX3_becomes wsX3_becomes) := goodIn_app (goodIn_r _ [15, 16, 17, 8] rfl (by decide +kernel)) ggX11_alone_X3_becomes
set_option maxRecDepth 20000 in
theorem ggX11_alone_X5_dropJobs : GoodIn wsX11_alone wsX5_dropJobs := goodIn_r _ [44, 36, 39, 33, 194, 195, 196, 197, 198, 199, 200, 201, 202, 203, 204, 205, 206, 207, 208] rfl gwX5_dropJobs
set_option maxRecDepth 20000 in
theorem gX11_alone_X5_dropJobs : GoodIn wsX11_alone (wsV RX11 200 RX5 yX5_dropJobs wsX5_dropJobs) := goodIn_app (goodIn_r _ [41, 42, 43, 24] rfl (by decide +kernel)) ggX11_alone_X5_dropJobs
set_option maxRecDepth 20000 in
theorem ggX11_alone_X3_goOnFor : GoodIn wsX11_alone wsX3_goOnFor := goodIn_r _ [48, 49, 50, 51, 8, 52, 53, 54, 19, 55, 56, 57, 58, 10, 20, 59, 60, 61, 62, 63, 64, 65, 66, 67, 68, 69, 70, 71, 72, 73, 74, 75, 76, 77, 78, 79, 80, 81, 82, 83, 84, 85, 86, 87, 88, 89, 90, 24, 91, 31, 29, 28, 32, 92, 93, 94, 95, 96, 97, 98, 99, 100, 101, 102, 103, 104, 105, 106, 107, 108, 109, 36, 39, 38, 110, 111, 112, 113, 114, 115, 116, 117, 118, 119, 120, 121, 122, 123, 124, 125, 126, 127, 128, 129, 130, 131, 132, 133, 134, 135, 136, 137, 138, 139, 140, 141, 142, 143, 144, 145, 146, 147, 148, 149, 150, 151, 152, 37, 40, 34, 153, 154, 155, 156, 35, 33, 157, 158, 159, 160, 161, 162, 163, 164, 165, 166, 167, 168, 169, 170, 171, 172, 189, 190, 191, 192, 193, 194, 195, 196, 197, 198, 199, 200, 201, 202, 203, 204, 205, 206, 207, 208] rfl gwX3_goOnFor
set_option maxRecDepth 20000 in
theorem gX11_alone_X3_goOnFor : GoodIn wsX11_alone (wsV RX11 206 RX3 yX3_goOnFor wsX3_goOnFor) := goodIn_app (goodIn_r _ [45, 46, 47, 8] rfl (by decide +kernel)) ggX11_alone_X3_goOnFor
set_option maxRecDepth 20000 in
theorem ggX11_alone_X11_lateMore : GoodIn wsX11_alone wsX11_lateMore := goodIn_r _ [176, 2, 4, 177, 1, 178, 179, 180, 181, 182, 183, 184, 185, 186, 187, 188, 189, 190, 191, 192, 193, 194, 195, 196, 197, 198, 199, 200, 201, 202, 203, 204, 205, 206, 207, 208] rfl gwX11_lateMore
set_option maxRecDepth 20000 in
theorem gX11_alone_X11_lateMore : GoodIn wsX11_alone (wsV RX11 240 RX11 yX11_lateMore wsX11_lateMore) := goodIn_app (goodIn_r _ [173, 174, 175, 12] rfl (by decide +kernel)) ggX11_alone_X11_lateMore
theorem dX11_alone_0 : decode cX11_alone 0 = .ok (.aload_n 0, 1) := by decide +kernel
theorem dX11_alone_1 : decode cX11_alone 1 = .ok (.getfield 38, 3) := by decide +kernel
theorem dX11_alone_4 : decode cX11_alone 4 = .ok (.iload_n 1, 1) := by decide +kernel
theorem dX11_alone_5 : decode cX11_alone 5 = .ok (.invokevirtual 103, 3) := by decide +kernel
theorem dX11_alone_8 : decode cX11_alone 8 = .ok (.ifCond .eq 13, 3) := by decide +kernel
theorem dX11_alone_11 : decode cX11_alone 11 = .ok (.iload_n 2, 1) := by decide +kernel
theorem dX11_alone_12 : decode cX11_alone 12 = .ok (.iconst 0, 1) := by decide +kernel
theorem dX11_alone_13 : decode cX11_alone 13 = .ok (.bipush 60, 2) := by decide +kernel
theorem dX11_alone_15 : decode cX11_alone 15 = .ok (.invokestatic 158, 3) := by decide +kernel
theorem dX11_alone_18 : decode cX11_alone 18 = .ok (.ifCond .ne 5, 3) := by decide +kernel
theorem dX11_alone_21 : decode cX11_alone 21 = .ok (.iconst (-1), 1) := by decide +kernel
theorem dX11_alone_22 : decode cX11_alone 22 = .ok (.ireturn, 1) := by decide +kernel
theorem dX11_alone_23 : decode cX11_alone 23 = .ok (.aload_n 0, 1) := by decide +kernel
theorem dX11_alone_24 : decode cX11_alone 24 = .ok (.getfield 42, 3) := by decide +kernel
theorem dX11_alone_27 : decode cX11_alone 27 = .ok (.aload_n 0, 1) := by decide +kernel
theorem dX11_alone_28 : decode cX11_alone 28 = .ok (.getfield 38, 3) := by decide +kernel
theorem dX11_alone_31 : decode cX11_alone 31 = .ok (.invokevirtual 86, 3) := by decide +kernel
theorem dX11_alone_34 : decode cX11_alone 34 = .ok (.iconst 0, 1) := by decide +kernel
theorem dX11_alone_35 : decode cX11_alone 35 = .ok (.istore_n 3, 1) := by decide +kernel
theorem dX11_alone_36 : decode cX11_alone 36 = .ok (.iload_n 3, 1) := by decide +kernel
theorem dX11_alone_37 : decode cX11_alone 37 = .ok (.aload_n 0, 1) := by decide +kernel
theorem dX11_alone_38 : decode cX11_alone 38 = .ok (.getfield 42, 3) := by decide +kernel
theorem dX11_alone_41 : decode cX11_alone 41 = .ok (.getfield 182, 3) := by decide +kernel
theorem dX11_alone_44 : decode cX11_alone 44 = .ok (.if_icmp .ge 26, 3) := by decide +kernel
theorem dX11_alone_47 : decode cX11_alone 47 = .ok (.iload_n 3, 1) := by decide +kernel
theorem dX11_alone_48 : decode cX11_alone 48 = .ok (.iload_n 1, 1) := by decide +kernel
theorem dX11_alone_49 : decode cX11_alone 49 = .ok (.if_icmp .eq 15, 3) := by decide +kernel
theorem dX11_alone_52 : decode cX11_alone 52 = .ok (.aload_n 0, 1) := by decide +kernel
theorem dX11_alone_53 : decode cX11_alone 53 = .ok (.getfield 42, 3) := by decide +kernel
theorem dX11_alone_56 : decode cX11_alone 56 = .ok (.getfield 107, 3) := by decide +kernel
theorem dX11_alone_59 : decode cX11_alone 59 = .ok (.iload_n 3, 1) := by decide +kernel
theorem dX11_alone_60 : decode cX11_alone 60 = .ok (.aaload, 1) := by decide +kernel
theorem dX11_alone_61 : decode cX11_alone 61 = .ok (.invokevirtual 200, 3) := by decide +kernel
theorem dX11_alone_64 : decode cX11_alone 64 = .ok (.iinc 3 1, 3) := by decide +kernel
theorem dX11_alone_67 : decode cX11_alone 67 = .ok (.goto (-31), 3) := by decide +kernel
theorem dX11_alone_70 : decode cX11_alone 70 = .ok (.aload_n 0, 1) := by decide +kernel
theorem dX11_alone_71 : decode cX11_alone 71 = .ok (.getfield 42, 3) := by decide +kernel
theorem dX11_alone_74 : decode cX11_alone 74 = .ok (.iload_n 2, 1) := by decide +kernel
theorem dX11_alone_75 : decode cX11_alone 75 = .ok (.invokevirtual 206, 3) := by decide +kernel
theorem dX11_alone_78 : decode cX11_alone 78 = .ok (.aload_n 0, 1) := by decide +kernel
theorem dX11_alone_79 : decode cX11_alone 79 = .ok (.iload_n 1, 1) := by decide +kernel
theorem dX11_alone_80 : decode cX11_alone 80 = .ok (.invokevirtual 240, 3) := by decide +kernel
theorem dX11_alone_83 : decode cX11_alone 83 = .ok (.ireturn, 1) := by decide +kernel
set_option maxRecDepth 20000 in
theorem ggX11_kindBest_X3_has : GoodIn wsX11_kindBest wsX3_has := goodIn_r _ [10, 11, 12, 13, 14, 190, 191, 192, 193, 194] rfl gwX3_has
set_option maxRecDepth 20000 in
theorem gX11_kindBest_X3_has : GoodIn wsX11_kindBest (wsV RX11 103 RX3 yX3_has wsX3_has) := goodIn_app (goodIn_r _ [6, 7, 8, 9] rfl (by decide +kernel)) ggX11_kindBest_X3_has
set_option maxRecDepth 20000 in
theorem ggX11_kindBest_X11_within : GoodIn wsX11_kindBest wsX11_within := goodIn_r _ [14] rfl gwX11_within
set_option maxRecDepth 20000 in
theorem gX11_kindBest_X11_within : GoodIn wsX11_kindBest (va_wsS RX11 158 yX11_within wsX11_within) := goodIn_app (goodIn_r _ [15, 12, 13] rfl (by decide +kernel)) ggX11_kindBest_X11_within
set_option maxRecDepth 20000 in
theorem ggX11_kindBest_X3_becomes : GoodIn wsX11_kindBest wsX3_becomes := goodIn_r _ [19, 11, 20, 21, 22, 23, 24, 25, 26, 27, 28, 29, 30, 31, 32, 33, 34, 35, 36, 37, 38, 39, 40, 41, 190, 191, 192, 193, 194, 195, 196, 197, 198, 199, 200, 201, 202, 203, 204, 205, 206, 207, 208, 209] rfl gwX3_becomes
set_option maxRecDepth 20000 in
theorem gX11_kindBest_X3_becomes : GoodIn wsX11_kindBest (wsV RX11 86 RX3 yX3_becomes wsX3_becomes) := goodIn_app (goodIn_r _ [16, 17, 18, 9] rfl (by decide +kernel)) ggX11_kindBest_X3_becomes
set_option maxRecDepth 20000 in
theorem ggX11_kindBest_X3_goOnFor : GoodIn wsX11_kindBest wsX3_goOnFor := goodIn_r _ [45, 46, 47, 48, 9, 49, 50, 51, 20, 52, 53, 54, 55, 11, 21, 56, 57, 58, 59, 60, 61, 62, 63, 64, 65, 66, 67, 68, 69, 70, 71, 72, 73, 74, 75, 76, 77, 78, 79, 80, 81, 82, 83, 84, 85, 86, 87, 25, 88, 32, 30, 29, 33, 89, 90, 91, 92, 93, 94, 95, 96, 97, 98, 99, 100, 101, 102, 103, 104, 105, 106, 37, 40, 39, 107, 108, 109, 110, 111, 112, 113, 114, 115, 116, 117, 118, 119, 120, 121, 122, 123, 124, 125, 126, 127, 128, 129, 130, 131, 132, 133, 134, 135, 136, 137, 138, 139, 140, 141, 142, 143, 144, 145, 146, 147, 148, 149, 38, 41, 35, 150, 151, 152, 153, 36, 34, 154, 155, 156, 157, 158, 159, 160, 161, 162, 163, 164, 165, 166, 167, 168, 169, 190, 191, 192, 193, 194, 195, 196, 197, 198, 199, 200, 201, 202, 203, 204, 205, 206, 207, 208, 209] rfl gwX3_goOnFor
set_option maxRecDepth 20000 in
theorem gX11_kindBest_X3_goOnFor : GoodIn wsX11_kindBest (wsV RX11 206 RX3 yX3_goOnFor wsX3_goOnFor) := goodIn_app (goodIn_r _ [42, 43, 44, 9] rfl (by decide +kernel)) ggX11_kindBest_X3_goOnFor
set_option maxRecDepth 20000 in
theorem ggX11_kindBest_X3_lateOfAll : GoodIn wsX11_kindBest wsX3_lateOfAll := goodIn_r _ [173, 174, 175, 176, 9, 177, 11, 21, 178, 190, 191, 192, 193, 194, 195, 196, 197, 198, 199, 200, 201, 202, 203, 204, 205, 206, 207, 208, 209] rfl gwX3_lateOfAll
set_option maxRecDepth 20000 in
theorem gX11_kindBest_X3_lateOfAll : GoodIn wsX11_kindBest (wsV RX11 210 RX3 yX3_lateOfAll wsX3_lateOfAll) := goodIn_app (goodIn_r _ [170, 171, 172, 9] rfl (by decide +kernel)) ggX11_kindBest_X3_lateOfAll
theorem dX11_kindBest_0 : decode cX11_kindBest 0 = .ok (.aload_n 0, 1) := by decide +kernel
theorem dX11_kindBest_1 : decode cX11_kindBest 1 = .ok (.getfield 38, 3) := by decide +kernel
theorem dX11_kindBest_4 : decode cX11_kindBest 4 = .ok (.iload_n 1, 1) := by decide +kernel
theorem dX11_kindBest_5 : decode cX11_kindBest 5 = .ok (.invokevirtual 103, 3) := by decide +kernel
theorem dX11_kindBest_8 : decode cX11_kindBest 8 = .ok (.ifCond .eq 22, 3) := by decide +kernel
theorem dX11_kindBest_11 : decode cX11_kindBest 11 = .ok (.iload_n 2, 1) := by decide +kernel
theorem dX11_kindBest_12 : decode cX11_kindBest 12 = .ok (.iconst 0, 1) := by decide +kernel
theorem dX11_kindBest_13 : decode cX11_kindBest 13 = .ok (.bipush 60, 2) := by decide +kernel
theorem dX11_kindBest_15 : decode cX11_kindBest 15 = .ok (.invokestatic 158, 3) := by decide +kernel
theorem dX11_kindBest_18 : decode cX11_kindBest 18 = .ok (.ifCond .eq 12, 3) := by decide +kernel
theorem dX11_kindBest_21 : decode cX11_kindBest 21 = .ok (.iload_n 3, 1) := by decide +kernel
theorem dX11_kindBest_22 : decode cX11_kindBest 22 = .ok (.iconst 0, 1) := by decide +kernel
theorem dX11_kindBest_23 : decode cX11_kindBest 23 = .ok (.iconst 1, 1) := by decide +kernel
theorem dX11_kindBest_24 : decode cX11_kindBest 24 = .ok (.invokestatic 158, 3) := by decide +kernel
theorem dX11_kindBest_27 : decode cX11_kindBest 27 = .ok (.ifCond .ne 5, 3) := by decide +kernel
theorem dX11_kindBest_30 : decode cX11_kindBest 30 = .ok (.iconst (-1), 1) := by decide +kernel
theorem dX11_kindBest_31 : decode cX11_kindBest 31 = .ok (.ireturn, 1) := by decide +kernel
theorem dX11_kindBest_32 : decode cX11_kindBest 32 = .ok (.bipush (-4), 2) := by decide +kernel
theorem dX11_kindBest_34 : decode cX11_kindBest 34 = .ok (.istore 4, 2) := by decide +kernel
theorem dX11_kindBest_36 : decode cX11_kindBest 36 = .ok (.iconst 0, 1) := by decide +kernel
theorem dX11_kindBest_37 : decode cX11_kindBest 37 = .ok (.istore 5, 2) := by decide +kernel
theorem dX11_kindBest_39 : decode cX11_kindBest 39 = .ok (.iconst 0, 1) := by decide +kernel
theorem dX11_kindBest_40 : decode cX11_kindBest 40 = .ok (.istore 6, 2) := by decide +kernel
theorem dX11_kindBest_42 : decode cX11_kindBest 42 = .ok (.iload 6, 2) := by decide +kernel
theorem dX11_kindBest_44 : decode cX11_kindBest 44 = .ok (.bipush 6, 2) := by decide +kernel
theorem dX11_kindBest_46 : decode cX11_kindBest 46 = .ok (.if_icmp .ge 78, 3) := by decide +kernel
theorem dX11_kindBest_49 : decode cX11_kindBest 49 = .ok (.aload_n 0, 1) := by decide +kernel
theorem dX11_kindBest_50 : decode cX11_kindBest 50 = .ok (.getfield 42, 3) := by decide +kernel
theorem dX11_kindBest_53 : decode cX11_kindBest 53 = .ok (.aload_n 0, 1) := by decide +kernel
theorem dX11_kindBest_54 : decode cX11_kindBest 54 = .ok (.getfield 38, 3) := by decide +kernel
theorem dX11_kindBest_57 : decode cX11_kindBest 57 = .ok (.invokevirtual 86, 3) := by decide +kernel
theorem dX11_kindBest_60 : decode cX11_kindBest 60 = .ok (.aload_n 0, 1) := by decide +kernel
theorem dX11_kindBest_61 : decode cX11_kindBest 61 = .ok (.getfield 42, 3) := by decide +kernel
theorem dX11_kindBest_64 : decode cX11_kindBest 64 = .ok (.getfield 107, 3) := by decide +kernel
theorem dX11_kindBest_67 : decode cX11_kindBest 67 = .ok (.iload_n 1, 1) := by decide +kernel
theorem dX11_kindBest_68 : decode cX11_kindBest 68 = .ok (.aaload, 1) := by decide +kernel
theorem dX11_kindBest_69 : decode cX11_kindBest 69 = .ok (.aload_n 0, 1) := by decide +kernel
theorem dX11_kindBest_70 : decode cX11_kindBest 70 = .ok (.getfield 27, 3) := by decide +kernel
theorem dX11_kindBest_73 : decode cX11_kindBest 73 = .ok (.iload 6, 2) := by decide +kernel
theorem dX11_kindBest_75 : decode cX11_kindBest 75 = .ok (.aaload, 1) := by decide +kernel
theorem dX11_kindBest_76 : decode cX11_kindBest 76 = .ok (.putfield 111, 3) := by decide +kernel
theorem dX11_kindBest_79 : decode cX11_kindBest 79 = .ok (.aload_n 0, 1) := by decide +kernel
theorem dX11_kindBest_80 : decode cX11_kindBest 80 = .ok (.getfield 42, 3) := by decide +kernel
theorem dX11_kindBest_83 : decode cX11_kindBest 83 = .ok (.iload_n 2, 1) := by decide +kernel
theorem dX11_kindBest_84 : decode cX11_kindBest 84 = .ok (.invokevirtual 206, 3) := by decide +kernel
theorem dX11_kindBest_87 : decode cX11_kindBest 87 = .ok (.aload_n 0, 1) := by decide +kernel
theorem dX11_kindBest_88 : decode cX11_kindBest 88 = .ok (.getfield 42, 3) := by decide +kernel
theorem dX11_kindBest_91 : decode cX11_kindBest 91 = .ok (.invokevirtual 210, 3) := by decide +kernel
theorem dX11_kindBest_94 : decode cX11_kindBest 94 = .ok (.istore 7, 2) := by decide +kernel
theorem dX11_kindBest_96 : decode cX11_kindBest 96 = .ok (.iload 4, 2) := by decide +kernel
theorem dX11_kindBest_98 : decode cX11_kindBest 98 = .ok (.bipush (-4), 2) := by decide +kernel
theorem dX11_kindBest_100 : decode cX11_kindBest 100 = .ok (.if_icmp .eq 10, 3) := by decide +kernel
theorem dX11_kindBest_103 : decode cX11_kindBest 103 = .ok (.iload 7, 2) := by decide +kernel
theorem dX11_kindBest_105 : decode cX11_kindBest 105 = .ok (.iload 5, 2) := by decide +kernel
theorem dX11_kindBest_107 : decode cX11_kindBest 107 = .ok (.if_icmp .ge 11, 3) := by decide +kernel
theorem dX11_kindBest_110 : decode cX11_kindBest 110 = .ok (.iload 6, 2) := by decide +kernel
theorem dX11_kindBest_112 : decode cX11_kindBest 112 = .ok (.istore 4, 2) := by decide +kernel
theorem dX11_kindBest_114 : decode cX11_kindBest 114 = .ok (.iload 7, 2) := by decide +kernel
theorem dX11_kindBest_116 : decode cX11_kindBest 116 = .ok (.istore 5, 2) := by decide +kernel
theorem dX11_kindBest_118 : decode cX11_kindBest 118 = .ok (.iinc 6 1, 3) := by decide +kernel
theorem dX11_kindBest_121 : decode cX11_kindBest 121 = .ok (.goto (-79), 3) := by decide +kernel
theorem dX11_kindBest_124 : decode cX11_kindBest 124 = .ok (.iload_n 3, 1) := by decide +kernel
theorem dX11_kindBest_125 : decode cX11_kindBest 125 = .ok (.ifCond .ne 8, 3) := by decide +kernel
theorem dX11_kindBest_128 : decode cX11_kindBest 128 = .ok (.iload 4, 2) := by decide +kernel
theorem dX11_kindBest_130 : decode cX11_kindBest 130 = .ok (.goto 5, 3) := by decide +kernel
theorem dX11_kindBest_133 : decode cX11_kindBest 133 = .ok (.iload 5, 2) := by decide +kernel
theorem dX11_kindBest_135 : decode cX11_kindBest 135 = .ok (.ireturn, 1) := by decide +kernel
set_option maxRecDepth 20000 in
theorem ggX11_send_X11_within : GoodIn wsX11_send wsX11_within := goodIn_r _ [9] rfl gwX11_within
set_option maxRecDepth 20000 in
theorem gX11_send_X11_within : GoodIn wsX11_send (va_wsS RX11 158 yX11_within wsX11_within) := goodIn_app (goodIn_r _ [6, 7, 8] rfl (by decide +kernel)) ggX11_send_X11_within
set_option maxRecDepth 20000 in
theorem ggX11_send_X3_becomes : GoodIn wsX11_send wsX3_becomes := goodIn_r _ [14, 15, 16, 17, 18, 19, 20, 21, 22, 23, 24, 25, 26, 27, 28, 29, 30, 31, 32, 33, 34, 35, 36, 37, 186, 187, 188, 189, 190, 191, 192, 193, 194, 195, 196, 197, 198, 199, 200, 201, 202, 203, 204, 205] rfl gwX3_becomes
set_option maxRecDepth 20000 in
theorem gX11_send_X3_becomes : GoodIn wsX11_send (wsV RX11 86 RX3 yX3_becomes wsX3_becomes) := goodIn_app (goodIn_r _ [10, 11, 12, 13] rfl (by decide +kernel)) ggX11_send_X3_becomes
set_option maxRecDepth 20000 in
theorem ggX11_send_X3_goOnFor : GoodIn wsX11_send wsX3_goOnFor := goodIn_r _ [41, 42, 43, 44, 13, 45, 46, 47, 16, 48, 49, 50, 51, 15, 17, 52, 53, 54, 55, 56, 57, 58, 59, 60, 61, 62, 63, 64, 65, 66, 67, 68, 69, 70, 71, 72, 73, 74, 75, 76, 77, 78, 79, 80, 81, 82, 83, 21, 84, 28, 26, 25, 29, 85, 86, 87, 88, 89, 90, 91, 92, 93, 94, 95, 96, 97, 98, 99, 100, 101, 102, 33, 36, 35, 103, 104, 105, 106, 107, 108, 109, 110, 111, 112, 113, 114, 115, 116, 117, 118, 119, 120, 121, 122, 123, 124, 125, 126, 127, 128, 129, 130, 131, 132, 133, 134, 135, 136, 137, 138, 139, 140, 141, 142, 143, 144, 145, 34, 37, 31, 146, 147, 148, 149, 32, 30, 150, 151, 152, 153, 154, 155, 156, 157, 158, 159, 160, 161, 162, 163, 164, 165, 186, 187, 188, 189, 190, 191, 192, 193, 194, 195, 196, 197, 198, 199, 200, 201, 202, 203, 204, 205] rfl gwX3_goOnFor
set_option maxRecDepth 20000 in
theorem gX11_send_X3_goOnFor : GoodIn wsX11_send (wsV RX11 206 RX3 yX3_goOnFor wsX3_goOnFor) := goodIn_app (goodIn_r _ [38, 39, 40, 13] rfl (by decide +kernel)) ggX11_send_X3_goOnFor
set_option maxRecDepth 20000 in
theorem ggX11_send_X3_lateOfAllBut : GoodIn wsX11_send wsX3_lateOfAllBut := goodIn_r _ [169, 15, 17, 170, 186, 187, 188, 189, 190, 191, 192, 193, 194, 195, 196, 197, 198, 199, 200, 201, 202, 203, 204, 205] rfl gwX3_lateOfAllBut
set_option maxRecDepth 20000 in
theorem gX11_send_X3_lateOfAllBut : GoodIn wsX11_send (wsV RX11 253 RX3 yX3_lateOfAllBut wsX3_lateOfAllBut) := goodIn_app (goodIn_r _ [166, 167, 168, 13] rfl (by decide +kernel)) ggX11_send_X3_lateOfAllBut
set_option maxRecDepth 20000 in
theorem ggX11_send_X5_dropJobs : GoodIn wsX11_send wsX5_dropJobs := goodIn_r _ [174, 33, 36, 30, 191, 192, 193, 194, 195, 196, 197, 198, 199, 200, 201, 202, 203, 204, 205] rfl gwX5_dropJobs
set_option maxRecDepth 20000 in
theorem gX11_send_X5_dropJobs : GoodIn wsX11_send (wsV RX11 200 RX5 yX5_dropJobs wsX5_dropJobs) := goodIn_app (goodIn_r _ [171, 172, 173, 21] rfl (by decide +kernel)) ggX11_send_X5_dropJobs
theorem dX11_send_0 : decode cX11_send 0 = .ok (.iload_n 1, 1) := by decide +kernel
theorem dX11_send_1 : decode cX11_send 1 = .ok (.iconst 0, 1) := by decide +kernel
theorem dX11_send_2 : decode cX11_send 2 = .ok (.bipush 60, 2) := by decide +kernel
theorem dX11_send_4 : decode cX11_send 4 = .ok (.invokestatic 158, 3) := by decide +kernel
theorem dX11_send_7 : decode cX11_send 7 = .ok (.ifCond .ne 5, 3) := by decide +kernel
theorem dX11_send_10 : decode cX11_send 10 = .ok (.iconst (-1), 1) := by decide +kernel
theorem dX11_send_11 : decode cX11_send 11 = .ok (.ireturn, 1) := by decide +kernel
theorem dX11_send_12 : decode cX11_send 12 = .ok (.aload_n 0, 1) := by decide +kernel
theorem dX11_send_13 : decode cX11_send 13 = .ok (.getfield 42, 3) := by decide +kernel
theorem dX11_send_16 : decode cX11_send 16 = .ok (.aload_n 0, 1) := by decide +kernel
theorem dX11_send_17 : decode cX11_send 17 = .ok (.getfield 38, 3) := by decide +kernel
theorem dX11_send_20 : decode cX11_send 20 = .ok (.invokevirtual 86, 3) := by decide +kernel
theorem dX11_send_23 : decode cX11_send 23 = .ok (.aload_n 0, 1) := by decide +kernel
theorem dX11_send_24 : decode cX11_send 24 = .ok (.getfield 42, 3) := by decide +kernel
theorem dX11_send_27 : decode cX11_send 27 = .ok (.iload_n 1, 1) := by decide +kernel
theorem dX11_send_28 : decode cX11_send 28 = .ok (.invokevirtual 206, 3) := by decide +kernel
theorem dX11_send_31 : decode cX11_send 31 = .ok (.iconst 0, 1) := by decide +kernel
theorem dX11_send_32 : decode cX11_send 32 = .ok (.istore_n 2, 1) := by decide +kernel
theorem dX11_send_33 : decode cX11_send 33 = .ok (.iload_n 2, 1) := by decide +kernel
theorem dX11_send_34 : decode cX11_send 34 = .ok (.aload_n 0, 1) := by decide +kernel
theorem dX11_send_35 : decode cX11_send 35 = .ok (.getfield 42, 3) := by decide +kernel
theorem dX11_send_38 : decode cX11_send 38 = .ok (.getfield 182, 3) := by decide +kernel
theorem dX11_send_41 : decode cX11_send 41 = .ok (.if_icmp .ge 23, 3) := by decide +kernel
theorem dX11_send_44 : decode cX11_send 44 = .ok (.aload_n 0, 1) := by decide +kernel
theorem dX11_send_45 : decode cX11_send 45 = .ok (.getfield 69, 3) := by decide +kernel
theorem dX11_send_48 : decode cX11_send 48 = .ok (.iload_n 2, 1) := by decide +kernel
theorem dX11_send_49 : decode cX11_send 49 = .ok (.aload_n 0, 1) := by decide +kernel
theorem dX11_send_50 : decode cX11_send 50 = .ok (.getfield 42, 3) := by decide +kernel
theorem dX11_send_53 : decode cX11_send 53 = .ok (.iload_n 2, 1) := by decide +kernel
theorem dX11_send_54 : decode cX11_send 54 = .ok (.invokevirtual 253, 3) := by decide +kernel
theorem dX11_send_57 : decode cX11_send 57 = .ok (.iastore, 1) := by decide +kernel
theorem dX11_send_58 : decode cX11_send 58 = .ok (.iinc 2 1, 3) := by decide +kernel
theorem dX11_send_61 : decode cX11_send 61 = .ok (.goto (-28), 3) := by decide +kernel
theorem dX11_send_64 : decode cX11_send 64 = .ok (.bipush (-4), 2) := by decide +kernel
theorem dX11_send_66 : decode cX11_send 66 = .ok (.istore_n 2, 1) := by decide +kernel
theorem dX11_send_67 : decode cX11_send 67 = .ok (.iconst 0, 1) := by decide +kernel
theorem dX11_send_68 : decode cX11_send 68 = .ok (.istore_n 3, 1) := by decide +kernel
theorem dX11_send_69 : decode cX11_send 69 = .ok (.iconst 0, 1) := by decide +kernel
theorem dX11_send_70 : decode cX11_send 70 = .ok (.istore 4, 2) := by decide +kernel
theorem dX11_send_72 : decode cX11_send 72 = .ok (.iload 4, 2) := by decide +kernel
theorem dX11_send_74 : decode cX11_send 74 = .ok (.aload_n 0, 1) := by decide +kernel
theorem dX11_send_75 : decode cX11_send 75 = .ok (.getfield 38, 3) := by decide +kernel
theorem dX11_send_78 : decode cX11_send 78 = .ok (.getfield 182, 3) := by decide +kernel
theorem dX11_send_81 : decode cX11_send 81 = .ok (.if_icmp .ge 82, 3) := by decide +kernel
theorem dX11_send_84 : decode cX11_send 84 = .ok (.aload_n 0, 1) := by decide +kernel
theorem dX11_send_85 : decode cX11_send 85 = .ok (.getfield 42, 3) := by decide +kernel
theorem dX11_send_88 : decode cX11_send 88 = .ok (.aload_n 0, 1) := by decide +kernel
theorem dX11_send_89 : decode cX11_send 89 = .ok (.getfield 38, 3) := by decide +kernel
theorem dX11_send_92 : decode cX11_send 92 = .ok (.invokevirtual 86, 3) := by decide +kernel
theorem dX11_send_95 : decode cX11_send 95 = .ok (.aload_n 0, 1) := by decide +kernel
theorem dX11_send_96 : decode cX11_send 96 = .ok (.getfield 42, 3) := by decide +kernel
theorem dX11_send_99 : decode cX11_send 99 = .ok (.getfield 107, 3) := by decide +kernel
theorem dX11_send_102 : decode cX11_send 102 = .ok (.iload 4, 2) := by decide +kernel
theorem dX11_send_104 : decode cX11_send 104 = .ok (.aaload, 1) := by decide +kernel
theorem dX11_send_105 : decode cX11_send 105 = .ok (.invokevirtual 200, 3) := by decide +kernel
theorem dX11_send_108 : decode cX11_send 108 = .ok (.aload_n 0, 1) := by decide +kernel
theorem dX11_send_109 : decode cX11_send 109 = .ok (.getfield 42, 3) := by decide +kernel
theorem dX11_send_112 : decode cX11_send 112 = .ok (.iload_n 1, 1) := by decide +kernel
theorem dX11_send_113 : decode cX11_send 113 = .ok (.invokevirtual 206, 3) := by decide +kernel
theorem dX11_send_116 : decode cX11_send 116 = .ok (.aload_n 0, 1) := by decide +kernel
theorem dX11_send_117 : decode cX11_send 117 = .ok (.getfield 42, 3) := by decide +kernel
theorem dX11_send_120 : decode cX11_send 120 = .ok (.iload 4, 2) := by decide +kernel
theorem dX11_send_122 : decode cX11_send 122 = .ok (.invokevirtual 253, 3) := by decide +kernel
theorem dX11_send_125 : decode cX11_send 125 = .ok (.istore 5, 2) := by decide +kernel
theorem dX11_send_127 : decode cX11_send 127 = .ok (.iload 5, 2) := by decide +kernel
theorem dX11_send_129 : decode cX11_send 129 = .ok (.aload_n 0, 1) := by decide +kernel
theorem dX11_send_130 : decode cX11_send 130 = .ok (.getfield 69, 3) := by decide +kernel
theorem dX11_send_133 : decode cX11_send 133 = .ok (.iload 4, 2) := by decide +kernel
theorem dX11_send_135 : decode cX11_send 135 = .ok (.iaload, 1) := by decide +kernel
theorem dX11_send_136 : decode cX11_send 136 = .ok (.if_icmp .ge 21, 3) := by decide +kernel
theorem dX11_send_139 : decode cX11_send 139 = .ok (.iload_n 2, 1) := by decide +kernel
theorem dX11_send_140 : decode cX11_send 140 = .ok (.bipush (-4), 2) := by decide +kernel
theorem dX11_send_142 : decode cX11_send 142 = .ok (.if_icmp .eq 9, 3) := by decide +kernel
theorem dX11_send_145 : decode cX11_send 145 = .ok (.iload 5, 2) := by decide +kernel
theorem dX11_send_147 : decode cX11_send 147 = .ok (.iload_n 3, 1) := by decide +kernel
theorem dX11_send_148 : decode cX11_send 148 = .ok (.if_icmp .ge 9, 3) := by decide +kernel
theorem dX11_send_151 : decode cX11_send 151 = .ok (.iload 4, 2) := by decide +kernel
theorem dX11_send_153 : decode cX11_send 153 = .ok (.istore_n 2, 1) := by decide +kernel
theorem dX11_send_154 : decode cX11_send 154 = .ok (.iload 5, 2) := by decide +kernel
theorem dX11_send_156 : decode cX11_send 156 = .ok (.istore_n 3, 1) := by decide +kernel
theorem dX11_send_157 : decode cX11_send 157 = .ok (.iinc 4 1, 3) := by decide +kernel
theorem dX11_send_160 : decode cX11_send 160 = .ok (.goto (-88), 3) := by decide +kernel
theorem dX11_send_163 : decode cX11_send 163 = .ok (.iload_n 2, 1) := by decide +kernel
theorem dX11_send_164 : decode cX11_send 164 = .ok (.ireturn, 1) := by decide +kernel
set_option maxRecDepth 20000 in
theorem ggX11_load_X11_within : GoodIn wsX11_load wsX11_within := goodIn_r _ [10] rfl gwX11_within
set_option maxRecDepth 20000 in
theorem gX11_load_X11_within : GoodIn wsX11_load (va_wsS RX11 158 yX11_within wsX11_within) := goodIn_app (goodIn_r _ [7, 8, 9] rfl (by decide +kernel)) ggX11_load_X11_within
set_option maxRecDepth 20000 in
theorem ggX11_load_X3_becomes : GoodIn wsX11_load wsX3_becomes := goodIn_r _ [15, 16, 17, 18, 19, 20, 21, 22, 23, 24, 25, 26, 27, 28, 29, 30, 31, 32, 33, 34, 35, 36, 37, 38, 172, 173, 174, 175, 176, 177, 178, 179, 180, 181, 182, 183, 184, 185, 186, 187, 188, 189, 190, 191] rfl gwX3_becomes
set_option maxRecDepth 20000 in
theorem gX11_load_X3_becomes : GoodIn wsX11_load (wsV RX11 86 RX3 yX3_becomes wsX3_becomes) := goodIn_app (goodIn_r _ [11, 12, 13, 14] rfl (by decide +kernel)) ggX11_load_X3_becomes
set_option maxRecDepth 20000 in
theorem ggX11_load_X3_loadOfAll : GoodIn wsX11_load wsX3_loadOfAll := goodIn_r _ [42, 16, 18, 43, 44, 172, 173, 174, 175, 176, 177, 178, 179, 180, 181, 182, 183, 184, 185, 186, 187, 188, 189, 190, 191] rfl gwX3_loadOfAll
set_option maxRecDepth 20000 in
theorem gX11_load_X3_loadOfAll : GoodIn wsX11_load (wsV RX11 150 RX3 yX3_loadOfAll wsX3_loadOfAll) := goodIn_app (goodIn_r _ [39, 40, 41, 14] rfl (by decide +kernel)) ggX11_load_X3_loadOfAll
set_option maxRecDepth 20000 in
theorem ggX11_load_X3_goOn : GoodIn wsX11_load wsX3_goOn := goodIn_r _ [48, 49, 50, 17, 51, 52, 53, 14, 54, 16, 18, 43, 55, 56, 57, 58, 59, 60, 61, 62, 63, 64, 65, 66, 67, 68, 69, 70, 71, 72, 73, 74, 75, 76, 77, 78, 79, 4, 5, 6, 80, 81, 82, 22, 83, 29, 27, 26, 30, 84, 85, 86, 87, 88, 89, 90, 91, 92, 93, 94, 95, 96, 97, 98, 99, 100, 101, 34, 37, 36, 102, 40, 41, 42, 44, 103, 104, 105, 106, 107, 108, 109, 110, 111, 112, 113, 114, 115, 116, 117, 118, 119, 120, 121, 122, 123, 124, 125, 126, 127, 128, 129, 130, 131, 132, 133, 134, 135, 136, 137, 138, 139, 140, 35, 38, 32, 141, 142, 143, 144, 33, 31, 145, 146, 147, 148, 149, 150, 151, 152, 153, 154, 155, 156, 157, 158, 159, 160, 172, 173, 174, 175, 176, 177, 178, 179, 180, 181, 182, 183, 184, 185, 186, 187, 188, 189, 190, 191] rfl gwX3_goOn
set_option maxRecDepth 20000 in
theorem gX11_load_X3_goOn : GoodIn wsX11_load (wsV RX11 229 RX3 yX3_goOn wsX3_goOn) := goodIn_app (goodIn_r _ [45, 46, 47, 14] rfl (by decide +kernel)) ggX11_load_X3_goOn
theorem dX11_load_0 : decode cX11_load 0 = .ok (.iload_n 1, 1) := by decide +kernel
theorem dX11_load_1 : decode cX11_load 1 = .ok (.iconst 0, 1) := by decide +kernel
theorem dX11_load_2 : decode cX11_load 2 = .ok (.bipush 99, 2) := by decide +kernel
theorem dX11_load_4 : decode cX11_load 4 = .ok (.invokestatic 158, 3) := by decide +kernel
theorem dX11_load_7 : decode cX11_load 7 = .ok (.ifCond .ne 5, 3) := by decide +kernel
theorem dX11_load_10 : decode cX11_load 10 = .ok (.iconst (-1), 1) := by decide +kernel
theorem dX11_load_11 : decode cX11_load 11 = .ok (.ireturn, 1) := by decide +kernel
theorem dX11_load_12 : decode cX11_load 12 = .ok (.aload_n 0, 1) := by decide +kernel
theorem dX11_load_13 : decode cX11_load 13 = .ok (.getfield 42, 3) := by decide +kernel
theorem dX11_load_16 : decode cX11_load 16 = .ok (.aload_n 0, 1) := by decide +kernel
theorem dX11_load_17 : decode cX11_load 17 = .ok (.getfield 38, 3) := by decide +kernel
theorem dX11_load_20 : decode cX11_load 20 = .ok (.invokevirtual 86, 3) := by decide +kernel
theorem dX11_load_23 : decode cX11_load 23 = .ok (.aload_n 0, 1) := by decide +kernel
theorem dX11_load_24 : decode cX11_load 24 = .ok (.getfield 42, 3) := by decide +kernel
theorem dX11_load_27 : decode cX11_load 27 = .ok (.invokevirtual 150, 3) := by decide +kernel
theorem dX11_load_30 : decode cX11_load 30 = .ok (.istore_n 2, 1) := by decide +kernel
theorem dX11_load_31 : decode cX11_load 31 = .ok (.iconst 1, 1) := by decide +kernel
theorem dX11_load_32 : decode cX11_load 32 = .ok (.istore_n 3, 1) := by decide +kernel
theorem dX11_load_33 : decode cX11_load 33 = .ok (.iload_n 3, 1) := by decide +kernel
theorem dX11_load_34 : decode cX11_load 34 = .ok (.iload_n 1, 1) := by decide +kernel
theorem dX11_load_35 : decode cX11_load 35 = .ok (.if_icmp .ge 29, 3) := by decide +kernel
theorem dX11_load_38 : decode cX11_load 38 = .ok (.aload_n 0, 1) := by decide +kernel
theorem dX11_load_39 : decode cX11_load 39 = .ok (.getfield 42, 3) := by decide +kernel
theorem dX11_load_42 : decode cX11_load 42 = .ok (.iconst 0, 1) := by decide +kernel
theorem dX11_load_43 : decode cX11_load 43 = .ok (.invokevirtual 229, 3) := by decide +kernel
theorem dX11_load_46 : decode cX11_load 46 = .ok (.iload_n 2, 1) := by decide +kernel
theorem dX11_load_47 : decode cX11_load 47 = .ok (.aload_n 0, 1) := by decide +kernel
theorem dX11_load_48 : decode cX11_load 48 = .ok (.getfield 42, 3) := by decide +kernel
theorem dX11_load_51 : decode cX11_load 51 = .ok (.invokevirtual 150, 3) := by decide +kernel
theorem dX11_load_54 : decode cX11_load 54 = .ok (.invokestatic 256, 3) := by decide +kernel
theorem dX11_load_57 : decode cX11_load 57 = .ok (.istore_n 2, 1) := by decide +kernel
theorem dX11_load_58 : decode cX11_load 58 = .ok (.iinc 3 1, 3) := by decide +kernel
theorem dX11_load_61 : decode cX11_load 61 = .ok (.goto (-28), 3) := by decide +kernel
theorem dX11_load_64 : decode cX11_load 64 = .ok (.iload_n 2, 1) := by decide +kernel
theorem dX11_load_65 : decode cX11_load 65 = .ok (.ireturn, 1) := by decide +kernel
set_option maxRecDepth 20000 in
theorem gwX11_isShelf : wsX11_isShelf.all goodWord = true := by decide +kernel
set_option maxRecDepth 20000 in
theorem ggX11_whoRan_X11_isShelf : GoodIn wsX11_whoRan wsX11_isShelf := goodIn_r _ [11, 12, 13, 10, 14] rfl gwX11_isShelf
set_option maxRecDepth 20000 in
theorem gX11_whoRan_X11_isShelf : GoodIn wsX11_whoRan (va_wsS RX11 261 yX11_isShelf wsX11_isShelf) := goodIn_app (goodIn_r _ [8, 9, 10] rfl (by decide +kernel)) ggX11_whoRan_X11_isShelf
set_option maxRecDepth 20000 in
theorem ggX11_whoRan_X3_has : GoodIn wsX11_whoRan wsX3_has := goodIn_r _ [19, 20, 13, 10, 14, 210, 211, 212, 213, 214] rfl gwX3_has
set_option maxRecDepth 20000 in
theorem gX11_whoRan_X3_has : GoodIn wsX11_whoRan (wsV RX11 103 RX3 yX3_has wsX3_has) := goodIn_app (goodIn_r _ [15, 16, 17, 18] rfl (by decide +kernel)) ggX11_whoRan_X3_has
set_option maxRecDepth 20000 in
theorem ggX11_whoRan_X11_within : GoodIn wsX11_whoRan wsX11_within := goodIn_r _ [14] rfl gwX11_within
set_option maxRecDepth 20000 in
theorem gX11_whoRan_X11_within : GoodIn wsX11_whoRan (va_wsS RX11 158 yX11_within wsX11_within) := goodIn_app (goodIn_r _ [12, 13, 10] rfl (by decide +kernel)) ggX11_whoRan_X11_within
set_option maxRecDepth 20000 in
theorem ggX11_whoRan_X11_rowRefusal : GoodIn wsX11_whoRan wsX11_rowRefusal := goodIn_r _ [24, 25, 26, 27, 10, 28, 7, 29, 8, 9, 11, 12, 13, 14, 199, 200, 201, 202, 203, 204, 205, 206, 207, 208, 209, 230, 231, 232, 233, 234, 235] rfl gwX11_rowRefusal
set_option maxRecDepth 20000 in
theorem gX11_whoRan_X11_rowRefusal : GoodIn wsX11_whoRan (wsV RX11 72 RX11 yX11_rowRefusal wsX11_rowRefusal) := goodIn_app (goodIn_r _ [21, 22, 23, 10] rfl (by decide +kernel)) ggX11_whoRan_X11_rowRefusal
set_option maxRecDepth 20000 in
theorem ggX11_whoRan_X3_becomes : GoodIn wsX11_whoRan wsX3_becomes := goodIn_r _ [33, 20, 34, 35, 36, 37, 38, 39, 40, 41, 42, 43, 44, 45, 46, 47, 48, 49, 50, 51, 52, 53, 54, 55, 210, 211, 212, 213, 214, 215, 216, 217, 218, 219, 220, 221, 222, 223, 224, 225, 226, 227, 228, 229] rfl gwX3_becomes
set_option maxRecDepth 20000 in
theorem gX11_whoRan_X3_becomes : GoodIn wsX11_whoRan (wsV RX11 86 RX3 yX3_becomes wsX3_becomes) := goodIn_app (goodIn_r _ [30, 31, 32, 18] rfl (by decide +kernel)) ggX11_whoRan_X3_becomes
set_option maxRecDepth 20000 in
theorem gwX11_goesOnAsTold : wsX11_goesOnAsTold.all goodWord = true := by decide +kernel
set_option maxRecDepth 20000 in
theorem ggX11_whoRan_X11_goesOnAsTold : GoodIn wsX11_whoRan wsX11_goesOnAsTold := goodIn_r _ [59, 60, 2, 61, 62, 63, 64, 18, 65, 66, 67, 34, 68, 69, 70, 71, 20, 35, 72, 73, 74, 75, 76, 77, 78, 79, 80, 81, 82, 83, 84, 85, 86, 87, 88, 89, 90, 91, 92, 93, 94, 95, 96, 97, 98, 99, 100, 101, 102, 103, 39, 104, 46, 44, 43, 47, 105, 106, 107, 108, 109, 110, 111, 112, 113, 114, 115, 116, 117, 118, 119, 120, 121, 122, 51, 54, 53, 123, 124, 125, 126, 127, 128, 129, 130, 131, 132, 133, 134, 135, 136, 137, 138, 139, 140, 141, 142, 143, 144, 145, 146, 147, 148, 149, 150, 151, 152, 153, 154, 155, 156, 157, 158, 159, 160, 161, 162, 163, 164, 165, 52, 55, 49, 166, 167, 168, 169, 50, 48, 170, 171, 172, 173, 174, 175, 176, 177, 178, 179, 180, 181, 182, 183, 184, 185, 186, 187, 188, 189, 190, 191, 192, 193, 194, 195, 196, 197, 13, 10, 14, 198, 230, 231, 232, 233, 234, 235, 199, 200, 201, 202, 203, 204, 205, 206, 207, 208, 209, 210, 211, 212, 213, 214, 215, 216, 217, 218, 219, 220, 221, 222, 223, 224, 225, 226, 227, 228, 229] rfl gwX11_goesOnAsTold
set_option maxRecDepth 20000 in
theorem gX11_whoRan_X11_goesOnAsTold : GoodIn wsX11_whoRan (wsV RX11 264 RX11 yX11_goesOnAsTold wsX11_goesOnAsTold) := goodIn_app (goodIn_r _ [56, 57, 58, 10] rfl (by decide +kernel)) ggX11_whoRan_X11_goesOnAsTold
theorem dX11_whoRan_0 : decode cX11_whoRan 0 = .ok (.iload_n 1, 1) := by decide +kernel
theorem dX11_whoRan_1 : decode cX11_whoRan 1 = .ok (.invokestatic 261, 3) := by decide +kernel
theorem dX11_whoRan_4 : decode cX11_whoRan 4 = .ok (.ifCond .eq 23, 3) := by decide +kernel
theorem dX11_whoRan_7 : decode cX11_whoRan 7 = .ok (.aload_n 0, 1) := by decide +kernel
theorem dX11_whoRan_8 : decode cX11_whoRan 8 = .ok (.getfield 38, 3) := by decide +kernel
theorem dX11_whoRan_11 : decode cX11_whoRan 11 = .ok (.iload_n 2, 1) := by decide +kernel
theorem dX11_whoRan_12 : decode cX11_whoRan 12 = .ok (.invokevirtual 103, 3) := by decide +kernel
theorem dX11_whoRan_15 : decode cX11_whoRan 15 = .ok (.ifCond .eq 12, 3) := by decide +kernel
theorem dX11_whoRan_18 : decode cX11_whoRan 18 = .ok (.iload_n 3, 1) := by decide +kernel
theorem dX11_whoRan_19 : decode cX11_whoRan 19 = .ok (.iconst 0, 1) := by decide +kernel
theorem dX11_whoRan_20 : decode cX11_whoRan 20 = .ok (.iconst 1, 1) := by decide +kernel
theorem dX11_whoRan_21 : decode cX11_whoRan 21 = .ok (.invokestatic 158, 3) := by decide +kernel
theorem dX11_whoRan_24 : decode cX11_whoRan 24 = .ok (.ifCond .ne 5, 3) := by decide +kernel
theorem dX11_whoRan_27 : decode cX11_whoRan 27 = .ok (.iconst (-1), 1) := by decide +kernel
theorem dX11_whoRan_28 : decode cX11_whoRan 28 = .ok (.ireturn, 1) := by decide +kernel
theorem dX11_whoRan_29 : decode cX11_whoRan 29 = .ok (.aload_n 0, 1) := by decide +kernel
theorem dX11_whoRan_30 : decode cX11_whoRan 30 = .ok (.iload_n 1, 1) := by decide +kernel
theorem dX11_whoRan_31 : decode cX11_whoRan 31 = .ok (.invokevirtual 72, 3) := by decide +kernel
theorem dX11_whoRan_34 : decode cX11_whoRan 34 = .ok (.istore 4, 2) := by decide +kernel
theorem dX11_whoRan_36 : decode cX11_whoRan 36 = .ok (.iload 4, 2) := by decide +kernel
theorem dX11_whoRan_38 : decode cX11_whoRan 38 = .ok (.ifCond .eq 6, 3) := by decide +kernel
theorem dX11_whoRan_41 : decode cX11_whoRan 41 = .ok (.iload 4, 2) := by decide +kernel
theorem dX11_whoRan_43 : decode cX11_whoRan 43 = .ok (.ireturn, 1) := by decide +kernel
theorem dX11_whoRan_44 : decode cX11_whoRan 44 = .ok (.iconst 0, 1) := by decide +kernel
theorem dX11_whoRan_45 : decode cX11_whoRan 45 = .ok (.istore 5, 2) := by decide +kernel
theorem dX11_whoRan_47 : decode cX11_whoRan 47 = .ok (.iload_n 3, 1) := by decide +kernel
theorem dX11_whoRan_48 : decode cX11_whoRan 48 = .ok (.ifCond .ne 8, 3) := by decide +kernel
theorem dX11_whoRan_51 : decode cX11_whoRan 51 = .ok (.bipush 6, 2) := by decide +kernel
theorem dX11_whoRan_53 : decode cX11_whoRan 53 = .ok (.goto 5, 3) := by decide +kernel
theorem dX11_whoRan_56 : decode cX11_whoRan 56 = .ok (.bipush 10, 2) := by decide +kernel
theorem dX11_whoRan_58 : decode cX11_whoRan 58 = .ok (.istore 6, 2) := by decide +kernel
theorem dX11_whoRan_60 : decode cX11_whoRan 60 = .ok (.iconst 0, 1) := by decide +kernel
theorem dX11_whoRan_61 : decode cX11_whoRan 61 = .ok (.istore 7, 2) := by decide +kernel
theorem dX11_whoRan_63 : decode cX11_whoRan 63 = .ok (.iload 7, 2) := by decide +kernel
theorem dX11_whoRan_65 : decode cX11_whoRan 65 = .ok (.iload 6, 2) := by decide +kernel
theorem dX11_whoRan_67 : decode cX11_whoRan 67 = .ok (.if_icmp .ge 82, 3) := by decide +kernel
theorem dX11_whoRan_70 : decode cX11_whoRan 70 = .ok (.aload_n 0, 1) := by decide +kernel
theorem dX11_whoRan_71 : decode cX11_whoRan 71 = .ok (.getfield 42, 3) := by decide +kernel
theorem dX11_whoRan_74 : decode cX11_whoRan 74 = .ok (.aload_n 0, 1) := by decide +kernel
theorem dX11_whoRan_75 : decode cX11_whoRan 75 = .ok (.getfield 38, 3) := by decide +kernel
theorem dX11_whoRan_78 : decode cX11_whoRan 78 = .ok (.invokevirtual 86, 3) := by decide +kernel
theorem dX11_whoRan_81 : decode cX11_whoRan 81 = .ok (.iload_n 3, 1) := by decide +kernel
theorem dX11_whoRan_82 : decode cX11_whoRan 82 = .ok (.ifCond .ne 25, 3) := by decide +kernel
theorem dX11_whoRan_85 : decode cX11_whoRan 85 = .ok (.aload_n 0, 1) := by decide +kernel
theorem dX11_whoRan_86 : decode cX11_whoRan 86 = .ok (.getfield 42, 3) := by decide +kernel
theorem dX11_whoRan_89 : decode cX11_whoRan 89 = .ok (.getfield 107, 3) := by decide +kernel
theorem dX11_whoRan_92 : decode cX11_whoRan 92 = .ok (.iload_n 2, 1) := by decide +kernel
theorem dX11_whoRan_93 : decode cX11_whoRan 93 = .ok (.aaload, 1) := by decide +kernel
theorem dX11_whoRan_94 : decode cX11_whoRan 94 = .ok (.aload_n 0, 1) := by decide +kernel
theorem dX11_whoRan_95 : decode cX11_whoRan 95 = .ok (.getfield 27, 3) := by decide +kernel
theorem dX11_whoRan_98 : decode cX11_whoRan 98 = .ok (.iload 7, 2) := by decide +kernel
theorem dX11_whoRan_100 : decode cX11_whoRan 100 = .ok (.aaload, 1) := by decide +kernel
theorem dX11_whoRan_101 : decode cX11_whoRan 101 = .ok (.putfield 111, 3) := by decide +kernel
theorem dX11_whoRan_104 : decode cX11_whoRan 104 = .ok (.goto 17, 3) := by decide +kernel
theorem dX11_whoRan_107 : decode cX11_whoRan 107 = .ok (.aload_n 0, 1) := by decide +kernel
theorem dX11_whoRan_108 : decode cX11_whoRan 108 = .ok (.getfield 42, 3) := by decide +kernel
theorem dX11_whoRan_111 : decode cX11_whoRan 111 = .ok (.getfield 107, 3) := by decide +kernel
theorem dX11_whoRan_114 : decode cX11_whoRan 114 = .ok (.iload_n 2, 1) := by decide +kernel
theorem dX11_whoRan_115 : decode cX11_whoRan 115 = .ok (.aaload, 1) := by decide +kernel
theorem dX11_whoRan_116 : decode cX11_whoRan 116 = .ok (.iload 7, 2) := by decide +kernel
theorem dX11_whoRan_118 : decode cX11_whoRan 118 = .ok (.putfield 120, 3) := by decide +kernel
theorem dX11_whoRan_121 : decode cX11_whoRan 121 = .ok (.aload_n 0, 1) := by decide +kernel
theorem dX11_whoRan_122 : decode cX11_whoRan 122 = .ok (.aload_n 0, 1) := by decide +kernel
theorem dX11_whoRan_123 : decode cX11_whoRan 123 = .ok (.getfield 50, 3) := by decide +kernel
theorem dX11_whoRan_126 : decode cX11_whoRan 126 = .ok (.iload_n 1, 1) := by decide +kernel
theorem dX11_whoRan_127 : decode cX11_whoRan 127 = .ok (.aaload, 1) := by decide +kernel
theorem dX11_whoRan_128 : decode cX11_whoRan 128 = .ok (.invokevirtual 264, 3) := by decide +kernel
theorem dX11_whoRan_131 : decode cX11_whoRan 131 = .ok (.ifCond .eq 12, 3) := by decide +kernel
theorem dX11_whoRan_134 : decode cX11_whoRan 134 = .ok (.iload 5, 2) := by decide +kernel
theorem dX11_whoRan_136 : decode cX11_whoRan 136 = .ok (.iconst 1, 1) := by decide +kernel
theorem dX11_whoRan_137 : decode cX11_whoRan 137 = .ok (.iload 7, 2) := by decide +kernel
theorem dX11_whoRan_139 : decode cX11_whoRan 139 = .ok (.ishl, 1) := by decide +kernel
theorem dX11_whoRan_140 : decode cX11_whoRan 140 = .ok (.ior, 1) := by decide +kernel
theorem dX11_whoRan_141 : decode cX11_whoRan 141 = .ok (.istore 5, 2) := by decide +kernel
theorem dX11_whoRan_143 : decode cX11_whoRan 143 = .ok (.iinc 7 1, 3) := by decide +kernel
theorem dX11_whoRan_146 : decode cX11_whoRan 146 = .ok (.goto (-83), 3) := by decide +kernel
theorem dX11_whoRan_149 : decode cX11_whoRan 149 = .ok (.iload 5, 2) := by decide +kernel
theorem dX11_whoRan_151 : decode cX11_whoRan 151 = .ok (.ireturn, 1) := by decide +kernel
set_option maxRecDepth 20000 in
theorem ggX11_goesOnAsTold_X3_goOn : GoodIn wsX11_goesOnAsTold wsX3_goOn := goodIn_r _ [8, 9, 10, 11, 12, 13, 14, 7, 15, 16, 17, 18, 19, 20, 21, 22, 23, 24, 25, 26, 27, 28, 29, 30, 31, 32, 33, 34, 35, 36, 37, 38, 39, 40, 41, 42, 43, 44, 45, 46, 47, 48, 49, 50, 51, 52, 53, 54, 55, 56, 57, 58, 59, 60, 61, 62, 63, 64, 65, 66, 67, 68, 69, 70, 71, 72, 73, 74, 75, 76, 77, 78, 79, 80, 81, 82, 83, 84, 85, 86, 87, 88, 89, 90, 91, 92, 93, 94, 95, 96, 97, 98, 99, 100, 101, 102, 103, 104, 105, 106, 107, 108, 109, 110, 111, 112, 113, 114, 115, 116, 117, 118, 119, 120, 121, 122, 123, 124, 125, 126, 127, 128, 129, 130, 131, 132, 133, 134, 135, 136, 137, 138, 139, 140, 141, 142, 143, 144, 178, 179, 180, 181, 182, 183, 184, 185, 186, 187, 188, 189, 190, 191, 192, 193, 194, 195, 196, 197] rfl gwX3_goOn
set_option maxRecDepth 20000 in
theorem gX11_goesOnAsTold_X3_goOn : GoodIn wsX11_goesOnAsTold (wsV RX11 229 RX3 yX3_goOn wsX3_goOn) := goodIn_app (goodIn_r _ [4, 5, 6, 7] rfl (by decide +kernel)) ggX11_goesOnAsTold_X3_goOn
set_option maxRecDepth 20000 in
theorem gwX6_isSkipped : wsX6_isSkipped.all goodWord = true := by decide +kernel
set_option maxRecDepth 20000 in
theorem ggX11_goesOnAsTold_X6_isSkipped : GoodIn wsX11_goesOnAsTold wsX6_isSkipped := goodIn_r _ [149, 150, 151, 152, 153, 154, 148, 155, 156, 157, 158, 159, 161, 162, 163, 164, 165, 166] rfl gwX6_isSkipped
set_option maxRecDepth 20000 in
theorem gX11_goesOnAsTold_X6_isSkipped : GoodIn wsX11_goesOnAsTold (wsV RX11 268 RX6 yX6_isSkipped wsX6_isSkipped) := goodIn_app (goodIn_r _ [145, 146, 147, 148] rfl (by decide +kernel)) ggX11_goesOnAsTold_X6_isSkipped
set_option maxRecDepth 20000 in
theorem ggX11_goesOnAsTold_X6_at : GoodIn wsX11_goesOnAsTold wsX6_at := goodIn_r _ [155, 156, 157, 158, 159, 161, 162, 163, 164, 165, 166] rfl gwX6_at
set_option maxRecDepth 20000 in
theorem gX11_goesOnAsTold_X6_at : GoodIn wsX11_goesOnAsTold (wsV RX11 97 RX6 yX6_at wsX6_at) := goodIn_app (goodIn_r _ [160, 153, 154, 148] rfl (by decide +kernel)) ggX11_goesOnAsTold_X6_at
theorem dX11_goesOnAsTold_0 : decode cX11_goesOnAsTold 0 = .ok (.iconst 0, 1) := by decide +kernel
theorem dX11_goesOnAsTold_1 : decode cX11_goesOnAsTold 1 = .ok (.istore_n 2, 1) := by decide +kernel
theorem dX11_goesOnAsTold_2 : decode cX11_goesOnAsTold 2 = .ok (.iload_n 2, 1) := by decide +kernel
theorem dX11_goesOnAsTold_3 : decode cX11_goesOnAsTold 3 = .ok (.aload_n 1, 1) := by decide +kernel
theorem dX11_goesOnAsTold_4 : decode cX11_goesOnAsTold 4 = .ok (.getfield 90, 3) := by decide +kernel
theorem dX11_goesOnAsTold_7 : decode cX11_goesOnAsTold 7 = .ok (.if_icmp .ge 61, 3) := by decide +kernel
theorem dX11_goesOnAsTold_10 : decode cX11_goesOnAsTold 10 = .ok (.aload_n 0, 1) := by decide +kernel
theorem dX11_goesOnAsTold_11 : decode cX11_goesOnAsTold 11 = .ok (.getfield 42, 3) := by decide +kernel
theorem dX11_goesOnAsTold_14 : decode cX11_goesOnAsTold 14 = .ok (.iconst 0, 1) := by decide +kernel
theorem dX11_goesOnAsTold_15 : decode cX11_goesOnAsTold 15 = .ok (.invokevirtual 229, 3) := by decide +kernel
theorem dX11_goesOnAsTold_18 : decode cX11_goesOnAsTold 18 = .ok (.aload_n 0, 1) := by decide +kernel
theorem dX11_goesOnAsTold_19 : decode cX11_goesOnAsTold 19 = .ok (.getfield 42, 3) := by decide +kernel
theorem dX11_goesOnAsTold_22 : decode cX11_goesOnAsTold 22 = .ok (.getfield 219, 3) := by decide +kernel
theorem dX11_goesOnAsTold_25 : decode cX11_goesOnAsTold 25 = .ok (.bipush (-4), 2) := by decide +kernel
theorem dX11_goesOnAsTold_27 : decode cX11_goesOnAsTold 27 = .ok (.if_icmp .ne 8, 3) := by decide +kernel
theorem dX11_goesOnAsTold_30 : decode cX11_goesOnAsTold 30 = .ok (.bipush 6, 2) := by decide +kernel
theorem dX11_goesOnAsTold_32 : decode cX11_goesOnAsTold 32 = .ok (.goto 10, 3) := by decide +kernel
theorem dX11_goesOnAsTold_35 : decode cX11_goesOnAsTold 35 = .ok (.aload_n 0, 1) := by decide +kernel
theorem dX11_goesOnAsTold_36 : decode cX11_goesOnAsTold 36 = .ok (.getfield 42, 3) := by decide +kernel
theorem dX11_goesOnAsTold_39 : decode cX11_goesOnAsTold 39 = .ok (.getfield 219, 3) := by decide +kernel
theorem dX11_goesOnAsTold_42 : decode cX11_goesOnAsTold 42 = .ok (.istore_n 3, 1) := by decide +kernel
theorem dX11_goesOnAsTold_43 : decode cX11_goesOnAsTold 43 = .ok (.aload_n 1, 1) := by decide +kernel
theorem dX11_goesOnAsTold_44 : decode cX11_goesOnAsTold 44 = .ok (.iload_n 2, 1) := by decide +kernel
theorem dX11_goesOnAsTold_45 : decode cX11_goesOnAsTold 45 = .ok (.invokevirtual 268, 3) := by decide +kernel
theorem dX11_goesOnAsTold_48 : decode cX11_goesOnAsTold 48 = .ok (.ifCond .ne 14, 3) := by decide +kernel
theorem dX11_goesOnAsTold_51 : decode cX11_goesOnAsTold 51 = .ok (.aload_n 1, 1) := by decide +kernel
theorem dX11_goesOnAsTold_52 : decode cX11_goesOnAsTold 52 = .ok (.iload_n 2, 1) := by decide +kernel
theorem dX11_goesOnAsTold_53 : decode cX11_goesOnAsTold 53 = .ok (.invokevirtual 97, 3) := by decide +kernel
theorem dX11_goesOnAsTold_56 : decode cX11_goesOnAsTold 56 = .ok (.iload_n 3, 1) := by decide +kernel
theorem dX11_goesOnAsTold_57 : decode cX11_goesOnAsTold 57 = .ok (.if_icmp .eq 5, 3) := by decide +kernel
theorem dX11_goesOnAsTold_60 : decode cX11_goesOnAsTold 60 = .ok (.iconst 0, 1) := by decide +kernel
theorem dX11_goesOnAsTold_61 : decode cX11_goesOnAsTold 61 = .ok (.ireturn, 1) := by decide +kernel
theorem dX11_goesOnAsTold_62 : decode cX11_goesOnAsTold 62 = .ok (.iinc 2 1, 3) := by decide +kernel
theorem dX11_goesOnAsTold_65 : decode cX11_goesOnAsTold 65 = .ok (.goto (-63), 3) := by decide +kernel
theorem dX11_goesOnAsTold_68 : decode cX11_goesOnAsTold 68 = .ok (.iconst 1, 1) := by decide +kernel
theorem dX11_goesOnAsTold_69 : decode cX11_goesOnAsTold 69 = .ok (.ireturn, 1) := by decide +kernel
set_option maxRecDepth 20000 in
theorem ggX11_two_X3_has : GoodIn wsX11_two wsX3_has := goodIn_r _ [9, 10, 11, 12, 13, 201, 202, 203, 204, 205] rfl gwX3_has
set_option maxRecDepth 20000 in
theorem gX11_two_X3_has : GoodIn wsX11_two (wsV RX11 103 RX3 yX3_has wsX3_has) := goodIn_app (goodIn_r _ [5, 6, 7, 8] rfl (by decide +kernel)) ggX11_two_X3_has
set_option maxRecDepth 20000 in
theorem ggX11_two_X11_within : GoodIn wsX11_two wsX11_within := goodIn_r _ [13] rfl gwX11_within
set_option maxRecDepth 20000 in
theorem gX11_two_X11_within : GoodIn wsX11_two (va_wsS RX11 158 yX11_within wsX11_within) := goodIn_app (goodIn_r _ [14, 11, 12] rfl (by decide +kernel)) ggX11_two_X11_within
set_option maxRecDepth 20000 in
theorem ggX11_two_X5_isFull : GoodIn wsX11_two wsX5_isFull := goodIn_r _ [19, 20, 206, 207, 208, 209, 210, 211, 212, 213, 214, 215, 216, 217, 218, 219, 220] rfl gwX5_isFull
set_option maxRecDepth 20000 in
theorem gX11_two_X5_isFull : GoodIn wsX11_two (wsV RX11 271 RX5 yX5_isFull wsX5_isFull) := goodIn_app (goodIn_r _ [15, 16, 17, 18] rfl (by decide +kernel)) ggX11_two_X5_isFull
set_option maxRecDepth 20000 in
theorem gwX11_tryPair : wsX11_tryPair.all goodWord = true := by decide +kernel
set_option maxRecDepth 20000 in
theorem ggX11_two_X11_tryPair : GoodIn wsX11_two wsX11_tryPair := goodIn_r _ [24, 25, 1, 2, 26, 3, 4, 27, 28, 29, 8, 30, 10, 31, 32, 33, 34, 35, 18, 36, 37, 38, 39, 40, 41, 42, 43, 44, 45, 46, 20, 47, 48, 49, 50, 51, 52, 53, 54, 55, 16, 17, 19, 56, 57, 58, 59, 60, 61, 62, 63, 64, 65, 66, 67, 68, 69, 70, 71, 72, 73, 74, 75, 76, 77, 78, 79, 80, 81, 82, 83, 84, 85, 86, 87, 88, 89, 90, 91, 92, 93, 94, 95, 96, 97, 98, 99, 100, 101, 102, 103, 104, 105, 106, 107, 108, 109, 110, 111, 112, 113, 114, 115, 116, 117, 118, 119, 120, 121, 122, 123, 124, 125, 126, 127, 128, 129, 130, 131, 132, 133, 134, 135, 136, 137, 138, 139, 140, 141, 142, 143, 144, 145, 146, 147, 148, 149, 150, 151, 152, 153, 154, 155, 156, 157, 158, 159, 160, 161, 162, 163, 164, 165, 166, 167, 168, 169, 170, 171, 172, 173, 174, 175, 176, 177, 178, 179, 180, 181, 182, 183, 184, 185, 186, 187, 12, 188, 189, 190, 191, 192, 193, 194, 195, 196, 197, 198, 199, 200, 201, 202, 203, 204, 205, 206, 207, 208, 209, 210, 211, 212, 213, 214, 215, 216, 217, 218, 219, 220] rfl gwX11_tryPair
set_option maxRecDepth 20000 in
theorem gX11_two_X11_tryPair : GoodIn wsX11_two (wsV RX11 274 RX11 yX11_tryPair wsX11_tryPair) := goodIn_app (goodIn_r _ [21, 22, 23, 12] rfl (by decide +kernel)) ggX11_two_X11_tryPair
theorem dX11_two_0 : decode cX11_two 0 = .ok (.aload_n 0, 1) := by decide +kernel
theorem dX11_two_1 : decode cX11_two 1 = .ok (.getfield 38, 3) := by decide +kernel
theorem dX11_two_4 : decode cX11_two 4 = .ok (.iload_n 1, 1) := by decide +kernel
theorem dX11_two_5 : decode cX11_two 5 = .ok (.invokevirtual 103, 3) := by decide +kernel
theorem dX11_two_8 : decode cX11_two 8 = .ok (.ifCond .eq 29, 3) := by decide +kernel
theorem dX11_two_11 : decode cX11_two 11 = .ok (.aload_n 0, 1) := by decide +kernel
theorem dX11_two_12 : decode cX11_two 12 = .ok (.getfield 38, 3) := by decide +kernel
theorem dX11_two_15 : decode cX11_two 15 = .ok (.iload_n 2, 1) := by decide +kernel
theorem dX11_two_16 : decode cX11_two 16 = .ok (.invokevirtual 103, 3) := by decide +kernel
theorem dX11_two_19 : decode cX11_two 19 = .ok (.ifCond .eq 18, 3) := by decide +kernel
theorem dX11_two_22 : decode cX11_two 22 = .ok (.iload_n 1, 1) := by decide +kernel
theorem dX11_two_23 : decode cX11_two 23 = .ok (.iload_n 2, 1) := by decide +kernel
theorem dX11_two_24 : decode cX11_two 24 = .ok (.if_icmp .eq 13, 3) := by decide +kernel
theorem dX11_two_27 : decode cX11_two 27 = .ok (.iload_n 3, 1) := by decide +kernel
theorem dX11_two_28 : decode cX11_two 28 = .ok (.iconst 1, 1) := by decide +kernel
theorem dX11_two_29 : decode cX11_two 29 = .ok (.bipush 60, 2) := by decide +kernel
theorem dX11_two_31 : decode cX11_two 31 = .ok (.invokestatic 158, 3) := by decide +kernel
theorem dX11_two_34 : decode cX11_two 34 = .ok (.ifCond .ne 5, 3) := by decide +kernel
theorem dX11_two_37 : decode cX11_two 37 = .ok (.iconst (-1), 1) := by decide +kernel
theorem dX11_two_38 : decode cX11_two 38 = .ok (.ireturn, 1) := by decide +kernel
theorem dX11_two_39 : decode cX11_two 39 = .ok (.aload_n 0, 1) := by decide +kernel
theorem dX11_two_40 : decode cX11_two 40 = .ok (.getfield 38, 3) := by decide +kernel
theorem dX11_two_43 : decode cX11_two 43 = .ok (.getfield 107, 3) := by decide +kernel
theorem dX11_two_46 : decode cX11_two 46 = .ok (.iload_n 1, 1) := by decide +kernel
theorem dX11_two_47 : decode cX11_two 47 = .ok (.aaload, 1) := by decide +kernel
theorem dX11_two_48 : decode cX11_two 48 = .ok (.invokevirtual 271, 3) := by decide +kernel
theorem dX11_two_51 : decode cX11_two 51 = .ok (.ifCond .ne 18, 3) := by decide +kernel
theorem dX11_two_54 : decode cX11_two 54 = .ok (.aload_n 0, 1) := by decide +kernel
theorem dX11_two_55 : decode cX11_two 55 = .ok (.getfield 38, 3) := by decide +kernel
theorem dX11_two_58 : decode cX11_two 58 = .ok (.getfield 107, 3) := by decide +kernel
theorem dX11_two_61 : decode cX11_two 61 = .ok (.iload_n 2, 1) := by decide +kernel
theorem dX11_two_62 : decode cX11_two 62 = .ok (.aaload, 1) := by decide +kernel
theorem dX11_two_63 : decode cX11_two 63 = .ok (.invokevirtual 271, 3) := by decide +kernel
theorem dX11_two_66 : decode cX11_two 66 = .ok (.ifCond .eq 6, 3) := by decide +kernel
theorem dX11_two_69 : decode cX11_two 69 = .ok (.bipush (-2), 2) := by decide +kernel
theorem dX11_two_71 : decode cX11_two 71 = .ok (.ireturn, 1) := by decide +kernel
theorem dX11_two_72 : decode cX11_two 72 = .ok (.iconst 0, 1) := by decide +kernel
theorem dX11_two_73 : decode cX11_two 73 = .ok (.istore 4, 2) := by decide +kernel
theorem dX11_two_75 : decode cX11_two 75 = .ok (.iload 4, 2) := by decide +kernel
theorem dX11_two_77 : decode cX11_two 77 = .ok (.iconst 4, 1) := by decide +kernel
theorem dX11_two_78 : decode cX11_two 78 = .ok (.if_icmp .ge 18, 3) := by decide +kernel
theorem dX11_two_81 : decode cX11_two 81 = .ok (.aload_n 0, 1) := by decide +kernel
theorem dX11_two_82 : decode cX11_two 82 = .ok (.iload_n 1, 1) := by decide +kernel
theorem dX11_two_83 : decode cX11_two 83 = .ok (.iload_n 2, 1) := by decide +kernel
theorem dX11_two_84 : decode cX11_two 84 = .ok (.iload_n 3, 1) := by decide +kernel
theorem dX11_two_85 : decode cX11_two 85 = .ok (.iload 4, 2) := by decide +kernel
theorem dX11_two_87 : decode cX11_two 87 = .ok (.invokevirtual 274, 3) := by decide +kernel
theorem dX11_two_90 : decode cX11_two 90 = .ok (.iinc 4 1, 3) := by decide +kernel
theorem dX11_two_93 : decode cX11_two 93 = .ok (.goto (-18), 3) := by decide +kernel
theorem dX11_two_96 : decode cX11_two 96 = .ok (.iconst 0, 1) := by decide +kernel
theorem dX11_two_97 : decode cX11_two 97 = .ok (.istore 4, 2) := by decide +kernel
theorem dX11_two_99 : decode cX11_two 99 = .ok (.iload 4, 2) := by decide +kernel
theorem dX11_two_101 : decode cX11_two 101 = .ok (.iconst 4, 1) := by decide +kernel
theorem dX11_two_102 : decode cX11_two 102 = .ok (.if_icmp .ge 60, 3) := by decide +kernel
theorem dX11_two_105 : decode cX11_two 105 = .ok (.aload_n 0, 1) := by decide +kernel
theorem dX11_two_106 : decode cX11_two 106 = .ok (.getfield 62, 3) := by decide +kernel
theorem dX11_two_109 : decode cX11_two 109 = .ok (.iload 4, 2) := by decide +kernel
theorem dX11_two_111 : decode cX11_two 111 = .ok (.iaload, 1) := by decide +kernel
theorem dX11_two_112 : decode cX11_two 112 = .ok (.aload_n 0, 1) := by decide +kernel
theorem dX11_two_113 : decode cX11_two 113 = .ok (.getfield 62, 3) := by decide +kernel
theorem dX11_two_116 : decode cX11_two 116 = .ok (.iload 4, 2) := by decide +kernel
theorem dX11_two_118 : decode cX11_two 118 = .ok (.iconst 2, 1) := by decide +kernel
theorem dX11_two_119 : decode cX11_two 119 = .ok (.ixor, 1) := by decide +kernel
theorem dX11_two_120 : decode cX11_two 120 = .ok (.iaload, 1) := by decide +kernel
theorem dX11_two_121 : decode cX11_two 121 = .ok (.if_icmp .lt 35, 3) := by decide +kernel
theorem dX11_two_124 : decode cX11_two 124 = .ok (.aload_n 0, 1) := by decide +kernel
theorem dX11_two_125 : decode cX11_two 125 = .ok (.getfield 66, 3) := by decide +kernel
theorem dX11_two_128 : decode cX11_two 128 = .ok (.iload 4, 2) := by decide +kernel
theorem dX11_two_130 : decode cX11_two 130 = .ok (.iaload, 1) := by decide +kernel
theorem dX11_two_131 : decode cX11_two 131 = .ok (.aload_n 0, 1) := by decide +kernel
theorem dX11_two_132 : decode cX11_two 132 = .ok (.getfield 66, 3) := by decide +kernel
theorem dX11_two_135 : decode cX11_two 135 = .ok (.iload 4, 2) := by decide +kernel
theorem dX11_two_137 : decode cX11_two 137 = .ok (.iconst 1, 1) := by decide +kernel
theorem dX11_two_138 : decode cX11_two 138 = .ok (.ixor, 1) := by decide +kernel
theorem dX11_two_139 : decode cX11_two 139 = .ok (.iaload, 1) := by decide +kernel
theorem dX11_two_140 : decode cX11_two 140 = .ok (.if_icmp .lt 16, 3) := by decide +kernel
theorem dX11_two_143 : decode cX11_two 143 = .ok (.bipush 10, 2) := by decide +kernel
theorem dX11_two_145 : decode cX11_two 145 = .ok (.iload 4, 2) := by decide +kernel
theorem dX11_two_147 : decode cX11_two 147 = .ok (.iconst 1, 1) := by decide +kernel
theorem dX11_two_148 : decode cX11_two 148 = .ok (.ishr, 1) := by decide +kernel
theorem dX11_two_149 : decode cX11_two 149 = .ok (.imul, 1) := by decide +kernel
theorem dX11_two_150 : decode cX11_two 150 = .ok (.iload 4, 2) := by decide +kernel
theorem dX11_two_152 : decode cX11_two 152 = .ok (.iconst 1, 1) := by decide +kernel
theorem dX11_two_153 : decode cX11_two 153 = .ok (.iand, 1) := by decide +kernel
theorem dX11_two_154 : decode cX11_two 154 = .ok (.iadd, 1) := by decide +kernel
theorem dX11_two_155 : decode cX11_two 155 = .ok (.ireturn, 1) := by decide +kernel
theorem dX11_two_156 : decode cX11_two 156 = .ok (.iinc 4 1, 3) := by decide +kernel
theorem dX11_two_159 : decode cX11_two 159 = .ok (.goto (-60), 3) := by decide +kernel
theorem dX11_two_162 : decode cX11_two 162 = .ok (.bipush (-4), 2) := by decide +kernel
theorem dX11_two_164 : decode cX11_two 164 = .ok (.ireturn, 1) := by decide +kernel
set_option maxRecDepth 20000 in
theorem ggX11_tryPair_X3_becomes : GoodIn wsX11_tryPair wsX3_becomes := goodIn_r _ [11, 12, 13, 14, 15, 16, 17, 18, 19, 20, 21, 22, 23, 24, 25, 26, 27, 28, 29, 30, 31, 32, 33, 34, 189, 190, 191, 192, 193, 194, 195, 196, 197, 198, 199, 200, 201, 202, 203, 204, 205, 206, 207, 208] rfl gwX3_becomes
set_option maxRecDepth 20000 in
theorem gX11_tryPair_X3_becomes : GoodIn wsX11_tryPair (wsV RX11 86 RX3 yX3_becomes wsX3_becomes) := goodIn_app (goodIn_r _ [7, 8, 9, 10] rfl (by decide +kernel)) ggX11_tryPair_X3_becomes
set_option maxRecDepth 20000 in
theorem ggX11_tryPair_X5_takeJob : GoodIn wsX11_tryPair wsX5_takeJob := goodIn_r _ [38, 31, 30, 32, 27, 25, 22, 23, 26, 34, 39, 40, 41, 18, 42, 43, 44, 45, 46, 194, 195, 196, 197, 198, 199, 200, 201, 202, 203, 204, 205, 206, 207, 208] rfl gwX5_takeJob
set_option maxRecDepth 20000 in
theorem gX11_tryPair_X5_takeJob : GoodIn wsX11_tryPair (wsV RX11 196 RX5 yX5_takeJob wsX5_takeJob) := goodIn_app (goodIn_r _ [35, 36, 37, 18] rfl (by decide +kernel)) ggX11_tryPair_X5_takeJob
set_option maxRecDepth 20000 in
theorem ggX11_tryPair_X3_goOnFor : GoodIn wsX11_tryPair wsX3_goOnFor := goodIn_r _ [50, 51, 52, 53, 10, 54, 55, 56, 13, 57, 58, 59, 60, 12, 14, 61, 62, 63, 64, 65, 66, 67, 68, 69, 70, 71, 72, 73, 74, 75, 76, 77, 78, 79, 80, 81, 82, 83, 84, 85, 86, 87, 88, 89, 90, 44, 45, 18, 46, 25, 23, 22, 26, 91, 92, 93, 94, 95, 96, 97, 98, 99, 100, 101, 102, 103, 104, 105, 106, 107, 108, 30, 33, 32, 109, 110, 111, 112, 113, 114, 115, 116, 117, 118, 119, 120, 121, 122, 123, 124, 125, 126, 127, 128, 129, 130, 131, 132, 133, 134, 135, 136, 137, 138, 139, 140, 141, 142, 143, 144, 145, 146, 147, 148, 149, 150, 151, 31, 34, 28, 152, 153, 154, 155, 29, 27, 156, 157, 158, 159, 160, 161, 162, 163, 164, 165, 166, 167, 168, 169, 170, 171, 189, 190, 191, 192, 193, 194, 195, 196, 197, 198, 199, 200, 201, 202, 203, 204, 205, 206, 207, 208] rfl gwX3_goOnFor
set_option maxRecDepth 20000 in
theorem gX11_tryPair_X3_goOnFor : GoodIn wsX11_tryPair (wsV RX11 206 RX3 yX3_goOnFor wsX3_goOnFor) := goodIn_app (goodIn_r _ [47, 48, 49, 10] rfl (by decide +kernel)) ggX11_tryPair_X3_goOnFor
set_option maxRecDepth 20000 in
theorem ggX11_tryPair_X11_lateMore : GoodIn wsX11_tryPair wsX11_lateMore := goodIn_r _ [176, 1, 3, 177, 2, 178, 179, 180, 181, 182, 183, 184, 185, 186, 187, 188, 189, 190, 191, 192, 193, 194, 195, 196, 197, 198, 199, 200, 201, 202, 203, 204, 205, 206, 207, 208] rfl gwX11_lateMore
set_option maxRecDepth 20000 in
theorem gX11_tryPair_X11_lateMore : GoodIn wsX11_tryPair (wsV RX11 240 RX11 yX11_lateMore wsX11_lateMore) := goodIn_app (goodIn_r _ [172, 173, 174, 175] rfl (by decide +kernel)) ggX11_tryPair_X11_lateMore
theorem dX11_tryPair_0 : decode cX11_tryPair 0 = .ok (.iload 4, 2) := by decide +kernel
theorem dX11_tryPair_2 : decode cX11_tryPair 2 = .ok (.iconst 1, 1) := by decide +kernel
theorem dX11_tryPair_3 : decode cX11_tryPair 3 = .ok (.ishr, 1) := by decide +kernel
theorem dX11_tryPair_4 : decode cX11_tryPair 4 = .ok (.istore 5, 2) := by decide +kernel
theorem dX11_tryPair_6 : decode cX11_tryPair 6 = .ok (.iload 4, 2) := by decide +kernel
theorem dX11_tryPair_8 : decode cX11_tryPair 8 = .ok (.iconst 1, 1) := by decide +kernel
theorem dX11_tryPair_9 : decode cX11_tryPair 9 = .ok (.iand, 1) := by decide +kernel
theorem dX11_tryPair_10 : decode cX11_tryPair 10 = .ok (.istore 6, 2) := by decide +kernel
theorem dX11_tryPair_12 : decode cX11_tryPair 12 = .ok (.aload_n 0, 1) := by decide +kernel
theorem dX11_tryPair_13 : decode cX11_tryPair 13 = .ok (.getfield 42, 3) := by decide +kernel
theorem dX11_tryPair_16 : decode cX11_tryPair 16 = .ok (.aload_n 0, 1) := by decide +kernel
theorem dX11_tryPair_17 : decode cX11_tryPair 17 = .ok (.getfield 38, 3) := by decide +kernel
theorem dX11_tryPair_20 : decode cX11_tryPair 20 = .ok (.invokevirtual 86, 3) := by decide +kernel
theorem dX11_tryPair_23 : decode cX11_tryPair 23 = .ok (.iload 5, 2) := by decide +kernel
theorem dX11_tryPair_25 : decode cX11_tryPair 25 = .ok (.iconst 1, 1) := by decide +kernel
theorem dX11_tryPair_26 : decode cX11_tryPair 26 = .ok (.if_icmp .ne 24, 3) := by decide +kernel
theorem dX11_tryPair_29 : decode cX11_tryPair 29 = .ok (.aload_n 0, 1) := by decide +kernel
theorem dX11_tryPair_30 : decode cX11_tryPair 30 = .ok (.getfield 42, 3) := by decide +kernel
theorem dX11_tryPair_33 : decode cX11_tryPair 33 = .ok (.getfield 107, 3) := by decide +kernel
theorem dX11_tryPair_36 : decode cX11_tryPair 36 = .ok (.iload_n 1, 1) := by decide +kernel
theorem dX11_tryPair_37 : decode cX11_tryPair 37 = .ok (.aaload, 1) := by decide +kernel
theorem dX11_tryPair_38 : decode cX11_tryPair 38 = .ok (.iconst 5, 1) := by decide +kernel
theorem dX11_tryPair_39 : decode cX11_tryPair 39 = .ok (.iconst 3, 1) := by decide +kernel
theorem dX11_tryPair_40 : decode cX11_tryPair 40 = .ok (.aload_n 0, 1) := by decide +kernel
theorem dX11_tryPair_41 : decode cX11_tryPair 41 = .ok (.getfield 42, 3) := by decide +kernel
theorem dX11_tryPair_44 : decode cX11_tryPair 44 = .ok (.getfield 193, 3) := by decide +kernel
theorem dX11_tryPair_47 : decode cX11_tryPair 47 = .ok (.invokevirtual 196, 3) := by decide +kernel
theorem dX11_tryPair_50 : decode cX11_tryPair 50 = .ok (.iload 6, 2) := by decide +kernel
theorem dX11_tryPair_52 : decode cX11_tryPair 52 = .ok (.iconst 1, 1) := by decide +kernel
theorem dX11_tryPair_53 : decode cX11_tryPair 53 = .ok (.if_icmp .ne 24, 3) := by decide +kernel
theorem dX11_tryPair_56 : decode cX11_tryPair 56 = .ok (.aload_n 0, 1) := by decide +kernel
theorem dX11_tryPair_57 : decode cX11_tryPair 57 = .ok (.getfield 42, 3) := by decide +kernel
theorem dX11_tryPair_60 : decode cX11_tryPair 60 = .ok (.getfield 107, 3) := by decide +kernel
theorem dX11_tryPair_63 : decode cX11_tryPair 63 = .ok (.iload_n 2, 1) := by decide +kernel
theorem dX11_tryPair_64 : decode cX11_tryPair 64 = .ok (.aaload, 1) := by decide +kernel
theorem dX11_tryPair_65 : decode cX11_tryPair 65 = .ok (.iconst 5, 1) := by decide +kernel
theorem dX11_tryPair_66 : decode cX11_tryPair 66 = .ok (.iconst 3, 1) := by decide +kernel
theorem dX11_tryPair_67 : decode cX11_tryPair 67 = .ok (.aload_n 0, 1) := by decide +kernel
theorem dX11_tryPair_68 : decode cX11_tryPair 68 = .ok (.getfield 42, 3) := by decide +kernel
theorem dX11_tryPair_71 : decode cX11_tryPair 71 = .ok (.getfield 193, 3) := by decide +kernel
theorem dX11_tryPair_74 : decode cX11_tryPair 74 = .ok (.invokevirtual 196, 3) := by decide +kernel
theorem dX11_tryPair_77 : decode cX11_tryPair 77 = .ok (.aload_n 0, 1) := by decide +kernel
theorem dX11_tryPair_78 : decode cX11_tryPair 78 = .ok (.getfield 42, 3) := by decide +kernel
theorem dX11_tryPair_81 : decode cX11_tryPair 81 = .ok (.iload_n 3, 1) := by decide +kernel
theorem dX11_tryPair_82 : decode cX11_tryPair 82 = .ok (.invokevirtual 206, 3) := by decide +kernel
theorem dX11_tryPair_85 : decode cX11_tryPair 85 = .ok (.aload_n 0, 1) := by decide +kernel
theorem dX11_tryPair_86 : decode cX11_tryPair 86 = .ok (.getfield 62, 3) := by decide +kernel
theorem dX11_tryPair_89 : decode cX11_tryPair 89 = .ok (.iload 4, 2) := by decide +kernel
theorem dX11_tryPair_91 : decode cX11_tryPair 91 = .ok (.iconst 4, 1) := by decide +kernel
theorem dX11_tryPair_92 : decode cX11_tryPair 92 = .ok (.iload 5, 2) := by decide +kernel
theorem dX11_tryPair_94 : decode cX11_tryPair 94 = .ok (.imul, 1) := by decide +kernel
theorem dX11_tryPair_95 : decode cX11_tryPair 95 = .ok (.aload_n 0, 1) := by decide +kernel
theorem dX11_tryPair_96 : decode cX11_tryPair 96 = .ok (.iload_n 1, 1) := by decide +kernel
theorem dX11_tryPair_97 : decode cX11_tryPair 97 = .ok (.invokevirtual 240, 3) := by decide +kernel
theorem dX11_tryPair_100 : decode cX11_tryPair 100 = .ok (.isub, 1) := by decide +kernel
theorem dX11_tryPair_101 : decode cX11_tryPair 101 = .ok (.iastore, 1) := by decide +kernel
theorem dX11_tryPair_102 : decode cX11_tryPair 102 = .ok (.aload_n 0, 1) := by decide +kernel
theorem dX11_tryPair_103 : decode cX11_tryPair 103 = .ok (.getfield 66, 3) := by decide +kernel
theorem dX11_tryPair_106 : decode cX11_tryPair 106 = .ok (.iload 4, 2) := by decide +kernel
theorem dX11_tryPair_108 : decode cX11_tryPair 108 = .ok (.iconst 4, 1) := by decide +kernel
theorem dX11_tryPair_109 : decode cX11_tryPair 109 = .ok (.iload 6, 2) := by decide +kernel
theorem dX11_tryPair_111 : decode cX11_tryPair 111 = .ok (.imul, 1) := by decide +kernel
theorem dX11_tryPair_112 : decode cX11_tryPair 112 = .ok (.aload_n 0, 1) := by decide +kernel
theorem dX11_tryPair_113 : decode cX11_tryPair 113 = .ok (.iload_n 2, 1) := by decide +kernel
theorem dX11_tryPair_114 : decode cX11_tryPair 114 = .ok (.invokevirtual 240, 3) := by decide +kernel
theorem dX11_tryPair_117 : decode cX11_tryPair 117 = .ok (.isub, 1) := by decide +kernel
theorem dX11_tryPair_118 : decode cX11_tryPair 118 = .ok (.iastore, 1) := by decide +kernel
theorem dX11_tryPair_119 : decode cX11_tryPair 119 = .ok (.return_, 1) := by decide +kernel
set_option maxRecDepth 20000 in
theorem ggX11_breaks_X3_has : GoodIn wsX11_breaks wsX3_has := goodIn_r _ [7, 8, 9, 10, 11, 198, 199, 200, 201, 202] rfl gwX3_has
set_option maxRecDepth 20000 in
theorem gX11_breaks_X3_has : GoodIn wsX11_breaks (wsV RX11 103 RX3 yX3_has wsX3_has) := goodIn_app (goodIn_r _ [3, 4, 5, 6] rfl (by decide +kernel)) ggX11_breaks_X3_has
set_option maxRecDepth 20000 in
theorem ggX11_breaks_X11_within : GoodIn wsX11_breaks wsX11_within := goodIn_r _ [11] rfl gwX11_within
set_option maxRecDepth 20000 in
theorem gX11_breaks_X11_within : GoodIn wsX11_breaks (va_wsS RX11 158 yX11_within wsX11_within) := goodIn_app (goodIn_r _ [12, 9, 10] rfl (by decide +kernel)) ggX11_breaks_X11_within
set_option maxRecDepth 20000 in
theorem gwX11_isLateWithBreaks : wsX11_isLateWithBreaks.all goodWord = true := by decide +kernel
set_option maxRecDepth 20000 in
theorem ggX11_breaks_X11_isLateWithBreaks : GoodIn wsX11_breaks wsX11_isLateWithBreaks := goodIn_r _ [16, 17, 1, 18, 19, 20, 6, 21, 8, 22, 23, 24, 25, 26, 27, 28, 29, 30, 31, 32, 33, 34, 35, 36, 37, 38, 39, 40, 41, 42, 43, 44, 45, 46, 47, 48, 49, 50, 51, 52, 53, 54, 55, 56, 57, 58, 59, 60, 61, 62, 63, 64, 65, 66, 67, 68, 69, 70, 71, 72, 73, 74, 75, 76, 77, 78, 79, 80, 81, 82, 83, 84, 85, 86, 87, 88, 89, 90, 91, 92, 93, 94, 95, 96, 97, 98, 99, 100, 101, 102, 103, 104, 105, 106, 107, 108, 109, 110, 111, 112, 113, 114, 115, 116, 117, 118, 119, 120, 121, 122, 123, 124, 125, 126, 127, 128, 129, 130, 131, 132, 133, 134, 135, 136, 137, 138, 139, 140, 141, 142, 143, 144, 145, 146, 147, 148, 149, 150, 151, 152, 153, 154, 155, 156, 157, 158, 159, 160, 161, 162, 163, 164, 165, 166, 167, 168, 169, 170, 10, 171, 172, 173, 187, 188, 189, 190, 191, 192, 193, 194, 195, 196, 197, 198, 199, 200, 201, 202, 203, 204, 205, 206, 207, 208, 209, 210, 211, 212, 213, 214, 215, 216, 217] rfl gwX11_isLateWithBreaks
set_option maxRecDepth 20000 in
theorem gX11_breaks_X11_isLateWithBreaks : GoodIn wsX11_breaks (wsV RX11 280 RX11 yX11_isLateWithBreaks wsX11_isLateWithBreaks) := goodIn_app (goodIn_r _ [13, 14, 15, 10] rfl (by decide +kernel)) ggX11_breaks_X11_isLateWithBreaks
set_option maxRecDepth 20000 in
theorem gwJ6_bitCount_0f7a4 : wsJ6_bitCount_0f7a4.all goodWord = true := by decide +kernel
set_option maxRecDepth 20000 in
theorem ggX11_breaks_J6_bitCount_0f7a4 : GoodIn wsX11_breaks wsJ6_bitCount_0f7a4 := goodIn_r _ [177, 178, 179, 180] rfl gwJ6_bitCount_0f7a4
set_option maxRecDepth 20000 in
theorem gX11_breaks_J6_bitCount_0f7a4 : GoodIn wsX11_breaks (va_wsS RX11 283 yJ6_bitCount_0f7a4 wsJ6_bitCount_0f7a4) := goodIn_app (goodIn_r _ [174, 175, 176] rfl (by decide +kernel)) ggX11_breaks_J6_bitCount_0f7a4
set_option maxRecDepth 20000 in
theorem gwX11_power : wsX11_power.all goodWord = true := by decide +kernel
set_option maxRecDepth 20000 in
theorem ggX11_breaks_X11_power : GoodIn wsX11_breaks wsX11_power := goodIn_r _ [183] rfl gwX11_power
set_option maxRecDepth 20000 in
theorem gX11_breaks_X11_power : GoodIn wsX11_breaks (va_wsS RX11 288 yX11_power wsX11_power) := goodIn_app (goodIn_r _ [181, 182, 10] rfl (by decide +kernel)) ggX11_breaks_X11_power
set_option maxRecDepth 20000 in
theorem gwX11_inLeastTerms : wsX11_inLeastTerms.all goodWord = true := by decide +kernel
set_option maxRecDepth 20000 in
theorem ggX11_breaks_X11_inLeastTerms : GoodIn wsX11_breaks wsX11_inLeastTerms := goodIn_r _ [186] rfl gwX11_inLeastTerms
set_option maxRecDepth 20000 in
theorem gX11_breaks_X11_inLeastTerms : GoodIn wsX11_breaks (va_wsS RX11 292 yX11_inLeastTerms wsX11_inLeastTerms) := goodIn_app (goodIn_r _ [184, 185, 10] rfl (by decide +kernel)) ggX11_breaks_X11_inLeastTerms
theorem dX11_breaks_0 : decode cX11_breaks 0 = .ok (.aload_n 0, 1) := by decide +kernel
theorem dX11_breaks_1 : decode cX11_breaks 1 = .ok (.getfield 38, 3) := by decide +kernel
theorem dX11_breaks_4 : decode cX11_breaks 4 = .ok (.iload_n 1, 1) := by decide +kernel
theorem dX11_breaks_5 : decode cX11_breaks 5 = .ok (.invokevirtual 103, 3) := by decide +kernel
theorem dX11_breaks_8 : decode cX11_breaks 8 = .ok (.ifCond .eq 33, 3) := by decide +kernel
theorem dX11_breaks_11 : decode cX11_breaks 11 = .ok (.iload_n 2, 1) := by decide +kernel
theorem dX11_breaks_12 : decode cX11_breaks 12 = .ok (.iconst 0, 1) := by decide +kernel
theorem dX11_breaks_13 : decode cX11_breaks 13 = .ok (.bipush 7, 2) := by decide +kernel
theorem dX11_breaks_15 : decode cX11_breaks 15 = .ok (.invokestatic 158, 3) := by decide +kernel
theorem dX11_breaks_18 : decode cX11_breaks 18 = .ok (.ifCond .eq 23, 3) := by decide +kernel
theorem dX11_breaks_21 : decode cX11_breaks 21 = .ok (.iload_n 3, 1) := by decide +kernel
theorem dX11_breaks_22 : decode cX11_breaks 22 = .ok (.iconst 2, 1) := by decide +kernel
theorem dX11_breaks_23 : decode cX11_breaks 23 = .ok (.bipush 20, 2) := by decide +kernel
theorem dX11_breaks_25 : decode cX11_breaks 25 = .ok (.invokestatic 158, 3) := by decide +kernel
theorem dX11_breaks_28 : decode cX11_breaks 28 = .ok (.ifCond .eq 13, 3) := by decide +kernel
theorem dX11_breaks_31 : decode cX11_breaks 31 = .ok (.iload 4, 2) := by decide +kernel
theorem dX11_breaks_33 : decode cX11_breaks 33 = .ok (.iconst 0, 1) := by decide +kernel
theorem dX11_breaks_34 : decode cX11_breaks 34 = .ok (.iconst 1, 1) := by decide +kernel
theorem dX11_breaks_35 : decode cX11_breaks 35 = .ok (.invokestatic 158, 3) := by decide +kernel
theorem dX11_breaks_38 : decode cX11_breaks 38 = .ok (.ifCond .ne 7, 3) := by decide +kernel
theorem dX11_breaks_41 : decode cX11_breaks 41 = .ok (.ldc2_w 278, 3) := by decide +kernel
theorem dX11_breaks_44 : decode cX11_breaks 44 = .ok (.lreturn, 1) := by decide +kernel
theorem dX11_breaks_45 : decode cX11_breaks 45 = .ok (.lconst 0, 1) := by decide +kernel
theorem dX11_breaks_46 : decode cX11_breaks 46 = .ok (.lstore 5, 2) := by decide +kernel
theorem dX11_breaks_48 : decode cX11_breaks 48 = .ok (.iconst 0, 1) := by decide +kernel
theorem dX11_breaks_49 : decode cX11_breaks 49 = .ok (.istore 7, 2) := by decide +kernel
theorem dX11_breaks_51 : decode cX11_breaks 51 = .ok (.iload 7, 2) := by decide +kernel
theorem dX11_breaks_53 : decode cX11_breaks 53 = .ok (.iconst 1, 1) := by decide +kernel
theorem dX11_breaks_54 : decode cX11_breaks 54 = .ok (.iload_n 2, 1) := by decide +kernel
theorem dX11_breaks_55 : decode cX11_breaks 55 = .ok (.ishl, 1) := by decide +kernel
theorem dX11_breaks_56 : decode cX11_breaks 56 = .ok (.if_icmp .ge 38, 3) := by decide +kernel
theorem dX11_breaks_59 : decode cX11_breaks 59 = .ok (.aload_n 0, 1) := by decide +kernel
theorem dX11_breaks_60 : decode cX11_breaks 60 = .ok (.iload_n 1, 1) := by decide +kernel
theorem dX11_breaks_61 : decode cX11_breaks 61 = .ok (.iload_n 2, 1) := by decide +kernel
theorem dX11_breaks_62 : decode cX11_breaks 62 = .ok (.iload 7, 2) := by decide +kernel
theorem dX11_breaks_64 : decode cX11_breaks 64 = .ok (.invokevirtual 280, 3) := by decide +kernel
theorem dX11_breaks_67 : decode cX11_breaks 67 = .ok (.ifCond .eq 21, 3) := by decide +kernel
theorem dX11_breaks_70 : decode cX11_breaks 70 = .ok (.lload 5, 2) := by decide +kernel
theorem dX11_breaks_72 : decode cX11_breaks 72 = .ok (.iload_n 3, 1) := by decide +kernel
theorem dX11_breaks_73 : decode cX11_breaks 73 = .ok (.iconst 1, 1) := by decide +kernel
theorem dX11_breaks_74 : decode cX11_breaks 74 = .ok (.isub, 1) := by decide +kernel
theorem dX11_breaks_75 : decode cX11_breaks 75 = .ok (.iload_n 2, 1) := by decide +kernel
theorem dX11_breaks_76 : decode cX11_breaks 76 = .ok (.iload 7, 2) := by decide +kernel
theorem dX11_breaks_78 : decode cX11_breaks 78 = .ok (.invokestatic 283, 3) := by decide +kernel
theorem dX11_breaks_81 : decode cX11_breaks 81 = .ok (.isub, 1) := by decide +kernel
theorem dX11_breaks_82 : decode cX11_breaks 82 = .ok (.invokestatic 288, 3) := by decide +kernel
theorem dX11_breaks_85 : decode cX11_breaks 85 = .ok (.ladd, 1) := by decide +kernel
theorem dX11_breaks_86 : decode cX11_breaks 86 = .ok (.lstore 5, 2) := by decide +kernel
theorem dX11_breaks_88 : decode cX11_breaks 88 = .ok (.iinc 7 1, 3) := by decide +kernel
theorem dX11_breaks_91 : decode cX11_breaks 91 = .ok (.goto (-40), 3) := by decide +kernel
theorem dX11_breaks_94 : decode cX11_breaks 94 = .ok (.lload 5, 2) := by decide +kernel
theorem dX11_breaks_96 : decode cX11_breaks 96 = .ok (.iload_n 3, 1) := by decide +kernel
theorem dX11_breaks_97 : decode cX11_breaks 97 = .ok (.iload_n 2, 1) := by decide +kernel
theorem dX11_breaks_98 : decode cX11_breaks 98 = .ok (.invokestatic 288, 3) := by decide +kernel
theorem dX11_breaks_101 : decode cX11_breaks 101 = .ok (.iload 4, 2) := by decide +kernel
theorem dX11_breaks_103 : decode cX11_breaks 103 = .ok (.invokestatic 292, 3) := by decide +kernel
theorem dX11_breaks_106 : decode cX11_breaks 106 = .ok (.lreturn, 1) := by decide +kernel
set_option maxRecDepth 20000 in
theorem ggX11_isLateWithBreaks_X3_becomes : GoodIn wsX11_isLateWithBreaks wsX3_becomes := goodIn_r _ [7, 8, 9, 10, 11, 12, 13, 14, 15, 16, 17, 18, 19, 20, 21, 22, 23, 24, 25, 26, 27, 28, 29, 30, 173, 174, 175, 176, 177, 178, 179, 180, 181, 182, 183, 184, 185, 186, 187, 188, 189, 190, 191, 192] rfl gwX3_becomes
set_option maxRecDepth 20000 in
theorem gX11_isLateWithBreaks_X3_becomes : GoodIn wsX11_isLateWithBreaks (wsV RX11 86 RX3 yX3_becomes wsX3_becomes) := goodIn_app (goodIn_r _ [3, 4, 5, 6] rfl (by decide +kernel)) ggX11_isLateWithBreaks_X3_becomes
set_option maxRecDepth 20000 in
theorem ggX11_isLateWithBreaks_X3_goOn : GoodIn wsX11_isLateWithBreaks wsX3_goOn := goodIn_r _ [34, 35, 36, 9, 37, 38, 39, 6, 40, 8, 10, 41, 42, 43, 44, 45, 46, 47, 48, 49, 50, 51, 52, 53, 54, 55, 56, 57, 58, 59, 60, 61, 62, 63, 64, 65, 66, 67, 68, 69, 70, 71, 72, 14, 73, 21, 19, 18, 22, 74, 75, 76, 77, 78, 79, 80, 81, 82, 83, 84, 85, 86, 87, 88, 89, 90, 91, 26, 29, 28, 92, 93, 94, 95, 96, 97, 98, 99, 100, 101, 102, 103, 104, 105, 106, 107, 108, 109, 110, 111, 112, 113, 114, 115, 116, 117, 118, 119, 120, 121, 122, 123, 124, 125, 126, 127, 128, 129, 130, 131, 132, 133, 134, 27, 30, 24, 135, 136, 137, 138, 25, 23, 139, 140, 141, 142, 143, 144, 145, 146, 147, 148, 149, 150, 151, 152, 153, 154, 173, 174, 175, 176, 177, 178, 179, 180, 181, 182, 183, 184, 185, 186, 187, 188, 189, 190, 191, 192] rfl gwX3_goOn
set_option maxRecDepth 20000 in
theorem gX11_isLateWithBreaks_X3_goOn : GoodIn wsX11_isLateWithBreaks (wsV RX11 229 RX3 yX3_goOn wsX3_goOn) := goodIn_app (goodIn_r _ [31, 32, 33, 6] rfl (by decide +kernel)) ggX11_isLateWithBreaks_X3_goOn
set_option maxRecDepth 20000 in
theorem ggX11_isLateWithBreaks_X11_lateMore : GoodIn wsX11_isLateWithBreaks wsX11_lateMore := goodIn_r _ [159, 1, 160, 161, 2, 162, 163, 164, 165, 166, 167, 168, 169, 170, 171, 172, 173, 174, 175, 176, 177, 178, 179, 180, 181, 182, 183, 184, 185, 186, 187, 188, 189, 190, 191, 192] rfl gwX11_lateMore
set_option maxRecDepth 20000 in
theorem gX11_isLateWithBreaks_X11_lateMore : GoodIn wsX11_isLateWithBreaks (wsV RX11 240 RX11 yX11_lateMore wsX11_lateMore) := goodIn_app (goodIn_r _ [155, 156, 157, 158] rfl (by decide +kernel)) ggX11_isLateWithBreaks_X11_lateMore
theorem dX11_isLateWithBreaks_0 : decode cX11_isLateWithBreaks 0 = .ok (.aload_n 0, 1) := by decide +kernel
theorem dX11_isLateWithBreaks_1 : decode cX11_isLateWithBreaks 1 = .ok (.getfield 42, 3) := by decide +kernel
theorem dX11_isLateWithBreaks_4 : decode cX11_isLateWithBreaks 4 = .ok (.aload_n 0, 1) := by decide +kernel
theorem dX11_isLateWithBreaks_5 : decode cX11_isLateWithBreaks 5 = .ok (.getfield 38, 3) := by decide +kernel
theorem dX11_isLateWithBreaks_8 : decode cX11_isLateWithBreaks 8 = .ok (.invokevirtual 86, 3) := by decide +kernel
theorem dX11_isLateWithBreaks_11 : decode cX11_isLateWithBreaks 11 = .ok (.iconst 0, 1) := by decide +kernel
theorem dX11_isLateWithBreaks_12 : decode cX11_isLateWithBreaks 12 = .ok (.istore 4, 2) := by decide +kernel
theorem dX11_isLateWithBreaks_14 : decode cX11_isLateWithBreaks 14 = .ok (.iload 4, 2) := by decide +kernel
theorem dX11_isLateWithBreaks_16 : decode cX11_isLateWithBreaks 16 = .ok (.iload_n 2, 1) := by decide +kernel
theorem dX11_isLateWithBreaks_17 : decode cX11_isLateWithBreaks 17 = .ok (.if_icmp .ge 41, 3) := by decide +kernel
theorem dX11_isLateWithBreaks_20 : decode cX11_isLateWithBreaks 20 = .ok (.aload_n 0, 1) := by decide +kernel
theorem dX11_isLateWithBreaks_21 : decode cX11_isLateWithBreaks 21 = .ok (.getfield 42, 3) := by decide +kernel
theorem dX11_isLateWithBreaks_24 : decode cX11_isLateWithBreaks 24 = .ok (.iload_n 3, 1) := by decide +kernel
theorem dX11_isLateWithBreaks_25 : decode cX11_isLateWithBreaks 25 = .ok (.iload 4, 2) := by decide +kernel
theorem dX11_isLateWithBreaks_27 : decode cX11_isLateWithBreaks 27 = .ok (.ishr, 1) := by decide +kernel
theorem dX11_isLateWithBreaks_28 : decode cX11_isLateWithBreaks 28 = .ok (.iconst 1, 1) := by decide +kernel
theorem dX11_isLateWithBreaks_29 : decode cX11_isLateWithBreaks 29 = .ok (.iand, 1) := by decide +kernel
theorem dX11_isLateWithBreaks_30 : decode cX11_isLateWithBreaks 30 = .ok (.iconst 1, 1) := by decide +kernel
theorem dX11_isLateWithBreaks_31 : decode cX11_isLateWithBreaks 31 = .ok (.if_icmp .ne 7, 3) := by decide +kernel
theorem dX11_isLateWithBreaks_34 : decode cX11_isLateWithBreaks 34 = .ok (.iconst 1, 1) := by decide +kernel
theorem dX11_isLateWithBreaks_35 : decode cX11_isLateWithBreaks 35 = .ok (.goto 4, 3) := by decide +kernel
theorem dX11_isLateWithBreaks_38 : decode cX11_isLateWithBreaks 38 = .ok (.iconst 0, 1) := by decide +kernel
theorem dX11_isLateWithBreaks_39 : decode cX11_isLateWithBreaks 39 = .ok (.invokevirtual 229, 3) := by decide +kernel
theorem dX11_isLateWithBreaks_42 : decode cX11_isLateWithBreaks 42 = .ok (.aload_n 0, 1) := by decide +kernel
theorem dX11_isLateWithBreaks_43 : decode cX11_isLateWithBreaks 43 = .ok (.iload_n 1, 1) := by decide +kernel
theorem dX11_isLateWithBreaks_44 : decode cX11_isLateWithBreaks 44 = .ok (.invokevirtual 240, 3) := by decide +kernel
theorem dX11_isLateWithBreaks_47 : decode cX11_isLateWithBreaks 47 = .ok (.ifCond .le 5, 3) := by decide +kernel
theorem dX11_isLateWithBreaks_50 : decode cX11_isLateWithBreaks 50 = .ok (.iconst 1, 1) := by decide +kernel
theorem dX11_isLateWithBreaks_51 : decode cX11_isLateWithBreaks 51 = .ok (.ireturn, 1) := by decide +kernel
theorem dX11_isLateWithBreaks_52 : decode cX11_isLateWithBreaks 52 = .ok (.iinc 4 1, 3) := by decide +kernel
theorem dX11_isLateWithBreaks_55 : decode cX11_isLateWithBreaks 55 = .ok (.goto (-41), 3) := by decide +kernel
theorem dX11_isLateWithBreaks_58 : decode cX11_isLateWithBreaks 58 = .ok (.iconst 0, 1) := by decide +kernel
theorem dX11_isLateWithBreaks_59 : decode cX11_isLateWithBreaks 59 = .ok (.ireturn, 1) := by decide +kernel
set_option maxRecDepth 20000 in
theorem ggX11_share_X3_has : GoodIn wsX11_share wsX3_has := goodIn_r _ [10, 11, 12, 13, 14, 37, 38, 39, 40, 41] rfl gwX3_has
set_option maxRecDepth 20000 in
theorem gX11_share_X3_has : GoodIn wsX11_share (wsV RX11 103 RX3 yX3_has wsX3_has) := goodIn_app (goodIn_r _ [6, 7, 8, 9] rfl (by decide +kernel)) ggX11_share_X3_has
set_option maxRecDepth 20000 in
theorem ggX11_share_X11_within : GoodIn wsX11_share wsX11_within := goodIn_r _ [14] rfl gwX11_within
set_option maxRecDepth 20000 in
theorem gX11_share_X11_within : GoodIn wsX11_share (va_wsS RX11 158 yX11_within wsX11_within) := goodIn_app (goodIn_r _ [15, 12, 13] rfl (by decide +kernel)) ggX11_share_X11_within
set_option maxRecDepth 20000 in
theorem ggX11_share_X3_loadOfAll : GoodIn wsX11_share wsX3_loadOfAll := goodIn_r _ [19, 11, 20, 21, 22, 37, 38, 39, 40, 41, 42, 43, 44, 45, 46, 47, 48, 49, 50, 51, 52, 53, 54, 55, 56] rfl gwX3_loadOfAll
set_option maxRecDepth 20000 in
theorem gX11_share_X3_loadOfAll : GoodIn wsX11_share (wsV RX11 150 RX3 yX3_loadOfAll wsX3_loadOfAll) := goodIn_app (goodIn_r _ [16, 17, 18, 9] rfl (by decide +kernel)) ggX11_share_X3_loadOfAll
set_option maxRecDepth 20000 in
theorem ggX11_share_X11_inLeastTerms : GoodIn wsX11_share wsX11_inLeastTerms := goodIn_r _ [25] rfl gwX11_inLeastTerms
set_option maxRecDepth 20000 in
theorem gX11_share_X11_inLeastTerms : GoodIn wsX11_share (va_wsS RX11 292 yX11_inLeastTerms wsX11_inLeastTerms) := goodIn_app (goodIn_r _ [23, 24, 13] rfl (by decide +kernel)) ggX11_share_X11_inLeastTerms
theorem dX11_share_0 : decode cX11_share 0 = .ok (.aload_n 0, 1) := by decide +kernel
theorem dX11_share_1 : decode cX11_share 1 = .ok (.getfield 38, 3) := by decide +kernel
theorem dX11_share_4 : decode cX11_share 4 = .ok (.iload_n 1, 1) := by decide +kernel
theorem dX11_share_5 : decode cX11_share 5 = .ok (.invokevirtual 103, 3) := by decide +kernel
theorem dX11_share_8 : decode cX11_share 8 = .ok (.ifCond .eq 12, 3) := by decide +kernel
theorem dX11_share_11 : decode cX11_share 11 = .ok (.iload_n 2, 1) := by decide +kernel
theorem dX11_share_12 : decode cX11_share 12 = .ok (.iconst 0, 1) := by decide +kernel
theorem dX11_share_13 : decode cX11_share 13 = .ok (.iconst 1, 1) := by decide +kernel
theorem dX11_share_14 : decode cX11_share 14 = .ok (.invokestatic 158, 3) := by decide +kernel
theorem dX11_share_17 : decode cX11_share 17 = .ok (.ifCond .ne 7, 3) := by decide +kernel
theorem dX11_share_20 : decode cX11_share 20 = .ok (.ldc2_w 278, 3) := by decide +kernel
theorem dX11_share_23 : decode cX11_share 23 = .ok (.lreturn, 1) := by decide +kernel
theorem dX11_share_24 : decode cX11_share 24 = .ok (.aload_n 0, 1) := by decide +kernel
theorem dX11_share_25 : decode cX11_share 25 = .ok (.getfield 38, 3) := by decide +kernel
theorem dX11_share_28 : decode cX11_share 28 = .ok (.getfield 107, 3) := by decide +kernel
theorem dX11_share_31 : decode cX11_share 31 = .ok (.iload_n 1, 1) := by decide +kernel
theorem dX11_share_32 : decode cX11_share 32 = .ok (.aaload, 1) := by decide +kernel
theorem dX11_share_33 : decode cX11_share 33 = .ok (.astore_n 3, 1) := by decide +kernel
theorem dX11_share_34 : decode cX11_share 34 = .ok (.aload_n 0, 1) := by decide +kernel
theorem dX11_share_35 : decode cX11_share 35 = .ok (.getfield 38, 3) := by decide +kernel
theorem dX11_share_38 : decode cX11_share 38 = .ok (.invokevirtual 150, 3) := by decide +kernel
theorem dX11_share_41 : decode cX11_share 41 = .ok (.istore 4, 2) := by decide +kernel
theorem dX11_share_43 : decode cX11_share 43 = .ok (.aload_n 3, 1) := by decide +kernel
theorem dX11_share_44 : decode cX11_share 44 = .ok (.getfield 138, 3) := by decide +kernel
theorem dX11_share_47 : decode cX11_share 47 = .ok (.ifCond .ne 7, 3) := by decide +kernel
theorem dX11_share_50 : decode cX11_share 50 = .ok (.iconst 0, 1) := by decide +kernel
theorem dX11_share_51 : decode cX11_share 51 = .ok (.goto 7, 3) := by decide +kernel
theorem dX11_share_54 : decode cX11_share 54 = .ok (.aload_n 3, 1) := by decide +kernel
theorem dX11_share_55 : decode cX11_share 55 = .ok (.getfield 129, 3) := by decide +kernel
theorem dX11_share_58 : decode cX11_share 58 = .ok (.istore 5, 2) := by decide +kernel
theorem dX11_share_60 : decode cX11_share 60 = .ok (.iload 5, 2) := by decide +kernel
theorem dX11_share_62 : decode cX11_share 62 = .ok (.i2l, 1) := by decide +kernel
theorem dX11_share_63 : decode cX11_share 63 = .ok (.iload 4, 2) := by decide +kernel
theorem dX11_share_65 : decode cX11_share 65 = .ok (.ifCond .ne 7, 3) := by decide +kernel
theorem dX11_share_68 : decode cX11_share 68 = .ok (.lconst 1, 1) := by decide +kernel
theorem dX11_share_69 : decode cX11_share 69 = .ok (.goto 6, 3) := by decide +kernel
theorem dX11_share_72 : decode cX11_share 72 = .ok (.iload 4, 2) := by decide +kernel
theorem dX11_share_74 : decode cX11_share 74 = .ok (.i2l, 1) := by decide +kernel
theorem dX11_share_75 : decode cX11_share 75 = .ok (.iload_n 2, 1) := by decide +kernel
theorem dX11_share_76 : decode cX11_share 76 = .ok (.invokestatic 292, 3) := by decide +kernel
theorem dX11_share_79 : decode cX11_share 79 = .ok (.lreturn, 1) := by decide +kernel
set_option maxRecDepth 20000 in
theorem ggX11_bits_X3_has : GoodIn wsX11_bits wsX3_has := goodIn_r _ [9, 10, 11, 12, 13, 29, 30, 31, 32, 33] rfl gwX3_has
set_option maxRecDepth 20000 in
theorem gX11_bits_X3_has : GoodIn wsX11_bits (wsV RX11 103 RX3 yX3_has wsX3_has) := goodIn_app (goodIn_r _ [5, 6, 7, 8] rfl (by decide +kernel)) ggX11_bits_X3_has
set_option maxRecDepth 20000 in
theorem gwX11_nearestBits : wsX11_nearestBits.all goodWord = true := by decide +kernel
set_option maxRecDepth 20000 in
theorem ggX11_bits_X11_nearestBits : GoodIn wsX11_bits wsX11_nearestBits := goodIn_r _ [16, 17] rfl gwX11_nearestBits
set_option maxRecDepth 20000 in
theorem gX11_bits_X11_nearestBits : GoodIn wsX11_bits (va_wsS RX11 296 yX11_nearestBits wsX11_nearestBits) := goodIn_app (goodIn_r _ [14, 15, 12] rfl (by decide +kernel)) ggX11_bits_X11_nearestBits
theorem dX11_bits_0 : decode cX11_bits 0 = .ok (.aload_n 0, 1) := by decide +kernel
theorem dX11_bits_1 : decode cX11_bits 1 = .ok (.getfield 38, 3) := by decide +kernel
theorem dX11_bits_4 : decode cX11_bits 4 = .ok (.iload_n 1, 1) := by decide +kernel
theorem dX11_bits_5 : decode cX11_bits 5 = .ok (.invokevirtual 103, 3) := by decide +kernel
theorem dX11_bits_8 : decode cX11_bits 8 = .ok (.ifCond .ne 5, 3) := by decide +kernel
theorem dX11_bits_11 : decode cX11_bits 11 = .ok (.iconst (-1), 1) := by decide +kernel
theorem dX11_bits_12 : decode cX11_bits 12 = .ok (.ireturn, 1) := by decide +kernel
theorem dX11_bits_13 : decode cX11_bits 13 = .ok (.aload_n 0, 1) := by decide +kernel
theorem dX11_bits_14 : decode cX11_bits 14 = .ok (.getfield 38, 3) := by decide +kernel
theorem dX11_bits_17 : decode cX11_bits 17 = .ok (.getfield 107, 3) := by decide +kernel
theorem dX11_bits_20 : decode cX11_bits 20 = .ok (.iload_n 1, 1) := by decide +kernel
theorem dX11_bits_21 : decode cX11_bits 21 = .ok (.aaload, 1) := by decide +kernel
theorem dX11_bits_22 : decode cX11_bits 22 = .ok (.getfield 123, 3) := by decide +kernel
theorem dX11_bits_25 : decode cX11_bits 25 = .ok (.i2l, 1) := by decide +kernel
theorem dX11_bits_26 : decode cX11_bits 26 = .ok (.aload_n 0, 1) := by decide +kernel
theorem dX11_bits_27 : decode cX11_bits 27 = .ok (.getfield 38, 3) := by decide +kernel
theorem dX11_bits_30 : decode cX11_bits 30 = .ok (.getfield 107, 3) := by decide +kernel
theorem dX11_bits_33 : decode cX11_bits 33 = .ok (.iload_n 1, 1) := by decide +kernel
theorem dX11_bits_34 : decode cX11_bits 34 = .ok (.aaload, 1) := by decide +kernel
theorem dX11_bits_35 : decode cX11_bits 35 = .ok (.getfield 126, 3) := by decide +kernel
theorem dX11_bits_38 : decode cX11_bits 38 = .ok (.i2l, 1) := by decide +kernel
theorem dX11_bits_39 : decode cX11_bits 39 = .ok (.bipush 23, 2) := by decide +kernel
theorem dX11_bits_41 : decode cX11_bits 41 = .ok (.bipush 127, 2) := by decide +kernel
theorem dX11_bits_43 : decode cX11_bits 43 = .ok (.invokestatic 296, 3) := by decide +kernel
theorem dX11_bits_46 : decode cX11_bits 46 = .ok (.l2i, 1) := by decide +kernel
theorem dX11_bits_47 : decode cX11_bits 47 = .ok (.ireturn, 1) := by decide +kernel
set_option maxRecDepth 20000 in
theorem ggX11_wide_X3_has : GoodIn wsX11_wide wsX3_has := goodIn_r _ [15, 16, 17, 18, 19, 35, 36, 37, 38, 39] rfl gwX3_has
set_option maxRecDepth 20000 in
theorem gX11_wide_X3_has : GoodIn wsX11_wide (wsV RX11 103 RX3 yX3_has wsX3_has) := goodIn_app (goodIn_r _ [11, 12, 13, 14] rfl (by decide +kernel)) ggX11_wide_X3_has
set_option maxRecDepth 20000 in
theorem ggX11_wide_X11_nearestBits : GoodIn wsX11_wide wsX11_nearestBits := goodIn_r _ [22, 23] rfl gwX11_nearestBits
set_option maxRecDepth 20000 in
theorem gX11_wide_X11_nearestBits : GoodIn wsX11_wide (va_wsS RX11 296 yX11_nearestBits wsX11_nearestBits) := goodIn_app (goodIn_r _ [20, 21, 18] rfl (by decide +kernel)) ggX11_wide_X11_nearestBits
theorem dX11_wide_0 : decode cX11_wide 0 = .ok (.aload_n 0, 1) := by decide +kernel
theorem dX11_wide_1 : decode cX11_wide 1 = .ok (.getfield 38, 3) := by decide +kernel
theorem dX11_wide_4 : decode cX11_wide 4 = .ok (.iload_n 1, 1) := by decide +kernel
theorem dX11_wide_5 : decode cX11_wide 5 = .ok (.invokevirtual 103, 3) := by decide +kernel
theorem dX11_wide_8 : decode cX11_wide 8 = .ok (.ifCond .ne 7, 3) := by decide +kernel
theorem dX11_wide_11 : decode cX11_wide 11 = .ok (.ldc2_w 278, 3) := by decide +kernel
theorem dX11_wide_14 : decode cX11_wide 14 = .ok (.lreturn, 1) := by decide +kernel
theorem dX11_wide_15 : decode cX11_wide 15 = .ok (.aload_n 0, 1) := by decide +kernel
theorem dX11_wide_16 : decode cX11_wide 16 = .ok (.getfield 38, 3) := by decide +kernel
theorem dX11_wide_19 : decode cX11_wide 19 = .ok (.getfield 107, 3) := by decide +kernel
theorem dX11_wide_22 : decode cX11_wide 22 = .ok (.iload_n 1, 1) := by decide +kernel
theorem dX11_wide_23 : decode cX11_wide 23 = .ok (.aaload, 1) := by decide +kernel
theorem dX11_wide_24 : decode cX11_wide 24 = .ok (.getfield 132, 3) := by decide +kernel
theorem dX11_wide_27 : decode cX11_wide 27 = .ok (.istore_n 2, 1) := by decide +kernel
theorem dX11_wide_28 : decode cX11_wide 28 = .ok (.iload_n 2, 1) := by decide +kernel
theorem dX11_wide_29 : decode cX11_wide 29 = .ok (.ifCond .ne 5, 3) := by decide +kernel
theorem dX11_wide_32 : decode cX11_wide 32 = .ok (.lconst 0, 1) := by decide +kernel
theorem dX11_wide_33 : decode cX11_wide 33 = .ok (.lreturn, 1) := by decide +kernel
theorem dX11_wide_34 : decode cX11_wide 34 = .ok (.iload_n 2, 1) := by decide +kernel
theorem dX11_wide_35 : decode cX11_wide 35 = .ok (.ifCond .ge 9, 3) := by decide +kernel
theorem dX11_wide_38 : decode cX11_wide 38 = .ok (.ldc2_w 300, 3) := by decide +kernel
theorem dX11_wide_41 : decode cX11_wide 41 = .ok (.goto 4, 3) := by decide +kernel
theorem dX11_wide_44 : decode cX11_wide 44 = .ok (.lconst 0, 1) := by decide +kernel
theorem dX11_wide_45 : decode cX11_wide 45 = .ok (.lstore_n 3, 1) := by decide +kernel
theorem dX11_wide_46 : decode cX11_wide 46 = .ok (.lload_n 3, 1) := by decide +kernel
theorem dX11_wide_47 : decode cX11_wide 47 = .ok (.iload_n 2, 1) := by decide +kernel
theorem dX11_wide_48 : decode cX11_wide 48 = .ok (.invokestatic 302, 3) := by decide +kernel
theorem dX11_wide_51 : decode cX11_wide 51 = .ok (.i2l, 1) := by decide +kernel
theorem dX11_wide_52 : decode cX11_wide 52 = .ok (.ldc2_w 305, 3) := by decide +kernel
theorem dX11_wide_55 : decode cX11_wide 55 = .ok (.bipush 52, 2) := by decide +kernel
theorem dX11_wide_57 : decode cX11_wide 57 = .ok (.sipush 1023, 3) := by decide +kernel
theorem dX11_wide_60 : decode cX11_wide 60 = .ok (.invokestatic 296, 3) := by decide +kernel
theorem dX11_wide_63 : decode cX11_wide 63 = .ok (.lor, 1) := by decide +kernel
theorem dX11_wide_64 : decode cX11_wide 64 = .ok (.lreturn, 1) := by decide +kernel
set_option maxRecDepth 20000 in
theorem ggX11_forged_X11_rowRefusal : GoodIn wsX11_forged wsX11_rowRefusal := goodIn_r _ [10, 11, 12, 13, 9, 14, 1, 15, 16, 17, 18, 19, 20, 21, 34, 35, 36, 37, 38, 39, 40, 41, 42, 43, 44, 45, 46, 47, 48, 49, 50] rfl gwX11_rowRefusal
set_option maxRecDepth 20000 in
theorem gX11_forged_X11_rowRefusal : GoodIn wsX11_forged (wsV RX11 72 RX11 yX11_rowRefusal wsX11_rowRefusal) := goodIn_app (goodIn_r _ [6, 7, 8, 9] rfl (by decide +kernel)) ggX11_forged_X11_rowRefusal
set_option maxRecDepth 20000 in
theorem ggX11_forged_X3_has : GoodIn wsX11_forged wsX3_has := goodIn_r _ [26, 27, 20, 9, 21, 51, 52, 53, 54, 55] rfl gwX3_has
set_option maxRecDepth 20000 in
theorem gX11_forged_X3_has : GoodIn wsX11_forged (wsV RX11 103 RX3 yX3_has wsX3_has) := goodIn_app (goodIn_r _ [22, 23, 24, 25] rfl (by decide +kernel)) ggX11_forged_X3_has
set_option maxRecDepth 20000 in
theorem ggX11_forged_X6_at : GoodIn wsX11_forged wsX6_at := goodIn_r _ [32, 33, 20, 9, 21, 45, 46, 47, 48, 49, 50] rfl gwX6_at
set_option maxRecDepth 20000 in
theorem gX11_forged_X6_at : GoodIn wsX11_forged (wsV RX11 97 RX6 yX6_at wsX6_at) := goodIn_app (goodIn_r _ [28, 29, 30, 31] rfl (by decide +kernel)) ggX11_forged_X6_at
theorem dX11_forged_0 : decode cX11_forged 0 = .ok (.aload_n 0, 1) := by decide +kernel
theorem dX11_forged_1 : decode cX11_forged 1 = .ok (.iload_n 1, 1) := by decide +kernel
theorem dX11_forged_2 : decode cX11_forged 2 = .ok (.invokevirtual 72, 3) := by decide +kernel
theorem dX11_forged_5 : decode cX11_forged 5 = .ok (.istore_n 2, 1) := by decide +kernel
theorem dX11_forged_6 : decode cX11_forged 6 = .ok (.iload_n 2, 1) := by decide +kernel
theorem dX11_forged_7 : decode cX11_forged 7 = .ok (.ifCond .eq 5, 3) := by decide +kernel
theorem dX11_forged_10 : decode cX11_forged 10 = .ok (.iload_n 2, 1) := by decide +kernel
theorem dX11_forged_11 : decode cX11_forged 11 = .ok (.ireturn, 1) := by decide +kernel
theorem dX11_forged_12 : decode cX11_forged 12 = .ok (.iconst 0, 1) := by decide +kernel
theorem dX11_forged_13 : decode cX11_forged 13 = .ok (.istore_n 3, 1) := by decide +kernel
theorem dX11_forged_14 : decode cX11_forged 14 = .ok (.iload_n 3, 1) := by decide +kernel
theorem dX11_forged_15 : decode cX11_forged 15 = .ok (.aload_n 0, 1) := by decide +kernel
theorem dX11_forged_16 : decode cX11_forged 16 = .ok (.getfield 50, 3) := by decide +kernel
theorem dX11_forged_19 : decode cX11_forged 19 = .ok (.iload_n 1, 1) := by decide +kernel
theorem dX11_forged_20 : decode cX11_forged 20 = .ok (.aaload, 1) := by decide +kernel
theorem dX11_forged_21 : decode cX11_forged 21 = .ok (.getfield 90, 3) := by decide +kernel
theorem dX11_forged_24 : decode cX11_forged 24 = .ok (.if_icmp .ge 47, 3) := by decide +kernel
theorem dX11_forged_27 : decode cX11_forged 27 = .ok (.aload_n 0, 1) := by decide +kernel
theorem dX11_forged_28 : decode cX11_forged 28 = .ok (.getfield 38, 3) := by decide +kernel
theorem dX11_forged_31 : decode cX11_forged 31 = .ok (.iload_n 3, 1) := by decide +kernel
theorem dX11_forged_32 : decode cX11_forged 32 = .ok (.invokevirtual 103, 3) := by decide +kernel
theorem dX11_forged_35 : decode cX11_forged 35 = .ok (.ifCond .eq 28, 3) := by decide +kernel
theorem dX11_forged_38 : decode cX11_forged 38 = .ok (.aload_n 0, 1) := by decide +kernel
theorem dX11_forged_39 : decode cX11_forged 39 = .ok (.getfield 38, 3) := by decide +kernel
theorem dX11_forged_42 : decode cX11_forged 42 = .ok (.getfield 107, 3) := by decide +kernel
theorem dX11_forged_45 : decode cX11_forged 45 = .ok (.iload_n 3, 1) := by decide +kernel
theorem dX11_forged_46 : decode cX11_forged 46 = .ok (.aaload, 1) := by decide +kernel
theorem dX11_forged_47 : decode cX11_forged 47 = .ok (.getfield 135, 3) := by decide +kernel
theorem dX11_forged_50 : decode cX11_forged 50 = .ok (.aload_n 0, 1) := by decide +kernel
theorem dX11_forged_51 : decode cX11_forged 51 = .ok (.getfield 50, 3) := by decide +kernel
theorem dX11_forged_54 : decode cX11_forged 54 = .ok (.iload_n 1, 1) := by decide +kernel
theorem dX11_forged_55 : decode cX11_forged 55 = .ok (.aaload, 1) := by decide +kernel
theorem dX11_forged_56 : decode cX11_forged 56 = .ok (.iload_n 3, 1) := by decide +kernel
theorem dX11_forged_57 : decode cX11_forged 57 = .ok (.invokevirtual 97, 3) := by decide +kernel
theorem dX11_forged_60 : decode cX11_forged 60 = .ok (.if_icmp .eq 5, 3) := by decide +kernel
theorem dX11_forged_63 : decode cX11_forged 63 = .ok (.iload_n 3, 1) := by decide +kernel
theorem dX11_forged_64 : decode cX11_forged 64 = .ok (.ireturn, 1) := by decide +kernel
theorem dX11_forged_65 : decode cX11_forged 65 = .ok (.iinc 3 1, 3) := by decide +kernel
theorem dX11_forged_68 : decode cX11_forged 68 = .ok (.goto (-54), 3) := by decide +kernel
theorem dX11_forged_71 : decode cX11_forged 71 = .ok (.bipush (-4), 2) := by decide +kernel
theorem dX11_forged_73 : decode cX11_forged 73 = .ok (.ireturn, 1) := by decide +kernel
set_option maxRecDepth 20000 in
theorem ggX11_judge_X11_rowRefusal : GoodIn wsX11_judge wsX11_rowRefusal := goodIn_r _ [9, 10, 11, 12, 8, 13, 3, 14, 15, 16, 17, 18, 19, 20, 187, 188, 189, 190, 191, 192, 193, 194, 195, 196, 197, 198, 199, 200, 201, 202, 203] rfl gwX11_rowRefusal
set_option maxRecDepth 20000 in
theorem gX11_judge_X11_rowRefusal : GoodIn wsX11_judge (wsV RX11 72 RX11 yX11_rowRefusal wsX11_rowRefusal) := goodIn_app (goodIn_r _ [5, 6, 7, 8] rfl (by decide +kernel)) ggX11_judge_X11_rowRefusal
set_option maxRecDepth 20000 in
theorem ggX11_judge_X3_becomes : GoodIn wsX11_judge wsX3_becomes := goodIn_r _ [25, 26, 27, 28, 29, 30, 31, 32, 33, 34, 35, 36, 37, 38, 39, 40, 41, 42, 43, 44, 45, 46, 47, 48, 204, 205, 206, 207, 208, 209, 210, 211, 212, 213, 214, 215, 216, 217, 218, 219, 220, 221, 222, 223] rfl gwX3_becomes
set_option maxRecDepth 20000 in
theorem gX11_judge_X3_becomes : GoodIn wsX11_judge (wsV RX11 86 RX3 yX3_becomes wsX3_becomes) := goodIn_app (goodIn_r _ [21, 22, 23, 24] rfl (by decide +kernel)) ggX11_judge_X3_becomes
set_option maxRecDepth 20000 in
theorem ggX11_judge_X6_isSkipped : GoodIn wsX11_judge wsX6_isSkipped := goodIn_r _ [53, 54, 55, 56, 57, 58, 52, 59, 60, 19, 8, 20, 198, 199, 200, 201, 202, 203] rfl gwX6_isSkipped
set_option maxRecDepth 20000 in
theorem gX11_judge_X6_isSkipped : GoodIn wsX11_judge (wsV RX11 268 RX6 yX6_isSkipped wsX6_isSkipped) := goodIn_app (goodIn_r _ [49, 50, 51, 52] rfl (by decide +kernel)) ggX11_judge_X6_isSkipped
set_option maxRecDepth 20000 in
theorem ggX11_judge_X6_at : GoodIn wsX11_judge wsX6_at := goodIn_r _ [59, 60, 19, 8, 20, 198, 199, 200, 201, 202, 203] rfl gwX6_at
set_option maxRecDepth 20000 in
theorem gX11_judge_X6_at : GoodIn wsX11_judge (wsV RX11 97 RX6 yX6_at wsX6_at) := goodIn_app (goodIn_r _ [61, 57, 58, 52] rfl (by decide +kernel)) ggX11_judge_X6_at
set_option maxRecDepth 20000 in
theorem ggX11_judge_X3_loadOfAll : GoodIn wsX11_judge wsX3_loadOfAll := goodIn_r _ [65, 26, 28, 66, 67, 204, 205, 206, 207, 208, 209, 210, 211, 212, 213, 214, 215, 216, 217, 218, 219, 220, 221, 222, 223] rfl gwX3_loadOfAll
set_option maxRecDepth 20000 in
theorem gX11_judge_X3_loadOfAll : GoodIn wsX11_judge (wsV RX11 150 RX3 yX3_loadOfAll wsX3_loadOfAll) := goodIn_app (goodIn_r _ [62, 63, 64, 24] rfl (by decide +kernel)) ggX11_judge_X3_loadOfAll
set_option maxRecDepth 20000 in
theorem ggX11_judge_X3_goOn : GoodIn wsX11_judge wsX3_goOn := goodIn_r _ [71, 72, 73, 27, 74, 75, 76, 24, 77, 26, 28, 66, 78, 79, 80, 81, 82, 83, 84, 85, 86, 87, 88, 89, 90, 91, 92, 93, 94, 95, 96, 97, 98, 99, 100, 101, 102, 103, 104, 105, 106, 107, 108, 32, 109, 39, 37, 36, 40, 110, 111, 112, 113, 114, 115, 116, 117, 118, 119, 120, 121, 122, 123, 124, 125, 126, 127, 44, 47, 46, 128, 63, 64, 65, 67, 129, 130, 131, 132, 133, 134, 135, 136, 137, 138, 139, 140, 141, 142, 143, 144, 145, 146, 147, 148, 149, 150, 151, 152, 153, 154, 155, 156, 157, 158, 159, 160, 161, 162, 163, 164, 165, 166, 45, 48, 42, 167, 168, 169, 170, 43, 41, 171, 172, 173, 174, 175, 176, 177, 178, 179, 180, 181, 182, 183, 184, 185, 186, 204, 205, 206, 207, 208, 209, 210, 211, 212, 213, 214, 215, 216, 217, 218, 219, 220, 221, 222, 223] rfl gwX3_goOn
set_option maxRecDepth 20000 in
theorem gX11_judge_X3_goOn : GoodIn wsX11_judge (wsV RX11 229 RX3 yX3_goOn wsX3_goOn) := goodIn_app (goodIn_r _ [68, 69, 70, 24] rfl (by decide +kernel)) ggX11_judge_X3_goOn
theorem dX11_judge_0 : decode cX11_judge 0 = .ok (.aload_n 0, 1) := by decide +kernel
theorem dX11_judge_1 : decode cX11_judge 1 = .ok (.iload_n 1, 1) := by decide +kernel
theorem dX11_judge_2 : decode cX11_judge 2 = .ok (.invokevirtual 72, 3) := by decide +kernel
theorem dX11_judge_5 : decode cX11_judge 5 = .ok (.istore_n 2, 1) := by decide +kernel
theorem dX11_judge_6 : decode cX11_judge 6 = .ok (.iload_n 2, 1) := by decide +kernel
theorem dX11_judge_7 : decode cX11_judge 7 = .ok (.ifCond .eq 5, 3) := by decide +kernel
theorem dX11_judge_10 : decode cX11_judge 10 = .ok (.iload_n 2, 1) := by decide +kernel
theorem dX11_judge_11 : decode cX11_judge 11 = .ok (.ireturn, 1) := by decide +kernel
theorem dX11_judge_12 : decode cX11_judge 12 = .ok (.aload_n 0, 1) := by decide +kernel
theorem dX11_judge_13 : decode cX11_judge 13 = .ok (.getfield 42, 3) := by decide +kernel
theorem dX11_judge_16 : decode cX11_judge 16 = .ok (.aload_n 0, 1) := by decide +kernel
theorem dX11_judge_17 : decode cX11_judge 17 = .ok (.getfield 38, 3) := by decide +kernel
theorem dX11_judge_20 : decode cX11_judge 20 = .ok (.invokevirtual 86, 3) := by decide +kernel
theorem dX11_judge_23 : decode cX11_judge 23 = .ok (.iconst 0, 1) := by decide +kernel
theorem dX11_judge_24 : decode cX11_judge 24 = .ok (.istore_n 3, 1) := by decide +kernel
theorem dX11_judge_25 : decode cX11_judge 25 = .ok (.iload_n 3, 1) := by decide +kernel
theorem dX11_judge_26 : decode cX11_judge 26 = .ok (.aload_n 0, 1) := by decide +kernel
theorem dX11_judge_27 : decode cX11_judge 27 = .ok (.getfield 50, 3) := by decide +kernel
theorem dX11_judge_30 : decode cX11_judge 30 = .ok (.iload_n 1, 1) := by decide +kernel
theorem dX11_judge_31 : decode cX11_judge 31 = .ok (.aaload, 1) := by decide +kernel
theorem dX11_judge_32 : decode cX11_judge 32 = .ok (.getfield 90, 3) := by decide +kernel
theorem dX11_judge_35 : decode cX11_judge 35 = .ok (.if_icmp .ge 52, 3) := by decide +kernel
theorem dX11_judge_38 : decode cX11_judge 38 = .ok (.aload_n 0, 1) := by decide +kernel
theorem dX11_judge_39 : decode cX11_judge 39 = .ok (.getfield 50, 3) := by decide +kernel
theorem dX11_judge_42 : decode cX11_judge 42 = .ok (.iload_n 1, 1) := by decide +kernel
theorem dX11_judge_43 : decode cX11_judge 43 = .ok (.aaload, 1) := by decide +kernel
theorem dX11_judge_44 : decode cX11_judge 44 = .ok (.iload_n 3, 1) := by decide +kernel
theorem dX11_judge_45 : decode cX11_judge 45 = .ok (.invokevirtual 268, 3) := by decide +kernel
theorem dX11_judge_48 : decode cX11_judge 48 = .ok (.ifCond .ne 25, 3) := by decide +kernel
theorem dX11_judge_51 : decode cX11_judge 51 = .ok (.aload_n 0, 1) := by decide +kernel
theorem dX11_judge_52 : decode cX11_judge 52 = .ok (.getfield 50, 3) := by decide +kernel
theorem dX11_judge_55 : decode cX11_judge 55 = .ok (.iload_n 1, 1) := by decide +kernel
theorem dX11_judge_56 : decode cX11_judge 56 = .ok (.aaload, 1) := by decide +kernel
theorem dX11_judge_57 : decode cX11_judge 57 = .ok (.iload_n 3, 1) := by decide +kernel
theorem dX11_judge_58 : decode cX11_judge 58 = .ok (.invokevirtual 97, 3) := by decide +kernel
theorem dX11_judge_61 : decode cX11_judge 61 = .ok (.aload_n 0, 1) := by decide +kernel
theorem dX11_judge_62 : decode cX11_judge 62 = .ok (.getfield 42, 3) := by decide +kernel
theorem dX11_judge_65 : decode cX11_judge 65 = .ok (.invokevirtual 150, 3) := by decide +kernel
theorem dX11_judge_68 : decode cX11_judge 68 = .ok (.if_icmp .eq 5, 3) := by decide +kernel
theorem dX11_judge_71 : decode cX11_judge 71 = .ok (.iload_n 3, 1) := by decide +kernel
theorem dX11_judge_72 : decode cX11_judge 72 = .ok (.ireturn, 1) := by decide +kernel
theorem dX11_judge_73 : decode cX11_judge 73 = .ok (.aload_n 0, 1) := by decide +kernel
theorem dX11_judge_74 : decode cX11_judge 74 = .ok (.getfield 42, 3) := by decide +kernel
theorem dX11_judge_77 : decode cX11_judge 77 = .ok (.iconst 0, 1) := by decide +kernel
theorem dX11_judge_78 : decode cX11_judge 78 = .ok (.invokevirtual 229, 3) := by decide +kernel
theorem dX11_judge_81 : decode cX11_judge 81 = .ok (.iinc 3 1, 3) := by decide +kernel
theorem dX11_judge_84 : decode cX11_judge 84 = .ok (.goto (-59), 3) := by decide +kernel
theorem dX11_judge_87 : decode cX11_judge 87 = .ok (.bipush (-4), 2) := by decide +kernel
theorem dX11_judge_89 : decode cX11_judge 89 = .ok (.ireturn, 1) := by decide +kernel
set_option maxRecDepth 20000 in
theorem ggX11_days_X11_within : GoodIn wsX11_days wsX11_within := goodIn_r _ [8] rfl gwX11_within
set_option maxRecDepth 20000 in
theorem gX11_days_X11_within : GoodIn wsX11_days (va_wsS RX11 158 yX11_within wsX11_within) := goodIn_app (goodIn_r _ [5, 6, 7] rfl (by decide +kernel)) ggX11_days_X11_within
set_option maxRecDepth 20000 in
theorem ggX11_days_X3_becomes : GoodIn wsX11_days wsX3_becomes := goodIn_r _ [13, 14, 15, 16, 17, 18, 19, 20, 21, 22, 23, 24, 25, 26, 27, 28, 29, 30, 31, 32, 33, 34, 35, 36, 220, 221, 222, 223, 224, 225, 226, 227, 228, 229, 230, 231, 232, 233, 234, 235, 236, 237, 238, 239] rfl gwX3_becomes
set_option maxRecDepth 20000 in
theorem gX11_days_X3_becomes : GoodIn wsX11_days (wsV RX11 86 RX3 yX3_becomes wsX3_becomes) := goodIn_app (goodIn_r _ [9, 10, 11, 12] rfl (by decide +kernel)) ggX11_days_X3_becomes
set_option maxRecDepth 20000 in
theorem gwX11_liveOneDay : wsX11_liveOneDay.all goodWord = true := by decide +kernel
set_option maxRecDepth 20000 in
theorem ggX11_days_X11_liveOneDay : GoodIn wsX11_days wsX11_liveOneDay := goodIn_r _ [40, 4, 2, 41, 42, 43, 44, 45, 7, 46, 3, 47, 48, 49, 50, 51, 12, 52, 16, 53, 54, 55, 56, 14, 6, 8, 57, 58, 59, 20, 60, 32, 61, 62, 63, 64, 33, 34, 29, 27, 24, 25, 28, 36, 65, 66, 67, 68, 69, 70, 71, 72, 73, 74, 75, 76, 77, 78, 79, 15, 80, 81, 82, 83, 84, 85, 86, 87, 88, 89, 90, 91, 92, 93, 94, 95, 96, 97, 98, 99, 100, 101, 102, 103, 104, 105, 106, 107, 108, 109, 110, 111, 112, 113, 114, 115, 116, 117, 118, 119, 120, 121, 122, 123, 124, 125, 126, 127, 128, 129, 130, 131, 35, 132, 133, 134, 135, 136, 137, 138, 139, 140, 141, 142, 143, 144, 145, 146, 147, 148, 149, 150, 151, 152, 153, 154, 155, 156, 157, 158, 159, 160, 161, 162, 163, 164, 165, 166, 167, 168, 169, 170, 171, 172, 173, 174, 30, 175, 176, 177, 178, 31, 179, 180, 181, 182, 183, 184, 185, 186, 187, 188, 189, 190, 191, 192, 193, 194, 209, 210, 211, 212, 213, 214, 215, 216, 217, 218, 219, 220, 221, 222, 223, 224, 225, 226, 227, 228, 229, 230, 231, 232, 233, 234, 235, 236, 237, 238, 239] rfl gwX11_liveOneDay
set_option maxRecDepth 20000 in
theorem gX11_days_X11_liveOneDay : GoodIn wsX11_days (wsV RX11 310 RX11 yX11_liveOneDay wsX11_liveOneDay) := goodIn_app (goodIn_r _ [37, 38, 39, 7] rfl (by decide +kernel)) ggX11_days_X11_liveOneDay
set_option maxRecDepth 20000 in
theorem ggX11_days_X3_lateOfAll : GoodIn wsX11_days wsX3_lateOfAll := goodIn_r _ [198, 199, 200, 201, 12, 202, 14, 16, 203, 220, 221, 222, 223, 224, 225, 226, 227, 228, 229, 230, 231, 232, 233, 234, 235, 236, 237, 238, 239] rfl gwX3_lateOfAll
set_option maxRecDepth 20000 in
theorem gX11_days_X3_lateOfAll : GoodIn wsX11_days (wsV RX11 210 RX3 yX3_lateOfAll wsX3_lateOfAll) := goodIn_app (goodIn_r _ [195, 196, 197, 12] rfl (by decide +kernel)) ggX11_days_X3_lateOfAll
set_option maxRecDepth 20000 in
theorem gwX3_doneOfAll : wsX3_doneOfAll.all goodWord = true := by decide +kernel
set_option maxRecDepth 20000 in
theorem ggX11_days_X3_doneOfAll : GoodIn wsX11_days wsX3_doneOfAll := goodIn_r _ [207, 14, 16, 208, 220, 221, 222, 223, 224, 225, 226, 227, 228, 229, 230, 231, 232, 233, 234, 235, 236, 237, 238, 239] rfl gwX3_doneOfAll
set_option maxRecDepth 20000 in
theorem gX11_days_X3_doneOfAll : GoodIn wsX11_days (wsV RX11 313 RX3 yX3_doneOfAll wsX3_doneOfAll) := goodIn_app (goodIn_r _ [204, 205, 206, 12] rfl (by decide +kernel)) ggX11_days_X3_doneOfAll
theorem dX11_days_0 : decode cX11_days 0 = .ok (.iload_n 1, 1) := by decide +kernel
theorem dX11_days_1 : decode cX11_days 1 = .ok (.iconst 1, 1) := by decide +kernel
theorem dX11_days_2 : decode cX11_days 2 = .ok (.bipush 20, 2) := by decide +kernel
theorem dX11_days_4 : decode cX11_days 4 = .ok (.invokestatic 158, 3) := by decide +kernel
theorem dX11_days_7 : decode cX11_days 7 = .ok (.ifCond .eq 12, 3) := by decide +kernel
theorem dX11_days_10 : decode cX11_days 10 = .ok (.iload_n 3, 1) := by decide +kernel
theorem dX11_days_11 : decode cX11_days 11 = .ok (.iconst 0, 1) := by decide +kernel
theorem dX11_days_12 : decode cX11_days 12 = .ok (.iconst 1, 1) := by decide +kernel
theorem dX11_days_13 : decode cX11_days 13 = .ok (.invokestatic 158, 3) := by decide +kernel
theorem dX11_days_16 : decode cX11_days 16 = .ok (.ifCond .ne 5, 3) := by decide +kernel
theorem dX11_days_19 : decode cX11_days 19 = .ok (.iconst (-1), 1) := by decide +kernel
theorem dX11_days_20 : decode cX11_days 20 = .ok (.ireturn, 1) := by decide +kernel
theorem dX11_days_21 : decode cX11_days 21 = .ok (.aload_n 0, 1) := by decide +kernel
theorem dX11_days_22 : decode cX11_days 22 = .ok (.getfield 38, 3) := by decide +kernel
theorem dX11_days_25 : decode cX11_days 25 = .ok (.getfield 182, 3) := by decide +kernel
theorem dX11_days_28 : decode cX11_days 28 = .ok (.ifCond .ne 5, 3) := by decide +kernel
theorem dX11_days_31 : decode cX11_days 31 = .ok (.iconst 0, 1) := by decide +kernel
theorem dX11_days_32 : decode cX11_days 32 = .ok (.ireturn, 1) := by decide +kernel
theorem dX11_days_33 : decode cX11_days 33 = .ok (.aload_n 0, 1) := by decide +kernel
theorem dX11_days_34 : decode cX11_days 34 = .ok (.iload_n 2, 1) := by decide +kernel
theorem dX11_days_35 : decode cX11_days 35 = .ok (.putfield 307, 3) := by decide +kernel
theorem dX11_days_38 : decode cX11_days 38 = .ok (.iconst 0, 1) := by decide +kernel
theorem dX11_days_39 : decode cX11_days 39 = .ok (.istore 4, 2) := by decide +kernel
theorem dX11_days_41 : decode cX11_days 41 = .ok (.iconst 0, 1) := by decide +kernel
theorem dX11_days_42 : decode cX11_days 42 = .ok (.istore 5, 2) := by decide +kernel
theorem dX11_days_44 : decode cX11_days 44 = .ok (.iload 5, 2) := by decide +kernel
theorem dX11_days_46 : decode cX11_days 46 = .ok (.iload_n 1, 1) := by decide +kernel
theorem dX11_days_47 : decode cX11_days 47 = .ok (.if_icmp .ge 66, 3) := by decide +kernel
theorem dX11_days_50 : decode cX11_days 50 = .ok (.aload_n 0, 1) := by decide +kernel
theorem dX11_days_51 : decode cX11_days 51 = .ok (.getfield 42, 3) := by decide +kernel
theorem dX11_days_54 : decode cX11_days 54 = .ok (.aload_n 0, 1) := by decide +kernel
theorem dX11_days_55 : decode cX11_days 55 = .ok (.getfield 38, 3) := by decide +kernel
theorem dX11_days_58 : decode cX11_days 58 = .ok (.invokevirtual 86, 3) := by decide +kernel
theorem dX11_days_61 : decode cX11_days 61 = .ok (.aload_n 0, 1) := by decide +kernel
theorem dX11_days_62 : decode cX11_days 62 = .ok (.invokevirtual 310, 3) := by decide +kernel
theorem dX11_days_65 : decode cX11_days 65 = .ok (.iload 4, 2) := by decide +kernel
theorem dX11_days_67 : decode cX11_days 67 = .ok (.iload_n 3, 1) := by decide +kernel
theorem dX11_days_68 : decode cX11_days 68 = .ok (.ifCond .ne 21, 3) := by decide +kernel
theorem dX11_days_71 : decode cX11_days 71 = .ok (.aload_n 0, 1) := by decide +kernel
theorem dX11_days_72 : decode cX11_days 72 = .ok (.getfield 42, 3) := by decide +kernel
theorem dX11_days_75 : decode cX11_days 75 = .ok (.invokevirtual 210, 3) := by decide +kernel
theorem dX11_days_78 : decode cX11_days 78 = .ok (.aload_n 0, 1) := by decide +kernel
theorem dX11_days_79 : decode cX11_days 79 = .ok (.getfield 38, 3) := by decide +kernel
theorem dX11_days_82 : decode cX11_days 82 = .ok (.invokevirtual 210, 3) := by decide +kernel
theorem dX11_days_85 : decode cX11_days 85 = .ok (.isub, 1) := by decide +kernel
theorem dX11_days_86 : decode cX11_days 86 = .ok (.goto 18, 3) := by decide +kernel
theorem dX11_days_89 : decode cX11_days 89 = .ok (.aload_n 0, 1) := by decide +kernel
theorem dX11_days_90 : decode cX11_days 90 = .ok (.getfield 42, 3) := by decide +kernel
theorem dX11_days_93 : decode cX11_days 93 = .ok (.invokevirtual 313, 3) := by decide +kernel
theorem dX11_days_96 : decode cX11_days 96 = .ok (.aload_n 0, 1) := by decide +kernel
theorem dX11_days_97 : decode cX11_days 97 = .ok (.getfield 38, 3) := by decide +kernel
theorem dX11_days_100 : decode cX11_days 100 = .ok (.invokevirtual 313, 3) := by decide +kernel
theorem dX11_days_103 : decode cX11_days 103 = .ok (.isub, 1) := by decide +kernel
theorem dX11_days_104 : decode cX11_days 104 = .ok (.iadd, 1) := by decide +kernel
theorem dX11_days_105 : decode cX11_days 105 = .ok (.istore 4, 2) := by decide +kernel
theorem dX11_days_107 : decode cX11_days 107 = .ok (.iinc 5 1, 3) := by decide +kernel
theorem dX11_days_110 : decode cX11_days 110 = .ok (.goto (-66), 3) := by decide +kernel
theorem dX11_days_113 : decode cX11_days 113 = .ok (.iload 4, 2) := by decide +kernel
theorem dX11_days_115 : decode cX11_days 115 = .ok (.ireturn, 1) := by decide +kernel
set_option maxRecDepth 20000 in
theorem gwX11_draw : wsX11_draw.all goodWord = true := by decide +kernel
set_option maxRecDepth 20000 in
theorem ggX11_liveOneDay_X11_draw : GoodIn wsX11_liveOneDay wsX11_draw := goodIn_r _ [9, 10, 11, 12, 178, 179, 180, 181, 182, 183, 184, 185, 186, 187, 188] rfl gwX11_draw
set_option maxRecDepth 20000 in
theorem gX11_liveOneDay_X11_draw : GoodIn wsX11_liveOneDay (wsV RX11 316 RX11 yX11_draw wsX11_draw) := goodIn_app (goodIn_r _ [5, 6, 7, 8] rfl (by decide +kernel)) ggX11_liveOneDay_X11_draw
set_option maxRecDepth 20000 in
theorem ggX11_liveOneDay_X3_sendingRefusal : GoodIn wsX11_liveOneDay wsX3_sendingRefusal := goodIn_r _ [17, 18, 19, 20, 21, 16, 22, 23, 24, 8, 25, 26, 27, 28, 29, 30, 31, 189, 190, 191, 192, 193, 194, 195, 196, 197, 198, 199, 200, 201, 202, 203, 204, 205, 206, 207, 208] rfl gwX3_sendingRefusal
set_option maxRecDepth 20000 in
theorem gX11_liveOneDay_X3_sendingRefusal : GoodIn wsX11_liveOneDay (wsV RX11 189 RX3 yX3_sendingRefusal wsX3_sendingRefusal) := goodIn_app (goodIn_r _ [13, 14, 15, 16] rfl (by decide +kernel)) ggX11_liveOneDay_X3_sendingRefusal
set_option maxRecDepth 20000 in
theorem ggX11_liveOneDay_X5_takeJob : GoodIn wsX11_liveOneDay wsX5_takeJob := goodIn_r _ [35, 36, 31, 37, 38, 39, 40, 41, 42, 43, 44, 27, 28, 29, 30, 45, 46, 47, 48, 194, 195, 196, 197, 198, 199, 200, 201, 202, 203, 204, 205, 206, 207, 208] rfl gwX5_takeJob
set_option maxRecDepth 20000 in
theorem gX11_liveOneDay_X5_takeJob : GoodIn wsX11_liveOneDay (wsV RX11 196 RX5 yX5_takeJob wsX5_takeJob) := goodIn_app (goodIn_r _ [32, 33, 34, 29] rfl (by decide +kernel)) ggX11_liveOneDay_X5_takeJob
set_option maxRecDepth 20000 in
theorem ggX11_liveOneDay_X3_goOnFor : GoodIn wsX11_liveOneDay wsX3_goOnFor := goodIn_r _ [52, 53, 54, 55, 16, 56, 57, 58, 59, 60, 61, 62, 63, 23, 18, 64, 65, 66, 67, 68, 69, 70, 71, 72, 73, 74, 75, 76, 77, 78, 79, 80, 81, 82, 83, 84, 85, 86, 87, 88, 89, 90, 91, 92, 93, 46, 47, 29, 48, 39, 41, 40, 42, 94, 95, 96, 97, 98, 99, 100, 101, 102, 103, 104, 105, 106, 107, 108, 109, 110, 111, 31, 112, 37, 113, 114, 115, 116, 117, 118, 119, 120, 121, 122, 123, 124, 125, 126, 127, 128, 129, 130, 131, 132, 133, 134, 135, 136, 137, 138, 139, 140, 141, 142, 143, 144, 145, 146, 147, 148, 149, 150, 151, 152, 153, 154, 155, 36, 43, 156, 157, 158, 159, 160, 161, 38, 162, 163, 164, 165, 166, 167, 168, 169, 170, 171, 172, 173, 174, 175, 176, 177, 189, 190, 191, 192, 193, 194, 195, 196, 197, 198, 199, 200, 201, 202, 203, 204, 205, 206, 207, 208] rfl gwX3_goOnFor
set_option maxRecDepth 20000 in
theorem gX11_liveOneDay_X3_goOnFor : GoodIn wsX11_liveOneDay (wsV RX11 206 RX3 yX3_goOnFor wsX3_goOnFor) := goodIn_app (goodIn_r _ [49, 50, 51, 16] rfl (by decide +kernel)) ggX11_liveOneDay_X3_goOnFor
theorem dX11_liveOneDay_0 : decode cX11_liveOneDay 0 = .ok (.iconst 0, 1) := by decide +kernel
theorem dX11_liveOneDay_1 : decode cX11_liveOneDay 1 = .ok (.istore_n 1, 1) := by decide +kernel
theorem dX11_liveOneDay_2 : decode cX11_liveOneDay 2 = .ok (.iload_n 1, 1) := by decide +kernel
theorem dX11_liveOneDay_3 : decode cX11_liveOneDay 3 = .ok (.bipush 6, 2) := by decide +kernel
theorem dX11_liveOneDay_5 : decode cX11_liveOneDay 5 = .ok (.if_icmp .ge 81, 3) := by decide +kernel
theorem dX11_liveOneDay_8 : decode cX11_liveOneDay 8 = .ok (.iconst 1, 1) := by decide +kernel
theorem dX11_liveOneDay_9 : decode cX11_liveOneDay 9 = .ok (.aload_n 0, 1) := by decide +kernel
theorem dX11_liveOneDay_10 : decode cX11_liveOneDay 10 = .ok (.bipush 9, 2) := by decide +kernel
theorem dX11_liveOneDay_12 : decode cX11_liveOneDay 12 = .ok (.invokevirtual 316, 3) := by decide +kernel
theorem dX11_liveOneDay_15 : decode cX11_liveOneDay 15 = .ok (.iadd, 1) := by decide +kernel
theorem dX11_liveOneDay_16 : decode cX11_liveOneDay 16 = .ok (.istore_n 2, 1) := by decide +kernel
theorem dX11_liveOneDay_17 : decode cX11_liveOneDay 17 = .ok (.aload_n 0, 1) := by decide +kernel
theorem dX11_liveOneDay_18 : decode cX11_liveOneDay 18 = .ok (.iconst 4, 1) := by decide +kernel
theorem dX11_liveOneDay_19 : decode cX11_liveOneDay 19 = .ok (.invokevirtual 316, 3) := by decide +kernel
theorem dX11_liveOneDay_22 : decode cX11_liveOneDay 22 = .ok (.istore_n 3, 1) := by decide +kernel
theorem dX11_liveOneDay_23 : decode cX11_liveOneDay 23 = .ok (.aload_n 0, 1) := by decide +kernel
theorem dX11_liveOneDay_24 : decode cX11_liveOneDay 24 = .ok (.aload_n 0, 1) := by decide +kernel
theorem dX11_liveOneDay_25 : decode cX11_liveOneDay 25 = .ok (.getfield 42, 3) := by decide +kernel
theorem dX11_liveOneDay_28 : decode cX11_liveOneDay 28 = .ok (.getfield 182, 3) := by decide +kernel
theorem dX11_liveOneDay_31 : decode cX11_liveOneDay 31 = .ok (.invokevirtual 316, 3) := by decide +kernel
theorem dX11_liveOneDay_34 : decode cX11_liveOneDay 34 = .ok (.istore 4, 2) := by decide +kernel
theorem dX11_liveOneDay_36 : decode cX11_liveOneDay 36 = .ok (.aload_n 0, 1) := by decide +kernel
theorem dX11_liveOneDay_37 : decode cX11_liveOneDay 37 = .ok (.getfield 42, 3) := by decide +kernel
theorem dX11_liveOneDay_40 : decode cX11_liveOneDay 40 = .ok (.iload 4, 2) := by decide +kernel
theorem dX11_liveOneDay_42 : decode cX11_liveOneDay 42 = .ok (.iload_n 2, 1) := by decide +kernel
theorem dX11_liveOneDay_43 : decode cX11_liveOneDay 43 = .ok (.iload_n 3, 1) := by decide +kernel
theorem dX11_liveOneDay_44 : decode cX11_liveOneDay 44 = .ok (.invokevirtual 189, 3) := by decide +kernel
theorem dX11_liveOneDay_47 : decode cX11_liveOneDay 47 = .ok (.ifCond .ne 25, 3) := by decide +kernel
theorem dX11_liveOneDay_50 : decode cX11_liveOneDay 50 = .ok (.aload_n 0, 1) := by decide +kernel
theorem dX11_liveOneDay_51 : decode cX11_liveOneDay 51 = .ok (.getfield 42, 3) := by decide +kernel
theorem dX11_liveOneDay_54 : decode cX11_liveOneDay 54 = .ok (.getfield 107, 3) := by decide +kernel
theorem dX11_liveOneDay_57 : decode cX11_liveOneDay 57 = .ok (.iload 4, 2) := by decide +kernel
theorem dX11_liveOneDay_59 : decode cX11_liveOneDay 59 = .ok (.aaload, 1) := by decide +kernel
theorem dX11_liveOneDay_60 : decode cX11_liveOneDay 60 = .ok (.iload_n 2, 1) := by decide +kernel
theorem dX11_liveOneDay_61 : decode cX11_liveOneDay 61 = .ok (.iload_n 3, 1) := by decide +kernel
theorem dX11_liveOneDay_62 : decode cX11_liveOneDay 62 = .ok (.aload_n 0, 1) := by decide +kernel
theorem dX11_liveOneDay_63 : decode cX11_liveOneDay 63 = .ok (.getfield 42, 3) := by decide +kernel
theorem dX11_liveOneDay_66 : decode cX11_liveOneDay 66 = .ok (.getfield 193, 3) := by decide +kernel
theorem dX11_liveOneDay_69 : decode cX11_liveOneDay 69 = .ok (.invokevirtual 196, 3) := by decide +kernel
theorem dX11_liveOneDay_72 : decode cX11_liveOneDay 72 = .ok (.aload_n 0, 1) := by decide +kernel
theorem dX11_liveOneDay_73 : decode cX11_liveOneDay 73 = .ok (.getfield 42, 3) := by decide +kernel
theorem dX11_liveOneDay_76 : decode cX11_liveOneDay 76 = .ok (.iconst 5, 1) := by decide +kernel
theorem dX11_liveOneDay_77 : decode cX11_liveOneDay 77 = .ok (.invokevirtual 206, 3) := by decide +kernel
theorem dX11_liveOneDay_80 : decode cX11_liveOneDay 80 = .ok (.iinc 1 1, 3) := by decide +kernel
theorem dX11_liveOneDay_83 : decode cX11_liveOneDay 83 = .ok (.goto (-81), 3) := by decide +kernel
theorem dX11_liveOneDay_86 : decode cX11_liveOneDay 86 = .ok (.return_, 1) := by decide +kernel
theorem dX11_draw_0 : decode cX11_draw 0 = .ok (.aload_n 0, 1) := by decide +kernel
theorem dX11_draw_1 : decode cX11_draw 1 = .ok (.aload_n 0, 1) := by decide +kernel
theorem dX11_draw_2 : decode cX11_draw 2 = .ok (.getfield 307, 3) := by decide +kernel
theorem dX11_draw_5 : decode cX11_draw 5 = .ok (.ldc_w 319, 3) := by decide +kernel
theorem dX11_draw_8 : decode cX11_draw 8 = .ok (.imul, 1) := by decide +kernel
theorem dX11_draw_9 : decode cX11_draw 9 = .ok (.sipush 12345, 3) := by decide +kernel
theorem dX11_draw_12 : decode cX11_draw 12 = .ok (.iadd, 1) := by decide +kernel
theorem dX11_draw_13 : decode cX11_draw 13 = .ok (.putfield 307, 3) := by decide +kernel
theorem dX11_draw_16 : decode cX11_draw 16 = .ok (.iload_n 1, 1) := by decide +kernel
theorem dX11_draw_17 : decode cX11_draw 17 = .ok (.iconst 1, 1) := by decide +kernel
theorem dX11_draw_18 : decode cX11_draw 18 = .ok (.if_icmp .ge 7, 3) := by decide +kernel
theorem dX11_draw_21 : decode cX11_draw 21 = .ok (.iconst 0, 1) := by decide +kernel
theorem dX11_draw_22 : decode cX11_draw 22 = .ok (.goto 16, 3) := by decide +kernel
theorem dX11_draw_25 : decode cX11_draw 25 = .ok (.aload_n 0, 1) := by decide +kernel
theorem dX11_draw_26 : decode cX11_draw 26 = .ok (.getfield 307, 3) := by decide +kernel
theorem dX11_draw_29 : decode cX11_draw 29 = .ok (.ldc_w 320, 3) := by decide +kernel
theorem dX11_draw_32 : decode cX11_draw 32 = .ok (.iand, 1) := by decide +kernel
theorem dX11_draw_33 : decode cX11_draw 33 = .ok (.bipush 16, 2) := by decide +kernel
theorem dX11_draw_35 : decode cX11_draw 35 = .ok (.ishr, 1) := by decide +kernel
theorem dX11_draw_36 : decode cX11_draw 36 = .ok (.iload_n 1, 1) := by decide +kernel
theorem dX11_draw_37 : decode cX11_draw 37 = .ok (.irem, 1) := by decide +kernel
theorem dX11_draw_38 : decode cX11_draw 38 = .ok (.ireturn, 1) := by decide +kernel
set_option maxRecDepth 20000 in
theorem ggX11_image_X3_becomes : GoodIn wsX11_image wsX3_becomes := goodIn_r _ [9, 10, 11, 12, 13, 14, 15, 16, 17, 18, 19, 20, 21, 22, 23, 24, 25, 26, 27, 28, 29, 30, 31, 32, 44, 45, 46, 47, 48, 49, 50, 51, 52, 53, 54, 55, 56, 57, 58, 59, 60, 61, 62, 63] rfl gwX3_becomes
set_option maxRecDepth 20000 in
theorem gX11_image_X3_becomes : GoodIn wsX11_image (wsV RX11 86 RX3 yX3_becomes wsX3_becomes) := goodIn_app (goodIn_r _ [5, 6, 7, 8] rfl (by decide +kernel)) ggX11_image_X3_becomes
theorem dX11_image_0 : decode cX11_image 0 = .ok (.aload_n 0, 1) := by decide +kernel
theorem dX11_image_1 : decode cX11_image 1 = .ok (.getfield 45, 3) := by decide +kernel
theorem dX11_image_4 : decode cX11_image 4 = .ok (.aload_n 0, 1) := by decide +kernel
theorem dX11_image_5 : decode cX11_image 5 = .ok (.getfield 38, 3) := by decide +kernel
theorem dX11_image_8 : decode cX11_image 8 = .ok (.invokevirtual 86, 3) := by decide +kernel
theorem dX11_image_11 : decode cX11_image 11 = .ok (.aload_n 0, 1) := by decide +kernel
theorem dX11_image_12 : decode cX11_image 12 = .ok (.iconst 1, 1) := by decide +kernel
theorem dX11_image_13 : decode cX11_image 13 = .ok (.putfield 321, 3) := by decide +kernel
theorem dX11_image_16 : decode cX11_image 16 = .ok (.aload_n 0, 1) := by decide +kernel
theorem dX11_image_17 : decode cX11_image 17 = .ok (.getfield 38, 3) := by decide +kernel
theorem dX11_image_20 : decode cX11_image 20 = .ok (.getfield 193, 3) := by decide +kernel
theorem dX11_image_23 : decode cX11_image 23 = .ok (.ireturn, 1) := by decide +kernel
set_option maxRecDepth 20000 in
theorem ggX11_restore_X3_becomes : GoodIn wsX11_restore wsX3_becomes := goodIn_r _ [9, 10, 11, 12, 13, 14, 15, 16, 17, 18, 19, 20, 21, 22, 23, 24, 25, 26, 27, 28, 29, 30, 31, 32, 44, 45, 46, 47, 48, 49, 50, 51, 52, 53, 54, 55, 56, 57, 58, 59, 60, 61, 62, 63] rfl gwX3_becomes
set_option maxRecDepth 20000 in
theorem gX11_restore_X3_becomes : GoodIn wsX11_restore (wsV RX11 86 RX3 yX3_becomes wsX3_becomes) := goodIn_app (goodIn_r _ [5, 6, 7, 8] rfl (by decide +kernel)) ggX11_restore_X3_becomes
theorem dX11_restore_0 : decode cX11_restore 0 = .ok (.aload_n 0, 1) := by decide +kernel
theorem dX11_restore_1 : decode cX11_restore 1 = .ok (.getfield 321, 3) := by decide +kernel
theorem dX11_restore_4 : decode cX11_restore 4 = .ok (.ifCond .ne 6, 3) := by decide +kernel
theorem dX11_restore_7 : decode cX11_restore 7 = .ok (.bipush (-3), 2) := by decide +kernel
theorem dX11_restore_9 : decode cX11_restore 9 = .ok (.ireturn, 1) := by decide +kernel
theorem dX11_restore_10 : decode cX11_restore 10 = .ok (.aload_n 0, 1) := by decide +kernel
theorem dX11_restore_11 : decode cX11_restore 11 = .ok (.getfield 38, 3) := by decide +kernel
theorem dX11_restore_14 : decode cX11_restore 14 = .ok (.aload_n 0, 1) := by decide +kernel
theorem dX11_restore_15 : decode cX11_restore 15 = .ok (.getfield 45, 3) := by decide +kernel
theorem dX11_restore_18 : decode cX11_restore 18 = .ok (.invokevirtual 86, 3) := by decide +kernel
theorem dX11_restore_21 : decode cX11_restore 21 = .ok (.aload_n 0, 1) := by decide +kernel
theorem dX11_restore_22 : decode cX11_restore 22 = .ok (.getfield 38, 3) := by decide +kernel
theorem dX11_restore_25 : decode cX11_restore 25 = .ok (.getfield 193, 3) := by decide +kernel
theorem dX11_restore_28 : decode cX11_restore 28 = .ok (.ireturn, 1) := by decide +kernel
set_option maxRecDepth 20000 in
theorem ggX11_count_X3_loadOfAll : GoodIn wsX11_count wsX3_loadOfAll := goodIn_r _ [8, 9, 10, 11, 12, 54, 55, 56, 57, 58, 59, 60, 61, 62, 63, 64, 65, 66, 67, 68, 69, 70, 71, 72, 73] rfl gwX3_loadOfAll
set_option maxRecDepth 20000 in
theorem gX11_count_X3_loadOfAll : GoodIn wsX11_count (wsV RX11 150 RX3 yX3_loadOfAll wsX3_loadOfAll) := goodIn_app (goodIn_r _ [4, 5, 6, 7] rfl (by decide +kernel)) ggX11_count_X3_loadOfAll
set_option maxRecDepth 20000 in
theorem gwX3_readyOnes : wsX3_readyOnes.all goodWord = true := by decide +kernel
set_option maxRecDepth 20000 in
theorem ggX11_count_X3_readyOnes : GoodIn wsX11_count wsX3_readyOnes := goodIn_r _ [16, 9, 10, 11, 54, 55, 56, 57, 58, 59, 60, 61, 62, 63, 64, 65, 66, 67, 68, 69, 70, 71, 72, 73] rfl gwX3_readyOnes
set_option maxRecDepth 20000 in
theorem gX11_count_X3_readyOnes : GoodIn wsX11_count (wsV RX11 324 RX3 yX3_readyOnes wsX3_readyOnes) := goodIn_app (goodIn_r _ [13, 14, 15, 7] rfl (by decide +kernel)) ggX11_count_X3_readyOnes
set_option maxRecDepth 20000 in
theorem ggX11_count_X3_jobsOfAll : GoodIn wsX11_count wsX3_jobsOfAll := goodIn_r _ [20, 9, 10, 21, 54, 55, 56, 57, 58, 59, 60, 61, 62, 63, 64, 65, 66, 67, 68, 69, 70, 71, 72, 73] rfl gwX3_jobsOfAll
set_option maxRecDepth 20000 in
theorem gX11_count_X3_jobsOfAll : GoodIn wsX11_count (wsV RX11 222 RX3 yX3_jobsOfAll wsX3_jobsOfAll) := goodIn_app (goodIn_r _ [17, 18, 19, 7] rfl (by decide +kernel)) ggX11_count_X3_jobsOfAll
set_option maxRecDepth 20000 in
theorem ggX11_count_X3_lateOfAll : GoodIn wsX11_count wsX3_lateOfAll := goodIn_r _ [25, 26, 27, 28, 7, 29, 9, 10, 30, 54, 55, 56, 57, 58, 59, 60, 61, 62, 63, 64, 65, 66, 67, 68, 69, 70, 71, 72, 73] rfl gwX3_lateOfAll
set_option maxRecDepth 20000 in
theorem gX11_count_X3_lateOfAll : GoodIn wsX11_count (wsV RX11 210 RX3 yX3_lateOfAll wsX3_lateOfAll) := goodIn_app (goodIn_r _ [22, 23, 24, 7] rfl (by decide +kernel)) ggX11_count_X3_lateOfAll
set_option maxRecDepth 20000 in
theorem ggX11_count_X3_holderOf : GoodIn wsX11_count wsX3_holderOf := goodIn_r _ [34, 9, 10, 35, 36, 37, 38, 39, 40, 41, 42, 54, 55, 56, 57, 58, 59, 60, 61, 62, 63, 64, 65, 66, 67, 68, 69, 70, 71, 72, 73] rfl gwX3_holderOf
set_option maxRecDepth 20000 in
theorem gX11_count_X3_holderOf : GoodIn wsX11_count (wsV RX11 327 RX3 yX3_holderOf wsX3_holderOf) := goodIn_app (goodIn_r _ [31, 32, 33, 7] rfl (by decide +kernel)) ggX11_count_X3_holderOf
theorem dX11_count_0 : decode cX11_count 0 = .ok (.iload_n 1, 1) := by decide +kernel
theorem dX11_count_1 : decode cX11_count 1 = .ok (.tableswitch 126 0 8 #[51, 59, 67, 75, 83, 91, 99, 108, 117], 51) := by decide +kernel
theorem dX11_count_52 : decode cX11_count 52 = .ok (.aload_n 0, 1) := by decide +kernel
theorem dX11_count_53 : decode cX11_count 53 = .ok (.getfield 38, 3) := by decide +kernel
theorem dX11_count_56 : decode cX11_count 56 = .ok (.getfield 182, 3) := by decide +kernel
theorem dX11_count_59 : decode cX11_count 59 = .ok (.ireturn, 1) := by decide +kernel
theorem dX11_count_60 : decode cX11_count 60 = .ok (.aload_n 0, 1) := by decide +kernel
theorem dX11_count_61 : decode cX11_count 61 = .ok (.getfield 38, 3) := by decide +kernel
theorem dX11_count_64 : decode cX11_count 64 = .ok (.getfield 193, 3) := by decide +kernel
theorem dX11_count_67 : decode cX11_count 67 = .ok (.ireturn, 1) := by decide +kernel
theorem dX11_count_68 : decode cX11_count 68 = .ok (.aload_n 0, 1) := by decide +kernel
theorem dX11_count_69 : decode cX11_count 69 = .ok (.getfield 38, 3) := by decide +kernel
theorem dX11_count_72 : decode cX11_count 72 = .ok (.invokevirtual 150, 3) := by decide +kernel
theorem dX11_count_75 : decode cX11_count 75 = .ok (.ireturn, 1) := by decide +kernel
theorem dX11_count_76 : decode cX11_count 76 = .ok (.aload_n 0, 1) := by decide +kernel
theorem dX11_count_77 : decode cX11_count 77 = .ok (.getfield 38, 3) := by decide +kernel
theorem dX11_count_80 : decode cX11_count 80 = .ok (.invokevirtual 324, 3) := by decide +kernel
theorem dX11_count_83 : decode cX11_count 83 = .ok (.ireturn, 1) := by decide +kernel
theorem dX11_count_84 : decode cX11_count 84 = .ok (.aload_n 0, 1) := by decide +kernel
theorem dX11_count_85 : decode cX11_count 85 = .ok (.getfield 38, 3) := by decide +kernel
theorem dX11_count_88 : decode cX11_count 88 = .ok (.invokevirtual 222, 3) := by decide +kernel
theorem dX11_count_91 : decode cX11_count 91 = .ok (.ireturn, 1) := by decide +kernel
theorem dX11_count_92 : decode cX11_count 92 = .ok (.aload_n 0, 1) := by decide +kernel
theorem dX11_count_93 : decode cX11_count 93 = .ok (.getfield 38, 3) := by decide +kernel
theorem dX11_count_96 : decode cX11_count 96 = .ok (.invokevirtual 210, 3) := by decide +kernel
theorem dX11_count_99 : decode cX11_count 99 = .ok (.ireturn, 1) := by decide +kernel
theorem dX11_count_100 : decode cX11_count 100 = .ok (.aload_n 0, 1) := by decide +kernel
theorem dX11_count_101 : decode cX11_count 101 = .ok (.getfield 38, 3) := by decide +kernel
theorem dX11_count_104 : decode cX11_count 104 = .ok (.iconst 0, 1) := by decide +kernel
theorem dX11_count_105 : decode cX11_count 105 = .ok (.invokevirtual 327, 3) := by decide +kernel
theorem dX11_count_108 : decode cX11_count 108 = .ok (.ireturn, 1) := by decide +kernel
theorem dX11_count_109 : decode cX11_count 109 = .ok (.aload_n 0, 1) := by decide +kernel
theorem dX11_count_110 : decode cX11_count 110 = .ok (.getfield 38, 3) := by decide +kernel
theorem dX11_count_113 : decode cX11_count 113 = .ok (.iconst 1, 1) := by decide +kernel
theorem dX11_count_114 : decode cX11_count 114 = .ok (.invokevirtual 327, 3) := by decide +kernel
theorem dX11_count_117 : decode cX11_count 117 = .ok (.ireturn, 1) := by decide +kernel
theorem dX11_count_118 : decode cX11_count 118 = .ok (.aload_n 0, 1) := by decide +kernel
theorem dX11_count_119 : decode cX11_count 119 = .ok (.getfield 38, 3) := by decide +kernel
theorem dX11_count_122 : decode cX11_count 122 = .ok (.iconst 2, 1) := by decide +kernel
theorem dX11_count_123 : decode cX11_count 123 = .ok (.invokevirtual 327, 3) := by decide +kernel
theorem dX11_count_126 : decode cX11_count 126 = .ok (.ireturn, 1) := by decide +kernel
theorem dX11_count_127 : decode cX11_count 127 = .ok (.iconst (-1), 1) := by decide +kernel
theorem dX11_count_128 : decode cX11_count 128 = .ok (.ireturn, 1) := by decide +kernel
set_option maxRecDepth 20000 in
theorem gwX11_isTray : wsX11_isTray.all goodWord = true := by decide +kernel
set_option maxRecDepth 20000 in
theorem ggX11_tray_X11_isTray : GoodIn wsX11_tray wsX11_isTray := goodIn_r _ [6, 7, 8, 5, 9] rfl gwX11_isTray
set_option maxRecDepth 20000 in
theorem gX11_tray_X11_isTray : GoodIn wsX11_tray (va_wsS RX11 330 yX11_isTray wsX11_isTray) := goodIn_app (goodIn_r _ [3, 4, 5] rfl (by decide +kernel)) ggX11_tray_X11_isTray
set_option maxRecDepth 20000 in
theorem ggX11_tray_X11_within : GoodIn wsX11_tray wsX11_within := goodIn_r _ [9] rfl gwX11_within
set_option maxRecDepth 20000 in
theorem gX11_tray_X11_within : GoodIn wsX11_tray (va_wsS RX11 158 yX11_within wsX11_within) := goodIn_app (goodIn_r _ [7, 8, 5] rfl (by decide +kernel)) ggX11_tray_X11_within
set_option maxRecDepth 20000 in
theorem gwX10_becomeEmpty : wsX10_becomeEmpty.all goodWord = true := by decide +kernel
set_option maxRecDepth 20000 in
theorem ggX11_tray_X10_becomeEmpty : GoodIn wsX11_tray wsX10_becomeEmpty := goodIn_r _ [14, 15, 16, 17, 18, 19, 20, 21, 22, 34, 35, 36, 37] rfl gwX10_becomeEmpty
set_option maxRecDepth 20000 in
theorem gX11_tray_X10_becomeEmpty : GoodIn wsX11_tray (wsV RX11 333 RX10 yX10_becomeEmpty wsX10_becomeEmpty) := goodIn_app (goodIn_r _ [10, 11, 12, 13] rfl (by decide +kernel)) ggX11_tray_X10_becomeEmpty
theorem dX11_tray_0 : decode cX11_tray 0 = .ok (.iload_n 1, 1) := by decide +kernel
theorem dX11_tray_1 : decode cX11_tray 1 = .ok (.invokestatic 330, 3) := by decide +kernel
theorem dX11_tray_4 : decode cX11_tray 4 = .ok (.ifCond .eq 18, 3) := by decide +kernel
theorem dX11_tray_7 : decode cX11_tray 7 = .ok (.iload_n 2, 1) := by decide +kernel
theorem dX11_tray_8 : decode cX11_tray 8 = .ok (.iconst 0, 1) := by decide +kernel
theorem dX11_tray_9 : decode cX11_tray 9 = .ok (.iconst 5, 1) := by decide +kernel
theorem dX11_tray_10 : decode cX11_tray 10 = .ok (.invokestatic 158, 3) := by decide +kernel
theorem dX11_tray_13 : decode cX11_tray 13 = .ok (.ifCond .eq 9, 3) := by decide +kernel
theorem dX11_tray_16 : decode cX11_tray 16 = .ok (.iload_n 3, 1) := by decide +kernel
theorem dX11_tray_17 : decode cX11_tray 17 = .ok (.bipush 20, 2) := by decide +kernel
theorem dX11_tray_19 : decode cX11_tray 19 = .ok (.if_icmp .le 5, 3) := by decide +kernel
theorem dX11_tray_22 : decode cX11_tray 22 = .ok (.iconst (-1), 1) := by decide +kernel
theorem dX11_tray_23 : decode cX11_tray 23 = .ok (.ireturn, 1) := by decide +kernel
theorem dX11_tray_24 : decode cX11_tray 24 = .ok (.iload_n 3, 1) := by decide +kernel
theorem dX11_tray_25 : decode cX11_tray 25 = .ok (.ifCond .ge 6, 3) := by decide +kernel
theorem dX11_tray_28 : decode cX11_tray 28 = .ok (.bipush (-14), 2) := by decide +kernel
theorem dX11_tray_30 : decode cX11_tray 30 = .ok (.ireturn, 1) := by decide +kernel
theorem dX11_tray_31 : decode cX11_tray 31 = .ok (.aload_n 0, 1) := by decide +kernel
theorem dX11_tray_32 : decode cX11_tray 32 = .ok (.getfield 57, 3) := by decide +kernel
theorem dX11_tray_35 : decode cX11_tray 35 = .ok (.iload_n 1, 1) := by decide +kernel
theorem dX11_tray_36 : decode cX11_tray 36 = .ok (.aaload, 1) := by decide +kernel
theorem dX11_tray_37 : decode cX11_tray 37 = .ok (.aload_n 0, 1) := by decide +kernel
theorem dX11_tray_38 : decode cX11_tray 38 = .ok (.getfield 27, 3) := by decide +kernel
theorem dX11_tray_41 : decode cX11_tray 41 = .ok (.iload_n 2, 1) := by decide +kernel
theorem dX11_tray_42 : decode cX11_tray 42 = .ok (.aaload, 1) := by decide +kernel
theorem dX11_tray_43 : decode cX11_tray 43 = .ok (.iload_n 3, 1) := by decide +kernel
theorem dX11_tray_44 : decode cX11_tray 44 = .ok (.invokevirtual 333, 3) := by decide +kernel
theorem dX11_tray_47 : decode cX11_tray 47 = .ok (.iconst 1, 1) := by decide +kernel
theorem dX11_tray_48 : decode cX11_tray 48 = .ok (.ireturn, 1) := by decide +kernel
set_option maxRecDepth 20000 in
theorem ggX11_lays_X11_isTray : GoodIn wsX11_lays wsX11_isTray := goodIn_r _ [12, 13, 14, 11, 15] rfl gwX11_isTray
set_option maxRecDepth 20000 in
theorem gX11_lays_X11_isTray : GoodIn wsX11_lays (va_wsS RX11 330 yX11_isTray wsX11_isTray) := goodIn_app (goodIn_r _ [9, 10, 11] rfl (by decide +kernel)) ggX11_lays_X11_isTray
set_option maxRecDepth 20000 in
theorem ggX11_lays_X11_isShelf : GoodIn wsX11_lays wsX11_isShelf := goodIn_r _ [18, 13, 14, 11, 15] rfl gwX11_isShelf
set_option maxRecDepth 20000 in
theorem gX11_lays_X11_isShelf : GoodIn wsX11_lays (va_wsS RX11 261 yX11_isShelf wsX11_isShelf) := goodIn_app (goodIn_r _ [16, 17, 11] rfl (by decide +kernel)) ggX11_lays_X11_isShelf
set_option maxRecDepth 20000 in
theorem gwX10_hasPlace : wsX10_hasPlace.all goodWord = true := by decide +kernel
set_option maxRecDepth 20000 in
theorem ggX11_lays_X10_hasPlace : GoodIn wsX11_lays wsX10_hasPlace := goodIn_r _ [23, 24, 14, 11, 15, 56, 57, 58, 59] rfl gwX10_hasPlace
set_option maxRecDepth 20000 in
theorem gX11_lays_X10_hasPlace : GoodIn wsX11_lays (wsV RX11 343 RX10 yX10_hasPlace wsX10_hasPlace) := goodIn_app (goodIn_r _ [19, 20, 21, 22] rfl (by decide +kernel)) ggX11_lays_X10_hasPlace
set_option maxRecDepth 20000 in
theorem gwX1_isOrIsUnder : wsX1_isOrIsUnder.all goodWord = true := by decide +kernel
set_option maxRecDepth 20000 in
theorem ggX11_lays_X1_isOrIsUnder : GoodIn wsX11_lays wsX1_isOrIsUnder := goodIn_r _ [30, 31, 32, 60, 61, 62, 63, 64, 65, 66, 67, 68, 69, 70, 71] rfl gwX1_isOrIsUnder
set_option maxRecDepth 20000 in
theorem gX11_lays_X1_isOrIsUnder_u352X0 : GoodIn wsX11_lays (va_wsU RX11 352 RX0 "GreedyServers$Hard" ⟨"GreedyServers$Hard", "isOrIsUnder", "(LGreedyServers$Hard;)Z"⟩ yX1_isOrIsUnder wsX1_isOrIsUnder) := goodIn_app (goodIn_r _ [25, 26, 27, 28, 29] rfl (by decide +kernel)) ggX11_lays_X1_isOrIsUnder
set_option maxRecDepth 20000 in
theorem gX11_lays_X1_isOrIsUnder : GoodIn wsX11_lays (wsV RX11 352 RX1 yX1_isOrIsUnder wsX1_isOrIsUnder) := goodIn_app (goodIn_r _ [25, 28, 34, 29] rfl (by decide +kernel)) ggX11_lays_X1_isOrIsUnder
set_option maxRecDepth 20000 in
theorem gX11_lays_X1_isOrIsUnder_u352X2 : GoodIn wsX11_lays (va_wsU RX11 352 RX2 "GreedyServers$Hard" ⟨"GreedyServers$Hard", "isOrIsUnder", "(LGreedyServers$Hard;)Z"⟩ yX1_isOrIsUnder wsX1_isOrIsUnder) := goodIn_app (goodIn_r _ [25, 26, 35, 28, 29] rfl (by decide +kernel)) ggX11_lays_X1_isOrIsUnder
set_option maxRecDepth 20000 in
theorem gX11_lays_X1_isOrIsUnder_u352X4 : GoodIn wsX11_lays (va_wsU RX11 352 RX4 "GreedyServers$Hard" ⟨"GreedyServers$Hard", "isOrIsUnder", "(LGreedyServers$Hard;)Z"⟩ yX1_isOrIsUnder wsX1_isOrIsUnder) := goodIn_app (goodIn_r _ [25, 26, 36, 28, 29] rfl (by decide +kernel)) ggX11_lays_X1_isOrIsUnder
set_option maxRecDepth 20000 in
theorem gX11_lays_X1_isOrIsUnder_u352X7 : GoodIn wsX11_lays (va_wsU RX11 352 RX7 "GreedyServers$Hard" ⟨"GreedyServers$Hard", "isOrIsUnder", "(LGreedyServers$Hard;)Z"⟩ yX1_isOrIsUnder wsX1_isOrIsUnder) := goodIn_app (goodIn_r _ [25, 26, 37, 28, 29] rfl (by decide +kernel)) ggX11_lays_X1_isOrIsUnder
set_option maxRecDepth 20000 in
theorem gX11_lays_X1_isOrIsUnder_u352X9 : GoodIn wsX11_lays (va_wsU RX11 352 RX9 "GreedyServers$Hard" ⟨"GreedyServers$Hard", "isOrIsUnder", "(LGreedyServers$Hard;)Z"⟩ yX1_isOrIsUnder wsX1_isOrIsUnder) := goodIn_app (goodIn_r _ [25, 26, 38, 28, 29] rfl (by decide +kernel)) ggX11_lays_X1_isOrIsUnder
theorem dX11_lays_0 : decode cX11_lays 0 = .ok (.iload_n 1, 1) := by decide +kernel
theorem dX11_lays_1 : decode cX11_lays 1 = .ok (.invokestatic 330, 3) := by decide +kernel
theorem dX11_lays_4 : decode cX11_lays 4 = .ok (.ifCond .eq 10, 3) := by decide +kernel
theorem dX11_lays_7 : decode cX11_lays 7 = .ok (.iload_n 3, 1) := by decide +kernel
theorem dX11_lays_8 : decode cX11_lays 8 = .ok (.invokestatic 261, 3) := by decide +kernel
theorem dX11_lays_11 : decode cX11_lays 11 = .ok (.ifCond .ne 5, 3) := by decide +kernel
theorem dX11_lays_14 : decode cX11_lays 14 = .ok (.iconst (-1), 1) := by decide +kernel
theorem dX11_lays_15 : decode cX11_lays 15 = .ok (.ireturn, 1) := by decide +kernel
theorem dX11_lays_16 : decode cX11_lays 16 = .ok (.aload_n 0, 1) := by decide +kernel
theorem dX11_lays_17 : decode cX11_lays 17 = .ok (.getfield 50, 3) := by decide +kernel
theorem dX11_lays_20 : decode cX11_lays 20 = .ok (.iload_n 3, 1) := by decide +kernel
theorem dX11_lays_21 : decode cX11_lays 21 = .ok (.aaload, 1) := by decide +kernel
theorem dX11_lays_22 : decode cX11_lays 22 = .ok (.astore 4, 2) := by decide +kernel
theorem dX11_lays_24 : decode cX11_lays 24 = .ok (.aload 4, 2) := by decide +kernel
theorem dX11_lays_26 : decode cX11_lays 26 = .ok (.getfield 337, 3) := by decide +kernel
theorem dX11_lays_29 : decode cX11_lays 29 = .ok (.iconst 2, 1) := by decide +kernel
theorem dX11_lays_30 : decode cX11_lays 30 = .ok (.if_icmp .ne 6, 3) := by decide +kernel
theorem dX11_lays_33 : decode cX11_lays 33 = .ok (.bipush (-12), 2) := by decide +kernel
theorem dX11_lays_35 : decode cX11_lays 35 = .ok (.ireturn, 1) := by decide +kernel
theorem dX11_lays_36 : decode cX11_lays 36 = .ok (.aload_n 0, 1) := by decide +kernel
theorem dX11_lays_37 : decode cX11_lays 37 = .ok (.getfield 57, 3) := by decide +kernel
theorem dX11_lays_40 : decode cX11_lays 40 = .ok (.iload_n 1, 1) := by decide +kernel
theorem dX11_lays_41 : decode cX11_lays 41 = .ok (.aaload, 1) := by decide +kernel
theorem dX11_lays_42 : decode cX11_lays 42 = .ok (.astore 5, 2) := by decide +kernel
theorem dX11_lays_44 : decode cX11_lays 44 = .ok (.aload 5, 2) := by decide +kernel
theorem dX11_lays_46 : decode cX11_lays 46 = .ok (.getfield 340, 3) := by decide +kernel
theorem dX11_lays_49 : decode cX11_lays 49 = .ok (.ifCond .ne 6, 3) := by decide +kernel
theorem dX11_lays_52 : decode cX11_lays 52 = .ok (.bipush (-11), 2) := by decide +kernel
theorem dX11_lays_54 : decode cX11_lays 54 = .ok (.ireturn, 1) := by decide +kernel
theorem dX11_lays_55 : decode cX11_lays 55 = .ok (.aload 5, 2) := by decide +kernel
theorem dX11_lays_57 : decode cX11_lays 57 = .ok (.iload_n 2, 1) := by decide +kernel
theorem dX11_lays_58 : decode cX11_lays 58 = .ok (.invokevirtual 343, 3) := by decide +kernel
theorem dX11_lays_61 : decode cX11_lays 61 = .ok (.ifCond .ne 6, 3) := by decide +kernel
theorem dX11_lays_64 : decode cX11_lays 64 = .ok (.bipush (-13), 2) := by decide +kernel
theorem dX11_lays_66 : decode cX11_lays 66 = .ok (.ireturn, 1) := by decide +kernel
theorem dX11_lays_67 : decode cX11_lays 67 = .ok (.aload 4, 2) := by decide +kernel
theorem dX11_lays_69 : decode cX11_lays 69 = .ok (.getfield 337, 3) := by decide +kernel
theorem dX11_lays_72 : decode cX11_lays 72 = .ok (.ifCond .ne 14, 3) := by decide +kernel
theorem dX11_lays_75 : decode cX11_lays 75 = .ok (.aload 5, 2) := by decide +kernel
theorem dX11_lays_77 : decode cX11_lays 77 = .ok (.getfield 346, 3) := by decide +kernel
theorem dX11_lays_80 : decode cX11_lays 80 = .ok (.iload_n 2, 1) := by decide +kernel
theorem dX11_lays_81 : decode cX11_lays 81 = .ok (.bipush (-4), 2) := by decide +kernel
theorem dX11_lays_83 : decode cX11_lays 83 = .ok (.iastore, 1) := by decide +kernel
theorem dX11_lays_84 : decode cX11_lays 84 = .ok (.iconst 1, 1) := by decide +kernel
theorem dX11_lays_85 : decode cX11_lays 85 = .ok (.ireturn, 1) := by decide +kernel
theorem dX11_lays_86 : decode cX11_lays 86 = .ok (.aload 4, 2) := by decide +kernel
theorem dX11_lays_88 : decode cX11_lays 88 = .ok (.getfield 183, 3) := by decide +kernel
theorem dX11_lays_91 : decode cX11_lays 91 = .ok (.aload 5, 2) := by decide +kernel
theorem dX11_lays_93 : decode cX11_lays 93 = .ok (.getfield 349, 3) := by decide +kernel
theorem dX11_lays_96 : decode cX11_lays 96 = .ok (.invokevirtual 352, 3) := by decide +kernel
theorem dX11_lays_99 : decode cX11_lays 99 = .ok (.ifCond .ne 6, 3) := by decide +kernel
theorem dX11_lays_102 : decode cX11_lays 102 = .ok (.bipush (-16), 2) := by decide +kernel
theorem dX11_lays_104 : decode cX11_lays 104 = .ok (.ireturn, 1) := by decide +kernel
theorem dX11_lays_105 : decode cX11_lays 105 = .ok (.aload 5, 2) := by decide +kernel
theorem dX11_lays_107 : decode cX11_lays 107 = .ok (.getfield 346, 3) := by decide +kernel
theorem dX11_lays_110 : decode cX11_lays 110 = .ok (.iload_n 2, 1) := by decide +kernel
theorem dX11_lays_111 : decode cX11_lays 111 = .ok (.aload 4, 2) := by decide +kernel
theorem dX11_lays_113 : decode cX11_lays 113 = .ok (.getfield 183, 3) := by decide +kernel
theorem dX11_lays_116 : decode cX11_lays 116 = .ok (.getfield 117, 3) := by decide +kernel
theorem dX11_lays_119 : decode cX11_lays 119 = .ok (.iastore, 1) := by decide +kernel
theorem dX11_lays_120 : decode cX11_lays 120 = .ok (.iconst 1, 1) := by decide +kernel
theorem dX11_lays_121 : decode cX11_lays 121 = .ok (.ireturn, 1) := by decide +kernel
set_option maxRecDepth 20000 in
theorem ggX11_laid_X11_isTray : GoodIn wsX11_laid wsX11_isTray := goodIn_r _ [7, 8, 9, 6, 10] rfl gwX11_isTray
set_option maxRecDepth 20000 in
theorem gX11_laid_X11_isTray : GoodIn wsX11_laid (va_wsS RX11 330 yX11_isTray wsX11_isTray) := goodIn_app (goodIn_r _ [4, 5, 6] rfl (by decide +kernel)) ggX11_laid_X11_isTray
set_option maxRecDepth 20000 in
theorem ggX11_laid_X10_hasPlace : GoodIn wsX11_laid wsX10_hasPlace := goodIn_r _ [15, 16, 9, 6, 10, 28, 29, 30, 31] rfl gwX10_hasPlace
set_option maxRecDepth 20000 in
theorem gX11_laid_X10_hasPlace : GoodIn wsX11_laid (wsV RX11 343 RX10 yX10_hasPlace wsX10_hasPlace) := goodIn_app (goodIn_r _ [11, 12, 13, 14] rfl (by decide +kernel)) ggX11_laid_X10_hasPlace
theorem dX11_laid_0 : decode cX11_laid 0 = .ok (.iload_n 1, 1) := by decide +kernel
theorem dX11_laid_1 : decode cX11_laid 1 = .ok (.invokestatic 330, 3) := by decide +kernel
theorem dX11_laid_4 : decode cX11_laid 4 = .ok (.ifCond .ne 5, 3) := by decide +kernel
theorem dX11_laid_7 : decode cX11_laid 7 = .ok (.iconst (-1), 1) := by decide +kernel
theorem dX11_laid_8 : decode cX11_laid 8 = .ok (.ireturn, 1) := by decide +kernel
theorem dX11_laid_9 : decode cX11_laid 9 = .ok (.aload_n 0, 1) := by decide +kernel
theorem dX11_laid_10 : decode cX11_laid 10 = .ok (.getfield 57, 3) := by decide +kernel
theorem dX11_laid_13 : decode cX11_laid 13 = .ok (.iload_n 1, 1) := by decide +kernel
theorem dX11_laid_14 : decode cX11_laid 14 = .ok (.aaload, 1) := by decide +kernel
theorem dX11_laid_15 : decode cX11_laid 15 = .ok (.astore_n 3, 1) := by decide +kernel
theorem dX11_laid_16 : decode cX11_laid 16 = .ok (.aload_n 3, 1) := by decide +kernel
theorem dX11_laid_17 : decode cX11_laid 17 = .ok (.getfield 340, 3) := by decide +kernel
theorem dX11_laid_20 : decode cX11_laid 20 = .ok (.ifCond .ne 6, 3) := by decide +kernel
theorem dX11_laid_23 : decode cX11_laid 23 = .ok (.bipush (-11), 2) := by decide +kernel
theorem dX11_laid_25 : decode cX11_laid 25 = .ok (.ireturn, 1) := by decide +kernel
theorem dX11_laid_26 : decode cX11_laid 26 = .ok (.aload_n 3, 1) := by decide +kernel
theorem dX11_laid_27 : decode cX11_laid 27 = .ok (.iload_n 2, 1) := by decide +kernel
theorem dX11_laid_28 : decode cX11_laid 28 = .ok (.invokevirtual 343, 3) := by decide +kernel
theorem dX11_laid_31 : decode cX11_laid 31 = .ok (.ifCond .ne 6, 3) := by decide +kernel
theorem dX11_laid_34 : decode cX11_laid 34 = .ok (.bipush (-13), 2) := by decide +kernel
theorem dX11_laid_36 : decode cX11_laid 36 = .ok (.ireturn, 1) := by decide +kernel
theorem dX11_laid_37 : decode cX11_laid 37 = .ok (.aload_n 3, 1) := by decide +kernel
theorem dX11_laid_38 : decode cX11_laid 38 = .ok (.getfield 346, 3) := by decide +kernel
theorem dX11_laid_41 : decode cX11_laid 41 = .ok (.iload_n 2, 1) := by decide +kernel
theorem dX11_laid_42 : decode cX11_laid 42 = .ok (.iaload, 1) := by decide +kernel
theorem dX11_laid_43 : decode cX11_laid 43 = .ok (.bipush (-4), 2) := by decide +kernel
theorem dX11_laid_45 : decode cX11_laid 45 = .ok (.if_icmp .ne 8, 3) := by decide +kernel
theorem dX11_laid_48 : decode cX11_laid 48 = .ok (.bipush (-11), 2) := by decide +kernel
theorem dX11_laid_50 : decode cX11_laid 50 = .ok (.goto 9, 3) := by decide +kernel
theorem dX11_laid_53 : decode cX11_laid 53 = .ok (.aload_n 3, 1) := by decide +kernel
theorem dX11_laid_54 : decode cX11_laid 54 = .ok (.getfield 346, 3) := by decide +kernel
theorem dX11_laid_57 : decode cX11_laid 57 = .ok (.iload_n 2, 1) := by decide +kernel
theorem dX11_laid_58 : decode cX11_laid 58 = .ok (.iaload, 1) := by decide +kernel
theorem dX11_laid_59 : decode cX11_laid 59 = .ok (.ireturn, 1) := by decide +kernel
set_option maxRecDepth 20000 in
theorem ggX11_like_X11_isTray : GoodIn wsX11_like wsX11_isTray := goodIn_r _ [7, 8, 9, 6, 10] rfl gwX11_isTray
set_option maxRecDepth 20000 in
theorem gX11_like_X11_isTray : GoodIn wsX11_like (va_wsS RX11 330 yX11_isTray wsX11_isTray) := goodIn_app (goodIn_r _ [4, 5, 6] rfl (by decide +kernel)) ggX11_like_X11_isTray
set_option maxRecDepth 20000 in
theorem gwX10_becomeLike : wsX10_becomeLike.all goodWord = true := by decide +kernel
set_option maxRecDepth 20000 in
theorem ggX11_like_X10_becomeLike : GoodIn wsX11_like wsX10_becomeLike := goodIn_r _ [15, 16, 17, 18, 19, 20, 21, 22, 23, 35, 36, 37, 38] rfl gwX10_becomeLike
set_option maxRecDepth 20000 in
theorem gX11_like_X10_becomeLike : GoodIn wsX11_like (wsV RX11 356 RX10 yX10_becomeLike wsX10_becomeLike) := goodIn_app (goodIn_r _ [11, 12, 13, 14] rfl (by decide +kernel)) ggX11_like_X10_becomeLike
theorem dX11_like_0 : decode cX11_like 0 = .ok (.iload_n 1, 1) := by decide +kernel
theorem dX11_like_1 : decode cX11_like 1 = .ok (.invokestatic 330, 3) := by decide +kernel
theorem dX11_like_4 : decode cX11_like 4 = .ok (.ifCond .eq 10, 3) := by decide +kernel
theorem dX11_like_7 : decode cX11_like 7 = .ok (.iload_n 2, 1) := by decide +kernel
theorem dX11_like_8 : decode cX11_like 8 = .ok (.invokestatic 330, 3) := by decide +kernel
theorem dX11_like_11 : decode cX11_like 11 = .ok (.ifCond .ne 5, 3) := by decide +kernel
theorem dX11_like_14 : decode cX11_like 14 = .ok (.iconst (-1), 1) := by decide +kernel
theorem dX11_like_15 : decode cX11_like 15 = .ok (.ireturn, 1) := by decide +kernel
theorem dX11_like_16 : decode cX11_like 16 = .ok (.aload_n 0, 1) := by decide +kernel
theorem dX11_like_17 : decode cX11_like 17 = .ok (.getfield 57, 3) := by decide +kernel
theorem dX11_like_20 : decode cX11_like 20 = .ok (.iload_n 2, 1) := by decide +kernel
theorem dX11_like_21 : decode cX11_like 21 = .ok (.aaload, 1) := by decide +kernel
theorem dX11_like_22 : decode cX11_like 22 = .ok (.getfield 340, 3) := by decide +kernel
theorem dX11_like_25 : decode cX11_like 25 = .ok (.ifCond .ne 6, 3) := by decide +kernel
theorem dX11_like_28 : decode cX11_like 28 = .ok (.bipush (-11), 2) := by decide +kernel
theorem dX11_like_30 : decode cX11_like 30 = .ok (.ireturn, 1) := by decide +kernel
theorem dX11_like_31 : decode cX11_like 31 = .ok (.aload_n 0, 1) := by decide +kernel
theorem dX11_like_32 : decode cX11_like 32 = .ok (.getfield 57, 3) := by decide +kernel
theorem dX11_like_35 : decode cX11_like 35 = .ok (.iload_n 1, 1) := by decide +kernel
theorem dX11_like_36 : decode cX11_like 36 = .ok (.aaload, 1) := by decide +kernel
theorem dX11_like_37 : decode cX11_like 37 = .ok (.aload_n 0, 1) := by decide +kernel
theorem dX11_like_38 : decode cX11_like 38 = .ok (.getfield 57, 3) := by decide +kernel
theorem dX11_like_41 : decode cX11_like 41 = .ok (.iload_n 2, 1) := by decide +kernel
theorem dX11_like_42 : decode cX11_like 42 = .ok (.aaload, 1) := by decide +kernel
theorem dX11_like_43 : decode cX11_like 43 = .ok (.invokevirtual 356, 3) := by decide +kernel
theorem dX11_like_46 : decode cX11_like 46 = .ok (.aload_n 0, 1) := by decide +kernel
theorem dX11_like_47 : decode cX11_like 47 = .ok (.getfield 57, 3) := by decide +kernel
theorem dX11_like_50 : decode cX11_like 50 = .ok (.iload_n 1, 1) := by decide +kernel
theorem dX11_like_51 : decode cX11_like 51 = .ok (.aaload, 1) := by decide +kernel
theorem dX11_like_52 : decode cX11_like 52 = .ok (.getfield 360, 3) := by decide +kernel
theorem dX11_like_55 : decode cX11_like 55 = .ok (.ireturn, 1) := by decide +kernel
set_option maxRecDepth 20000 in
theorem ggX11_keep_X11_isShelf : GoodIn wsX11_keep wsX11_isShelf := goodIn_r _ [7, 8, 9, 6, 10] rfl gwX11_isShelf
set_option maxRecDepth 20000 in
theorem gX11_keep_X11_isShelf : GoodIn wsX11_keep (va_wsS RX11 261 yX11_isShelf wsX11_isShelf) := goodIn_app (goodIn_r _ [4, 5, 6] rfl (by decide +kernel)) ggX11_keep_X11_isShelf
set_option maxRecDepth 20000 in
theorem ggX11_keep_X11_within : GoodIn wsX11_keep wsX11_within := goodIn_r _ [10] rfl gwX11_within
set_option maxRecDepth 20000 in
theorem gX11_keep_X11_within : GoodIn wsX11_keep (va_wsS RX11 158 yX11_within wsX11_within) := goodIn_app (goodIn_r _ [8, 9, 6] rfl (by decide +kernel)) ggX11_keep_X11_within
set_option maxRecDepth 20000 in
theorem gwX6_holdSort : wsX6_holdSort.all goodWord = true := by decide +kernel
set_option maxRecDepth 20000 in
theorem ggX11_keep_X6_holdSort : GoodIn wsX11_keep wsX6_holdSort := goodIn_r _ [15, 16, 17, 18, 30, 31, 32, 33, 34, 35] rfl gwX6_holdSort
set_option maxRecDepth 20000 in
theorem gX11_keep_X6_holdSort : GoodIn wsX11_keep (wsV RX11 361 RX6 yX6_holdSort wsX6_holdSort) := goodIn_app (goodIn_r _ [11, 12, 13, 14] rfl (by decide +kernel)) ggX11_keep_X6_holdSort
theorem dX11_keep_0 : decode cX11_keep 0 = .ok (.iload_n 1, 1) := by decide +kernel
theorem dX11_keep_1 : decode cX11_keep 1 = .ok (.invokestatic 261, 3) := by decide +kernel
theorem dX11_keep_4 : decode cX11_keep 4 = .ok (.ifCond .eq 12, 3) := by decide +kernel
theorem dX11_keep_7 : decode cX11_keep 7 = .ok (.iload_n 2, 1) := by decide +kernel
theorem dX11_keep_8 : decode cX11_keep 8 = .ok (.iconst 0, 1) := by decide +kernel
theorem dX11_keep_9 : decode cX11_keep 9 = .ok (.iconst 1, 1) := by decide +kernel
theorem dX11_keep_10 : decode cX11_keep 10 = .ok (.invokestatic 158, 3) := by decide +kernel
theorem dX11_keep_13 : decode cX11_keep 13 = .ok (.ifCond .ne 5, 3) := by decide +kernel
theorem dX11_keep_16 : decode cX11_keep 16 = .ok (.iconst (-1), 1) := by decide +kernel
theorem dX11_keep_17 : decode cX11_keep 17 = .ok (.ireturn, 1) := by decide +kernel
theorem dX11_keep_18 : decode cX11_keep 18 = .ok (.iload_n 2, 1) := by decide +kernel
theorem dX11_keep_19 : decode cX11_keep 19 = .ok (.ifCond .ne 15, 3) := by decide +kernel
theorem dX11_keep_22 : decode cX11_keep 22 = .ok (.aload_n 0, 1) := by decide +kernel
theorem dX11_keep_23 : decode cX11_keep 23 = .ok (.getfield 50, 3) := by decide +kernel
theorem dX11_keep_26 : decode cX11_keep 26 = .ok (.iload_n 1, 1) := by decide +kernel
theorem dX11_keep_27 : decode cX11_keep 27 = .ok (.aaload, 1) := by decide +kernel
theorem dX11_keep_28 : decode cX11_keep 28 = .ok (.iconst 0, 1) := by decide +kernel
theorem dX11_keep_29 : decode cX11_keep 29 = .ok (.putfield 337, 3) := by decide +kernel
theorem dX11_keep_32 : decode cX11_keep 32 = .ok (.iconst 0, 1) := by decide +kernel
theorem dX11_keep_33 : decode cX11_keep 33 = .ok (.ireturn, 1) := by decide +kernel
theorem dX11_keep_34 : decode cX11_keep 34 = .ok (.iload_n 3, 1) := by decide +kernel
theorem dX11_keep_35 : decode cX11_keep 35 = .ok (.iconst 0, 1) := by decide +kernel
theorem dX11_keep_36 : decode cX11_keep 36 = .ok (.iconst 5, 1) := by decide +kernel
theorem dX11_keep_37 : decode cX11_keep 37 = .ok (.invokestatic 158, 3) := by decide +kernel
theorem dX11_keep_40 : decode cX11_keep 40 = .ok (.ifCond .eq 14, 3) := by decide +kernel
theorem dX11_keep_43 : decode cX11_keep 43 = .ok (.iload 4, 2) := by decide +kernel
theorem dX11_keep_45 : decode cX11_keep 45 = .ok (.iconst 0, 1) := by decide +kernel
theorem dX11_keep_46 : decode cX11_keep 46 = .ok (.bipush 9, 2) := by decide +kernel
theorem dX11_keep_48 : decode cX11_keep 48 = .ok (.invokestatic 158, 3) := by decide +kernel
theorem dX11_keep_51 : decode cX11_keep 51 = .ok (.ifCond .ne 5, 3) := by decide +kernel
theorem dX11_keep_54 : decode cX11_keep 54 = .ok (.iconst (-1), 1) := by decide +kernel
theorem dX11_keep_55 : decode cX11_keep 55 = .ok (.ireturn, 1) := by decide +kernel
theorem dX11_keep_56 : decode cX11_keep 56 = .ok (.aload_n 0, 1) := by decide +kernel
theorem dX11_keep_57 : decode cX11_keep 57 = .ok (.getfield 50, 3) := by decide +kernel
theorem dX11_keep_60 : decode cX11_keep 60 = .ok (.iload_n 1, 1) := by decide +kernel
theorem dX11_keep_61 : decode cX11_keep 61 = .ok (.aaload, 1) := by decide +kernel
theorem dX11_keep_62 : decode cX11_keep 62 = .ok (.aload_n 0, 1) := by decide +kernel
theorem dX11_keep_63 : decode cX11_keep 63 = .ok (.getfield 27, 3) := by decide +kernel
theorem dX11_keep_66 : decode cX11_keep 66 = .ok (.iload_n 3, 1) := by decide +kernel
theorem dX11_keep_67 : decode cX11_keep 67 = .ok (.aaload, 1) := by decide +kernel
theorem dX11_keep_68 : decode cX11_keep 68 = .ok (.iload 4, 2) := by decide +kernel
theorem dX11_keep_70 : decode cX11_keep 70 = .ok (.invokevirtual 361, 3) := by decide +kernel
theorem dX11_keep_73 : decode cX11_keep 73 = .ok (.iconst 0, 1) := by decide +kernel
theorem dX11_keep_74 : decode cX11_keep 74 = .ok (.ireturn, 1) := by decide +kernel
set_option maxRecDepth 20000 in
theorem ggX11_row_X11_isShelf : GoodIn wsX11_row wsX11_isShelf := goodIn_r _ [5, 6, 7, 4, 8] rfl gwX11_isShelf
set_option maxRecDepth 20000 in
theorem gX11_row_X11_isShelf : GoodIn wsX11_row (va_wsS RX11 261 yX11_isShelf wsX11_isShelf) := goodIn_app (goodIn_r _ [2, 3, 4] rfl (by decide +kernel)) ggX11_row_X11_isShelf
set_option maxRecDepth 20000 in
theorem ggX11_row_X11_within : GoodIn wsX11_row wsX11_within := goodIn_r _ [8] rfl gwX11_within
set_option maxRecDepth 20000 in
theorem gX11_row_X11_within : GoodIn wsX11_row (va_wsS RX11 158 yX11_within wsX11_within) := goodIn_app (goodIn_r _ [6, 7, 4] rfl (by decide +kernel)) ggX11_row_X11_within
set_option maxRecDepth 20000 in
theorem gwX6_holdRow : wsX6_holdRow.all goodWord = true := by decide +kernel
set_option maxRecDepth 20000 in
theorem ggX11_row_X6_holdRow : GoodIn wsX11_row wsX6_holdRow := goodIn_r _ [13, 14, 15, 16, 17, 18, 19, 20, 21, 33, 34, 35, 36, 37, 38] rfl gwX6_holdRow
set_option maxRecDepth 20000 in
theorem gX11_row_X6_holdRow : GoodIn wsX11_row (wsV RX11 364 RX6 yX6_holdRow wsX6_holdRow) := goodIn_app (goodIn_r _ [9, 10, 11, 12] rfl (by decide +kernel)) ggX11_row_X6_holdRow
theorem dX11_row_0 : decode cX11_row 0 = .ok (.iload_n 1, 1) := by decide +kernel
theorem dX11_row_1 : decode cX11_row 1 = .ok (.invokestatic 261, 3) := by decide +kernel
theorem dX11_row_4 : decode cX11_row 4 = .ok (.ifCond .eq 18, 3) := by decide +kernel
theorem dX11_row_7 : decode cX11_row 7 = .ok (.iload_n 2, 1) := by decide +kernel
theorem dX11_row_8 : decode cX11_row 8 = .ok (.iconst 0, 1) := by decide +kernel
theorem dX11_row_9 : decode cX11_row 9 = .ok (.iconst 2, 1) := by decide +kernel
theorem dX11_row_10 : decode cX11_row 10 = .ok (.invokestatic 158, 3) := by decide +kernel
theorem dX11_row_13 : decode cX11_row 13 = .ok (.ifCond .eq 9, 3) := by decide +kernel
theorem dX11_row_16 : decode cX11_row 16 = .ok (.iload_n 3, 1) := by decide +kernel
theorem dX11_row_17 : decode cX11_row 17 = .ok (.bipush 100, 2) := by decide +kernel
theorem dX11_row_19 : decode cX11_row 19 = .ok (.if_icmp .le 5, 3) := by decide +kernel
theorem dX11_row_22 : decode cX11_row 22 = .ok (.iconst (-1), 1) := by decide +kernel
theorem dX11_row_23 : decode cX11_row 23 = .ok (.ireturn, 1) := by decide +kernel
theorem dX11_row_24 : decode cX11_row 24 = .ok (.iload_n 3, 1) := by decide +kernel
theorem dX11_row_25 : decode cX11_row 25 = .ok (.ifCond .ge 6, 3) := by decide +kernel
theorem dX11_row_28 : decode cX11_row 28 = .ok (.bipush (-14), 2) := by decide +kernel
theorem dX11_row_30 : decode cX11_row 30 = .ok (.ireturn, 1) := by decide +kernel
theorem dX11_row_31 : decode cX11_row 31 = .ok (.aload_n 0, 1) := by decide +kernel
theorem dX11_row_32 : decode cX11_row 32 = .ok (.getfield 50, 3) := by decide +kernel
theorem dX11_row_35 : decode cX11_row 35 = .ok (.iload_n 1, 1) := by decide +kernel
theorem dX11_row_36 : decode cX11_row 36 = .ok (.aaload, 1) := by decide +kernel
theorem dX11_row_37 : decode cX11_row 37 = .ok (.iload_n 2, 1) := by decide +kernel
theorem dX11_row_38 : decode cX11_row 38 = .ok (.iload_n 3, 1) := by decide +kernel
theorem dX11_row_39 : decode cX11_row 39 = .ok (.invokevirtual 364, 3) := by decide +kernel
theorem dX11_row_42 : decode cX11_row 42 = .ok (.iconst 0, 1) := by decide +kernel
theorem dX11_row_43 : decode cX11_row 43 = .ok (.ireturn, 1) := by decide +kernel
set_option maxRecDepth 20000 in
theorem ggX11_put_X11_rowRefusal : GoodIn wsX11_put wsX11_rowRefusal := goodIn_r _ [6, 7, 8, 9, 5, 10, 1, 11, 12, 13, 14, 15, 16, 17, 30, 31, 32, 33, 34, 35, 36, 37, 38, 39, 40, 41, 42, 43, 44, 45, 46] rfl gwX11_rowRefusal
set_option maxRecDepth 20000 in
theorem gX11_put_X11_rowRefusal : GoodIn wsX11_put (wsV RX11 72 RX11 yX11_rowRefusal wsX11_rowRefusal) := goodIn_app (goodIn_r _ [2, 3, 4, 5] rfl (by decide +kernel)) ggX11_put_X11_rowRefusal
set_option maxRecDepth 20000 in
theorem gwX6_hasPlaces : wsX6_hasPlaces.all goodWord = true := by decide +kernel
set_option maxRecDepth 20000 in
theorem ggX11_put_X6_hasPlaces : GoodIn wsX11_put wsX6_hasPlaces := goodIn_r _ [22, 23, 16, 5, 17, 41, 42, 43, 44, 45, 46] rfl gwX6_hasPlaces
set_option maxRecDepth 20000 in
theorem gX11_put_X6_hasPlaces : GoodIn wsX11_put (wsV RX11 367 RX6 yX6_hasPlaces wsX6_hasPlaces) := goodIn_app (goodIn_r _ [18, 19, 20, 21] rfl (by decide +kernel)) ggX11_put_X6_hasPlaces
set_option maxRecDepth 20000 in
theorem gwX6_setElement : wsX6_setElement.all goodWord = true := by decide +kernel
set_option maxRecDepth 20000 in
theorem ggX11_put_X6_setElement : GoodIn wsX11_put wsX6_setElement := goodIn_r _ [27, 28, 29, 41, 42, 43, 44, 45, 46] rfl gwX6_setElement
set_option maxRecDepth 20000 in
theorem gX11_put_X6_setElement : GoodIn wsX11_put (wsV RX11 370 RX6 yX6_setElement wsX6_setElement) := goodIn_app (goodIn_r _ [24, 25, 26, 21] rfl (by decide +kernel)) ggX11_put_X6_setElement
theorem dX11_put_0 : decode cX11_put 0 = .ok (.aload_n 0, 1) := by decide +kernel
theorem dX11_put_1 : decode cX11_put 1 = .ok (.iload_n 1, 1) := by decide +kernel
theorem dX11_put_2 : decode cX11_put 2 = .ok (.invokevirtual 72, 3) := by decide +kernel
theorem dX11_put_5 : decode cX11_put 5 = .ok (.istore 4, 2) := by decide +kernel
theorem dX11_put_7 : decode cX11_put 7 = .ok (.iload 4, 2) := by decide +kernel
theorem dX11_put_9 : decode cX11_put 9 = .ok (.ifCond .eq 6, 3) := by decide +kernel
theorem dX11_put_12 : decode cX11_put 12 = .ok (.iload 4, 2) := by decide +kernel
theorem dX11_put_14 : decode cX11_put 14 = .ok (.ireturn, 1) := by decide +kernel
theorem dX11_put_15 : decode cX11_put 15 = .ok (.aload_n 0, 1) := by decide +kernel
theorem dX11_put_16 : decode cX11_put 16 = .ok (.getfield 50, 3) := by decide +kernel
theorem dX11_put_19 : decode cX11_put 19 = .ok (.iload_n 1, 1) := by decide +kernel
theorem dX11_put_20 : decode cX11_put 20 = .ok (.aaload, 1) := by decide +kernel
theorem dX11_put_21 : decode cX11_put 21 = .ok (.iload_n 2, 1) := by decide +kernel
theorem dX11_put_22 : decode cX11_put 22 = .ok (.iconst 1, 1) := by decide +kernel
theorem dX11_put_23 : decode cX11_put 23 = .ok (.invokevirtual 367, 3) := by decide +kernel
theorem dX11_put_26 : decode cX11_put 26 = .ok (.ifCond .ne 6, 3) := by decide +kernel
theorem dX11_put_29 : decode cX11_put 29 = .ok (.bipush (-13), 2) := by decide +kernel
theorem dX11_put_31 : decode cX11_put 31 = .ok (.ireturn, 1) := by decide +kernel
theorem dX11_put_32 : decode cX11_put 32 = .ok (.aload_n 0, 1) := by decide +kernel
theorem dX11_put_33 : decode cX11_put 33 = .ok (.getfield 50, 3) := by decide +kernel
theorem dX11_put_36 : decode cX11_put 36 = .ok (.iload_n 1, 1) := by decide +kernel
theorem dX11_put_37 : decode cX11_put 37 = .ok (.aaload, 1) := by decide +kernel
theorem dX11_put_38 : decode cX11_put 38 = .ok (.iload_n 2, 1) := by decide +kernel
theorem dX11_put_39 : decode cX11_put 39 = .ok (.iload_n 3, 1) := by decide +kernel
theorem dX11_put_40 : decode cX11_put 40 = .ok (.invokevirtual 370, 3) := by decide +kernel
theorem dX11_put_43 : decode cX11_put 43 = .ok (.iconst 0, 1) := by decide +kernel
theorem dX11_put_44 : decode cX11_put 44 = .ok (.ireturn, 1) := by decide +kernel
set_option maxRecDepth 20000 in
theorem ggX11_element_X11_isShelf : GoodIn wsX11_element wsX11_isShelf := goodIn_r _ [10, 11, 12, 9, 13] rfl gwX11_isShelf
set_option maxRecDepth 20000 in
theorem gX11_element_X11_isShelf : GoodIn wsX11_element (va_wsS RX11 261 yX11_isShelf wsX11_isShelf) := goodIn_app (goodIn_r _ [7, 8, 9] rfl (by decide +kernel)) ggX11_element_X11_isShelf
set_option maxRecDepth 20000 in
theorem ggX11_element_X6_hasPlaces : GoodIn wsX11_element wsX6_hasPlaces := goodIn_r _ [18, 19, 12, 9, 13, 36, 37, 38, 39, 40, 41] rfl gwX6_hasPlaces
set_option maxRecDepth 20000 in
theorem gX11_element_X6_hasPlaces : GoodIn wsX11_element (wsV RX11 367 RX6 yX6_hasPlaces wsX6_hasPlaces) := goodIn_app (goodIn_r _ [14, 15, 16, 17] rfl (by decide +kernel)) ggX11_element_X6_hasPlaces
set_option maxRecDepth 20000 in
theorem ggX11_element_X6_at : GoodIn wsX11_element wsX6_at := goodIn_r _ [23, 24, 12, 9, 13, 36, 37, 38, 39, 40, 41] rfl gwX6_at
set_option maxRecDepth 20000 in
theorem gX11_element_X6_at : GoodIn wsX11_element (wsV RX11 97 RX6 yX6_at wsX6_at) := goodIn_app (goodIn_r _ [20, 21, 22, 17] rfl (by decide +kernel)) ggX11_element_X6_at
theorem dX11_element_0 : decode cX11_element 0 = .ok (.iload_n 1, 1) := by decide +kernel
theorem dX11_element_1 : decode cX11_element 1 = .ok (.invokestatic 261, 3) := by decide +kernel
theorem dX11_element_4 : decode cX11_element 4 = .ok (.ifCond .ne 14, 3) := by decide +kernel
theorem dX11_element_7 : decode cX11_element 7 = .ok (.new 373, 3) := by decide +kernel
theorem dX11_element_10 : decode cX11_element 10 = .ok (.dup, 1) := by decide +kernel
theorem dX11_element_11 : decode cX11_element 11 = .ok (.ldc_w 375, 3) := by decide +kernel
theorem dX11_element_14 : decode cX11_element 14 = .ok (.invokespecial 377, 3) := by decide +kernel
theorem dX11_element_17 : decode cX11_element 17 = .ok (.athrow, 1) := by decide +kernel
theorem dX11_element_18 : decode cX11_element 18 = .ok (.aload_n 0, 1) := by decide +kernel
theorem dX11_element_19 : decode cX11_element 19 = .ok (.getfield 50, 3) := by decide +kernel
theorem dX11_element_22 : decode cX11_element 22 = .ok (.iload_n 1, 1) := by decide +kernel
theorem dX11_element_23 : decode cX11_element 23 = .ok (.aaload, 1) := by decide +kernel
theorem dX11_element_24 : decode cX11_element 24 = .ok (.getfield 337, 3) := by decide +kernel
theorem dX11_element_27 : decode cX11_element 27 = .ok (.iconst 2, 1) := by decide +kernel
theorem dX11_element_28 : decode cX11_element 28 = .ok (.if_icmp .ne 17, 3) := by decide +kernel
theorem dX11_element_31 : decode cX11_element 31 = .ok (.aload_n 0, 1) := by decide +kernel
theorem dX11_element_32 : decode cX11_element 32 = .ok (.getfield 50, 3) := by decide +kernel
theorem dX11_element_35 : decode cX11_element 35 = .ok (.iload_n 1, 1) := by decide +kernel
theorem dX11_element_36 : decode cX11_element 36 = .ok (.aaload, 1) := by decide +kernel
theorem dX11_element_37 : decode cX11_element 37 = .ok (.iload_n 2, 1) := by decide +kernel
theorem dX11_element_38 : decode cX11_element 38 = .ok (.iconst 1, 1) := by decide +kernel
theorem dX11_element_39 : decode cX11_element 39 = .ok (.invokevirtual 367, 3) := by decide +kernel
theorem dX11_element_42 : decode cX11_element 42 = .ok (.ifCond .ne 14, 3) := by decide +kernel
theorem dX11_element_45 : decode cX11_element 45 = .ok (.new 380, 3) := by decide +kernel
theorem dX11_element_48 : decode cX11_element 48 = .ok (.dup, 1) := by decide +kernel
theorem dX11_element_49 : decode cX11_element 49 = .ok (.ldc_w 382, 3) := by decide +kernel
theorem dX11_element_52 : decode cX11_element 52 = .ok (.invokespecial 384, 3) := by decide +kernel
theorem dX11_element_55 : decode cX11_element 55 = .ok (.athrow, 1) := by decide +kernel
theorem dX11_element_56 : decode cX11_element 56 = .ok (.aload_n 0, 1) := by decide +kernel
theorem dX11_element_57 : decode cX11_element 57 = .ok (.getfield 50, 3) := by decide +kernel
theorem dX11_element_60 : decode cX11_element 60 = .ok (.iload_n 1, 1) := by decide +kernel
theorem dX11_element_61 : decode cX11_element 61 = .ok (.aaload, 1) := by decide +kernel
theorem dX11_element_62 : decode cX11_element 62 = .ok (.iload_n 2, 1) := by decide +kernel
theorem dX11_element_63 : decode cX11_element 63 = .ok (.invokevirtual 97, 3) := by decide +kernel
theorem dX11_element_66 : decode cX11_element 66 = .ok (.i2l, 1) := by decide +kernel
theorem dX11_element_67 : decode cX11_element 67 = .ok (.lreturn, 1) := by decide +kernel
set_option maxRecDepth 20000 in
theorem ggX11_copy_X11_isShelf : GoodIn wsX11_copy wsX11_isShelf := goodIn_r _ [12, 13, 14, 11, 15] rfl gwX11_isShelf
set_option maxRecDepth 20000 in
theorem gX11_copy_X11_isShelf : GoodIn wsX11_copy (va_wsS RX11 261 yX11_isShelf wsX11_isShelf) := goodIn_app (goodIn_r _ [9, 10, 11] rfl (by decide +kernel)) ggX11_copy_X11_isShelf
set_option maxRecDepth 20000 in
theorem ggX11_copy_X6_hasPlaces : GoodIn wsX11_copy wsX6_hasPlaces := goodIn_r _ [20, 21, 14, 11, 15, 33, 34, 35, 36, 37, 38] rfl gwX6_hasPlaces
set_option maxRecDepth 20000 in
theorem gX11_copy_X6_hasPlaces : GoodIn wsX11_copy (wsV RX11 367 RX6 yX6_hasPlaces wsX6_hasPlaces) := goodIn_app (goodIn_r _ [16, 17, 18, 19] rfl (by decide +kernel)) ggX11_copy_X6_hasPlaces
theorem dX11_copy_0 : decode cX11_copy 0 = .ok (.iload_n 1, 1) := by decide +kernel
theorem dX11_copy_1 : decode cX11_copy 1 = .ok (.invokestatic 261, 3) := by decide +kernel
theorem dX11_copy_4 : decode cX11_copy 4 = .ok (.ifCond .eq 10, 3) := by decide +kernel
theorem dX11_copy_7 : decode cX11_copy 7 = .ok (.iload_n 3, 1) := by decide +kernel
theorem dX11_copy_8 : decode cX11_copy 8 = .ok (.invokestatic 261, 3) := by decide +kernel
theorem dX11_copy_11 : decode cX11_copy 11 = .ok (.ifCond .ne 5, 3) := by decide +kernel
theorem dX11_copy_14 : decode cX11_copy 14 = .ok (.iconst (-1), 1) := by decide +kernel
theorem dX11_copy_15 : decode cX11_copy 15 = .ok (.ireturn, 1) := by decide +kernel
theorem dX11_copy_16 : decode cX11_copy 16 = .ok (.aload_n 0, 1) := by decide +kernel
theorem dX11_copy_17 : decode cX11_copy 17 = .ok (.getfield 50, 3) := by decide +kernel
theorem dX11_copy_20 : decode cX11_copy 20 = .ok (.iload_n 1, 1) := by decide +kernel
theorem dX11_copy_21 : decode cX11_copy 21 = .ok (.aaload, 1) := by decide +kernel
theorem dX11_copy_22 : decode cX11_copy 22 = .ok (.astore 6, 2) := by decide +kernel
theorem dX11_copy_24 : decode cX11_copy 24 = .ok (.aload_n 0, 1) := by decide +kernel
theorem dX11_copy_25 : decode cX11_copy 25 = .ok (.getfield 50, 3) := by decide +kernel
theorem dX11_copy_28 : decode cX11_copy 28 = .ok (.iload_n 3, 1) := by decide +kernel
theorem dX11_copy_29 : decode cX11_copy 29 = .ok (.aaload, 1) := by decide +kernel
theorem dX11_copy_30 : decode cX11_copy 30 = .ok (.astore 7, 2) := by decide +kernel
theorem dX11_copy_32 : decode cX11_copy 32 = .ok (.aload 6, 2) := by decide +kernel
theorem dX11_copy_34 : decode cX11_copy 34 = .ok (.getfield 337, 3) := by decide +kernel
theorem dX11_copy_37 : decode cX11_copy 37 = .ok (.ifCond .eq 11, 3) := by decide +kernel
theorem dX11_copy_40 : decode cX11_copy 40 = .ok (.aload 7, 2) := by decide +kernel
theorem dX11_copy_42 : decode cX11_copy 42 = .ok (.getfield 337, 3) := by decide +kernel
theorem dX11_copy_45 : decode cX11_copy 45 = .ok (.ifCond .ne 6, 3) := by decide +kernel
theorem dX11_copy_48 : decode cX11_copy 48 = .ok (.bipush (-11), 2) := by decide +kernel
theorem dX11_copy_50 : decode cX11_copy 50 = .ok (.ireturn, 1) := by decide +kernel
theorem dX11_copy_51 : decode cX11_copy 51 = .ok (.aload 6, 2) := by decide +kernel
theorem dX11_copy_53 : decode cX11_copy 53 = .ok (.getfield 337, 3) := by decide +kernel
theorem dX11_copy_56 : decode cX11_copy 56 = .ok (.iconst 2, 1) := by decide +kernel
theorem dX11_copy_57 : decode cX11_copy 57 = .ok (.if_icmp .ne 25, 3) := by decide +kernel
theorem dX11_copy_60 : decode cX11_copy 60 = .ok (.aload 7, 2) := by decide +kernel
theorem dX11_copy_62 : decode cX11_copy 62 = .ok (.getfield 337, 3) := by decide +kernel
theorem dX11_copy_65 : decode cX11_copy 65 = .ok (.iconst 2, 1) := by decide +kernel
theorem dX11_copy_66 : decode cX11_copy 66 = .ok (.if_icmp .ne 16, 3) := by decide +kernel
theorem dX11_copy_69 : decode cX11_copy 69 = .ok (.aload 6, 2) := by decide +kernel
theorem dX11_copy_71 : decode cX11_copy 71 = .ok (.getfield 76, 3) := by decide +kernel
theorem dX11_copy_74 : decode cX11_copy 74 = .ok (.aload 7, 2) := by decide +kernel
theorem dX11_copy_76 : decode cX11_copy 76 = .ok (.getfield 76, 3) := by decide +kernel
theorem dX11_copy_79 : decode cX11_copy 79 = .ok (.if_icmp .eq 6, 3) := by decide +kernel
theorem dX11_copy_82 : decode cX11_copy 82 = .ok (.bipush (-12), 2) := by decide +kernel
theorem dX11_copy_84 : decode cX11_copy 84 = .ok (.ireturn, 1) := by decide +kernel
theorem dX11_copy_85 : decode cX11_copy 85 = .ok (.aload 6, 2) := by decide +kernel
theorem dX11_copy_87 : decode cX11_copy 87 = .ok (.iload_n 2, 1) := by decide +kernel
theorem dX11_copy_88 : decode cX11_copy 88 = .ok (.iload 5, 2) := by decide +kernel
theorem dX11_copy_90 : decode cX11_copy 90 = .ok (.invokevirtual 367, 3) := by decide +kernel
theorem dX11_copy_93 : decode cX11_copy 93 = .ok (.ifCond .eq 15, 3) := by decide +kernel
theorem dX11_copy_96 : decode cX11_copy 96 = .ok (.aload 7, 2) := by decide +kernel
theorem dX11_copy_98 : decode cX11_copy 98 = .ok (.iload 4, 2) := by decide +kernel
theorem dX11_copy_100 : decode cX11_copy 100 = .ok (.iload 5, 2) := by decide +kernel
theorem dX11_copy_102 : decode cX11_copy 102 = .ok (.invokevirtual 367, 3) := by decide +kernel
theorem dX11_copy_105 : decode cX11_copy 105 = .ok (.ifCond .ne 6, 3) := by decide +kernel
theorem dX11_copy_108 : decode cX11_copy 108 = .ok (.bipush (-13), 2) := by decide +kernel
theorem dX11_copy_110 : decode cX11_copy 110 = .ok (.ireturn, 1) := by decide +kernel
theorem dX11_copy_111 : decode cX11_copy 111 = .ok (.aload 6, 2) := by decide +kernel
theorem dX11_copy_113 : decode cX11_copy 113 = .ok (.getfield 385, 3) := by decide +kernel
theorem dX11_copy_116 : decode cX11_copy 116 = .ok (.iload_n 2, 1) := by decide +kernel
theorem dX11_copy_117 : decode cX11_copy 117 = .ok (.aload 7, 2) := by decide +kernel
theorem dX11_copy_119 : decode cX11_copy 119 = .ok (.getfield 385, 3) := by decide +kernel
theorem dX11_copy_122 : decode cX11_copy 122 = .ok (.iload 4, 2) := by decide +kernel
theorem dX11_copy_124 : decode cX11_copy 124 = .ok (.iload 5, 2) := by decide +kernel
theorem dX11_copy_126 : decode cX11_copy 126 = .ok (.invokestatic 388, 3) := by decide +kernel
theorem dX11_copy_129 : decode cX11_copy 129 = .ok (.iload 5, 2) := by decide +kernel
theorem dX11_copy_131 : decode cX11_copy 131 = .ok (.ireturn, 1) := by decide +kernel
set_option maxRecDepth 20000 in
theorem ggX11_cost_X11_sortRefusal : GoodIn wsX11_cost wsX11_sortRefusal := goodIn_r _ [8, 9, 10, 11, 7, 12, 1, 13, 14, 15, 16, 17, 18, 19, 54, 55, 56, 57, 58, 59, 60, 61, 62, 63, 64, 65, 66, 67, 68, 69, 70] rfl gwX11_sortRefusal
set_option maxRecDepth 20000 in
theorem gX11_cost_X11_sortRefusal : GoodIn wsX11_cost (wsV RX11 179 RX11 yX11_sortRefusal wsX11_sortRefusal) := goodIn_app (goodIn_r _ [4, 5, 6, 7] rfl (by decide +kernel)) ggX11_cost_X11_sortRefusal
set_option maxRecDepth 20000 in
theorem ggX11_cost_X0_worth : GoodIn wsX11_cost wsX0_worth := goodIn_r _ [26] rfl gwX0_worth
set_option maxRecDepth 20000 in
theorem gX11_cost_X0_worth_u394X0 : GoodIn wsX11_cost (va_wsO RX11 394 RX0 "GreedyServers$Hard" ⟨"GreedyServers$Hard", "worth", "(I)I"⟩ yX0_worth wsX0_worth) := goodIn_app (goodIn_r _ [20, 21, 22, 23, 24, 25] rfl (by decide +kernel)) ggX11_cost_X0_worth
set_option maxRecDepth 20000 in
theorem gwX1_worth : wsX1_worth.all goodWord = true := by decide +kernel
set_option maxRecDepth 20000 in
theorem ggX11_cost_X1_worth : GoodIn wsX11_cost wsX1_worth := goodIn_r _ [27] rfl gwX1_worth
set_option maxRecDepth 20000 in
theorem gX11_cost_X1_worth : GoodIn wsX11_cost (wsV RX11 394 RX1 yX1_worth wsX1_worth) := goodIn_app (goodIn_r _ [20, 22, 30, 31] rfl (by decide +kernel)) ggX11_cost_X1_worth
set_option maxRecDepth 20000 in
theorem gwX2_worth : wsX2_worth.all goodWord = true := by decide +kernel
set_option maxRecDepth 20000 in
theorem ggX11_cost_X2_worth : GoodIn wsX11_cost wsX2_worth := goodIn_r _ [35] rfl gwX2_worth
set_option maxRecDepth 20000 in
theorem gX11_cost_X2_worth_u394X2 : GoodIn wsX11_cost (va_wsO RX11 394 RX2 "GreedyServers$Hard" ⟨"GreedyServers$Hard", "worth", "(I)I"⟩ yX2_worth wsX2_worth) := goodIn_app (goodIn_r _ [20, 21, 22, 32, 33, 34] rfl (by decide +kernel)) ggX11_cost_X2_worth
set_option maxRecDepth 20000 in
theorem ggX11_cost_X4_worth : GoodIn wsX11_cost wsX4_worth := goodIn_r _ [39] rfl gwX4_worth
set_option maxRecDepth 20000 in
theorem gX11_cost_X4_worth_u394X4 : GoodIn wsX11_cost (va_wsO RX11 394 RX4 "GreedyServers$Hard" ⟨"GreedyServers$Hard", "worth", "(I)I"⟩ yX4_worth wsX4_worth) := goodIn_app (goodIn_r _ [20, 21, 22, 36, 37, 38] rfl (by decide +kernel)) ggX11_cost_X4_worth
set_option maxRecDepth 20000 in
theorem gwX7_worth : wsX7_worth.all goodWord = true := by decide +kernel
set_option maxRecDepth 20000 in
theorem ggX11_cost_X7_worth : GoodIn wsX11_cost wsX7_worth := goodIn_r _ [43, 44, 45, 46, 24, 25, 26] rfl gwX7_worth
set_option maxRecDepth 20000 in
theorem gX11_cost_X7_worth_u394X7 : GoodIn wsX11_cost (va_wsO RX11 394 RX7 "GreedyServers$Hard" ⟨"GreedyServers$Hard", "worth", "(I)I"⟩ yX7_worth wsX7_worth) := goodIn_app (goodIn_r _ [20, 21, 22, 40, 41, 42] rfl (by decide +kernel)) ggX11_cost_X7_worth
set_option maxRecDepth 20000 in
theorem gwX9_worth : wsX9_worth.all goodWord = true := by decide +kernel
set_option maxRecDepth 20000 in
theorem ggX11_cost_X9_worth : GoodIn wsX11_cost wsX9_worth := goodIn_r _ [50, 51, 52, 53, 37, 38, 39] rfl gwX9_worth
set_option maxRecDepth 20000 in
theorem gX11_cost_X9_worth_u394X9 : GoodIn wsX11_cost (va_wsO RX11 394 RX9 "GreedyServers$Hard" ⟨"GreedyServers$Hard", "worth", "(I)I"⟩ yX9_worth wsX9_worth) := goodIn_app (goodIn_r _ [20, 21, 22, 47, 48, 49] rfl (by decide +kernel)) ggX11_cost_X9_worth
theorem dX11_cost_0 : decode cX11_cost 0 = .ok (.aload_n 0, 1) := by decide +kernel
theorem dX11_cost_1 : decode cX11_cost 1 = .ok (.iload_n 1, 1) := by decide +kernel
theorem dX11_cost_2 : decode cX11_cost 2 = .ok (.invokevirtual 179, 3) := by decide +kernel
theorem dX11_cost_5 : decode cX11_cost 5 = .ok (.istore_n 2, 1) := by decide +kernel
theorem dX11_cost_6 : decode cX11_cost 6 = .ok (.iload_n 2, 1) := by decide +kernel
theorem dX11_cost_7 : decode cX11_cost 7 = .ok (.ifCond .eq 5, 3) := by decide +kernel
theorem dX11_cost_10 : decode cX11_cost 10 = .ok (.iload_n 2, 1) := by decide +kernel
theorem dX11_cost_11 : decode cX11_cost 11 = .ok (.ireturn, 1) := by decide +kernel
theorem dX11_cost_12 : decode cX11_cost 12 = .ok (.aload_n 0, 1) := by decide +kernel
theorem dX11_cost_13 : decode cX11_cost 13 = .ok (.getfield 50, 3) := by decide +kernel
theorem dX11_cost_16 : decode cX11_cost 16 = .ok (.iload_n 1, 1) := by decide +kernel
theorem dX11_cost_17 : decode cX11_cost 17 = .ok (.aaload, 1) := by decide +kernel
theorem dX11_cost_18 : decode cX11_cost 18 = .ok (.getfield 183, 3) := by decide +kernel
theorem dX11_cost_21 : decode cX11_cost 21 = .ok (.aload_n 0, 1) := by decide +kernel
theorem dX11_cost_22 : decode cX11_cost 22 = .ok (.getfield 50, 3) := by decide +kernel
theorem dX11_cost_25 : decode cX11_cost 25 = .ok (.iload_n 1, 1) := by decide +kernel
theorem dX11_cost_26 : decode cX11_cost 26 = .ok (.aaload, 1) := by decide +kernel
theorem dX11_cost_27 : decode cX11_cost 27 = .ok (.getfield 184, 3) := by decide +kernel
theorem dX11_cost_30 : decode cX11_cost 30 = .ok (.invokevirtual 394, 3) := by decide +kernel
theorem dX11_cost_33 : decode cX11_cost 33 = .ok (.ireturn, 1) := by decide +kernel
set_option maxRecDepth 20000 in
theorem ggX11_toss_X11_sortRefusal : GoodIn wsX11_toss wsX11_sortRefusal := goodIn_r _ [11, 12, 13, 14, 10, 15, 4, 16, 17, 18, 19, 20, 21, 22, 81, 82, 83, 84, 85, 86, 87, 88, 89, 90, 91, 92, 93, 94, 95, 96, 97] rfl gwX11_sortRefusal
set_option maxRecDepth 20000 in
theorem gX11_toss_X11_sortRefusal : GoodIn wsX11_toss (wsV RX11 179 RX11 yX11_sortRefusal wsX11_sortRefusal) := goodIn_app (goodIn_of _ (by decide +kernel)) ggX11_toss_X11_sortRefusal
set_option maxRecDepth 20000 in
theorem ggX11_toss_X0_fail : GoodIn wsX11_toss wsX0_fail := goodIn_ca (goodIn_r _ [29, 30, 31] rfl (by decide +kernel)) (goodIn_sub (fun _ h => List.mem_cons_of_mem _ (List.mem_append_left _ (List.mem_append_left _ (List.mem_append_right _ h)))) (by decide +kernel))
set_option maxRecDepth 20000 in
theorem gX11_toss_X0_fail_u397X0 : GoodIn wsX11_toss (va_wsO RX11 397 RX0 "GreedyServers$Hard" ⟨"GreedyServers$Hard", "fail", "(I)V"⟩ yX0_fail wsX0_fail) := goodIn_app (goodIn_of _ (by decide +kernel)) ggX11_toss_X0_fail
set_option maxRecDepth 20000 in
theorem ggX11_toss_X1_fail : GoodIn wsX11_toss wsX1_fail := goodIn_ca (goodIn_r _ [32, 37, 38] rfl (by decide +kernel)) (goodIn_sub (fun _ h => List.mem_cons_of_mem _ (List.mem_append_left _ (List.mem_append_right _ h))) (by decide +kernel))
set_option maxRecDepth 20000 in
theorem gX11_toss_X1_fail : GoodIn wsX11_toss (wsV RX11 397 RX1 yX1_fail wsX1_fail) := goodIn_app (goodIn_of _ (by decide +kernel)) ggX11_toss_X1_fail
set_option maxRecDepth 20000 in
theorem gX11_toss_X0_fail_u397X2 : GoodIn wsX11_toss (va_wsO RX11 397 RX2 "GreedyServers$Hard" ⟨"GreedyServers$Hard", "fail", "(I)V"⟩ yX0_fail wsX0_fail) := goodIn_app (goodIn_of _ (by decide +kernel)) ggX11_toss_X0_fail
set_option maxRecDepth 20000 in
theorem gwX4_fail : wsX4_fail.all goodWord = true := by decide +kernel
set_option maxRecDepth 20000 in
theorem ggX11_toss_X4_fail : GoodIn wsX11_toss wsX4_fail := goodIn_r _ [43] rfl gwX4_fail
set_option maxRecDepth 20000 in
theorem gX11_toss_X4_fail_u397X4 : GoodIn wsX11_toss (va_wsO RX11 397 RX4 "GreedyServers$Hard" ⟨"GreedyServers$Hard", "fail", "(I)V"⟩ yX4_fail wsX4_fail) := goodIn_app (goodIn_of _ (by decide +kernel)) ggX11_toss_X4_fail
set_option maxRecDepth 20000 in
theorem gX11_toss_X0_fail_u397X7 : GoodIn wsX11_toss (va_wsO RX11 397 RX7 "GreedyServers$Hard" ⟨"GreedyServers$Hard", "fail", "(I)V"⟩ yX0_fail wsX0_fail) := goodIn_app (goodIn_of _ (by decide +kernel)) ggX11_toss_X0_fail
set_option maxRecDepth 20000 in
theorem ggX11_toss_X9_fail : GoodIn wsX11_toss wsX9_fail := goodIn_ca (goodIn_r _ [48, 49, 50] rfl (by decide +kernel)) (goodIn_sub (fun _ h => List.mem_cons_of_mem _ (List.mem_append_right _ h)) (by decide +kernel))
set_option maxRecDepth 20000 in
theorem gX11_toss_X9_fail_u397X9 : GoodIn wsX11_toss (va_wsO RX11 397 RX9 "GreedyServers$Hard" ⟨"GreedyServers$Hard", "fail", "(I)V"⟩ yX9_fail wsX9_fail) := goodIn_app (goodIn_of _ (by decide +kernel)) ggX11_toss_X9_fail
set_option maxRecDepth 20000 in
theorem ggX11_toss_X0_worth : GoodIn wsX11_toss wsX0_worth := goodIn_r _ [56] rfl gwX0_worth
set_option maxRecDepth 20000 in
theorem gX11_toss_X0_worth_u394X0 : GoodIn wsX11_toss (va_wsO RX11 394 RX0 "GreedyServers$Hard" ⟨"GreedyServers$Hard", "worth", "(I)I"⟩ yX0_worth wsX0_worth) := goodIn_app (goodIn_of _ (by decide +kernel)) ggX11_toss_X0_worth
set_option maxRecDepth 20000 in
theorem ggX11_toss_X1_worth : GoodIn wsX11_toss wsX1_worth := goodIn_r _ [57] rfl gwX1_worth
set_option maxRecDepth 20000 in
theorem gX11_toss_X1_worth : GoodIn wsX11_toss (wsV RX11 394 RX1 yX1_worth wsX1_worth) := goodIn_app (goodIn_of _ (by decide +kernel)) ggX11_toss_X1_worth
set_option maxRecDepth 20000 in
theorem ggX11_toss_X2_worth : GoodIn wsX11_toss wsX2_worth := goodIn_r _ [64] rfl gwX2_worth
set_option maxRecDepth 20000 in
theorem gX11_toss_X2_worth_u394X2 : GoodIn wsX11_toss (va_wsO RX11 394 RX2 "GreedyServers$Hard" ⟨"GreedyServers$Hard", "worth", "(I)I"⟩ yX2_worth wsX2_worth) := goodIn_app (goodIn_of _ (by decide +kernel)) ggX11_toss_X2_worth
set_option maxRecDepth 20000 in
theorem ggX11_toss_X4_worth : GoodIn wsX11_toss wsX4_worth := goodIn_r _ [67] rfl gwX4_worth
set_option maxRecDepth 20000 in
theorem gX11_toss_X4_worth_u394X4 : GoodIn wsX11_toss (va_wsO RX11 394 RX4 "GreedyServers$Hard" ⟨"GreedyServers$Hard", "worth", "(I)I"⟩ yX4_worth wsX4_worth) := goodIn_app (goodIn_of _ (by decide +kernel)) ggX11_toss_X4_worth
set_option maxRecDepth 20000 in
theorem ggX11_toss_X7_worth : GoodIn wsX11_toss wsX7_worth := goodIn_r _ [71, 72, 73, 74, 55, 28, 56] rfl gwX7_worth
set_option maxRecDepth 20000 in
theorem gX11_toss_X7_worth_u394X7 : GoodIn wsX11_toss (va_wsO RX11 394 RX7 "GreedyServers$Hard" ⟨"GreedyServers$Hard", "worth", "(I)I"⟩ yX7_worth wsX7_worth) := goodIn_app (goodIn_of _ (by decide +kernel)) ggX11_toss_X7_worth
set_option maxRecDepth 20000 in
theorem ggX11_toss_X9_worth : GoodIn wsX11_toss wsX9_worth := goodIn_r _ [77, 78, 79, 80, 66, 42, 67] rfl gwX9_worth
set_option maxRecDepth 20000 in
theorem gX11_toss_X9_worth_u394X9 : GoodIn wsX11_toss (va_wsO RX11 394 RX9 "GreedyServers$Hard" ⟨"GreedyServers$Hard", "worth", "(I)I"⟩ yX9_worth wsX9_worth) := goodIn_app (goodIn_of _ (by decide +kernel)) ggX11_toss_X9_worth
theorem dX11_toss_0 : decode cX11_toss 0 = .ok (.aload_n 0, 1) := by decide +kernel
theorem dX11_toss_1 : decode cX11_toss 1 = .ok (.iload_n 1, 1) := by decide +kernel
theorem dX11_toss_2 : decode cX11_toss 2 = .ok (.invokevirtual 179, 3) := by decide +kernel
theorem dX11_toss_5 : decode cX11_toss 5 = .ok (.istore_n 2, 1) := by decide +kernel
theorem dX11_toss_6 : decode cX11_toss 6 = .ok (.iload_n 2, 1) := by decide +kernel
theorem dX11_toss_7 : decode cX11_toss 7 = .ok (.ifCond .eq 5, 3) := by decide +kernel
theorem dX11_toss_10 : decode cX11_toss 10 = .ok (.iload_n 2, 1) := by decide +kernel
theorem dX11_toss_11 : decode cX11_toss 11 = .ok (.ireturn, 1) := by decide +kernel
theorem dX11_toss_12 : decode cX11_toss 12 = .ok (.aload_n 0, 1) := by decide +kernel
theorem dX11_toss_13 : decode cX11_toss 13 = .ok (.getfield 50, 3) := by decide +kernel
theorem dX11_toss_16 : decode cX11_toss 16 = .ok (.iload_n 1, 1) := by decide +kernel
theorem dX11_toss_17 : decode cX11_toss 17 = .ok (.aaload, 1) := by decide +kernel
theorem dX11_toss_18 : decode cX11_toss 18 = .ok (.getfield 183, 3) := by decide +kernel
theorem dX11_toss_21 : decode cX11_toss 21 = .ok (.astore_n 3, 1) := by decide +kernel
theorem dX11_toss_22 : decode cX11_toss 22 = .ok (.aload_n 0, 1) := by decide +kernel
theorem dX11_toss_23 : decode cX11_toss 23 = .ok (.getfield 50, 3) := by decide +kernel
theorem dX11_toss_26 : decode cX11_toss 26 = .ok (.iload_n 1, 1) := by decide +kernel
theorem dX11_toss_27 : decode cX11_toss 27 = .ok (.aaload, 1) := by decide +kernel
theorem dX11_toss_28 : decode cX11_toss 28 = .ok (.getfield 184, 3) := by decide +kernel
theorem dX11_toss_31 : decode cX11_toss 31 = .ok (.istore 4, 2) := by decide +kernel
theorem dX11_toss_33 : decode cX11_toss 33 = .ok (.aload_n 3, 1) := by decide +kernel
theorem dX11_toss_34 : decode cX11_toss 34 = .ok (.iload 4, 2) := by decide +kernel
theorem dX11_toss_36 : decode cX11_toss 36 = .ok (.invokevirtual 397, 3) := by decide +kernel
theorem dX11_toss_39 : decode cX11_toss 39 = .ok (.bipush (-15), 2) := by decide +kernel
theorem dX11_toss_41 : decode cX11_toss 41 = .ok (.ireturn, 1) := by decide +kernel
theorem dX11_toss_42 : decode cX11_toss 42 = .ok (.astore 5, 2) := by decide +kernel
theorem dX11_toss_44 : decode cX11_toss 44 = .ok (.iload 4, 2) := by decide +kernel
theorem dX11_toss_46 : decode cX11_toss 46 = .ok (.ireturn, 1) := by decide +kernel
theorem dX11_toss_47 : decode cX11_toss 47 = .ok (.astore 5, 2) := by decide +kernel
theorem dX11_toss_49 : decode cX11_toss 49 = .ok (.bipush 100, 2) := by decide +kernel
theorem dX11_toss_51 : decode cX11_toss 51 = .ok (.iload 4, 2) := by decide +kernel
theorem dX11_toss_53 : decode cX11_toss 53 = .ok (.iadd, 1) := by decide +kernel
theorem dX11_toss_54 : decode cX11_toss 54 = .ok (.ireturn, 1) := by decide +kernel
theorem dX11_toss_55 : decode cX11_toss 55 = .ok (.astore 5, 2) := by decide +kernel
theorem dX11_toss_57 : decode cX11_toss 57 = .ok (.sipush 200, 3) := by decide +kernel
theorem dX11_toss_60 : decode cX11_toss 60 = .ok (.aload_n 3, 1) := by decide +kernel
theorem dX11_toss_61 : decode cX11_toss 61 = .ok (.iload 4, 2) := by decide +kernel
theorem dX11_toss_63 : decode cX11_toss 63 = .ok (.invokevirtual 394, 3) := by decide +kernel
theorem dX11_toss_66 : decode cX11_toss 66 = .ok (.iadd, 1) := by decide +kernel
theorem dX11_toss_67 : decode cX11_toss 67 = .ok (.ireturn, 1) := by decide +kernel
theorem dX11_within_0 : decode cX11_within 0 = .ok (.iload_n 0, 1) := by decide +kernel
theorem dX11_within_1 : decode cX11_within 1 = .ok (.iload_n 1, 1) := by decide +kernel
theorem dX11_within_2 : decode cX11_within 2 = .ok (.if_icmp .lt 12, 3) := by decide +kernel
theorem dX11_within_5 : decode cX11_within 5 = .ok (.iload_n 0, 1) := by decide +kernel
theorem dX11_within_6 : decode cX11_within 6 = .ok (.iload_n 2, 1) := by decide +kernel
theorem dX11_within_7 : decode cX11_within 7 = .ok (.if_icmp .gt 7, 3) := by decide +kernel
theorem dX11_within_10 : decode cX11_within 10 = .ok (.iconst 1, 1) := by decide +kernel
theorem dX11_within_11 : decode cX11_within 11 = .ok (.goto 4, 3) := by decide +kernel
theorem dX11_within_14 : decode cX11_within 14 = .ok (.iconst 0, 1) := by decide +kernel
theorem dX11_within_15 : decode cX11_within 15 = .ok (.ireturn, 1) := by decide +kernel
set_option maxRecDepth 20000 in
theorem ggX11_isBudget_X11_within : GoodIn wsX11_isBudget wsX11_within := goodIn_r _ [4] rfl gwX11_within
set_option maxRecDepth 20000 in
theorem gX11_isBudget_X11_within : GoodIn wsX11_isBudget (va_wsS RX11 158 yX11_within wsX11_within) := goodIn_app (goodIn_r _ [1, 2, 3] rfl (by decide +kernel)) ggX11_isBudget_X11_within
theorem dX11_isBudget_0 : decode cX11_isBudget 0 = .ok (.iload_n 0, 1) := by decide +kernel
theorem dX11_isBudget_1 : decode cX11_isBudget 1 = .ok (.iconst 1, 1) := by decide +kernel
theorem dX11_isBudget_2 : decode cX11_isBudget 2 = .ok (.bipush 30, 2) := by decide +kernel
theorem dX11_isBudget_4 : decode cX11_isBudget 4 = .ok (.invokestatic 158, 3) := by decide +kernel
theorem dX11_isBudget_7 : decode cX11_isBudget 7 = .ok (.ifCond .eq 24, 3) := by decide +kernel
theorem dX11_isBudget_10 : decode cX11_isBudget 10 = .ok (.iload_n 1, 1) := by decide +kernel
theorem dX11_isBudget_11 : decode cX11_isBudget 11 = .ok (.iload_n 0, 1) := by decide +kernel
theorem dX11_isBudget_12 : decode cX11_isBudget 12 = .ok (.bipush 60, 2) := by decide +kernel
theorem dX11_isBudget_14 : decode cX11_isBudget 14 = .ok (.invokestatic 158, 3) := by decide +kernel
theorem dX11_isBudget_17 : decode cX11_isBudget 17 = .ok (.ifCond .eq 14, 3) := by decide +kernel
theorem dX11_isBudget_20 : decode cX11_isBudget 20 = .ok (.bipush 60, 2) := by decide +kernel
theorem dX11_isBudget_22 : decode cX11_isBudget 22 = .ok (.iload_n 1, 1) := by decide +kernel
theorem dX11_isBudget_23 : decode cX11_isBudget 23 = .ok (.irem, 1) := by decide +kernel
theorem dX11_isBudget_24 : decode cX11_isBudget 24 = .ok (.ifCond .ne 7, 3) := by decide +kernel
theorem dX11_isBudget_27 : decode cX11_isBudget 27 = .ok (.iconst 1, 1) := by decide +kernel
theorem dX11_isBudget_28 : decode cX11_isBudget 28 = .ok (.goto 4, 3) := by decide +kernel
theorem dX11_isBudget_31 : decode cX11_isBudget 31 = .ok (.iconst 0, 1) := by decide +kernel
theorem dX11_isBudget_32 : decode cX11_isBudget 32 = .ok (.ireturn, 1) := by decide +kernel
theorem dX11_partOf_0 : decode cX11_partOf 0 = .ok (.iload_n 1, 1) := by decide +kernel
theorem dX11_partOf_1 : decode cX11_partOf 1 = .ok (.iconst 1, 1) := by decide +kernel
theorem dX11_partOf_2 : decode cX11_partOf 2 = .ok (.if_icmp .ge 7, 3) := by decide +kernel
theorem dX11_partOf_5 : decode cX11_partOf 5 = .ok (.iconst 0, 1) := by decide +kernel
theorem dX11_partOf_6 : decode cX11_partOf 6 = .ok (.goto 9, 3) := by decide +kernel
theorem dX11_partOf_9 : decode cX11_partOf 9 = .ok (.bipush 60, 2) := by decide +kernel
theorem dX11_partOf_11 : decode cX11_partOf 11 = .ok (.iload_n 0, 1) := by decide +kernel
theorem dX11_partOf_12 : decode cX11_partOf 12 = .ok (.imul, 1) := by decide +kernel
theorem dX11_partOf_13 : decode cX11_partOf 13 = .ok (.iload_n 1, 1) := by decide +kernel
theorem dX11_partOf_14 : decode cX11_partOf 14 = .ok (.idiv, 1) := by decide +kernel
theorem dX11_partOf_15 : decode cX11_partOf 15 = .ok (.ireturn, 1) := by decide +kernel
set_option maxRecDepth 20000 in
theorem ggX11_isShelf_X11_within : GoodIn wsX11_isShelf wsX11_within := goodIn_r _ [4] rfl gwX11_within
set_option maxRecDepth 20000 in
theorem gX11_isShelf_X11_within : GoodIn wsX11_isShelf (va_wsS RX11 158 yX11_within wsX11_within) := goodIn_app (goodIn_r _ [1, 2, 3] rfl (by decide +kernel)) ggX11_isShelf_X11_within
theorem dX11_isShelf_0 : decode cX11_isShelf 0 = .ok (.iload_n 0, 1) := by decide +kernel
theorem dX11_isShelf_1 : decode cX11_isShelf 1 = .ok (.iconst 0, 1) := by decide +kernel
theorem dX11_isShelf_2 : decode cX11_isShelf 2 = .ok (.bipush 7, 2) := by decide +kernel
theorem dX11_isShelf_4 : decode cX11_isShelf 4 = .ok (.invokestatic 158, 3) := by decide +kernel
theorem dX11_isShelf_7 : decode cX11_isShelf 7 = .ok (.ireturn, 1) := by decide +kernel
set_option maxRecDepth 20000 in
theorem ggX11_isTray_X11_within : GoodIn wsX11_isTray wsX11_within := goodIn_r _ [4] rfl gwX11_within
set_option maxRecDepth 20000 in
theorem gX11_isTray_X11_within : GoodIn wsX11_isTray (va_wsS RX11 158 yX11_within wsX11_within) := goodIn_app (goodIn_r _ [1, 2, 3] rfl (by decide +kernel)) ggX11_isTray_X11_within
theorem dX11_isTray_0 : decode cX11_isTray 0 = .ok (.iload_n 0, 1) := by decide +kernel
theorem dX11_isTray_1 : decode cX11_isTray 1 = .ok (.iconst 0, 1) := by decide +kernel
theorem dX11_isTray_2 : decode cX11_isTray 2 = .ok (.iconst 3, 1) := by decide +kernel
theorem dX11_isTray_3 : decode cX11_isTray 3 = .ok (.invokestatic 158, 3) := by decide +kernel
theorem dX11_isTray_6 : decode cX11_isTray 6 = .ok (.ireturn, 1) := by decide +kernel
set_option maxRecDepth 20000 in
theorem gwX11_contentRefusal : wsX11_contentRefusal.all goodWord = true := by decide +kernel
set_option maxRecDepth 20000 in
theorem ggX11_rowRefusal_X11_contentRefusal : GoodIn wsX11_rowRefusal wsX11_contentRefusal := goodIn_r _ [5, 6, 7, 8, 9, 4, 10, 11, 12, 13, 14, 15, 16, 17, 18, 19, 20, 21, 22, 23, 24, 25, 26, 27, 28, 29, 30] rfl gwX11_contentRefusal
set_option maxRecDepth 20000 in
theorem gX11_rowRefusal_X11_contentRefusal : GoodIn wsX11_rowRefusal (wsV RX11 402 RX11 yX11_contentRefusal wsX11_contentRefusal) := goodIn_app (goodIn_r _ [1, 2, 3, 4] rfl (by decide +kernel)) ggX11_rowRefusal_X11_contentRefusal
theorem dX11_rowRefusal_0 : decode cX11_rowRefusal 0 = .ok (.aload_n 0, 1) := by decide +kernel
theorem dX11_rowRefusal_1 : decode cX11_rowRefusal 1 = .ok (.iload_n 1, 1) := by decide +kernel
theorem dX11_rowRefusal_2 : decode cX11_rowRefusal 2 = .ok (.iconst 2, 1) := by decide +kernel
theorem dX11_rowRefusal_3 : decode cX11_rowRefusal 3 = .ok (.invokevirtual 402, 3) := by decide +kernel
theorem dX11_rowRefusal_6 : decode cX11_rowRefusal 6 = .ok (.ireturn, 1) := by decide +kernel
set_option maxRecDepth 20000 in
theorem ggX11_sortRefusal_X11_contentRefusal : GoodIn wsX11_sortRefusal wsX11_contentRefusal := goodIn_r _ [5, 6, 7, 8, 9, 4, 10, 11, 12, 13, 14, 15, 16, 17, 18, 19, 20, 21, 22, 23, 24, 25, 26, 27, 28, 29, 30] rfl gwX11_contentRefusal
set_option maxRecDepth 20000 in
theorem gX11_sortRefusal_X11_contentRefusal : GoodIn wsX11_sortRefusal (wsV RX11 402 RX11 yX11_contentRefusal wsX11_contentRefusal) := goodIn_app (goodIn_r _ [1, 2, 3, 4] rfl (by decide +kernel)) ggX11_sortRefusal_X11_contentRefusal
theorem dX11_sortRefusal_0 : decode cX11_sortRefusal 0 = .ok (.aload_n 0, 1) := by decide +kernel
theorem dX11_sortRefusal_1 : decode cX11_sortRefusal 1 = .ok (.iload_n 1, 1) := by decide +kernel
theorem dX11_sortRefusal_2 : decode cX11_sortRefusal 2 = .ok (.iconst 1, 1) := by decide +kernel
theorem dX11_sortRefusal_3 : decode cX11_sortRefusal 3 = .ok (.invokevirtual 402, 3) := by decide +kernel
theorem dX11_sortRefusal_6 : decode cX11_sortRefusal 6 = .ok (.ireturn, 1) := by decide +kernel
set_option maxRecDepth 20000 in
theorem ggX11_contentRefusal_X11_isShelf : GoodIn wsX11_contentRefusal wsX11_isShelf := goodIn_r _ [6, 7, 8, 5, 9] rfl gwX11_isShelf
set_option maxRecDepth 20000 in
theorem gX11_contentRefusal_X11_isShelf : GoodIn wsX11_contentRefusal (va_wsS RX11 261 yX11_isShelf wsX11_isShelf) := goodIn_app (goodIn_r _ [3, 4, 5] rfl (by decide +kernel)) ggX11_contentRefusal_X11_isShelf
theorem dX11_contentRefusal_0 : decode cX11_contentRefusal 0 = .ok (.iload_n 1, 1) := by decide +kernel
theorem dX11_contentRefusal_1 : decode cX11_contentRefusal 1 = .ok (.invokestatic 261, 3) := by decide +kernel
theorem dX11_contentRefusal_4 : decode cX11_contentRefusal 4 = .ok (.ifCond .ne 5, 3) := by decide +kernel
theorem dX11_contentRefusal_7 : decode cX11_contentRefusal 7 = .ok (.iconst (-1), 1) := by decide +kernel
theorem dX11_contentRefusal_8 : decode cX11_contentRefusal 8 = .ok (.ireturn, 1) := by decide +kernel
theorem dX11_contentRefusal_9 : decode cX11_contentRefusal 9 = .ok (.aload_n 0, 1) := by decide +kernel
theorem dX11_contentRefusal_10 : decode cX11_contentRefusal 10 = .ok (.getfield 50, 3) := by decide +kernel
theorem dX11_contentRefusal_13 : decode cX11_contentRefusal 13 = .ok (.iload_n 1, 1) := by decide +kernel
theorem dX11_contentRefusal_14 : decode cX11_contentRefusal 14 = .ok (.aaload, 1) := by decide +kernel
theorem dX11_contentRefusal_15 : decode cX11_contentRefusal 15 = .ok (.getfield 337, 3) := by decide +kernel
theorem dX11_contentRefusal_18 : decode cX11_contentRefusal 18 = .ok (.ifCond .ne 6, 3) := by decide +kernel
theorem dX11_contentRefusal_21 : decode cX11_contentRefusal 21 = .ok (.bipush (-11), 2) := by decide +kernel
theorem dX11_contentRefusal_23 : decode cX11_contentRefusal 23 = .ok (.ireturn, 1) := by decide +kernel
theorem dX11_contentRefusal_24 : decode cX11_contentRefusal 24 = .ok (.aload_n 0, 1) := by decide +kernel
theorem dX11_contentRefusal_25 : decode cX11_contentRefusal 25 = .ok (.getfield 50, 3) := by decide +kernel
theorem dX11_contentRefusal_28 : decode cX11_contentRefusal 28 = .ok (.iload_n 1, 1) := by decide +kernel
theorem dX11_contentRefusal_29 : decode cX11_contentRefusal 29 = .ok (.aaload, 1) := by decide +kernel
theorem dX11_contentRefusal_30 : decode cX11_contentRefusal 30 = .ok (.getfield 337, 3) := by decide +kernel
theorem dX11_contentRefusal_33 : decode cX11_contentRefusal 33 = .ok (.iload_n 2, 1) := by decide +kernel
theorem dX11_contentRefusal_34 : decode cX11_contentRefusal 34 = .ok (.if_icmp .ne 7, 3) := by decide +kernel
theorem dX11_contentRefusal_37 : decode cX11_contentRefusal 37 = .ok (.iconst 0, 1) := by decide +kernel
theorem dX11_contentRefusal_38 : decode cX11_contentRefusal 38 = .ok (.goto 5, 3) := by decide +kernel
theorem dX11_contentRefusal_41 : decode cX11_contentRefusal 41 = .ok (.bipush (-12), 2) := by decide +kernel
theorem dX11_contentRefusal_43 : decode cX11_contentRefusal 43 = .ok (.ireturn, 1) := by decide +kernel
theorem dX11_power_0 : decode cX11_power 0 = .ok (.lconst 1, 1) := by decide +kernel
theorem dX11_power_1 : decode cX11_power 1 = .ok (.lstore_n 2, 1) := by decide +kernel
theorem dX11_power_2 : decode cX11_power 2 = .ok (.iconst 0, 1) := by decide +kernel
theorem dX11_power_3 : decode cX11_power 3 = .ok (.istore 4, 2) := by decide +kernel
theorem dX11_power_5 : decode cX11_power 5 = .ok (.iload 4, 2) := by decide +kernel
theorem dX11_power_7 : decode cX11_power 7 = .ok (.iload_n 1, 1) := by decide +kernel
theorem dX11_power_8 : decode cX11_power 8 = .ok (.if_icmp .ge 14, 3) := by decide +kernel
theorem dX11_power_11 : decode cX11_power 11 = .ok (.lload_n 2, 1) := by decide +kernel
theorem dX11_power_12 : decode cX11_power 12 = .ok (.iload_n 0, 1) := by decide +kernel
theorem dX11_power_13 : decode cX11_power 13 = .ok (.i2l, 1) := by decide +kernel
theorem dX11_power_14 : decode cX11_power 14 = .ok (.lmul, 1) := by decide +kernel
theorem dX11_power_15 : decode cX11_power 15 = .ok (.lstore_n 2, 1) := by decide +kernel
theorem dX11_power_16 : decode cX11_power 16 = .ok (.iinc 4 1, 3) := by decide +kernel
theorem dX11_power_19 : decode cX11_power 19 = .ok (.goto (-14), 3) := by decide +kernel
theorem dX11_power_22 : decode cX11_power 22 = .ok (.lload_n 2, 1) := by decide +kernel
