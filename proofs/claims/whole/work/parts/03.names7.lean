theorem dX12_copy_29 : decode cX12_copy 29 = .ok (.iload_n 3, 1) := by decide +kernel
theorem dX12_copy_30 : decode cX12_copy 30 = .ok (.iaload, 1) := by decide +kernel
theorem dX12_copy_31 : decode cX12_copy 31 = .ok (.ifCond .ne 6, 3) := by decide +kernel
theorem dX12_copy_34 : decode cX12_copy 34 = .ok (.bipush (-11), 2) := by decide +kernel
theorem dX12_copy_36 : decode cX12_copy 36 = .ok (.ireturn, 1) := by decide +kernel
theorem dX12_copy_37 : decode cX12_copy 37 = .ok (.aload_n 0, 1) := by decide +kernel
theorem dX12_copy_38 : decode cX12_copy 38 = .ok (.getfield 30, 3) := by decide +kernel
theorem dX12_copy_41 : decode cX12_copy 41 = .ok (.iload_n 1, 1) := by decide +kernel
theorem dX12_copy_42 : decode cX12_copy 42 = .ok (.iaload, 1) := by decide +kernel
theorem dX12_copy_43 : decode cX12_copy 43 = .ok (.iconst 2, 1) := by decide +kernel
theorem dX12_copy_44 : decode cX12_copy 44 = .ok (.if_icmp .ne 28, 3) := by decide +kernel
theorem dX12_copy_47 : decode cX12_copy 47 = .ok (.aload_n 0, 1) := by decide +kernel
theorem dX12_copy_48 : decode cX12_copy 48 = .ok (.getfield 30, 3) := by decide +kernel
theorem dX12_copy_51 : decode cX12_copy 51 = .ok (.iload_n 3, 1) := by decide +kernel
theorem dX12_copy_52 : decode cX12_copy 52 = .ok (.iaload, 1) := by decide +kernel
theorem dX12_copy_53 : decode cX12_copy 53 = .ok (.iconst 2, 1) := by decide +kernel
theorem dX12_copy_54 : decode cX12_copy 54 = .ok (.if_icmp .ne 18, 3) := by decide +kernel
theorem dX12_copy_57 : decode cX12_copy 57 = .ok (.aload_n 0, 1) := by decide +kernel
theorem dX12_copy_58 : decode cX12_copy 58 = .ok (.getfield 33, 3) := by decide +kernel
theorem dX12_copy_61 : decode cX12_copy 61 = .ok (.iload_n 1, 1) := by decide +kernel
theorem dX12_copy_62 : decode cX12_copy 62 = .ok (.iaload, 1) := by decide +kernel
theorem dX12_copy_63 : decode cX12_copy 63 = .ok (.aload_n 0, 1) := by decide +kernel
theorem dX12_copy_64 : decode cX12_copy 64 = .ok (.getfield 33, 3) := by decide +kernel
theorem dX12_copy_67 : decode cX12_copy 67 = .ok (.iload_n 3, 1) := by decide +kernel
theorem dX12_copy_68 : decode cX12_copy 68 = .ok (.iaload, 1) := by decide +kernel
theorem dX12_copy_69 : decode cX12_copy 69 = .ok (.if_icmp .eq 6, 3) := by decide +kernel
theorem dX12_copy_72 : decode cX12_copy 72 = .ok (.bipush (-12), 2) := by decide +kernel
theorem dX12_copy_74 : decode cX12_copy 74 = .ok (.ireturn, 1) := by decide +kernel
theorem dX12_copy_75 : decode cX12_copy 75 = .ok (.iload 5, 2) := by decide +kernel
theorem dX12_copy_77 : decode cX12_copy 77 = .ok (.ifCond .lt 47, 3) := by decide +kernel
theorem dX12_copy_80 : decode cX12_copy 80 = .ok (.iload_n 2, 1) := by decide +kernel
theorem dX12_copy_81 : decode cX12_copy 81 = .ok (.ifCond .lt 43, 3) := by decide +kernel
theorem dX12_copy_84 : decode cX12_copy 84 = .ok (.iload 4, 2) := by decide +kernel
theorem dX12_copy_86 : decode cX12_copy 86 = .ok (.ifCond .lt 38, 3) := by decide +kernel
theorem dX12_copy_89 : decode cX12_copy 89 = .ok (.iload_n 2, 1) := by decide +kernel
theorem dX12_copy_90 : decode cX12_copy 90 = .ok (.i2l, 1) := by decide +kernel
theorem dX12_copy_91 : decode cX12_copy 91 = .ok (.iload 5, 2) := by decide +kernel
theorem dX12_copy_93 : decode cX12_copy 93 = .ok (.i2l, 1) := by decide +kernel
theorem dX12_copy_94 : decode cX12_copy 94 = .ok (.ladd, 1) := by decide +kernel
theorem dX12_copy_95 : decode cX12_copy 95 = .ok (.aload_n 0, 1) := by decide +kernel
theorem dX12_copy_96 : decode cX12_copy 96 = .ok (.getfield 36, 3) := by decide +kernel
theorem dX12_copy_99 : decode cX12_copy 99 = .ok (.iload_n 1, 1) := by decide +kernel
theorem dX12_copy_100 : decode cX12_copy 100 = .ok (.iaload, 1) := by decide +kernel
theorem dX12_copy_101 : decode cX12_copy 101 = .ok (.i2l, 1) := by decide +kernel
theorem dX12_copy_102 : decode cX12_copy 102 = .ok (.lcmp, 1) := by decide +kernel
theorem dX12_copy_103 : decode cX12_copy 103 = .ok (.ifCond .gt 21, 3) := by decide +kernel
theorem dX12_copy_106 : decode cX12_copy 106 = .ok (.iload 4, 2) := by decide +kernel
theorem dX12_copy_108 : decode cX12_copy 108 = .ok (.i2l, 1) := by decide +kernel
theorem dX12_copy_109 : decode cX12_copy 109 = .ok (.iload 5, 2) := by decide +kernel
theorem dX12_copy_111 : decode cX12_copy 111 = .ok (.i2l, 1) := by decide +kernel
theorem dX12_copy_112 : decode cX12_copy 112 = .ok (.ladd, 1) := by decide +kernel
theorem dX12_copy_113 : decode cX12_copy 113 = .ok (.aload_n 0, 1) := by decide +kernel
theorem dX12_copy_114 : decode cX12_copy 114 = .ok (.getfield 36, 3) := by decide +kernel
theorem dX12_copy_117 : decode cX12_copy 117 = .ok (.iload_n 3, 1) := by decide +kernel
theorem dX12_copy_118 : decode cX12_copy 118 = .ok (.iaload, 1) := by decide +kernel
theorem dX12_copy_119 : decode cX12_copy 119 = .ok (.i2l, 1) := by decide +kernel
theorem dX12_copy_120 : decode cX12_copy 120 = .ok (.lcmp, 1) := by decide +kernel
theorem dX12_copy_121 : decode cX12_copy 121 = .ok (.ifCond .le 6, 3) := by decide +kernel
theorem dX12_copy_124 : decode cX12_copy 124 = .ok (.bipush (-13), 2) := by decide +kernel
theorem dX12_copy_126 : decode cX12_copy 126 = .ok (.ireturn, 1) := by decide +kernel
theorem dX12_copy_127 : decode cX12_copy 127 = .ok (.iload_n 1, 1) := by decide +kernel
theorem dX12_copy_128 : decode cX12_copy 128 = .ok (.iload_n 3, 1) := by decide +kernel
theorem dX12_copy_129 : decode cX12_copy 129 = .ok (.if_icmp .ne 58, 3) := by decide +kernel
theorem dX12_copy_132 : decode cX12_copy 132 = .ok (.iload_n 2, 1) := by decide +kernel
theorem dX12_copy_133 : decode cX12_copy 133 = .ok (.iload 4, 2) := by decide +kernel
theorem dX12_copy_135 : decode cX12_copy 135 = .ok (.if_icmp .ge 52, 3) := by decide +kernel
theorem dX12_copy_138 : decode cX12_copy 138 = .ok (.iload 5, 2) := by decide +kernel
theorem dX12_copy_140 : decode cX12_copy 140 = .ok (.iconst 1, 1) := by decide +kernel
theorem dX12_copy_141 : decode cX12_copy 141 = .ok (.isub, 1) := by decide +kernel
theorem dX12_copy_142 : decode cX12_copy 142 = .ok (.istore 6, 2) := by decide +kernel
theorem dX12_copy_144 : decode cX12_copy 144 = .ok (.iload 6, 2) := by decide +kernel
theorem dX12_copy_146 : decode cX12_copy 146 = .ok (.ifCond .lt 38, 3) := by decide +kernel
theorem dX12_copy_149 : decode cX12_copy 149 = .ok (.aload_n 0, 1) := by decide +kernel
theorem dX12_copy_150 : decode cX12_copy 150 = .ok (.getfield 39, 3) := by decide +kernel
theorem dX12_copy_153 : decode cX12_copy 153 = .ok (.bipush 100, 2) := by decide +kernel
theorem dX12_copy_155 : decode cX12_copy 155 = .ok (.iload_n 3, 1) := by decide +kernel
theorem dX12_copy_156 : decode cX12_copy 156 = .ok (.imul, 1) := by decide +kernel
theorem dX12_copy_157 : decode cX12_copy 157 = .ok (.iload 4, 2) := by decide +kernel
theorem dX12_copy_159 : decode cX12_copy 159 = .ok (.iadd, 1) := by decide +kernel
theorem dX12_copy_160 : decode cX12_copy 160 = .ok (.iload 6, 2) := by decide +kernel
theorem dX12_copy_162 : decode cX12_copy 162 = .ok (.iadd, 1) := by decide +kernel
theorem dX12_copy_163 : decode cX12_copy 163 = .ok (.aload_n 0, 1) := by decide +kernel
theorem dX12_copy_164 : decode cX12_copy 164 = .ok (.getfield 39, 3) := by decide +kernel
theorem dX12_copy_167 : decode cX12_copy 167 = .ok (.bipush 100, 2) := by decide +kernel
theorem dX12_copy_169 : decode cX12_copy 169 = .ok (.iload_n 1, 1) := by decide +kernel
theorem dX12_copy_170 : decode cX12_copy 170 = .ok (.imul, 1) := by decide +kernel
theorem dX12_copy_171 : decode cX12_copy 171 = .ok (.iload_n 2, 1) := by decide +kernel
theorem dX12_copy_172 : decode cX12_copy 172 = .ok (.iadd, 1) := by decide +kernel
theorem dX12_copy_173 : decode cX12_copy 173 = .ok (.iload 6, 2) := by decide +kernel
theorem dX12_copy_175 : decode cX12_copy 175 = .ok (.iadd, 1) := by decide +kernel
theorem dX12_copy_176 : decode cX12_copy 176 = .ok (.iaload, 1) := by decide +kernel
theorem dX12_copy_177 : decode cX12_copy 177 = .ok (.iastore, 1) := by decide +kernel
theorem dX12_copy_178 : decode cX12_copy 178 = .ok (.iinc 6 (-1), 3) := by decide +kernel
theorem dX12_copy_181 : decode cX12_copy 181 = .ok (.goto (-37), 3) := by decide +kernel
theorem dX12_copy_184 : decode cX12_copy 184 = .ok (.goto 48, 3) := by decide +kernel
theorem dX12_copy_187 : decode cX12_copy 187 = .ok (.iconst 0, 1) := by decide +kernel
theorem dX12_copy_188 : decode cX12_copy 188 = .ok (.istore 6, 2) := by decide +kernel
theorem dX12_copy_190 : decode cX12_copy 190 = .ok (.iload 6, 2) := by decide +kernel
theorem dX12_copy_192 : decode cX12_copy 192 = .ok (.iload 5, 2) := by decide +kernel
theorem dX12_copy_194 : decode cX12_copy 194 = .ok (.if_icmp .ge 38, 3) := by decide +kernel
theorem dX12_copy_197 : decode cX12_copy 197 = .ok (.aload_n 0, 1) := by decide +kernel
theorem dX12_copy_198 : decode cX12_copy 198 = .ok (.getfield 39, 3) := by decide +kernel
theorem dX12_copy_201 : decode cX12_copy 201 = .ok (.bipush 100, 2) := by decide +kernel
theorem dX12_copy_203 : decode cX12_copy 203 = .ok (.iload_n 3, 1) := by decide +kernel
theorem dX12_copy_204 : decode cX12_copy 204 = .ok (.imul, 1) := by decide +kernel
theorem dX12_copy_205 : decode cX12_copy 205 = .ok (.iload 4, 2) := by decide +kernel
theorem dX12_copy_207 : decode cX12_copy 207 = .ok (.iadd, 1) := by decide +kernel
theorem dX12_copy_208 : decode cX12_copy 208 = .ok (.iload 6, 2) := by decide +kernel
theorem dX12_copy_210 : decode cX12_copy 210 = .ok (.iadd, 1) := by decide +kernel
theorem dX12_copy_211 : decode cX12_copy 211 = .ok (.aload_n 0, 1) := by decide +kernel
theorem dX12_copy_212 : decode cX12_copy 212 = .ok (.getfield 39, 3) := by decide +kernel
theorem dX12_copy_215 : decode cX12_copy 215 = .ok (.bipush 100, 2) := by decide +kernel
theorem dX12_copy_217 : decode cX12_copy 217 = .ok (.iload_n 1, 1) := by decide +kernel
theorem dX12_copy_218 : decode cX12_copy 218 = .ok (.imul, 1) := by decide +kernel
theorem dX12_copy_219 : decode cX12_copy 219 = .ok (.iload_n 2, 1) := by decide +kernel
theorem dX12_copy_220 : decode cX12_copy 220 = .ok (.iadd, 1) := by decide +kernel
theorem dX12_copy_221 : decode cX12_copy 221 = .ok (.iload 6, 2) := by decide +kernel
theorem dX12_copy_223 : decode cX12_copy 223 = .ok (.iadd, 1) := by decide +kernel
theorem dX12_copy_224 : decode cX12_copy 224 = .ok (.iaload, 1) := by decide +kernel
theorem dX12_copy_225 : decode cX12_copy 225 = .ok (.iastore, 1) := by decide +kernel
theorem dX12_copy_226 : decode cX12_copy 226 = .ok (.iinc 6 1, 3) := by decide +kernel
theorem dX12_copy_229 : decode cX12_copy 229 = .ok (.goto (-39), 3) := by decide +kernel
theorem dX12_copy_232 : decode cX12_copy 232 = .ok (.iload 5, 2) := by decide +kernel
theorem dX12_copy_234 : decode cX12_copy 234 = .ok (.ireturn, 1) := by decide +kernel
theorem dX12_costOf_0 : decode cX12_costOf 0 = .ok (.aload_n 0, 1) := by decide +kernel
theorem dX12_costOf_1 : decode cX12_costOf 1 = .ok (.getfield 33, 3) := by decide +kernel
theorem dX12_costOf_4 : decode cX12_costOf 4 = .ok (.iload_n 1, 1) := by decide +kernel
theorem dX12_costOf_5 : decode cX12_costOf 5 = .ok (.iaload, 1) := by decide +kernel
theorem dX12_costOf_6 : decode cX12_costOf 6 = .ok (.tableswitch 60 1 5 #[34, 36, 45, 47, 49], 34) := by decide +kernel
theorem dX12_costOf_40 : decode cX12_costOf 40 = .ok (.iconst 1, 1) := by decide +kernel
theorem dX12_costOf_41 : decode cX12_costOf 41 = .ok (.ireturn, 1) := by decide +kernel
theorem dX12_costOf_42 : decode cX12_costOf 42 = .ok (.iconst 2, 1) := by decide +kernel
theorem dX12_costOf_43 : decode cX12_costOf 43 = .ok (.aload_n 0, 1) := by decide +kernel
theorem dX12_costOf_44 : decode cX12_costOf 44 = .ok (.getfield 36, 3) := by decide +kernel
theorem dX12_costOf_47 : decode cX12_costOf 47 = .ok (.iload_n 1, 1) := by decide +kernel
theorem dX12_costOf_48 : decode cX12_costOf 48 = .ok (.iaload, 1) := by decide +kernel
theorem dX12_costOf_49 : decode cX12_costOf 49 = .ok (.imul, 1) := by decide +kernel
theorem dX12_costOf_50 : decode cX12_costOf 50 = .ok (.ireturn, 1) := by decide +kernel
theorem dX12_costOf_51 : decode cX12_costOf 51 = .ok (.iconst 4, 1) := by decide +kernel
theorem dX12_costOf_52 : decode cX12_costOf 52 = .ok (.ireturn, 1) := by decide +kernel
theorem dX12_costOf_53 : decode cX12_costOf 53 = .ok (.iconst 0, 1) := by decide +kernel
theorem dX12_costOf_54 : decode cX12_costOf 54 = .ok (.ireturn, 1) := by decide +kernel
theorem dX12_costOf_55 : decode cX12_costOf 55 = .ok (.iconst 2, 1) := by decide +kernel
theorem dX12_costOf_56 : decode cX12_costOf 56 = .ok (.aload_n 0, 1) := by decide +kernel
theorem dX12_costOf_57 : decode cX12_costOf 57 = .ok (.getfield 36, 3) := by decide +kernel
theorem dX12_costOf_60 : decode cX12_costOf 60 = .ok (.iload_n 1, 1) := by decide +kernel
theorem dX12_costOf_61 : decode cX12_costOf 61 = .ok (.iaload, 1) := by decide +kernel
theorem dX12_costOf_62 : decode cX12_costOf 62 = .ok (.imul, 1) := by decide +kernel
theorem dX12_costOf_63 : decode cX12_costOf 63 = .ok (.iconst 1, 1) := by decide +kernel
theorem dX12_costOf_64 : decode cX12_costOf 64 = .ok (.iadd, 1) := by decide +kernel
theorem dX12_costOf_65 : decode cX12_costOf 65 = .ok (.ireturn, 1) := by decide +kernel
theorem dX12_costOf_66 : decode cX12_costOf 66 = .ok (.aload_n 0, 1) := by decide +kernel
theorem dX12_costOf_67 : decode cX12_costOf 67 = .ok (.getfield 36, 3) := by decide +kernel
theorem dX12_costOf_70 : decode cX12_costOf 70 = .ok (.iload_n 1, 1) := by decide +kernel
theorem dX12_costOf_71 : decode cX12_costOf 71 = .ok (.iaload, 1) := by decide +kernel
theorem dX12_costOf_72 : decode cX12_costOf 72 = .ok (.ireturn, 1) := by decide +kernel
set_option maxRecDepth 20000 in
theorem ggX12_cost_X12_isShelf : GoodIn wsX12_cost wsX12_isShelf := goodIn_r _ [4, 5, 6, 3, 7] rfl gwX12_isShelf
set_option maxRecDepth 20000 in
theorem gX12_cost_X12_isShelf : GoodIn wsX12_cost (va_wsS RX12 163 yX12_isShelf wsX12_isShelf) := goodIn_app (goodIn_r _ [1, 2, 3] rfl (by decide +kernel)) ggX12_cost_X12_isShelf
set_option maxRecDepth 20000 in
theorem ggX12_cost_X12_noSort : GoodIn wsX12_cost wsX12_noSort := goodIn_r _ [11, 12, 19, 20, 21, 22, 23, 24, 25, 26, 27, 28, 29, 30, 31, 32, 33, 34, 35, 36, 37, 38, 39, 40] rfl gwX12_noSort
set_option maxRecDepth 20000 in
theorem gX12_cost_X12_noSort : GoodIn wsX12_cost (wsV RX12 179 RX12 yX12_noSort wsX12_noSort) := goodIn_app (goodIn_r _ [8, 9, 10, 3] rfl (by decide +kernel)) ggX12_cost_X12_noSort
set_option maxRecDepth 20000 in
theorem gwX12_costOf : wsX12_costOf.all goodWord = true := by decide +kernel
set_option maxRecDepth 20000 in
theorem ggX12_cost_X12_costOf : GoodIn wsX12_cost wsX12_costOf := goodIn_r _ [16, 17, 18, 19, 20, 21, 22, 23, 24, 25, 26, 27, 28, 29, 30, 31, 32, 33, 34, 35, 36, 37, 38, 39, 40] rfl gwX12_costOf
set_option maxRecDepth 20000 in
theorem gX12_cost_X12_costOf : GoodIn wsX12_cost (wsV RX12 277 RX12 yX12_costOf wsX12_costOf) := goodIn_app (goodIn_r _ [13, 14, 15, 3] rfl (by decide +kernel)) ggX12_cost_X12_costOf
theorem dX12_cost_0 : decode cX12_cost 0 = .ok (.iload_n 1, 1) := by decide +kernel
theorem dX12_cost_1 : decode cX12_cost 1 = .ok (.invokestatic 163, 3) := by decide +kernel
theorem dX12_cost_4 : decode cX12_cost 4 = .ok (.ifCond .ne 5, 3) := by decide +kernel
theorem dX12_cost_7 : decode cX12_cost 7 = .ok (.iconst (-1), 1) := by decide +kernel
theorem dX12_cost_8 : decode cX12_cost 8 = .ok (.ireturn, 1) := by decide +kernel
theorem dX12_cost_9 : decode cX12_cost 9 = .ok (.aload_n 0, 1) := by decide +kernel
theorem dX12_cost_10 : decode cX12_cost 10 = .ok (.iload_n 1, 1) := by decide +kernel
theorem dX12_cost_11 : decode cX12_cost 11 = .ok (.invokevirtual 179, 3) := by decide +kernel
theorem dX12_cost_14 : decode cX12_cost 14 = .ok (.istore_n 2, 1) := by decide +kernel
theorem dX12_cost_15 : decode cX12_cost 15 = .ok (.iload_n 2, 1) := by decide +kernel
theorem dX12_cost_16 : decode cX12_cost 16 = .ok (.ifCond .ge 7, 3) := by decide +kernel
theorem dX12_cost_19 : decode cX12_cost 19 = .ok (.iload_n 2, 1) := by decide +kernel
theorem dX12_cost_20 : decode cX12_cost 20 = .ok (.goto 8, 3) := by decide +kernel
theorem dX12_cost_23 : decode cX12_cost 23 = .ok (.aload_n 0, 1) := by decide +kernel
theorem dX12_cost_24 : decode cX12_cost 24 = .ok (.iload_n 1, 1) := by decide +kernel
theorem dX12_cost_25 : decode cX12_cost 25 = .ok (.invokevirtual 277, 3) := by decide +kernel
theorem dX12_cost_28 : decode cX12_cost 28 = .ok (.ireturn, 1) := by decide +kernel
set_option maxRecDepth 20000 in
theorem ggX12_toss_X12_isShelf : GoodIn wsX12_toss wsX12_isShelf := goodIn_r _ [6, 7, 8, 5, 9] rfl gwX12_isShelf
set_option maxRecDepth 20000 in
theorem gX12_toss_X12_isShelf : GoodIn wsX12_toss (va_wsS RX12 163 yX12_isShelf wsX12_isShelf) := goodIn_app (goodIn_r _ [3, 4, 5] rfl (by decide +kernel)) ggX12_toss_X12_isShelf
set_option maxRecDepth 20000 in
theorem ggX12_toss_X12_noSort : GoodIn wsX12_toss wsX12_noSort := goodIn_r _ [13, 14, 19, 20, 21, 22, 23, 24, 25, 26, 27, 28, 29, 30, 31, 32, 33, 34, 35, 36, 37, 38, 39, 40] rfl gwX12_noSort
set_option maxRecDepth 20000 in
theorem gX12_toss_X12_noSort : GoodIn wsX12_toss (wsV RX12 179 RX12 yX12_noSort wsX12_noSort) := goodIn_app (goodIn_r _ [10, 11, 12, 5] rfl (by decide +kernel)) ggX12_toss_X12_noSort
set_option maxRecDepth 20000 in
theorem ggX12_toss_X12_costOf : GoodIn wsX12_toss wsX12_costOf := goodIn_r _ [18, 1, 2, 19, 20, 21, 22, 23, 24, 25, 26, 27, 28, 29, 30, 31, 32, 33, 34, 35, 36, 37, 38, 39, 40] rfl gwX12_costOf
set_option maxRecDepth 20000 in
theorem gX12_toss_X12_costOf : GoodIn wsX12_toss (wsV RX12 277 RX12 yX12_costOf wsX12_costOf) := goodIn_app (goodIn_r _ [15, 16, 17, 5] rfl (by decide +kernel)) ggX12_toss_X12_costOf
theorem dX12_toss_0 : decode cX12_toss 0 = .ok (.iload_n 1, 1) := by decide +kernel
theorem dX12_toss_1 : decode cX12_toss 1 = .ok (.invokestatic 163, 3) := by decide +kernel
theorem dX12_toss_4 : decode cX12_toss 4 = .ok (.ifCond .ne 5, 3) := by decide +kernel
theorem dX12_toss_7 : decode cX12_toss 7 = .ok (.iconst (-1), 1) := by decide +kernel
theorem dX12_toss_8 : decode cX12_toss 8 = .ok (.ireturn, 1) := by decide +kernel
theorem dX12_toss_9 : decode cX12_toss 9 = .ok (.aload_n 0, 1) := by decide +kernel
theorem dX12_toss_10 : decode cX12_toss 10 = .ok (.iload_n 1, 1) := by decide +kernel
theorem dX12_toss_11 : decode cX12_toss 11 = .ok (.invokevirtual 179, 3) := by decide +kernel
theorem dX12_toss_14 : decode cX12_toss 14 = .ok (.istore_n 2, 1) := by decide +kernel
theorem dX12_toss_15 : decode cX12_toss 15 = .ok (.iload_n 2, 1) := by decide +kernel
theorem dX12_toss_16 : decode cX12_toss 16 = .ok (.ifCond .ge 5, 3) := by decide +kernel
theorem dX12_toss_19 : decode cX12_toss 19 = .ok (.iload_n 2, 1) := by decide +kernel
theorem dX12_toss_20 : decode cX12_toss 20 = .ok (.ireturn, 1) := by decide +kernel
theorem dX12_toss_21 : decode cX12_toss 21 = .ok (.aload_n 0, 1) := by decide +kernel
theorem dX12_toss_22 : decode cX12_toss 22 = .ok (.getfield 33, 3) := by decide +kernel
theorem dX12_toss_25 : decode cX12_toss 25 = .ok (.iload_n 1, 1) := by decide +kernel
theorem dX12_toss_26 : decode cX12_toss 26 = .ok (.iaload, 1) := by decide +kernel
theorem dX12_toss_27 : decode cX12_toss 27 = .ok (.iconst 2, 1) := by decide +kernel
theorem dX12_toss_28 : decode cX12_toss 28 = .ok (.if_icmp .eq 12, 3) := by decide +kernel
theorem dX12_toss_31 : decode cX12_toss 31 = .ok (.aload_n 0, 1) := by decide +kernel
theorem dX12_toss_32 : decode cX12_toss 32 = .ok (.getfield 36, 3) := by decide +kernel
theorem dX12_toss_35 : decode cX12_toss 35 = .ok (.iload_n 1, 1) := by decide +kernel
theorem dX12_toss_36 : decode cX12_toss 36 = .ok (.iaload, 1) := by decide +kernel
theorem dX12_toss_37 : decode cX12_toss 37 = .ok (.ifCond .ne 6, 3) := by decide +kernel
theorem dX12_toss_40 : decode cX12_toss 40 = .ok (.bipush (-15), 2) := by decide +kernel
theorem dX12_toss_42 : decode cX12_toss 42 = .ok (.ireturn, 1) := by decide +kernel
theorem dX12_toss_43 : decode cX12_toss 43 = .ok (.aload_n 0, 1) := by decide +kernel
theorem dX12_toss_44 : decode cX12_toss 44 = .ok (.getfield 33, 3) := by decide +kernel
theorem dX12_toss_47 : decode cX12_toss 47 = .ok (.iload_n 1, 1) := by decide +kernel
theorem dX12_toss_48 : decode cX12_toss 48 = .ok (.iaload, 1) := by decide +kernel
theorem dX12_toss_49 : decode cX12_toss 49 = .ok (.iconst 5, 1) := by decide +kernel
theorem dX12_toss_50 : decode cX12_toss 50 = .ok (.if_icmp .ne 15, 3) := by decide +kernel
theorem dX12_toss_53 : decode cX12_toss 53 = .ok (.sipush 200, 3) := by decide +kernel
theorem dX12_toss_56 : decode cX12_toss 56 = .ok (.aload_n 0, 1) := by decide +kernel
theorem dX12_toss_57 : decode cX12_toss 57 = .ok (.iload_n 1, 1) := by decide +kernel
theorem dX12_toss_58 : decode cX12_toss 58 = .ok (.invokevirtual 277, 3) := by decide +kernel
theorem dX12_toss_61 : decode cX12_toss 61 = .ok (.iadd, 1) := by decide +kernel
theorem dX12_toss_62 : decode cX12_toss 62 = .ok (.goto 30, 3) := by decide +kernel
theorem dX12_toss_65 : decode cX12_toss 65 = .ok (.aload_n 0, 1) := by decide +kernel
theorem dX12_toss_66 : decode cX12_toss 66 = .ok (.getfield 33, 3) := by decide +kernel
theorem dX12_toss_69 : decode cX12_toss 69 = .ok (.iload_n 1, 1) := by decide +kernel
theorem dX12_toss_70 : decode cX12_toss 70 = .ok (.iaload, 1) := by decide +kernel
theorem dX12_toss_71 : decode cX12_toss 71 = .ok (.ifCond .ne 12, 3) := by decide +kernel
theorem dX12_toss_74 : decode cX12_toss 74 = .ok (.aload_n 0, 1) := by decide +kernel
theorem dX12_toss_75 : decode cX12_toss 75 = .ok (.getfield 36, 3) := by decide +kernel
theorem dX12_toss_78 : decode cX12_toss 78 = .ok (.iload_n 1, 1) := by decide +kernel
theorem dX12_toss_79 : decode cX12_toss 79 = .ok (.iaload, 1) := by decide +kernel
theorem dX12_toss_80 : decode cX12_toss 80 = .ok (.goto 12, 3) := by decide +kernel
theorem dX12_toss_83 : decode cX12_toss 83 = .ok (.bipush 100, 2) := by decide +kernel
theorem dX12_toss_85 : decode cX12_toss 85 = .ok (.aload_n 0, 1) := by decide +kernel
theorem dX12_toss_86 : decode cX12_toss 86 = .ok (.getfield 36, 3) := by decide +kernel
theorem dX12_toss_89 : decode cX12_toss 89 = .ok (.iload_n 1, 1) := by decide +kernel
theorem dX12_toss_90 : decode cX12_toss 90 = .ok (.iaload, 1) := by decide +kernel
theorem dX12_toss_91 : decode cX12_toss 91 = .ok (.iadd, 1) := by decide +kernel
theorem dX12_toss_92 : decode cX12_toss 92 = .ok (.ireturn, 1) := by decide +kernel
theorem dJ6_bitCount_0f7a4_0 : decode cJ6_bitCount_0f7a4 0 = .ok (.iload_n 0, 1) := by decide +kernel
theorem dJ6_bitCount_0f7a4_1 : decode cJ6_bitCount_0f7a4 1 = .ok (.iload_n 0, 1) := by decide +kernel
theorem dJ6_bitCount_0f7a4_2 : decode cJ6_bitCount_0f7a4 2 = .ok (.iconst 1, 1) := by decide +kernel
theorem dJ6_bitCount_0f7a4_3 : decode cJ6_bitCount_0f7a4 3 = .ok (.iushr, 1) := by decide +kernel
theorem dJ6_bitCount_0f7a4_4 : decode cJ6_bitCount_0f7a4 4 = .ok (.ldc_w 265, 3) := by decide +kernel
theorem dJ6_bitCount_0f7a4_7 : decode cJ6_bitCount_0f7a4 7 = .ok (.iand, 1) := by decide +kernel
theorem dJ6_bitCount_0f7a4_8 : decode cJ6_bitCount_0f7a4 8 = .ok (.isub, 1) := by decide +kernel
theorem dJ6_bitCount_0f7a4_9 : decode cJ6_bitCount_0f7a4 9 = .ok (.istore_n 0, 1) := by decide +kernel
theorem dJ6_bitCount_0f7a4_10 : decode cJ6_bitCount_0f7a4 10 = .ok (.iload_n 0, 1) := by decide +kernel
theorem dJ6_bitCount_0f7a4_11 : decode cJ6_bitCount_0f7a4 11 = .ok (.ldc_w 266, 3) := by decide +kernel
theorem dJ6_bitCount_0f7a4_14 : decode cJ6_bitCount_0f7a4 14 = .ok (.iand, 1) := by decide +kernel
theorem dJ6_bitCount_0f7a4_15 : decode cJ6_bitCount_0f7a4 15 = .ok (.iload_n 0, 1) := by decide +kernel
theorem dJ6_bitCount_0f7a4_16 : decode cJ6_bitCount_0f7a4 16 = .ok (.iconst 2, 1) := by decide +kernel
theorem dJ6_bitCount_0f7a4_17 : decode cJ6_bitCount_0f7a4 17 = .ok (.iushr, 1) := by decide +kernel
theorem dJ6_bitCount_0f7a4_18 : decode cJ6_bitCount_0f7a4 18 = .ok (.ldc_w 266, 3) := by decide +kernel
theorem dJ6_bitCount_0f7a4_21 : decode cJ6_bitCount_0f7a4 21 = .ok (.iand, 1) := by decide +kernel
theorem dJ6_bitCount_0f7a4_22 : decode cJ6_bitCount_0f7a4 22 = .ok (.iadd, 1) := by decide +kernel
theorem dJ6_bitCount_0f7a4_23 : decode cJ6_bitCount_0f7a4 23 = .ok (.istore_n 0, 1) := by decide +kernel
theorem dJ6_bitCount_0f7a4_24 : decode cJ6_bitCount_0f7a4 24 = .ok (.iload_n 0, 1) := by decide +kernel
theorem dJ6_bitCount_0f7a4_25 : decode cJ6_bitCount_0f7a4 25 = .ok (.iload_n 0, 1) := by decide +kernel
theorem dJ6_bitCount_0f7a4_26 : decode cJ6_bitCount_0f7a4 26 = .ok (.iconst 4, 1) := by decide +kernel
theorem dJ6_bitCount_0f7a4_27 : decode cJ6_bitCount_0f7a4 27 = .ok (.iushr, 1) := by decide +kernel
theorem dJ6_bitCount_0f7a4_28 : decode cJ6_bitCount_0f7a4 28 = .ok (.iadd, 1) := by decide +kernel
theorem dJ6_bitCount_0f7a4_29 : decode cJ6_bitCount_0f7a4 29 = .ok (.ldc_w 267, 3) := by decide +kernel
theorem dJ6_bitCount_0f7a4_32 : decode cJ6_bitCount_0f7a4 32 = .ok (.iand, 1) := by decide +kernel
theorem dJ6_bitCount_0f7a4_33 : decode cJ6_bitCount_0f7a4 33 = .ok (.istore_n 0, 1) := by decide +kernel
theorem dJ6_bitCount_0f7a4_34 : decode cJ6_bitCount_0f7a4 34 = .ok (.iload_n 0, 1) := by decide +kernel
theorem dJ6_bitCount_0f7a4_35 : decode cJ6_bitCount_0f7a4 35 = .ok (.iload_n 0, 1) := by decide +kernel
theorem dJ6_bitCount_0f7a4_36 : decode cJ6_bitCount_0f7a4 36 = .ok (.bipush 8, 2) := by decide +kernel
theorem dJ6_bitCount_0f7a4_38 : decode cJ6_bitCount_0f7a4 38 = .ok (.iushr, 1) := by decide +kernel
theorem dJ6_bitCount_0f7a4_39 : decode cJ6_bitCount_0f7a4 39 = .ok (.iadd, 1) := by decide +kernel
theorem dJ6_bitCount_0f7a4_40 : decode cJ6_bitCount_0f7a4 40 = .ok (.istore_n 0, 1) := by decide +kernel
theorem dJ6_bitCount_0f7a4_41 : decode cJ6_bitCount_0f7a4 41 = .ok (.iload_n 0, 1) := by decide +kernel
theorem dJ6_bitCount_0f7a4_42 : decode cJ6_bitCount_0f7a4 42 = .ok (.iload_n 0, 1) := by decide +kernel
theorem dJ6_bitCount_0f7a4_43 : decode cJ6_bitCount_0f7a4 43 = .ok (.bipush 16, 2) := by decide +kernel
theorem dJ6_bitCount_0f7a4_45 : decode cJ6_bitCount_0f7a4 45 = .ok (.iushr, 1) := by decide +kernel
theorem dJ6_bitCount_0f7a4_46 : decode cJ6_bitCount_0f7a4 46 = .ok (.iadd, 1) := by decide +kernel
theorem dJ6_bitCount_0f7a4_47 : decode cJ6_bitCount_0f7a4 47 = .ok (.istore_n 0, 1) := by decide +kernel
theorem dJ6_bitCount_0f7a4_48 : decode cJ6_bitCount_0f7a4 48 = .ok (.iload_n 0, 1) := by decide +kernel
theorem dJ6_bitCount_0f7a4_49 : decode cJ6_bitCount_0f7a4 49 = .ok (.bipush 63, 2) := by decide +kernel
theorem dJ6_bitCount_0f7a4_51 : decode cJ6_bitCount_0f7a4 51 = .ok (.iand, 1) := by decide +kernel
theorem dJ6_bitCount_0f7a4_52 : decode cJ6_bitCount_0f7a4 52 = .ok (.ireturn, 1) := by decide +kernel
theorem dJ9_abs_0f7a4_0 : decode cJ9_abs_0f7a4 0 = .ok (.iload_n 0, 1) := by decide +kernel
theorem dJ9_abs_0f7a4_1 : decode cJ9_abs_0f7a4 1 = .ok (.ifCond .ge 8, 3) := by decide +kernel
theorem dJ9_abs_0f7a4_4 : decode cJ9_abs_0f7a4 4 = .ok (.iload_n 0, 1) := by decide +kernel
theorem dJ9_abs_0f7a4_5 : decode cJ9_abs_0f7a4 5 = .ok (.ineg, 1) := by decide +kernel
theorem dJ9_abs_0f7a4_6 : decode cJ9_abs_0f7a4 6 = .ok (.goto 4, 3) := by decide +kernel
theorem dJ9_abs_0f7a4_9 : decode cJ9_abs_0f7a4 9 = .ok (.iload_n 0, 1) := by decide +kernel
theorem dJ9_abs_0f7a4_10 : decode cJ9_abs_0f7a4 10 = .ok (.ireturn, 1) := by decide +kernel
theorem dJ9_max_7cf53_0 : decode cJ9_max_7cf53 0 = .ok (.iload_n 0, 1) := by decide +kernel
theorem dJ9_max_7cf53_1 : decode cJ9_max_7cf53 1 = .ok (.iload_n 1, 1) := by decide +kernel
theorem dJ9_max_7cf53_2 : decode cJ9_max_7cf53 2 = .ok (.if_icmp .lt 7, 3) := by decide +kernel
theorem dJ9_max_7cf53_5 : decode cJ9_max_7cf53 5 = .ok (.iload_n 0, 1) := by decide +kernel
theorem dJ9_max_7cf53_6 : decode cJ9_max_7cf53 6 = .ok (.goto 4, 3) := by decide +kernel
theorem dJ9_max_7cf53_9 : decode cJ9_max_7cf53 9 = .ok (.iload_n 1, 1) := by decide +kernel
theorem dJ9_max_7cf53_10 : decode cJ9_max_7cf53 10 = .ok (.ireturn, 1) := by decide +kernel
theorem dJ9_min_7cf53_0 : decode cJ9_min_7cf53 0 = .ok (.iload_n 0, 1) := by decide +kernel
theorem dJ9_min_7cf53_1 : decode cJ9_min_7cf53 1 = .ok (.iload_n 1, 1) := by decide +kernel
theorem dJ9_min_7cf53_2 : decode cJ9_min_7cf53 2 = .ok (.if_icmp .gt 7, 3) := by decide +kernel
theorem dJ9_min_7cf53_5 : decode cJ9_min_7cf53 5 = .ok (.iload_n 0, 1) := by decide +kernel
theorem dJ9_min_7cf53_6 : decode cJ9_min_7cf53 6 = .ok (.goto 4, 3) := by decide +kernel
theorem dJ9_min_7cf53_9 : decode cJ9_min_7cf53 9 = .ok (.iload_n 1, 1) := by decide +kernel
theorem dJ9_min_7cf53_10 : decode cJ9_min_7cf53 10 = .ok (.ireturn, 1) := by decide +kernel
theorem dJ7_fill_53178_0 : decode cJ7_fill_53178 0 = .ok (.iconst 0, 1) := by decide +kernel
theorem dJ7_fill_53178_1 : decode cJ7_fill_53178 1 = .ok (.istore_n 2, 1) := by decide +kernel
theorem dJ7_fill_53178_2 : decode cJ7_fill_53178 2 = .ok (.aload_n 0, 1) := by decide +kernel
theorem dJ7_fill_53178_3 : decode cJ7_fill_53178 3 = .ok (.arraylength, 1) := by decide +kernel
theorem dJ7_fill_53178_4 : decode cJ7_fill_53178 4 = .ok (.istore_n 3, 1) := by decide +kernel
theorem dJ7_fill_53178_5 : decode cJ7_fill_53178 5 = .ok (.iload_n 2, 1) := by decide +kernel
theorem dJ7_fill_53178_6 : decode cJ7_fill_53178 6 = .ok (.iload_n 3, 1) := by decide +kernel
theorem dJ7_fill_53178_7 : decode cJ7_fill_53178 7 = .ok (.if_icmp .ge 13, 3) := by decide +kernel
theorem dJ7_fill_53178_10 : decode cJ7_fill_53178 10 = .ok (.aload_n 0, 1) := by decide +kernel
theorem dJ7_fill_53178_11 : decode cJ7_fill_53178 11 = .ok (.iload_n 2, 1) := by decide +kernel
theorem dJ7_fill_53178_12 : decode cJ7_fill_53178 12 = .ok (.iload_n 1, 1) := by decide +kernel
theorem dJ7_fill_53178_13 : decode cJ7_fill_53178 13 = .ok (.iastore, 1) := by decide +kernel
theorem dJ7_fill_53178_14 : decode cJ7_fill_53178 14 = .ok (.iinc 2 1, 3) := by decide +kernel
theorem dJ7_fill_53178_17 : decode cJ7_fill_53178 17 = .ok (.goto (-12), 3) := by decide +kernel
theorem dJ7_fill_53178_20 : decode cJ7_fill_53178 20 = .ok (.return_, 1) := by decide +kernel
abbrev vwCl : List vw_C := [(RX0, TX0, 2), (RX1, TX1, 2), (RX2, TX2, 2), (RX3, TX3, 5), (RX4, TX4, 2), (RX5, TX5, 15), (RX6, TX6, 6), (RX7, TX7, 2), (RX9, TX9, 2), (RX10, TX10, 4), (RX11, TX11, 11), (RX12, TX12, 22)]
