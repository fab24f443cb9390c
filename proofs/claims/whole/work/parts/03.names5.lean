theorem dX11_power_23 : decode cX11_power 23 = .ok (.lreturn, 1) := by decide +kernel
theorem dX11_inLeastTerms_0 : decode cX11_inLeastTerms 0 = .ok (.lload_n 2, 1) := by decide +kernel
theorem dX11_inLeastTerms_1 : decode cX11_inLeastTerms 1 = .ok (.lstore 5, 2) := by decide +kernel
theorem dX11_inLeastTerms_3 : decode cX11_inLeastTerms 3 = .ok (.lload_n 0, 1) := by decide +kernel
theorem dX11_inLeastTerms_4 : decode cX11_inLeastTerms 4 = .ok (.lstore 7, 2) := by decide +kernel
theorem dX11_inLeastTerms_6 : decode cX11_inLeastTerms 6 = .ok (.iconst 0, 1) := by decide +kernel
theorem dX11_inLeastTerms_7 : decode cX11_inLeastTerms 7 = .ok (.istore 9, 2) := by decide +kernel
theorem dX11_inLeastTerms_9 : decode cX11_inLeastTerms 9 = .ok (.iload 9, 2) := by decide +kernel
theorem dX11_inLeastTerms_11 : decode cX11_inLeastTerms 11 = .ok (.bipush 100, 2) := by decide +kernel
theorem dX11_inLeastTerms_13 : decode cX11_inLeastTerms 13 = .ok (.if_icmp .ge 31, 3) := by decide +kernel
theorem dX11_inLeastTerms_16 : decode cX11_inLeastTerms 16 = .ok (.lload 7, 2) := by decide +kernel
theorem dX11_inLeastTerms_18 : decode cX11_inLeastTerms 18 = .ok (.lconst 0, 1) := by decide +kernel
theorem dX11_inLeastTerms_19 : decode cX11_inLeastTerms 19 = .ok (.lcmp, 1) := by decide +kernel
theorem dX11_inLeastTerms_20 : decode cX11_inLeastTerms 20 = .ok (.ifCond .eq 24, 3) := by decide +kernel
theorem dX11_inLeastTerms_23 : decode cX11_inLeastTerms 23 = .ok (.lload 5, 2) := by decide +kernel
theorem dX11_inLeastTerms_25 : decode cX11_inLeastTerms 25 = .ok (.lload 7, 2) := by decide +kernel
theorem dX11_inLeastTerms_27 : decode cX11_inLeastTerms 27 = .ok (.lrem, 1) := by decide +kernel
theorem dX11_inLeastTerms_28 : decode cX11_inLeastTerms 28 = .ok (.lstore 10, 2) := by decide +kernel
theorem dX11_inLeastTerms_30 : decode cX11_inLeastTerms 30 = .ok (.lload 7, 2) := by decide +kernel
theorem dX11_inLeastTerms_32 : decode cX11_inLeastTerms 32 = .ok (.lstore 5, 2) := by decide +kernel
theorem dX11_inLeastTerms_34 : decode cX11_inLeastTerms 34 = .ok (.lload 10, 2) := by decide +kernel
theorem dX11_inLeastTerms_36 : decode cX11_inLeastTerms 36 = .ok (.lstore 7, 2) := by decide +kernel
theorem dX11_inLeastTerms_38 : decode cX11_inLeastTerms 38 = .ok (.iinc 9 1, 3) := by decide +kernel
theorem dX11_inLeastTerms_41 : decode cX11_inLeastTerms 41 = .ok (.goto (-32), 3) := by decide +kernel
theorem dX11_inLeastTerms_44 : decode cX11_inLeastTerms 44 = .ok (.iload 4, 2) := by decide +kernel
theorem dX11_inLeastTerms_46 : decode cX11_inLeastTerms 46 = .ok (.ifCond .ne 7, 3) := by decide +kernel
theorem dX11_inLeastTerms_49 : decode cX11_inLeastTerms 49 = .ok (.lload_n 0, 1) := by decide +kernel
theorem dX11_inLeastTerms_50 : decode cX11_inLeastTerms 50 = .ok (.goto 4, 3) := by decide +kernel
theorem dX11_inLeastTerms_53 : decode cX11_inLeastTerms 53 = .ok (.lload_n 2, 1) := by decide +kernel
theorem dX11_inLeastTerms_54 : decode cX11_inLeastTerms 54 = .ok (.lstore 9, 2) := by decide +kernel
theorem dX11_inLeastTerms_56 : decode cX11_inLeastTerms 56 = .ok (.lload 5, 2) := by decide +kernel
theorem dX11_inLeastTerms_58 : decode cX11_inLeastTerms 58 = .ok (.lconst 0, 1) := by decide +kernel
theorem dX11_inLeastTerms_59 : decode cX11_inLeastTerms 59 = .ok (.lcmp, 1) := by decide +kernel
theorem dX11_inLeastTerms_60 : decode cX11_inLeastTerms 60 = .ok (.ifCond .ne 8, 3) := by decide +kernel
theorem dX11_inLeastTerms_63 : decode cX11_inLeastTerms 63 = .ok (.lload 9, 2) := by decide +kernel
theorem dX11_inLeastTerms_65 : decode cX11_inLeastTerms 65 = .ok (.goto 8, 3) := by decide +kernel
theorem dX11_inLeastTerms_68 : decode cX11_inLeastTerms 68 = .ok (.lload 9, 2) := by decide +kernel
theorem dX11_inLeastTerms_70 : decode cX11_inLeastTerms 70 = .ok (.lload 5, 2) := by decide +kernel
theorem dX11_inLeastTerms_72 : decode cX11_inLeastTerms 72 = .ok (.ldiv, 1) := by decide +kernel
theorem dX11_inLeastTerms_73 : decode cX11_inLeastTerms 73 = .ok (.lreturn, 1) := by decide +kernel
theorem dX11_nearestBits_0 : decode cX11_nearestBits 0 = .ok (.iload 5, 2) := by decide +kernel
theorem dX11_nearestBits_2 : decode cX11_nearestBits 2 = .ok (.istore 6, 2) := by decide +kernel
theorem dX11_nearestBits_4 : decode cX11_nearestBits 4 = .ok (.iconst 0, 1) := by decide +kernel
theorem dX11_nearestBits_5 : decode cX11_nearestBits 5 = .ok (.istore 7, 2) := by decide +kernel
theorem dX11_nearestBits_7 : decode cX11_nearestBits 7 = .ok (.iload 7, 2) := by decide +kernel
theorem dX11_nearestBits_9 : decode cX11_nearestBits 9 = .ok (.bipush 32, 2) := by decide +kernel
theorem dX11_nearestBits_11 : decode cX11_nearestBits 11 = .ok (.if_icmp .ge 28, 3) := by decide +kernel
theorem dX11_nearestBits_14 : decode cX11_nearestBits 14 = .ok (.lload_n 0, 1) := by decide +kernel
theorem dX11_nearestBits_15 : decode cX11_nearestBits 15 = .ok (.ldc2_w 405, 3) := by decide +kernel
theorem dX11_nearestBits_18 : decode cX11_nearestBits 18 = .ok (.lload_n 2, 1) := by decide +kernel
theorem dX11_nearestBits_19 : decode cX11_nearestBits 19 = .ok (.lmul, 1) := by decide +kernel
theorem dX11_nearestBits_20 : decode cX11_nearestBits 20 = .ok (.lcmp, 1) := by decide +kernel
theorem dX11_nearestBits_21 : decode cX11_nearestBits 21 = .ok (.ifCond .lt 18, 3) := by decide +kernel
theorem dX11_nearestBits_24 : decode cX11_nearestBits 24 = .ok (.lload_n 2, 1) := by decide +kernel
theorem dX11_nearestBits_25 : decode cX11_nearestBits 25 = .ok (.ldc2_w 405, 3) := by decide +kernel
theorem dX11_nearestBits_28 : decode cX11_nearestBits 28 = .ok (.lmul, 1) := by decide +kernel
theorem dX11_nearestBits_29 : decode cX11_nearestBits 29 = .ok (.lstore_n 2, 1) := by decide +kernel
theorem dX11_nearestBits_30 : decode cX11_nearestBits 30 = .ok (.iinc 6 1, 3) := by decide +kernel
theorem dX11_nearestBits_33 : decode cX11_nearestBits 33 = .ok (.iinc 7 1, 3) := by decide +kernel
theorem dX11_nearestBits_36 : decode cX11_nearestBits 36 = .ok (.goto (-29), 3) := by decide +kernel
theorem dX11_nearestBits_39 : decode cX11_nearestBits 39 = .ok (.iconst 0, 1) := by decide +kernel
theorem dX11_nearestBits_40 : decode cX11_nearestBits 40 = .ok (.istore 7, 2) := by decide +kernel
theorem dX11_nearestBits_42 : decode cX11_nearestBits 42 = .ok (.iload 7, 2) := by decide +kernel
theorem dX11_nearestBits_44 : decode cX11_nearestBits 44 = .ok (.bipush 32, 2) := by decide +kernel
theorem dX11_nearestBits_46 : decode cX11_nearestBits 46 = .ok (.if_icmp .ge 24, 3) := by decide +kernel
theorem dX11_nearestBits_49 : decode cX11_nearestBits 49 = .ok (.lload_n 0, 1) := by decide +kernel
theorem dX11_nearestBits_50 : decode cX11_nearestBits 50 = .ok (.lload_n 2, 1) := by decide +kernel
theorem dX11_nearestBits_51 : decode cX11_nearestBits 51 = .ok (.lcmp, 1) := by decide +kernel
theorem dX11_nearestBits_52 : decode cX11_nearestBits 52 = .ok (.ifCond .ge 18, 3) := by decide +kernel
theorem dX11_nearestBits_55 : decode cX11_nearestBits 55 = .ok (.lload_n 0, 1) := by decide +kernel
theorem dX11_nearestBits_56 : decode cX11_nearestBits 56 = .ok (.ldc2_w 405, 3) := by decide +kernel
theorem dX11_nearestBits_59 : decode cX11_nearestBits 59 = .ok (.lmul, 1) := by decide +kernel
theorem dX11_nearestBits_60 : decode cX11_nearestBits 60 = .ok (.lstore_n 0, 1) := by decide +kernel
theorem dX11_nearestBits_61 : decode cX11_nearestBits 61 = .ok (.iinc 6 (-1), 3) := by decide +kernel
theorem dX11_nearestBits_64 : decode cX11_nearestBits 64 = .ok (.iinc 7 1, 3) := by decide +kernel
theorem dX11_nearestBits_67 : decode cX11_nearestBits 67 = .ok (.goto (-25), 3) := by decide +kernel
theorem dX11_nearestBits_70 : decode cX11_nearestBits 70 = .ok (.lconst 0, 1) := by decide +kernel
theorem dX11_nearestBits_71 : decode cX11_nearestBits 71 = .ok (.lstore 7, 2) := by decide +kernel
theorem dX11_nearestBits_73 : decode cX11_nearestBits 73 = .ok (.lload_n 0, 1) := by decide +kernel
theorem dX11_nearestBits_74 : decode cX11_nearestBits 74 = .ok (.lstore 9, 2) := by decide +kernel
theorem dX11_nearestBits_76 : decode cX11_nearestBits 76 = .ok (.iconst 0, 1) := by decide +kernel
theorem dX11_nearestBits_77 : decode cX11_nearestBits 77 = .ok (.istore 11, 2) := by decide +kernel
theorem dX11_nearestBits_79 : decode cX11_nearestBits 79 = .ok (.iload 11, 2) := by decide +kernel
theorem dX11_nearestBits_81 : decode cX11_nearestBits 81 = .ok (.iload 4, 2) := by decide +kernel
theorem dX11_nearestBits_83 : decode cX11_nearestBits 83 = .ok (.if_icmp .gt 44, 3) := by decide +kernel
theorem dX11_nearestBits_86 : decode cX11_nearestBits 86 = .ok (.lload 7, 2) := by decide +kernel
theorem dX11_nearestBits_88 : decode cX11_nearestBits 88 = .ok (.ldc2_w 405, 3) := by decide +kernel
theorem dX11_nearestBits_91 : decode cX11_nearestBits 91 = .ok (.lmul, 1) := by decide +kernel
theorem dX11_nearestBits_92 : decode cX11_nearestBits 92 = .ok (.lstore 7, 2) := by decide +kernel
theorem dX11_nearestBits_94 : decode cX11_nearestBits 94 = .ok (.lload 9, 2) := by decide +kernel
theorem dX11_nearestBits_96 : decode cX11_nearestBits 96 = .ok (.lload_n 2, 1) := by decide +kernel
theorem dX11_nearestBits_97 : decode cX11_nearestBits 97 = .ok (.lcmp, 1) := by decide +kernel
theorem dX11_nearestBits_98 : decode cX11_nearestBits 98 = .ok (.ifCond .lt 15, 3) := by decide +kernel
theorem dX11_nearestBits_101 : decode cX11_nearestBits 101 = .ok (.lload 7, 2) := by decide +kernel
theorem dX11_nearestBits_103 : decode cX11_nearestBits 103 = .ok (.lconst 1, 1) := by decide +kernel
theorem dX11_nearestBits_104 : decode cX11_nearestBits 104 = .ok (.ladd, 1) := by decide +kernel
theorem dX11_nearestBits_105 : decode cX11_nearestBits 105 = .ok (.lstore 7, 2) := by decide +kernel
theorem dX11_nearestBits_107 : decode cX11_nearestBits 107 = .ok (.lload 9, 2) := by decide +kernel
theorem dX11_nearestBits_109 : decode cX11_nearestBits 109 = .ok (.lload_n 2, 1) := by decide +kernel
theorem dX11_nearestBits_110 : decode cX11_nearestBits 110 = .ok (.lsub, 1) := by decide +kernel
theorem dX11_nearestBits_111 : decode cX11_nearestBits 111 = .ok (.lstore 9, 2) := by decide +kernel
theorem dX11_nearestBits_113 : decode cX11_nearestBits 113 = .ok (.lload 9, 2) := by decide +kernel
theorem dX11_nearestBits_115 : decode cX11_nearestBits 115 = .ok (.ldc2_w 405, 3) := by decide +kernel
theorem dX11_nearestBits_118 : decode cX11_nearestBits 118 = .ok (.lmul, 1) := by decide +kernel
theorem dX11_nearestBits_119 : decode cX11_nearestBits 119 = .ok (.lstore 9, 2) := by decide +kernel
theorem dX11_nearestBits_121 : decode cX11_nearestBits 121 = .ok (.iinc 11 1, 3) := by decide +kernel
theorem dX11_nearestBits_124 : decode cX11_nearestBits 124 = .ok (.goto (-45), 3) := by decide +kernel
theorem dX11_nearestBits_127 : decode cX11_nearestBits 127 = .ok (.lload 9, 2) := by decide +kernel
theorem dX11_nearestBits_129 : decode cX11_nearestBits 129 = .ok (.lload_n 2, 1) := by decide +kernel
theorem dX11_nearestBits_130 : decode cX11_nearestBits 130 = .ok (.lcmp, 1) := by decide +kernel
theorem dX11_nearestBits_131 : decode cX11_nearestBits 131 = .ok (.ifCond .gt 21, 3) := by decide +kernel
theorem dX11_nearestBits_134 : decode cX11_nearestBits 134 = .ok (.lload 9, 2) := by decide +kernel
theorem dX11_nearestBits_136 : decode cX11_nearestBits 136 = .ok (.lload_n 2, 1) := by decide +kernel
theorem dX11_nearestBits_137 : decode cX11_nearestBits 137 = .ok (.lcmp, 1) := by decide +kernel
theorem dX11_nearestBits_138 : decode cX11_nearestBits 138 = .ok (.ifCond .ne 20, 3) := by decide +kernel
theorem dX11_nearestBits_141 : decode cX11_nearestBits 141 = .ok (.lload 7, 2) := by decide +kernel
theorem dX11_nearestBits_143 : decode cX11_nearestBits 143 = .ok (.ldc2_w 405, 3) := by decide +kernel
theorem dX11_nearestBits_146 : decode cX11_nearestBits 146 = .ok (.lrem, 1) := by decide +kernel
theorem dX11_nearestBits_147 : decode cX11_nearestBits 147 = .ok (.lconst 1, 1) := by decide +kernel
theorem dX11_nearestBits_148 : decode cX11_nearestBits 148 = .ok (.lcmp, 1) := by decide +kernel
theorem dX11_nearestBits_149 : decode cX11_nearestBits 149 = .ok (.ifCond .ne 9, 3) := by decide +kernel
theorem dX11_nearestBits_152 : decode cX11_nearestBits 152 = .ok (.lload 7, 2) := by decide +kernel
theorem dX11_nearestBits_154 : decode cX11_nearestBits 154 = .ok (.lconst 1, 1) := by decide +kernel
theorem dX11_nearestBits_155 : decode cX11_nearestBits 155 = .ok (.ladd, 1) := by decide +kernel
theorem dX11_nearestBits_156 : decode cX11_nearestBits 156 = .ok (.lstore 7, 2) := by decide +kernel
theorem dX11_nearestBits_158 : decode cX11_nearestBits 158 = .ok (.iload 6, 2) := by decide +kernel
theorem dX11_nearestBits_160 : decode cX11_nearestBits 160 = .ok (.iconst 1, 1) := by decide +kernel
theorem dX11_nearestBits_161 : decode cX11_nearestBits 161 = .ok (.isub, 1) := by decide +kernel
theorem dX11_nearestBits_162 : decode cX11_nearestBits 162 = .ok (.i2l, 1) := by decide +kernel
theorem dX11_nearestBits_163 : decode cX11_nearestBits 163 = .ok (.iload 4, 2) := by decide +kernel
theorem dX11_nearestBits_165 : decode cX11_nearestBits 165 = .ok (.lshl, 1) := by decide +kernel
theorem dX11_nearestBits_166 : decode cX11_nearestBits 166 = .ok (.lload 7, 2) := by decide +kernel
theorem dX11_nearestBits_168 : decode cX11_nearestBits 168 = .ok (.ladd, 1) := by decide +kernel
theorem dX11_nearestBits_169 : decode cX11_nearestBits 169 = .ok (.lreturn, 1) := by decide +kernel
theorem dX12_init_0 : decode cX12_init 0 = .ok (.aload_n 0, 1) := by decide +kernel
theorem dX12_init_1 : decode cX12_init 1 = .ok (.invokespecial 3, 3) := by decide +kernel
theorem dX12_init_4 : decode cX12_init 4 = .ok (.aload_n 0, 1) := by decide +kernel
theorem dX12_init_5 : decode cX12_init 5 = .ok (.bipush 72, 2) := by decide +kernel
theorem dX12_init_7 : decode cX12_init 7 = .ok (.newarray .int, 2) := by decide +kernel
theorem dX12_init_9 : decode cX12_init 9 = .ok (.putfield 9, 3) := by decide +kernel
theorem dX12_init_12 : decode cX12_init 12 = .ok (.aload_n 0, 1) := by decide +kernel
theorem dX12_init_13 : decode cX12_init 13 = .ok (.bipush 24, 2) := by decide +kernel
theorem dX12_init_15 : decode cX12_init 15 = .ok (.newarray .int, 2) := by decide +kernel
theorem dX12_init_17 : decode cX12_init 17 = .ok (.putfield 15, 3) := by decide +kernel
theorem dX12_init_20 : decode cX12_init 20 = .ok (.aload_n 0, 1) := by decide +kernel
theorem dX12_init_21 : decode cX12_init 21 = .ok (.bipush 24, 2) := by decide +kernel
theorem dX12_init_23 : decode cX12_init 23 = .ok (.newarray .int, 2) := by decide +kernel
theorem dX12_init_25 : decode cX12_init 25 = .ok (.putfield 18, 3) := by decide +kernel
theorem dX12_init_28 : decode cX12_init 28 = .ok (.aload_n 0, 1) := by decide +kernel
theorem dX12_init_29 : decode cX12_init 29 = .ok (.bipush 6, 2) := by decide +kernel
theorem dX12_init_31 : decode cX12_init 31 = .ok (.newarray .int, 2) := by decide +kernel
theorem dX12_init_33 : decode cX12_init 33 = .ok (.putfield 21, 3) := by decide +kernel
theorem dX12_init_36 : decode cX12_init 36 = .ok (.aload_n 0, 1) := by decide +kernel
theorem dX12_init_37 : decode cX12_init 37 = .ok (.bipush 122, 2) := by decide +kernel
theorem dX12_init_39 : decode cX12_init 39 = .ok (.newarray .int, 2) := by decide +kernel
theorem dX12_init_41 : decode cX12_init 41 = .ok (.putfield 24, 3) := by decide +kernel
theorem dX12_init_44 : decode cX12_init 44 = .ok (.aload_n 0, 1) := by decide +kernel
theorem dX12_init_45 : decode cX12_init 45 = .ok (.bipush 122, 2) := by decide +kernel
theorem dX12_init_47 : decode cX12_init 47 = .ok (.newarray .int, 2) := by decide +kernel
theorem dX12_init_49 : decode cX12_init 49 = .ok (.putfield 27, 3) := by decide +kernel
theorem dX12_init_52 : decode cX12_init 52 = .ok (.aload_n 0, 1) := by decide +kernel
theorem dX12_init_53 : decode cX12_init 53 = .ok (.bipush 8, 2) := by decide +kernel
theorem dX12_init_55 : decode cX12_init 55 = .ok (.newarray .int, 2) := by decide +kernel
theorem dX12_init_57 : decode cX12_init 57 = .ok (.putfield 30, 3) := by decide +kernel
theorem dX12_init_60 : decode cX12_init 60 = .ok (.aload_n 0, 1) := by decide +kernel
theorem dX12_init_61 : decode cX12_init 61 = .ok (.bipush 8, 2) := by decide +kernel
theorem dX12_init_63 : decode cX12_init 63 = .ok (.newarray .int, 2) := by decide +kernel
theorem dX12_init_65 : decode cX12_init 65 = .ok (.putfield 33, 3) := by decide +kernel
theorem dX12_init_68 : decode cX12_init 68 = .ok (.aload_n 0, 1) := by decide +kernel
theorem dX12_init_69 : decode cX12_init 69 = .ok (.bipush 8, 2) := by decide +kernel
theorem dX12_init_71 : decode cX12_init 71 = .ok (.newarray .int, 2) := by decide +kernel
theorem dX12_init_73 : decode cX12_init 73 = .ok (.putfield 36, 3) := by decide +kernel
theorem dX12_init_76 : decode cX12_init 76 = .ok (.aload_n 0, 1) := by decide +kernel
theorem dX12_init_77 : decode cX12_init 77 = .ok (.sipush 800, 3) := by decide +kernel
theorem dX12_init_80 : decode cX12_init 80 = .ok (.newarray .int, 2) := by decide +kernel
theorem dX12_init_82 : decode cX12_init 82 = .ok (.putfield 39, 3) := by decide +kernel
theorem dX12_init_85 : decode cX12_init 85 = .ok (.aload_n 0, 1) := by decide +kernel
theorem dX12_init_86 : decode cX12_init 86 = .ok (.iconst 4, 1) := by decide +kernel
theorem dX12_init_87 : decode cX12_init 87 = .ok (.newarray .int, 2) := by decide +kernel
theorem dX12_init_89 : decode cX12_init 89 = .ok (.putfield 42, 3) := by decide +kernel
theorem dX12_init_92 : decode cX12_init 92 = .ok (.aload_n 0, 1) := by decide +kernel
theorem dX12_init_93 : decode cX12_init 93 = .ok (.iconst 4, 1) := by decide +kernel
theorem dX12_init_94 : decode cX12_init 94 = .ok (.newarray .int, 2) := by decide +kernel
theorem dX12_init_96 : decode cX12_init 96 = .ok (.putfield 45, 3) := by decide +kernel
theorem dX12_init_99 : decode cX12_init 99 = .ok (.aload_n 0, 1) := by decide +kernel
theorem dX12_init_100 : decode cX12_init 100 = .ok (.bipush 80, 2) := by decide +kernel
theorem dX12_init_102 : decode cX12_init 102 = .ok (.newarray .int, 2) := by decide +kernel
theorem dX12_init_104 : decode cX12_init 104 = .ok (.putfield 48, 3) := by decide +kernel
theorem dX12_init_107 : decode cX12_init 107 = .ok (.iconst 0, 1) := by decide +kernel
theorem dX12_init_108 : decode cX12_init 108 = .ok (.istore_n 1, 1) := by decide +kernel
theorem dX12_init_109 : decode cX12_init 109 = .ok (.iload_n 1, 1) := by decide +kernel
theorem dX12_init_110 : decode cX12_init 110 = .ok (.iconst 4, 1) := by decide +kernel
theorem dX12_init_111 : decode cX12_init 111 = .ok (.if_icmp .ge 17, 3) := by decide +kernel
theorem dX12_init_114 : decode cX12_init 114 = .ok (.aload_n 0, 1) := by decide +kernel
theorem dX12_init_115 : decode cX12_init 115 = .ok (.getfield 42, 3) := by decide +kernel
theorem dX12_init_118 : decode cX12_init 118 = .ok (.iload_n 1, 1) := by decide +kernel
theorem dX12_init_119 : decode cX12_init 119 = .ok (.bipush (-4), 2) := by decide +kernel
theorem dX12_init_121 : decode cX12_init 121 = .ok (.iastore, 1) := by decide +kernel
theorem dX12_init_122 : decode cX12_init 122 = .ok (.iinc 1 1, 3) := by decide +kernel
theorem dX12_init_125 : decode cX12_init 125 = .ok (.goto (-16), 3) := by decide +kernel
theorem dX12_init_128 : decode cX12_init 128 = .ok (.return_, 1) := by decide +kernel
theorem dX12_within_0 : decode cX12_within 0 = .ok (.iload_n 0, 1) := by decide +kernel
theorem dX12_within_1 : decode cX12_within 1 = .ok (.iload_n 1, 1) := by decide +kernel
theorem dX12_within_2 : decode cX12_within 2 = .ok (.if_icmp .lt 12, 3) := by decide +kernel
theorem dX12_within_5 : decode cX12_within 5 = .ok (.iload_n 0, 1) := by decide +kernel
theorem dX12_within_6 : decode cX12_within 6 = .ok (.iload_n 2, 1) := by decide +kernel
theorem dX12_within_7 : decode cX12_within 7 = .ok (.if_icmp .gt 7, 3) := by decide +kernel
theorem dX12_within_10 : decode cX12_within 10 = .ok (.iconst 1, 1) := by decide +kernel
theorem dX12_within_11 : decode cX12_within 11 = .ok (.goto 4, 3) := by decide +kernel
theorem dX12_within_14 : decode cX12_within 14 = .ok (.iconst 0, 1) := by decide +kernel
theorem dX12_within_15 : decode cX12_within 15 = .ok (.ireturn, 1) := by decide +kernel
set_option maxRecDepth 20000 in
theorem gwX12_within : wsX12_within.all goodWord = true := by decide +kernel
set_option maxRecDepth 20000 in
theorem ggX12_isServer_X12_within : GoodIn wsX12_isServer wsX12_within := goodIn_r _ [5] rfl gwX12_within
set_option maxRecDepth 20000 in
theorem gX12_isServer_X12_within : GoodIn wsX12_isServer (va_wsS RX12 55 yX12_within wsX12_within) := goodIn_app (goodIn_r _ [2, 3, 4] rfl (by decide +kernel)) ggX12_isServer_X12_within
theorem dX12_isServer_0 : decode cX12_isServer 0 = .ok (.iload_n 1, 1) := by decide +kernel
theorem dX12_isServer_1 : decode cX12_isServer 1 = .ok (.iconst 0, 1) := by decide +kernel
theorem dX12_isServer_2 : decode cX12_isServer 2 = .ok (.aload_n 0, 1) := by decide +kernel
theorem dX12_isServer_3 : decode cX12_isServer 3 = .ok (.getfield 51, 3) := by decide +kernel
theorem dX12_isServer_6 : decode cX12_isServer 6 = .ok (.iconst 1, 1) := by decide +kernel
theorem dX12_isServer_7 : decode cX12_isServer 7 = .ok (.isub, 1) := by decide +kernel
theorem dX12_isServer_8 : decode cX12_isServer 8 = .ok (.invokestatic 55, 3) := by decide +kernel
theorem dX12_isServer_11 : decode cX12_isServer 11 = .ok (.ireturn, 1) := by decide +kernel
set_option maxRecDepth 20000 in
theorem ggX12_isShelf_X12_within : GoodIn wsX12_isShelf wsX12_within := goodIn_r _ [4] rfl gwX12_within
set_option maxRecDepth 20000 in
theorem gX12_isShelf_X12_within : GoodIn wsX12_isShelf (va_wsS RX12 55 yX12_within wsX12_within) := goodIn_app (goodIn_r _ [1, 2, 3] rfl (by decide +kernel)) ggX12_isShelf_X12_within
theorem dX12_isShelf_0 : decode cX12_isShelf 0 = .ok (.iload_n 0, 1) := by decide +kernel
theorem dX12_isShelf_1 : decode cX12_isShelf 1 = .ok (.iconst 0, 1) := by decide +kernel
theorem dX12_isShelf_2 : decode cX12_isShelf 2 = .ok (.bipush 7, 2) := by decide +kernel
theorem dX12_isShelf_4 : decode cX12_isShelf 4 = .ok (.invokestatic 55, 3) := by decide +kernel
theorem dX12_isShelf_7 : decode cX12_isShelf 7 = .ok (.ireturn, 1) := by decide +kernel
theorem dX12_noRow_0 : decode cX12_noRow 0 = .ok (.aload_n 0, 1) := by decide +kernel
theorem dX12_noRow_1 : decode cX12_noRow 1 = .ok (.getfield 30, 3) := by decide +kernel
theorem dX12_noRow_4 : decode cX12_noRow 4 = .ok (.iload_n 1, 1) := by decide +kernel
theorem dX12_noRow_5 : decode cX12_noRow 5 = .ok (.iaload, 1) := by decide +kernel
theorem dX12_noRow_6 : decode cX12_noRow 6 = .ok (.ifCond .ne 8, 3) := by decide +kernel
theorem dX12_noRow_9 : decode cX12_noRow 9 = .ok (.bipush (-11), 2) := by decide +kernel
theorem dX12_noRow_11 : decode cX12_noRow 11 = .ok (.goto 19, 3) := by decide +kernel
theorem dX12_noRow_14 : decode cX12_noRow 14 = .ok (.aload_n 0, 1) := by decide +kernel
theorem dX12_noRow_15 : decode cX12_noRow 15 = .ok (.getfield 30, 3) := by decide +kernel
theorem dX12_noRow_18 : decode cX12_noRow 18 = .ok (.iload_n 1, 1) := by decide +kernel
theorem dX12_noRow_19 : decode cX12_noRow 19 = .ok (.iaload, 1) := by decide +kernel
theorem dX12_noRow_20 : decode cX12_noRow 20 = .ok (.iconst 2, 1) := by decide +kernel
theorem dX12_noRow_21 : decode cX12_noRow 21 = .ok (.if_icmp .eq 8, 3) := by decide +kernel
theorem dX12_noRow_24 : decode cX12_noRow 24 = .ok (.bipush (-12), 2) := by decide +kernel
theorem dX12_noRow_26 : decode cX12_noRow 26 = .ok (.goto 4, 3) := by decide +kernel
theorem dX12_noRow_29 : decode cX12_noRow 29 = .ok (.iconst 0, 1) := by decide +kernel
theorem dX12_noRow_30 : decode cX12_noRow 30 = .ok (.ireturn, 1) := by decide +kernel
set_option maxRecDepth 20000 in
theorem gwX12_noRow : wsX12_noRow.all goodWord = true := by decide +kernel
set_option maxRecDepth 20000 in
theorem ggX12_noBytes_X12_noRow : GoodIn wsX12_noBytes wsX12_noRow := goodIn_r _ [7, 1, 8, 9, 10, 11, 12, 13, 14, 15, 16, 17, 18, 19, 20, 21, 22, 23, 24, 25, 26, 27, 28, 29] rfl gwX12_noRow
set_option maxRecDepth 20000 in
theorem gX12_noBytes_X12_noRow : GoodIn wsX12_noBytes (wsV RX12 59 RX12 yX12_noRow wsX12_noRow) := goodIn_app (goodIn_r _ [3, 4, 5, 6] rfl (by decide +kernel)) ggX12_noBytes_X12_noRow
theorem dX12_noBytes_0 : decode cX12_noBytes 0 = .ok (.aload_n 0, 1) := by decide +kernel
theorem dX12_noBytes_1 : decode cX12_noBytes 1 = .ok (.getfield 30, 3) := by decide +kernel
theorem dX12_noBytes_4 : decode cX12_noBytes 4 = .ok (.iload_n 1, 1) := by decide +kernel
theorem dX12_noBytes_5 : decode cX12_noBytes 5 = .ok (.iaload, 1) := by decide +kernel
theorem dX12_noBytes_6 : decode cX12_noBytes 6 = .ok (.iconst 2, 1) := by decide +kernel
theorem dX12_noBytes_7 : decode cX12_noBytes 7 = .ok (.if_icmp .ne 17, 3) := by decide +kernel
theorem dX12_noBytes_10 : decode cX12_noBytes 10 = .ok (.aload_n 0, 1) := by decide +kernel
theorem dX12_noBytes_11 : decode cX12_noBytes 11 = .ok (.getfield 33, 3) := by decide +kernel
theorem dX12_noBytes_14 : decode cX12_noBytes 14 = .ok (.iload_n 1, 1) := by decide +kernel
theorem dX12_noBytes_15 : decode cX12_noBytes 15 = .ok (.iaload, 1) := by decide +kernel
theorem dX12_noBytes_16 : decode cX12_noBytes 16 = .ok (.ifCond .eq 8, 3) := by decide +kernel
theorem dX12_noBytes_19 : decode cX12_noBytes 19 = .ok (.bipush (-12), 2) := by decide +kernel
theorem dX12_noBytes_21 : decode cX12_noBytes 21 = .ok (.goto 8, 3) := by decide +kernel
theorem dX12_noBytes_24 : decode cX12_noBytes 24 = .ok (.aload_n 0, 1) := by decide +kernel
theorem dX12_noBytes_25 : decode cX12_noBytes 25 = .ok (.iload_n 1, 1) := by decide +kernel
theorem dX12_noBytes_26 : decode cX12_noBytes 26 = .ok (.invokevirtual 59, 3) := by decide +kernel
theorem dX12_noBytes_29 : decode cX12_noBytes 29 = .ok (.ireturn, 1) := by decide +kernel
theorem dX12_noSort_0 : decode cX12_noSort 0 = .ok (.aload_n 0, 1) := by decide +kernel
theorem dX12_noSort_1 : decode cX12_noSort 1 = .ok (.getfield 30, 3) := by decide +kernel
theorem dX12_noSort_4 : decode cX12_noSort 4 = .ok (.iload_n 1, 1) := by decide +kernel
theorem dX12_noSort_5 : decode cX12_noSort 5 = .ok (.iaload, 1) := by decide +kernel
theorem dX12_noSort_6 : decode cX12_noSort 6 = .ok (.ifCond .ne 8, 3) := by decide +kernel
theorem dX12_noSort_9 : decode cX12_noSort 9 = .ok (.bipush (-11), 2) := by decide +kernel
theorem dX12_noSort_11 : decode cX12_noSort 11 = .ok (.goto 19, 3) := by decide +kernel
theorem dX12_noSort_14 : decode cX12_noSort 14 = .ok (.aload_n 0, 1) := by decide +kernel
theorem dX12_noSort_15 : decode cX12_noSort 15 = .ok (.getfield 30, 3) := by decide +kernel
theorem dX12_noSort_18 : decode cX12_noSort 18 = .ok (.iload_n 1, 1) := by decide +kernel
theorem dX12_noSort_19 : decode cX12_noSort 19 = .ok (.iaload, 1) := by decide +kernel
theorem dX12_noSort_20 : decode cX12_noSort 20 = .ok (.iconst 1, 1) := by decide +kernel
theorem dX12_noSort_21 : decode cX12_noSort 21 = .ok (.if_icmp .eq 8, 3) := by decide +kernel
theorem dX12_noSort_24 : decode cX12_noSort 24 = .ok (.bipush (-12), 2) := by decide +kernel
theorem dX12_noSort_26 : decode cX12_noSort 26 = .ok (.goto 4, 3) := by decide +kernel
theorem dX12_noSort_29 : decode cX12_noSort 29 = .ok (.iconst 0, 1) := by decide +kernel
theorem dX12_noSort_30 : decode cX12_noSort 30 = .ok (.ireturn, 1) := by decide +kernel
theorem dX12_share_0 : decode cX12_share 0 = .ok (.bipush 60, 2) := by decide +kernel
theorem dX12_share_2 : decode cX12_share 2 = .ok (.aload_n 0, 1) := by decide +kernel
theorem dX12_share_3 : decode cX12_share 3 = .ok (.getfield 9, 3) := by decide +kernel
theorem dX12_share_6 : decode cX12_share 6 = .ok (.bipush 12, 2) := by decide +kernel
theorem dX12_share_8 : decode cX12_share 8 = .ok (.iload_n 1, 1) := by decide +kernel
theorem dX12_share_9 : decode cX12_share 9 = .ok (.iadd, 1) := by decide +kernel
theorem dX12_share_10 : decode cX12_share 10 = .ok (.iaload, 1) := by decide +kernel
theorem dX12_share_11 : decode cX12_share 11 = .ok (.imul, 1) := by decide +kernel
theorem dX12_share_12 : decode cX12_share 12 = .ok (.aload_n 0, 1) := by decide +kernel
theorem dX12_share_13 : decode cX12_share 13 = .ok (.getfield 9, 3) := by decide +kernel
theorem dX12_share_16 : decode cX12_share 16 = .ok (.bipush 18, 2) := by decide +kernel
theorem dX12_share_18 : decode cX12_share 18 = .ok (.iload_n 1, 1) := by decide +kernel
theorem dX12_share_19 : decode cX12_share 19 = .ok (.iadd, 1) := by decide +kernel
theorem dX12_share_20 : decode cX12_share 20 = .ok (.iaload, 1) := by decide +kernel
theorem dX12_share_21 : decode cX12_share 21 = .ok (.idiv, 1) := by decide +kernel
theorem dX12_share_22 : decode cX12_share 22 = .ok (.ireturn, 1) := by decide +kernel
set_option maxRecDepth 20000 in
theorem gwX12_share : wsX12_share.all goodWord = true := by decide +kernel
set_option maxRecDepth 20000 in
theorem ggX12_load_X12_share : GoodIn wsX12_load wsX12_share := goodIn_r _ [7, 2, 8, 9, 10, 11, 12, 13, 14, 15, 16, 17, 18, 19, 20, 21, 22, 23, 24, 25, 26, 27, 28, 29] rfl gwX12_share
set_option maxRecDepth 20000 in
theorem gX12_load_X12_share : GoodIn wsX12_load (wsV RX12 63 RX12 yX12_share wsX12_share) := goodIn_app (goodIn_r _ [3, 4, 5, 6] rfl (by decide +kernel)) ggX12_load_X12_share
theorem dX12_load_0 : decode cX12_load 0 = .ok (.iconst 0, 1) := by decide +kernel
theorem dX12_load_1 : decode cX12_load 1 = .ok (.istore_n 1, 1) := by decide +kernel
theorem dX12_load_2 : decode cX12_load 2 = .ok (.iconst 0, 1) := by decide +kernel
theorem dX12_load_3 : decode cX12_load 3 = .ok (.istore_n 2, 1) := by decide +kernel
theorem dX12_load_4 : decode cX12_load 4 = .ok (.iload_n 2, 1) := by decide +kernel
theorem dX12_load_5 : decode cX12_load 5 = .ok (.aload_n 0, 1) := by decide +kernel
theorem dX12_load_6 : decode cX12_load 6 = .ok (.getfield 51, 3) := by decide +kernel
theorem dX12_load_9 : decode cX12_load 9 = .ok (.if_icmp .ge 29, 3) := by decide +kernel
theorem dX12_load_12 : decode cX12_load 12 = .ok (.aload_n 0, 1) := by decide +kernel
theorem dX12_load_13 : decode cX12_load 13 = .ok (.getfield 9, 3) := by decide +kernel
theorem dX12_load_16 : decode cX12_load 16 = .ok (.bipush 36, 2) := by decide +kernel
theorem dX12_load_18 : decode cX12_load 18 = .ok (.iload_n 2, 1) := by decide +kernel
theorem dX12_load_19 : decode cX12_load 19 = .ok (.iadd, 1) := by decide +kernel
theorem dX12_load_20 : decode cX12_load 20 = .ok (.iaload, 1) := by decide +kernel
theorem dX12_load_21 : decode cX12_load 21 = .ok (.ifCond .eq 11, 3) := by decide +kernel
theorem dX12_load_24 : decode cX12_load 24 = .ok (.iload_n 1, 1) := by decide +kernel
theorem dX12_load_25 : decode cX12_load 25 = .ok (.aload_n 0, 1) := by decide +kernel
theorem dX12_load_26 : decode cX12_load 26 = .ok (.iload_n 2, 1) := by decide +kernel
theorem dX12_load_27 : decode cX12_load 27 = .ok (.invokevirtual 63, 3) := by decide +kernel
theorem dX12_load_30 : decode cX12_load 30 = .ok (.iadd, 1) := by decide +kernel
theorem dX12_load_31 : decode cX12_load 31 = .ok (.istore_n 1, 1) := by decide +kernel
theorem dX12_load_32 : decode cX12_load 32 = .ok (.iinc 2 1, 3) := by decide +kernel
theorem dX12_load_35 : decode cX12_load 35 = .ok (.goto (-31), 3) := by decide +kernel
theorem dX12_load_38 : decode cX12_load 38 = .ok (.iload_n 1, 1) := by decide +kernel
theorem dX12_load_39 : decode cX12_load 39 = .ok (.ireturn, 1) := by decide +kernel
set_option maxRecDepth 20000 in
theorem gwX12_load : wsX12_load.all goodWord = true := by decide +kernel
set_option maxRecDepth 20000 in
theorem ggX12_greedy_X12_load : GoodIn wsX12_greedy wsX12_load := goodIn_r _ [12, 13, 14, 15, 16, 17, 11, 18, 19, 20, 21, 22, 23, 24, 25, 26, 27, 28, 29, 30, 31, 32, 33, 34, 35, 36, 37, 38, 39, 40] rfl gwX12_load
set_option maxRecDepth 20000 in
theorem gX12_greedy_X12_load : GoodIn wsX12_greedy (wsV RX12 66 RX12 yX12_load wsX12_load) := goodIn_app (goodIn_r _ [8, 9, 10, 11] rfl (by decide +kernel)) ggX12_greedy_X12_load
set_option maxRecDepth 20000 in
theorem ggX12_greedy_X12_share : GoodIn wsX12_greedy wsX12_share := goodIn_r _ [18, 14, 19, 20, 21, 22, 23, 24, 25, 26, 27, 28, 29, 30, 31, 32, 33, 34, 35, 36, 37, 38, 39, 40] rfl gwX12_share
set_option maxRecDepth 20000 in
theorem gX12_greedy_X12_share : GoodIn wsX12_greedy (wsV RX12 63 RX12 yX12_share wsX12_share) := goodIn_app (goodIn_r _ [15, 16, 17, 11] rfl (by decide +kernel)) ggX12_greedy_X12_share
theorem dX12_greedy_0 : decode cX12_greedy 0 = .ok (.bipush 60, 2) := by decide +kernel
theorem dX12_greedy_2 : decode cX12_greedy 2 = .ok (.aload_n 0, 1) := by decide +kernel
theorem dX12_greedy_3 : decode cX12_greedy 3 = .ok (.invokevirtual 66, 3) := by decide +kernel
theorem dX12_greedy_6 : decode cX12_greedy 6 = .ok (.aload_n 0, 1) := by decide +kernel
theorem dX12_greedy_7 : decode cX12_greedy 7 = .ok (.iload_n 1, 1) := by decide +kernel
theorem dX12_greedy_8 : decode cX12_greedy 8 = .ok (.invokevirtual 63, 3) := by decide +kernel
theorem dX12_greedy_11 : decode cX12_greedy 11 = .ok (.invokestatic 70, 3) := by decide +kernel
theorem dX12_greedy_14 : decode cX12_greedy 14 = .ok (.invokestatic 76, 3) := by decide +kernel
theorem dX12_greedy_17 : decode cX12_greedy 17 = .ok (.ireturn, 1) := by decide +kernel
set_option maxRecDepth 20000 in
theorem gwX12_greedy : wsX12_greedy.all goodWord = true := by decide +kernel
set_option maxRecDepth 20000 in
theorem ggX12_pays_X12_greedy : GoodIn wsX12_pays wsX12_greedy := goodIn_r _ [10, 2, 3, 4, 5, 11, 12, 13, 14, 15, 16, 9, 17, 18, 1, 19, 20, 21, 22, 23, 24, 25, 26, 27, 28, 29, 30, 31, 32, 33, 34, 35, 36, 37, 38, 39, 40, 41, 42, 43, 44] rfl gwX12_greedy
set_option maxRecDepth 20000 in
theorem gX12_pays_X12_greedy : GoodIn wsX12_pays (wsV RX12 79 RX12 yX12_greedy wsX12_greedy) := goodIn_app (goodIn_r _ [6, 7, 8, 9] rfl (by decide +kernel)) ggX12_pays_X12_greedy
set_option maxRecDepth 20000 in
theorem ggX12_pays_X12_share : GoodIn wsX12_pays wsX12_share := goodIn_r _ [22, 1, 23, 24, 25, 26, 27, 28, 29, 30, 31, 32, 33, 34, 35, 36, 37, 38, 39, 40, 41, 42, 43, 44] rfl gwX12_share
set_option maxRecDepth 20000 in
theorem gX12_pays_X12_share : GoodIn wsX12_pays (wsV RX12 63 RX12 yX12_share wsX12_share) := goodIn_app (goodIn_r _ [19, 20, 21, 9] rfl (by decide +kernel)) ggX12_pays_X12_share
theorem dX12_pays_0 : decode cX12_pays 0 = .ok (.aload_n 0, 1) := by decide +kernel
theorem dX12_pays_1 : decode cX12_pays 1 = .ok (.getfield 9, 3) := by decide +kernel
theorem dX12_pays_4 : decode cX12_pays 4 = .ok (.iconst 0, 1) := by decide +kernel
theorem dX12_pays_5 : decode cX12_pays 5 = .ok (.iload_n 1, 1) := by decide +kernel
theorem dX12_pays_6 : decode cX12_pays 6 = .ok (.iadd, 1) := by decide +kernel
theorem dX12_pays_7 : decode cX12_pays 7 = .ok (.iaload, 1) := by decide +kernel
theorem dX12_pays_8 : decode cX12_pays 8 = .ok (.tableswitch 73 1 4 #[32, 73, 38, 62], 32) := by decide +kernel
theorem dX12_pays_40 : decode cX12_pays 40 = .ok (.aload_n 0, 1) := by decide +kernel
theorem dX12_pays_41 : decode cX12_pays 41 = .ok (.iload_n 1, 1) := by decide +kernel
theorem dX12_pays_42 : decode cX12_pays 42 = .ok (.invokevirtual 79, 3) := by decide +kernel
theorem dX12_pays_45 : decode cX12_pays 45 = .ok (.ireturn, 1) := by decide +kernel
theorem dX12_pays_46 : decode cX12_pays 46 = .ok (.aload_n 0, 1) := by decide +kernel
theorem dX12_pays_47 : decode cX12_pays 47 = .ok (.iload_n 1, 1) := by decide +kernel
theorem dX12_pays_48 : decode cX12_pays 48 = .ok (.invokevirtual 63, 3) := by decide +kernel
theorem dX12_pays_51 : decode cX12_pays 51 = .ok (.aload_n 0, 1) := by decide +kernel
theorem dX12_pays_52 : decode cX12_pays 52 = .ok (.iload_n 1, 1) := by decide +kernel
theorem dX12_pays_53 : decode cX12_pays 53 = .ok (.invokevirtual 79, 3) := by decide +kernel
theorem dX12_pays_56 : decode cX12_pays 56 = .ok (.aload_n 0, 1) := by decide +kernel
theorem dX12_pays_57 : decode cX12_pays 57 = .ok (.getfield 9, 3) := by decide +kernel
theorem dX12_pays_60 : decode cX12_pays 60 = .ok (.bipush 6, 2) := by decide +kernel
theorem dX12_pays_62 : decode cX12_pays 62 = .ok (.iload_n 1, 1) := by decide +kernel
theorem dX12_pays_63 : decode cX12_pays 63 = .ok (.iadd, 1) := by decide +kernel
theorem dX12_pays_64 : decode cX12_pays 64 = .ok (.iaload, 1) := by decide +kernel
theorem dX12_pays_65 : decode cX12_pays 65 = .ok (.isub, 1) := by decide +kernel
theorem dX12_pays_66 : decode cX12_pays 66 = .ok (.invokestatic 70, 3) := by decide +kernel
theorem dX12_pays_69 : decode cX12_pays 69 = .ok (.ireturn, 1) := by decide +kernel
theorem dX12_pays_70 : decode cX12_pays 70 = .ok (.bipush 60, 2) := by decide +kernel
theorem dX12_pays_72 : decode cX12_pays 72 = .ok (.aload_n 0, 1) := by decide +kernel
theorem dX12_pays_73 : decode cX12_pays 73 = .ok (.iload_n 1, 1) := by decide +kernel
theorem dX12_pays_74 : decode cX12_pays 74 = .ok (.invokevirtual 79, 3) := by decide +kernel
theorem dX12_pays_77 : decode cX12_pays 77 = .ok (.iadd, 1) := by decide +kernel
theorem dX12_pays_78 : decode cX12_pays 78 = .ok (.iconst 2, 1) := by decide +kernel
theorem dX12_pays_79 : decode cX12_pays 79 = .ok (.idiv, 1) := by decide +kernel
theorem dX12_pays_80 : decode cX12_pays 80 = .ok (.ireturn, 1) := by decide +kernel
theorem dX12_pays_81 : decode cX12_pays 81 = .ok (.bipush 60, 2) := by decide +kernel
theorem dX12_pays_83 : decode cX12_pays 83 = .ok (.ireturn, 1) := by decide +kernel
theorem dX12_rests_0 : decode cX12_rests 0 = .ok (.aload_n 0, 1) := by decide +kernel
theorem dX12_rests_1 : decode cX12_rests 1 = .ok (.getfield 9, 3) := by decide +kernel
theorem dX12_rests_4 : decode cX12_rests 4 = .ok (.iconst 0, 1) := by decide +kernel
theorem dX12_rests_5 : decode cX12_rests 5 = .ok (.iload_n 1, 1) := by decide +kernel
theorem dX12_rests_6 : decode cX12_rests 6 = .ok (.iadd, 1) := by decide +kernel
theorem dX12_rests_7 : decode cX12_rests 7 = .ok (.iaload, 1) := by decide +kernel
theorem dX12_rests_8 : decode cX12_rests 8 = .ok (.iconst 2, 1) := by decide +kernel
theorem dX12_rests_9 : decode cX12_rests 9 = .ok (.if_icmp .eq 15, 3) := by decide +kernel
theorem dX12_rests_12 : decode cX12_rests 12 = .ok (.aload_n 0, 1) := by decide +kernel
theorem dX12_rests_13 : decode cX12_rests 13 = .ok (.getfield 9, 3) := by decide +kernel
theorem dX12_rests_16 : decode cX12_rests 16 = .ok (.iconst 0, 1) := by decide +kernel
theorem dX12_rests_17 : decode cX12_rests 17 = .ok (.iload_n 1, 1) := by decide +kernel
theorem dX12_rests_18 : decode cX12_rests 18 = .ok (.iadd, 1) := by decide +kernel
theorem dX12_rests_19 : decode cX12_rests 19 = .ok (.iaload, 1) := by decide +kernel
theorem dX12_rests_20 : decode cX12_rests 20 = .ok (.iconst 5, 1) := by decide +kernel
theorem dX12_rests_21 : decode cX12_rests 21 = .ok (.if_icmp .ne 7, 3) := by decide +kernel
theorem dX12_rests_24 : decode cX12_rests 24 = .ok (.iconst 1, 1) := by decide +kernel
theorem dX12_rests_25 : decode cX12_rests 25 = .ok (.goto 4, 3) := by decide +kernel
theorem dX12_rests_28 : decode cX12_rests 28 = .ok (.iconst 0, 1) := by decide +kernel
theorem dX12_rests_29 : decode cX12_rests 29 = .ok (.ireturn, 1) := by decide +kernel
set_option maxRecDepth 20000 in
theorem gwX12_rests : wsX12_rests.all goodWord = true := by decide +kernel
set_option maxRecDepth 20000 in
theorem ggX12_refills_X12_rests : GoodIn wsX12_refills wsX12_rests := goodIn_r _ [6, 1, 7, 8, 9, 10, 11, 12, 13, 14, 15, 16, 17, 18, 19, 20, 21, 22, 23, 24, 25, 26, 27, 28] rfl gwX12_rests
set_option maxRecDepth 20000 in
theorem gX12_refills_X12_rests : GoodIn wsX12_refills (wsV RX12 82 RX12 yX12_rests wsX12_rests) := goodIn_app (goodIn_r _ [2, 3, 4, 5] rfl (by decide +kernel)) ggX12_refills_X12_rests
theorem dX12_refills_0 : decode cX12_refills 0 = .ok (.aload_n 0, 1) := by decide +kernel
theorem dX12_refills_1 : decode cX12_refills 1 = .ok (.iload_n 1, 1) := by decide +kernel
theorem dX12_refills_2 : decode cX12_refills 2 = .ok (.invokevirtual 82, 3) := by decide +kernel
theorem dX12_refills_5 : decode cX12_refills 5 = .ok (.ifCond .eq 14, 3) := by decide +kernel
theorem dX12_refills_8 : decode cX12_refills 8 = .ok (.aload_n 0, 1) := by decide +kernel
theorem dX12_refills_9 : decode cX12_refills 9 = .ok (.getfield 9, 3) := by decide +kernel
theorem dX12_refills_12 : decode cX12_refills 12 = .ok (.bipush 36, 2) := by decide +kernel
theorem dX12_refills_14 : decode cX12_refills 14 = .ok (.iload_n 1, 1) := by decide +kernel
theorem dX12_refills_15 : decode cX12_refills 15 = .ok (.iadd, 1) := by decide +kernel
theorem dX12_refills_16 : decode cX12_refills 16 = .ok (.iconst 2, 1) := by decide +kernel
theorem dX12_refills_17 : decode cX12_refills 17 = .ok (.iastore, 1) := by decide +kernel
theorem dX12_refills_18 : decode cX12_refills 18 = .ok (.return_, 1) := by decide +kernel
theorem dX12_refills_19 : decode cX12_refills 19 = .ok (.aload_n 0, 1) := by decide +kernel
theorem dX12_refills_20 : decode cX12_refills 20 = .ok (.getfield 9, 3) := by decide +kernel
theorem dX12_refills_23 : decode cX12_refills 23 = .ok (.bipush 24, 2) := by decide +kernel
theorem dX12_refills_25 : decode cX12_refills 25 = .ok (.iload_n 1, 1) := by decide +kernel
theorem dX12_refills_26 : decode cX12_refills 26 = .ok (.iadd, 1) := by decide +kernel
theorem dX12_refills_27 : decode cX12_refills 27 = .ok (.iaload, 1) := by decide +kernel
theorem dX12_refills_28 : decode cX12_refills 28 = .ok (.ifCond .gt 51, 3) := by decide +kernel
theorem dX12_refills_31 : decode cX12_refills 31 = .ok (.aload_n 0, 1) := by decide +kernel
theorem dX12_refills_32 : decode cX12_refills 32 = .ok (.getfield 9, 3) := by decide +kernel
theorem dX12_refills_35 : decode cX12_refills 35 = .ok (.bipush 24, 2) := by decide +kernel
theorem dX12_refills_37 : decode cX12_refills 37 = .ok (.iload_n 1, 1) := by decide +kernel
theorem dX12_refills_38 : decode cX12_refills 38 = .ok (.iadd, 1) := by decide +kernel
theorem dX12_refills_39 : decode cX12_refills 39 = .ok (.dup2, 1) := by decide +kernel
theorem dX12_refills_40 : decode cX12_refills 40 = .ok (.iaload, 1) := by decide +kernel
theorem dX12_refills_41 : decode cX12_refills 41 = .ok (.bipush 60, 2) := by decide +kernel
theorem dX12_refills_43 : decode cX12_refills 43 = .ok (.aload_n 0, 1) := by decide +kernel
theorem dX12_refills_44 : decode cX12_refills 44 = .ok (.getfield 9, 3) := by decide +kernel
theorem dX12_refills_47 : decode cX12_refills 47 = .ok (.bipush 12, 2) := by decide +kernel
theorem dX12_refills_49 : decode cX12_refills 49 = .ok (.iload_n 1, 1) := by decide +kernel
theorem dX12_refills_50 : decode cX12_refills 50 = .ok (.iadd, 1) := by decide +kernel
theorem dX12_refills_51 : decode cX12_refills 51 = .ok (.iaload, 1) := by decide +kernel
theorem dX12_refills_52 : decode cX12_refills 52 = .ok (.imul, 1) := by decide +kernel
theorem dX12_refills_53 : decode cX12_refills 53 = .ok (.iadd, 1) := by decide +kernel
theorem dX12_refills_54 : decode cX12_refills 54 = .ok (.iastore, 1) := by decide +kernel
theorem dX12_refills_55 : decode cX12_refills 55 = .ok (.aload_n 0, 1) := by decide +kernel
theorem dX12_refills_56 : decode cX12_refills 56 = .ok (.getfield 9, 3) := by decide +kernel
theorem dX12_refills_59 : decode cX12_refills 59 = .ok (.bipush 30, 2) := by decide +kernel
theorem dX12_refills_61 : decode cX12_refills 61 = .ok (.iload_n 1, 1) := by decide +kernel
theorem dX12_refills_62 : decode cX12_refills 62 = .ok (.iadd, 1) := by decide +kernel
theorem dX12_refills_63 : decode cX12_refills 63 = .ok (.dup2, 1) := by decide +kernel
theorem dX12_refills_64 : decode cX12_refills 64 = .ok (.iaload, 1) := by decide +kernel
theorem dX12_refills_65 : decode cX12_refills 65 = .ok (.aload_n 0, 1) := by decide +kernel
theorem dX12_refills_66 : decode cX12_refills 66 = .ok (.getfield 9, 3) := by decide +kernel
theorem dX12_refills_69 : decode cX12_refills 69 = .ok (.bipush 18, 2) := by decide +kernel
theorem dX12_refills_71 : decode cX12_refills 71 = .ok (.iload_n 1, 1) := by decide +kernel
theorem dX12_refills_72 : decode cX12_refills 72 = .ok (.iadd, 1) := by decide +kernel
theorem dX12_refills_73 : decode cX12_refills 73 = .ok (.iaload, 1) := by decide +kernel
theorem dX12_refills_74 : decode cX12_refills 74 = .ok (.iadd, 1) := by decide +kernel
theorem dX12_refills_75 : decode cX12_refills 75 = .ok (.iastore, 1) := by decide +kernel
theorem dX12_refills_76 : decode cX12_refills 76 = .ok (.goto (-57), 3) := by decide +kernel
theorem dX12_refills_79 : decode cX12_refills 79 = .ok (.return_, 1) := by decide +kernel
theorem dX12_wakes_0 : decode cX12_wakes 0 = .ok (.aload_n 0, 1) := by decide +kernel
theorem dX12_wakes_1 : decode cX12_wakes 1 = .ok (.getfield 9, 3) := by decide +kernel
theorem dX12_wakes_4 : decode cX12_wakes 4 = .ok (.bipush 36, 2) := by decide +kernel
theorem dX12_wakes_6 : decode cX12_wakes 6 = .ok (.iload_n 1, 1) := by decide +kernel
theorem dX12_wakes_7 : decode cX12_wakes 7 = .ok (.iadd, 1) := by decide +kernel
theorem dX12_wakes_8 : decode cX12_wakes 8 = .ok (.iconst 1, 1) := by decide +kernel
theorem dX12_wakes_9 : decode cX12_wakes 9 = .ok (.iastore, 1) := by decide +kernel
theorem dX12_wakes_10 : decode cX12_wakes 10 = .ok (.aload_n 0, 1) := by decide +kernel
theorem dX12_wakes_11 : decode cX12_wakes 11 = .ok (.getfield 9, 3) := by decide +kernel
theorem dX12_wakes_14 : decode cX12_wakes 14 = .ok (.bipush 24, 2) := by decide +kernel
theorem dX12_wakes_16 : decode cX12_wakes 16 = .ok (.iload_n 1, 1) := by decide +kernel
theorem dX12_wakes_17 : decode cX12_wakes 17 = .ok (.iadd, 1) := by decide +kernel
theorem dX12_wakes_18 : decode cX12_wakes 18 = .ok (.bipush 60, 2) := by decide +kernel
theorem dX12_wakes_20 : decode cX12_wakes 20 = .ok (.aload_n 0, 1) := by decide +kernel
theorem dX12_wakes_21 : decode cX12_wakes 21 = .ok (.getfield 9, 3) := by decide +kernel
theorem dX12_wakes_24 : decode cX12_wakes 24 = .ok (.bipush 12, 2) := by decide +kernel
theorem dX12_wakes_26 : decode cX12_wakes 26 = .ok (.iload_n 1, 1) := by decide +kernel
theorem dX12_wakes_27 : decode cX12_wakes 27 = .ok (.iadd, 1) := by decide +kernel
theorem dX12_wakes_28 : decode cX12_wakes 28 = .ok (.iaload, 1) := by decide +kernel
theorem dX12_wakes_29 : decode cX12_wakes 29 = .ok (.imul, 1) := by decide +kernel
theorem dX12_wakes_30 : decode cX12_wakes 30 = .ok (.aload_n 0, 1) := by decide +kernel
theorem dX12_wakes_31 : decode cX12_wakes 31 = .ok (.getfield 9, 3) := by decide +kernel
theorem dX12_wakes_34 : decode cX12_wakes 34 = .ok (.iconst 0, 1) := by decide +kernel
theorem dX12_wakes_35 : decode cX12_wakes 35 = .ok (.iload_n 1, 1) := by decide +kernel
theorem dX12_wakes_36 : decode cX12_wakes 36 = .ok (.iadd, 1) := by decide +kernel
theorem dX12_wakes_37 : decode cX12_wakes 37 = .ok (.iaload, 1) := by decide +kernel
theorem dX12_wakes_38 : decode cX12_wakes 38 = .ok (.iconst 5, 1) := by decide +kernel
theorem dX12_wakes_39 : decode cX12_wakes 39 = .ok (.if_icmp .ne 15, 3) := by decide +kernel
theorem dX12_wakes_42 : decode cX12_wakes 42 = .ok (.aload_n 0, 1) := by decide +kernel
theorem dX12_wakes_43 : decode cX12_wakes 43 = .ok (.getfield 9, 3) := by decide +kernel
theorem dX12_wakes_46 : decode cX12_wakes 46 = .ok (.bipush 24, 2) := by decide +kernel
theorem dX12_wakes_48 : decode cX12_wakes 48 = .ok (.iload_n 1, 1) := by decide +kernel
theorem dX12_wakes_49 : decode cX12_wakes 49 = .ok (.iadd, 1) := by decide +kernel
theorem dX12_wakes_50 : decode cX12_wakes 50 = .ok (.iaload, 1) := by decide +kernel
theorem dX12_wakes_51 : decode cX12_wakes 51 = .ok (.goto 4, 3) := by decide +kernel
theorem dX12_wakes_54 : decode cX12_wakes 54 = .ok (.iconst 0, 1) := by decide +kernel
theorem dX12_wakes_55 : decode cX12_wakes 55 = .ok (.iadd, 1) := by decide +kernel
theorem dX12_wakes_56 : decode cX12_wakes 56 = .ok (.iastore, 1) := by decide +kernel
theorem dX12_wakes_57 : decode cX12_wakes 57 = .ok (.aload_n 0, 1) := by decide +kernel
theorem dX12_wakes_58 : decode cX12_wakes 58 = .ok (.getfield 9, 3) := by decide +kernel
theorem dX12_wakes_61 : decode cX12_wakes 61 = .ok (.bipush 30, 2) := by decide +kernel
theorem dX12_wakes_63 : decode cX12_wakes 63 = .ok (.iload_n 1, 1) := by decide +kernel
theorem dX12_wakes_64 : decode cX12_wakes 64 = .ok (.iadd, 1) := by decide +kernel
theorem dX12_wakes_65 : decode cX12_wakes 65 = .ok (.dup2, 1) := by decide +kernel
theorem dX12_wakes_66 : decode cX12_wakes 66 = .ok (.iaload, 1) := by decide +kernel
theorem dX12_wakes_67 : decode cX12_wakes 67 = .ok (.aload_n 0, 1) := by decide +kernel
theorem dX12_wakes_68 : decode cX12_wakes 68 = .ok (.getfield 9, 3) := by decide +kernel
theorem dX12_wakes_71 : decode cX12_wakes 71 = .ok (.bipush 18, 2) := by decide +kernel
theorem dX12_wakes_73 : decode cX12_wakes 73 = .ok (.iload_n 1, 1) := by decide +kernel
theorem dX12_wakes_74 : decode cX12_wakes 74 = .ok (.iadd, 1) := by decide +kernel
theorem dX12_wakes_75 : decode cX12_wakes 75 = .ok (.iaload, 1) := by decide +kernel
theorem dX12_wakes_76 : decode cX12_wakes 76 = .ok (.iadd, 1) := by decide +kernel
theorem dX12_wakes_77 : decode cX12_wakes 77 = .ok (.iastore, 1) := by decide +kernel
theorem dX12_wakes_78 : decode cX12_wakes 78 = .ok (.return_, 1) := by decide +kernel
theorem dX12_ahead_0 : decode cX12_ahead 0 = .ok (.bipush 60, 2) := by decide +kernel
theorem dX12_ahead_2 : decode cX12_ahead 2 = .ok (.aload_n 0, 1) := by decide +kernel
theorem dX12_ahead_3 : decode cX12_ahead 3 = .ok (.getfield 9, 3) := by decide +kernel
theorem dX12_ahead_6 : decode cX12_ahead 6 = .ok (.bipush 12, 2) := by decide +kernel
theorem dX12_ahead_8 : decode cX12_ahead 8 = .ok (.iload_n 1, 1) := by decide +kernel
theorem dX12_ahead_9 : decode cX12_ahead 9 = .ok (.iadd, 1) := by decide +kernel
theorem dX12_ahead_10 : decode cX12_ahead 10 = .ok (.iaload, 1) := by decide +kernel
theorem dX12_ahead_11 : decode cX12_ahead 11 = .ok (.imul, 1) := by decide +kernel
theorem dX12_ahead_12 : decode cX12_ahead 12 = .ok (.aload_n 0, 1) := by decide +kernel
theorem dX12_ahead_13 : decode cX12_ahead 13 = .ok (.getfield 9, 3) := by decide +kernel
theorem dX12_ahead_16 : decode cX12_ahead 16 = .ok (.bipush 30, 2) := by decide +kernel
theorem dX12_ahead_18 : decode cX12_ahead 18 = .ok (.iload_n 1, 1) := by decide +kernel
theorem dX12_ahead_19 : decode cX12_ahead 19 = .ok (.iadd, 1) := by decide +kernel
theorem dX12_ahead_20 : decode cX12_ahead 20 = .ok (.iaload, 1) := by decide +kernel
theorem dX12_ahead_21 : decode cX12_ahead 21 = .ok (.aload_n 0, 1) := by decide +kernel
theorem dX12_ahead_22 : decode cX12_ahead 22 = .ok (.getfield 86, 3) := by decide +kernel
theorem dX12_ahead_25 : decode cX12_ahead 25 = .ok (.isub, 1) := by decide +kernel
theorem dX12_ahead_26 : decode cX12_ahead 26 = .ok (.imul, 1) := by decide +kernel
theorem dX12_ahead_27 : decode cX12_ahead 27 = .ok (.aload_n 0, 1) := by decide +kernel
theorem dX12_ahead_28 : decode cX12_ahead 28 = .ok (.getfield 9, 3) := by decide +kernel
theorem dX12_ahead_31 : decode cX12_ahead 31 = .ok (.bipush 24, 2) := by decide +kernel
theorem dX12_ahead_33 : decode cX12_ahead 33 = .ok (.iload_n 1, 1) := by decide +kernel
theorem dX12_ahead_34 : decode cX12_ahead 34 = .ok (.iadd, 1) := by decide +kernel
theorem dX12_ahead_35 : decode cX12_ahead 35 = .ok (.iaload, 1) := by decide +kernel
theorem dX12_ahead_36 : decode cX12_ahead 36 = .ok (.aload_n 0, 1) := by decide +kernel
theorem dX12_ahead_37 : decode cX12_ahead 37 = .ok (.getfield 9, 3) := by decide +kernel
theorem dX12_ahead_40 : decode cX12_ahead 40 = .ok (.bipush 18, 2) := by decide +kernel
theorem dX12_ahead_42 : decode cX12_ahead 42 = .ok (.iload_n 1, 1) := by decide +kernel
theorem dX12_ahead_43 : decode cX12_ahead 43 = .ok (.iadd, 1) := by decide +kernel
theorem dX12_ahead_44 : decode cX12_ahead 44 = .ok (.iaload, 1) := by decide +kernel
theorem dX12_ahead_45 : decode cX12_ahead 45 = .ok (.imul, 1) := by decide +kernel
theorem dX12_ahead_46 : decode cX12_ahead 46 = .ok (.isub, 1) := by decide +kernel
theorem dX12_ahead_47 : decode cX12_ahead 47 = .ok (.ireturn, 1) := by decide +kernel
set_option maxRecDepth 20000 in
theorem gwX12_ahead : wsX12_ahead.all goodWord = true := by decide +kernel
set_option maxRecDepth 20000 in
theorem ggX12_jobComes_X12_ahead : GoodIn wsX12_jobComes wsX12_ahead := goodIn_r _ [9, 1, 4, 10, 11, 12, 13, 14, 15, 16, 17, 18, 19, 20, 21, 22, 23, 24, 25, 26, 27, 28, 29, 30, 31] rfl gwX12_ahead
set_option maxRecDepth 20000 in
theorem gX12_jobComes_X12_ahead : GoodIn wsX12_jobComes (wsV RX12 89 RX12 yX12_ahead wsX12_ahead) := goodIn_app (goodIn_r _ [5, 6, 7, 8] rfl (by decide +kernel)) ggX12_jobComes_X12_ahead
theorem dX12_jobComes_0 : decode cX12_jobComes 0 = .ok (.aload_n 0, 1) := by decide +kernel
theorem dX12_jobComes_1 : decode cX12_jobComes 1 = .ok (.getfield 9, 3) := by decide +kernel
theorem dX12_jobComes_4 : decode cX12_jobComes 4 = .ok (.bipush 42, 2) := by decide +kernel
theorem dX12_jobComes_6 : decode cX12_jobComes 6 = .ok (.iload_n 1, 1) := by decide +kernel
theorem dX12_jobComes_7 : decode cX12_jobComes 7 = .ok (.iadd, 1) := by decide +kernel
theorem dX12_jobComes_8 : decode cX12_jobComes 8 = .ok (.iaload, 1) := by decide +kernel
theorem dX12_jobComes_9 : decode cX12_jobComes 9 = .ok (.istore 4, 2) := by decide +kernel
theorem dX12_jobComes_11 : decode cX12_jobComes 11 = .ok (.aload_n 0, 1) := by decide +kernel
theorem dX12_jobComes_12 : decode cX12_jobComes 12 = .ok (.getfield 15, 3) := by decide +kernel
theorem dX12_jobComes_15 : decode cX12_jobComes 15 = .ok (.iconst 4, 1) := by decide +kernel
theorem dX12_jobComes_16 : decode cX12_jobComes 16 = .ok (.iload_n 1, 1) := by decide +kernel
theorem dX12_jobComes_17 : decode cX12_jobComes 17 = .ok (.imul, 1) := by decide +kernel
theorem dX12_jobComes_18 : decode cX12_jobComes 18 = .ok (.iload 4, 2) := by decide +kernel
theorem dX12_jobComes_20 : decode cX12_jobComes 20 = .ok (.iadd, 1) := by decide +kernel
theorem dX12_jobComes_21 : decode cX12_jobComes 21 = .ok (.iload_n 2, 1) := by decide +kernel
theorem dX12_jobComes_22 : decode cX12_jobComes 22 = .ok (.iastore, 1) := by decide +kernel
theorem dX12_jobComes_23 : decode cX12_jobComes 23 = .ok (.aload_n 0, 1) := by decide +kernel
theorem dX12_jobComes_24 : decode cX12_jobComes 24 = .ok (.getfield 18, 3) := by decide +kernel
theorem dX12_jobComes_27 : decode cX12_jobComes 27 = .ok (.iconst 4, 1) := by decide +kernel
theorem dX12_jobComes_28 : decode cX12_jobComes 28 = .ok (.iload_n 1, 1) := by decide +kernel
theorem dX12_jobComes_29 : decode cX12_jobComes 29 = .ok (.imul, 1) := by decide +kernel
theorem dX12_jobComes_30 : decode cX12_jobComes 30 = .ok (.iload 4, 2) := by decide +kernel
theorem dX12_jobComes_32 : decode cX12_jobComes 32 = .ok (.iadd, 1) := by decide +kernel
theorem dX12_jobComes_33 : decode cX12_jobComes 33 = .ok (.iload_n 3, 1) := by decide +kernel
theorem dX12_jobComes_34 : decode cX12_jobComes 34 = .ok (.iastore, 1) := by decide +kernel
theorem dX12_jobComes_35 : decode cX12_jobComes 35 = .ok (.aload_n 0, 1) := by decide +kernel
theorem dX12_jobComes_36 : decode cX12_jobComes 36 = .ok (.getfield 9, 3) := by decide +kernel
theorem dX12_jobComes_39 : decode cX12_jobComes 39 = .ok (.bipush 42, 2) := by decide +kernel
theorem dX12_jobComes_41 : decode cX12_jobComes 41 = .ok (.iload_n 1, 1) := by decide +kernel
theorem dX12_jobComes_42 : decode cX12_jobComes 42 = .ok (.iadd, 1) := by decide +kernel
theorem dX12_jobComes_43 : decode cX12_jobComes 43 = .ok (.iload 4, 2) := by decide +kernel
theorem dX12_jobComes_45 : decode cX12_jobComes 45 = .ok (.iconst 1, 1) := by decide +kernel
theorem dX12_jobComes_46 : decode cX12_jobComes 46 = .ok (.iadd, 1) := by decide +kernel
theorem dX12_jobComes_47 : decode cX12_jobComes 47 = .ok (.iastore, 1) := by decide +kernel
theorem dX12_jobComes_48 : decode cX12_jobComes 48 = .ok (.aload_n 0, 1) := by decide +kernel
theorem dX12_jobComes_49 : decode cX12_jobComes 49 = .ok (.getfield 9, 3) := by decide +kernel
theorem dX12_jobComes_52 : decode cX12_jobComes 52 = .ok (.bipush 36, 2) := by decide +kernel
theorem dX12_jobComes_54 : decode cX12_jobComes 54 = .ok (.iload_n 1, 1) := by decide +kernel
theorem dX12_jobComes_55 : decode cX12_jobComes 55 = .ok (.iadd, 1) := by decide +kernel
theorem dX12_jobComes_56 : decode cX12_jobComes 56 = .ok (.iaload, 1) := by decide +kernel
theorem dX12_jobComes_57 : decode cX12_jobComes 57 = .ok (.istore 5, 2) := by decide +kernel
theorem dX12_jobComes_59 : decode cX12_jobComes 59 = .ok (.iload 5, 2) := by decide +kernel
theorem dX12_jobComes_61 : decode cX12_jobComes 61 = .ok (.iconst 1, 1) := by decide +kernel
theorem dX12_jobComes_62 : decode cX12_jobComes 62 = .ok (.if_icmp .eq 9, 3) := by decide +kernel
theorem dX12_jobComes_65 : decode cX12_jobComes 65 = .ok (.iload 5, 2) := by decide +kernel
theorem dX12_jobComes_67 : decode cX12_jobComes 67 = .ok (.iconst 2, 1) := by decide +kernel
theorem dX12_jobComes_68 : decode cX12_jobComes 68 = .ok (.if_icmp .ne 4, 3) := by decide +kernel
theorem dX12_jobComes_71 : decode cX12_jobComes 71 = .ok (.return_, 1) := by decide +kernel
theorem dX12_jobComes_72 : decode cX12_jobComes 72 = .ok (.aload_n 0, 1) := by decide +kernel
theorem dX12_jobComes_73 : decode cX12_jobComes 73 = .ok (.getfield 9, 3) := by decide +kernel
theorem dX12_jobComes_76 : decode cX12_jobComes 76 = .ok (.bipush 36, 2) := by decide +kernel
theorem dX12_jobComes_78 : decode cX12_jobComes 78 = .ok (.iload_n 1, 1) := by decide +kernel
theorem dX12_jobComes_79 : decode cX12_jobComes 79 = .ok (.iadd, 1) := by decide +kernel
theorem dX12_jobComes_80 : decode cX12_jobComes 80 = .ok (.iconst 1, 1) := by decide +kernel
theorem dX12_jobComes_81 : decode cX12_jobComes 81 = .ok (.iastore, 1) := by decide +kernel
theorem dX12_jobComes_82 : decode cX12_jobComes 82 = .ok (.iload 5, 2) := by decide +kernel
theorem dX12_jobComes_84 : decode cX12_jobComes 84 = .ok (.ifCond .eq 23, 3) := by decide +kernel
theorem dX12_jobComes_87 : decode cX12_jobComes 87 = .ok (.aload_n 0, 1) := by decide +kernel
theorem dX12_jobComes_88 : decode cX12_jobComes 88 = .ok (.getfield 9, 3) := by decide +kernel
theorem dX12_jobComes_91 : decode cX12_jobComes 91 = .ok (.bipush 24, 2) := by decide +kernel
theorem dX12_jobComes_93 : decode cX12_jobComes 93 = .ok (.iload_n 1, 1) := by decide +kernel
theorem dX12_jobComes_94 : decode cX12_jobComes 94 = .ok (.iadd, 1) := by decide +kernel
theorem dX12_jobComes_95 : decode cX12_jobComes 95 = .ok (.iaload, 1) := by decide +kernel
theorem dX12_jobComes_96 : decode cX12_jobComes 96 = .ok (.ifCond .le 11, 3) := by decide +kernel
theorem dX12_jobComes_99 : decode cX12_jobComes 99 = .ok (.aload_n 0, 1) := by decide +kernel
theorem dX12_jobComes_100 : decode cX12_jobComes 100 = .ok (.iload_n 1, 1) := by decide +kernel
theorem dX12_jobComes_101 : decode cX12_jobComes 101 = .ok (.invokevirtual 89, 3) := by decide +kernel
theorem dX12_jobComes_104 : decode cX12_jobComes 104 = .ok (.ifCond .gt 47, 3) := by decide +kernel
theorem dX12_jobComes_107 : decode cX12_jobComes 107 = .ok (.aload_n 0, 1) := by decide +kernel
theorem dX12_jobComes_108 : decode cX12_jobComes 108 = .ok (.getfield 9, 3) := by decide +kernel
theorem dX12_jobComes_111 : decode cX12_jobComes 111 = .ok (.bipush 24, 2) := by decide +kernel
theorem dX12_jobComes_113 : decode cX12_jobComes 113 = .ok (.iload_n 1, 1) := by decide +kernel
theorem dX12_jobComes_114 : decode cX12_jobComes 114 = .ok (.iadd, 1) := by decide +kernel
theorem dX12_jobComes_115 : decode cX12_jobComes 115 = .ok (.bipush 60, 2) := by decide +kernel
theorem dX12_jobComes_117 : decode cX12_jobComes 117 = .ok (.aload_n 0, 1) := by decide +kernel
theorem dX12_jobComes_118 : decode cX12_jobComes 118 = .ok (.getfield 9, 3) := by decide +kernel
theorem dX12_jobComes_121 : decode cX12_jobComes 121 = .ok (.bipush 12, 2) := by decide +kernel
theorem dX12_jobComes_123 : decode cX12_jobComes 123 = .ok (.iload_n 1, 1) := by decide +kernel
theorem dX12_jobComes_124 : decode cX12_jobComes 124 = .ok (.iadd, 1) := by decide +kernel
theorem dX12_jobComes_125 : decode cX12_jobComes 125 = .ok (.iaload, 1) := by decide +kernel
theorem dX12_jobComes_126 : decode cX12_jobComes 126 = .ok (.imul, 1) := by decide +kernel
theorem dX12_jobComes_127 : decode cX12_jobComes 127 = .ok (.iastore, 1) := by decide +kernel
theorem dX12_jobComes_128 : decode cX12_jobComes 128 = .ok (.aload_n 0, 1) := by decide +kernel
theorem dX12_jobComes_129 : decode cX12_jobComes 129 = .ok (.getfield 9, 3) := by decide +kernel
theorem dX12_jobComes_132 : decode cX12_jobComes 132 = .ok (.bipush 30, 2) := by decide +kernel
theorem dX12_jobComes_134 : decode cX12_jobComes 134 = .ok (.iload_n 1, 1) := by decide +kernel
theorem dX12_jobComes_135 : decode cX12_jobComes 135 = .ok (.iadd, 1) := by decide +kernel
theorem dX12_jobComes_136 : decode cX12_jobComes 136 = .ok (.aload_n 0, 1) := by decide +kernel
theorem dX12_jobComes_137 : decode cX12_jobComes 137 = .ok (.getfield 86, 3) := by decide +kernel
theorem dX12_jobComes_140 : decode cX12_jobComes 140 = .ok (.aload_n 0, 1) := by decide +kernel
theorem dX12_jobComes_141 : decode cX12_jobComes 141 = .ok (.getfield 9, 3) := by decide +kernel
theorem dX12_jobComes_144 : decode cX12_jobComes 144 = .ok (.bipush 18, 2) := by decide +kernel
theorem dX12_jobComes_146 : decode cX12_jobComes 146 = .ok (.iload_n 1, 1) := by decide +kernel
theorem dX12_jobComes_147 : decode cX12_jobComes 147 = .ok (.iadd, 1) := by decide +kernel
theorem dX12_jobComes_148 : decode cX12_jobComes 148 = .ok (.iaload, 1) := by decide +kernel
theorem dX12_jobComes_149 : decode cX12_jobComes 149 = .ok (.iadd, 1) := by decide +kernel
theorem dX12_jobComes_150 : decode cX12_jobComes 150 = .ok (.iastore, 1) := by decide +kernel
theorem dX12_jobComes_151 : decode cX12_jobComes 151 = .ok (.aload_n 0, 1) := by decide +kernel
theorem dX12_jobComes_152 : decode cX12_jobComes 152 = .ok (.getfield 9, 3) := by decide +kernel
theorem dX12_jobComes_155 : decode cX12_jobComes 155 = .ok (.bipush 60, 2) := by decide +kernel
theorem dX12_jobComes_157 : decode cX12_jobComes 157 = .ok (.iload_n 1, 1) := by decide +kernel
theorem dX12_jobComes_158 : decode cX12_jobComes 158 = .ok (.iadd, 1) := by decide +kernel
theorem dX12_jobComes_159 : decode cX12_jobComes 159 = .ok (.aload_n 0, 1) := by decide +kernel
theorem dX12_jobComes_160 : decode cX12_jobComes 160 = .ok (.getfield 9, 3) := by decide +kernel
theorem dX12_jobComes_163 : decode cX12_jobComes 163 = .ok (.bipush 30, 2) := by decide +kernel
theorem dX12_jobComes_165 : decode cX12_jobComes 165 = .ok (.iload_n 1, 1) := by decide +kernel
theorem dX12_jobComes_166 : decode cX12_jobComes 166 = .ok (.iadd, 1) := by decide +kernel
theorem dX12_jobComes_167 : decode cX12_jobComes 167 = .ok (.iaload, 1) := by decide +kernel
theorem dX12_jobComes_168 : decode cX12_jobComes 168 = .ok (.iastore, 1) := by decide +kernel
theorem dX12_jobComes_169 : decode cX12_jobComes 169 = .ok (.aload_n 0, 1) := by decide +kernel
theorem dX12_jobComes_170 : decode cX12_jobComes 170 = .ok (.getfield 9, 3) := by decide +kernel
theorem dX12_jobComes_173 : decode cX12_jobComes 173 = .ok (.bipush 66, 2) := by decide +kernel
theorem dX12_jobComes_175 : decode cX12_jobComes 175 = .ok (.iload_n 1, 1) := by decide +kernel
theorem dX12_jobComes_176 : decode cX12_jobComes 176 = .ok (.iadd, 1) := by decide +kernel
theorem dX12_jobComes_177 : decode cX12_jobComes 177 = .ok (.iconst 0, 1) := by decide +kernel
theorem dX12_jobComes_178 : decode cX12_jobComes 178 = .ok (.iastore, 1) := by decide +kernel
theorem dX12_jobComes_179 : decode cX12_jobComes 179 = .ok (.return_, 1) := by decide +kernel
theorem dX12_ends_0 : decode cX12_ends 0 = .ok (.aload_n 0, 1) := by decide +kernel
theorem dX12_ends_1 : decode cX12_ends 1 = .ok (.getfield 9, 3) := by decide +kernel
theorem dX12_ends_4 : decode cX12_ends 4 = .ok (.bipush 54, 2) := by decide +kernel
theorem dX12_ends_6 : decode cX12_ends 6 = .ok (.iload_n 1, 1) := by decide +kernel
theorem dX12_ends_7 : decode cX12_ends 7 = .ok (.iadd, 1) := by decide +kernel
theorem dX12_ends_8 : decode cX12_ends 8 = .ok (.sipush 999, 3) := by decide +kernel
theorem dX12_ends_11 : decode cX12_ends 11 = .ok (.aload_n 0, 1) := by decide +kernel
theorem dX12_ends_12 : decode cX12_ends 12 = .ok (.getfield 9, 3) := by decide +kernel
theorem dX12_ends_15 : decode cX12_ends 15 = .ok (.bipush 54, 2) := by decide +kernel
theorem dX12_ends_17 : decode cX12_ends 17 = .ok (.iload_n 1, 1) := by decide +kernel
theorem dX12_ends_18 : decode cX12_ends 18 = .ok (.iadd, 1) := by decide +kernel
theorem dX12_ends_19 : decode cX12_ends 19 = .ok (.iaload, 1) := by decide +kernel
theorem dX12_ends_20 : decode cX12_ends 20 = .ok (.iconst 1, 1) := by decide +kernel
theorem dX12_ends_21 : decode cX12_ends 21 = .ok (.iadd, 1) := by decide +kernel
theorem dX12_ends_22 : decode cX12_ends 22 = .ok (.invokestatic 76, 3) := by decide +kernel
theorem dX12_ends_25 : decode cX12_ends 25 = .ok (.iastore, 1) := by decide +kernel
theorem dX12_ends_26 : decode cX12_ends 26 = .ok (.aload_n 0, 1) := by decide +kernel
theorem dX12_ends_27 : decode cX12_ends 27 = .ok (.getfield 9, 3) := by decide +kernel
theorem dX12_ends_30 : decode cX12_ends 30 = .ok (.bipush 66, 2) := by decide +kernel
theorem dX12_ends_32 : decode cX12_ends 32 = .ok (.iload_n 1, 1) := by decide +kernel
theorem dX12_ends_33 : decode cX12_ends 33 = .ok (.iadd, 1) := by decide +kernel
theorem dX12_ends_34 : decode cX12_ends 34 = .ok (.iconst 0, 1) := by decide +kernel
theorem dX12_ends_35 : decode cX12_ends 35 = .ok (.iastore, 1) := by decide +kernel
theorem dX12_ends_36 : decode cX12_ends 36 = .ok (.aload_n 0, 1) := by decide +kernel
theorem dX12_ends_37 : decode cX12_ends 37 = .ok (.getfield 9, 3) := by decide +kernel
theorem dX12_ends_40 : decode cX12_ends 40 = .ok (.bipush 42, 2) := by decide +kernel
theorem dX12_ends_42 : decode cX12_ends 42 = .ok (.iload_n 1, 1) := by decide +kernel
theorem dX12_ends_43 : decode cX12_ends 43 = .ok (.iadd, 1) := by decide +kernel
theorem dX12_ends_44 : decode cX12_ends 44 = .ok (.dup2, 1) := by decide +kernel
theorem dX12_ends_45 : decode cX12_ends 45 = .ok (.iaload, 1) := by decide +kernel
theorem dX12_ends_46 : decode cX12_ends 46 = .ok (.iconst 1, 1) := by decide +kernel
theorem dX12_ends_47 : decode cX12_ends 47 = .ok (.isub, 1) := by decide +kernel
theorem dX12_ends_48 : decode cX12_ends 48 = .ok (.iastore, 1) := by decide +kernel
theorem dX12_ends_49 : decode cX12_ends 49 = .ok (.iconst 0, 1) := by decide +kernel
theorem dX12_ends_50 : decode cX12_ends 50 = .ok (.istore_n 2, 1) := by decide +kernel
theorem dX12_ends_51 : decode cX12_ends 51 = .ok (.iload_n 2, 1) := by decide +kernel
theorem dX12_ends_52 : decode cX12_ends 52 = .ok (.aload_n 0, 1) := by decide +kernel
theorem dX12_ends_53 : decode cX12_ends 53 = .ok (.getfield 9, 3) := by decide +kernel
theorem dX12_ends_56 : decode cX12_ends 56 = .ok (.bipush 42, 2) := by decide +kernel
theorem dX12_ends_58 : decode cX12_ends 58 = .ok (.iload_n 1, 1) := by decide +kernel
theorem dX12_ends_59 : decode cX12_ends 59 = .ok (.iadd, 1) := by decide +kernel
theorem dX12_ends_60 : decode cX12_ends 60 = .ok (.iaload, 1) := by decide +kernel
theorem dX12_ends_61 : decode cX12_ends 61 = .ok (.if_icmp .ge 53, 3) := by decide +kernel
theorem dX12_ends_64 : decode cX12_ends 64 = .ok (.aload_n 0, 1) := by decide +kernel
theorem dX12_ends_65 : decode cX12_ends 65 = .ok (.getfield 15, 3) := by decide +kernel
theorem dX12_ends_68 : decode cX12_ends 68 = .ok (.iconst 4, 1) := by decide +kernel
theorem dX12_ends_69 : decode cX12_ends 69 = .ok (.iload_n 1, 1) := by decide +kernel
theorem dX12_ends_70 : decode cX12_ends 70 = .ok (.imul, 1) := by decide +kernel
theorem dX12_ends_71 : decode cX12_ends 71 = .ok (.iload_n 2, 1) := by decide +kernel
theorem dX12_ends_72 : decode cX12_ends 72 = .ok (.iadd, 1) := by decide +kernel
theorem dX12_ends_73 : decode cX12_ends 73 = .ok (.aload_n 0, 1) := by decide +kernel
theorem dX12_ends_74 : decode cX12_ends 74 = .ok (.getfield 15, 3) := by decide +kernel
theorem dX12_ends_77 : decode cX12_ends 77 = .ok (.iconst 4, 1) := by decide +kernel
theorem dX12_ends_78 : decode cX12_ends 78 = .ok (.iload_n 1, 1) := by decide +kernel
theorem dX12_ends_79 : decode cX12_ends 79 = .ok (.imul, 1) := by decide +kernel
theorem dX12_ends_80 : decode cX12_ends 80 = .ok (.iload_n 2, 1) := by decide +kernel
theorem dX12_ends_81 : decode cX12_ends 81 = .ok (.iadd, 1) := by decide +kernel
theorem dX12_ends_82 : decode cX12_ends 82 = .ok (.iconst 1, 1) := by decide +kernel
theorem dX12_ends_83 : decode cX12_ends 83 = .ok (.iadd, 1) := by decide +kernel
theorem dX12_ends_84 : decode cX12_ends 84 = .ok (.iaload, 1) := by decide +kernel
theorem dX12_ends_85 : decode cX12_ends 85 = .ok (.iastore, 1) := by decide +kernel
theorem dX12_ends_86 : decode cX12_ends 86 = .ok (.aload_n 0, 1) := by decide +kernel
theorem dX12_ends_87 : decode cX12_ends 87 = .ok (.getfield 18, 3) := by decide +kernel
theorem dX12_ends_90 : decode cX12_ends 90 = .ok (.iconst 4, 1) := by decide +kernel
theorem dX12_ends_91 : decode cX12_ends 91 = .ok (.iload_n 1, 1) := by decide +kernel
theorem dX12_ends_92 : decode cX12_ends 92 = .ok (.imul, 1) := by decide +kernel
theorem dX12_ends_93 : decode cX12_ends 93 = .ok (.iload_n 2, 1) := by decide +kernel
theorem dX12_ends_94 : decode cX12_ends 94 = .ok (.iadd, 1) := by decide +kernel
theorem dX12_ends_95 : decode cX12_ends 95 = .ok (.aload_n 0, 1) := by decide +kernel
theorem dX12_ends_96 : decode cX12_ends 96 = .ok (.getfield 18, 3) := by decide +kernel
theorem dX12_ends_99 : decode cX12_ends 99 = .ok (.iconst 4, 1) := by decide +kernel
theorem dX12_ends_100 : decode cX12_ends 100 = .ok (.iload_n 1, 1) := by decide +kernel
theorem dX12_ends_101 : decode cX12_ends 101 = .ok (.imul, 1) := by decide +kernel
theorem dX12_ends_102 : decode cX12_ends 102 = .ok (.iload_n 2, 1) := by decide +kernel
theorem dX12_ends_103 : decode cX12_ends 103 = .ok (.iadd, 1) := by decide +kernel
theorem dX12_ends_104 : decode cX12_ends 104 = .ok (.iconst 1, 1) := by decide +kernel
theorem dX12_ends_105 : decode cX12_ends 105 = .ok (.iadd, 1) := by decide +kernel
theorem dX12_ends_106 : decode cX12_ends 106 = .ok (.iaload, 1) := by decide +kernel
theorem dX12_ends_107 : decode cX12_ends 107 = .ok (.iastore, 1) := by decide +kernel
theorem dX12_ends_108 : decode cX12_ends 108 = .ok (.iinc 2 1, 3) := by decide +kernel
theorem dX12_ends_111 : decode cX12_ends 111 = .ok (.goto (-60), 3) := by decide +kernel
theorem dX12_ends_114 : decode cX12_ends 114 = .ok (.aload_n 0, 1) := by decide +kernel
theorem dX12_ends_115 : decode cX12_ends 115 = .ok (.getfield 9, 3) := by decide +kernel
theorem dX12_ends_118 : decode cX12_ends 118 = .ok (.bipush 42, 2) := by decide +kernel
theorem dX12_ends_120 : decode cX12_ends 120 = .ok (.iload_n 1, 1) := by decide +kernel
theorem dX12_ends_121 : decode cX12_ends 121 = .ok (.iadd, 1) := by decide +kernel
theorem dX12_ends_122 : decode cX12_ends 122 = .ok (.iaload, 1) := by decide +kernel
theorem dX12_ends_123 : decode cX12_ends 123 = .ok (.ifCond .ne 16, 3) := by decide +kernel
theorem dX12_ends_126 : decode cX12_ends 126 = .ok (.aload_n 0, 1) := by decide +kernel
theorem dX12_ends_127 : decode cX12_ends 127 = .ok (.getfield 9, 3) := by decide +kernel
theorem dX12_ends_130 : decode cX12_ends 130 = .ok (.bipush 36, 2) := by decide +kernel
theorem dX12_ends_132 : decode cX12_ends 132 = .ok (.iload_n 1, 1) := by decide +kernel
theorem dX12_ends_133 : decode cX12_ends 133 = .ok (.iadd, 1) := by decide +kernel
theorem dX12_ends_134 : decode cX12_ends 134 = .ok (.iconst 3, 1) := by decide +kernel
theorem dX12_ends_135 : decode cX12_ends 135 = .ok (.iastore, 1) := by decide +kernel
theorem dX12_ends_136 : decode cX12_ends 136 = .ok (.goto 21, 3) := by decide +kernel
theorem dX12_ends_139 : decode cX12_ends 139 = .ok (.aload_n 0, 1) := by decide +kernel
theorem dX12_ends_140 : decode cX12_ends 140 = .ok (.getfield 9, 3) := by decide +kernel
theorem dX12_ends_143 : decode cX12_ends 143 = .ok (.bipush 60, 2) := by decide +kernel
theorem dX12_ends_145 : decode cX12_ends 145 = .ok (.iload_n 1, 1) := by decide +kernel
theorem dX12_ends_146 : decode cX12_ends 146 = .ok (.iadd, 1) := by decide +kernel
theorem dX12_ends_147 : decode cX12_ends 147 = .ok (.aload_n 0, 1) := by decide +kernel
theorem dX12_ends_148 : decode cX12_ends 148 = .ok (.getfield 9, 3) := by decide +kernel
theorem dX12_ends_151 : decode cX12_ends 151 = .ok (.bipush 30, 2) := by decide +kernel
theorem dX12_ends_153 : decode cX12_ends 153 = .ok (.iload_n 1, 1) := by decide +kernel
theorem dX12_ends_154 : decode cX12_ends 154 = .ok (.iadd, 1) := by decide +kernel
theorem dX12_ends_155 : decode cX12_ends 155 = .ok (.iaload, 1) := by decide +kernel
theorem dX12_ends_156 : decode cX12_ends 156 = .ok (.iastore, 1) := by decide +kernel
theorem dX12_ends_157 : decode cX12_ends 157 = .ok (.return_, 1) := by decide +kernel
theorem dX12_holder_0 : decode cX12_holder 0 = .ok (.iconst 0, 1) := by decide +kernel
theorem dX12_holder_1 : decode cX12_holder 1 = .ok (.istore_n 2, 1) := by decide +kernel
theorem dX12_holder_2 : decode cX12_holder 2 = .ok (.iload_n 2, 1) := by decide +kernel
theorem dX12_holder_3 : decode cX12_holder 3 = .ok (.aload_n 0, 1) := by decide +kernel
theorem dX12_holder_4 : decode cX12_holder 4 = .ok (.getfield 51, 3) := by decide +kernel
theorem dX12_holder_7 : decode cX12_holder 7 = .ok (.if_icmp .ge 48, 3) := by decide +kernel
theorem dX12_holder_10 : decode cX12_holder 10 = .ok (.aload_n 0, 1) := by decide +kernel
theorem dX12_holder_11 : decode cX12_holder 11 = .ok (.getfield 9, 3) := by decide +kernel
theorem dX12_holder_14 : decode cX12_holder 14 = .ok (.bipush 42, 2) := by decide +kernel
theorem dX12_holder_16 : decode cX12_holder 16 = .ok (.iload_n 2, 1) := by decide +kernel
theorem dX12_holder_17 : decode cX12_holder 17 = .ok (.iadd, 1) := by decide +kernel
theorem dX12_holder_18 : decode cX12_holder 18 = .ok (.iaload, 1) := by decide +kernel
theorem dX12_holder_19 : decode cX12_holder 19 = .ok (.ifCond .le 30, 3) := by decide +kernel
theorem dX12_holder_22 : decode cX12_holder 22 = .ok (.aload_n 0, 1) := by decide +kernel
theorem dX12_holder_23 : decode cX12_holder 23 = .ok (.getfield 9, 3) := by decide +kernel
theorem dX12_holder_26 : decode cX12_holder 26 = .ok (.bipush 66, 2) := by decide +kernel
theorem dX12_holder_28 : decode cX12_holder 28 = .ok (.iload_n 2, 1) := by decide +kernel
theorem dX12_holder_29 : decode cX12_holder 29 = .ok (.iadd, 1) := by decide +kernel
theorem dX12_holder_30 : decode cX12_holder 30 = .ok (.iaload, 1) := by decide +kernel
theorem dX12_holder_31 : decode cX12_holder 31 = .ok (.iconst 1, 1) := by decide +kernel
theorem dX12_holder_32 : decode cX12_holder 32 = .ok (.if_icmp .ne 17, 3) := by decide +kernel
theorem dX12_holder_35 : decode cX12_holder 35 = .ok (.aload_n 0, 1) := by decide +kernel
theorem dX12_holder_36 : decode cX12_holder 36 = .ok (.getfield 18, 3) := by decide +kernel
theorem dX12_holder_39 : decode cX12_holder 39 = .ok (.iconst 4, 1) := by decide +kernel
theorem dX12_holder_40 : decode cX12_holder 40 = .ok (.iload_n 2, 1) := by decide +kernel
theorem dX12_holder_41 : decode cX12_holder 41 = .ok (.imul, 1) := by decide +kernel
theorem dX12_holder_42 : decode cX12_holder 42 = .ok (.iaload, 1) := by decide +kernel
theorem dX12_holder_43 : decode cX12_holder 43 = .ok (.iload_n 1, 1) := by decide +kernel
theorem dX12_holder_44 : decode cX12_holder 44 = .ok (.if_icmp .ne 5, 3) := by decide +kernel
theorem dX12_holder_47 : decode cX12_holder 47 = .ok (.iload_n 2, 1) := by decide +kernel
theorem dX12_holder_48 : decode cX12_holder 48 = .ok (.ireturn, 1) := by decide +kernel
theorem dX12_holder_49 : decode cX12_holder 49 = .ok (.iinc 2 1, 3) := by decide +kernel
theorem dX12_holder_52 : decode cX12_holder 52 = .ok (.goto (-50), 3) := by decide +kernel
theorem dX12_holder_55 : decode cX12_holder 55 = .ok (.bipush (-4), 2) := by decide +kernel
theorem dX12_holder_57 : decode cX12_holder 57 = .ok (.ireturn, 1) := by decide +kernel
set_option maxRecDepth 20000 in
theorem gwX12_wakes : wsX12_wakes.all goodWord = true := by decide +kernel
set_option maxRecDepth 20000 in
theorem ggX12_begins_X12_wakes : GoodIn wsX12_begins wsX12_wakes := goodIn_r _ [8, 2, 13, 14, 15, 16, 17, 18, 19, 20, 21, 22, 23, 24, 25, 26, 27, 28, 29, 30, 31, 32, 33, 34] rfl gwX12_wakes
set_option maxRecDepth 20000 in
theorem gX12_begins_X12_wakes : GoodIn wsX12_begins (wsV RX12 91 RX12 yX12_wakes wsX12_wakes) := goodIn_app (goodIn_r _ [4, 5, 6, 7] rfl (by decide +kernel)) ggX12_begins_X12_wakes
set_option maxRecDepth 20000 in
theorem ggX12_begins_X12_ahead : GoodIn wsX12_begins wsX12_ahead := goodIn_r _ [12, 2, 3, 13, 14, 15, 16, 17, 18, 19, 20, 21, 22, 23, 24, 25, 26, 27, 28, 29, 30, 31, 32, 33, 34] rfl gwX12_ahead
set_option maxRecDepth 20000 in
theorem gX12_begins_X12_ahead : GoodIn wsX12_begins (wsV RX12 89 RX12 yX12_ahead wsX12_ahead) := goodIn_app (goodIn_r _ [9, 10, 11, 7] rfl (by decide +kernel)) ggX12_begins_X12_ahead
theorem dX12_begins_0 : decode cX12_begins 0 = .ok (.iconst 0, 1) := by decide +kernel
theorem dX12_begins_1 : decode cX12_begins 1 = .ok (.istore_n 1, 1) := by decide +kernel
theorem dX12_begins_2 : decode cX12_begins 2 = .ok (.iload_n 1, 1) := by decide +kernel
theorem dX12_begins_3 : decode cX12_begins 3 = .ok (.aload_n 0, 1) := by decide +kernel
theorem dX12_begins_4 : decode cX12_begins 4 = .ok (.getfield 51, 3) := by decide +kernel
theorem dX12_begins_7 : decode cX12_begins 7 = .ok (.if_icmp .ge 43, 3) := by decide +kernel
theorem dX12_begins_10 : decode cX12_begins 10 = .ok (.aload_n 0, 1) := by decide +kernel
theorem dX12_begins_11 : decode cX12_begins 11 = .ok (.getfield 9, 3) := by decide +kernel
theorem dX12_begins_14 : decode cX12_begins 14 = .ok (.bipush 36, 2) := by decide +kernel
theorem dX12_begins_16 : decode cX12_begins 16 = .ok (.iload_n 1, 1) := by decide +kernel
theorem dX12_begins_17 : decode cX12_begins 17 = .ok (.iadd, 1) := by decide +kernel
theorem dX12_begins_18 : decode cX12_begins 18 = .ok (.iaload, 1) := by decide +kernel
theorem dX12_begins_19 : decode cX12_begins 19 = .ok (.iconst 2, 1) := by decide +kernel
theorem dX12_begins_20 : decode cX12_begins 20 = .ok (.if_icmp .ne 24, 3) := by decide +kernel
theorem dX12_begins_23 : decode cX12_begins 23 = .ok (.aload_n 0, 1) := by decide +kernel
theorem dX12_begins_24 : decode cX12_begins 24 = .ok (.getfield 9, 3) := by decide +kernel
theorem dX12_begins_27 : decode cX12_begins 27 = .ok (.bipush 30, 2) := by decide +kernel
theorem dX12_begins_29 : decode cX12_begins 29 = .ok (.iload_n 1, 1) := by decide +kernel
theorem dX12_begins_30 : decode cX12_begins 30 = .ok (.iadd, 1) := by decide +kernel
theorem dX12_begins_31 : decode cX12_begins 31 = .ok (.iaload, 1) := by decide +kernel
theorem dX12_begins_32 : decode cX12_begins 32 = .ok (.aload_n 0, 1) := by decide +kernel
theorem dX12_begins_33 : decode cX12_begins 33 = .ok (.getfield 86, 3) := by decide +kernel
theorem dX12_begins_36 : decode cX12_begins 36 = .ok (.if_icmp .gt 8, 3) := by decide +kernel
theorem dX12_begins_39 : decode cX12_begins 39 = .ok (.aload_n 0, 1) := by decide +kernel
theorem dX12_begins_40 : decode cX12_begins 40 = .ok (.iload_n 1, 1) := by decide +kernel
theorem dX12_begins_41 : decode cX12_begins 41 = .ok (.invokevirtual 91, 3) := by decide +kernel
theorem dX12_begins_44 : decode cX12_begins 44 = .ok (.iinc 1 1, 3) := by decide +kernel
theorem dX12_begins_47 : decode cX12_begins 47 = .ok (.goto (-45), 3) := by decide +kernel
theorem dX12_begins_50 : decode cX12_begins 50 = .ok (.iconst 0, 1) := by decide +kernel
theorem dX12_begins_51 : decode cX12_begins 51 = .ok (.istore_n 1, 1) := by decide +kernel
theorem dX12_begins_52 : decode cX12_begins 52 = .ok (.iload_n 1, 1) := by decide +kernel
theorem dX12_begins_53 : decode cX12_begins 53 = .ok (.aload_n 0, 1) := by decide +kernel
theorem dX12_begins_54 : decode cX12_begins 54 = .ok (.getfield 51, 3) := by decide +kernel
theorem dX12_begins_57 : decode cX12_begins 57 = .ok (.if_icmp .ge 40, 3) := by decide +kernel
theorem dX12_begins_60 : decode cX12_begins 60 = .ok (.aload_n 0, 1) := by decide +kernel
theorem dX12_begins_61 : decode cX12_begins 61 = .ok (.getfield 9, 3) := by decide +kernel
theorem dX12_begins_64 : decode cX12_begins 64 = .ok (.bipush 36, 2) := by decide +kernel
theorem dX12_begins_66 : decode cX12_begins 66 = .ok (.iload_n 1, 1) := by decide +kernel
theorem dX12_begins_67 : decode cX12_begins 67 = .ok (.iadd, 1) := by decide +kernel
theorem dX12_begins_68 : decode cX12_begins 68 = .ok (.iaload, 1) := by decide +kernel
theorem dX12_begins_69 : decode cX12_begins 69 = .ok (.iconst 3, 1) := by decide +kernel
theorem dX12_begins_70 : decode cX12_begins 70 = .ok (.if_icmp .ne 21, 3) := by decide +kernel
theorem dX12_begins_73 : decode cX12_begins 73 = .ok (.aload_n 0, 1) := by decide +kernel
theorem dX12_begins_74 : decode cX12_begins 74 = .ok (.iload_n 1, 1) := by decide +kernel
theorem dX12_begins_75 : decode cX12_begins 75 = .ok (.invokevirtual 89, 3) := by decide +kernel
theorem dX12_begins_78 : decode cX12_begins 78 = .ok (.ifCond .gt 13, 3) := by decide +kernel
theorem dX12_begins_81 : decode cX12_begins 81 = .ok (.aload_n 0, 1) := by decide +kernel
theorem dX12_begins_82 : decode cX12_begins 82 = .ok (.getfield 9, 3) := by decide +kernel
theorem dX12_begins_85 : decode cX12_begins 85 = .ok (.bipush 36, 2) := by decide +kernel
theorem dX12_begins_87 : decode cX12_begins 87 = .ok (.iload_n 1, 1) := by decide +kernel
theorem dX12_begins_88 : decode cX12_begins 88 = .ok (.iadd, 1) := by decide +kernel
theorem dX12_begins_89 : decode cX12_begins 89 = .ok (.iconst 0, 1) := by decide +kernel
theorem dX12_begins_90 : decode cX12_begins 90 = .ok (.iastore, 1) := by decide +kernel
theorem dX12_begins_91 : decode cX12_begins 91 = .ok (.iinc 1 1, 3) := by decide +kernel
theorem dX12_begins_94 : decode cX12_begins 94 = .ok (.goto (-42), 3) := by decide +kernel
theorem dX12_begins_97 : decode cX12_begins 97 = .ok (.return_, 1) := by decide +kernel
theorem dX12_earliest_0 : decode cX12_earliest 0 = .ok (.bipush (-4), 2) := by decide +kernel
theorem dX12_earliest_2 : decode cX12_earliest 2 = .ok (.istore_n 1, 1) := by decide +kernel
theorem dX12_earliest_3 : decode cX12_earliest 3 = .ok (.iconst 0, 1) := by decide +kernel
theorem dX12_earliest_4 : decode cX12_earliest 4 = .ok (.istore_n 2, 1) := by decide +kernel
theorem dX12_earliest_5 : decode cX12_earliest 5 = .ok (.iload_n 2, 1) := by decide +kernel
theorem dX12_earliest_6 : decode cX12_earliest 6 = .ok (.aload_n 0, 1) := by decide +kernel
theorem dX12_earliest_7 : decode cX12_earliest 7 = .ok (.getfield 51, 3) := by decide +kernel
theorem dX12_earliest_10 : decode cX12_earliest 10 = .ok (.if_icmp .ge 51, 3) := by decide +kernel
theorem dX12_earliest_13 : decode cX12_earliest 13 = .ok (.aload_n 0, 1) := by decide +kernel
theorem dX12_earliest_14 : decode cX12_earliest 14 = .ok (.getfield 9, 3) := by decide +kernel
theorem dX12_earliest_17 : decode cX12_earliest 17 = .ok (.bipush 36, 2) := by decide +kernel
theorem dX12_earliest_19 : decode cX12_earliest 19 = .ok (.iload_n 2, 1) := by decide +kernel
theorem dX12_earliest_20 : decode cX12_earliest 20 = .ok (.iadd, 1) := by decide +kernel
theorem dX12_earliest_21 : decode cX12_earliest 21 = .ok (.iaload, 1) := by decide +kernel
theorem dX12_earliest_22 : decode cX12_earliest 22 = .ok (.iconst 1, 1) := by decide +kernel
theorem dX12_earliest_23 : decode cX12_earliest 23 = .ok (.if_icmp .ne 32, 3) := by decide +kernel
theorem dX12_earliest_26 : decode cX12_earliest 26 = .ok (.iload_n 1, 1) := by decide +kernel
theorem dX12_earliest_27 : decode cX12_earliest 27 = .ok (.bipush (-4), 2) := by decide +kernel
theorem dX12_earliest_29 : decode cX12_earliest 29 = .ok (.if_icmp .eq 24, 3) := by decide +kernel
theorem dX12_earliest_32 : decode cX12_earliest 32 = .ok (.aload_n 0, 1) := by decide +kernel
theorem dX12_earliest_33 : decode cX12_earliest 33 = .ok (.getfield 9, 3) := by decide +kernel
theorem dX12_earliest_36 : decode cX12_earliest 36 = .ok (.bipush 30, 2) := by decide +kernel
theorem dX12_earliest_38 : decode cX12_earliest 38 = .ok (.iload_n 2, 1) := by decide +kernel
theorem dX12_earliest_39 : decode cX12_earliest 39 = .ok (.iadd, 1) := by decide +kernel
theorem dX12_earliest_40 : decode cX12_earliest 40 = .ok (.iaload, 1) := by decide +kernel
theorem dX12_earliest_41 : decode cX12_earliest 41 = .ok (.aload_n 0, 1) := by decide +kernel
theorem dX12_earliest_42 : decode cX12_earliest 42 = .ok (.getfield 9, 3) := by decide +kernel
theorem dX12_earliest_45 : decode cX12_earliest 45 = .ok (.bipush 30, 2) := by decide +kernel
theorem dX12_earliest_47 : decode cX12_earliest 47 = .ok (.iload_n 1, 1) := by decide +kernel
theorem dX12_earliest_48 : decode cX12_earliest 48 = .ok (.iadd, 1) := by decide +kernel
theorem dX12_earliest_49 : decode cX12_earliest 49 = .ok (.iaload, 1) := by decide +kernel
theorem dX12_earliest_50 : decode cX12_earliest 50 = .ok (.if_icmp .ge 5, 3) := by decide +kernel
theorem dX12_earliest_53 : decode cX12_earliest 53 = .ok (.iload_n 2, 1) := by decide +kernel
theorem dX12_earliest_54 : decode cX12_earliest 54 = .ok (.istore_n 1, 1) := by decide +kernel
theorem dX12_earliest_55 : decode cX12_earliest 55 = .ok (.iinc 2 1, 3) := by decide +kernel
theorem dX12_earliest_58 : decode cX12_earliest 58 = .ok (.goto (-53), 3) := by decide +kernel
theorem dX12_earliest_61 : decode cX12_earliest 61 = .ok (.iload_n 1, 1) := by decide +kernel
theorem dX12_earliest_62 : decode cX12_earliest 62 = .ok (.ireturn, 1) := by decide +kernel
set_option maxRecDepth 20000 in
theorem gwX12_begins : wsX12_begins.all goodWord = true := by decide +kernel
set_option maxRecDepth 20000 in
theorem ggX12_goesBy_X12_begins : GoodIn wsX12_goesBy wsX12_begins := goodIn_r _ [15, 16, 5, 6, 17, 18, 19, 14, 20, 21, 22, 23, 24, 64, 65, 66, 67, 68, 69, 70, 71, 72, 73, 74, 75, 76, 77, 78, 79, 80, 81, 82, 83, 84, 85] rfl gwX12_begins
set_option maxRecDepth 20000 in
theorem gX12_goesBy_X12_begins : GoodIn wsX12_goesBy (wsV RX12 95 RX12 yX12_begins wsX12_begins) := goodIn_app (goodIn_r _ [11, 12, 13, 14] rfl (by decide +kernel)) ggX12_goesBy_X12_begins
set_option maxRecDepth 20000 in
theorem gwX12_earliest : wsX12_earliest.all goodWord = true := by decide +kernel
set_option maxRecDepth 20000 in
theorem ggX12_goesBy_X12_earliest : GoodIn wsX12_goesBy wsX12_earliest := goodIn_r _ [28, 16, 5, 64, 65, 66, 67, 68, 69, 70, 71, 72, 73, 74, 75, 76, 77, 78, 79, 80, 81, 82, 83, 84, 85] rfl gwX12_earliest
set_option maxRecDepth 20000 in
theorem gX12_goesBy_X12_earliest : GoodIn wsX12_goesBy (wsV RX12 98 RX12 yX12_earliest wsX12_earliest) := goodIn_app (goodIn_r _ [25, 26, 27, 14] rfl (by decide +kernel)) ggX12_goesBy_X12_earliest
set_option maxRecDepth 20000 in
theorem gwX12_holder : wsX12_holder.all goodWord = true := by decide +kernel
set_option maxRecDepth 20000 in
theorem ggX12_goesBy_X12_holder : GoodIn wsX12_goesBy wsX12_holder := goodIn_r _ [32, 16, 5, 3, 64, 65, 66, 67, 68, 69, 70, 71, 72, 73, 74, 75, 76, 77, 78, 79, 80, 81, 82, 83, 84, 85] rfl gwX12_holder
set_option maxRecDepth 20000 in
theorem gX12_goesBy_X12_holder : GoodIn wsX12_goesBy (wsV RX12 107 RX12 yX12_holder wsX12_holder) := goodIn_app (goodIn_r _ [29, 30, 31, 14] rfl (by decide +kernel)) ggX12_goesBy_X12_holder
set_option maxRecDepth 20000 in
theorem gwX12_pays : wsX12_pays.all goodWord = true := by decide +kernel
set_option maxRecDepth 20000 in
theorem ggX12_goesBy_X12_pays : GoodIn wsX12_goesBy wsX12_pays := goodIn_r _ [36, 5, 37, 38, 9, 39, 40, 41, 42, 14, 43, 7, 8, 10, 44, 45, 46, 47, 16, 48, 49, 50, 51, 64, 65, 66, 67, 68, 69, 70, 71, 72, 73, 74, 75, 76, 77, 78, 79, 80, 81, 82, 83, 84, 85] rfl gwX12_pays
set_option maxRecDepth 20000 in
theorem gX12_goesBy_X12_pays : GoodIn wsX12_goesBy (wsV RX12 110 RX12 yX12_pays wsX12_pays) := goodIn_app (goodIn_r _ [33, 34, 35, 14] rfl (by decide +kernel)) ggX12_goesBy_X12_pays
set_option maxRecDepth 20000 in
theorem gwX12_ends : wsX12_ends.all goodWord = true := by decide +kernel
set_option maxRecDepth 20000 in
theorem ggX12_goesBy_X12_ends : GoodIn wsX12_goesBy wsX12_ends := goodIn_r _ [55, 5, 7, 8, 9, 10, 4, 3, 64, 65, 66, 67, 68, 69, 70, 71, 72, 73, 74, 75, 76, 77, 78, 79, 80, 81, 82, 83, 84, 85] rfl gwX12_ends
set_option maxRecDepth 20000 in
theorem gX12_goesBy_X12_ends : GoodIn wsX12_goesBy (wsV RX12 113 RX12 yX12_ends wsX12_ends) := goodIn_app (goodIn_r _ [52, 53, 54, 14] rfl (by decide +kernel)) ggX12_goesBy_X12_ends
set_option maxRecDepth 20000 in
theorem gwX12_refills : wsX12_refills.all goodWord = true := by decide +kernel
set_option maxRecDepth 20000 in
theorem ggX12_goesBy_X12_refills : GoodIn wsX12_goesBy wsX12_refills := goodIn_r _ [59, 5, 60, 61, 62, 14, 63, 64, 65, 66, 67, 68, 69, 70, 71, 72, 73, 74, 75, 76, 77, 78, 79, 80, 81, 82, 83, 84, 85] rfl gwX12_refills
set_option maxRecDepth 20000 in
theorem gX12_goesBy_X12_refills : GoodIn wsX12_goesBy (wsV RX12 116 RX12 yX12_refills wsX12_refills) := goodIn_app (goodIn_r _ [56, 57, 58, 14] rfl (by decide +kernel)) ggX12_goesBy_X12_refills
theorem dX12_goesBy_0 : decode cX12_goesBy 0 = .ok (.aload_n 0, 1) := by decide +kernel
theorem dX12_goesBy_1 : decode cX12_goesBy 1 = .ok (.invokevirtual 95, 3) := by decide +kernel
theorem dX12_goesBy_4 : decode cX12_goesBy 4 = .ok (.aload_n 0, 1) := by decide +kernel
theorem dX12_goesBy_5 : decode cX12_goesBy 5 = .ok (.iload_n 1, 1) := by decide +kernel
theorem dX12_goesBy_6 : decode cX12_goesBy 6 = .ok (.ifCond .eq 8, 3) := by decide +kernel
theorem dX12_goesBy_9 : decode cX12_goesBy 9 = .ok (.bipush (-4), 2) := by decide +kernel
theorem dX12_goesBy_11 : decode cX12_goesBy 11 = .ok (.goto 7, 3) := by decide +kernel
theorem dX12_goesBy_14 : decode cX12_goesBy 14 = .ok (.aload_n 0, 1) := by decide +kernel
theorem dX12_goesBy_15 : decode cX12_goesBy 15 = .ok (.invokevirtual 98, 3) := by decide +kernel
theorem dX12_goesBy_18 : decode cX12_goesBy 18 = .ok (.putfield 101, 3) := by decide +kernel
theorem dX12_goesBy_21 : decode cX12_goesBy 21 = .ok (.aload_n 0, 1) := by decide +kernel
theorem dX12_goesBy_22 : decode cX12_goesBy 22 = .ok (.aload_n 0, 1) := by decide +kernel
theorem dX12_goesBy_23 : decode cX12_goesBy 23 = .ok (.getfield 101, 3) := by decide +kernel
theorem dX12_goesBy_26 : decode cX12_goesBy 26 = .ok (.putfield 104, 3) := by decide +kernel
theorem dX12_goesBy_29 : decode cX12_goesBy 29 = .ok (.aload_n 0, 1) := by decide +kernel
theorem dX12_goesBy_30 : decode cX12_goesBy 30 = .ok (.getfield 101, 3) := by decide +kernel
theorem dX12_goesBy_33 : decode cX12_goesBy 33 = .ok (.bipush (-4), 2) := by decide +kernel
theorem dX12_goesBy_35 : decode cX12_goesBy 35 = .ok (.if_icmp .eq 224, 3) := by decide +kernel
theorem dX12_goesBy_38 : decode cX12_goesBy 38 = .ok (.aload_n 0, 1) := by decide +kernel
theorem dX12_goesBy_39 : decode cX12_goesBy 39 = .ok (.getfield 18, 3) := by decide +kernel
theorem dX12_goesBy_42 : decode cX12_goesBy 42 = .ok (.iconst 4, 1) := by decide +kernel
theorem dX12_goesBy_43 : decode cX12_goesBy 43 = .ok (.aload_n 0, 1) := by decide +kernel
theorem dX12_goesBy_44 : decode cX12_goesBy 44 = .ok (.getfield 101, 3) := by decide +kernel
theorem dX12_goesBy_47 : decode cX12_goesBy 47 = .ok (.imul, 1) := by decide +kernel
theorem dX12_goesBy_48 : decode cX12_goesBy 48 = .ok (.iaload, 1) := by decide +kernel
theorem dX12_goesBy_49 : decode cX12_goesBy 49 = .ok (.istore_n 2, 1) := by decide +kernel
theorem dX12_goesBy_50 : decode cX12_goesBy 50 = .ok (.iload_n 2, 1) := by decide +kernel
theorem dX12_goesBy_51 : decode cX12_goesBy 51 = .ok (.iconst 3, 1) := by decide +kernel
theorem dX12_goesBy_52 : decode cX12_goesBy 52 = .ok (.if_icmp .ge 11, 3) := by decide +kernel
theorem dX12_goesBy_55 : decode cX12_goesBy 55 = .ok (.aload_n 0, 1) := by decide +kernel
theorem dX12_goesBy_56 : decode cX12_goesBy 56 = .ok (.iload_n 2, 1) := by decide +kernel
theorem dX12_goesBy_57 : decode cX12_goesBy 57 = .ok (.invokevirtual 107, 3) := by decide +kernel
theorem dX12_goesBy_60 : decode cX12_goesBy 60 = .ok (.goto 5, 3) := by decide +kernel
theorem dX12_goesBy_63 : decode cX12_goesBy 63 = .ok (.bipush (-4), 2) := by decide +kernel
theorem dX12_goesBy_65 : decode cX12_goesBy 65 = .ok (.istore_n 3, 1) := by decide +kernel
theorem dX12_goesBy_66 : decode cX12_goesBy 66 = .ok (.iload_n 3, 1) := by decide +kernel
theorem dX12_goesBy_67 : decode cX12_goesBy 67 = .ok (.bipush (-4), 2) := by decide +kernel
theorem dX12_goesBy_69 : decode cX12_goesBy 69 = .ok (.if_icmp .eq 8, 3) := by decide +kernel
theorem dX12_goesBy_72 : decode cX12_goesBy 72 = .ok (.aload_n 0, 1) := by decide +kernel
theorem dX12_goesBy_73 : decode cX12_goesBy 73 = .ok (.iload_n 3, 1) := by decide +kernel
theorem dX12_goesBy_74 : decode cX12_goesBy 74 = .ok (.putfield 104, 3) := by decide +kernel
theorem dX12_goesBy_77 : decode cX12_goesBy 77 = .ok (.aload_n 0, 1) := by decide +kernel
theorem dX12_goesBy_78 : decode cX12_goesBy 78 = .ok (.getfield 15, 3) := by decide +kernel
theorem dX12_goesBy_81 : decode cX12_goesBy 81 = .ok (.iconst 4, 1) := by decide +kernel
theorem dX12_goesBy_82 : decode cX12_goesBy 82 = .ok (.aload_n 0, 1) := by decide +kernel
theorem dX12_goesBy_83 : decode cX12_goesBy 83 = .ok (.getfield 104, 3) := by decide +kernel
theorem dX12_goesBy_86 : decode cX12_goesBy 86 = .ok (.imul, 1) := by decide +kernel
theorem dX12_goesBy_87 : decode cX12_goesBy 87 = .ok (.dup2, 1) := by decide +kernel
theorem dX12_goesBy_88 : decode cX12_goesBy 88 = .ok (.iaload, 1) := by decide +kernel
theorem dX12_goesBy_89 : decode cX12_goesBy 89 = .ok (.iconst 1, 1) := by decide +kernel
theorem dX12_goesBy_90 : decode cX12_goesBy 90 = .ok (.isub, 1) := by decide +kernel
theorem dX12_goesBy_91 : decode cX12_goesBy 91 = .ok (.iastore, 1) := by decide +kernel
theorem dX12_goesBy_92 : decode cX12_goesBy 92 = .ok (.aload_n 0, 1) := by decide +kernel
theorem dX12_goesBy_93 : decode cX12_goesBy 93 = .ok (.getfield 9, 3) := by decide +kernel
theorem dX12_goesBy_96 : decode cX12_goesBy 96 = .ok (.bipush 66, 2) := by decide +kernel
theorem dX12_goesBy_98 : decode cX12_goesBy 98 = .ok (.aload_n 0, 1) := by decide +kernel
theorem dX12_goesBy_99 : decode cX12_goesBy 99 = .ok (.getfield 104, 3) := by decide +kernel
theorem dX12_goesBy_102 : decode cX12_goesBy 102 = .ok (.iadd, 1) := by decide +kernel
theorem dX12_goesBy_103 : decode cX12_goesBy 103 = .ok (.aload_n 0, 1) := by decide +kernel
theorem dX12_goesBy_104 : decode cX12_goesBy 104 = .ok (.getfield 18, 3) := by decide +kernel
theorem dX12_goesBy_107 : decode cX12_goesBy 107 = .ok (.iconst 4, 1) := by decide +kernel
theorem dX12_goesBy_108 : decode cX12_goesBy 108 = .ok (.aload_n 0, 1) := by decide +kernel
theorem dX12_goesBy_109 : decode cX12_goesBy 109 = .ok (.getfield 104, 3) := by decide +kernel
theorem dX12_goesBy_112 : decode cX12_goesBy 112 = .ok (.imul, 1) := by decide +kernel
theorem dX12_goesBy_113 : decode cX12_goesBy 113 = .ok (.iaload, 1) := by decide +kernel
theorem dX12_goesBy_114 : decode cX12_goesBy 114 = .ok (.iconst 3, 1) := by decide +kernel
theorem dX12_goesBy_115 : decode cX12_goesBy 115 = .ok (.if_icmp .ge 7, 3) := by decide +kernel
theorem dX12_goesBy_118 : decode cX12_goesBy 118 = .ok (.iconst 1, 1) := by decide +kernel
theorem dX12_goesBy_119 : decode cX12_goesBy 119 = .ok (.goto 4, 3) := by decide +kernel
theorem dX12_goesBy_122 : decode cX12_goesBy 122 = .ok (.iconst 0, 1) := by decide +kernel
theorem dX12_goesBy_123 : decode cX12_goesBy 123 = .ok (.iastore, 1) := by decide +kernel
theorem dX12_goesBy_124 : decode cX12_goesBy 124 = .ok (.aload_n 0, 1) := by decide +kernel
theorem dX12_goesBy_125 : decode cX12_goesBy 125 = .ok (.getfield 9, 3) := by decide +kernel
theorem dX12_goesBy_128 : decode cX12_goesBy 128 = .ok (.bipush 24, 2) := by decide +kernel
theorem dX12_goesBy_130 : decode cX12_goesBy 130 = .ok (.aload_n 0, 1) := by decide +kernel
theorem dX12_goesBy_131 : decode cX12_goesBy 131 = .ok (.getfield 101, 3) := by decide +kernel
theorem dX12_goesBy_134 : decode cX12_goesBy 134 = .ok (.iadd, 1) := by decide +kernel
theorem dX12_goesBy_135 : decode cX12_goesBy 135 = .ok (.dup2, 1) := by decide +kernel
theorem dX12_goesBy_136 : decode cX12_goesBy 136 = .ok (.iaload, 1) := by decide +kernel
theorem dX12_goesBy_137 : decode cX12_goesBy 137 = .ok (.aload_n 0, 1) := by decide +kernel
theorem dX12_goesBy_138 : decode cX12_goesBy 138 = .ok (.aload_n 0, 1) := by decide +kernel
theorem dX12_goesBy_139 : decode cX12_goesBy 139 = .ok (.getfield 101, 3) := by decide +kernel
theorem dX12_goesBy_142 : decode cX12_goesBy 142 = .ok (.invokevirtual 110, 3) := by decide +kernel
theorem dX12_goesBy_145 : decode cX12_goesBy 145 = .ok (.isub, 1) := by decide +kernel
theorem dX12_goesBy_146 : decode cX12_goesBy 146 = .ok (.iastore, 1) := by decide +kernel
theorem dX12_goesBy_147 : decode cX12_goesBy 147 = .ok (.aload_n 0, 1) := by decide +kernel
theorem dX12_goesBy_148 : decode cX12_goesBy 148 = .ok (.getfield 86, 3) := by decide +kernel
theorem dX12_goesBy_151 : decode cX12_goesBy 151 = .ok (.aload_n 0, 1) := by decide +kernel
theorem dX12_goesBy_152 : decode cX12_goesBy 152 = .ok (.getfield 9, 3) := by decide +kernel
theorem dX12_goesBy_155 : decode cX12_goesBy 155 = .ok (.bipush 60, 2) := by decide +kernel
theorem dX12_goesBy_157 : decode cX12_goesBy 157 = .ok (.aload_n 0, 1) := by decide +kernel
theorem dX12_goesBy_158 : decode cX12_goesBy 158 = .ok (.getfield 104, 3) := by decide +kernel
theorem dX12_goesBy_161 : decode cX12_goesBy 161 = .ok (.iadd, 1) := by decide +kernel
theorem dX12_goesBy_162 : decode cX12_goesBy 162 = .ok (.iaload, 1) := by decide +kernel
theorem dX12_goesBy_163 : decode cX12_goesBy 163 = .ok (.if_icmp .lt 35, 3) := by decide +kernel
theorem dX12_goesBy_166 : decode cX12_goesBy 166 = .ok (.aload_n 0, 1) := by decide +kernel
theorem dX12_goesBy_167 : decode cX12_goesBy 167 = .ok (.getfield 9, 3) := by decide +kernel
theorem dX12_goesBy_170 : decode cX12_goesBy 170 = .ok (.bipush 48, 2) := by decide +kernel
theorem dX12_goesBy_172 : decode cX12_goesBy 172 = .ok (.aload_n 0, 1) := by decide +kernel
theorem dX12_goesBy_173 : decode cX12_goesBy 173 = .ok (.getfield 104, 3) := by decide +kernel
theorem dX12_goesBy_176 : decode cX12_goesBy 176 = .ok (.iadd, 1) := by decide +kernel
theorem dX12_goesBy_177 : decode cX12_goesBy 177 = .ok (.sipush 999, 3) := by decide +kernel
theorem dX12_goesBy_180 : decode cX12_goesBy 180 = .ok (.aload_n 0, 1) := by decide +kernel
theorem dX12_goesBy_181 : decode cX12_goesBy 181 = .ok (.getfield 9, 3) := by decide +kernel
theorem dX12_goesBy_184 : decode cX12_goesBy 184 = .ok (.bipush 48, 2) := by decide +kernel
theorem dX12_goesBy_186 : decode cX12_goesBy 186 = .ok (.aload_n 0, 1) := by decide +kernel
theorem dX12_goesBy_187 : decode cX12_goesBy 187 = .ok (.getfield 104, 3) := by decide +kernel
theorem dX12_goesBy_190 : decode cX12_goesBy 190 = .ok (.iadd, 1) := by decide +kernel
theorem dX12_goesBy_191 : decode cX12_goesBy 191 = .ok (.iaload, 1) := by decide +kernel
theorem dX12_goesBy_192 : decode cX12_goesBy 192 = .ok (.iconst 1, 1) := by decide +kernel
theorem dX12_goesBy_193 : decode cX12_goesBy 193 = .ok (.iadd, 1) := by decide +kernel
theorem dX12_goesBy_194 : decode cX12_goesBy 194 = .ok (.invokestatic 76, 3) := by decide +kernel
theorem dX12_goesBy_197 : decode cX12_goesBy 197 = .ok (.iastore, 1) := by decide +kernel
theorem dX12_goesBy_198 : decode cX12_goesBy 198 = .ok (.aload_n 0, 1) := by decide +kernel
theorem dX12_goesBy_199 : decode cX12_goesBy 199 = .ok (.getfield 15, 3) := by decide +kernel
theorem dX12_goesBy_202 : decode cX12_goesBy 202 = .ok (.iconst 4, 1) := by decide +kernel
theorem dX12_goesBy_203 : decode cX12_goesBy 203 = .ok (.aload_n 0, 1) := by decide +kernel
theorem dX12_goesBy_204 : decode cX12_goesBy 204 = .ok (.getfield 104, 3) := by decide +kernel
theorem dX12_goesBy_207 : decode cX12_goesBy 207 = .ok (.imul, 1) := by decide +kernel
theorem dX12_goesBy_208 : decode cX12_goesBy 208 = .ok (.iaload, 1) := by decide +kernel
theorem dX12_goesBy_209 : decode cX12_goesBy 209 = .ok (.ifCond .ne 11, 3) := by decide +kernel
theorem dX12_goesBy_212 : decode cX12_goesBy 212 = .ok (.aload_n 0, 1) := by decide +kernel
theorem dX12_goesBy_213 : decode cX12_goesBy 213 = .ok (.aload_n 0, 1) := by decide +kernel
theorem dX12_goesBy_214 : decode cX12_goesBy 214 = .ok (.getfield 104, 3) := by decide +kernel
theorem dX12_goesBy_217 : decode cX12_goesBy 217 = .ok (.invokevirtual 113, 3) := by decide +kernel
theorem dX12_goesBy_220 : decode cX12_goesBy 220 = .ok (.aload_n 0, 1) := by decide +kernel
theorem dX12_goesBy_221 : decode cX12_goesBy 221 = .ok (.getfield 9, 3) := by decide +kernel
theorem dX12_goesBy_224 : decode cX12_goesBy 224 = .ok (.bipush 36, 2) := by decide +kernel
theorem dX12_goesBy_226 : decode cX12_goesBy 226 = .ok (.aload_n 0, 1) := by decide +kernel
theorem dX12_goesBy_227 : decode cX12_goesBy 227 = .ok (.getfield 101, 3) := by decide +kernel
theorem dX12_goesBy_230 : decode cX12_goesBy 230 = .ok (.iadd, 1) := by decide +kernel
theorem dX12_goesBy_231 : decode cX12_goesBy 231 = .ok (.iaload, 1) := by decide +kernel
theorem dX12_goesBy_232 : decode cX12_goesBy 232 = .ok (.iconst 1, 1) := by decide +kernel
theorem dX12_goesBy_233 : decode cX12_goesBy 233 = .ok (.if_icmp .ne 26, 3) := by decide +kernel
theorem dX12_goesBy_236 : decode cX12_goesBy 236 = .ok (.aload_n 0, 1) := by decide +kernel
theorem dX12_goesBy_237 : decode cX12_goesBy 237 = .ok (.getfield 9, 3) := by decide +kernel
theorem dX12_goesBy_240 : decode cX12_goesBy 240 = .ok (.bipush 24, 2) := by decide +kernel
theorem dX12_goesBy_242 : decode cX12_goesBy 242 = .ok (.aload_n 0, 1) := by decide +kernel
theorem dX12_goesBy_243 : decode cX12_goesBy 243 = .ok (.getfield 101, 3) := by decide +kernel
theorem dX12_goesBy_246 : decode cX12_goesBy 246 = .ok (.iadd, 1) := by decide +kernel
theorem dX12_goesBy_247 : decode cX12_goesBy 247 = .ok (.iaload, 1) := by decide +kernel
theorem dX12_goesBy_248 : decode cX12_goesBy 248 = .ok (.ifCond .gt 11, 3) := by decide +kernel
theorem dX12_goesBy_251 : decode cX12_goesBy 251 = .ok (.aload_n 0, 1) := by decide +kernel
theorem dX12_goesBy_252 : decode cX12_goesBy 252 = .ok (.aload_n 0, 1) := by decide +kernel
theorem dX12_goesBy_253 : decode cX12_goesBy 253 = .ok (.getfield 101, 3) := by decide +kernel
theorem dX12_goesBy_256 : decode cX12_goesBy 256 = .ok (.invokevirtual 116, 3) := by decide +kernel
theorem dX12_goesBy_259 : decode cX12_goesBy 259 = .ok (.aload_n 0, 1) := by decide +kernel
theorem dX12_goesBy_260 : decode cX12_goesBy 260 = .ok (.dup, 1) := by decide +kernel
theorem dX12_goesBy_261 : decode cX12_goesBy 261 = .ok (.getfield 86, 3) := by decide +kernel
theorem dX12_goesBy_264 : decode cX12_goesBy 264 = .ok (.iconst 1, 1) := by decide +kernel
theorem dX12_goesBy_265 : decode cX12_goesBy 265 = .ok (.iadd, 1) := by decide +kernel
theorem dX12_goesBy_266 : decode cX12_goesBy 266 = .ok (.putfield 86, 3) := by decide +kernel
theorem dX12_goesBy_269 : decode cX12_goesBy 269 = .ok (.return_, 1) := by decide +kernel
set_option maxRecDepth 20000 in
theorem gwX12_goesBy : wsX12_goesBy.all goodWord = true := by decide +kernel
set_option maxRecDepth 20000 in
theorem ggX12_goes_X12_goesBy : GoodIn wsX12_goes wsX12_goesBy := goodIn_r _ [5, 6, 7, 8, 9, 10, 11, 12, 13, 14, 15, 16, 17, 18, 4, 19, 20, 21, 22, 23, 24, 25, 26, 27, 28, 29, 30, 31, 32, 33, 34, 35, 36, 37, 38, 39, 40, 41, 42, 43, 44, 45, 46, 47, 48, 49, 50, 51, 52, 53, 54, 55, 56, 57, 58, 59, 60, 61, 62, 63, 64, 65, 66, 67, 68, 69, 70, 71, 72, 73, 74, 75, 76, 77, 78, 79, 80, 81, 82, 83, 84, 85, 86, 87, 88, 89] rfl gwX12_goesBy
set_option maxRecDepth 20000 in
theorem gX12_goes_X12_goesBy : GoodIn wsX12_goes (wsV RX12 119 RX12 yX12_goesBy wsX12_goesBy) := goodIn_app (goodIn_r _ [1, 2, 3, 4] rfl (by decide +kernel)) ggX12_goes_X12_goesBy
theorem dX12_goes_0 : decode cX12_goes 0 = .ok (.aload_n 0, 1) := by decide +kernel
theorem dX12_goes_1 : decode cX12_goes 1 = .ok (.iconst 0, 1) := by decide +kernel
theorem dX12_goes_2 : decode cX12_goes 2 = .ok (.invokevirtual 119, 3) := by decide +kernel
theorem dX12_goes_5 : decode cX12_goes 5 = .ok (.return_, 1) := by decide +kernel
theorem dX12_allLate_0 : decode cX12_allLate 0 = .ok (.iconst 0, 1) := by decide +kernel
theorem dX12_allLate_1 : decode cX12_allLate 1 = .ok (.istore_n 1, 1) := by decide +kernel
theorem dX12_allLate_2 : decode cX12_allLate 2 = .ok (.iconst 0, 1) := by decide +kernel
theorem dX12_allLate_3 : decode cX12_allLate 3 = .ok (.istore_n 2, 1) := by decide +kernel
theorem dX12_allLate_4 : decode cX12_allLate 4 = .ok (.iload_n 2, 1) := by decide +kernel
theorem dX12_allLate_5 : decode cX12_allLate 5 = .ok (.aload_n 0, 1) := by decide +kernel
theorem dX12_allLate_6 : decode cX12_allLate 6 = .ok (.getfield 51, 3) := by decide +kernel
theorem dX12_allLate_9 : decode cX12_allLate 9 = .ok (.if_icmp .ge 21, 3) := by decide +kernel
theorem dX12_allLate_12 : decode cX12_allLate 12 = .ok (.iload_n 1, 1) := by decide +kernel
theorem dX12_allLate_13 : decode cX12_allLate 13 = .ok (.aload_n 0, 1) := by decide +kernel
theorem dX12_allLate_14 : decode cX12_allLate 14 = .ok (.getfield 9, 3) := by decide +kernel
theorem dX12_allLate_17 : decode cX12_allLate 17 = .ok (.bipush 48, 2) := by decide +kernel
theorem dX12_allLate_19 : decode cX12_allLate 19 = .ok (.iload_n 2, 1) := by decide +kernel
theorem dX12_allLate_20 : decode cX12_allLate 20 = .ok (.iadd, 1) := by decide +kernel
theorem dX12_allLate_21 : decode cX12_allLate 21 = .ok (.iaload, 1) := by decide +kernel
theorem dX12_allLate_22 : decode cX12_allLate 22 = .ok (.iadd, 1) := by decide +kernel
theorem dX12_allLate_23 : decode cX12_allLate 23 = .ok (.istore_n 1, 1) := by decide +kernel
theorem dX12_allLate_24 : decode cX12_allLate 24 = .ok (.iinc 2 1, 3) := by decide +kernel
theorem dX12_allLate_27 : decode cX12_allLate 27 = .ok (.goto (-23), 3) := by decide +kernel
theorem dX12_allLate_30 : decode cX12_allLate 30 = .ok (.iload_n 1, 1) := by decide +kernel
theorem dX12_allLate_31 : decode cX12_allLate 31 = .ok (.ireturn, 1) := by decide +kernel
theorem dX12_allJobs_0 : decode cX12_allJobs 0 = .ok (.iconst 0, 1) := by decide +kernel
theorem dX12_allJobs_1 : decode cX12_allJobs 1 = .ok (.istore_n 1, 1) := by decide +kernel
theorem dX12_allJobs_2 : decode cX12_allJobs 2 = .ok (.iconst 0, 1) := by decide +kernel
theorem dX12_allJobs_3 : decode cX12_allJobs 3 = .ok (.istore_n 2, 1) := by decide +kernel
theorem dX12_allJobs_4 : decode cX12_allJobs 4 = .ok (.iload_n 2, 1) := by decide +kernel
theorem dX12_allJobs_5 : decode cX12_allJobs 5 = .ok (.aload_n 0, 1) := by decide +kernel
theorem dX12_allJobs_6 : decode cX12_allJobs 6 = .ok (.getfield 51, 3) := by decide +kernel
theorem dX12_allJobs_9 : decode cX12_allJobs 9 = .ok (.if_icmp .ge 21, 3) := by decide +kernel
theorem dX12_allJobs_12 : decode cX12_allJobs 12 = .ok (.iload_n 1, 1) := by decide +kernel
theorem dX12_allJobs_13 : decode cX12_allJobs 13 = .ok (.aload_n 0, 1) := by decide +kernel
theorem dX12_allJobs_14 : decode cX12_allJobs 14 = .ok (.getfield 9, 3) := by decide +kernel
theorem dX12_allJobs_17 : decode cX12_allJobs 17 = .ok (.bipush 42, 2) := by decide +kernel
theorem dX12_allJobs_19 : decode cX12_allJobs 19 = .ok (.iload_n 2, 1) := by decide +kernel
theorem dX12_allJobs_20 : decode cX12_allJobs 20 = .ok (.iadd, 1) := by decide +kernel
theorem dX12_allJobs_21 : decode cX12_allJobs 21 = .ok (.iaload, 1) := by decide +kernel
theorem dX12_allJobs_22 : decode cX12_allJobs 22 = .ok (.iadd, 1) := by decide +kernel
theorem dX12_allJobs_23 : decode cX12_allJobs 23 = .ok (.istore_n 1, 1) := by decide +kernel
theorem dX12_allJobs_24 : decode cX12_allJobs 24 = .ok (.iinc 2 1, 3) := by decide +kernel
theorem dX12_allJobs_27 : decode cX12_allJobs 27 = .ok (.goto (-23), 3) := by decide +kernel
theorem dX12_allJobs_30 : decode cX12_allJobs 30 = .ok (.iload_n 1, 1) := by decide +kernel
theorem dX12_allJobs_31 : decode cX12_allJobs 31 = .ok (.ireturn, 1) := by decide +kernel
theorem dX12_newServer_0 : decode cX12_newServer 0 = .ok (.aload_n 0, 1) := by decide +kernel
theorem dX12_newServer_1 : decode cX12_newServer 1 = .ok (.dup, 1) := by decide +kernel
theorem dX12_newServer_2 : decode cX12_newServer 2 = .ok (.getfield 51, 3) := by decide +kernel
theorem dX12_newServer_5 : decode cX12_newServer 5 = .ok (.dup_x1, 1) := by decide +kernel
theorem dX12_newServer_6 : decode cX12_newServer 6 = .ok (.iconst 1, 1) := by decide +kernel
theorem dX12_newServer_7 : decode cX12_newServer 7 = .ok (.iadd, 1) := by decide +kernel
theorem dX12_newServer_8 : decode cX12_newServer 8 = .ok (.putfield 51, 3) := by decide +kernel
theorem dX12_newServer_11 : decode cX12_newServer 11 = .ok (.istore 5, 2) := by decide +kernel
theorem dX12_newServer_13 : decode cX12_newServer 13 = .ok (.iconst 0, 1) := by decide +kernel
theorem dX12_newServer_14 : decode cX12_newServer 14 = .ok (.istore 6, 2) := by decide +kernel
theorem dX12_newServer_16 : decode cX12_newServer 16 = .ok (.iload 6, 2) := by decide +kernel
theorem dX12_newServer_18 : decode cX12_newServer 18 = .ok (.bipush 72, 2) := by decide +kernel
theorem dX12_newServer_20 : decode cX12_newServer 20 = .ok (.if_icmp .ge 20, 3) := by decide +kernel
theorem dX12_newServer_23 : decode cX12_newServer 23 = .ok (.aload_n 0, 1) := by decide +kernel
theorem dX12_newServer_24 : decode cX12_newServer 24 = .ok (.getfield 9, 3) := by decide +kernel
theorem dX12_newServer_27 : decode cX12_newServer 27 = .ok (.iload 6, 2) := by decide +kernel
theorem dX12_newServer_29 : decode cX12_newServer 29 = .ok (.iload 5, 2) := by decide +kernel
theorem dX12_newServer_31 : decode cX12_newServer 31 = .ok (.iadd, 1) := by decide +kernel
theorem dX12_newServer_32 : decode cX12_newServer 32 = .ok (.iconst 0, 1) := by decide +kernel
theorem dX12_newServer_33 : decode cX12_newServer 33 = .ok (.iastore, 1) := by decide +kernel
theorem dX12_newServer_34 : decode cX12_newServer 34 = .ok (.iinc 6 6, 3) := by decide +kernel
theorem dX12_newServer_37 : decode cX12_newServer 37 = .ok (.goto (-21), 3) := by decide +kernel
theorem dX12_newServer_40 : decode cX12_newServer 40 = .ok (.aload_n 0, 1) := by decide +kernel
theorem dX12_newServer_41 : decode cX12_newServer 41 = .ok (.getfield 9, 3) := by decide +kernel
theorem dX12_newServer_44 : decode cX12_newServer 44 = .ok (.iconst 0, 1) := by decide +kernel
theorem dX12_newServer_45 : decode cX12_newServer 45 = .ok (.iload 5, 2) := by decide +kernel
theorem dX12_newServer_47 : decode cX12_newServer 47 = .ok (.iadd, 1) := by decide +kernel
theorem dX12_newServer_48 : decode cX12_newServer 48 = .ok (.iload_n 1, 1) := by decide +kernel
theorem dX12_newServer_49 : decode cX12_newServer 49 = .ok (.iastore, 1) := by decide +kernel
theorem dX12_newServer_50 : decode cX12_newServer 50 = .ok (.aload_n 0, 1) := by decide +kernel
theorem dX12_newServer_51 : decode cX12_newServer 51 = .ok (.getfield 9, 3) := by decide +kernel
theorem dX12_newServer_54 : decode cX12_newServer 54 = .ok (.bipush 6, 2) := by decide +kernel
theorem dX12_newServer_56 : decode cX12_newServer 56 = .ok (.iload 5, 2) := by decide +kernel
theorem dX12_newServer_58 : decode cX12_newServer 58 = .ok (.iadd, 1) := by decide +kernel
theorem dX12_newServer_59 : decode cX12_newServer 59 = .ok (.iload_n 2, 1) := by decide +kernel
theorem dX12_newServer_60 : decode cX12_newServer 60 = .ok (.iastore, 1) := by decide +kernel
theorem dX12_newServer_61 : decode cX12_newServer 61 = .ok (.aload_n 0, 1) := by decide +kernel
theorem dX12_newServer_62 : decode cX12_newServer 62 = .ok (.getfield 9, 3) := by decide +kernel
theorem dX12_newServer_65 : decode cX12_newServer 65 = .ok (.bipush 12, 2) := by decide +kernel
theorem dX12_newServer_67 : decode cX12_newServer 67 = .ok (.iload 5, 2) := by decide +kernel
theorem dX12_newServer_69 : decode cX12_newServer 69 = .ok (.iadd, 1) := by decide +kernel
theorem dX12_newServer_70 : decode cX12_newServer 70 = .ok (.iload_n 3, 1) := by decide +kernel
theorem dX12_newServer_71 : decode cX12_newServer 71 = .ok (.iastore, 1) := by decide +kernel
theorem dX12_newServer_72 : decode cX12_newServer 72 = .ok (.aload_n 0, 1) := by decide +kernel
theorem dX12_newServer_73 : decode cX12_newServer 73 = .ok (.getfield 9, 3) := by decide +kernel
theorem dX12_newServer_76 : decode cX12_newServer 76 = .ok (.bipush 18, 2) := by decide +kernel
theorem dX12_newServer_78 : decode cX12_newServer 78 = .ok (.iload 5, 2) := by decide +kernel
theorem dX12_newServer_80 : decode cX12_newServer 80 = .ok (.iadd, 1) := by decide +kernel
theorem dX12_newServer_81 : decode cX12_newServer 81 = .ok (.iload 4, 2) := by decide +kernel
theorem dX12_newServer_83 : decode cX12_newServer 83 = .ok (.iastore, 1) := by decide +kernel
theorem dX12_newServer_84 : decode cX12_newServer 84 = .ok (.iload 5, 2) := by decide +kernel
theorem dX12_newServer_86 : decode cX12_newServer 86 = .ok (.ireturn, 1) := by decide +kernel
set_option maxRecDepth 20000 in
theorem ggX12_isSize_X12_within : GoodIn wsX12_isSize wsX12_within := goodIn_r _ [4] rfl gwX12_within
set_option maxRecDepth 20000 in
theorem gX12_isSize_X12_within : GoodIn wsX12_isSize (va_wsS RX12 55 yX12_within wsX12_within) := goodIn_app (goodIn_r _ [1, 2, 3] rfl (by decide +kernel)) ggX12_isSize_X12_within
theorem dX12_isSize_0 : decode cX12_isSize 0 = .ok (.iload_n 0, 1) := by decide +kernel
theorem dX12_isSize_1 : decode cX12_isSize 1 = .ok (.iconst 1, 1) := by decide +kernel
theorem dX12_isSize_2 : decode cX12_isSize 2 = .ok (.bipush 30, 2) := by decide +kernel
theorem dX12_isSize_4 : decode cX12_isSize 4 = .ok (.invokestatic 55, 3) := by decide +kernel
theorem dX12_isSize_7 : decode cX12_isSize 7 = .ok (.ifCond .eq 24, 3) := by decide +kernel
theorem dX12_isSize_10 : decode cX12_isSize 10 = .ok (.iload_n 1, 1) := by decide +kernel
theorem dX12_isSize_11 : decode cX12_isSize 11 = .ok (.iload_n 0, 1) := by decide +kernel
theorem dX12_isSize_12 : decode cX12_isSize 12 = .ok (.bipush 60, 2) := by decide +kernel
theorem dX12_isSize_14 : decode cX12_isSize 14 = .ok (.invokestatic 55, 3) := by decide +kernel
theorem dX12_isSize_17 : decode cX12_isSize 17 = .ok (.ifCond .eq 14, 3) := by decide +kernel
theorem dX12_isSize_20 : decode cX12_isSize 20 = .ok (.bipush 60, 2) := by decide +kernel
theorem dX12_isSize_22 : decode cX12_isSize 22 = .ok (.iload_n 1, 1) := by decide +kernel
theorem dX12_isSize_23 : decode cX12_isSize 23 = .ok (.irem, 1) := by decide +kernel
theorem dX12_isSize_24 : decode cX12_isSize 24 = .ok (.ifCond .ne 7, 3) := by decide +kernel
theorem dX12_isSize_27 : decode cX12_isSize 27 = .ok (.iconst 1, 1) := by decide +kernel
theorem dX12_isSize_28 : decode cX12_isSize 28 = .ok (.goto 4, 3) := by decide +kernel
theorem dX12_isSize_31 : decode cX12_isSize 31 = .ok (.iconst 0, 1) := by decide +kernel
theorem dX12_isSize_32 : decode cX12_isSize 32 = .ok (.ireturn, 1) := by decide +kernel
theorem dX12_is_0 : decode cX12_is 0 = .ok (.aload_n 0, 1) := by decide +kernel
theorem dX12_is_1 : decode cX12_is 1 = .ok (.getfield 123, 3) := by decide +kernel
theorem dX12_is_4 : decode cX12_is 4 = .ok (.aload_n 0, 1) := by decide +kernel
theorem dX12_is_5 : decode cX12_is 5 = .ok (.getfield 36, 3) := by decide +kernel
theorem dX12_is_8 : decode cX12_is 8 = .ok (.aload_n 0, 1) := by decide +kernel
theorem dX12_is_9 : decode cX12_is 9 = .ok (.getfield 126, 3) := by decide +kernel
theorem dX12_is_12 : decode cX12_is 12 = .ok (.iaload, 1) := by decide +kernel
theorem dX12_is_13 : decode cX12_is 13 = .ok (.if_icmp .eq 24, 3) := by decide +kernel
theorem dX12_is_16 : decode cX12_is 16 = .ok (.aload_n 0, 1) := by decide +kernel
theorem dX12_is_17 : decode cX12_is 17 = .ok (.getfield 39, 3) := by decide +kernel
theorem dX12_is_20 : decode cX12_is 20 = .ok (.bipush 100, 2) := by decide +kernel
theorem dX12_is_22 : decode cX12_is 22 = .ok (.aload_n 0, 1) := by decide +kernel
theorem dX12_is_23 : decode cX12_is 23 = .ok (.getfield 126, 3) := by decide +kernel
theorem dX12_is_26 : decode cX12_is 26 = .ok (.imul, 1) := by decide +kernel
theorem dX12_is_27 : decode cX12_is 27 = .ok (.aload_n 0, 1) := by decide +kernel
theorem dX12_is_28 : decode cX12_is 28 = .ok (.getfield 123, 3) := by decide +kernel
theorem dX12_is_31 : decode cX12_is 31 = .ok (.iadd, 1) := by decide +kernel
theorem dX12_is_32 : decode cX12_is 32 = .ok (.iaload, 1) := by decide +kernel
theorem dX12_is_33 : decode cX12_is 33 = .ok (.iload_n 1, 1) := by decide +kernel
theorem dX12_is_34 : decode cX12_is 34 = .ok (.if_icmp .eq 5, 3) := by decide +kernel
theorem dX12_is_37 : decode cX12_is 37 = .ok (.iconst 0, 1) := by decide +kernel
theorem dX12_is_38 : decode cX12_is 38 = .ok (.ireturn, 1) := by decide +kernel
theorem dX12_is_39 : decode cX12_is 39 = .ok (.aload_n 0, 1) := by decide +kernel
theorem dX12_is_40 : decode cX12_is 40 = .ok (.dup, 1) := by decide +kernel
theorem dX12_is_41 : decode cX12_is 41 = .ok (.getfield 123, 3) := by decide +kernel
theorem dX12_is_44 : decode cX12_is 44 = .ok (.iconst 1, 1) := by decide +kernel
theorem dX12_is_45 : decode cX12_is 45 = .ok (.iadd, 1) := by decide +kernel
theorem dX12_is_46 : decode cX12_is 46 = .ok (.putfield 123, 3) := by decide +kernel
theorem dX12_is_49 : decode cX12_is 49 = .ok (.iconst 1, 1) := by decide +kernel
theorem dX12_is_50 : decode cX12_is 50 = .ok (.ireturn, 1) := by decide +kernel
set_option maxRecDepth 20000 in
theorem ggX12_digits_X12_within : GoodIn wsX12_digits wsX12_within := goodIn_r _ [9] rfl gwX12_within
set_option maxRecDepth 20000 in
theorem gX12_digits_X12_within : GoodIn wsX12_digits (va_wsS RX12 55 yX12_within wsX12_within) := goodIn_app (goodIn_r _ [6, 7, 8] rfl (by decide +kernel)) ggX12_digits_X12_within
theorem dX12_digits_0 : decode cX12_digits 0 = .ok (.iconst 0, 1) := by decide +kernel
theorem dX12_digits_1 : decode cX12_digits 1 = .ok (.istore_n 2, 1) := by decide +kernel
theorem dX12_digits_2 : decode cX12_digits 2 = .ok (.iload_n 2, 1) := by decide +kernel
theorem dX12_digits_3 : decode cX12_digits 3 = .ok (.iload_n 1, 1) := by decide +kernel
theorem dX12_digits_4 : decode cX12_digits 4 = .ok (.if_icmp .ge 80, 3) := by decide +kernel
theorem dX12_digits_7 : decode cX12_digits 7 = .ok (.aload_n 0, 1) := by decide +kernel
theorem dX12_digits_8 : decode cX12_digits 8 = .ok (.getfield 123, 3) := by decide +kernel
theorem dX12_digits_11 : decode cX12_digits 11 = .ok (.aload_n 0, 1) := by decide +kernel
theorem dX12_digits_12 : decode cX12_digits 12 = .ok (.getfield 36, 3) := by decide +kernel
theorem dX12_digits_15 : decode cX12_digits 15 = .ok (.aload_n 0, 1) := by decide +kernel
theorem dX12_digits_16 : decode cX12_digits 16 = .ok (.getfield 126, 3) := by decide +kernel
theorem dX12_digits_19 : decode cX12_digits 19 = .ok (.iaload, 1) := by decide +kernel
theorem dX12_digits_20 : decode cX12_digits 20 = .ok (.if_icmp .ne 5, 3) := by decide +kernel
theorem dX12_digits_23 : decode cX12_digits 23 = .ok (.iconst 0, 1) := by decide +kernel
theorem dX12_digits_24 : decode cX12_digits 24 = .ok (.ireturn, 1) := by decide +kernel
theorem dX12_digits_25 : decode cX12_digits 25 = .ok (.aload_n 0, 1) := by decide +kernel
theorem dX12_digits_26 : decode cX12_digits 26 = .ok (.getfield 21, 3) := by decide +kernel
theorem dX12_digits_29 : decode cX12_digits 29 = .ok (.iload_n 2, 1) := by decide +kernel
theorem dX12_digits_30 : decode cX12_digits 30 = .ok (.aload_n 0, 1) := by decide +kernel
theorem dX12_digits_31 : decode cX12_digits 31 = .ok (.getfield 39, 3) := by decide +kernel
theorem dX12_digits_34 : decode cX12_digits 34 = .ok (.bipush 100, 2) := by decide +kernel
theorem dX12_digits_36 : decode cX12_digits 36 = .ok (.aload_n 0, 1) := by decide +kernel
theorem dX12_digits_37 : decode cX12_digits 37 = .ok (.getfield 126, 3) := by decide +kernel
theorem dX12_digits_40 : decode cX12_digits 40 = .ok (.imul, 1) := by decide +kernel
theorem dX12_digits_41 : decode cX12_digits 41 = .ok (.aload_n 0, 1) := by decide +kernel
theorem dX12_digits_42 : decode cX12_digits 42 = .ok (.getfield 123, 3) := by decide +kernel
theorem dX12_digits_45 : decode cX12_digits 45 = .ok (.iadd, 1) := by decide +kernel
theorem dX12_digits_46 : decode cX12_digits 46 = .ok (.iaload, 1) := by decide +kernel
theorem dX12_digits_47 : decode cX12_digits 47 = .ok (.bipush 48, 2) := by decide +kernel
theorem dX12_digits_49 : decode cX12_digits 49 = .ok (.isub, 1) := by decide +kernel
theorem dX12_digits_50 : decode cX12_digits 50 = .ok (.iastore, 1) := by decide +kernel
theorem dX12_digits_51 : decode cX12_digits 51 = .ok (.aload_n 0, 1) := by decide +kernel
theorem dX12_digits_52 : decode cX12_digits 52 = .ok (.getfield 21, 3) := by decide +kernel
theorem dX12_digits_55 : decode cX12_digits 55 = .ok (.iload_n 2, 1) := by decide +kernel
theorem dX12_digits_56 : decode cX12_digits 56 = .ok (.iaload, 1) := by decide +kernel
theorem dX12_digits_57 : decode cX12_digits 57 = .ok (.iconst 0, 1) := by decide +kernel
theorem dX12_digits_58 : decode cX12_digits 58 = .ok (.bipush 9, 2) := by decide +kernel
theorem dX12_digits_60 : decode cX12_digits 60 = .ok (.invokestatic 55, 3) := by decide +kernel
theorem dX12_digits_63 : decode cX12_digits 63 = .ok (.ifCond .ne 5, 3) := by decide +kernel
theorem dX12_digits_66 : decode cX12_digits 66 = .ok (.iconst 0, 1) := by decide +kernel
theorem dX12_digits_67 : decode cX12_digits 67 = .ok (.ireturn, 1) := by decide +kernel
theorem dX12_digits_68 : decode cX12_digits 68 = .ok (.aload_n 0, 1) := by decide +kernel
theorem dX12_digits_69 : decode cX12_digits 69 = .ok (.dup, 1) := by decide +kernel
theorem dX12_digits_70 : decode cX12_digits 70 = .ok (.getfield 123, 3) := by decide +kernel
theorem dX12_digits_73 : decode cX12_digits 73 = .ok (.iconst 1, 1) := by decide +kernel
theorem dX12_digits_74 : decode cX12_digits 74 = .ok (.iadd, 1) := by decide +kernel
theorem dX12_digits_75 : decode cX12_digits 75 = .ok (.putfield 123, 3) := by decide +kernel
theorem dX12_digits_78 : decode cX12_digits 78 = .ok (.iinc 2 1, 3) := by decide +kernel
theorem dX12_digits_81 : decode cX12_digits 81 = .ok (.goto (-79), 3) := by decide +kernel
theorem dX12_digits_84 : decode cX12_digits 84 = .ok (.iconst 1, 1) := by decide +kernel
theorem dX12_digits_85 : decode cX12_digits 85 = .ok (.ireturn, 1) := by decide +kernel
set_option maxRecDepth 20000 in
theorem gwX12_isSize : wsX12_isSize.all goodWord = true := by decide +kernel
set_option maxRecDepth 20000 in
theorem ggX12_serverIs_X12_isSize : GoodIn wsX12_serverIs wsX12_isSize := goodIn_r _ [6, 7, 8, 5, 9] rfl gwX12_isSize
set_option maxRecDepth 20000 in
theorem gX12_serverIs_X12_isSize : GoodIn wsX12_serverIs (va_wsS RX12 129 yX12_isSize wsX12_isSize) := goodIn_app (goodIn_r _ [3, 4, 5] rfl (by decide +kernel)) ggX12_serverIs_X12_isSize
set_option maxRecDepth 20000 in
theorem gwX12_newServer : wsX12_newServer.all goodWord = true := by decide +kernel
set_option maxRecDepth 20000 in
theorem ggX12_serverIs_X12_newServer : GoodIn wsX12_serverIs wsX12_newServer := goodIn_r _ [13, 2, 14, 15, 16, 17, 18, 19, 20, 21, 22, 23, 24, 25, 26, 27, 28, 29, 30, 31, 32, 33, 34, 35, 36] rfl gwX12_newServer
set_option maxRecDepth 20000 in
theorem gX12_serverIs_X12_newServer : GoodIn wsX12_serverIs (wsV RX12 133 RX12 yX12_newServer wsX12_newServer) := goodIn_app (goodIn_r _ [10, 11, 12, 5] rfl (by decide +kernel)) ggX12_serverIs_X12_newServer
theorem dX12_serverIs_0 : decode cX12_serverIs 0 = .ok (.bipush 10, 2) := by decide +kernel
theorem dX12_serverIs_2 : decode cX12_serverIs 2 = .ok (.aload_n 0, 1) := by decide +kernel
theorem dX12_serverIs_3 : decode cX12_serverIs 3 = .ok (.getfield 21, 3) := by decide +kernel
theorem dX12_serverIs_6 : decode cX12_serverIs 6 = .ok (.iconst 2, 1) := by decide +kernel
theorem dX12_serverIs_7 : decode cX12_serverIs 7 = .ok (.iaload, 1) := by decide +kernel
theorem dX12_serverIs_8 : decode cX12_serverIs 8 = .ok (.imul, 1) := by decide +kernel
theorem dX12_serverIs_9 : decode cX12_serverIs 9 = .ok (.aload_n 0, 1) := by decide +kernel
theorem dX12_serverIs_10 : decode cX12_serverIs 10 = .ok (.getfield 21, 3) := by decide +kernel
theorem dX12_serverIs_13 : decode cX12_serverIs 13 = .ok (.iconst 3, 1) := by decide +kernel
theorem dX12_serverIs_14 : decode cX12_serverIs 14 = .ok (.iaload, 1) := by decide +kernel
theorem dX12_serverIs_15 : decode cX12_serverIs 15 = .ok (.iadd, 1) := by decide +kernel
theorem dX12_serverIs_16 : decode cX12_serverIs 16 = .ok (.istore_n 1, 1) := by decide +kernel
theorem dX12_serverIs_17 : decode cX12_serverIs 17 = .ok (.bipush 10, 2) := by decide +kernel
theorem dX12_serverIs_19 : decode cX12_serverIs 19 = .ok (.aload_n 0, 1) := by decide +kernel
theorem dX12_serverIs_20 : decode cX12_serverIs 20 = .ok (.getfield 21, 3) := by decide +kernel
theorem dX12_serverIs_23 : decode cX12_serverIs 23 = .ok (.iconst 4, 1) := by decide +kernel
theorem dX12_serverIs_24 : decode cX12_serverIs 24 = .ok (.iaload, 1) := by decide +kernel
theorem dX12_serverIs_25 : decode cX12_serverIs 25 = .ok (.imul, 1) := by decide +kernel
theorem dX12_serverIs_26 : decode cX12_serverIs 26 = .ok (.aload_n 0, 1) := by decide +kernel
theorem dX12_serverIs_27 : decode cX12_serverIs 27 = .ok (.getfield 21, 3) := by decide +kernel
theorem dX12_serverIs_30 : decode cX12_serverIs 30 = .ok (.iconst 5, 1) := by decide +kernel
theorem dX12_serverIs_31 : decode cX12_serverIs 31 = .ok (.iaload, 1) := by decide +kernel
theorem dX12_serverIs_32 : decode cX12_serverIs 32 = .ok (.iadd, 1) := by decide +kernel
theorem dX12_serverIs_33 : decode cX12_serverIs 33 = .ok (.istore_n 2, 1) := by decide +kernel
theorem dX12_serverIs_34 : decode cX12_serverIs 34 = .ok (.aload_n 0, 1) := by decide +kernel
theorem dX12_serverIs_35 : decode cX12_serverIs 35 = .ok (.getfield 21, 3) := by decide +kernel
theorem dX12_serverIs_38 : decode cX12_serverIs 38 = .ok (.iconst 0, 1) := by decide +kernel
theorem dX12_serverIs_39 : decode cX12_serverIs 39 = .ok (.iaload, 1) := by decide +kernel
theorem dX12_serverIs_40 : decode cX12_serverIs 40 = .ok (.iconst 5, 1) := by decide +kernel
theorem dX12_serverIs_41 : decode cX12_serverIs 41 = .ok (.if_icmp .gt 20, 3) := by decide +kernel
theorem dX12_serverIs_44 : decode cX12_serverIs 44 = .ok (.iload_n 1, 1) := by decide +kernel
theorem dX12_serverIs_45 : decode cX12_serverIs 45 = .ok (.iload_n 2, 1) := by decide +kernel
theorem dX12_serverIs_46 : decode cX12_serverIs 46 = .ok (.invokestatic 129, 3) := by decide +kernel
theorem dX12_serverIs_49 : decode cX12_serverIs 49 = .ok (.ifCond .eq 12, 3) := by decide +kernel
theorem dX12_serverIs_52 : decode cX12_serverIs 52 = .ok (.aload_n 0, 1) := by decide +kernel
theorem dX12_serverIs_53 : decode cX12_serverIs 53 = .ok (.getfield 51, 3) := by decide +kernel
theorem dX12_serverIs_56 : decode cX12_serverIs 56 = .ok (.bipush 6, 2) := by decide +kernel
theorem dX12_serverIs_58 : decode cX12_serverIs 58 = .ok (.if_icmp .ne 5, 3) := by decide +kernel
theorem dX12_serverIs_61 : decode cX12_serverIs 61 = .ok (.iconst 0, 1) := by decide +kernel
theorem dX12_serverIs_62 : decode cX12_serverIs 62 = .ok (.ireturn, 1) := by decide +kernel
theorem dX12_serverIs_63 : decode cX12_serverIs 63 = .ok (.aload_n 0, 1) := by decide +kernel
theorem dX12_serverIs_64 : decode cX12_serverIs 64 = .ok (.aload_n 0, 1) := by decide +kernel
theorem dX12_serverIs_65 : decode cX12_serverIs 65 = .ok (.getfield 21, 3) := by decide +kernel
theorem dX12_serverIs_68 : decode cX12_serverIs 68 = .ok (.iconst 0, 1) := by decide +kernel
theorem dX12_serverIs_69 : decode cX12_serverIs 69 = .ok (.iaload, 1) := by decide +kernel
theorem dX12_serverIs_70 : decode cX12_serverIs 70 = .ok (.aload_n 0, 1) := by decide +kernel
theorem dX12_serverIs_71 : decode cX12_serverIs 71 = .ok (.getfield 21, 3) := by decide +kernel
theorem dX12_serverIs_74 : decode cX12_serverIs 74 = .ok (.iconst 1, 1) := by decide +kernel
theorem dX12_serverIs_75 : decode cX12_serverIs 75 = .ok (.iaload, 1) := by decide +kernel
theorem dX12_serverIs_76 : decode cX12_serverIs 76 = .ok (.iload_n 1, 1) := by decide +kernel
theorem dX12_serverIs_77 : decode cX12_serverIs 77 = .ok (.iload_n 2, 1) := by decide +kernel
theorem dX12_serverIs_78 : decode cX12_serverIs 78 = .ok (.invokevirtual 133, 3) := by decide +kernel
theorem dX12_serverIs_81 : decode cX12_serverIs 81 = .ok (.pop, 1) := by decide +kernel
theorem dX12_serverIs_82 : decode cX12_serverIs 82 = .ok (.iconst 1, 1) := by decide +kernel
theorem dX12_serverIs_83 : decode cX12_serverIs 83 = .ok (.ireturn, 1) := by decide +kernel
set_option maxRecDepth 20000 in
theorem gwX12_isServer : wsX12_isServer.all goodWord = true := by decide +kernel
set_option maxRecDepth 20000 in
theorem ggX12_jobIs_X12_isServer : GoodIn wsX12_jobIs wsX12_isServer := goodIn_r _ [7, 8, 9, 10, 6, 11, 23, 24, 25, 26, 27, 28, 29, 30, 31, 32, 33, 34, 35, 36, 37, 38, 39, 40, 41, 42, 43, 44] rfl gwX12_isServer
set_option maxRecDepth 20000 in
theorem gX12_jobIs_X12_isServer : GoodIn wsX12_jobIs (wsV RX12 137 RX12 yX12_isServer wsX12_isServer) := goodIn_app (goodIn_r _ [3, 4, 5, 6] rfl (by decide +kernel)) ggX12_jobIs_X12_isServer
set_option maxRecDepth 20000 in
theorem gwX12_jobComes : wsX12_jobComes.all goodWord = true := by decide +kernel
set_option maxRecDepth 20000 in
theorem ggX12_jobIs_X12_jobComes : GoodIn wsX12_jobIs wsX12_jobComes := goodIn_r _ [15, 2, 16, 17, 18, 19, 20, 21, 6, 22, 23, 24, 25, 26, 27, 28, 29, 30, 31, 32, 33, 34, 35, 36, 37, 38, 39, 40, 41, 42, 43, 44] rfl gwX12_jobComes
set_option maxRecDepth 20000 in
theorem gX12_jobIs_X12_jobComes : GoodIn wsX12_jobIs (wsV RX12 140 RX12 yX12_jobComes wsX12_jobComes) := goodIn_app (goodIn_r _ [12, 13, 14, 6] rfl (by decide +kernel)) ggX12_jobIs_X12_jobComes
theorem dX12_jobIs_0 : decode cX12_jobIs 0 = .ok (.aload_n 0, 1) := by decide +kernel
theorem dX12_jobIs_1 : decode cX12_jobIs 1 = .ok (.getfield 21, 3) := by decide +kernel
theorem dX12_jobIs_4 : decode cX12_jobIs 4 = .ok (.iconst 0, 1) := by decide +kernel
theorem dX12_jobIs_5 : decode cX12_jobIs 5 = .ok (.iaload, 1) := by decide +kernel
theorem dX12_jobIs_6 : decode cX12_jobIs 6 = .ok (.istore_n 1, 1) := by decide +kernel
theorem dX12_jobIs_7 : decode cX12_jobIs 7 = .ok (.aload_n 0, 1) := by decide +kernel
theorem dX12_jobIs_8 : decode cX12_jobIs 8 = .ok (.iload_n 1, 1) := by decide +kernel
theorem dX12_jobIs_9 : decode cX12_jobIs 9 = .ok (.invokevirtual 137, 3) := by decide +kernel
theorem dX12_jobIs_12 : decode cX12_jobIs 12 = .ok (.ifCond .eq 35, 3) := by decide +kernel
theorem dX12_jobIs_15 : decode cX12_jobIs 15 = .ok (.aload_n 0, 1) := by decide +kernel
theorem dX12_jobIs_16 : decode cX12_jobIs 16 = .ok (.getfield 21, 3) := by decide +kernel
theorem dX12_jobIs_19 : decode cX12_jobIs 19 = .ok (.iconst 1, 1) := by decide +kernel
theorem dX12_jobIs_20 : decode cX12_jobIs 20 = .ok (.iaload, 1) := by decide +kernel
theorem dX12_jobIs_21 : decode cX12_jobIs 21 = .ok (.ifCond .eq 26, 3) := by decide +kernel
theorem dX12_jobIs_24 : decode cX12_jobIs 24 = .ok (.aload_n 0, 1) := by decide +kernel
theorem dX12_jobIs_25 : decode cX12_jobIs 25 = .ok (.getfield 21, 3) := by decide +kernel
theorem dX12_jobIs_28 : decode cX12_jobIs 28 = .ok (.iconst 2, 1) := by decide +kernel
theorem dX12_jobIs_29 : decode cX12_jobIs 29 = .ok (.iaload, 1) := by decide +kernel
theorem dX12_jobIs_30 : decode cX12_jobIs 30 = .ok (.iconst 3, 1) := by decide +kernel
theorem dX12_jobIs_31 : decode cX12_jobIs 31 = .ok (.if_icmp .gt 16, 3) := by decide +kernel
theorem dX12_jobIs_34 : decode cX12_jobIs 34 = .ok (.aload_n 0, 1) := by decide +kernel
theorem dX12_jobIs_35 : decode cX12_jobIs 35 = .ok (.getfield 9, 3) := by decide +kernel
theorem dX12_jobIs_38 : decode cX12_jobIs 38 = .ok (.bipush 42, 2) := by decide +kernel
theorem dX12_jobIs_40 : decode cX12_jobIs 40 = .ok (.iload_n 1, 1) := by decide +kernel
theorem dX12_jobIs_41 : decode cX12_jobIs 41 = .ok (.iadd, 1) := by decide +kernel
theorem dX12_jobIs_42 : decode cX12_jobIs 42 = .ok (.iaload, 1) := by decide +kernel
theorem dX12_jobIs_43 : decode cX12_jobIs 43 = .ok (.iconst 4, 1) := by decide +kernel
theorem dX12_jobIs_44 : decode cX12_jobIs 44 = .ok (.if_icmp .ne 5, 3) := by decide +kernel
theorem dX12_jobIs_47 : decode cX12_jobIs 47 = .ok (.iconst 0, 1) := by decide +kernel
theorem dX12_jobIs_48 : decode cX12_jobIs 48 = .ok (.ireturn, 1) := by decide +kernel
theorem dX12_jobIs_49 : decode cX12_jobIs 49 = .ok (.aload_n 0, 1) := by decide +kernel
theorem dX12_jobIs_50 : decode cX12_jobIs 50 = .ok (.iload_n 1, 1) := by decide +kernel
theorem dX12_jobIs_51 : decode cX12_jobIs 51 = .ok (.aload_n 0, 1) := by decide +kernel
theorem dX12_jobIs_52 : decode cX12_jobIs 52 = .ok (.getfield 21, 3) := by decide +kernel
theorem dX12_jobIs_55 : decode cX12_jobIs 55 = .ok (.iconst 1, 1) := by decide +kernel
theorem dX12_jobIs_56 : decode cX12_jobIs 56 = .ok (.iaload, 1) := by decide +kernel
theorem dX12_jobIs_57 : decode cX12_jobIs 57 = .ok (.aload_n 0, 1) := by decide +kernel
theorem dX12_jobIs_58 : decode cX12_jobIs 58 = .ok (.getfield 21, 3) := by decide +kernel
theorem dX12_jobIs_61 : decode cX12_jobIs 61 = .ok (.iconst 2, 1) := by decide +kernel
theorem dX12_jobIs_62 : decode cX12_jobIs 62 = .ok (.iaload, 1) := by decide +kernel
theorem dX12_jobIs_63 : decode cX12_jobIs 63 = .ok (.invokevirtual 140, 3) := by decide +kernel
theorem dX12_jobIs_66 : decode cX12_jobIs 66 = .ok (.iconst 1, 1) := by decide +kernel
theorem dX12_jobIs_67 : decode cX12_jobIs 67 = .ok (.ireturn, 1) := by decide +kernel
set_option maxRecDepth 20000 in
theorem ggX12_ticksAre_X12_within : GoodIn wsX12_ticksAre wsX12_within := goodIn_r _ [6] rfl gwX12_within
set_option maxRecDepth 20000 in
theorem gX12_ticksAre_X12_within : GoodIn wsX12_ticksAre (va_wsS RX12 55 yX12_within wsX12_within) := goodIn_app (goodIn_r _ [3, 4, 5] rfl (by decide +kernel)) ggX12_ticksAre_X12_within
set_option maxRecDepth 20000 in
theorem gwX12_goes : wsX12_goes.all goodWord = true := by decide +kernel
set_option maxRecDepth 20000 in
theorem ggX12_ticksAre_X12_goes : GoodIn wsX12_ticksAre wsX12_goes := goodIn_r _ [10, 11, 12, 13, 5, 14, 15, 16, 17, 18, 19, 2, 20, 21, 22, 23, 24, 25, 26, 27, 28, 29, 30, 31, 32, 33, 34, 35, 36, 37, 38, 39, 40, 41, 42, 43, 44, 45, 46, 47, 48, 49, 50, 51, 52, 53, 54, 55, 56, 57, 58, 59, 60, 61, 62, 63, 64, 65, 66, 67, 68, 69, 70, 71, 72, 73, 74, 75, 76, 77, 78, 79, 80, 81, 82, 83, 84, 85, 86, 87, 88, 89, 90, 91, 92, 93, 94, 95, 96, 97] rfl gwX12_goes
set_option maxRecDepth 20000 in
theorem gX12_ticksAre_X12_goes : GoodIn wsX12_ticksAre (wsV RX12 144 RX12 yX12_goes wsX12_goes) := goodIn_app (goodIn_r _ [7, 8, 9, 5] rfl (by decide +kernel)) ggX12_ticksAre_X12_goes
theorem dX12_ticksAre_0 : decode cX12_ticksAre 0 = .ok (.bipush 10, 2) := by decide +kernel
theorem dX12_ticksAre_2 : decode cX12_ticksAre 2 = .ok (.aload_n 0, 1) := by decide +kernel
theorem dX12_ticksAre_3 : decode cX12_ticksAre 3 = .ok (.getfield 21, 3) := by decide +kernel
theorem dX12_ticksAre_6 : decode cX12_ticksAre 6 = .ok (.iconst 0, 1) := by decide +kernel
theorem dX12_ticksAre_7 : decode cX12_ticksAre 7 = .ok (.iaload, 1) := by decide +kernel
theorem dX12_ticksAre_8 : decode cX12_ticksAre 8 = .ok (.imul, 1) := by decide +kernel
theorem dX12_ticksAre_9 : decode cX12_ticksAre 9 = .ok (.aload_n 0, 1) := by decide +kernel
theorem dX12_ticksAre_10 : decode cX12_ticksAre 10 = .ok (.getfield 21, 3) := by decide +kernel
theorem dX12_ticksAre_13 : decode cX12_ticksAre 13 = .ok (.iconst 1, 1) := by decide +kernel
theorem dX12_ticksAre_14 : decode cX12_ticksAre 14 = .ok (.iaload, 1) := by decide +kernel
theorem dX12_ticksAre_15 : decode cX12_ticksAre 15 = .ok (.iadd, 1) := by decide +kernel
theorem dX12_ticksAre_16 : decode cX12_ticksAre 16 = .ok (.istore_n 1, 1) := by decide +kernel
theorem dX12_ticksAre_17 : decode cX12_ticksAre 17 = .ok (.iload_n 1, 1) := by decide +kernel
theorem dX12_ticksAre_18 : decode cX12_ticksAre 18 = .ok (.iconst 1, 1) := by decide +kernel
theorem dX12_ticksAre_19 : decode cX12_ticksAre 19 = .ok (.bipush 60, 2) := by decide +kernel
theorem dX12_ticksAre_21 : decode cX12_ticksAre 21 = .ok (.invokestatic 55, 3) := by decide +kernel
theorem dX12_ticksAre_24 : decode cX12_ticksAre 24 = .ok (.ifCond .eq 15, 3) := by decide +kernel
theorem dX12_ticksAre_27 : decode cX12_ticksAre 27 = .ok (.aload_n 0, 1) := by decide +kernel
theorem dX12_ticksAre_28 : decode cX12_ticksAre 28 = .ok (.getfield 86, 3) := by decide +kernel
theorem dX12_ticksAre_31 : decode cX12_ticksAre 31 = .ok (.iload_n 1, 1) := by decide +kernel
theorem dX12_ticksAre_32 : decode cX12_ticksAre 32 = .ok (.iadd, 1) := by decide +kernel
theorem dX12_ticksAre_33 : decode cX12_ticksAre 33 = .ok (.sipush 9999, 3) := by decide +kernel
theorem dX12_ticksAre_36 : decode cX12_ticksAre 36 = .ok (.if_icmp .le 5, 3) := by decide +kernel
theorem dX12_ticksAre_39 : decode cX12_ticksAre 39 = .ok (.iconst 0, 1) := by decide +kernel
theorem dX12_ticksAre_40 : decode cX12_ticksAre 40 = .ok (.ireturn, 1) := by decide +kernel
theorem dX12_ticksAre_41 : decode cX12_ticksAre 41 = .ok (.iconst 0, 1) := by decide +kernel
theorem dX12_ticksAre_42 : decode cX12_ticksAre 42 = .ok (.istore_n 2, 1) := by decide +kernel
theorem dX12_ticksAre_43 : decode cX12_ticksAre 43 = .ok (.iload_n 2, 1) := by decide +kernel
theorem dX12_ticksAre_44 : decode cX12_ticksAre 44 = .ok (.iload_n 1, 1) := by decide +kernel
theorem dX12_ticksAre_45 : decode cX12_ticksAre 45 = .ok (.if_icmp .ge 13, 3) := by decide +kernel
theorem dX12_ticksAre_48 : decode cX12_ticksAre 48 = .ok (.aload_n 0, 1) := by decide +kernel
theorem dX12_ticksAre_49 : decode cX12_ticksAre 49 = .ok (.invokevirtual 144, 3) := by decide +kernel
theorem dX12_ticksAre_52 : decode cX12_ticksAre 52 = .ok (.iinc 2 1, 3) := by decide +kernel
theorem dX12_ticksAre_55 : decode cX12_ticksAre 55 = .ok (.goto (-12), 3) := by decide +kernel
theorem dX12_ticksAre_58 : decode cX12_ticksAre 58 = .ok (.iconst 1, 1) := by decide +kernel
theorem dX12_ticksAre_59 : decode cX12_ticksAre 59 = .ok (.ireturn, 1) := by decide +kernel
set_option maxRecDepth 20000 in
theorem gwX12_is : wsX12_is.all goodWord = true := by decide +kernel
set_option maxRecDepth 20000 in
theorem ggX12_statement_X12_is : GoodIn wsX12_statement wsX12_is := goodIn_r _ [5, 6, 7, 8, 9, 115, 116, 117, 118, 119, 120, 121, 122, 123, 124, 125, 126, 127, 128, 129, 130, 131, 132, 133, 134, 135, 136] rfl gwX12_is
set_option maxRecDepth 20000 in
theorem gX12_statement_X12_is : GoodIn wsX12_statement (wsV RX12 147 RX12 yX12_is wsX12_is) := goodIn_app (goodIn_r _ [1, 2, 3, 4] rfl (by decide +kernel)) ggX12_statement_X12_is
set_option maxRecDepth 20000 in
theorem gwX12_digits : wsX12_digits.all goodWord = true := by decide +kernel
set_option maxRecDepth 20000 in
theorem ggX12_statement_X12_digits : GoodIn wsX12_statement wsX12_digits := goodIn_r _ [13, 6, 7, 8, 14, 9, 15, 16, 4, 17, 115, 116, 117, 118, 119, 120, 121, 122, 123, 124, 125, 126, 127, 128, 129, 130, 131, 132, 133, 134, 135, 136] rfl gwX12_digits
set_option maxRecDepth 20000 in
theorem gX12_statement_X12_digits : GoodIn wsX12_statement (wsV RX12 150 RX12 yX12_digits wsX12_digits) := goodIn_app (goodIn_r _ [10, 11, 12, 4] rfl (by decide +kernel)) ggX12_statement_X12_digits
set_option maxRecDepth 20000 in
theorem gwX12_serverIs : wsX12_serverIs.all goodWord = true := by decide +kernel
set_option maxRecDepth 20000 in
theorem ggX12_statement_X12_serverIs : GoodIn wsX12_statement wsX12_serverIs := goodIn_r _ [21, 14, 22, 23, 24, 4, 25, 15, 16, 17, 26, 27, 28, 29, 30, 115, 116, 117, 118, 119, 120, 121, 122, 123, 124, 125, 126, 127, 128, 129, 130, 131, 132, 133, 134, 135, 136] rfl gwX12_serverIs
set_option maxRecDepth 20000 in
theorem gX12_statement_X12_serverIs : GoodIn wsX12_statement (wsV RX12 153 RX12 yX12_serverIs wsX12_serverIs) := goodIn_app (goodIn_r _ [18, 19, 20, 4] rfl (by decide +kernel)) ggX12_statement_X12_serverIs
set_option maxRecDepth 20000 in
theorem gwX12_jobIs : wsX12_jobIs.all goodWord = true := by decide +kernel
set_option maxRecDepth 20000 in
theorem ggX12_statement_X12_jobIs : GoodIn wsX12_statement wsX12_jobIs := goodIn_r _ [34, 14, 30, 35, 36, 37, 4, 38, 22, 15, 16, 17, 39, 40, 41, 42, 43, 44, 45, 46, 47, 48, 49, 115, 116, 117, 118, 119, 120, 121, 122, 123, 124, 125, 126, 127, 128, 129, 130, 131, 132, 133, 134, 135, 136] rfl gwX12_jobIs
set_option maxRecDepth 20000 in
theorem gX12_statement_X12_jobIs : GoodIn wsX12_statement (wsV RX12 157 RX12 yX12_jobIs wsX12_jobIs) := goodIn_app (goodIn_r _ [31, 32, 33, 4] rfl (by decide +kernel)) ggX12_statement_X12_jobIs
set_option maxRecDepth 20000 in
theorem gwX12_ticksAre : wsX12_ticksAre.all goodWord = true := by decide +kernel
set_option maxRecDepth 20000 in
theorem ggX12_statement_X12_ticksAre : GoodIn wsX12_statement wsX12_ticksAre := goodIn_r _ [53, 14, 45, 15, 16, 4, 17, 54, 55, 56, 57, 58, 59, 60, 61, 62, 63, 44, 43, 30, 64, 65, 66, 67, 68, 69, 70, 71, 22, 72, 73, 74, 75, 46, 47, 48, 49, 76, 77, 78, 79, 80, 81, 82, 83, 84, 85, 86, 87, 88, 89, 90, 91, 92, 93, 94, 95, 96, 97, 98, 99, 100, 101, 102, 103, 104, 105, 106, 107, 108, 109, 110, 111, 112, 113, 114, 115, 116, 117, 118, 119, 120, 121, 122, 123, 124, 125, 126, 127, 128, 129, 130, 131, 132, 133, 134, 135, 136] rfl gwX12_ticksAre
set_option maxRecDepth 20000 in
theorem gX12_statement_X12_ticksAre : GoodIn wsX12_statement (wsV RX12 160 RX12 yX12_ticksAre wsX12_ticksAre) := goodIn_app (goodIn_r _ [50, 51, 52, 4] rfl (by decide +kernel)) ggX12_statement_X12_ticksAre
theorem dX12_statement_0 : decode cX12_statement 0 = .ok (.aload_n 0, 1) := by decide +kernel
theorem dX12_statement_1 : decode cX12_statement 1 = .ok (.bipush 115, 2) := by decide +kernel
theorem dX12_statement_3 : decode cX12_statement 3 = .ok (.invokevirtual 147, 3) := by decide +kernel
theorem dX12_statement_6 : decode cX12_statement 6 = .ok (.ifCond .eq 8, 3) := by decide +kernel
theorem dX12_statement_9 : decode cX12_statement 9 = .ok (.bipush 115, 2) := by decide +kernel
theorem dX12_statement_11 : decode cX12_statement 11 = .ok (.goto 32, 3) := by decide +kernel
theorem dX12_statement_14 : decode cX12_statement 14 = .ok (.aload_n 0, 1) := by decide +kernel
theorem dX12_statement_15 : decode cX12_statement 15 = .ok (.bipush 106, 2) := by decide +kernel
theorem dX12_statement_17 : decode cX12_statement 17 = .ok (.invokevirtual 147, 3) := by decide +kernel
theorem dX12_statement_20 : decode cX12_statement 20 = .ok (.ifCond .eq 8, 3) := by decide +kernel
theorem dX12_statement_23 : decode cX12_statement 23 = .ok (.bipush 106, 2) := by decide +kernel
theorem dX12_statement_25 : decode cX12_statement 25 = .ok (.goto 18, 3) := by decide +kernel
theorem dX12_statement_28 : decode cX12_statement 28 = .ok (.aload_n 0, 1) := by decide +kernel
theorem dX12_statement_29 : decode cX12_statement 29 = .ok (.bipush 116, 2) := by decide +kernel
theorem dX12_statement_31 : decode cX12_statement 31 = .ok (.invokevirtual 147, 3) := by decide +kernel
theorem dX12_statement_34 : decode cX12_statement 34 = .ok (.ifCond .eq 8, 3) := by decide +kernel
theorem dX12_statement_37 : decode cX12_statement 37 = .ok (.bipush 116, 2) := by decide +kernel
theorem dX12_statement_39 : decode cX12_statement 39 = .ok (.goto 4, 3) := by decide +kernel
theorem dX12_statement_42 : decode cX12_statement 42 = .ok (.iconst 0, 1) := by decide +kernel
theorem dX12_statement_43 : decode cX12_statement 43 = .ok (.istore_n 1, 1) := by decide +kernel
theorem dX12_statement_44 : decode cX12_statement 44 = .ok (.iload_n 1, 1) := by decide +kernel
theorem dX12_statement_45 : decode cX12_statement 45 = .ok (.ifCond .eq 41, 3) := by decide +kernel
theorem dX12_statement_48 : decode cX12_statement 48 = .ok (.aload_n 0, 1) := by decide +kernel
theorem dX12_statement_49 : decode cX12_statement 49 = .ok (.iload_n 1, 1) := by decide +kernel
theorem dX12_statement_50 : decode cX12_statement 50 = .ok (.bipush 115, 2) := by decide +kernel
theorem dX12_statement_52 : decode cX12_statement 52 = .ok (.if_icmp .ne 8, 3) := by decide +kernel
theorem dX12_statement_55 : decode cX12_statement 55 = .ok (.bipush 6, 2) := by decide +kernel
theorem dX12_statement_57 : decode cX12_statement 57 = .ok (.goto 14, 3) := by decide +kernel
theorem dX12_statement_60 : decode cX12_statement 60 = .ok (.iload_n 1, 1) := by decide +kernel
theorem dX12_statement_61 : decode cX12_statement 61 = .ok (.bipush 106, 2) := by decide +kernel
theorem dX12_statement_63 : decode cX12_statement 63 = .ok (.if_icmp .ne 7, 3) := by decide +kernel
theorem dX12_statement_66 : decode cX12_statement 66 = .ok (.iconst 3, 1) := by decide +kernel
theorem dX12_statement_67 : decode cX12_statement 67 = .ok (.goto 4, 3) := by decide +kernel
theorem dX12_statement_70 : decode cX12_statement 70 = .ok (.iconst 2, 1) := by decide +kernel
theorem dX12_statement_71 : decode cX12_statement 71 = .ok (.invokevirtual 150, 3) := by decide +kernel
theorem dX12_statement_74 : decode cX12_statement 74 = .ok (.ifCond .eq 12, 3) := by decide +kernel
theorem dX12_statement_77 : decode cX12_statement 77 = .ok (.aload_n 0, 1) := by decide +kernel
theorem dX12_statement_78 : decode cX12_statement 78 = .ok (.bipush 59, 2) := by decide +kernel
theorem dX12_statement_80 : decode cX12_statement 80 = .ok (.invokevirtual 147, 3) := by decide +kernel
theorem dX12_statement_83 : decode cX12_statement 83 = .ok (.ifCond .ne 5, 3) := by decide +kernel
theorem dX12_statement_86 : decode cX12_statement 86 = .ok (.iconst (-1), 1) := by decide +kernel
theorem dX12_statement_87 : decode cX12_statement 87 = .ok (.ireturn, 1) := by decide +kernel
theorem dX12_statement_88 : decode cX12_statement 88 = .ok (.iload_n 1, 1) := by decide +kernel
theorem dX12_statement_89 : decode cX12_statement 89 = .ok (.bipush 115, 2) := by decide +kernel
theorem dX12_statement_91 : decode cX12_statement 91 = .ok (.if_icmp .ne 10, 3) := by decide +kernel
theorem dX12_statement_94 : decode cX12_statement 94 = .ok (.aload_n 0, 1) := by decide +kernel
theorem dX12_statement_95 : decode cX12_statement 95 = .ok (.invokevirtual 153, 3) := by decide +kernel
theorem dX12_statement_98 : decode cX12_statement 98 = .ok (.goto 20, 3) := by decide +kernel
theorem dX12_statement_101 : decode cX12_statement 101 = .ok (.iload_n 1, 1) := by decide +kernel
theorem dX12_statement_102 : decode cX12_statement 102 = .ok (.bipush 106, 2) := by decide +kernel
theorem dX12_statement_104 : decode cX12_statement 104 = .ok (.if_icmp .ne 10, 3) := by decide +kernel
theorem dX12_statement_107 : decode cX12_statement 107 = .ok (.aload_n 0, 1) := by decide +kernel
theorem dX12_statement_108 : decode cX12_statement 108 = .ok (.invokevirtual 157, 3) := by decide +kernel
theorem dX12_statement_111 : decode cX12_statement 111 = .ok (.goto 7, 3) := by decide +kernel
theorem dX12_statement_114 : decode cX12_statement 114 = .ok (.aload_n 0, 1) := by decide +kernel
theorem dX12_statement_115 : decode cX12_statement 115 = .ok (.invokevirtual 160, 3) := by decide +kernel
theorem dX12_statement_118 : decode cX12_statement 118 = .ok (.istore_n 2, 1) := by decide +kernel
theorem dX12_statement_119 : decode cX12_statement 119 = .ok (.iload_n 2, 1) := by decide +kernel
theorem dX12_statement_120 : decode cX12_statement 120 = .ok (.ifCond .eq 7, 3) := by decide +kernel
theorem dX12_statement_123 : decode cX12_statement 123 = .ok (.iconst 1, 1) := by decide +kernel
theorem dX12_statement_124 : decode cX12_statement 124 = .ok (.goto 4, 3) := by decide +kernel
theorem dX12_statement_127 : decode cX12_statement 127 = .ok (.iconst 0, 1) := by decide +kernel
theorem dX12_statement_128 : decode cX12_statement 128 = .ok (.ireturn, 1) := by decide +kernel
set_option maxRecDepth 20000 in
theorem gwX12_isShelf : wsX12_isShelf.all goodWord = true := by decide +kernel
set_option maxRecDepth 20000 in
theorem ggX12_text_X12_isShelf : GoodIn wsX12_text wsX12_isShelf := goodIn_r _ [8, 9, 10, 7, 11] rfl gwX12_isShelf
set_option maxRecDepth 20000 in
theorem gX12_text_X12_isShelf : GoodIn wsX12_text (va_wsS RX12 163 yX12_isShelf wsX12_isShelf) := goodIn_app (goodIn_r _ [5, 6, 7] rfl (by decide +kernel)) ggX12_text_X12_isShelf
set_option maxRecDepth 20000 in
theorem gwX12_noBytes : wsX12_noBytes.all goodWord = true := by decide +kernel
set_option maxRecDepth 20000 in
theorem ggX12_text_X12_noBytes : GoodIn wsX12_text wsX12_noBytes := goodIn_r _ [15, 16, 17, 18, 19, 20, 7, 21, 141, 142, 143, 144, 145, 146, 147, 148, 149, 150, 151, 152, 153, 154, 155, 156, 157, 158, 159, 160, 161, 162] rfl gwX12_noBytes
set_option maxRecDepth 20000 in
theorem gX12_text_X12_noBytes : GoodIn wsX12_text (wsV RX12 166 RX12 yX12_noBytes wsX12_noBytes) := goodIn_app (goodIn_r _ [12, 13, 14, 7] rfl (by decide +kernel)) ggX12_text_X12_noBytes
set_option maxRecDepth 20000 in
theorem gwX12_keep : wsX12_keep.all goodWord = true := by decide +kernel
set_option maxRecDepth 20000 in
theorem ggX12_text_X12_keep : GoodIn wsX12_text wsX12_keep := goodIn_r _ [25, 26, 27, 28, 29, 30, 141, 142, 143, 144, 145, 146, 147, 148, 149, 150, 151, 152, 153, 154, 155, 156, 157, 158, 159, 160, 161, 162] rfl gwX12_keep
set_option maxRecDepth 20000 in
theorem gX12_text_X12_keep : GoodIn wsX12_text (wsV RX12 169 RX12 yX12_keep wsX12_keep) := goodIn_app (goodIn_r _ [22, 23, 24, 7] rfl (by decide +kernel)) ggX12_text_X12_keep
set_option maxRecDepth 20000 in
theorem gwX12_statement : wsX12_statement.all goodWord = true := by decide +kernel
set_option maxRecDepth 20000 in
theorem ggX12_text_X12_statement : GoodIn wsX12_text wsX12_statement := goodIn_r _ [34, 35, 36, 37, 7, 38, 2, 4, 1, 39, 40, 41, 42, 43, 44, 9, 10, 11, 45, 46, 47, 48, 30, 49, 50, 51, 52, 53, 54, 55, 26, 56, 57, 58, 59, 60, 61, 62, 63, 64, 65, 66, 67, 27, 28, 29, 68, 69, 70, 71, 72, 73, 74, 75, 76, 77, 78, 79, 80, 81, 82, 83, 84, 85, 86, 87, 88, 89, 90, 91, 92, 93, 94, 95, 96, 97, 98, 99, 100, 101, 102, 103, 104, 105, 106, 107, 108, 109, 110, 111, 112, 113, 114, 115, 116, 117, 118, 119, 120, 121, 122, 123, 124, 125, 126, 127, 128, 129, 130, 131, 132, 133, 134, 135, 136, 141, 142, 143, 144, 145, 146, 147, 148, 149, 150, 151, 152, 153, 154, 155, 156, 157, 158, 159, 160, 161, 162] rfl gwX12_statement
set_option maxRecDepth 20000 in
theorem gX12_text_X12_statement : GoodIn wsX12_text (wsV RX12 173 RX12 yX12_statement wsX12_statement) := goodIn_app (goodIn_r _ [31, 32, 33, 7] rfl (by decide +kernel)) ggX12_text_X12_statement
set_option maxRecDepth 20000 in
theorem gwX12_again : wsX12_again.all goodWord = true := by decide +kernel
set_option maxRecDepth 20000 in
theorem ggX12_text_X12_again : GoodIn wsX12_text wsX12_again := goodIn_r _ [140, 26, 27, 28, 29, 30, 141, 142, 143, 144, 145, 146, 147, 148, 149, 150, 151, 152, 153, 154, 155, 156, 157, 158, 159, 160, 161, 162] rfl gwX12_again
set_option maxRecDepth 20000 in
theorem gX12_text_X12_again : GoodIn wsX12_text (wsV RX12 176 RX12 yX12_again wsX12_again) := goodIn_app (goodIn_r _ [137, 138, 139, 7] rfl (by decide +kernel)) ggX12_text_X12_again
theorem dX12_text_0 : decode cX12_text 0 = .ok (.iload_n 1, 1) := by decide +kernel
theorem dX12_text_1 : decode cX12_text 1 = .ok (.invokestatic 163, 3) := by decide +kernel
theorem dX12_text_4 : decode cX12_text 4 = .ok (.ifCond .ne 5, 3) := by decide +kernel
theorem dX12_text_7 : decode cX12_text 7 = .ok (.iconst (-1), 1) := by decide +kernel
theorem dX12_text_8 : decode cX12_text 8 = .ok (.ireturn, 1) := by decide +kernel
theorem dX12_text_9 : decode cX12_text 9 = .ok (.aload_n 0, 1) := by decide +kernel
theorem dX12_text_10 : decode cX12_text 10 = .ok (.iload_n 1, 1) := by decide +kernel
theorem dX12_text_11 : decode cX12_text 11 = .ok (.invokevirtual 166, 3) := by decide +kernel
theorem dX12_text_14 : decode cX12_text 14 = .ok (.istore_n 2, 1) := by decide +kernel
theorem dX12_text_15 : decode cX12_text 15 = .ok (.iload_n 2, 1) := by decide +kernel
theorem dX12_text_16 : decode cX12_text 16 = .ok (.ifCond .ge 5, 3) := by decide +kernel
theorem dX12_text_19 : decode cX12_text 19 = .ok (.iload_n 2, 1) := by decide +kernel
theorem dX12_text_20 : decode cX12_text 20 = .ok (.ireturn, 1) := by decide +kernel
theorem dX12_text_21 : decode cX12_text 21 = .ok (.aload_n 0, 1) := by decide +kernel
theorem dX12_text_22 : decode cX12_text 22 = .ok (.iload_n 1, 1) := by decide +kernel
theorem dX12_text_23 : decode cX12_text 23 = .ok (.putfield 126, 3) := by decide +kernel
theorem dX12_text_26 : decode cX12_text 26 = .ok (.aload_n 0, 1) := by decide +kernel
theorem dX12_text_27 : decode cX12_text 27 = .ok (.iconst 0, 1) := by decide +kernel
theorem dX12_text_28 : decode cX12_text 28 = .ok (.putfield 123, 3) := by decide +kernel
theorem dX12_text_31 : decode cX12_text 31 = .ok (.aload_n 0, 1) := by decide +kernel
theorem dX12_text_32 : decode cX12_text 32 = .ok (.aload_n 0, 1) := by decide +kernel
theorem dX12_text_33 : decode cX12_text 33 = .ok (.getfield 24, 3) := by decide +kernel
theorem dX12_text_36 : decode cX12_text 36 = .ok (.invokevirtual 169, 3) := by decide +kernel
theorem dX12_text_39 : decode cX12_text 39 = .ok (.iconst 0, 1) := by decide +kernel
theorem dX12_text_40 : decode cX12_text 40 = .ok (.istore_n 3, 1) := by decide +kernel
theorem dX12_text_41 : decode cX12_text 41 = .ok (.bipush (-4), 2) := by decide +kernel
theorem dX12_text_43 : decode cX12_text 43 = .ok (.istore 4, 2) := by decide +kernel
theorem dX12_text_45 : decode cX12_text 45 = .ok (.iconst 0, 1) := by decide +kernel
theorem dX12_text_46 : decode cX12_text 46 = .ok (.istore 5, 2) := by decide +kernel
theorem dX12_text_48 : decode cX12_text 48 = .ok (.iconst 1, 1) := by decide +kernel
theorem dX12_text_49 : decode cX12_text 49 = .ok (.istore 6, 2) := by decide +kernel
theorem dX12_text_51 : decode cX12_text 51 = .ok (.iload 6, 2) := by decide +kernel
theorem dX12_text_53 : decode cX12_text 53 = .ok (.ifCond .eq 80, 3) := by decide +kernel
theorem dX12_text_56 : decode cX12_text 56 = .ok (.aload_n 0, 1) := by decide +kernel
theorem dX12_text_57 : decode cX12_text 57 = .ok (.getfield 123, 3) := by decide +kernel
theorem dX12_text_60 : decode cX12_text 60 = .ok (.istore 5, 2) := by decide +kernel
theorem dX12_text_62 : decode cX12_text 62 = .ok (.aload_n 0, 1) := by decide +kernel
theorem dX12_text_63 : decode cX12_text 63 = .ok (.invokevirtual 173, 3) := by decide +kernel
theorem dX12_text_66 : decode cX12_text 66 = .ok (.istore 7, 2) := by decide +kernel
theorem dX12_text_68 : decode cX12_text 68 = .ok (.iload 7, 2) := by decide +kernel
theorem dX12_text_70 : decode cX12_text 70 = .ok (.ifCond .ne 14, 3) := by decide +kernel
theorem dX12_text_73 : decode cX12_text 73 = .ok (.iload 4, 2) := by decide +kernel
theorem dX12_text_75 : decode cX12_text 75 = .ok (.bipush (-4), 2) := by decide +kernel
theorem dX12_text_77 : decode cX12_text 77 = .ok (.if_icmp .ne 7, 3) := by decide +kernel
theorem dX12_text_80 : decode cX12_text 80 = .ok (.iload 5, 2) := by decide +kernel
theorem dX12_text_82 : decode cX12_text 82 = .ok (.istore 4, 2) := by decide +kernel
theorem dX12_text_84 : decode cX12_text 84 = .ok (.iload 7, 2) := by decide +kernel
theorem dX12_text_86 : decode cX12_text 86 = .ok (.iconst (-1), 1) := by decide +kernel
theorem dX12_text_87 : decode cX12_text 87 = .ok (.if_icmp .ne 20, 3) := by decide +kernel
theorem dX12_text_90 : decode cX12_text 90 = .ok (.aload_n 0, 1) := by decide +kernel
theorem dX12_text_91 : decode cX12_text 91 = .ok (.aload_n 0, 1) := by decide +kernel
theorem dX12_text_92 : decode cX12_text 92 = .ok (.getfield 24, 3) := by decide +kernel
theorem dX12_text_95 : decode cX12_text 95 = .ok (.invokevirtual 176, 3) := by decide +kernel
theorem dX12_text_98 : decode cX12_text 98 = .ok (.sipush (-1000), 3) := by decide +kernel
theorem dX12_text_101 : decode cX12_text 101 = .ok (.aload_n 0, 1) := by decide +kernel
theorem dX12_text_102 : decode cX12_text 102 = .ok (.getfield 123, 3) := by decide +kernel
theorem dX12_text_105 : decode cX12_text 105 = .ok (.isub, 1) := by decide +kernel
theorem dX12_text_106 : decode cX12_text 106 = .ok (.ireturn, 1) := by decide +kernel
theorem dX12_text_107 : decode cX12_text 107 = .ok (.iinc 3 1, 3) := by decide +kernel
theorem dX12_text_110 : decode cX12_text 110 = .ok (.aload_n 0, 1) := by decide +kernel
theorem dX12_text_111 : decode cX12_text 111 = .ok (.getfield 123, 3) := by decide +kernel
theorem dX12_text_114 : decode cX12_text 114 = .ok (.aload_n 0, 1) := by decide +kernel
theorem dX12_text_115 : decode cX12_text 115 = .ok (.getfield 36, 3) := by decide +kernel
theorem dX12_text_118 : decode cX12_text 118 = .ok (.iload_n 1, 1) := by decide +kernel
theorem dX12_text_119 : decode cX12_text 119 = .ok (.iaload, 1) := by decide +kernel
theorem dX12_text_120 : decode cX12_text 120 = .ok (.if_icmp .ge 7, 3) := by decide +kernel
theorem dX12_text_123 : decode cX12_text 123 = .ok (.iconst 1, 1) := by decide +kernel
theorem dX12_text_124 : decode cX12_text 124 = .ok (.goto 4, 3) := by decide +kernel
theorem dX12_text_127 : decode cX12_text 127 = .ok (.iconst 0, 1) := by decide +kernel
theorem dX12_text_128 : decode cX12_text 128 = .ok (.istore 6, 2) := by decide +kernel
theorem dX12_text_130 : decode cX12_text 130 = .ok (.goto (-79), 3) := by decide +kernel
theorem dX12_text_133 : decode cX12_text 133 = .ok (.iload 4, 2) := by decide +kernel
theorem dX12_text_135 : decode cX12_text 135 = .ok (.bipush (-4), 2) := by decide +kernel
theorem dX12_text_137 : decode cX12_text 137 = .ok (.if_icmp .ne 5, 3) := by decide +kernel
theorem dX12_text_140 : decode cX12_text 140 = .ok (.iload_n 3, 1) := by decide +kernel
theorem dX12_text_141 : decode cX12_text 141 = .ok (.ireturn, 1) := by decide +kernel
theorem dX12_text_142 : decode cX12_text 142 = .ok (.aload_n 0, 1) := by decide +kernel
theorem dX12_text_143 : decode cX12_text 143 = .ok (.aload_n 0, 1) := by decide +kernel
theorem dX12_text_144 : decode cX12_text 144 = .ok (.getfield 24, 3) := by decide +kernel
theorem dX12_text_147 : decode cX12_text 147 = .ok (.invokevirtual 176, 3) := by decide +kernel
theorem dX12_text_150 : decode cX12_text 150 = .ok (.sipush (-2000), 3) := by decide +kernel
theorem dX12_text_153 : decode cX12_text 153 = .ok (.iload 4, 2) := by decide +kernel
theorem dX12_text_155 : decode cX12_text 155 = .ok (.isub, 1) := by decide +kernel
theorem dX12_text_156 : decode cX12_text 156 = .ok (.ireturn, 1) := by decide +kernel
set_option maxRecDepth 20000 in
theorem ggX12_server_X12_isServer : GoodIn wsX12_server wsX12_isServer := goodIn_r _ [6, 7, 8, 9, 5, 10, 34, 35, 36, 37, 38, 39, 40, 41, 42, 43, 44, 45, 46, 47, 48, 49, 50, 51, 52, 53, 54, 55] rfl gwX12_isServer
set_option maxRecDepth 20000 in
theorem gX12_server_X12_isServer : GoodIn wsX12_server (wsV RX12 137 RX12 yX12_isServer wsX12_isServer) := goodIn_app (goodIn_r _ [2, 3, 4, 5] rfl (by decide +kernel)) ggX12_server_X12_isServer
set_option maxRecDepth 20000 in
theorem ggX12_server_X12_share : GoodIn wsX12_server wsX12_share := goodIn_r _ [14, 1, 34, 35, 36, 37, 38, 39, 40, 41, 42, 43, 44, 45, 46, 47, 48, 49, 50, 51, 52, 53, 54, 55] rfl gwX12_share
set_option maxRecDepth 20000 in
theorem gX12_server_X12_share : GoodIn wsX12_server (wsV RX12 63 RX12 yX12_share wsX12_share) := goodIn_app (goodIn_r _ [11, 12, 13, 5] rfl (by decide +kernel)) ggX12_server_X12_share
set_option maxRecDepth 20000 in
theorem ggX12_server_X12_pays : GoodIn wsX12_server wsX12_pays := goodIn_r _ [18, 1, 19, 20, 21, 22, 23, 24, 25, 5, 26, 27, 28, 29, 30, 31, 32, 33, 7, 11, 12, 13, 14, 34, 35, 36, 37, 38, 39, 40, 41, 42, 43, 44, 45, 46, 47, 48, 49, 50, 51, 52, 53, 54, 55] rfl gwX12_pays
set_option maxRecDepth 20000 in
theorem gX12_server_X12_pays : GoodIn wsX12_server (wsV RX12 110 RX12 yX12_pays wsX12_pays) := goodIn_app (goodIn_r _ [15, 16, 17, 5] rfl (by decide +kernel)) ggX12_server_X12_pays
theorem dX12_server_0 : decode cX12_server 0 = .ok (.aload_n 0, 1) := by decide +kernel
theorem dX12_server_1 : decode cX12_server 1 = .ok (.iload_n 1, 1) := by decide +kernel
theorem dX12_server_2 : decode cX12_server 2 = .ok (.invokevirtual 137, 3) := by decide +kernel
theorem dX12_server_5 : decode cX12_server 5 = .ok (.ifCond .ne 5, 3) := by decide +kernel
theorem dX12_server_8 : decode cX12_server 8 = .ok (.iconst (-1), 1) := by decide +kernel
theorem dX12_server_9 : decode cX12_server 9 = .ok (.ireturn, 1) := by decide +kernel
theorem dX12_server_10 : decode cX12_server 10 = .ok (.iload_n 2, 1) := by decide +kernel
theorem dX12_server_11 : decode cX12_server 11 = .ok (.tableswitch 176 0 11 #[61, 70, 80, 90, 100, 106, 120, 130, 140, 150, 160, 170], 61) := by decide +kernel
theorem dX12_server_72 : decode cX12_server 72 = .ok (.aload_n 0, 1) := by decide +kernel
theorem dX12_server_73 : decode cX12_server 73 = .ok (.getfield 9, 3) := by decide +kernel
theorem dX12_server_76 : decode cX12_server 76 = .ok (.iconst 0, 1) := by decide +kernel
theorem dX12_server_77 : decode cX12_server 77 = .ok (.iload_n 1, 1) := by decide +kernel
theorem dX12_server_78 : decode cX12_server 78 = .ok (.iadd, 1) := by decide +kernel
theorem dX12_server_79 : decode cX12_server 79 = .ok (.iaload, 1) := by decide +kernel
theorem dX12_server_80 : decode cX12_server 80 = .ok (.ireturn, 1) := by decide +kernel
theorem dX12_server_81 : decode cX12_server 81 = .ok (.aload_n 0, 1) := by decide +kernel
theorem dX12_server_82 : decode cX12_server 82 = .ok (.getfield 9, 3) := by decide +kernel
theorem dX12_server_85 : decode cX12_server 85 = .ok (.bipush 6, 2) := by decide +kernel
theorem dX12_server_87 : decode cX12_server 87 = .ok (.iload_n 1, 1) := by decide +kernel
theorem dX12_server_88 : decode cX12_server 88 = .ok (.iadd, 1) := by decide +kernel
theorem dX12_server_89 : decode cX12_server 89 = .ok (.iaload, 1) := by decide +kernel
theorem dX12_server_90 : decode cX12_server 90 = .ok (.ireturn, 1) := by decide +kernel
theorem dX12_server_91 : decode cX12_server 91 = .ok (.aload_n 0, 1) := by decide +kernel
theorem dX12_server_92 : decode cX12_server 92 = .ok (.getfield 9, 3) := by decide +kernel
theorem dX12_server_95 : decode cX12_server 95 = .ok (.bipush 12, 2) := by decide +kernel
theorem dX12_server_97 : decode cX12_server 97 = .ok (.iload_n 1, 1) := by decide +kernel
theorem dX12_server_98 : decode cX12_server 98 = .ok (.iadd, 1) := by decide +kernel
theorem dX12_server_99 : decode cX12_server 99 = .ok (.iaload, 1) := by decide +kernel
theorem dX12_server_100 : decode cX12_server 100 = .ok (.ireturn, 1) := by decide +kernel
theorem dX12_server_101 : decode cX12_server 101 = .ok (.aload_n 0, 1) := by decide +kernel
theorem dX12_server_102 : decode cX12_server 102 = .ok (.getfield 9, 3) := by decide +kernel
theorem dX12_server_105 : decode cX12_server 105 = .ok (.bipush 18, 2) := by decide +kernel
theorem dX12_server_107 : decode cX12_server 107 = .ok (.iload_n 1, 1) := by decide +kernel
theorem dX12_server_108 : decode cX12_server 108 = .ok (.iadd, 1) := by decide +kernel
theorem dX12_server_109 : decode cX12_server 109 = .ok (.iaload, 1) := by decide +kernel
theorem dX12_server_110 : decode cX12_server 110 = .ok (.ireturn, 1) := by decide +kernel
theorem dX12_server_111 : decode cX12_server 111 = .ok (.aload_n 0, 1) := by decide +kernel
theorem dX12_server_112 : decode cX12_server 112 = .ok (.iload_n 1, 1) := by decide +kernel
theorem dX12_server_113 : decode cX12_server 113 = .ok (.invokevirtual 63, 3) := by decide +kernel
theorem dX12_server_116 : decode cX12_server 116 = .ok (.ireturn, 1) := by decide +kernel
theorem dX12_server_117 : decode cX12_server 117 = .ok (.aload_n 0, 1) := by decide +kernel
theorem dX12_server_118 : decode cX12_server 118 = .ok (.getfield 9, 3) := by decide +kernel
theorem dX12_server_121 : decode cX12_server 121 = .ok (.bipush 24, 2) := by decide +kernel
theorem dX12_server_123 : decode cX12_server 123 = .ok (.iload_n 1, 1) := by decide +kernel
theorem dX12_server_124 : decode cX12_server 124 = .ok (.iadd, 1) := by decide +kernel
theorem dX12_server_125 : decode cX12_server 125 = .ok (.iaload, 1) := by decide +kernel
theorem dX12_server_126 : decode cX12_server 126 = .ok (.sipush 10000, 3) := by decide +kernel
theorem dX12_server_129 : decode cX12_server 129 = .ok (.iadd, 1) := by decide +kernel
theorem dX12_server_130 : decode cX12_server 130 = .ok (.ireturn, 1) := by decide +kernel
theorem dX12_server_131 : decode cX12_server 131 = .ok (.aload_n 0, 1) := by decide +kernel
theorem dX12_server_132 : decode cX12_server 132 = .ok (.getfield 9, 3) := by decide +kernel
theorem dX12_server_135 : decode cX12_server 135 = .ok (.bipush 30, 2) := by decide +kernel
theorem dX12_server_137 : decode cX12_server 137 = .ok (.iload_n 1, 1) := by decide +kernel
theorem dX12_server_138 : decode cX12_server 138 = .ok (.iadd, 1) := by decide +kernel
theorem dX12_server_139 : decode cX12_server 139 = .ok (.iaload, 1) := by decide +kernel
theorem dX12_server_140 : decode cX12_server 140 = .ok (.ireturn, 1) := by decide +kernel
theorem dX12_server_141 : decode cX12_server 141 = .ok (.aload_n 0, 1) := by decide +kernel
theorem dX12_server_142 : decode cX12_server 142 = .ok (.getfield 9, 3) := by decide +kernel
theorem dX12_server_145 : decode cX12_server 145 = .ok (.bipush 36, 2) := by decide +kernel
theorem dX12_server_147 : decode cX12_server 147 = .ok (.iload_n 1, 1) := by decide +kernel
theorem dX12_server_148 : decode cX12_server 148 = .ok (.iadd, 1) := by decide +kernel
theorem dX12_server_149 : decode cX12_server 149 = .ok (.iaload, 1) := by decide +kernel
theorem dX12_server_150 : decode cX12_server 150 = .ok (.ireturn, 1) := by decide +kernel
theorem dX12_server_151 : decode cX12_server 151 = .ok (.aload_n 0, 1) := by decide +kernel
theorem dX12_server_152 : decode cX12_server 152 = .ok (.getfield 9, 3) := by decide +kernel
theorem dX12_server_155 : decode cX12_server 155 = .ok (.bipush 42, 2) := by decide +kernel
theorem dX12_server_157 : decode cX12_server 157 = .ok (.iload_n 1, 1) := by decide +kernel
theorem dX12_server_158 : decode cX12_server 158 = .ok (.iadd, 1) := by decide +kernel
theorem dX12_server_159 : decode cX12_server 159 = .ok (.iaload, 1) := by decide +kernel
theorem dX12_server_160 : decode cX12_server 160 = .ok (.ireturn, 1) := by decide +kernel
theorem dX12_server_161 : decode cX12_server 161 = .ok (.aload_n 0, 1) := by decide +kernel
theorem dX12_server_162 : decode cX12_server 162 = .ok (.getfield 9, 3) := by decide +kernel
theorem dX12_server_165 : decode cX12_server 165 = .ok (.bipush 48, 2) := by decide +kernel
theorem dX12_server_167 : decode cX12_server 167 = .ok (.iload_n 1, 1) := by decide +kernel
theorem dX12_server_168 : decode cX12_server 168 = .ok (.iadd, 1) := by decide +kernel
theorem dX12_server_169 : decode cX12_server 169 = .ok (.iaload, 1) := by decide +kernel
theorem dX12_server_170 : decode cX12_server 170 = .ok (.ireturn, 1) := by decide +kernel
theorem dX12_server_171 : decode cX12_server 171 = .ok (.aload_n 0, 1) := by decide +kernel
theorem dX12_server_172 : decode cX12_server 172 = .ok (.getfield 9, 3) := by decide +kernel
theorem dX12_server_175 : decode cX12_server 175 = .ok (.bipush 54, 2) := by decide +kernel
theorem dX12_server_177 : decode cX12_server 177 = .ok (.iload_n 1, 1) := by decide +kernel
theorem dX12_server_178 : decode cX12_server 178 = .ok (.iadd, 1) := by decide +kernel
theorem dX12_server_179 : decode cX12_server 179 = .ok (.iaload, 1) := by decide +kernel
theorem dX12_server_180 : decode cX12_server 180 = .ok (.ireturn, 1) := by decide +kernel
theorem dX12_server_181 : decode cX12_server 181 = .ok (.aload_n 0, 1) := by decide +kernel
theorem dX12_server_182 : decode cX12_server 182 = .ok (.iload_n 1, 1) := by decide +kernel
theorem dX12_server_183 : decode cX12_server 183 = .ok (.invokevirtual 110, 3) := by decide +kernel
theorem dX12_server_186 : decode cX12_server 186 = .ok (.ireturn, 1) := by decide +kernel
theorem dX12_server_187 : decode cX12_server 187 = .ok (.iconst (-1), 1) := by decide +kernel
theorem dX12_server_188 : decode cX12_server 188 = .ok (.ireturn, 1) := by decide +kernel
set_option maxRecDepth 20000 in
theorem ggX12_job_X12_isServer : GoodIn wsX12_job wsX12_isServer := goodIn_r _ [8, 9, 10, 11, 7, 12, 13, 14, 15, 16, 17, 18, 19, 20, 21, 22, 23, 24, 25, 26, 27, 28, 29, 30, 31, 32, 33, 34] rfl gwX12_isServer
set_option maxRecDepth 20000 in
theorem gX12_job_X12_isServer : GoodIn wsX12_job (wsV RX12 137 RX12 yX12_isServer wsX12_isServer) := goodIn_app (goodIn_r _ [4, 5, 6, 7] rfl (by decide +kernel)) ggX12_job_X12_isServer
set_option maxRecDepth 20000 in
theorem ggX12_job_X12_within : GoodIn wsX12_job wsX12_within := goodIn_r _ [12] rfl gwX12_within
set_option maxRecDepth 20000 in
theorem gX12_job_X12_within : GoodIn wsX12_job (va_wsS RX12 55 yX12_within wsX12_within) := goodIn_app (goodIn_r _ [10, 11, 7] rfl (by decide +kernel)) ggX12_job_X12_within
theorem dX12_job_0 : decode cX12_job 0 = .ok (.aload_n 0, 1) := by decide +kernel
theorem dX12_job_1 : decode cX12_job 1 = .ok (.iload_n 1, 1) := by decide +kernel
theorem dX12_job_2 : decode cX12_job 2 = .ok (.invokevirtual 137, 3) := by decide +kernel
theorem dX12_job_5 : decode cX12_job 5 = .ok (.ifCond .eq 22, 3) := by decide +kernel
theorem dX12_job_8 : decode cX12_job 8 = .ok (.iload_n 2, 1) := by decide +kernel
theorem dX12_job_9 : decode cX12_job 9 = .ok (.iconst 0, 1) := by decide +kernel
theorem dX12_job_10 : decode cX12_job 10 = .ok (.aload_n 0, 1) := by decide +kernel
theorem dX12_job_11 : decode cX12_job 11 = .ok (.getfield 9, 3) := by decide +kernel
theorem dX12_job_14 : decode cX12_job 14 = .ok (.bipush 42, 2) := by decide +kernel
theorem dX12_job_16 : decode cX12_job 16 = .ok (.iload_n 1, 1) := by decide +kernel
theorem dX12_job_17 : decode cX12_job 17 = .ok (.iadd, 1) := by decide +kernel
theorem dX12_job_18 : decode cX12_job 18 = .ok (.iaload, 1) := by decide +kernel
theorem dX12_job_19 : decode cX12_job 19 = .ok (.iconst 1, 1) := by decide +kernel
theorem dX12_job_20 : decode cX12_job 20 = .ok (.isub, 1) := by decide +kernel
theorem dX12_job_21 : decode cX12_job 21 = .ok (.invokestatic 55, 3) := by decide +kernel
theorem dX12_job_24 : decode cX12_job 24 = .ok (.ifCond .ne 5, 3) := by decide +kernel
theorem dX12_job_27 : decode cX12_job 27 = .ok (.iconst (-1), 1) := by decide +kernel
theorem dX12_job_28 : decode cX12_job 28 = .ok (.ireturn, 1) := by decide +kernel
theorem dX12_job_29 : decode cX12_job 29 = .ok (.iload_n 3, 1) := by decide +kernel
theorem dX12_job_30 : decode cX12_job 30 = .ok (.tableswitch 89 0 3 #[30, 41, 52, 70], 30) := by decide +kernel
theorem dX12_job_60 : decode cX12_job 60 = .ok (.aload_n 0, 1) := by decide +kernel
theorem dX12_job_61 : decode cX12_job 61 = .ok (.getfield 15, 3) := by decide +kernel
theorem dX12_job_64 : decode cX12_job 64 = .ok (.iconst 4, 1) := by decide +kernel
theorem dX12_job_65 : decode cX12_job 65 = .ok (.iload_n 1, 1) := by decide +kernel
theorem dX12_job_66 : decode cX12_job 66 = .ok (.imul, 1) := by decide +kernel
theorem dX12_job_67 : decode cX12_job 67 = .ok (.iload_n 2, 1) := by decide +kernel
theorem dX12_job_68 : decode cX12_job 68 = .ok (.iadd, 1) := by decide +kernel
theorem dX12_job_69 : decode cX12_job 69 = .ok (.iaload, 1) := by decide +kernel
theorem dX12_job_70 : decode cX12_job 70 = .ok (.ireturn, 1) := by decide +kernel
theorem dX12_job_71 : decode cX12_job 71 = .ok (.aload_n 0, 1) := by decide +kernel
theorem dX12_job_72 : decode cX12_job 72 = .ok (.getfield 18, 3) := by decide +kernel
theorem dX12_job_75 : decode cX12_job 75 = .ok (.iconst 4, 1) := by decide +kernel
theorem dX12_job_76 : decode cX12_job 76 = .ok (.iload_n 1, 1) := by decide +kernel
theorem dX12_job_77 : decode cX12_job 77 = .ok (.imul, 1) := by decide +kernel
theorem dX12_job_78 : decode cX12_job 78 = .ok (.iload_n 2, 1) := by decide +kernel
theorem dX12_job_79 : decode cX12_job 79 = .ok (.iadd, 1) := by decide +kernel
theorem dX12_job_80 : decode cX12_job 80 = .ok (.iaload, 1) := by decide +kernel
theorem dX12_job_81 : decode cX12_job 81 = .ok (.ireturn, 1) := by decide +kernel
theorem dX12_job_82 : decode cX12_job 82 = .ok (.iload_n 2, 1) := by decide +kernel
theorem dX12_job_83 : decode cX12_job 83 = .ok (.ifCond .ne 15, 3) := by decide +kernel
theorem dX12_job_86 : decode cX12_job 86 = .ok (.aload_n 0, 1) := by decide +kernel
theorem dX12_job_87 : decode cX12_job 87 = .ok (.getfield 9, 3) := by decide +kernel
theorem dX12_job_90 : decode cX12_job 90 = .ok (.bipush 66, 2) := by decide +kernel
theorem dX12_job_92 : decode cX12_job 92 = .ok (.iload_n 1, 1) := by decide +kernel
theorem dX12_job_93 : decode cX12_job 93 = .ok (.iadd, 1) := by decide +kernel
theorem dX12_job_94 : decode cX12_job 94 = .ok (.iaload, 1) := by decide +kernel
theorem dX12_job_95 : decode cX12_job 95 = .ok (.goto 4, 3) := by decide +kernel
theorem dX12_job_98 : decode cX12_job 98 = .ok (.iconst 0, 1) := by decide +kernel
theorem dX12_job_99 : decode cX12_job 99 = .ok (.ireturn, 1) := by decide +kernel
theorem dX12_job_100 : decode cX12_job 100 = .ok (.iload_n 2, 1) := by decide +kernel
theorem dX12_job_101 : decode cX12_job 101 = .ok (.ifCond .ne 15, 3) := by decide +kernel
theorem dX12_job_104 : decode cX12_job 104 = .ok (.aload_n 0, 1) := by decide +kernel
theorem dX12_job_105 : decode cX12_job 105 = .ok (.getfield 9, 3) := by decide +kernel
theorem dX12_job_108 : decode cX12_job 108 = .ok (.bipush 60, 2) := by decide +kernel
theorem dX12_job_110 : decode cX12_job 110 = .ok (.iload_n 1, 1) := by decide +kernel
theorem dX12_job_111 : decode cX12_job 111 = .ok (.iadd, 1) := by decide +kernel
theorem dX12_job_112 : decode cX12_job 112 = .ok (.iaload, 1) := by decide +kernel
theorem dX12_job_113 : decode cX12_job 113 = .ok (.goto 5, 3) := by decide +kernel
theorem dX12_job_116 : decode cX12_job 116 = .ok (.bipush (-4), 2) := by decide +kernel
theorem dX12_job_118 : decode cX12_job 118 = .ok (.ireturn, 1) := by decide +kernel
theorem dX12_job_119 : decode cX12_job 119 = .ok (.iconst (-1), 1) := by decide +kernel
theorem dX12_job_120 : decode cX12_job 120 = .ok (.ireturn, 1) := by decide +kernel
set_option maxRecDepth 20000 in
theorem ggX12_comes_X12_isSize : GoodIn wsX12_comes wsX12_isSize := goodIn_r _ [7, 8, 9, 6, 10] rfl gwX12_isSize
set_option maxRecDepth 20000 in
theorem gX12_comes_X12_isSize : GoodIn wsX12_comes (va_wsS RX12 129 yX12_isSize wsX12_isSize) := goodIn_app (goodIn_r _ [4, 5, 6] rfl (by decide +kernel)) ggX12_comes_X12_isSize
set_option maxRecDepth 20000 in
theorem ggX12_comes_X12_isShelf : GoodIn wsX12_comes wsX12_isShelf := goodIn_r _ [13, 8, 9, 6, 10] rfl gwX12_isShelf
set_option maxRecDepth 20000 in
theorem gX12_comes_X12_isShelf : GoodIn wsX12_comes (va_wsS RX12 163 yX12_isShelf wsX12_isShelf) := goodIn_app (goodIn_r _ [11, 12, 6] rfl (by decide +kernel)) ggX12_comes_X12_isShelf
set_option maxRecDepth 20000 in
theorem gwX12_noSort : wsX12_noSort.all goodWord = true := by decide +kernel
set_option maxRecDepth 20000 in
theorem ggX12_comes_X12_noSort : GoodIn wsX12_comes wsX12_noSort := goodIn_r _ [17, 18, 24, 25, 26, 27, 28, 29, 30, 31, 32, 33, 34, 35, 36, 37, 38, 39, 40, 41, 42, 43, 44, 45] rfl gwX12_noSort
set_option maxRecDepth 20000 in
theorem gX12_comes_X12_noSort : GoodIn wsX12_comes (wsV RX12 179 RX12 yX12_noSort wsX12_noSort) := goodIn_app (goodIn_r _ [14, 15, 16, 6] rfl (by decide +kernel)) ggX12_comes_X12_noSort
set_option maxRecDepth 20000 in
theorem ggX12_comes_X12_newServer : GoodIn wsX12_comes wsX12_newServer := goodIn_r _ [22, 1, 23, 24, 25, 26, 27, 28, 29, 30, 31, 32, 33, 34, 35, 36, 37, 38, 39, 40, 41, 42, 43, 44, 45] rfl gwX12_newServer
set_option maxRecDepth 20000 in
theorem gX12_comes_X12_newServer : GoodIn wsX12_comes (wsV RX12 133 RX12 yX12_newServer wsX12_newServer) := goodIn_app (goodIn_r _ [19, 20, 21, 6] rfl (by decide +kernel)) ggX12_comes_X12_newServer
theorem dX12_comes_0 : decode cX12_comes 0 = .ok (.iload_n 2, 1) := by decide +kernel
theorem dX12_comes_1 : decode cX12_comes 1 = .ok (.iload_n 3, 1) := by decide +kernel
theorem dX12_comes_2 : decode cX12_comes 2 = .ok (.invokestatic 129, 3) := by decide +kernel
theorem dX12_comes_5 : decode cX12_comes 5 = .ok (.ifCond .eq 10, 3) := by decide +kernel
theorem dX12_comes_8 : decode cX12_comes 8 = .ok (.iload_n 1, 1) := by decide +kernel
theorem dX12_comes_9 : decode cX12_comes 9 = .ok (.invokestatic 163, 3) := by decide +kernel
theorem dX12_comes_12 : decode cX12_comes 12 = .ok (.ifCond .ne 5, 3) := by decide +kernel
theorem dX12_comes_15 : decode cX12_comes 15 = .ok (.iconst (-1), 1) := by decide +kernel
theorem dX12_comes_16 : decode cX12_comes 16 = .ok (.ireturn, 1) := by decide +kernel
theorem dX12_comes_17 : decode cX12_comes 17 = .ok (.aload_n 0, 1) := by decide +kernel
theorem dX12_comes_18 : decode cX12_comes 18 = .ok (.iload_n 1, 1) := by decide +kernel
theorem dX12_comes_19 : decode cX12_comes 19 = .ok (.invokevirtual 179, 3) := by decide +kernel
theorem dX12_comes_22 : decode cX12_comes 22 = .ok (.istore 4, 2) := by decide +kernel
theorem dX12_comes_24 : decode cX12_comes 24 = .ok (.iload 4, 2) := by decide +kernel
theorem dX12_comes_26 : decode cX12_comes 26 = .ok (.ifCond .ge 6, 3) := by decide +kernel
theorem dX12_comes_29 : decode cX12_comes 29 = .ok (.iload 4, 2) := by decide +kernel
theorem dX12_comes_31 : decode cX12_comes 31 = .ok (.ireturn, 1) := by decide +kernel
theorem dX12_comes_32 : decode cX12_comes 32 = .ok (.aload_n 0, 1) := by decide +kernel
theorem dX12_comes_33 : decode cX12_comes 33 = .ok (.getfield 51, 3) := by decide +kernel
theorem dX12_comes_36 : decode cX12_comes 36 = .ok (.bipush 6, 2) := by decide +kernel
theorem dX12_comes_38 : decode cX12_comes 38 = .ok (.if_icmp .ne 8, 3) := by decide +kernel
theorem dX12_comes_41 : decode cX12_comes 41 = .ok (.bipush (-2), 2) := by decide +kernel
theorem dX12_comes_43 : decode cX12_comes 43 = .ok (.goto 21, 3) := by decide +kernel
theorem dX12_comes_46 : decode cX12_comes 46 = .ok (.aload_n 0, 1) := by decide +kernel
theorem dX12_comes_47 : decode cX12_comes 47 = .ok (.aload_n 0, 1) := by decide +kernel
theorem dX12_comes_48 : decode cX12_comes 48 = .ok (.getfield 33, 3) := by decide +kernel
theorem dX12_comes_51 : decode cX12_comes 51 = .ok (.iload_n 1, 1) := by decide +kernel
theorem dX12_comes_52 : decode cX12_comes 52 = .ok (.iaload, 1) := by decide +kernel
theorem dX12_comes_53 : decode cX12_comes 53 = .ok (.aload_n 0, 1) := by decide +kernel
theorem dX12_comes_54 : decode cX12_comes 54 = .ok (.getfield 36, 3) := by decide +kernel
theorem dX12_comes_57 : decode cX12_comes 57 = .ok (.iload_n 1, 1) := by decide +kernel
theorem dX12_comes_58 : decode cX12_comes 58 = .ok (.iaload, 1) := by decide +kernel
theorem dX12_comes_59 : decode cX12_comes 59 = .ok (.iload_n 2, 1) := by decide +kernel
theorem dX12_comes_60 : decode cX12_comes 60 = .ok (.iload_n 3, 1) := by decide +kernel
theorem dX12_comes_61 : decode cX12_comes 61 = .ok (.invokevirtual 133, 3) := by decide +kernel
theorem dX12_comes_64 : decode cX12_comes 64 = .ok (.ireturn, 1) := by decide +kernel
set_option maxRecDepth 20000 in
theorem ggX12_sends_X12_isServer : GoodIn wsX12_sends wsX12_isServer := goodIn_r _ [6, 7, 8, 9, 5, 10, 22, 23, 24, 25, 26, 27, 28, 29, 30, 31, 32, 33, 34, 35, 36, 37, 38, 39, 40, 41, 42, 43] rfl gwX12_isServer
set_option maxRecDepth 20000 in
theorem gX12_sends_X12_isServer : GoodIn wsX12_sends (wsV RX12 137 RX12 yX12_isServer wsX12_isServer) := goodIn_app (goodIn_r _ [2, 3, 4, 5] rfl (by decide +kernel)) ggX12_sends_X12_isServer
set_option maxRecDepth 20000 in
theorem ggX12_sends_X12_within : GoodIn wsX12_sends wsX12_within := goodIn_r _ [10] rfl gwX12_within
set_option maxRecDepth 20000 in
theorem gX12_sends_X12_within : GoodIn wsX12_sends (va_wsS RX12 55 yX12_within wsX12_within) := goodIn_app (goodIn_r _ [8, 9, 5] rfl (by decide +kernel)) ggX12_sends_X12_within
set_option maxRecDepth 20000 in
theorem ggX12_sends_X12_jobComes : GoodIn wsX12_sends wsX12_jobComes := goodIn_r _ [14, 1, 15, 16, 17, 18, 19, 20, 5, 21, 22, 23, 24, 25, 26, 27, 28, 29, 30, 31, 32, 33, 34, 35, 36, 37, 38, 39, 40, 41, 42, 43] rfl gwX12_jobComes
set_option maxRecDepth 20000 in
theorem gX12_sends_X12_jobComes : GoodIn wsX12_sends (wsV RX12 140 RX12 yX12_jobComes wsX12_jobComes) := goodIn_app (goodIn_r _ [11, 12, 13, 5] rfl (by decide +kernel)) ggX12_sends_X12_jobComes
theorem dX12_sends_0 : decode cX12_sends 0 = .ok (.aload_n 0, 1) := by decide +kernel
theorem dX12_sends_1 : decode cX12_sends 1 = .ok (.iload_n 1, 1) := by decide +kernel
theorem dX12_sends_2 : decode cX12_sends 2 = .ok (.invokevirtual 137, 3) := by decide +kernel
theorem dX12_sends_5 : decode cX12_sends 5 = .ok (.ifCond .eq 22, 3) := by decide +kernel
theorem dX12_sends_8 : decode cX12_sends 8 = .ok (.iload_n 2, 1) := by decide +kernel
theorem dX12_sends_9 : decode cX12_sends 9 = .ok (.iconst 1, 1) := by decide +kernel
theorem dX12_sends_10 : decode cX12_sends 10 = .ok (.bipush 9, 2) := by decide +kernel
theorem dX12_sends_12 : decode cX12_sends 12 = .ok (.invokestatic 55, 3) := by decide +kernel
theorem dX12_sends_15 : decode cX12_sends 15 = .ok (.ifCond .eq 12, 3) := by decide +kernel
theorem dX12_sends_18 : decode cX12_sends 18 = .ok (.iload_n 3, 1) := by decide +kernel
theorem dX12_sends_19 : decode cX12_sends 19 = .ok (.iconst 0, 1) := by decide +kernel
theorem dX12_sends_20 : decode cX12_sends 20 = .ok (.iconst 3, 1) := by decide +kernel
theorem dX12_sends_21 : decode cX12_sends 21 = .ok (.invokestatic 55, 3) := by decide +kernel
theorem dX12_sends_24 : decode cX12_sends 24 = .ok (.ifCond .ne 5, 3) := by decide +kernel
theorem dX12_sends_27 : decode cX12_sends 27 = .ok (.iconst (-1), 1) := by decide +kernel
theorem dX12_sends_28 : decode cX12_sends 28 = .ok (.ireturn, 1) := by decide +kernel
theorem dX12_sends_29 : decode cX12_sends 29 = .ok (.aload_n 0, 1) := by decide +kernel
theorem dX12_sends_30 : decode cX12_sends 30 = .ok (.getfield 9, 3) := by decide +kernel
theorem dX12_sends_33 : decode cX12_sends 33 = .ok (.bipush 42, 2) := by decide +kernel
theorem dX12_sends_35 : decode cX12_sends 35 = .ok (.iload_n 1, 1) := by decide +kernel
theorem dX12_sends_36 : decode cX12_sends 36 = .ok (.iadd, 1) := by decide +kernel
theorem dX12_sends_37 : decode cX12_sends 37 = .ok (.iaload, 1) := by decide +kernel
theorem dX12_sends_38 : decode cX12_sends 38 = .ok (.iconst 4, 1) := by decide +kernel
theorem dX12_sends_39 : decode cX12_sends 39 = .ok (.if_icmp .ne 6, 3) := by decide +kernel
theorem dX12_sends_42 : decode cX12_sends 42 = .ok (.bipush (-2), 2) := by decide +kernel
theorem dX12_sends_44 : decode cX12_sends 44 = .ok (.ireturn, 1) := by decide +kernel
theorem dX12_sends_45 : decode cX12_sends 45 = .ok (.aload_n 0, 1) := by decide +kernel
theorem dX12_sends_46 : decode cX12_sends 46 = .ok (.iload_n 1, 1) := by decide +kernel
theorem dX12_sends_47 : decode cX12_sends 47 = .ok (.iload_n 2, 1) := by decide +kernel
theorem dX12_sends_48 : decode cX12_sends 48 = .ok (.iload_n 3, 1) := by decide +kernel
theorem dX12_sends_49 : decode cX12_sends 49 = .ok (.invokevirtual 140, 3) := by decide +kernel
theorem dX12_sends_52 : decode cX12_sends 52 = .ok (.aload_n 0, 1) := by decide +kernel
theorem dX12_sends_53 : decode cX12_sends 53 = .ok (.getfield 9, 3) := by decide +kernel
theorem dX12_sends_56 : decode cX12_sends 56 = .ok (.bipush 42, 2) := by decide +kernel
theorem dX12_sends_58 : decode cX12_sends 58 = .ok (.iload_n 1, 1) := by decide +kernel
theorem dX12_sends_59 : decode cX12_sends 59 = .ok (.iadd, 1) := by decide +kernel
theorem dX12_sends_60 : decode cX12_sends 60 = .ok (.iaload, 1) := by decide +kernel
theorem dX12_sends_61 : decode cX12_sends 61 = .ok (.ireturn, 1) := by decide +kernel
theorem dX12_goesOff_0 : decode cX12_goesOff 0 = .ok (.aload_n 0, 1) := by decide +kernel
theorem dX12_goesOff_1 : decode cX12_goesOff 1 = .ok (.getfield 9, 3) := by decide +kernel
theorem dX12_goesOff_4 : decode cX12_goesOff 4 = .ok (.bipush 42, 2) := by decide +kernel
theorem dX12_goesOff_6 : decode cX12_goesOff 6 = .ok (.iload_n 1, 1) := by decide +kernel
theorem dX12_goesOff_7 : decode cX12_goesOff 7 = .ok (.iadd, 1) := by decide +kernel
theorem dX12_goesOff_8 : decode cX12_goesOff 8 = .ok (.iaload, 1) := by decide +kernel
theorem dX12_goesOff_9 : decode cX12_goesOff 9 = .ok (.istore_n 2, 1) := by decide +kernel
theorem dX12_goesOff_10 : decode cX12_goesOff 10 = .ok (.aload_n 0, 1) := by decide +kernel
theorem dX12_goesOff_11 : decode cX12_goesOff 11 = .ok (.getfield 9, 3) := by decide +kernel
theorem dX12_goesOff_14 : decode cX12_goesOff 14 = .ok (.bipush 42, 2) := by decide +kernel
theorem dX12_goesOff_16 : decode cX12_goesOff 16 = .ok (.iload_n 1, 1) := by decide +kernel
theorem dX12_goesOff_17 : decode cX12_goesOff 17 = .ok (.iadd, 1) := by decide +kernel
theorem dX12_goesOff_18 : decode cX12_goesOff 18 = .ok (.iconst 0, 1) := by decide +kernel
theorem dX12_goesOff_19 : decode cX12_goesOff 19 = .ok (.iastore, 1) := by decide +kernel
theorem dX12_goesOff_20 : decode cX12_goesOff 20 = .ok (.aload_n 0, 1) := by decide +kernel
theorem dX12_goesOff_21 : decode cX12_goesOff 21 = .ok (.getfield 9, 3) := by decide +kernel
theorem dX12_goesOff_24 : decode cX12_goesOff 24 = .ok (.bipush 66, 2) := by decide +kernel
theorem dX12_goesOff_26 : decode cX12_goesOff 26 = .ok (.iload_n 1, 1) := by decide +kernel
theorem dX12_goesOff_27 : decode cX12_goesOff 27 = .ok (.iadd, 1) := by decide +kernel
theorem dX12_goesOff_28 : decode cX12_goesOff 28 = .ok (.iconst 0, 1) := by decide +kernel
theorem dX12_goesOff_29 : decode cX12_goesOff 29 = .ok (.iastore, 1) := by decide +kernel
theorem dX12_goesOff_30 : decode cX12_goesOff 30 = .ok (.aload_n 0, 1) := by decide +kernel
theorem dX12_goesOff_31 : decode cX12_goesOff 31 = .ok (.getfield 9, 3) := by decide +kernel
theorem dX12_goesOff_34 : decode cX12_goesOff 34 = .ok (.bipush 36, 2) := by decide +kernel
theorem dX12_goesOff_36 : decode cX12_goesOff 36 = .ok (.iload_n 1, 1) := by decide +kernel
theorem dX12_goesOff_37 : decode cX12_goesOff 37 = .ok (.iadd, 1) := by decide +kernel
theorem dX12_goesOff_38 : decode cX12_goesOff 38 = .ok (.iconst 0, 1) := by decide +kernel
theorem dX12_goesOff_39 : decode cX12_goesOff 39 = .ok (.iastore, 1) := by decide +kernel
theorem dX12_goesOff_40 : decode cX12_goesOff 40 = .ok (.iload_n 2, 1) := by decide +kernel
theorem dX12_goesOff_41 : decode cX12_goesOff 41 = .ok (.ireturn, 1) := by decide +kernel
set_option maxRecDepth 20000 in
theorem ggX12_drops_X12_isServer : GoodIn wsX12_drops wsX12_isServer := goodIn_r _ [5, 6, 7, 8, 4, 9, 15, 16, 17, 18, 19, 20, 21, 22, 23, 24, 25, 26, 27, 28, 29, 30, 31, 32, 33, 34, 35, 36] rfl gwX12_isServer
set_option maxRecDepth 20000 in
theorem gX12_drops_X12_isServer : GoodIn wsX12_drops (wsV RX12 137 RX12 yX12_isServer wsX12_isServer) := goodIn_app (goodIn_r _ [1, 2, 3, 4] rfl (by decide +kernel)) ggX12_drops_X12_isServer
set_option maxRecDepth 20000 in
theorem gwX12_goesOff : wsX12_goesOff.all goodWord = true := by decide +kernel
set_option maxRecDepth 20000 in
theorem ggX12_drops_X12_goesOff : GoodIn wsX12_drops wsX12_goesOff := goodIn_r _ [13, 14, 15, 16, 17, 18, 19, 20, 21, 22, 23, 24, 25, 26, 27, 28, 29, 30, 31, 32, 33, 34, 35, 36] rfl gwX12_goesOff
set_option maxRecDepth 20000 in
theorem gX12_drops_X12_goesOff : GoodIn wsX12_drops (wsV RX12 182 RX12 yX12_goesOff wsX12_goesOff) := goodIn_app (goodIn_r _ [10, 11, 12, 4] rfl (by decide +kernel)) ggX12_drops_X12_goesOff
theorem dX12_drops_0 : decode cX12_drops 0 = .ok (.aload_n 0, 1) := by decide +kernel
theorem dX12_drops_1 : decode cX12_drops 1 = .ok (.iload_n 1, 1) := by decide +kernel
theorem dX12_drops_2 : decode cX12_drops 2 = .ok (.invokevirtual 137, 3) := by decide +kernel
theorem dX12_drops_5 : decode cX12_drops 5 = .ok (.ifCond .eq 11, 3) := by decide +kernel
theorem dX12_drops_8 : decode cX12_drops 8 = .ok (.aload_n 0, 1) := by decide +kernel
theorem dX12_drops_9 : decode cX12_drops 9 = .ok (.iload_n 1, 1) := by decide +kernel
theorem dX12_drops_10 : decode cX12_drops 10 = .ok (.invokevirtual 182, 3) := by decide +kernel
theorem dX12_drops_13 : decode cX12_drops 13 = .ok (.goto 4, 3) := by decide +kernel
theorem dX12_drops_16 : decode cX12_drops 16 = .ok (.iconst (-1), 1) := by decide +kernel
theorem dX12_drops_17 : decode cX12_drops 17 = .ok (.ireturn, 1) := by decide +kernel
set_option maxRecDepth 20000 in
theorem ggX12_ticks_X12_within : GoodIn wsX12_ticks wsX12_within := goodIn_r _ [5] rfl gwX12_within
set_option maxRecDepth 20000 in
theorem gX12_ticks_X12_within : GoodIn wsX12_ticks (va_wsS RX12 55 yX12_within wsX12_within) := goodIn_app (goodIn_r _ [2, 3, 4] rfl (by decide +kernel)) ggX12_ticks_X12_within
set_option maxRecDepth 20000 in
theorem ggX12_ticks_X12_goes : GoodIn wsX12_ticks wsX12_goes := goodIn_r _ [9, 10, 11, 12, 4, 13, 14, 15, 16, 17, 18, 1, 19, 20, 21, 22, 23, 24, 25, 26, 27, 28, 29, 30, 31, 32, 33, 34, 35, 36, 37, 38, 39, 40, 41, 42, 43, 44, 45, 46, 47, 48, 49, 50, 51, 52, 53, 54, 55, 56, 57, 58, 59, 60, 61, 62, 63, 64, 65, 66, 67, 68, 69, 70, 71, 72, 73, 74, 79, 80, 81, 82, 83, 84, 85, 86, 87, 88, 89, 90, 91, 92, 93, 94, 95, 96, 97, 98, 99, 100] rfl gwX12_goes
set_option maxRecDepth 20000 in
theorem gX12_ticks_X12_goes : GoodIn wsX12_ticks (wsV RX12 144 RX12 yX12_goes wsX12_goes) := goodIn_app (goodIn_r _ [6, 7, 8, 4] rfl (by decide +kernel)) ggX12_ticks_X12_goes
set_option maxRecDepth 20000 in
theorem gwX12_allLate : wsX12_allLate.all goodWord = true := by decide +kernel
set_option maxRecDepth 20000 in
theorem ggX12_ticks_X12_allLate : GoodIn wsX12_ticks wsX12_allLate := goodIn_r _ [78, 27, 18, 79, 80, 81, 82, 83, 84, 85, 86, 87, 88, 89, 90, 91, 92, 93, 94, 95, 96, 97, 98, 99, 100] rfl gwX12_allLate
set_option maxRecDepth 20000 in
theorem gX12_ticks_X12_allLate : GoodIn wsX12_ticks (wsV RX12 185 RX12 yX12_allLate wsX12_allLate) := goodIn_app (goodIn_r _ [75, 76, 77, 4] rfl (by decide +kernel)) ggX12_ticks_X12_allLate
theorem dX12_ticks_0 : decode cX12_ticks 0 = .ok (.iload_n 1, 1) := by decide +kernel
theorem dX12_ticks_1 : decode cX12_ticks 1 = .ok (.iconst 1, 1) := by decide +kernel
theorem dX12_ticks_2 : decode cX12_ticks 2 = .ok (.bipush 60, 2) := by decide +kernel
theorem dX12_ticks_4 : decode cX12_ticks 4 = .ok (.invokestatic 55, 3) := by decide +kernel
theorem dX12_ticks_7 : decode cX12_ticks 7 = .ok (.ifCond .ne 5, 3) := by decide +kernel
theorem dX12_ticks_10 : decode cX12_ticks 10 = .ok (.iconst (-1), 1) := by decide +kernel
theorem dX12_ticks_11 : decode cX12_ticks 11 = .ok (.ireturn, 1) := by decide +kernel
theorem dX12_ticks_12 : decode cX12_ticks 12 = .ok (.aload_n 0, 1) := by decide +kernel
theorem dX12_ticks_13 : decode cX12_ticks 13 = .ok (.getfield 86, 3) := by decide +kernel
theorem dX12_ticks_16 : decode cX12_ticks 16 = .ok (.iload_n 1, 1) := by decide +kernel
theorem dX12_ticks_17 : decode cX12_ticks 17 = .ok (.iadd, 1) := by decide +kernel
theorem dX12_ticks_18 : decode cX12_ticks 18 = .ok (.sipush 9999, 3) := by decide +kernel
theorem dX12_ticks_21 : decode cX12_ticks 21 = .ok (.if_icmp .le 6, 3) := by decide +kernel
theorem dX12_ticks_24 : decode cX12_ticks 24 = .ok (.bipush (-3), 2) := by decide +kernel
theorem dX12_ticks_26 : decode cX12_ticks 26 = .ok (.ireturn, 1) := by decide +kernel
theorem dX12_ticks_27 : decode cX12_ticks 27 = .ok (.iconst 0, 1) := by decide +kernel
theorem dX12_ticks_28 : decode cX12_ticks 28 = .ok (.istore_n 2, 1) := by decide +kernel
theorem dX12_ticks_29 : decode cX12_ticks 29 = .ok (.iload_n 2, 1) := by decide +kernel
theorem dX12_ticks_30 : decode cX12_ticks 30 = .ok (.iload_n 1, 1) := by decide +kernel
theorem dX12_ticks_31 : decode cX12_ticks 31 = .ok (.if_icmp .ge 13, 3) := by decide +kernel
theorem dX12_ticks_34 : decode cX12_ticks 34 = .ok (.aload_n 0, 1) := by decide +kernel
theorem dX12_ticks_35 : decode cX12_ticks 35 = .ok (.invokevirtual 144, 3) := by decide +kernel
theorem dX12_ticks_38 : decode cX12_ticks 38 = .ok (.iinc 2 1, 3) := by decide +kernel
theorem dX12_ticks_41 : decode cX12_ticks 41 = .ok (.goto (-12), 3) := by decide +kernel
theorem dX12_ticks_44 : decode cX12_ticks 44 = .ok (.aload_n 0, 1) := by decide +kernel
theorem dX12_ticks_45 : decode cX12_ticks 45 = .ok (.invokevirtual 185, 3) := by decide +kernel
theorem dX12_ticks_48 : decode cX12_ticks 48 = .ok (.ireturn, 1) := by decide +kernel
set_option maxRecDepth 20000 in
theorem ggX12_goesOn_X12_goes : GoodIn wsX12_goesOn wsX12_goes := goodIn_r _ [5, 6, 7, 8, 4, 9, 10, 11, 12, 13, 14, 15, 16, 17, 18, 19, 20, 21, 22, 23, 24, 25, 26, 27, 28, 29, 30, 31, 32, 33, 34, 35, 36, 37, 38, 39, 40, 41, 42, 43, 44, 45, 46, 47, 48, 49, 50, 51, 52, 53, 54, 55, 56, 57, 58, 59, 60, 61, 62, 63, 64, 65, 66, 67, 68, 69, 70, 71, 72, 73, 74, 75, 76, 77, 78, 79, 80, 81, 82, 83, 84, 85, 86, 87, 88, 89, 90, 91, 92, 93] rfl gwX12_goes
set_option maxRecDepth 20000 in
theorem gX12_goesOn_X12_goes : GoodIn wsX12_goesOn (wsV RX12 144 RX12 yX12_goes wsX12_goes) := goodIn_app (goodIn_r _ [1, 2, 3, 4] rfl (by decide +kernel)) ggX12_goesOn_X12_goes
theorem dX12_goesOn_0 : decode cX12_goesOn 0 = .ok (.iconst 0, 1) := by decide +kernel
theorem dX12_goesOn_1 : decode cX12_goesOn 1 = .ok (.istore_n 2, 1) := by decide +kernel
theorem dX12_goesOn_2 : decode cX12_goesOn 2 = .ok (.iload_n 2, 1) := by decide +kernel
theorem dX12_goesOn_3 : decode cX12_goesOn 3 = .ok (.iload_n 1, 1) := by decide +kernel
theorem dX12_goesOn_4 : decode cX12_goesOn 4 = .ok (.if_icmp .ge 13, 3) := by decide +kernel
theorem dX12_goesOn_7 : decode cX12_goesOn 7 = .ok (.aload_n 0, 1) := by decide +kernel
theorem dX12_goesOn_8 : decode cX12_goesOn 8 = .ok (.invokevirtual 144, 3) := by decide +kernel
theorem dX12_goesOn_11 : decode cX12_goesOn 11 = .ok (.iinc 2 1, 3) := by decide +kernel
theorem dX12_goesOn_14 : decode cX12_goesOn 14 = .ok (.goto (-12), 3) := by decide +kernel
theorem dX12_goesOn_17 : decode cX12_goesOn 17 = .ok (.return_, 1) := by decide +kernel
theorem dX12_workOf_0 : decode cX12_workOf 0 = .ok (.iconst 0, 1) := by decide +kernel
theorem dX12_workOf_1 : decode cX12_workOf 1 = .ok (.istore_n 2, 1) := by decide +kernel
theorem dX12_workOf_2 : decode cX12_workOf 2 = .ok (.iconst 0, 1) := by decide +kernel
theorem dX12_workOf_3 : decode cX12_workOf 3 = .ok (.istore_n 3, 1) := by decide +kernel
theorem dX12_workOf_4 : decode cX12_workOf 4 = .ok (.iload_n 3, 1) := by decide +kernel
theorem dX12_workOf_5 : decode cX12_workOf 5 = .ok (.aload_n 0, 1) := by decide +kernel
theorem dX12_workOf_6 : decode cX12_workOf 6 = .ok (.getfield 9, 3) := by decide +kernel
theorem dX12_workOf_9 : decode cX12_workOf 9 = .ok (.bipush 42, 2) := by decide +kernel
theorem dX12_workOf_11 : decode cX12_workOf 11 = .ok (.iload_n 1, 1) := by decide +kernel
theorem dX12_workOf_12 : decode cX12_workOf 12 = .ok (.iadd, 1) := by decide +kernel
theorem dX12_workOf_13 : decode cX12_workOf 13 = .ok (.iaload, 1) := by decide +kernel
theorem dX12_workOf_14 : decode cX12_workOf 14 = .ok (.if_icmp .ge 22, 3) := by decide +kernel
theorem dX12_workOf_17 : decode cX12_workOf 17 = .ok (.iload_n 2, 1) := by decide +kernel
theorem dX12_workOf_18 : decode cX12_workOf 18 = .ok (.aload_n 0, 1) := by decide +kernel
theorem dX12_workOf_19 : decode cX12_workOf 19 = .ok (.getfield 15, 3) := by decide +kernel
theorem dX12_workOf_22 : decode cX12_workOf 22 = .ok (.iconst 4, 1) := by decide +kernel
theorem dX12_workOf_23 : decode cX12_workOf 23 = .ok (.iload_n 1, 1) := by decide +kernel
theorem dX12_workOf_24 : decode cX12_workOf 24 = .ok (.imul, 1) := by decide +kernel
theorem dX12_workOf_25 : decode cX12_workOf 25 = .ok (.iload_n 3, 1) := by decide +kernel
theorem dX12_workOf_26 : decode cX12_workOf 26 = .ok (.iadd, 1) := by decide +kernel
theorem dX12_workOf_27 : decode cX12_workOf 27 = .ok (.iaload, 1) := by decide +kernel
theorem dX12_workOf_28 : decode cX12_workOf 28 = .ok (.iadd, 1) := by decide +kernel
theorem dX12_workOf_29 : decode cX12_workOf 29 = .ok (.istore_n 2, 1) := by decide +kernel
theorem dX12_workOf_30 : decode cX12_workOf 30 = .ok (.iinc 3 1, 3) := by decide +kernel
theorem dX12_workOf_33 : decode cX12_workOf 33 = .ok (.goto (-29), 3) := by decide +kernel
theorem dX12_workOf_36 : decode cX12_workOf 36 = .ok (.iload_n 2, 1) := by decide +kernel
theorem dX12_workOf_37 : decode cX12_workOf 37 = .ok (.ireturn, 1) := by decide +kernel
set_option maxRecDepth 20000 in
theorem gwX12_workOf : wsX12_workOf.all goodWord = true := by decide +kernel
set_option maxRecDepth 20000 in
theorem ggX12_told_X12_workOf : GoodIn wsX12_told wsX12_workOf := goodIn_r _ [6, 1, 7, 8, 9, 10, 11, 12, 13, 14, 15, 16, 17, 18, 19, 20, 21, 22, 23, 24, 25, 26, 27, 28, 29] rfl gwX12_workOf
set_option maxRecDepth 20000 in
theorem gX12_told_X12_workOf : GoodIn wsX12_told (wsV RX12 188 RX12 yX12_workOf wsX12_workOf) := goodIn_app (goodIn_r _ [2, 3, 4, 5] rfl (by decide +kernel)) ggX12_told_X12_workOf
theorem dX12_told_0 : decode cX12_told 0 = .ok (.iload_n 2, 1) := by decide +kernel
theorem dX12_told_1 : decode cX12_told 1 = .ok (.tableswitch 85 0 4 #[35, 41, 55, 65, 75], 35) := by decide +kernel
theorem dX12_told_36 : decode cX12_told 36 = .ok (.aload_n 0, 1) := by decide +kernel
theorem dX12_told_37 : decode cX12_told 37 = .ok (.iload_n 1, 1) := by decide +kernel
theorem dX12_told_38 : decode cX12_told 38 = .ok (.invokevirtual 188, 3) := by decide +kernel
theorem dX12_told_41 : decode cX12_told 41 = .ok (.ireturn, 1) := by decide +kernel
theorem dX12_told_42 : decode cX12_told 42 = .ok (.aload_n 0, 1) := by decide +kernel
theorem dX12_told_43 : decode cX12_told 43 = .ok (.getfield 9, 3) := by decide +kernel
theorem dX12_told_46 : decode cX12_told 46 = .ok (.bipush 24, 2) := by decide +kernel
theorem dX12_told_48 : decode cX12_told 48 = .ok (.iload_n 1, 1) := by decide +kernel
theorem dX12_told_49 : decode cX12_told 49 = .ok (.iadd, 1) := by decide +kernel
theorem dX12_told_50 : decode cX12_told 50 = .ok (.iaload, 1) := by decide +kernel
theorem dX12_told_51 : decode cX12_told 51 = .ok (.sipush 10000, 3) := by decide +kernel
theorem dX12_told_54 : decode cX12_told 54 = .ok (.iadd, 1) := by decide +kernel
theorem dX12_told_55 : decode cX12_told 55 = .ok (.ireturn, 1) := by decide +kernel
theorem dX12_told_56 : decode cX12_told 56 = .ok (.aload_n 0, 1) := by decide +kernel
theorem dX12_told_57 : decode cX12_told 57 = .ok (.getfield 9, 3) := by decide +kernel
theorem dX12_told_60 : decode cX12_told 60 = .ok (.bipush 30, 2) := by decide +kernel
theorem dX12_told_62 : decode cX12_told 62 = .ok (.iload_n 1, 1) := by decide +kernel
theorem dX12_told_63 : decode cX12_told 63 = .ok (.iadd, 1) := by decide +kernel
theorem dX12_told_64 : decode cX12_told 64 = .ok (.iaload, 1) := by decide +kernel
theorem dX12_told_65 : decode cX12_told 65 = .ok (.ireturn, 1) := by decide +kernel
theorem dX12_told_66 : decode cX12_told 66 = .ok (.aload_n 0, 1) := by decide +kernel
theorem dX12_told_67 : decode cX12_told 67 = .ok (.getfield 9, 3) := by decide +kernel
theorem dX12_told_70 : decode cX12_told 70 = .ok (.bipush 36, 2) := by decide +kernel
theorem dX12_told_72 : decode cX12_told 72 = .ok (.iload_n 1, 1) := by decide +kernel
theorem dX12_told_73 : decode cX12_told 73 = .ok (.iadd, 1) := by decide +kernel
theorem dX12_told_74 : decode cX12_told 74 = .ok (.iaload, 1) := by decide +kernel
theorem dX12_told_75 : decode cX12_told 75 = .ok (.ireturn, 1) := by decide +kernel
theorem dX12_told_76 : decode cX12_told 76 = .ok (.aload_n 0, 1) := by decide +kernel
theorem dX12_told_77 : decode cX12_told 77 = .ok (.getfield 9, 3) := by decide +kernel
theorem dX12_told_80 : decode cX12_told 80 = .ok (.bipush 48, 2) := by decide +kernel
theorem dX12_told_82 : decode cX12_told 82 = .ok (.iload_n 1, 1) := by decide +kernel
theorem dX12_told_83 : decode cX12_told 83 = .ok (.iadd, 1) := by decide +kernel
theorem dX12_told_84 : decode cX12_told 84 = .ok (.iaload, 1) := by decide +kernel
theorem dX12_told_85 : decode cX12_told 85 = .ok (.ireturn, 1) := by decide +kernel
theorem dX12_told_86 : decode cX12_told 86 = .ok (.aload_n 0, 1) := by decide +kernel
theorem dX12_told_87 : decode cX12_told 87 = .ok (.getfield 9, 3) := by decide +kernel
theorem dX12_told_90 : decode cX12_told 90 = .ok (.bipush 54, 2) := by decide +kernel
theorem dX12_told_92 : decode cX12_told 92 = .ok (.iload_n 1, 1) := by decide +kernel
theorem dX12_told_93 : decode cX12_told 93 = .ok (.iadd, 1) := by decide +kernel
theorem dX12_told_94 : decode cX12_told 94 = .ok (.iaload, 1) := by decide +kernel
theorem dX12_told_95 : decode cX12_told 95 = .ok (.ireturn, 1) := by decide +kernel
set_option maxRecDepth 20000 in
theorem ggX12_then_X12_isServer : GoodIn wsX12_then wsX12_isServer := goodIn_r _ [6, 7, 8, 9, 5, 10, 100, 101, 102, 103, 104, 105, 106, 107, 108, 109, 110, 111, 112, 113, 114, 115, 116, 117, 118, 119, 120, 121] rfl gwX12_isServer
set_option maxRecDepth 20000 in
theorem gX12_then_X12_isServer : GoodIn wsX12_then (wsV RX12 137 RX12 yX12_isServer wsX12_isServer) := goodIn_app (goodIn_r _ [2, 3, 4, 5] rfl (by decide +kernel)) ggX12_then_X12_isServer
set_option maxRecDepth 20000 in
theorem ggX12_then_X12_within : GoodIn wsX12_then wsX12_within := goodIn_r _ [10] rfl gwX12_within
set_option maxRecDepth 20000 in
theorem gX12_then_X12_within : GoodIn wsX12_then (va_wsS RX12 55 yX12_within wsX12_within) := goodIn_app (goodIn_r _ [8, 9, 5] rfl (by decide +kernel)) ggX12_then_X12_within
set_option maxRecDepth 20000 in
theorem ggX12_then_X12_keep : GoodIn wsX12_then wsX12_keep := goodIn_r _ [14, 15, 16, 17, 18, 7, 100, 101, 102, 103, 104, 105, 106, 107, 108, 109, 110, 111, 112, 113, 114, 115, 116, 117, 118, 119, 120, 121] rfl gwX12_keep
set_option maxRecDepth 20000 in
theorem gX12_then_X12_keep : GoodIn wsX12_then (wsV RX12 169 RX12 yX12_keep wsX12_keep) := goodIn_app (goodIn_r _ [11, 12, 13, 5] rfl (by decide +kernel)) ggX12_then_X12_keep
set_option maxRecDepth 20000 in
theorem gwX12_goesOn : wsX12_goesOn.all goodWord = true := by decide +kernel
set_option maxRecDepth 20000 in
theorem ggX12_then_X12_goesOn : GoodIn wsX12_then wsX12_goesOn := goodIn_r _ [22, 23, 24, 25, 5, 26, 27, 28, 29, 30, 31, 32, 17, 16, 15, 18, 33, 34, 35, 36, 37, 38, 39, 40, 7, 41, 42, 43, 44, 45, 46, 47, 48, 49, 50, 51, 52, 53, 54, 55, 56, 57, 58, 59, 60, 61, 62, 63, 64, 65, 66, 67, 68, 69, 70, 71, 72, 73, 74, 75, 76, 77, 78, 79, 80, 81, 82, 83, 84, 85, 86, 87, 100, 101, 102, 103, 104, 105, 106, 107, 108, 109, 110, 111, 112, 113, 114, 115, 116, 117, 118, 119, 120, 121] rfl gwX12_goesOn
set_option maxRecDepth 20000 in
theorem gX12_then_X12_goesOn : GoodIn wsX12_then (wsV RX12 191 RX12 yX12_goesOn wsX12_goesOn) := goodIn_app (goodIn_r _ [19, 20, 21, 5] rfl (by decide +kernel)) ggX12_then_X12_goesOn
set_option maxRecDepth 20000 in
theorem gwX12_told : wsX12_told.all goodWord = true := by decide +kernel
set_option maxRecDepth 20000 in
theorem ggX12_then_X12_told : GoodIn wsX12_then wsX12_told := goodIn_r _ [91, 15, 92, 93, 94, 5, 95, 16, 100, 101, 102, 103, 104, 105, 106, 107, 108, 109, 110, 111, 112, 113, 114, 115, 116, 117, 118, 119, 120, 121] rfl gwX12_told
set_option maxRecDepth 20000 in
theorem gX12_then_X12_told : GoodIn wsX12_then (wsV RX12 194 RX12 yX12_told wsX12_told) := goodIn_app (goodIn_r _ [88, 89, 90, 5] rfl (by decide +kernel)) ggX12_then_X12_told
set_option maxRecDepth 20000 in
theorem ggX12_then_X12_again : GoodIn wsX12_then wsX12_again := goodIn_r _ [99, 15, 16, 17, 18, 7, 100, 101, 102, 103, 104, 105, 106, 107, 108, 109, 110, 111, 112, 113, 114, 115, 116, 117, 118, 119, 120, 121] rfl gwX12_again
set_option maxRecDepth 20000 in
theorem gX12_then_X12_again : GoodIn wsX12_then (wsV RX12 176 RX12 yX12_again wsX12_again) := goodIn_app (goodIn_r _ [96, 97, 98, 5] rfl (by decide +kernel)) ggX12_then_X12_again
theorem dX12_then_0 : decode cX12_then 0 = .ok (.aload_n 0, 1) := by decide +kernel
theorem dX12_then_1 : decode cX12_then 1 = .ok (.iload_n 1, 1) := by decide +kernel
theorem dX12_then_2 : decode cX12_then 2 = .ok (.invokevirtual 137, 3) := by decide +kernel
theorem dX12_then_5 : decode cX12_then 5 = .ok (.ifCond .eq 22, 3) := by decide +kernel
theorem dX12_then_8 : decode cX12_then 8 = .ok (.iload_n 2, 1) := by decide +kernel
theorem dX12_then_9 : decode cX12_then 9 = .ok (.iconst 0, 1) := by decide +kernel
theorem dX12_then_10 : decode cX12_then 10 = .ok (.bipush 99, 2) := by decide +kernel
theorem dX12_then_12 : decode cX12_then 12 = .ok (.invokestatic 55, 3) := by decide +kernel
theorem dX12_then_15 : decode cX12_then 15 = .ok (.ifCond .eq 12, 3) := by decide +kernel
theorem dX12_then_18 : decode cX12_then 18 = .ok (.iload_n 3, 1) := by decide +kernel
theorem dX12_then_19 : decode cX12_then 19 = .ok (.iconst 0, 1) := by decide +kernel
theorem dX12_then_20 : decode cX12_then 20 = .ok (.iconst 5, 1) := by decide +kernel
theorem dX12_then_21 : decode cX12_then 21 = .ok (.invokestatic 55, 3) := by decide +kernel
theorem dX12_then_24 : decode cX12_then 24 = .ok (.ifCond .ne 5, 3) := by decide +kernel
theorem dX12_then_27 : decode cX12_then 27 = .ok (.iconst (-1), 1) := by decide +kernel
theorem dX12_then_28 : decode cX12_then 28 = .ok (.ireturn, 1) := by decide +kernel
theorem dX12_then_29 : decode cX12_then 29 = .ok (.aload_n 0, 1) := by decide +kernel
theorem dX12_then_30 : decode cX12_then 30 = .ok (.aload_n 0, 1) := by decide +kernel
theorem dX12_then_31 : decode cX12_then 31 = .ok (.getfield 24, 3) := by decide +kernel
theorem dX12_then_34 : decode cX12_then 34 = .ok (.invokevirtual 169, 3) := by decide +kernel
theorem dX12_then_37 : decode cX12_then 37 = .ok (.aload_n 0, 1) := by decide +kernel
theorem dX12_then_38 : decode cX12_then 38 = .ok (.iload_n 2, 1) := by decide +kernel
theorem dX12_then_39 : decode cX12_then 39 = .ok (.invokevirtual 191, 3) := by decide +kernel
theorem dX12_then_42 : decode cX12_then 42 = .ok (.aload_n 0, 1) := by decide +kernel
theorem dX12_then_43 : decode cX12_then 43 = .ok (.iload_n 1, 1) := by decide +kernel
theorem dX12_then_44 : decode cX12_then 44 = .ok (.iload_n 3, 1) := by decide +kernel
theorem dX12_then_45 : decode cX12_then 45 = .ok (.invokevirtual 194, 3) := by decide +kernel
theorem dX12_then_48 : decode cX12_then 48 = .ok (.istore 4, 2) := by decide +kernel
theorem dX12_then_50 : decode cX12_then 50 = .ok (.aload_n 0, 1) := by decide +kernel
theorem dX12_then_51 : decode cX12_then 51 = .ok (.aload_n 0, 1) := by decide +kernel
theorem dX12_then_52 : decode cX12_then 52 = .ok (.getfield 24, 3) := by decide +kernel
theorem dX12_then_55 : decode cX12_then 55 = .ok (.invokevirtual 176, 3) := by decide +kernel
theorem dX12_then_58 : decode cX12_then 58 = .ok (.iload 4, 2) := by decide +kernel
theorem dX12_then_60 : decode cX12_then 60 = .ok (.ireturn, 1) := by decide +kernel
set_option maxRecDepth 20000 in
theorem ggX12_runs_X12_within : GoodIn wsX12_runs wsX12_within := goodIn_r _ [7] rfl gwX12_within
set_option maxRecDepth 20000 in
theorem gX12_runs_X12_within : GoodIn wsX12_runs (va_wsS RX12 55 yX12_within wsX12_within) := goodIn_app (goodIn_r _ [4, 5, 6] rfl (by decide +kernel)) ggX12_runs_X12_within
set_option maxRecDepth 20000 in
theorem ggX12_runs_X12_keep : GoodIn wsX12_runs wsX12_keep := goodIn_r _ [11, 12, 13, 14, 15, 16, 88, 89, 90, 91, 92, 93, 94, 95, 96, 97, 98, 99, 100, 101, 102, 103, 104, 105, 106, 107, 108, 109] rfl gwX12_keep
set_option maxRecDepth 20000 in
theorem gX12_runs_X12_keep : GoodIn wsX12_runs (wsV RX12 169 RX12 yX12_keep wsX12_keep) := goodIn_app (goodIn_r _ [8, 9, 10, 6] rfl (by decide +kernel)) ggX12_runs_X12_keep
set_option maxRecDepth 20000 in
theorem ggX12_runs_X12_goesOn : GoodIn wsX12_runs wsX12_goesOn := goodIn_r _ [20, 21, 22, 23, 6, 24, 25, 26, 27, 28, 2, 3, 14, 13, 12, 15, 29, 30, 31, 32, 33, 34, 35, 36, 16, 37, 38, 39, 40, 41, 42, 43, 44, 45, 46, 47, 48, 49, 50, 51, 52, 53, 54, 55, 56, 57, 58, 59, 60, 61, 62, 63, 64, 65, 66, 67, 68, 69, 70, 71, 72, 73, 74, 75, 76, 77, 78, 79, 80, 81, 82, 83, 88, 89, 90, 91, 92, 93, 94, 95, 96, 97, 98, 99, 100, 101, 102, 103, 104, 105, 106, 107, 108, 109] rfl gwX12_goesOn
set_option maxRecDepth 20000 in
theorem gX12_runs_X12_goesOn : GoodIn wsX12_runs (wsV RX12 191 RX12 yX12_goesOn wsX12_goesOn) := goodIn_app (goodIn_r _ [17, 18, 19, 6] rfl (by decide +kernel)) ggX12_runs_X12_goesOn
set_option maxRecDepth 20000 in
theorem ggX12_runs_X12_again : GoodIn wsX12_runs wsX12_again := goodIn_r _ [87, 12, 13, 14, 15, 16, 88, 89, 90, 91, 92, 93, 94, 95, 96, 97, 98, 99, 100, 101, 102, 103, 104, 105, 106, 107, 108, 109] rfl gwX12_again
set_option maxRecDepth 20000 in
theorem gX12_runs_X12_again : GoodIn wsX12_runs (wsV RX12 176 RX12 yX12_again wsX12_again) := goodIn_app (goodIn_r _ [84, 85, 86, 6] rfl (by decide +kernel)) ggX12_runs_X12_again
theorem dX12_runs_0 : decode cX12_runs 0 = .ok (.iload_n 1, 1) := by decide +kernel
theorem dX12_runs_1 : decode cX12_runs 1 = .ok (.iconst 1, 1) := by decide +kernel
theorem dX12_runs_2 : decode cX12_runs 2 = .ok (.bipush 99, 2) := by decide +kernel
theorem dX12_runs_4 : decode cX12_runs 4 = .ok (.invokestatic 55, 3) := by decide +kernel
theorem dX12_runs_7 : decode cX12_runs 7 = .ok (.ifCond .eq 12, 3) := by decide +kernel
theorem dX12_runs_10 : decode cX12_runs 10 = .ok (.iload_n 2, 1) := by decide +kernel
theorem dX12_runs_11 : decode cX12_runs 11 = .ok (.iconst 0, 1) := by decide +kernel
theorem dX12_runs_12 : decode cX12_runs 12 = .ok (.iconst 1, 1) := by decide +kernel
theorem dX12_runs_13 : decode cX12_runs 13 = .ok (.invokestatic 55, 3) := by decide +kernel
theorem dX12_runs_16 : decode cX12_runs 16 = .ok (.ifCond .ne 5, 3) := by decide +kernel
theorem dX12_runs_19 : decode cX12_runs 19 = .ok (.iconst (-1), 1) := by decide +kernel
theorem dX12_runs_20 : decode cX12_runs 20 = .ok (.ireturn, 1) := by decide +kernel
theorem dX12_runs_21 : decode cX12_runs 21 = .ok (.aload_n 0, 1) := by decide +kernel
theorem dX12_runs_22 : decode cX12_runs 22 = .ok (.aload_n 0, 1) := by decide +kernel
theorem dX12_runs_23 : decode cX12_runs 23 = .ok (.getfield 24, 3) := by decide +kernel
theorem dX12_runs_26 : decode cX12_runs 26 = .ok (.invokevirtual 169, 3) := by decide +kernel
theorem dX12_runs_29 : decode cX12_runs 29 = .ok (.aload_n 0, 1) := by decide +kernel
theorem dX12_runs_30 : decode cX12_runs 30 = .ok (.iload_n 1, 1) := by decide +kernel
theorem dX12_runs_31 : decode cX12_runs 31 = .ok (.invokevirtual 191, 3) := by decide +kernel
theorem dX12_runs_34 : decode cX12_runs 34 = .ok (.iload_n 2, 1) := by decide +kernel
theorem dX12_runs_35 : decode cX12_runs 35 = .ok (.ifCond .ne 10, 3) := by decide +kernel
theorem dX12_runs_38 : decode cX12_runs 38 = .ok (.aload_n 0, 1) := by decide +kernel
theorem dX12_runs_39 : decode cX12_runs 39 = .ok (.getfield 101, 3) := by decide +kernel
theorem dX12_runs_42 : decode cX12_runs 42 = .ok (.goto 7, 3) := by decide +kernel
theorem dX12_runs_45 : decode cX12_runs 45 = .ok (.aload_n 0, 1) := by decide +kernel
theorem dX12_runs_46 : decode cX12_runs 46 = .ok (.getfield 104, 3) := by decide +kernel
theorem dX12_runs_49 : decode cX12_runs 49 = .ok (.istore_n 3, 1) := by decide +kernel
theorem dX12_runs_50 : decode cX12_runs 50 = .ok (.aload_n 0, 1) := by decide +kernel
theorem dX12_runs_51 : decode cX12_runs 51 = .ok (.aload_n 0, 1) := by decide +kernel
theorem dX12_runs_52 : decode cX12_runs 52 = .ok (.getfield 24, 3) := by decide +kernel
theorem dX12_runs_55 : decode cX12_runs 55 = .ok (.invokevirtual 176, 3) := by decide +kernel
theorem dX12_runs_58 : decode cX12_runs 58 = .ok (.iload_n 3, 1) := by decide +kernel
theorem dX12_runs_59 : decode cX12_runs 59 = .ok (.ireturn, 1) := by decide +kernel
theorem dX12_isQuiet_0 : decode cX12_isQuiet 0 = .ok (.iconst 0, 1) := by decide +kernel
theorem dX12_isQuiet_1 : decode cX12_isQuiet 1 = .ok (.istore_n 2, 1) := by decide +kernel
theorem dX12_isQuiet_2 : decode cX12_isQuiet 2 = .ok (.iload_n 2, 1) := by decide +kernel
theorem dX12_isQuiet_3 : decode cX12_isQuiet 3 = .ok (.aload_n 0, 1) := by decide +kernel
theorem dX12_isQuiet_4 : decode cX12_isQuiet 4 = .ok (.getfield 51, 3) := by decide +kernel
theorem dX12_isQuiet_7 : decode cX12_isQuiet 7 = .ok (.if_icmp .ge 42, 3) := by decide +kernel
theorem dX12_isQuiet_10 : decode cX12_isQuiet 10 = .ok (.iload_n 1, 1) := by decide +kernel
theorem dX12_isQuiet_11 : decode cX12_isQuiet 11 = .ok (.ifCond .ne 18, 3) := by decide +kernel
theorem dX12_isQuiet_14 : decode cX12_isQuiet 14 = .ok (.aload_n 0, 1) := by decide +kernel
theorem dX12_isQuiet_15 : decode cX12_isQuiet 15 = .ok (.getfield 9, 3) := by decide +kernel
theorem dX12_isQuiet_18 : decode cX12_isQuiet 18 = .ok (.bipush 42, 2) := by decide +kernel
theorem dX12_isQuiet_20 : decode cX12_isQuiet 20 = .ok (.iload_n 2, 1) := by decide +kernel
theorem dX12_isQuiet_21 : decode cX12_isQuiet 21 = .ok (.iadd, 1) := by decide +kernel
theorem dX12_isQuiet_22 : decode cX12_isQuiet 22 = .ok (.iaload, 1) := by decide +kernel
theorem dX12_isQuiet_23 : decode cX12_isQuiet 23 = .ok (.ifCond .le 20, 3) := by decide +kernel
theorem dX12_isQuiet_26 : decode cX12_isQuiet 26 = .ok (.goto 15, 3) := by decide +kernel
theorem dX12_isQuiet_29 : decode cX12_isQuiet 29 = .ok (.aload_n 0, 1) := by decide +kernel
theorem dX12_isQuiet_30 : decode cX12_isQuiet 30 = .ok (.getfield 9, 3) := by decide +kernel
theorem dX12_isQuiet_33 : decode cX12_isQuiet 33 = .ok (.bipush 36, 2) := by decide +kernel
theorem dX12_isQuiet_35 : decode cX12_isQuiet 35 = .ok (.iload_n 2, 1) := by decide +kernel
theorem dX12_isQuiet_36 : decode cX12_isQuiet 36 = .ok (.iadd, 1) := by decide +kernel
theorem dX12_isQuiet_37 : decode cX12_isQuiet 37 = .ok (.iaload, 1) := by decide +kernel
theorem dX12_isQuiet_38 : decode cX12_isQuiet 38 = .ok (.ifCond .eq 5, 3) := by decide +kernel
theorem dX12_isQuiet_41 : decode cX12_isQuiet 41 = .ok (.iconst 0, 1) := by decide +kernel
theorem dX12_isQuiet_42 : decode cX12_isQuiet 42 = .ok (.ireturn, 1) := by decide +kernel
theorem dX12_isQuiet_43 : decode cX12_isQuiet 43 = .ok (.iinc 2 1, 3) := by decide +kernel
theorem dX12_isQuiet_46 : decode cX12_isQuiet 46 = .ok (.goto (-44), 3) := by decide +kernel
theorem dX12_isQuiet_49 : decode cX12_isQuiet 49 = .ok (.iconst 1, 1) := by decide +kernel
theorem dX12_isQuiet_50 : decode cX12_isQuiet 50 = .ok (.ireturn, 1) := by decide +kernel
set_option maxRecDepth 20000 in
theorem ggX12_quiet_X12_within : GoodIn wsX12_quiet wsX12_within := goodIn_r _ [5] rfl gwX12_within
set_option maxRecDepth 20000 in
theorem gX12_quiet_X12_within : GoodIn wsX12_quiet (va_wsS RX12 55 yX12_within wsX12_within) := goodIn_app (goodIn_r _ [2, 3, 4] rfl (by decide +kernel)) ggX12_quiet_X12_within
set_option maxRecDepth 20000 in
theorem ggX12_quiet_X12_keep : GoodIn wsX12_quiet wsX12_keep := goodIn_r _ [9, 10, 11, 12, 13, 14, 88, 89, 90, 91, 92, 93, 94, 95, 96, 97, 98, 99, 100, 101, 102, 103, 104, 105, 106, 107, 108, 109] rfl gwX12_keep
set_option maxRecDepth 20000 in
theorem gX12_quiet_X12_keep : GoodIn wsX12_quiet (wsV RX12 169 RX12 yX12_keep wsX12_keep) := goodIn_app (goodIn_r _ [6, 7, 8, 4] rfl (by decide +kernel)) ggX12_quiet_X12_keep
set_option maxRecDepth 20000 in
theorem gwX12_isQuiet : wsX12_isQuiet.all goodWord = true := by decide +kernel
set_option maxRecDepth 20000 in
theorem ggX12_quiet_X12_isQuiet : GoodIn wsX12_quiet wsX12_isQuiet := goodIn_r _ [18, 14, 10, 88, 89, 90, 91, 92, 93, 94, 95, 96, 97, 98, 99, 100, 101, 102, 103, 104, 105, 106, 107, 108, 109] rfl gwX12_isQuiet
set_option maxRecDepth 20000 in
theorem gX12_quiet_X12_isQuiet : GoodIn wsX12_quiet (wsV RX12 197 RX12 yX12_isQuiet wsX12_isQuiet) := goodIn_app (goodIn_r _ [15, 16, 17, 4] rfl (by decide +kernel)) ggX12_quiet_X12_isQuiet
set_option maxRecDepth 20000 in
theorem ggX12_quiet_X12_goes : GoodIn wsX12_quiet wsX12_goes := goodIn_r _ [22, 23, 24, 25, 4, 26, 27, 28, 12, 11, 10, 13, 29, 30, 31, 32, 33, 34, 35, 36, 14, 37, 38, 39, 40, 41, 42, 43, 44, 45, 46, 47, 48, 49, 50, 51, 52, 53, 54, 55, 56, 57, 58, 59, 60, 61, 62, 63, 64, 65, 66, 67, 68, 69, 70, 71, 72, 73, 74, 75, 76, 77, 78, 79, 80, 81, 82, 83, 88, 89, 90, 91, 92, 93, 94, 95, 96, 97, 98, 99, 100, 101, 102, 103, 104, 105, 106, 107, 108, 109] rfl gwX12_goes
set_option maxRecDepth 20000 in
theorem gX12_quiet_X12_goes : GoodIn wsX12_quiet (wsV RX12 144 RX12 yX12_goes wsX12_goes) := goodIn_app (goodIn_r _ [19, 20, 21, 4] rfl (by decide +kernel)) ggX12_quiet_X12_goes
set_option maxRecDepth 20000 in
theorem ggX12_quiet_X12_again : GoodIn wsX12_quiet wsX12_again := goodIn_r _ [87, 10, 11, 12, 13, 14, 88, 89, 90, 91, 92, 93, 94, 95, 96, 97, 98, 99, 100, 101, 102, 103, 104, 105, 106, 107, 108, 109] rfl gwX12_again
set_option maxRecDepth 20000 in
theorem gX12_quiet_X12_again : GoodIn wsX12_quiet (wsV RX12 176 RX12 yX12_again wsX12_again) := goodIn_app (goodIn_r _ [84, 85, 86, 4] rfl (by decide +kernel)) ggX12_quiet_X12_again
theorem dX12_quiet_0 : decode cX12_quiet 0 = .ok (.iload_n 1, 1) := by decide +kernel
theorem dX12_quiet_1 : decode cX12_quiet 1 = .ok (.iconst 0, 1) := by decide +kernel
theorem dX12_quiet_2 : decode cX12_quiet 2 = .ok (.iconst 1, 1) := by decide +kernel
theorem dX12_quiet_3 : decode cX12_quiet 3 = .ok (.invokestatic 55, 3) := by decide +kernel
theorem dX12_quiet_6 : decode cX12_quiet 6 = .ok (.ifCond .ne 5, 3) := by decide +kernel
theorem dX12_quiet_9 : decode cX12_quiet 9 = .ok (.iconst (-1), 1) := by decide +kernel
theorem dX12_quiet_10 : decode cX12_quiet 10 = .ok (.ireturn, 1) := by decide +kernel
theorem dX12_quiet_11 : decode cX12_quiet 11 = .ok (.aload_n 0, 1) := by decide +kernel
theorem dX12_quiet_12 : decode cX12_quiet 12 = .ok (.aload_n 0, 1) := by decide +kernel
theorem dX12_quiet_13 : decode cX12_quiet 13 = .ok (.getfield 24, 3) := by decide +kernel
theorem dX12_quiet_16 : decode cX12_quiet 16 = .ok (.invokevirtual 169, 3) := by decide +kernel
theorem dX12_quiet_19 : decode cX12_quiet 19 = .ok (.bipush (-4), 2) := by decide +kernel
theorem dX12_quiet_21 : decode cX12_quiet 21 = .ok (.istore_n 2, 1) := by decide +kernel
theorem dX12_quiet_22 : decode cX12_quiet 22 = .ok (.iconst 0, 1) := by decide +kernel
theorem dX12_quiet_23 : decode cX12_quiet 23 = .ok (.istore_n 3, 1) := by decide +kernel
theorem dX12_quiet_24 : decode cX12_quiet 24 = .ok (.iload_n 3, 1) := by decide +kernel
theorem dX12_quiet_25 : decode cX12_quiet 25 = .ok (.bipush 100, 2) := by decide +kernel
theorem dX12_quiet_27 : decode cX12_quiet 27 = .ok (.if_icmp .ge 29, 3) := by decide +kernel
theorem dX12_quiet_30 : decode cX12_quiet 30 = .ok (.iload_n 2, 1) := by decide +kernel
theorem dX12_quiet_31 : decode cX12_quiet 31 = .ok (.bipush (-4), 2) := by decide +kernel
theorem dX12_quiet_33 : decode cX12_quiet 33 = .ok (.if_icmp .ne 23, 3) := by decide +kernel
theorem dX12_quiet_36 : decode cX12_quiet 36 = .ok (.aload_n 0, 1) := by decide +kernel
theorem dX12_quiet_37 : decode cX12_quiet 37 = .ok (.iload_n 1, 1) := by decide +kernel
theorem dX12_quiet_38 : decode cX12_quiet 38 = .ok (.invokevirtual 197, 3) := by decide +kernel
theorem dX12_quiet_41 : decode cX12_quiet 41 = .ok (.ifCond .eq 5, 3) := by decide +kernel
theorem dX12_quiet_44 : decode cX12_quiet 44 = .ok (.iload_n 3, 1) := by decide +kernel
theorem dX12_quiet_45 : decode cX12_quiet 45 = .ok (.istore_n 2, 1) := by decide +kernel
theorem dX12_quiet_46 : decode cX12_quiet 46 = .ok (.aload_n 0, 1) := by decide +kernel
theorem dX12_quiet_47 : decode cX12_quiet 47 = .ok (.invokevirtual 144, 3) := by decide +kernel
theorem dX12_quiet_50 : decode cX12_quiet 50 = .ok (.iinc 3 1, 3) := by decide +kernel
theorem dX12_quiet_53 : decode cX12_quiet 53 = .ok (.goto (-29), 3) := by decide +kernel
theorem dX12_quiet_56 : decode cX12_quiet 56 = .ok (.aload_n 0, 1) := by decide +kernel
theorem dX12_quiet_57 : decode cX12_quiet 57 = .ok (.aload_n 0, 1) := by decide +kernel
theorem dX12_quiet_58 : decode cX12_quiet 58 = .ok (.getfield 24, 3) := by decide +kernel
theorem dX12_quiet_61 : decode cX12_quiet 61 = .ok (.invokevirtual 176, 3) := by decide +kernel
theorem dX12_quiet_64 : decode cX12_quiet 64 = .ok (.iload_n 2, 1) := by decide +kernel
theorem dX12_quiet_65 : decode cX12_quiet 65 = .ok (.ireturn, 1) := by decide +kernel
theorem dX12_later_0 : decode cX12_later 0 = .ok (.iconst 0, 1) := by decide +kernel
theorem dX12_later_1 : decode cX12_later 1 = .ok (.istore_n 2, 1) := by decide +kernel
theorem dX12_later_2 : decode cX12_later 2 = .ok (.iload_n 2, 1) := by decide +kernel
theorem dX12_later_3 : decode cX12_later 3 = .ok (.aload_n 0, 1) := by decide +kernel
theorem dX12_later_4 : decode cX12_later 4 = .ok (.getfield 51, 3) := by decide +kernel
theorem dX12_later_7 : decode cX12_later 7 = .ok (.if_icmp .ge 42, 3) := by decide +kernel
theorem dX12_later_10 : decode cX12_later 10 = .ok (.iload_n 1, 1) := by decide +kernel
theorem dX12_later_11 : decode cX12_later 11 = .ok (.iconst (-1), 1) := by decide +kernel
theorem dX12_later_12 : decode cX12_later 12 = .ok (.if_icmp .eq 8, 3) := by decide +kernel
theorem dX12_later_15 : decode cX12_later 15 = .ok (.iload_n 2, 1) := by decide +kernel
theorem dX12_later_16 : decode cX12_later 16 = .ok (.iload_n 1, 1) := by decide +kernel
theorem dX12_later_17 : decode cX12_later 17 = .ok (.if_icmp .ne 26, 3) := by decide +kernel
theorem dX12_later_20 : decode cX12_later 20 = .ok (.aload_n 0, 1) := by decide +kernel
theorem dX12_later_21 : decode cX12_later 21 = .ok (.getfield 9, 3) := by decide +kernel
theorem dX12_later_24 : decode cX12_later 24 = .ok (.bipush 48, 2) := by decide +kernel
theorem dX12_later_26 : decode cX12_later 26 = .ok (.iload_n 2, 1) := by decide +kernel
theorem dX12_later_27 : decode cX12_later 27 = .ok (.iadd, 1) := by decide +kernel
theorem dX12_later_28 : decode cX12_later 28 = .ok (.iaload, 1) := by decide +kernel
theorem dX12_later_29 : decode cX12_later 29 = .ok (.aload_n 0, 1) := by decide +kernel
theorem dX12_later_30 : decode cX12_later 30 = .ok (.getfield 24, 3) := by decide +kernel
theorem dX12_later_33 : decode cX12_later 33 = .ok (.bipush 48, 2) := by decide +kernel
theorem dX12_later_35 : decode cX12_later 35 = .ok (.iload_n 2, 1) := by decide +kernel
theorem dX12_later_36 : decode cX12_later 36 = .ok (.iadd, 1) := by decide +kernel
theorem dX12_later_37 : decode cX12_later 37 = .ok (.iaload, 1) := by decide +kernel
theorem dX12_later_38 : decode cX12_later 38 = .ok (.if_icmp .le 5, 3) := by decide +kernel
theorem dX12_later_41 : decode cX12_later 41 = .ok (.iload_n 2, 1) := by decide +kernel
theorem dX12_later_42 : decode cX12_later 42 = .ok (.ireturn, 1) := by decide +kernel
theorem dX12_later_43 : decode cX12_later 43 = .ok (.iinc 2 1, 3) := by decide +kernel
theorem dX12_later_46 : decode cX12_later 46 = .ok (.goto (-44), 3) := by decide +kernel
theorem dX12_later_49 : decode cX12_later 49 = .ok (.bipush (-4), 2) := by decide +kernel
theorem dX12_later_51 : decode cX12_later 51 = .ok (.ireturn, 1) := by decide +kernel
set_option maxRecDepth 20000 in
theorem ggX12_misses_X12_isServer : GoodIn wsX12_misses wsX12_isServer := goodIn_r _ [6, 7, 8, 9, 5, 10, 92, 93, 94, 95, 96, 97, 98, 99, 100, 101, 102, 103, 104, 105, 106, 107, 108, 109, 110, 111, 112, 113] rfl gwX12_isServer
set_option maxRecDepth 20000 in
theorem gX12_misses_X12_isServer : GoodIn wsX12_misses (wsV RX12 137 RX12 yX12_isServer wsX12_isServer) := goodIn_app (goodIn_r _ [2, 3, 4, 5] rfl (by decide +kernel)) ggX12_misses_X12_isServer
set_option maxRecDepth 20000 in
theorem ggX12_misses_X12_keep : GoodIn wsX12_misses wsX12_keep := goodIn_r _ [14, 15, 16, 17, 18, 7, 92, 93, 94, 95, 96, 97, 98, 99, 100, 101, 102, 103, 104, 105, 106, 107, 108, 109, 110, 111, 112, 113] rfl gwX12_keep
set_option maxRecDepth 20000 in
theorem gX12_misses_X12_keep : GoodIn wsX12_misses (wsV RX12 169 RX12 yX12_keep wsX12_keep) := goodIn_app (goodIn_r _ [11, 12, 13, 5] rfl (by decide +kernel)) ggX12_misses_X12_keep
set_option maxRecDepth 20000 in
theorem ggX12_misses_X12_goes : GoodIn wsX12_misses wsX12_goes := goodIn_r _ [22, 23, 24, 25, 5, 26, 27, 28, 17, 16, 15, 18, 29, 30, 31, 32, 33, 34, 35, 36, 7, 37, 38, 39, 40, 41, 42, 43, 44, 45, 46, 47, 48, 49, 50, 51, 52, 53, 54, 55, 56, 57, 58, 59, 60, 61, 62, 63, 64, 65, 66, 67, 68, 69, 70, 71, 72, 73, 74, 75, 76, 77, 78, 79, 80, 81, 82, 83, 92, 93, 94, 95, 96, 97, 98, 99, 100, 101, 102, 103, 104, 105, 106, 107, 108, 109, 110, 111, 112, 113] rfl gwX12_goes
set_option maxRecDepth 20000 in
theorem gX12_misses_X12_goes : GoodIn wsX12_misses (wsV RX12 144 RX12 yX12_goes wsX12_goes) := goodIn_app (goodIn_r _ [19, 20, 21, 5] rfl (by decide +kernel)) ggX12_misses_X12_goes
set_option maxRecDepth 20000 in
theorem gwX12_later : wsX12_later.all goodWord = true := by decide +kernel
set_option maxRecDepth 20000 in
theorem ggX12_misses_X12_later : GoodIn wsX12_misses wsX12_later := goodIn_r _ [87, 7, 15, 1, 92, 93, 94, 95, 96, 97, 98, 99, 100, 101, 102, 103, 104, 105, 106, 107, 108, 109, 110, 111, 112, 113] rfl gwX12_later
set_option maxRecDepth 20000 in
theorem gX12_misses_X12_later : GoodIn wsX12_misses (wsV RX12 200 RX12 yX12_later wsX12_later) := goodIn_app (goodIn_r _ [84, 85, 86, 5] rfl (by decide +kernel)) ggX12_misses_X12_later
set_option maxRecDepth 20000 in
theorem ggX12_misses_X12_again : GoodIn wsX12_misses wsX12_again := goodIn_r _ [91, 15, 16, 17, 18, 7, 92, 93, 94, 95, 96, 97, 98, 99, 100, 101, 102, 103, 104, 105, 106, 107, 108, 109, 110, 111, 112, 113] rfl gwX12_again
set_option maxRecDepth 20000 in
theorem gX12_misses_X12_again : GoodIn wsX12_misses (wsV RX12 176 RX12 yX12_again wsX12_again) := goodIn_app (goodIn_r _ [88, 89, 90, 5] rfl (by decide +kernel)) ggX12_misses_X12_again
theorem dX12_misses_0 : decode cX12_misses 0 = .ok (.iload_n 1, 1) := by decide +kernel
theorem dX12_misses_1 : decode cX12_misses 1 = .ok (.iconst (-1), 1) := by decide +kernel
theorem dX12_misses_2 : decode cX12_misses 2 = .ok (.if_icmp .eq 13, 3) := by decide +kernel
theorem dX12_misses_5 : decode cX12_misses 5 = .ok (.aload_n 0, 1) := by decide +kernel
theorem dX12_misses_6 : decode cX12_misses 6 = .ok (.iload_n 1, 1) := by decide +kernel
theorem dX12_misses_7 : decode cX12_misses 7 = .ok (.invokevirtual 137, 3) := by decide +kernel
theorem dX12_misses_10 : decode cX12_misses 10 = .ok (.ifCond .ne 5, 3) := by decide +kernel
theorem dX12_misses_13 : decode cX12_misses 13 = .ok (.iconst (-1), 1) := by decide +kernel
theorem dX12_misses_14 : decode cX12_misses 14 = .ok (.ireturn, 1) := by decide +kernel
theorem dX12_misses_15 : decode cX12_misses 15 = .ok (.aload_n 0, 1) := by decide +kernel
theorem dX12_misses_16 : decode cX12_misses 16 = .ok (.aload_n 0, 1) := by decide +kernel
theorem dX12_misses_17 : decode cX12_misses 17 = .ok (.getfield 24, 3) := by decide +kernel
theorem dX12_misses_20 : decode cX12_misses 20 = .ok (.invokevirtual 169, 3) := by decide +kernel
theorem dX12_misses_23 : decode cX12_misses 23 = .ok (.bipush (-4), 2) := by decide +kernel
theorem dX12_misses_25 : decode cX12_misses 25 = .ok (.istore_n 2, 1) := by decide +kernel
theorem dX12_misses_26 : decode cX12_misses 26 = .ok (.iconst 1, 1) := by decide +kernel
theorem dX12_misses_27 : decode cX12_misses 27 = .ok (.istore_n 3, 1) := by decide +kernel
theorem dX12_misses_28 : decode cX12_misses 28 = .ok (.iload_n 3, 1) := by decide +kernel
theorem dX12_misses_29 : decode cX12_misses 29 = .ok (.bipush 100, 2) := by decide +kernel
theorem dX12_misses_31 : decode cX12_misses 31 = .ok (.if_icmp .ge 45, 3) := by decide +kernel
theorem dX12_misses_34 : decode cX12_misses 34 = .ok (.iload_n 2, 1) := by decide +kernel
theorem dX12_misses_35 : decode cX12_misses 35 = .ok (.bipush (-4), 2) := by decide +kernel
theorem dX12_misses_37 : decode cX12_misses 37 = .ok (.if_icmp .ne 39, 3) := by decide +kernel
theorem dX12_misses_40 : decode cX12_misses 40 = .ok (.aload_n 0, 1) := by decide +kernel
theorem dX12_misses_41 : decode cX12_misses 41 = .ok (.invokevirtual 144, 3) := by decide +kernel
theorem dX12_misses_44 : decode cX12_misses 44 = .ok (.aload_n 0, 1) := by decide +kernel
theorem dX12_misses_45 : decode cX12_misses 45 = .ok (.iload_n 1, 1) := by decide +kernel
theorem dX12_misses_46 : decode cX12_misses 46 = .ok (.invokevirtual 200, 3) := by decide +kernel
theorem dX12_misses_49 : decode cX12_misses 49 = .ok (.istore 4, 2) := by decide +kernel
theorem dX12_misses_51 : decode cX12_misses 51 = .ok (.iload 4, 2) := by decide +kernel
theorem dX12_misses_53 : decode cX12_misses 53 = .ok (.bipush (-4), 2) := by decide +kernel
theorem dX12_misses_55 : decode cX12_misses 55 = .ok (.if_icmp .eq 15, 3) := by decide +kernel
theorem dX12_misses_58 : decode cX12_misses 58 = .ok (.iload_n 1, 1) := by decide +kernel
theorem dX12_misses_59 : decode cX12_misses 59 = .ok (.iconst (-1), 1) := by decide +kernel
theorem dX12_misses_60 : decode cX12_misses 60 = .ok (.if_icmp .ne 8, 3) := by decide +kernel
theorem dX12_misses_63 : decode cX12_misses 63 = .ok (.iload 4, 2) := by decide +kernel
theorem dX12_misses_65 : decode cX12_misses 65 = .ok (.goto 4, 3) := by decide +kernel
theorem dX12_misses_68 : decode cX12_misses 68 = .ok (.iload_n 3, 1) := by decide +kernel
theorem dX12_misses_69 : decode cX12_misses 69 = .ok (.istore_n 2, 1) := by decide +kernel
theorem dX12_misses_70 : decode cX12_misses 70 = .ok (.iinc 3 1, 3) := by decide +kernel
theorem dX12_misses_73 : decode cX12_misses 73 = .ok (.goto (-45), 3) := by decide +kernel
theorem dX12_misses_76 : decode cX12_misses 76 = .ok (.aload_n 0, 1) := by decide +kernel
theorem dX12_misses_77 : decode cX12_misses 77 = .ok (.aload_n 0, 1) := by decide +kernel
theorem dX12_misses_78 : decode cX12_misses 78 = .ok (.getfield 24, 3) := by decide +kernel
theorem dX12_misses_81 : decode cX12_misses 81 = .ok (.invokevirtual 176, 3) := by decide +kernel
theorem dX12_misses_84 : decode cX12_misses 84 = .ok (.iload_n 2, 1) := by decide +kernel
theorem dX12_misses_85 : decode cX12_misses 85 = .ok (.ireturn, 1) := by decide +kernel
set_option maxRecDepth 20000 in
theorem ggX12_ran_X12_isServer : GoodIn wsX12_ran wsX12_isServer := goodIn_r _ [8, 9, 10, 11, 7, 12, 88, 89, 90, 91, 92, 93, 94, 95, 96, 97, 98, 99, 100, 101, 102, 103, 104, 105, 106, 107, 108, 109] rfl gwX12_isServer
set_option maxRecDepth 20000 in
theorem gX12_ran_X12_isServer : GoodIn wsX12_ran (wsV RX12 137 RX12 yX12_isServer wsX12_isServer) := goodIn_app (goodIn_r _ [4, 5, 6, 7] rfl (by decide +kernel)) ggX12_ran_X12_isServer
set_option maxRecDepth 20000 in
theorem ggX12_ran_X12_within : GoodIn wsX12_ran wsX12_within := goodIn_r _ [12] rfl gwX12_within
