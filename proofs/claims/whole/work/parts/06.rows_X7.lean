theorem dX7_init_0 : decode cX7_init 0 = .ok (.aload_n 0, 1) := by decide +kernel
theorem dX7_init_1 : decode cX7_init 1 = .ok (.invokespecial 3, 3) := by decide +kernel
theorem dX7_init_4 : decode cX7_init 4 = .ok (.aload_n 0, 1) := by decide +kernel
theorem dX7_init_5 : decode cX7_init 5 = .ok (.bipush 7, 2) := by decide +kernel
theorem dX7_init_7 : decode cX7_init 7 = .ok (.sipush 1098, 3) := by decide +kernel
theorem dX7_init_10 : decode cX7_init 10 = .ok (.multianewarray 11 2, 4) := by decide +kernel
theorem dX7_init_14 : decode cX7_init 14 = .ok (.putfield 13, 3) := by decide +kernel
theorem dX7_init_17 : decode cX7_init 17 = .ok (.aload_n 0, 1) := by decide +kernel
theorem dX7_init_18 : decode cX7_init 18 = .ok (.sipush 1098, 3) := by decide +kernel
theorem dX7_init_21 : decode cX7_init 21 = .ok (.newarray .int, 2) := by decide +kernel
theorem dX7_init_23 : decode cX7_init 23 = .ok (.putfield 16, 3) := by decide +kernel
theorem dX7_init_26 : decode cX7_init 26 = .ok (.aload_n 0, 1) := by decide +kernel
theorem dX7_init_27 : decode cX7_init 27 = .ok (.bipush 6, 2) := by decide +kernel
theorem dX7_init_29 : decode cX7_init 29 = .ok (.newarray .int, 2) := by decide +kernel
theorem dX7_init_31 : decode cX7_init 31 = .ok (.putfield 20, 3) := by decide +kernel
theorem dX7_init_34 : decode cX7_init 34 = .ok (.return_, 1) := by decide +kernel
theorem dX7_reckon_0 : decode cX7_reckon 0 = .ok (.aload_n 0, 1) := by decide +kernel
theorem dX7_reckon_1 : decode cX7_reckon 1 = .ok (.aload_n 2, 1) := by decide +kernel
theorem dX7_reckon_2 : decode cX7_reckon 2 = .ok (.getfield 23, 3) := by decide +kernel
theorem dX7_reckon_5 : decode cX7_reckon 5 = .ok (.iload_n 3, 1) := by decide +kernel
theorem dX7_reckon_6 : decode cX7_reckon 6 = .ok (.iaload, 1) := by decide +kernel
theorem dX7_reckon_7 : decode cX7_reckon 7 = .ok (.iload 4, 2) := by decide +kernel
theorem dX7_reckon_9 : decode cX7_reckon 9 = .ok (.bipush 99, 2) := by decide +kernel
theorem dX7_reckon_11 : decode cX7_reckon 11 = .ok (.iadd, 1) := by decide +kernel
theorem dX7_reckon_12 : decode cX7_reckon 12 = .ok (.iconst 1, 1) := by decide +kernel
theorem dX7_reckon_13 : decode cX7_reckon 13 = .ok (.isub, 1) := by decide +kernel
theorem dX7_reckon_14 : decode cX7_reckon 14 = .ok (.invokestatic 28, 3) := by decide +kernel
theorem dX7_reckon_17 : decode cX7_reckon 17 = .ok (.putfield 34, 3) := by decide +kernel
theorem dX7_reckon_20 : decode cX7_reckon 20 = .ok (.aload_n 0, 1) := by decide +kernel
theorem dX7_reckon_21 : decode cX7_reckon 21 = .ok (.getfield 13, 3) := by decide +kernel
theorem dX7_reckon_24 : decode cX7_reckon 24 = .ok (.aload_n 1, 1) := by decide +kernel
theorem dX7_reckon_25 : decode cX7_reckon 25 = .ok (.getfield 38, 3) := by decide +kernel
theorem dX7_reckon_28 : decode cX7_reckon 28 = .ok (.aaload, 1) := by decide +kernel
theorem dX7_reckon_29 : decode cX7_reckon 29 = .ok (.ldc 43, 2) := by decide +kernel
theorem dX7_reckon_31 : decode cX7_reckon 31 = .ok (.invokestatic 44, 3) := by decide +kernel
theorem dX7_reckon_34 : decode cX7_reckon 34 = .ok (.aload_n 0, 1) := by decide +kernel
theorem dX7_reckon_35 : decode cX7_reckon 35 = .ok (.getfield 13, 3) := by decide +kernel
theorem dX7_reckon_38 : decode cX7_reckon 38 = .ok (.aload_n 1, 1) := by decide +kernel
theorem dX7_reckon_39 : decode cX7_reckon 39 = .ok (.getfield 38, 3) := by decide +kernel
theorem dX7_reckon_42 : decode cX7_reckon 42 = .ok (.aaload, 1) := by decide +kernel
theorem dX7_reckon_43 : decode cX7_reckon 43 = .ok (.iconst 0, 1) := by decide +kernel
theorem dX7_reckon_44 : decode cX7_reckon 44 = .ok (.iconst 0, 1) := by decide +kernel
theorem dX7_reckon_45 : decode cX7_reckon 45 = .ok (.iastore, 1) := by decide +kernel
theorem dX7_reckon_46 : decode cX7_reckon 46 = .ok (.aload_n 1, 1) := by decide +kernel
theorem dX7_reckon_47 : decode cX7_reckon 47 = .ok (.getfield 38, 3) := by decide +kernel
theorem dX7_reckon_50 : decode cX7_reckon 50 = .ok (.iconst 1, 1) := by decide +kernel
theorem dX7_reckon_51 : decode cX7_reckon 51 = .ok (.isub, 1) := by decide +kernel
theorem dX7_reckon_52 : decode cX7_reckon 52 = .ok (.istore 5, 2) := by decide +kernel
theorem dX7_reckon_54 : decode cX7_reckon 54 = .ok (.iload 5, 2) := by decide +kernel
theorem dX7_reckon_56 : decode cX7_reckon 56 = .ok (.ifCond .lt 74, 3) := by decide +kernel
theorem dX7_reckon_59 : decode cX7_reckon 59 = .ok (.aload_n 1, 1) := by decide +kernel
theorem dX7_reckon_60 : decode cX7_reckon 60 = .ok (.iload 5, 2) := by decide +kernel
theorem dX7_reckon_62 : decode cX7_reckon 62 = .ok (.iload_n 3, 1) := by decide +kernel
theorem dX7_reckon_63 : decode cX7_reckon 63 = .ok (.invokevirtual 50, 3) := by decide +kernel
theorem dX7_reckon_66 : decode cX7_reckon 66 = .ok (.ifCond .eq 30, 3) := by decide +kernel
theorem dX7_reckon_69 : decode cX7_reckon 69 = .ok (.aload_n 0, 1) := by decide +kernel
theorem dX7_reckon_70 : decode cX7_reckon 70 = .ok (.getfield 13, 3) := by decide +kernel
theorem dX7_reckon_73 : decode cX7_reckon 73 = .ok (.iload 5, 2) := by decide +kernel
theorem dX7_reckon_75 : decode cX7_reckon 75 = .ok (.iconst 1, 1) := by decide +kernel
theorem dX7_reckon_76 : decode cX7_reckon 76 = .ok (.iadd, 1) := by decide +kernel
theorem dX7_reckon_77 : decode cX7_reckon 77 = .ok (.aaload, 1) := by decide +kernel
theorem dX7_reckon_78 : decode cX7_reckon 78 = .ok (.iconst 0, 1) := by decide +kernel
theorem dX7_reckon_79 : decode cX7_reckon 79 = .ok (.aload_n 0, 1) := by decide +kernel
theorem dX7_reckon_80 : decode cX7_reckon 80 = .ok (.getfield 13, 3) := by decide +kernel
theorem dX7_reckon_83 : decode cX7_reckon 83 = .ok (.iload 5, 2) := by decide +kernel
theorem dX7_reckon_85 : decode cX7_reckon 85 = .ok (.aaload, 1) := by decide +kernel
theorem dX7_reckon_86 : decode cX7_reckon 86 = .ok (.iconst 0, 1) := by decide +kernel
theorem dX7_reckon_87 : decode cX7_reckon 87 = .ok (.sipush 1098, 3) := by decide +kernel
theorem dX7_reckon_90 : decode cX7_reckon 90 = .ok (.invokestatic 54, 3) := by decide +kernel
theorem dX7_reckon_93 : decode cX7_reckon 93 = .ok (.goto 31, 3) := by decide +kernel
theorem dX7_reckon_96 : decode cX7_reckon 96 = .ok (.aload_n 0, 1) := by decide +kernel
theorem dX7_reckon_97 : decode cX7_reckon 97 = .ok (.iload 5, 2) := by decide +kernel
theorem dX7_reckon_99 : decode cX7_reckon 99 = .ok (.aload_n 2, 1) := by decide +kernel
theorem dX7_reckon_100 : decode cX7_reckon 100 = .ok (.getfield 60, 3) := by decide +kernel
theorem dX7_reckon_103 : decode cX7_reckon 103 = .ok (.iload 5, 2) := by decide +kernel
theorem dX7_reckon_105 : decode cX7_reckon 105 = .ok (.iaload, 1) := by decide +kernel
theorem dX7_reckon_106 : decode cX7_reckon 106 = .ok (.aload_n 1, 1) := by decide +kernel
theorem dX7_reckon_107 : decode cX7_reckon 107 = .ok (.iload 5, 2) := by decide +kernel
theorem dX7_reckon_109 : decode cX7_reckon 109 = .ok (.invokestatic 63, 3) := by decide +kernel
theorem dX7_reckon_112 : decode cX7_reckon 112 = .ok (.aload_n 1, 1) := by decide +kernel
theorem dX7_reckon_113 : decode cX7_reckon 113 = .ok (.getfield 67, 3) := by decide +kernel
theorem dX7_reckon_116 : decode cX7_reckon 116 = .ok (.iload_n 3, 1) := by decide +kernel
theorem dX7_reckon_117 : decode cX7_reckon 117 = .ok (.iaload, 1) := by decide +kernel
theorem dX7_reckon_118 : decode cX7_reckon 118 = .ok (.bipush 64, 2) := by decide +kernel
theorem dX7_reckon_120 : decode cX7_reckon 120 = .ok (.imul, 1) := by decide +kernel
theorem dX7_reckon_121 : decode cX7_reckon 121 = .ok (.invokevirtual 70, 3) := by decide +kernel
theorem dX7_reckon_124 : decode cX7_reckon 124 = .ok (.iinc 5 (-1), 3) := by decide +kernel
theorem dX7_reckon_127 : decode cX7_reckon 127 = .ok (.goto (-73), 3) := by decide +kernel
theorem dX7_reckon_130 : decode cX7_reckon 130 = .ok (.aload_n 0, 1) := by decide +kernel
theorem dX7_reckon_131 : decode cX7_reckon 131 = .ok (.ldc 43, 2) := by decide +kernel
theorem dX7_reckon_133 : decode cX7_reckon 133 = .ok (.putfield 73, 3) := by decide +kernel
theorem dX7_reckon_136 : decode cX7_reckon 136 = .ok (.iload 4, 2) := by decide +kernel
theorem dX7_reckon_138 : decode cX7_reckon 138 = .ok (.istore 5, 2) := by decide +kernel
theorem dX7_reckon_140 : decode cX7_reckon 140 = .ok (.iload 5, 2) := by decide +kernel
theorem dX7_reckon_142 : decode cX7_reckon 142 = .ok (.aload_n 0, 1) := by decide +kernel
theorem dX7_reckon_143 : decode cX7_reckon 143 = .ok (.getfield 34, 3) := by decide +kernel
theorem dX7_reckon_146 : decode cX7_reckon 146 = .ok (.if_icmp .gt 29, 3) := by decide +kernel
theorem dX7_reckon_149 : decode cX7_reckon 149 = .ok (.aload_n 0, 1) := by decide +kernel
theorem dX7_reckon_150 : decode cX7_reckon 150 = .ok (.aload_n 0, 1) := by decide +kernel
theorem dX7_reckon_151 : decode cX7_reckon 151 = .ok (.getfield 73, 3) := by decide +kernel
theorem dX7_reckon_154 : decode cX7_reckon 154 = .ok (.aload_n 0, 1) := by decide +kernel
theorem dX7_reckon_155 : decode cX7_reckon 155 = .ok (.getfield 13, 3) := by decide +kernel
theorem dX7_reckon_158 : decode cX7_reckon 158 = .ok (.iconst 0, 1) := by decide +kernel
theorem dX7_reckon_159 : decode cX7_reckon 159 = .ok (.aaload, 1) := by decide +kernel
theorem dX7_reckon_160 : decode cX7_reckon 160 = .ok (.iload 5, 2) := by decide +kernel
theorem dX7_reckon_162 : decode cX7_reckon 162 = .ok (.iaload, 1) := by decide +kernel
theorem dX7_reckon_163 : decode cX7_reckon 163 = .ok (.invokestatic 28, 3) := by decide +kernel
theorem dX7_reckon_166 : decode cX7_reckon 166 = .ok (.putfield 73, 3) := by decide +kernel
theorem dX7_reckon_169 : decode cX7_reckon 169 = .ok (.iinc 5 1, 3) := by decide +kernel
theorem dX7_reckon_172 : decode cX7_reckon 172 = .ok (.goto (-32), 3) := by decide +kernel
theorem dX7_reckon_175 : decode cX7_reckon 175 = .ok (.aload_n 0, 1) := by decide +kernel
theorem dX7_reckon_176 : decode cX7_reckon 176 = .ok (.getfield 73, 3) := by decide +kernel
theorem dX7_reckon_179 : decode cX7_reckon 179 = .ok (.ldc 43, 2) := by decide +kernel
theorem dX7_reckon_181 : decode cX7_reckon 181 = .ok (.if_icmp .ge 7, 3) := by decide +kernel
theorem dX7_reckon_184 : decode cX7_reckon 184 = .ok (.iconst 1, 1) := by decide +kernel
theorem dX7_reckon_185 : decode cX7_reckon 185 = .ok (.goto 4, 3) := by decide +kernel
theorem dX7_reckon_188 : decode cX7_reckon 188 = .ok (.iconst 0, 1) := by decide +kernel
theorem dX7_reckon_189 : decode cX7_reckon 189 = .ok (.ireturn, 1) := by decide +kernel
theorem dX7_coins_0 : decode cX7_coins 0 = .ok (.aload_n 0, 1) := by decide +kernel
theorem dX7_coins_1 : decode cX7_coins 1 = .ok (.getfield 73, 3) := by decide +kernel
theorem dX7_coins_4 : decode cX7_coins 4 = .ok (.bipush 64, 2) := by decide +kernel
theorem dX7_coins_6 : decode cX7_coins 6 = .ok (.idiv, 1) := by decide +kernel
theorem dX7_coins_7 : decode cX7_coins 7 = .ok (.ireturn, 1) := by decide +kernel
theorem dX7_shareOut_0 : decode cX7_shareOut 0 = .ok (.aload_n 0, 1) := by decide +kernel
theorem dX7_shareOut_1 : decode cX7_shareOut 1 = .ok (.getfield 73, 3) := by decide +kernel
theorem dX7_shareOut_4 : decode cX7_shareOut 4 = .ok (.istore 5, 2) := by decide +kernel
theorem dX7_shareOut_6 : decode cX7_shareOut 6 = .ok (.iload 4, 2) := by decide +kernel
theorem dX7_shareOut_8 : decode cX7_shareOut 8 = .ok (.istore 6, 2) := by decide +kernel
theorem dX7_shareOut_10 : decode cX7_shareOut 10 = .ok (.aload_n 0, 1) := by decide +kernel
theorem dX7_shareOut_11 : decode cX7_shareOut 11 = .ok (.getfield 34, 3) := by decide +kernel
theorem dX7_shareOut_14 : decode cX7_shareOut 14 = .ok (.istore 7, 2) := by decide +kernel
theorem dX7_shareOut_16 : decode cX7_shareOut 16 = .ok (.aload_n 1, 1) := by decide +kernel
theorem dX7_shareOut_17 : decode cX7_shareOut 17 = .ok (.getfield 67, 3) := by decide +kernel
theorem dX7_shareOut_20 : decode cX7_shareOut 20 = .ok (.iload_n 3, 1) := by decide +kernel
theorem dX7_shareOut_21 : decode cX7_shareOut 21 = .ok (.iaload, 1) := by decide +kernel
theorem dX7_shareOut_22 : decode cX7_shareOut 22 = .ok (.bipush 64, 2) := by decide +kernel
theorem dX7_shareOut_24 : decode cX7_shareOut 24 = .ok (.imul, 1) := by decide +kernel
theorem dX7_shareOut_25 : decode cX7_shareOut 25 = .ok (.istore 8, 2) := by decide +kernel
theorem dX7_shareOut_27 : decode cX7_shareOut 27 = .ok (.iconst 0, 1) := by decide +kernel
theorem dX7_shareOut_28 : decode cX7_shareOut 28 = .ok (.istore 9, 2) := by decide +kernel
theorem dX7_shareOut_30 : decode cX7_shareOut 30 = .ok (.iload 9, 2) := by decide +kernel
theorem dX7_shareOut_32 : decode cX7_shareOut 32 = .ok (.aload_n 1, 1) := by decide +kernel
theorem dX7_shareOut_33 : decode cX7_shareOut 33 = .ok (.getfield 38, 3) := by decide +kernel
theorem dX7_shareOut_36 : decode cX7_shareOut 36 = .ok (.if_icmp .ge 128, 3) := by decide +kernel
theorem dX7_shareOut_39 : decode cX7_shareOut 39 = .ok (.aload_n 0, 1) := by decide +kernel
theorem dX7_shareOut_40 : decode cX7_shareOut 40 = .ok (.getfield 20, 3) := by decide +kernel
theorem dX7_shareOut_43 : decode cX7_shareOut 43 = .ok (.iload 9, 2) := by decide +kernel
theorem dX7_shareOut_45 : decode cX7_shareOut 45 = .ok (.iconst 0, 1) := by decide +kernel
theorem dX7_shareOut_46 : decode cX7_shareOut 46 = .ok (.iastore, 1) := by decide +kernel
theorem dX7_shareOut_47 : decode cX7_shareOut 47 = .ok (.iload 5, 2) := by decide +kernel
theorem dX7_shareOut_49 : decode cX7_shareOut 49 = .ok (.iload 9, 2) := by decide +kernel
theorem dX7_shareOut_51 : decode cX7_shareOut 51 = .ok (.ishr, 1) := by decide +kernel
theorem dX7_shareOut_52 : decode cX7_shareOut 52 = .ok (.iconst 1, 1) := by decide +kernel
theorem dX7_shareOut_53 : decode cX7_shareOut 53 = .ok (.iand, 1) := by decide +kernel
theorem dX7_shareOut_54 : decode cX7_shareOut 54 = .ok (.iconst 1, 1) := by decide +kernel
theorem dX7_shareOut_55 : decode cX7_shareOut 55 = .ok (.if_icmp .ne 103, 3) := by decide +kernel
theorem dX7_shareOut_58 : decode cX7_shareOut 58 = .ok (.iload 5, 2) := by decide +kernel
theorem dX7_shareOut_60 : decode cX7_shareOut 60 = .ok (.aload_n 1, 1) := by decide +kernel
theorem dX7_shareOut_61 : decode cX7_shareOut 61 = .ok (.iload 9, 2) := by decide +kernel
theorem dX7_shareOut_63 : decode cX7_shareOut 63 = .ok (.invokestatic 63, 3) := by decide +kernel
theorem dX7_shareOut_66 : decode cX7_shareOut 66 = .ok (.isub, 1) := by decide +kernel
theorem dX7_shareOut_67 : decode cX7_shareOut 67 = .ok (.istore 5, 2) := by decide +kernel
theorem dX7_shareOut_69 : decode cX7_shareOut 69 = .ok (.aload_n 0, 1) := by decide +kernel
theorem dX7_shareOut_70 : decode cX7_shareOut 70 = .ok (.getfield 20, 3) := by decide +kernel
theorem dX7_shareOut_73 : decode cX7_shareOut 73 = .ok (.iload 9, 2) := by decide +kernel
theorem dX7_shareOut_75 : decode cX7_shareOut 75 = .ok (.aload_n 0, 1) := by decide +kernel
theorem dX7_shareOut_76 : decode cX7_shareOut 76 = .ok (.getfield 13, 3) := by decide +kernel
theorem dX7_shareOut_79 : decode cX7_shareOut 79 = .ok (.iload 9, 2) := by decide +kernel
theorem dX7_shareOut_81 : decode cX7_shareOut 81 = .ok (.iconst 1, 1) := by decide +kernel
theorem dX7_shareOut_82 : decode cX7_shareOut 82 = .ok (.iadd, 1) := by decide +kernel
theorem dX7_shareOut_83 : decode cX7_shareOut 83 = .ok (.aaload, 1) := by decide +kernel
theorem dX7_shareOut_84 : decode cX7_shareOut 84 = .ok (.aload_n 2, 1) := by decide +kernel
theorem dX7_shareOut_85 : decode cX7_shareOut 85 = .ok (.getfield 60, 3) := by decide +kernel
theorem dX7_shareOut_88 : decode cX7_shareOut 88 = .ok (.iload 9, 2) := by decide +kernel
theorem dX7_shareOut_90 : decode cX7_shareOut 90 = .ok (.iaload, 1) := by decide +kernel
theorem dX7_shareOut_91 : decode cX7_shareOut 91 = .ok (.iload 5, 2) := by decide +kernel
theorem dX7_shareOut_93 : decode cX7_shareOut 93 = .ok (.iload 8, 2) := by decide +kernel
theorem dX7_shareOut_95 : decode cX7_shareOut 95 = .ok (.iload 6, 2) := by decide +kernel
theorem dX7_shareOut_97 : decode cX7_shareOut 97 = .ok (.iload 7, 2) := by decide +kernel
theorem dX7_shareOut_99 : decode cX7_shareOut 99 = .ok (.invokestatic 76, 3) := by decide +kernel
theorem dX7_shareOut_102 : decode cX7_shareOut 102 = .ok (.iastore, 1) := by decide +kernel
theorem dX7_shareOut_103 : decode cX7_shareOut 103 = .ok (.iload 5, 2) := by decide +kernel
theorem dX7_shareOut_105 : decode cX7_shareOut 105 = .ok (.aload_n 0, 1) := by decide +kernel
theorem dX7_shareOut_106 : decode cX7_shareOut 106 = .ok (.getfield 20, 3) := by decide +kernel
theorem dX7_shareOut_109 : decode cX7_shareOut 109 = .ok (.iload 9, 2) := by decide +kernel
theorem dX7_shareOut_111 : decode cX7_shareOut 111 = .ok (.iaload, 1) := by decide +kernel
theorem dX7_shareOut_112 : decode cX7_shareOut 112 = .ok (.iload 8, 2) := by decide +kernel
theorem dX7_shareOut_114 : decode cX7_shareOut 114 = .ok (.imul, 1) := by decide +kernel
theorem dX7_shareOut_115 : decode cX7_shareOut 115 = .ok (.isub, 1) := by decide +kernel
theorem dX7_shareOut_116 : decode cX7_shareOut 116 = .ok (.istore 5, 2) := by decide +kernel
theorem dX7_shareOut_118 : decode cX7_shareOut 118 = .ok (.iload 6, 2) := by decide +kernel
theorem dX7_shareOut_120 : decode cX7_shareOut 120 = .ok (.aload_n 0, 1) := by decide +kernel
theorem dX7_shareOut_121 : decode cX7_shareOut 121 = .ok (.getfield 20, 3) := by decide +kernel
theorem dX7_shareOut_124 : decode cX7_shareOut 124 = .ok (.iload 9, 2) := by decide +kernel
theorem dX7_shareOut_126 : decode cX7_shareOut 126 = .ok (.iaload, 1) := by decide +kernel
theorem dX7_shareOut_127 : decode cX7_shareOut 127 = .ok (.aload_n 2, 1) := by decide +kernel
theorem dX7_shareOut_128 : decode cX7_shareOut 128 = .ok (.getfield 60, 3) := by decide +kernel
theorem dX7_shareOut_131 : decode cX7_shareOut 131 = .ok (.iload 9, 2) := by decide +kernel
theorem dX7_shareOut_133 : decode cX7_shareOut 133 = .ok (.iaload, 1) := by decide +kernel
theorem dX7_shareOut_134 : decode cX7_shareOut 134 = .ok (.imul, 1) := by decide +kernel
theorem dX7_shareOut_135 : decode cX7_shareOut 135 = .ok (.isub, 1) := by decide +kernel
theorem dX7_shareOut_136 : decode cX7_shareOut 136 = .ok (.istore 6, 2) := by decide +kernel
theorem dX7_shareOut_138 : decode cX7_shareOut 138 = .ok (.iload 7, 2) := by decide +kernel
theorem dX7_shareOut_140 : decode cX7_shareOut 140 = .ok (.aload_n 0, 1) := by decide +kernel
theorem dX7_shareOut_141 : decode cX7_shareOut 141 = .ok (.getfield 20, 3) := by decide +kernel
theorem dX7_shareOut_144 : decode cX7_shareOut 144 = .ok (.iload 9, 2) := by decide +kernel
theorem dX7_shareOut_146 : decode cX7_shareOut 146 = .ok (.iaload, 1) := by decide +kernel
theorem dX7_shareOut_147 : decode cX7_shareOut 147 = .ok (.aload_n 2, 1) := by decide +kernel
theorem dX7_shareOut_148 : decode cX7_shareOut 148 = .ok (.getfield 60, 3) := by decide +kernel
theorem dX7_shareOut_151 : decode cX7_shareOut 151 = .ok (.iload 9, 2) := by decide +kernel
theorem dX7_shareOut_153 : decode cX7_shareOut 153 = .ok (.iaload, 1) := by decide +kernel
theorem dX7_shareOut_154 : decode cX7_shareOut 154 = .ok (.imul, 1) := by decide +kernel
theorem dX7_shareOut_155 : decode cX7_shareOut 155 = .ok (.isub, 1) := by decide +kernel
theorem dX7_shareOut_156 : decode cX7_shareOut 156 = .ok (.istore 7, 2) := by decide +kernel
theorem dX7_shareOut_158 : decode cX7_shareOut 158 = .ok (.iinc 9 1, 3) := by decide +kernel
theorem dX7_shareOut_161 : decode cX7_shareOut 161 = .ok (.goto (-131), 3) := by decide +kernel
theorem dX7_shareOut_164 : decode cX7_shareOut 164 = .ok (.return_, 1) := by decide +kernel
theorem dX7_hire_0 : decode cX7_hire 0 = .ok (.aload_n 0, 1) := by decide +kernel
theorem dX7_hire_1 : decode cX7_hire 1 = .ok (.getfield 80, 3) := by decide +kernel
theorem dX7_hire_4 : decode cX7_hire 4 = .ok (.iload_n 1, 1) := by decide +kernel
theorem dX7_hire_5 : decode cX7_hire 5 = .ok (.iaload, 1) := by decide +kernel
theorem dX7_hire_6 : decode cX7_hire 6 = .ok (.bipush 64, 2) := by decide +kernel
theorem dX7_hire_8 : decode cX7_hire 8 = .ok (.imul, 1) := by decide +kernel
theorem dX7_hire_9 : decode cX7_hire 9 = .ok (.iconst 1, 1) := by decide +kernel
theorem dX7_hire_10 : decode cX7_hire 10 = .ok (.iload_n 1, 1) := by decide +kernel
theorem dX7_hire_11 : decode cX7_hire 11 = .ok (.ishl, 1) := by decide +kernel
theorem dX7_hire_12 : decode cX7_hire 12 = .ok (.iadd, 1) := by decide +kernel
theorem dX7_hire_13 : decode cX7_hire 13 = .ok (.ireturn, 1) := by decide +kernel
theorem dX7_fill_0 : decode cX7_fill 0 = .ok (.aload_n 0, 1) := by decide +kernel
theorem dX7_fill_1 : decode cX7_fill 1 = .ok (.getfield 13, 3) := by decide +kernel
theorem dX7_fill_4 : decode cX7_fill 4 = .ok (.iload_n 1, 1) := by decide +kernel
theorem dX7_fill_5 : decode cX7_fill 5 = .ok (.aaload, 1) := by decide +kernel
theorem dX7_fill_6 : decode cX7_fill 6 = .ok (.astore 5, 2) := by decide +kernel
theorem dX7_fill_8 : decode cX7_fill 8 = .ok (.aload_n 0, 1) := by decide +kernel
theorem dX7_fill_9 : decode cX7_fill 9 = .ok (.getfield 13, 3) := by decide +kernel
theorem dX7_fill_12 : decode cX7_fill 12 = .ok (.iload_n 1, 1) := by decide +kernel
theorem dX7_fill_13 : decode cX7_fill 13 = .ok (.iconst 1, 1) := by decide +kernel
theorem dX7_fill_14 : decode cX7_fill 14 = .ok (.iadd, 1) := by decide +kernel
theorem dX7_fill_15 : decode cX7_fill 15 = .ok (.aaload, 1) := by decide +kernel
theorem dX7_fill_16 : decode cX7_fill 16 = .ok (.astore 6, 2) := by decide +kernel
theorem dX7_fill_18 : decode cX7_fill 18 = .ok (.iconst 0, 1) := by decide +kernel
theorem dX7_fill_19 : decode cX7_fill 19 = .ok (.istore 7, 2) := by decide +kernel
theorem dX7_fill_21 : decode cX7_fill 21 = .ok (.iload 7, 2) := by decide +kernel
theorem dX7_fill_23 : decode cX7_fill 23 = .ok (.aload_n 0, 1) := by decide +kernel
theorem dX7_fill_24 : decode cX7_fill 24 = .ok (.getfield 34, 3) := by decide +kernel
theorem dX7_fill_27 : decode cX7_fill 27 = .ok (.if_icmp .gt 76, 3) := by decide +kernel
theorem dX7_fill_30 : decode cX7_fill 30 = .ok (.ldc 43, 2) := by decide +kernel
theorem dX7_fill_32 : decode cX7_fill 32 = .ok (.istore 8, 2) := by decide +kernel
theorem dX7_fill_34 : decode cX7_fill 34 = .ok (.iload 7, 2) := by decide +kernel
theorem dX7_fill_36 : decode cX7_fill 36 = .ok (.iload_n 2, 1) := by decide +kernel
theorem dX7_fill_37 : decode cX7_fill 37 = .ok (.if_icmp .lt 36, 3) := by decide +kernel
theorem dX7_fill_40 : decode cX7_fill 40 = .ok (.iload 7, 2) := by decide +kernel
theorem dX7_fill_42 : decode cX7_fill 42 = .ok (.iload_n 2, 1) := by decide +kernel
theorem dX7_fill_43 : decode cX7_fill 43 = .ok (.isub, 1) := by decide +kernel
theorem dX7_fill_44 : decode cX7_fill 44 = .ok (.istore 9, 2) := by decide +kernel
theorem dX7_fill_46 : decode cX7_fill 46 = .ok (.ldc 43, 2) := by decide +kernel
theorem dX7_fill_48 : decode cX7_fill 48 = .ok (.aload 6, 2) := by decide +kernel
theorem dX7_fill_50 : decode cX7_fill 50 = .ok (.iload 9, 2) := by decide +kernel
theorem dX7_fill_52 : decode cX7_fill 52 = .ok (.iaload, 1) := by decide +kernel
theorem dX7_fill_53 : decode cX7_fill 53 = .ok (.iload_n 3, 1) := by decide +kernel
theorem dX7_fill_54 : decode cX7_fill 54 = .ok (.iadd, 1) := by decide +kernel
theorem dX7_fill_55 : decode cX7_fill 55 = .ok (.aload_n 0, 1) := by decide +kernel
theorem dX7_fill_56 : decode cX7_fill 56 = .ok (.getfield 16, 3) := by decide +kernel
theorem dX7_fill_59 : decode cX7_fill 59 = .ok (.iload 9, 2) := by decide +kernel
theorem dX7_fill_61 : decode cX7_fill 61 = .ok (.iaload, 1) := by decide +kernel
theorem dX7_fill_62 : decode cX7_fill 62 = .ok (.invokestatic 28, 3) := by decide +kernel
theorem dX7_fill_65 : decode cX7_fill 65 = .ok (.iload 4, 2) := by decide +kernel
theorem dX7_fill_67 : decode cX7_fill 67 = .ok (.iadd, 1) := by decide +kernel
theorem dX7_fill_68 : decode cX7_fill 68 = .ok (.invokestatic 28, 3) := by decide +kernel
theorem dX7_fill_71 : decode cX7_fill 71 = .ok (.istore 8, 2) := by decide +kernel
theorem dX7_fill_73 : decode cX7_fill 73 = .ok (.aload_n 0, 1) := by decide +kernel
theorem dX7_fill_74 : decode cX7_fill 74 = .ok (.getfield 16, 3) := by decide +kernel
theorem dX7_fill_77 : decode cX7_fill 77 = .ok (.iload 7, 2) := by decide +kernel
theorem dX7_fill_79 : decode cX7_fill 79 = .ok (.iload 8, 2) := by decide +kernel
theorem dX7_fill_81 : decode cX7_fill 81 = .ok (.iastore, 1) := by decide +kernel
theorem dX7_fill_82 : decode cX7_fill 82 = .ok (.aload 5, 2) := by decide +kernel
theorem dX7_fill_84 : decode cX7_fill 84 = .ok (.iload 7, 2) := by decide +kernel
theorem dX7_fill_86 : decode cX7_fill 86 = .ok (.aload 6, 2) := by decide +kernel
theorem dX7_fill_88 : decode cX7_fill 88 = .ok (.iload 7, 2) := by decide +kernel
theorem dX7_fill_90 : decode cX7_fill 90 = .ok (.iaload, 1) := by decide +kernel
theorem dX7_fill_91 : decode cX7_fill 91 = .ok (.iload 8, 2) := by decide +kernel
theorem dX7_fill_93 : decode cX7_fill 93 = .ok (.invokestatic 28, 3) := by decide +kernel
theorem dX7_fill_96 : decode cX7_fill 96 = .ok (.iastore, 1) := by decide +kernel
theorem dX7_fill_97 : decode cX7_fill 97 = .ok (.iinc 7 1, 3) := by decide +kernel
theorem dX7_fill_100 : decode cX7_fill 100 = .ok (.goto (-79), 3) := by decide +kernel
theorem dX7_fill_103 : decode cX7_fill 103 = .ok (.return_, 1) := by decide +kernel
theorem dX7_fewestOf_0 : decode cX7_fewestOf 0 = .ok (.iload 5, 2) := by decide +kernel
theorem dX7_fewestOf_2 : decode cX7_fewestOf 2 = .ok (.iload 4, 2) := by decide +kernel
theorem dX7_fewestOf_4 : decode cX7_fewestOf 4 = .ok (.iload_n 1, 1) := by decide +kernel
theorem dX7_fewestOf_5 : decode cX7_fewestOf 5 = .ok (.iadd, 1) := by decide +kernel
theorem dX7_fewestOf_6 : decode cX7_fewestOf 6 = .ok (.iconst 1, 1) := by decide +kernel
theorem dX7_fewestOf_7 : decode cX7_fewestOf 7 = .ok (.isub, 1) := by decide +kernel
theorem dX7_fewestOf_8 : decode cX7_fewestOf 8 = .ok (.invokestatic 28, 3) := by decide +kernel
theorem dX7_fewestOf_11 : decode cX7_fewestOf 11 = .ok (.istore 6, 2) := by decide +kernel
theorem dX7_fewestOf_13 : decode cX7_fewestOf 13 = .ok (.iconst 1, 1) := by decide +kernel
theorem dX7_fewestOf_14 : decode cX7_fewestOf 14 = .ok (.istore 7, 2) := by decide +kernel
theorem dX7_fewestOf_16 : decode cX7_fewestOf 16 = .ok (.iload 7, 2) := by decide +kernel
theorem dX7_fewestOf_18 : decode cX7_fewestOf 18 = .ok (.sipush 1097, 3) := by decide +kernel
theorem dX7_fewestOf_21 : decode cX7_fewestOf 21 = .ok (.if_icmp .gt 75, 3) := by decide +kernel
theorem dX7_fewestOf_24 : decode cX7_fewestOf 24 = .ok (.iload 7, 2) := by decide +kernel
theorem dX7_fewestOf_26 : decode cX7_fewestOf 26 = .ok (.iload_n 1, 1) := by decide +kernel
theorem dX7_fewestOf_27 : decode cX7_fewestOf 27 = .ok (.imul, 1) := by decide +kernel
theorem dX7_fewestOf_28 : decode cX7_fewestOf 28 = .ok (.iload 6, 2) := by decide +kernel
theorem dX7_fewestOf_30 : decode cX7_fewestOf 30 = .ok (.if_icmp .gt 66, 3) := by decide +kernel
theorem dX7_fewestOf_33 : decode cX7_fewestOf 33 = .ok (.iload 6, 2) := by decide +kernel
theorem dX7_fewestOf_35 : decode cX7_fewestOf 35 = .ok (.iload 7, 2) := by decide +kernel
theorem dX7_fewestOf_37 : decode cX7_fewestOf 37 = .ok (.iload_n 1, 1) := by decide +kernel
theorem dX7_fewestOf_38 : decode cX7_fewestOf 38 = .ok (.imul, 1) := by decide +kernel
theorem dX7_fewestOf_39 : decode cX7_fewestOf 39 = .ok (.isub, 1) := by decide +kernel
theorem dX7_fewestOf_40 : decode cX7_fewestOf 40 = .ok (.sipush 1097, 3) := by decide +kernel
theorem dX7_fewestOf_43 : decode cX7_fewestOf 43 = .ok (.invokestatic 28, 3) := by decide +kernel
theorem dX7_fewestOf_46 : decode cX7_fewestOf 46 = .ok (.istore 8, 2) := by decide +kernel
theorem dX7_fewestOf_48 : decode cX7_fewestOf 48 = .ok (.iconst 0, 1) := by decide +kernel
theorem dX7_fewestOf_49 : decode cX7_fewestOf 49 = .ok (.iload 4, 2) := by decide +kernel
theorem dX7_fewestOf_51 : decode cX7_fewestOf 51 = .ok (.iload 7, 2) := by decide +kernel
theorem dX7_fewestOf_53 : decode cX7_fewestOf 53 = .ok (.iload_n 1, 1) := by decide +kernel
theorem dX7_fewestOf_54 : decode cX7_fewestOf 54 = .ok (.imul, 1) := by decide +kernel
theorem dX7_fewestOf_55 : decode cX7_fewestOf 55 = .ok (.isub, 1) := by decide +kernel
theorem dX7_fewestOf_56 : decode cX7_fewestOf 56 = .ok (.invokestatic 83, 3) := by decide +kernel
theorem dX7_fewestOf_59 : decode cX7_fewestOf 59 = .ok (.istore 9, 2) := by decide +kernel
theorem dX7_fewestOf_61 : decode cX7_fewestOf 61 = .ok (.iload 9, 2) := by decide +kernel
theorem dX7_fewestOf_63 : decode cX7_fewestOf 63 = .ok (.iload 8, 2) := by decide +kernel
theorem dX7_fewestOf_65 : decode cX7_fewestOf 65 = .ok (.if_icmp .gt 25, 3) := by decide +kernel
theorem dX7_fewestOf_68 : decode cX7_fewestOf 68 = .ok (.aload_n 0, 1) := by decide +kernel
theorem dX7_fewestOf_69 : decode cX7_fewestOf 69 = .ok (.iload 9, 2) := by decide +kernel
theorem dX7_fewestOf_71 : decode cX7_fewestOf 71 = .ok (.iaload, 1) := by decide +kernel
theorem dX7_fewestOf_72 : decode cX7_fewestOf 72 = .ok (.iload_n 2, 1) := by decide +kernel
theorem dX7_fewestOf_73 : decode cX7_fewestOf 73 = .ok (.iload 7, 2) := by decide +kernel
theorem dX7_fewestOf_75 : decode cX7_fewestOf 75 = .ok (.iload_n 3, 1) := by decide +kernel
theorem dX7_fewestOf_76 : decode cX7_fewestOf 76 = .ok (.imul, 1) := by decide +kernel
theorem dX7_fewestOf_77 : decode cX7_fewestOf 77 = .ok (.isub, 1) := by decide +kernel
theorem dX7_fewestOf_78 : decode cX7_fewestOf 78 = .ok (.if_icmp .ne 6, 3) := by decide +kernel
theorem dX7_fewestOf_81 : decode cX7_fewestOf 81 = .ok (.iload 7, 2) := by decide +kernel
theorem dX7_fewestOf_83 : decode cX7_fewestOf 83 = .ok (.ireturn, 1) := by decide +kernel
theorem dX7_fewestOf_84 : decode cX7_fewestOf 84 = .ok (.iinc 9 1, 3) := by decide +kernel
theorem dX7_fewestOf_87 : decode cX7_fewestOf 87 = .ok (.goto (-26), 3) := by decide +kernel
theorem dX7_fewestOf_90 : decode cX7_fewestOf 90 = .ok (.iinc 7 1, 3) := by decide +kernel
theorem dX7_fewestOf_93 : decode cX7_fewestOf 93 = .ok (.goto (-77), 3) := by decide +kernel
theorem dX7_fewestOf_96 : decode cX7_fewestOf 96 = .ok (.iconst 0, 1) := by decide +kernel
theorem dX7_fewestOf_97 : decode cX7_fewestOf 97 = .ok (.ireturn, 1) := by decide +kernel
