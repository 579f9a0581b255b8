theorem dX9_layWay_53 : decode cX9_layWay 53 = .ok (.isub, 1) := by decide +kernel
theorem dX9_layWay_54 : decode cX9_layWay 54 = .ok (.iload_n 3, 1) := by decide +kernel
theorem dX9_layWay_55 : decode cX9_layWay 55 = .ok (.iload 4, 2) := by decide +kernel
theorem dX9_layWay_57 : decode cX9_layWay 57 = .ok (.invokevirtual 204, 3) := by decide +kernel
theorem dX9_layWay_60 : decode cX9_layWay 60 = .ok (.ifCond .ne 9, 3) := by decide +kernel
theorem dX9_layWay_63 : decode cX9_layWay 63 = .ok (.iinc 8 1, 3) := by decide +kernel
theorem dX9_layWay_66 : decode cX9_layWay 66 = .ok (.goto (-35), 3) := by decide +kernel
theorem dX9_layWay_69 : decode cX9_layWay 69 = .ok (.aload_n 0, 1) := by decide +kernel
theorem dX9_layWay_70 : decode cX9_layWay 70 = .ok (.getfield 105, 3) := by decide +kernel
theorem dX9_layWay_73 : decode cX9_layWay 73 = .ok (.iload 7, 2) := by decide +kernel
theorem dX9_layWay_75 : decode cX9_layWay 75 = .ok (.iload 8, 2) := by decide +kernel
theorem dX9_layWay_77 : decode cX9_layWay 77 = .ok (.iastore, 1) := by decide +kernel
theorem dX9_layWay_78 : decode cX9_layWay 78 = .ok (.iload 5, 2) := by decide +kernel
theorem dX9_layWay_80 : decode cX9_layWay 80 = .ok (.iload 8, 2) := by decide +kernel
theorem dX9_layWay_82 : decode cX9_layWay 82 = .ok (.aload_n 0, 1) := by decide +kernel
theorem dX9_layWay_83 : decode cX9_layWay 83 = .ok (.getfield 13, 3) := by decide +kernel
theorem dX9_layWay_86 : decode cX9_layWay 86 = .ok (.iload 7, 2) := by decide +kernel
theorem dX9_layWay_88 : decode cX9_layWay 88 = .ok (.iaload, 1) := by decide +kernel
theorem dX9_layWay_89 : decode cX9_layWay 89 = .ok (.imul, 1) := by decide +kernel
theorem dX9_layWay_90 : decode cX9_layWay 90 = .ok (.iadd, 1) := by decide +kernel
theorem dX9_layWay_91 : decode cX9_layWay 91 = .ok (.istore 5, 2) := by decide +kernel
theorem dX9_layWay_93 : decode cX9_layWay 93 = .ok (.iload 6, 2) := by decide +kernel
theorem dX9_layWay_95 : decode cX9_layWay 95 = .ok (.iload 8, 2) := by decide +kernel
theorem dX9_layWay_97 : decode cX9_layWay 97 = .ok (.isub, 1) := by decide +kernel
theorem dX9_layWay_98 : decode cX9_layWay 98 = .ok (.istore 6, 2) := by decide +kernel
theorem dX9_layWay_100 : decode cX9_layWay 100 = .ok (.iinc 7 1, 3) := by decide +kernel
theorem dX9_layWay_103 : decode cX9_layWay 103 = .ok (.goto (-94), 3) := by decide +kernel
theorem dX9_layWay_106 : decode cX9_layWay 106 = .ok (.return_, 1) := by decide +kernel
theorem dX9_findCheapest_0 : decode cX9_findCheapest 0 = .ok (.aload_n 0, 1) := by decide +kernel
theorem dX9_findCheapest_1 : decode cX9_findCheapest 1 = .ok (.getfield 22, 3) := by decide +kernel
theorem dX9_findCheapest_4 : decode cX9_findCheapest 4 = .ok (.iload_n 1, 1) := by decide +kernel
theorem dX9_findCheapest_5 : decode cX9_findCheapest 5 = .ok (.iaload, 1) := by decide +kernel
theorem dX9_findCheapest_6 : decode cX9_findCheapest 6 = .ok (.sipush 1100, 3) := by decide +kernel
theorem dX9_findCheapest_9 : decode cX9_findCheapest 9 = .ok (.if_icmp .ge 12, 3) := by decide +kernel
theorem dX9_findCheapest_12 : decode cX9_findCheapest 12 = .ok (.aload_n 0, 1) := by decide +kernel
theorem dX9_findCheapest_13 : decode cX9_findCheapest 13 = .ok (.getfield 22, 3) := by decide +kernel
theorem dX9_findCheapest_16 : decode cX9_findCheapest 16 = .ok (.iload_n 1, 1) := by decide +kernel
theorem dX9_findCheapest_17 : decode cX9_findCheapest 17 = .ok (.iaload, 1) := by decide +kernel
theorem dX9_findCheapest_18 : decode cX9_findCheapest 18 = .ok (.goto 6, 3) := by decide +kernel
theorem dX9_findCheapest_21 : decode cX9_findCheapest 21 = .ok (.sipush 1100, 3) := by decide +kernel
theorem dX9_findCheapest_24 : decode cX9_findCheapest 24 = .ok (.istore_n 3, 1) := by decide +kernel
theorem dX9_findCheapest_25 : decode cX9_findCheapest 25 = .ok (.bipush (-9), 2) := by decide +kernel
theorem dX9_findCheapest_27 : decode cX9_findCheapest 27 = .ok (.istore 4, 2) := by decide +kernel
theorem dX9_findCheapest_29 : decode cX9_findCheapest 29 = .ok (.iconst 1, 1) := by decide +kernel
theorem dX9_findCheapest_30 : decode cX9_findCheapest 30 = .ok (.istore 5, 2) := by decide +kernel
theorem dX9_findCheapest_32 : decode cX9_findCheapest 32 = .ok (.iload 5, 2) := by decide +kernel
theorem dX9_findCheapest_34 : decode cX9_findCheapest 34 = .ok (.iconst 1, 1) := by decide +kernel
theorem dX9_findCheapest_35 : decode cX9_findCheapest 35 = .ok (.aload_n 0, 1) := by decide +kernel
theorem dX9_findCheapest_36 : decode cX9_findCheapest 36 = .ok (.getfield 120, 3) := by decide +kernel
theorem dX9_findCheapest_39 : decode cX9_findCheapest 39 = .ok (.ishl, 1) := by decide +kernel
theorem dX9_findCheapest_40 : decode cX9_findCheapest 40 = .ok (.if_icmp .ge 206, 3) := by decide +kernel
theorem dX9_findCheapest_43 : decode cX9_findCheapest 43 = .ok (.iconst 0, 1) := by decide +kernel
theorem dX9_findCheapest_44 : decode cX9_findCheapest 44 = .ok (.istore 6, 2) := by decide +kernel
theorem dX9_findCheapest_46 : decode cX9_findCheapest 46 = .ok (.iconst 1, 1) := by decide +kernel
theorem dX9_findCheapest_47 : decode cX9_findCheapest 47 = .ok (.istore 7, 2) := by decide +kernel
theorem dX9_findCheapest_49 : decode cX9_findCheapest 49 = .ok (.iconst 0, 1) := by decide +kernel
theorem dX9_findCheapest_50 : decode cX9_findCheapest 50 = .ok (.istore 8, 2) := by decide +kernel
theorem dX9_findCheapest_52 : decode cX9_findCheapest 52 = .ok (.iload 8, 2) := by decide +kernel
theorem dX9_findCheapest_54 : decode cX9_findCheapest 54 = .ok (.aload_n 0, 1) := by decide +kernel
theorem dX9_findCheapest_55 : decode cX9_findCheapest 55 = .ok (.getfield 120, 3) := by decide +kernel
theorem dX9_findCheapest_58 : decode cX9_findCheapest 58 = .ok (.if_icmp .ge 71, 3) := by decide +kernel
theorem dX9_findCheapest_61 : decode cX9_findCheapest 61 = .ok (.iload 6, 2) := by decide +kernel
theorem dX9_findCheapest_63 : decode cX9_findCheapest 63 = .ok (.iload 5, 2) := by decide +kernel
theorem dX9_findCheapest_65 : decode cX9_findCheapest 65 = .ok (.iload 8, 2) := by decide +kernel
theorem dX9_findCheapest_67 : decode cX9_findCheapest 67 = .ok (.invokestatic 200, 3) := by decide +kernel
theorem dX9_findCheapest_70 : decode cX9_findCheapest 70 = .ok (.ifCond .eq 13, 3) := by decide +kernel
theorem dX9_findCheapest_73 : decode cX9_findCheapest 73 = .ok (.aload_n 0, 1) := by decide +kernel
theorem dX9_findCheapest_74 : decode cX9_findCheapest 74 = .ok (.getfield 16, 3) := by decide +kernel
theorem dX9_findCheapest_77 : decode cX9_findCheapest 77 = .ok (.iload 8, 2) := by decide +kernel
theorem dX9_findCheapest_79 : decode cX9_findCheapest 79 = .ok (.iaload, 1) := by decide +kernel
theorem dX9_findCheapest_80 : decode cX9_findCheapest 80 = .ok (.goto 4, 3) := by decide +kernel
theorem dX9_findCheapest_83 : decode cX9_findCheapest 83 = .ok (.iconst 0, 1) := by decide +kernel
theorem dX9_findCheapest_84 : decode cX9_findCheapest 84 = .ok (.iadd, 1) := by decide +kernel
theorem dX9_findCheapest_85 : decode cX9_findCheapest 85 = .ok (.istore 6, 2) := by decide +kernel
theorem dX9_findCheapest_87 : decode cX9_findCheapest 87 = .ok (.iload 7, 2) := by decide +kernel
theorem dX9_findCheapest_89 : decode cX9_findCheapest 89 = .ok (.ifCond .eq 31, 3) := by decide +kernel
theorem dX9_findCheapest_92 : decode cX9_findCheapest 92 = .ok (.iload 5, 2) := by decide +kernel
theorem dX9_findCheapest_94 : decode cX9_findCheapest 94 = .ok (.iload 8, 2) := by decide +kernel
theorem dX9_findCheapest_96 : decode cX9_findCheapest 96 = .ok (.invokestatic 200, 3) := by decide +kernel
theorem dX9_findCheapest_99 : decode cX9_findCheapest 99 = .ok (.ifCond .eq 17, 3) := by decide +kernel
theorem dX9_findCheapest_102 : decode cX9_findCheapest 102 = .ok (.aload_n 0, 1) := by decide +kernel
theorem dX9_findCheapest_103 : decode cX9_findCheapest 103 = .ok (.getfield 25, 3) := by decide +kernel
theorem dX9_findCheapest_106 : decode cX9_findCheapest 106 = .ok (.iconst 4, 1) := by decide +kernel
theorem dX9_findCheapest_107 : decode cX9_findCheapest 107 = .ok (.iload 8, 2) := by decide +kernel
theorem dX9_findCheapest_109 : decode cX9_findCheapest 109 = .ok (.imul, 1) := by decide +kernel
theorem dX9_findCheapest_110 : decode cX9_findCheapest 110 = .ok (.iload_n 1, 1) := by decide +kernel
theorem dX9_findCheapest_111 : decode cX9_findCheapest 111 = .ok (.iadd, 1) := by decide +kernel
theorem dX9_findCheapest_112 : decode cX9_findCheapest 112 = .ok (.baload, 1) := by decide +kernel
theorem dX9_findCheapest_113 : decode cX9_findCheapest 113 = .ok (.ifCond .ne 7, 3) := by decide +kernel
theorem dX9_findCheapest_116 : decode cX9_findCheapest 116 = .ok (.iconst 1, 1) := by decide +kernel
theorem dX9_findCheapest_117 : decode cX9_findCheapest 117 = .ok (.goto 4, 3) := by decide +kernel
theorem dX9_findCheapest_120 : decode cX9_findCheapest 120 = .ok (.iconst 0, 1) := by decide +kernel
theorem dX9_findCheapest_121 : decode cX9_findCheapest 121 = .ok (.istore 7, 2) := by decide +kernel
theorem dX9_findCheapest_123 : decode cX9_findCheapest 123 = .ok (.iinc 8 1, 3) := by decide +kernel
theorem dX9_findCheapest_126 : decode cX9_findCheapest 126 = .ok (.goto (-74), 3) := by decide +kernel
theorem dX9_findCheapest_129 : decode cX9_findCheapest 129 = .ok (.iload 7, 2) := by decide +kernel
theorem dX9_findCheapest_131 : decode cX9_findCheapest 131 = .ok (.ifCond .eq 109, 3) := by decide +kernel
theorem dX9_findCheapest_134 : decode cX9_findCheapest 134 = .ok (.iload_n 2, 1) := by decide +kernel
theorem dX9_findCheapest_135 : decode cX9_findCheapest 135 = .ok (.iload_n 3, 1) := by decide +kernel
theorem dX9_findCheapest_136 : decode cX9_findCheapest 136 = .ok (.if_icmp .gt 104, 3) := by decide +kernel
theorem dX9_findCheapest_139 : decode cX9_findCheapest 139 = .ok (.aload_n 0, 1) := by decide +kernel
theorem dX9_findCheapest_140 : decode cX9_findCheapest 140 = .ok (.iload 5, 2) := by decide +kernel
theorem dX9_findCheapest_142 : decode cX9_findCheapest 142 = .ok (.iload_n 3, 1) := by decide +kernel
theorem dX9_findCheapest_143 : decode cX9_findCheapest 143 = .ok (.invokevirtual 208, 3) := by decide +kernel
theorem dX9_findCheapest_146 : decode cX9_findCheapest 146 = .ok (.ldc 199, 2) := by decide +kernel
theorem dX9_findCheapest_148 : decode cX9_findCheapest 148 = .ok (.istore 8, 2) := by decide +kernel
theorem dX9_findCheapest_150 : decode cX9_findCheapest 150 = .ok (.iload_n 2, 1) := by decide +kernel
theorem dX9_findCheapest_151 : decode cX9_findCheapest 151 = .ok (.istore 9, 2) := by decide +kernel
theorem dX9_findCheapest_153 : decode cX9_findCheapest 153 = .ok (.iload 9, 2) := by decide +kernel
theorem dX9_findCheapest_155 : decode cX9_findCheapest 155 = .ok (.iload_n 3, 1) := by decide +kernel
theorem dX9_findCheapest_156 : decode cX9_findCheapest 156 = .ok (.if_icmp .gt 35, 3) := by decide +kernel
theorem dX9_findCheapest_159 : decode cX9_findCheapest 159 = .ok (.aload_n 0, 1) := by decide +kernel
theorem dX9_findCheapest_160 : decode cX9_findCheapest 160 = .ok (.getfield 102, 3) := by decide +kernel
theorem dX9_findCheapest_163 : decode cX9_findCheapest 163 = .ok (.iload 9, 2) := by decide +kernel
theorem dX9_findCheapest_165 : decode cX9_findCheapest 165 = .ok (.iaload, 1) := by decide +kernel
theorem dX9_findCheapest_166 : decode cX9_findCheapest 166 = .ok (.iload 8, 2) := by decide +kernel
theorem dX9_findCheapest_168 : decode cX9_findCheapest 168 = .ok (.if_icmp .ge 13, 3) := by decide +kernel
theorem dX9_findCheapest_171 : decode cX9_findCheapest 171 = .ok (.aload_n 0, 1) := by decide +kernel
theorem dX9_findCheapest_172 : decode cX9_findCheapest 172 = .ok (.getfield 102, 3) := by decide +kernel
theorem dX9_findCheapest_175 : decode cX9_findCheapest 175 = .ok (.iload 9, 2) := by decide +kernel
theorem dX9_findCheapest_177 : decode cX9_findCheapest 177 = .ok (.iaload, 1) := by decide +kernel
theorem dX9_findCheapest_178 : decode cX9_findCheapest 178 = .ok (.goto 5, 3) := by decide +kernel
theorem dX9_findCheapest_181 : decode cX9_findCheapest 181 = .ok (.iload 8, 2) := by decide +kernel
theorem dX9_findCheapest_183 : decode cX9_findCheapest 183 = .ok (.istore 8, 2) := by decide +kernel
theorem dX9_findCheapest_185 : decode cX9_findCheapest 185 = .ok (.iinc 9 1, 3) := by decide +kernel
theorem dX9_findCheapest_188 : decode cX9_findCheapest 188 = .ok (.goto (-35), 3) := by decide +kernel
theorem dX9_findCheapest_191 : decode cX9_findCheapest 191 = .ok (.iload 6, 2) := by decide +kernel
theorem dX9_findCheapest_193 : decode cX9_findCheapest 193 = .ok (.aload_n 0, 1) := by decide +kernel
theorem dX9_findCheapest_194 : decode cX9_findCheapest 194 = .ok (.getfield 19, 3) := by decide +kernel
theorem dX9_findCheapest_197 : decode cX9_findCheapest 197 = .ok (.iload_n 1, 1) := by decide +kernel
theorem dX9_findCheapest_198 : decode cX9_findCheapest 198 = .ok (.iaload, 1) := by decide +kernel
theorem dX9_findCheapest_199 : decode cX9_findCheapest 199 = .ok (.iload 8, 2) := by decide +kernel
theorem dX9_findCheapest_201 : decode cX9_findCheapest 201 = .ok (.imul, 1) := by decide +kernel
theorem dX9_findCheapest_202 : decode cX9_findCheapest 202 = .ok (.iadd, 1) := by decide +kernel
theorem dX9_findCheapest_203 : decode cX9_findCheapest 203 = .ok (.istore 6, 2) := by decide +kernel
theorem dX9_findCheapest_205 : decode cX9_findCheapest 205 = .ok (.iload 8, 2) := by decide +kernel
theorem dX9_findCheapest_207 : decode cX9_findCheapest 207 = .ok (.ldc 199, 2) := by decide +kernel
theorem dX9_findCheapest_209 : decode cX9_findCheapest 209 = .ok (.if_icmp .ge 31, 3) := by decide +kernel
theorem dX9_findCheapest_212 : decode cX9_findCheapest 212 = .ok (.iload 4, 2) := by decide +kernel
theorem dX9_findCheapest_214 : decode cX9_findCheapest 214 = .ok (.bipush (-9), 2) := by decide +kernel
theorem dX9_findCheapest_216 : decode cX9_findCheapest 216 = .ok (.if_icmp .eq 10, 3) := by decide +kernel
theorem dX9_findCheapest_219 : decode cX9_findCheapest 219 = .ok (.iload 6, 2) := by decide +kernel
theorem dX9_findCheapest_221 : decode cX9_findCheapest 221 = .ok (.iload 4, 2) := by decide +kernel
theorem dX9_findCheapest_223 : decode cX9_findCheapest 223 = .ok (.if_icmp .ge 17, 3) := by decide +kernel
theorem dX9_findCheapest_226 : decode cX9_findCheapest 226 = .ok (.iload 6, 2) := by decide +kernel
theorem dX9_findCheapest_228 : decode cX9_findCheapest 228 = .ok (.istore 4, 2) := by decide +kernel
theorem dX9_findCheapest_230 : decode cX9_findCheapest 230 = .ok (.aload_n 0, 1) := by decide +kernel
theorem dX9_findCheapest_231 : decode cX9_findCheapest 231 = .ok (.iload 5, 2) := by decide +kernel
theorem dX9_findCheapest_233 : decode cX9_findCheapest 233 = .ok (.iload 8, 2) := by decide +kernel
theorem dX9_findCheapest_235 : decode cX9_findCheapest 235 = .ok (.iload_n 2, 1) := by decide +kernel
theorem dX9_findCheapest_236 : decode cX9_findCheapest 236 = .ok (.iload_n 3, 1) := by decide +kernel
theorem dX9_findCheapest_237 : decode cX9_findCheapest 237 = .ok (.invokevirtual 212, 3) := by decide +kernel
theorem dX9_findCheapest_240 : decode cX9_findCheapest 240 = .ok (.iinc 5 1, 3) := by decide +kernel
theorem dX9_findCheapest_243 : decode cX9_findCheapest 243 = .ok (.goto (-211), 3) := by decide +kernel
theorem dX9_findCheapest_246 : decode cX9_findCheapest 246 = .ok (.iload 4, 2) := by decide +kernel
theorem dX9_findCheapest_248 : decode cX9_findCheapest 248 = .ok (.ireturn, 1) := by decide +kernel
theorem dX9_cheapest_0 : decode cX9_cheapest 0 = .ok (.aload_n 0, 1) := by decide +kernel
theorem dX9_cheapest_1 : decode cX9_cheapest 1 = .ok (.iconst 0, 1) := by decide +kernel
theorem dX9_cheapest_2 : decode cX9_cheapest 2 = .ok (.putfield 117, 3) := by decide +kernel
theorem dX9_cheapest_5 : decode cX9_cheapest 5 = .ok (.aload_n 0, 1) := by decide +kernel
theorem dX9_cheapest_6 : decode cX9_cheapest 6 = .ok (.iload_n 1, 1) := by decide +kernel
theorem dX9_cheapest_7 : decode cX9_cheapest 7 = .ok (.invokevirtual 187, 3) := by decide +kernel
theorem dX9_cheapest_10 : decode cX9_cheapest 10 = .ok (.ifCond .eq 5, 3) := by decide +kernel
theorem dX9_cheapest_13 : decode cX9_cheapest 13 = .ok (.iconst (-1), 1) := by decide +kernel
theorem dX9_cheapest_14 : decode cX9_cheapest 14 = .ok (.ireturn, 1) := by decide +kernel
theorem dX9_cheapest_15 : decode cX9_cheapest 15 = .ok (.iload_n 2, 1) := by decide +kernel
theorem dX9_cheapest_16 : decode cX9_cheapest 16 = .ok (.i2l, 1) := by decide +kernel
theorem dX9_cheapest_17 : decode cX9_cheapest 17 = .ok (.lconst 1, 1) := by decide +kernel
theorem dX9_cheapest_18 : decode cX9_cheapest 18 = .ok (.ldc2_w 216, 3) := by decide +kernel
theorem dX9_cheapest_21 : decode cX9_cheapest 21 = .ok (.invokestatic 123, 3) := by decide +kernel
theorem dX9_cheapest_24 : decode cX9_cheapest 24 = .ok (.ifCond .eq 12, 3) := by decide +kernel
theorem dX9_cheapest_27 : decode cX9_cheapest 27 = .ok (.aload_n 0, 1) := by decide +kernel
theorem dX9_cheapest_28 : decode cX9_cheapest 28 = .ok (.iload_n 1, 1) := by decide +kernel
theorem dX9_cheapest_29 : decode cX9_cheapest 29 = .ok (.iload_n 2, 1) := by decide +kernel
theorem dX9_cheapest_30 : decode cX9_cheapest 30 = .ok (.invokevirtual 218, 3) := by decide +kernel
theorem dX9_cheapest_33 : decode cX9_cheapest 33 = .ok (.goto 5, 3) := by decide +kernel
theorem dX9_cheapest_36 : decode cX9_cheapest 36 = .ok (.bipush (-2), 2) := by decide +kernel
theorem dX9_cheapest_38 : decode cX9_cheapest 38 = .ok (.ireturn, 1) := by decide +kernel
theorem dX9_cheapestBy_0 : decode cX9_cheapestBy 0 = .ok (.aload_n 0, 1) := by decide +kernel
theorem dX9_cheapestBy_1 : decode cX9_cheapestBy 1 = .ok (.iconst 0, 1) := by decide +kernel
theorem dX9_cheapestBy_2 : decode cX9_cheapestBy 2 = .ok (.putfield 117, 3) := by decide +kernel
theorem dX9_cheapestBy_5 : decode cX9_cheapestBy 5 = .ok (.aload_n 0, 1) := by decide +kernel
theorem dX9_cheapestBy_6 : decode cX9_cheapestBy 6 = .ok (.iload_n 1, 1) := by decide +kernel
theorem dX9_cheapestBy_7 : decode cX9_cheapestBy 7 = .ok (.invokevirtual 187, 3) := by decide +kernel
theorem dX9_cheapestBy_10 : decode cX9_cheapestBy 10 = .ok (.ifCond .ne 11, 3) := by decide +kernel
theorem dX9_cheapestBy_13 : decode cX9_cheapestBy 13 = .ok (.aload_n 0, 1) := by decide +kernel
theorem dX9_cheapestBy_14 : decode cX9_cheapestBy 14 = .ok (.iload_n 3, 1) := by decide +kernel
theorem dX9_cheapestBy_15 : decode cX9_cheapestBy 15 = .ok (.invokevirtual 180, 3) := by decide +kernel
theorem dX9_cheapestBy_18 : decode cX9_cheapestBy 18 = .ok (.ifCond .eq 5, 3) := by decide +kernel
theorem dX9_cheapestBy_21 : decode cX9_cheapestBy 21 = .ok (.iconst (-1), 1) := by decide +kernel
theorem dX9_cheapestBy_22 : decode cX9_cheapestBy 22 = .ok (.ireturn, 1) := by decide +kernel
theorem dX9_cheapestBy_23 : decode cX9_cheapestBy 23 = .ok (.iload_n 2, 1) := by decide +kernel
theorem dX9_cheapestBy_24 : decode cX9_cheapestBy 24 = .ok (.i2l, 1) := by decide +kernel
theorem dX9_cheapestBy_25 : decode cX9_cheapestBy 25 = .ok (.lconst 1, 1) := by decide +kernel
theorem dX9_cheapestBy_26 : decode cX9_cheapestBy 26 = .ok (.ldc2_w 216, 3) := by decide +kernel
theorem dX9_cheapestBy_29 : decode cX9_cheapestBy 29 = .ok (.invokestatic 123, 3) := by decide +kernel
theorem dX9_cheapestBy_32 : decode cX9_cheapestBy 32 = .ok (.ifCond .ne 6, 3) := by decide +kernel
theorem dX9_cheapestBy_35 : decode cX9_cheapestBy 35 = .ok (.bipush (-2), 2) := by decide +kernel
theorem dX9_cheapestBy_37 : decode cX9_cheapestBy 37 = .ok (.ireturn, 1) := by decide +kernel
theorem dX9_cheapestBy_38 : decode cX9_cheapestBy 38 = .ok (.aload_n 0, 1) := by decide +kernel
theorem dX9_cheapestBy_39 : decode cX9_cheapestBy 39 = .ok (.iload_n 1, 1) := by decide +kernel
theorem dX9_cheapestBy_40 : decode cX9_cheapestBy 40 = .ok (.iload_n 2, 1) := by decide +kernel
theorem dX9_cheapestBy_41 : decode cX9_cheapestBy 41 = .ok (.invokevirtual 218, 3) := by decide +kernel
theorem dX9_cheapestBy_44 : decode cX9_cheapestBy 44 = .ok (.bipush (-9), 2) := by decide +kernel
theorem dX9_cheapestBy_46 : decode cX9_cheapestBy 46 = .ok (.if_icmp .ne 8, 3) := by decide +kernel
theorem dX9_cheapestBy_49 : decode cX9_cheapestBy 49 = .ok (.bipush (-9), 2) := by decide +kernel
theorem dX9_cheapestBy_51 : decode cX9_cheapestBy 51 = .ok (.goto 9, 3) := by decide +kernel
theorem dX9_cheapestBy_54 : decode cX9_cheapestBy 54 = .ok (.aload_n 0, 1) := by decide +kernel
theorem dX9_cheapestBy_55 : decode cX9_cheapestBy 55 = .ok (.getfield 105, 3) := by decide +kernel
theorem dX9_cheapestBy_58 : decode cX9_cheapestBy 58 = .ok (.iload_n 3, 1) := by decide +kernel
theorem dX9_cheapestBy_59 : decode cX9_cheapestBy 59 = .ok (.iaload, 1) := by decide +kernel
theorem dX9_cheapestBy_60 : decode cX9_cheapestBy 60 = .ok (.ireturn, 1) := by decide +kernel
theorem dX9_exchange_0 : decode cX9_exchange 0 = .ok (.aload_n 0, 1) := by decide +kernel
theorem dX9_exchange_1 : decode cX9_exchange 1 = .ok (.iconst 0, 1) := by decide +kernel
theorem dX9_exchange_2 : decode cX9_exchange 2 = .ok (.putfield 117, 3) := by decide +kernel
theorem dX9_exchange_5 : decode cX9_exchange 5 = .ok (.iload_n 1, 1) := by decide +kernel
theorem dX9_exchange_6 : decode cX9_exchange 6 = .ok (.i2l, 1) := by decide +kernel
theorem dX9_exchange_7 : decode cX9_exchange 7 = .ok (.lconst 0, 1) := by decide +kernel
theorem dX9_exchange_8 : decode cX9_exchange 8 = .ok (.ldc2_w 222, 3) := by decide +kernel
theorem dX9_exchange_11 : decode cX9_exchange 11 = .ok (.invokestatic 123, 3) := by decide +kernel
theorem dX9_exchange_14 : decode cX9_exchange 14 = .ok (.ifCond .eq 15, 3) := by decide +kernel
theorem dX9_exchange_17 : decode cX9_exchange 17 = .ok (.iload_n 2, 1) := by decide +kernel
theorem dX9_exchange_18 : decode cX9_exchange 18 = .ok (.i2l, 1) := by decide +kernel
theorem dX9_exchange_19 : decode cX9_exchange 19 = .ok (.lconst 0, 1) := by decide +kernel
theorem dX9_exchange_20 : decode cX9_exchange 20 = .ok (.ldc2_w 222, 3) := by decide +kernel
theorem dX9_exchange_23 : decode cX9_exchange 23 = .ok (.invokestatic 123, 3) := by decide +kernel
theorem dX9_exchange_26 : decode cX9_exchange 26 = .ok (.ifCond .ne 5, 3) := by decide +kernel
theorem dX9_exchange_29 : decode cX9_exchange 29 = .ok (.iconst (-1), 1) := by decide +kernel
theorem dX9_exchange_30 : decode cX9_exchange 30 = .ok (.ireturn, 1) := by decide +kernel
theorem dX9_exchange_31 : decode cX9_exchange 31 = .ok (.iload_n 1, 1) := by decide +kernel
theorem dX9_exchange_32 : decode cX9_exchange 32 = .ok (.iload_n 2, 1) := by decide +kernel
theorem dX9_exchange_33 : decode cX9_exchange 33 = .ok (.if_icmp .eq 41, 3) := by decide +kernel
theorem dX9_exchange_36 : decode cX9_exchange 36 = .ok (.iload_n 3, 1) := by decide +kernel
theorem dX9_exchange_37 : decode cX9_exchange 37 = .ok (.i2l, 1) := by decide +kernel
theorem dX9_exchange_38 : decode cX9_exchange 38 = .ok (.lconst 1, 1) := by decide +kernel
theorem dX9_exchange_39 : decode cX9_exchange 39 = .ok (.ldc2_w 138, 3) := by decide +kernel
theorem dX9_exchange_42 : decode cX9_exchange 42 = .ok (.invokestatic 123, 3) := by decide +kernel
theorem dX9_exchange_45 : decode cX9_exchange 45 = .ok (.ifCond .eq 29, 3) := by decide +kernel
theorem dX9_exchange_48 : decode cX9_exchange 48 = .ok (.iload 4, 2) := by decide +kernel
theorem dX9_exchange_50 : decode cX9_exchange 50 = .ok (.i2l, 1) := by decide +kernel
theorem dX9_exchange_51 : decode cX9_exchange 51 = .ok (.lconst 1, 1) := by decide +kernel
theorem dX9_exchange_52 : decode cX9_exchange 52 = .ok (.ldc2_w 138, 3) := by decide +kernel
theorem dX9_exchange_55 : decode cX9_exchange 55 = .ok (.invokestatic 123, 3) := by decide +kernel
theorem dX9_exchange_58 : decode cX9_exchange 58 = .ok (.ifCond .eq 16, 3) := by decide +kernel
theorem dX9_exchange_61 : decode cX9_exchange 61 = .ok (.iload 5, 2) := by decide +kernel
theorem dX9_exchange_63 : decode cX9_exchange 63 = .ok (.i2l, 1) := by decide +kernel
theorem dX9_exchange_64 : decode cX9_exchange 64 = .ok (.lconst 1, 1) := by decide +kernel
theorem dX9_exchange_65 : decode cX9_exchange 65 = .ok (.ldc2_w 191, 3) := by decide +kernel
theorem dX9_exchange_68 : decode cX9_exchange 68 = .ok (.invokestatic 123, 3) := by decide +kernel
theorem dX9_exchange_71 : decode cX9_exchange 71 = .ok (.ifCond .ne 6, 3) := by decide +kernel
theorem dX9_exchange_74 : decode cX9_exchange 74 = .ok (.bipush (-2), 2) := by decide +kernel
theorem dX9_exchange_76 : decode cX9_exchange 76 = .ok (.ireturn, 1) := by decide +kernel
theorem dX9_exchange_77 : decode cX9_exchange 77 = .ok (.aload_n 0, 1) := by decide +kernel
theorem dX9_exchange_78 : decode cX9_exchange 78 = .ok (.getfield 224, 3) := by decide +kernel
theorem dX9_exchange_81 : decode cX9_exchange 81 = .ok (.bipush 8, 2) := by decide +kernel
theorem dX9_exchange_83 : decode cX9_exchange 83 = .ok (.if_icmp .ne 6, 3) := by decide +kernel
theorem dX9_exchange_86 : decode cX9_exchange 86 = .ok (.bipush (-4), 2) := by decide +kernel
theorem dX9_exchange_88 : decode cX9_exchange 88 = .ok (.ireturn, 1) := by decide +kernel
theorem dX9_exchange_89 : decode cX9_exchange 89 = .ok (.aload_n 0, 1) := by decide +kernel
theorem dX9_exchange_90 : decode cX9_exchange 90 = .ok (.getfield 66, 3) := by decide +kernel
theorem dX9_exchange_93 : decode cX9_exchange 93 = .ok (.aload_n 0, 1) := by decide +kernel
theorem dX9_exchange_94 : decode cX9_exchange 94 = .ok (.getfield 224, 3) := by decide +kernel
theorem dX9_exchange_97 : decode cX9_exchange 97 = .ok (.iload_n 1, 1) := by decide +kernel
theorem dX9_exchange_98 : decode cX9_exchange 98 = .ok (.iastore, 1) := by decide +kernel
theorem dX9_exchange_99 : decode cX9_exchange 99 = .ok (.aload_n 0, 1) := by decide +kernel
theorem dX9_exchange_100 : decode cX9_exchange 100 = .ok (.getfield 69, 3) := by decide +kernel
theorem dX9_exchange_103 : decode cX9_exchange 103 = .ok (.aload_n 0, 1) := by decide +kernel
theorem dX9_exchange_104 : decode cX9_exchange 104 = .ok (.getfield 224, 3) := by decide +kernel
theorem dX9_exchange_107 : decode cX9_exchange 107 = .ok (.iload_n 2, 1) := by decide +kernel
theorem dX9_exchange_108 : decode cX9_exchange 108 = .ok (.iastore, 1) := by decide +kernel
theorem dX9_exchange_109 : decode cX9_exchange 109 = .ok (.aload_n 0, 1) := by decide +kernel
theorem dX9_exchange_110 : decode cX9_exchange 110 = .ok (.getfield 72, 3) := by decide +kernel
theorem dX9_exchange_113 : decode cX9_exchange 113 = .ok (.aload_n 0, 1) := by decide +kernel
theorem dX9_exchange_114 : decode cX9_exchange 114 = .ok (.getfield 224, 3) := by decide +kernel
theorem dX9_exchange_117 : decode cX9_exchange 117 = .ok (.iload_n 3, 1) := by decide +kernel
theorem dX9_exchange_118 : decode cX9_exchange 118 = .ok (.iastore, 1) := by decide +kernel
theorem dX9_exchange_119 : decode cX9_exchange 119 = .ok (.aload_n 0, 1) := by decide +kernel
theorem dX9_exchange_120 : decode cX9_exchange 120 = .ok (.getfield 75, 3) := by decide +kernel
theorem dX9_exchange_123 : decode cX9_exchange 123 = .ok (.aload_n 0, 1) := by decide +kernel
theorem dX9_exchange_124 : decode cX9_exchange 124 = .ok (.getfield 224, 3) := by decide +kernel
theorem dX9_exchange_127 : decode cX9_exchange 127 = .ok (.iload 4, 2) := by decide +kernel
theorem dX9_exchange_129 : decode cX9_exchange 129 = .ok (.iastore, 1) := by decide +kernel
theorem dX9_exchange_130 : decode cX9_exchange 130 = .ok (.aload_n 0, 1) := by decide +kernel
theorem dX9_exchange_131 : decode cX9_exchange 131 = .ok (.getfield 78, 3) := by decide +kernel
theorem dX9_exchange_134 : decode cX9_exchange 134 = .ok (.aload_n 0, 1) := by decide +kernel
theorem dX9_exchange_135 : decode cX9_exchange 135 = .ok (.getfield 224, 3) := by decide +kernel
theorem dX9_exchange_138 : decode cX9_exchange 138 = .ok (.iload 5, 2) := by decide +kernel
theorem dX9_exchange_140 : decode cX9_exchange 140 = .ok (.iastore, 1) := by decide +kernel
theorem dX9_exchange_141 : decode cX9_exchange 141 = .ok (.aload_n 0, 1) := by decide +kernel
theorem dX9_exchange_142 : decode cX9_exchange 142 = .ok (.dup, 1) := by decide +kernel
theorem dX9_exchange_143 : decode cX9_exchange 143 = .ok (.getfield 224, 3) := by decide +kernel
theorem dX9_exchange_146 : decode cX9_exchange 146 = .ok (.iconst 1, 1) := by decide +kernel
theorem dX9_exchange_147 : decode cX9_exchange 147 = .ok (.iadd, 1) := by decide +kernel
theorem dX9_exchange_148 : decode cX9_exchange 148 = .ok (.putfield 224, 3) := by decide +kernel
theorem dX9_exchange_151 : decode cX9_exchange 151 = .ok (.aload_n 0, 1) := by decide +kernel
theorem dX9_exchange_152 : decode cX9_exchange 152 = .ok (.getfield 224, 3) := by decide +kernel
theorem dX9_exchange_155 : decode cX9_exchange 155 = .ok (.ireturn, 1) := by decide +kernel
theorem dX9_unchange_0 : decode cX9_unchange 0 = .ok (.aload_n 0, 1) := by decide +kernel
theorem dX9_unchange_1 : decode cX9_unchange 1 = .ok (.iconst 0, 1) := by decide +kernel
theorem dX9_unchange_2 : decode cX9_unchange 2 = .ok (.putfield 117, 3) := by decide +kernel
theorem dX9_unchange_5 : decode cX9_unchange 5 = .ok (.aload_n 0, 1) := by decide +kernel
theorem dX9_unchange_6 : decode cX9_unchange 6 = .ok (.getfield 224, 3) := by decide +kernel
theorem dX9_unchange_9 : decode cX9_unchange 9 = .ok (.istore_n 1, 1) := by decide +kernel
theorem dX9_unchange_10 : decode cX9_unchange 10 = .ok (.aload_n 0, 1) := by decide +kernel
theorem dX9_unchange_11 : decode cX9_unchange 11 = .ok (.iconst 0, 1) := by decide +kernel
theorem dX9_unchange_12 : decode cX9_unchange 12 = .ok (.putfield 224, 3) := by decide +kernel
theorem dX9_unchange_15 : decode cX9_unchange 15 = .ok (.iload_n 1, 1) := by decide +kernel
theorem dX9_unchange_16 : decode cX9_unchange 16 = .ok (.ireturn, 1) := by decide +kernel
theorem dX9_isRing_0 : decode cX9_isRing 0 = .ok (.iconst 1, 1) := by decide +kernel
theorem dX9_isRing_1 : decode cX9_isRing 1 = .ok (.istore_n 2, 1) := by decide +kernel
theorem dX9_isRing_2 : decode cX9_isRing 2 = .ok (.iconst 0, 1) := by decide +kernel
theorem dX9_isRing_3 : decode cX9_isRing 3 = .ok (.istore_n 3, 1) := by decide +kernel
theorem dX9_isRing_4 : decode cX9_isRing 4 = .ok (.iload_n 3, 1) := by decide +kernel
theorem dX9_isRing_5 : decode cX9_isRing 5 = .ok (.iload_n 1, 1) := by decide +kernel
theorem dX9_isRing_6 : decode cX9_isRing 6 = .ok (.if_icmp .ge 99, 3) := by decide +kernel
theorem dX9_isRing_9 : decode cX9_isRing 9 = .ok (.iload_n 2, 1) := by decide +kernel
theorem dX9_isRing_10 : decode cX9_isRing 10 = .ok (.ifCond .eq 36, 3) := by decide +kernel
theorem dX9_isRing_13 : decode cX9_isRing 13 = .ok (.aload_n 0, 1) := by decide +kernel
theorem dX9_isRing_14 : decode cX9_isRing 14 = .ok (.getfield 69, 3) := by decide +kernel
theorem dX9_isRing_17 : decode cX9_isRing 17 = .ok (.aload_n 0, 1) := by decide +kernel
theorem dX9_isRing_18 : decode cX9_isRing 18 = .ok (.getfield 108, 3) := by decide +kernel
theorem dX9_isRing_21 : decode cX9_isRing 21 = .ok (.iload_n 3, 1) := by decide +kernel
theorem dX9_isRing_22 : decode cX9_isRing 22 = .ok (.iaload, 1) := by decide +kernel
theorem dX9_isRing_23 : decode cX9_isRing 23 = .ok (.iaload, 1) := by decide +kernel
theorem dX9_isRing_24 : decode cX9_isRing 24 = .ok (.aload_n 0, 1) := by decide +kernel
theorem dX9_isRing_25 : decode cX9_isRing 25 = .ok (.getfield 66, 3) := by decide +kernel
theorem dX9_isRing_28 : decode cX9_isRing 28 = .ok (.aload_n 0, 1) := by decide +kernel
theorem dX9_isRing_29 : decode cX9_isRing 29 = .ok (.getfield 108, 3) := by decide +kernel
theorem dX9_isRing_32 : decode cX9_isRing 32 = .ok (.iload_n 3, 1) := by decide +kernel
theorem dX9_isRing_33 : decode cX9_isRing 33 = .ok (.iconst 1, 1) := by decide +kernel
theorem dX9_isRing_34 : decode cX9_isRing 34 = .ok (.iadd, 1) := by decide +kernel
theorem dX9_isRing_35 : decode cX9_isRing 35 = .ok (.iload_n 1, 1) := by decide +kernel
theorem dX9_isRing_36 : decode cX9_isRing 36 = .ok (.irem, 1) := by decide +kernel
theorem dX9_isRing_37 : decode cX9_isRing 37 = .ok (.iaload, 1) := by decide +kernel
theorem dX9_isRing_38 : decode cX9_isRing 38 = .ok (.iaload, 1) := by decide +kernel
theorem dX9_isRing_39 : decode cX9_isRing 39 = .ok (.if_icmp .ne 7, 3) := by decide +kernel
theorem dX9_isRing_42 : decode cX9_isRing 42 = .ok (.iconst 1, 1) := by decide +kernel
theorem dX9_isRing_43 : decode cX9_isRing 43 = .ok (.goto 4, 3) := by decide +kernel
theorem dX9_isRing_46 : decode cX9_isRing 46 = .ok (.iconst 0, 1) := by decide +kernel
theorem dX9_isRing_47 : decode cX9_isRing 47 = .ok (.istore_n 2, 1) := by decide +kernel
theorem dX9_isRing_48 : decode cX9_isRing 48 = .ok (.iconst 0, 1) := by decide +kernel
theorem dX9_isRing_49 : decode cX9_isRing 49 = .ok (.istore 4, 2) := by decide +kernel
theorem dX9_isRing_51 : decode cX9_isRing 51 = .ok (.iload 4, 2) := by decide +kernel
theorem dX9_isRing_53 : decode cX9_isRing 53 = .ok (.iload_n 3, 1) := by decide +kernel
theorem dX9_isRing_54 : decode cX9_isRing 54 = .ok (.if_icmp .ge 45, 3) := by decide +kernel
theorem dX9_isRing_57 : decode cX9_isRing 57 = .ok (.iload_n 2, 1) := by decide +kernel
theorem dX9_isRing_58 : decode cX9_isRing 58 = .ok (.ifCond .eq 33, 3) := by decide +kernel
theorem dX9_isRing_61 : decode cX9_isRing 61 = .ok (.aload_n 0, 1) := by decide +kernel
theorem dX9_isRing_62 : decode cX9_isRing 62 = .ok (.getfield 66, 3) := by decide +kernel
theorem dX9_isRing_65 : decode cX9_isRing 65 = .ok (.aload_n 0, 1) := by decide +kernel
theorem dX9_isRing_66 : decode cX9_isRing 66 = .ok (.getfield 108, 3) := by decide +kernel
theorem dX9_isRing_69 : decode cX9_isRing 69 = .ok (.iload_n 3, 1) := by decide +kernel
theorem dX9_isRing_70 : decode cX9_isRing 70 = .ok (.iaload, 1) := by decide +kernel
theorem dX9_isRing_71 : decode cX9_isRing 71 = .ok (.iaload, 1) := by decide +kernel
theorem dX9_isRing_72 : decode cX9_isRing 72 = .ok (.aload_n 0, 1) := by decide +kernel
theorem dX9_isRing_73 : decode cX9_isRing 73 = .ok (.getfield 66, 3) := by decide +kernel
theorem dX9_isRing_76 : decode cX9_isRing 76 = .ok (.aload_n 0, 1) := by decide +kernel
theorem dX9_isRing_77 : decode cX9_isRing 77 = .ok (.getfield 108, 3) := by decide +kernel
theorem dX9_isRing_80 : decode cX9_isRing 80 = .ok (.iload 4, 2) := by decide +kernel
theorem dX9_isRing_82 : decode cX9_isRing 82 = .ok (.iaload, 1) := by decide +kernel
theorem dX9_isRing_83 : decode cX9_isRing 83 = .ok (.iaload, 1) := by decide +kernel
theorem dX9_isRing_84 : decode cX9_isRing 84 = .ok (.if_icmp .eq 7, 3) := by decide +kernel
theorem dX9_isRing_87 : decode cX9_isRing 87 = .ok (.iconst 1, 1) := by decide +kernel
theorem dX9_isRing_88 : decode cX9_isRing 88 = .ok (.goto 4, 3) := by decide +kernel
theorem dX9_isRing_91 : decode cX9_isRing 91 = .ok (.iconst 0, 1) := by decide +kernel
theorem dX9_isRing_92 : decode cX9_isRing 92 = .ok (.istore_n 2, 1) := by decide +kernel
theorem dX9_isRing_93 : decode cX9_isRing 93 = .ok (.iinc 4 1, 3) := by decide +kernel
theorem dX9_isRing_96 : decode cX9_isRing 96 = .ok (.goto (-45), 3) := by decide +kernel
theorem dX9_isRing_99 : decode cX9_isRing 99 = .ok (.iinc 3 1, 3) := by decide +kernel
theorem dX9_isRing_102 : decode cX9_isRing 102 = .ok (.goto (-98), 3) := by decide +kernel
theorem dX9_isRing_105 : decode cX9_isRing 105 = .ok (.iload_n 2, 1) := by decide +kernel
theorem dX9_isRing_106 : decode cX9_isRing 106 = .ok (.ireturn, 1) := by decide +kernel
theorem dX9_findRing_0 : decode cX9_findRing 0 = .ok (.aload_n 0, 1) := by decide +kernel
theorem dX9_findRing_1 : decode cX9_findRing 1 = .ok (.iconst 0, 1) := by decide +kernel
theorem dX9_findRing_2 : decode cX9_findRing 2 = .ok (.putfield 227, 3) := by decide +kernel
theorem dX9_findRing_5 : decode cX9_findRing 5 = .ok (.aload_n 0, 1) := by decide +kernel
theorem dX9_findRing_6 : decode cX9_findRing 6 = .ok (.lconst 0, 1) := by decide +kernel
theorem dX9_findRing_7 : decode cX9_findRing 7 = .ok (.putfield 230, 3) := by decide +kernel
theorem dX9_findRing_10 : decode cX9_findRing 10 = .ok (.aload_n 0, 1) := by decide +kernel
theorem dX9_findRing_11 : decode cX9_findRing 11 = .ok (.lconst 1, 1) := by decide +kernel
theorem dX9_findRing_12 : decode cX9_findRing 12 = .ok (.putfield 234, 3) := by decide +kernel
theorem dX9_findRing_15 : decode cX9_findRing 15 = .ok (.iconst 2, 1) := by decide +kernel
theorem dX9_findRing_16 : decode cX9_findRing 16 = .ok (.istore_n 2, 1) := by decide +kernel
theorem dX9_findRing_17 : decode cX9_findRing 17 = .ok (.iload_n 2, 1) := by decide +kernel
theorem dX9_findRing_18 : decode cX9_findRing 18 = .ok (.iconst 4, 1) := by decide +kernel
theorem dX9_findRing_19 : decode cX9_findRing 19 = .ok (.if_icmp .ge 279, 3) := by decide +kernel
theorem dX9_findRing_22 : decode cX9_findRing 22 = .ok (.iload_n 2, 1) := by decide +kernel
theorem dX9_findRing_23 : decode cX9_findRing 23 = .ok (.iconst 2, 1) := by decide +kernel
theorem dX9_findRing_24 : decode cX9_findRing 24 = .ok (.if_icmp .ne 15, 3) := by decide +kernel
theorem dX9_findRing_27 : decode cX9_findRing 27 = .ok (.aload_n 0, 1) := by decide +kernel
theorem dX9_findRing_28 : decode cX9_findRing 28 = .ok (.getfield 224, 3) := by decide +kernel
theorem dX9_findRing_31 : decode cX9_findRing 31 = .ok (.aload_n 0, 1) := by decide +kernel
theorem dX9_findRing_32 : decode cX9_findRing 32 = .ok (.getfield 224, 3) := by decide +kernel
theorem dX9_findRing_35 : decode cX9_findRing 35 = .ok (.imul, 1) := by decide +kernel
theorem dX9_findRing_36 : decode cX9_findRing 36 = .ok (.goto 17, 3) := by decide +kernel
theorem dX9_findRing_39 : decode cX9_findRing 39 = .ok (.aload_n 0, 1) := by decide +kernel
theorem dX9_findRing_40 : decode cX9_findRing 40 = .ok (.getfield 224, 3) := by decide +kernel
theorem dX9_findRing_43 : decode cX9_findRing 43 = .ok (.aload_n 0, 1) := by decide +kernel
theorem dX9_findRing_44 : decode cX9_findRing 44 = .ok (.getfield 224, 3) := by decide +kernel
theorem dX9_findRing_47 : decode cX9_findRing 47 = .ok (.imul, 1) := by decide +kernel
theorem dX9_findRing_48 : decode cX9_findRing 48 = .ok (.aload_n 0, 1) := by decide +kernel
theorem dX9_findRing_49 : decode cX9_findRing 49 = .ok (.getfield 224, 3) := by decide +kernel
theorem dX9_findRing_52 : decode cX9_findRing 52 = .ok (.imul, 1) := by decide +kernel
theorem dX9_findRing_53 : decode cX9_findRing 53 = .ok (.istore_n 3, 1) := by decide +kernel
theorem dX9_findRing_54 : decode cX9_findRing 54 = .ok (.iconst 0, 1) := by decide +kernel
theorem dX9_findRing_55 : decode cX9_findRing 55 = .ok (.istore 4, 2) := by decide +kernel
theorem dX9_findRing_57 : decode cX9_findRing 57 = .ok (.iload 4, 2) := by decide +kernel
theorem dX9_findRing_59 : decode cX9_findRing 59 = .ok (.iload_n 3, 1) := by decide +kernel
theorem dX9_findRing_60 : decode cX9_findRing 60 = .ok (.if_icmp .ge 232, 3) := by decide +kernel
theorem dX9_findRing_63 : decode cX9_findRing 63 = .ok (.iload 4, 2) := by decide +kernel
theorem dX9_findRing_65 : decode cX9_findRing 65 = .ok (.istore 5, 2) := by decide +kernel
theorem dX9_findRing_67 : decode cX9_findRing 67 = .ok (.iload_n 2, 1) := by decide +kernel
theorem dX9_findRing_68 : decode cX9_findRing 68 = .ok (.iconst 1, 1) := by decide +kernel
theorem dX9_findRing_69 : decode cX9_findRing 69 = .ok (.isub, 1) := by decide +kernel
theorem dX9_findRing_70 : decode cX9_findRing 70 = .ok (.istore 6, 2) := by decide +kernel
theorem dX9_findRing_72 : decode cX9_findRing 72 = .ok (.iload 6, 2) := by decide +kernel
theorem dX9_findRing_74 : decode cX9_findRing 74 = .ok (.ifCond .lt 32, 3) := by decide +kernel
theorem dX9_findRing_77 : decode cX9_findRing 77 = .ok (.aload_n 0, 1) := by decide +kernel
theorem dX9_findRing_78 : decode cX9_findRing 78 = .ok (.getfield 108, 3) := by decide +kernel
theorem dX9_findRing_81 : decode cX9_findRing 81 = .ok (.iload 6, 2) := by decide +kernel
theorem dX9_findRing_83 : decode cX9_findRing 83 = .ok (.iload 5, 2) := by decide +kernel
theorem dX9_findRing_85 : decode cX9_findRing 85 = .ok (.aload_n 0, 1) := by decide +kernel
theorem dX9_findRing_86 : decode cX9_findRing 86 = .ok (.getfield 224, 3) := by decide +kernel
theorem dX9_findRing_89 : decode cX9_findRing 89 = .ok (.irem, 1) := by decide +kernel
theorem dX9_findRing_90 : decode cX9_findRing 90 = .ok (.iastore, 1) := by decide +kernel
theorem dX9_findRing_91 : decode cX9_findRing 91 = .ok (.iload 5, 2) := by decide +kernel
theorem dX9_findRing_93 : decode cX9_findRing 93 = .ok (.aload_n 0, 1) := by decide +kernel
theorem dX9_findRing_94 : decode cX9_findRing 94 = .ok (.getfield 224, 3) := by decide +kernel
theorem dX9_findRing_97 : decode cX9_findRing 97 = .ok (.idiv, 1) := by decide +kernel
theorem dX9_findRing_98 : decode cX9_findRing 98 = .ok (.istore 5, 2) := by decide +kernel
theorem dX9_findRing_100 : decode cX9_findRing 100 = .ok (.iinc 6 (-1), 3) := by decide +kernel
theorem dX9_findRing_103 : decode cX9_findRing 103 = .ok (.goto (-31), 3) := by decide +kernel
theorem dX9_findRing_106 : decode cX9_findRing 106 = .ok (.aload_n 0, 1) := by decide +kernel
theorem dX9_findRing_107 : decode cX9_findRing 107 = .ok (.iload_n 2, 1) := by decide +kernel
theorem dX9_findRing_108 : decode cX9_findRing 108 = .ok (.invokevirtual 237, 3) := by decide +kernel
theorem dX9_findRing_111 : decode cX9_findRing 111 = .ok (.ifCond .eq 175, 3) := by decide +kernel
theorem dX9_findRing_114 : decode cX9_findRing 114 = .ok (.lconst 1, 1) := by decide +kernel
theorem dX9_findRing_115 : decode cX9_findRing 115 = .ok (.lstore 6, 2) := by decide +kernel
theorem dX9_findRing_117 : decode cX9_findRing 117 = .ok (.lconst 1, 1) := by decide +kernel
theorem dX9_findRing_118 : decode cX9_findRing 118 = .ok (.lstore 8, 2) := by decide +kernel
theorem dX9_findRing_120 : decode cX9_findRing 120 = .ok (.iconst 0, 1) := by decide +kernel
theorem dX9_findRing_121 : decode cX9_findRing 121 = .ok (.istore 10, 2) := by decide +kernel
theorem dX9_findRing_123 : decode cX9_findRing 123 = .ok (.iload 10, 2) := by decide +kernel
theorem dX9_findRing_125 : decode cX9_findRing 125 = .ok (.iload_n 2, 1) := by decide +kernel
theorem dX9_findRing_126 : decode cX9_findRing 126 = .ok (.if_icmp .ge 96, 3) := by decide +kernel
theorem dX9_findRing_129 : decode cX9_findRing 129 = .ok (.aload_n 0, 1) := by decide +kernel
theorem dX9_findRing_130 : decode cX9_findRing 130 = .ok (.getfield 108, 3) := by decide +kernel
theorem dX9_findRing_133 : decode cX9_findRing 133 = .ok (.iload 10, 2) := by decide +kernel
theorem dX9_findRing_135 : decode cX9_findRing 135 = .ok (.iaload, 1) := by decide +kernel
theorem dX9_findRing_136 : decode cX9_findRing 136 = .ok (.istore 11, 2) := by decide +kernel
theorem dX9_findRing_138 : decode cX9_findRing 138 = .ok (.lload 6, 2) := by decide +kernel
theorem dX9_findRing_140 : decode cX9_findRing 140 = .ok (.aload_n 0, 1) := by decide +kernel
theorem dX9_findRing_141 : decode cX9_findRing 141 = .ok (.getfield 69, 3) := by decide +kernel
theorem dX9_findRing_144 : decode cX9_findRing 144 = .ok (.iload 11, 2) := by decide +kernel
theorem dX9_findRing_146 : decode cX9_findRing 146 = .ok (.iaload, 1) := by decide +kernel
theorem dX9_findRing_147 : decode cX9_findRing 147 = .ok (.ifCond .ne 14, 3) := by decide +kernel
theorem dX9_findRing_150 : decode cX9_findRing 150 = .ok (.aload_n 0, 1) := by decide +kernel
theorem dX9_findRing_151 : decode cX9_findRing 151 = .ok (.getfield 75, 3) := by decide +kernel
theorem dX9_findRing_154 : decode cX9_findRing 154 = .ok (.iload 11, 2) := by decide +kernel
theorem dX9_findRing_156 : decode cX9_findRing 156 = .ok (.iaload, 1) := by decide +kernel
theorem dX9_findRing_157 : decode cX9_findRing 157 = .ok (.i2l, 1) := by decide +kernel
theorem dX9_findRing_158 : decode cX9_findRing 158 = .ok (.goto 13, 3) := by decide +kernel
theorem dX9_findRing_161 : decode cX9_findRing 161 = .ok (.aload_n 0, 1) := by decide +kernel
theorem dX9_findRing_162 : decode cX9_findRing 162 = .ok (.getfield 75, 3) := by decide +kernel
theorem dX9_findRing_165 : decode cX9_findRing 165 = .ok (.iload 11, 2) := by decide +kernel
theorem dX9_findRing_167 : decode cX9_findRing 167 = .ok (.iaload, 1) := by decide +kernel
theorem dX9_findRing_168 : decode cX9_findRing 168 = .ok (.iload_n 1, 1) := by decide +kernel
theorem dX9_findRing_169 : decode cX9_findRing 169 = .ok (.imul, 1) := by decide +kernel
theorem dX9_findRing_170 : decode cX9_findRing 170 = .ok (.i2l, 1) := by decide +kernel
theorem dX9_findRing_171 : decode cX9_findRing 171 = .ok (.lmul, 1) := by decide +kernel
theorem dX9_findRing_172 : decode cX9_findRing 172 = .ok (.lstore 6, 2) := by decide +kernel
theorem dX9_findRing_174 : decode cX9_findRing 174 = .ok (.lload 8, 2) := by decide +kernel
theorem dX9_findRing_176 : decode cX9_findRing 176 = .ok (.aload_n 0, 1) := by decide +kernel
theorem dX9_findRing_177 : decode cX9_findRing 177 = .ok (.getfield 66, 3) := by decide +kernel
theorem dX9_findRing_180 : decode cX9_findRing 180 = .ok (.iload 11, 2) := by decide +kernel
theorem dX9_findRing_182 : decode cX9_findRing 182 = .ok (.iaload, 1) := by decide +kernel
theorem dX9_findRing_183 : decode cX9_findRing 183 = .ok (.ifCond .ne 14, 3) := by decide +kernel
theorem dX9_findRing_186 : decode cX9_findRing 186 = .ok (.aload_n 0, 1) := by decide +kernel
theorem dX9_findRing_187 : decode cX9_findRing 187 = .ok (.getfield 72, 3) := by decide +kernel
theorem dX9_findRing_190 : decode cX9_findRing 190 = .ok (.iload 11, 2) := by decide +kernel
theorem dX9_findRing_192 : decode cX9_findRing 192 = .ok (.iaload, 1) := by decide +kernel
theorem dX9_findRing_193 : decode cX9_findRing 193 = .ok (.i2l, 1) := by decide +kernel
theorem dX9_findRing_194 : decode cX9_findRing 194 = .ok (.goto 19, 3) := by decide +kernel
theorem dX9_findRing_197 : decode cX9_findRing 197 = .ok (.aload_n 0, 1) := by decide +kernel
theorem dX9_findRing_198 : decode cX9_findRing 198 = .ok (.getfield 72, 3) := by decide +kernel
theorem dX9_findRing_201 : decode cX9_findRing 201 = .ok (.iload 11, 2) := by decide +kernel
theorem dX9_findRing_203 : decode cX9_findRing 203 = .ok (.iaload, 1) := by decide +kernel
theorem dX9_findRing_204 : decode cX9_findRing 204 = .ok (.aload_n 0, 1) := by decide +kernel
theorem dX9_findRing_205 : decode cX9_findRing 205 = .ok (.getfield 78, 3) := by decide +kernel
theorem dX9_findRing_208 : decode cX9_findRing 208 = .ok (.iload 11, 2) := by decide +kernel
theorem dX9_findRing_210 : decode cX9_findRing 210 = .ok (.iaload, 1) := by decide +kernel
theorem dX9_findRing_211 : decode cX9_findRing 211 = .ok (.imul, 1) := by decide +kernel
theorem dX9_findRing_212 : decode cX9_findRing 212 = .ok (.i2l, 1) := by decide +kernel
theorem dX9_findRing_213 : decode cX9_findRing 213 = .ok (.lmul, 1) := by decide +kernel
theorem dX9_findRing_214 : decode cX9_findRing 214 = .ok (.lstore 8, 2) := by decide +kernel
theorem dX9_findRing_216 : decode cX9_findRing 216 = .ok (.iinc 10 1, 3) := by decide +kernel
theorem dX9_findRing_219 : decode cX9_findRing 219 = .ok (.goto (-96), 3) := by decide +kernel
theorem dX9_findRing_222 : decode cX9_findRing 222 = .ok (.lload 6, 2) := by decide +kernel
theorem dX9_findRing_224 : decode cX9_findRing 224 = .ok (.aload_n 0, 1) := by decide +kernel
theorem dX9_findRing_225 : decode cX9_findRing 225 = .ok (.getfield 234, 3) := by decide +kernel
theorem dX9_findRing_228 : decode cX9_findRing 228 = .ok (.lmul, 1) := by decide +kernel
theorem dX9_findRing_229 : decode cX9_findRing 229 = .ok (.aload_n 0, 1) := by decide +kernel
theorem dX9_findRing_230 : decode cX9_findRing 230 = .ok (.getfield 230, 3) := by decide +kernel
theorem dX9_findRing_233 : decode cX9_findRing 233 = .ok (.lload 8, 2) := by decide +kernel
theorem dX9_findRing_235 : decode cX9_findRing 235 = .ok (.lmul, 1) := by decide +kernel
theorem dX9_findRing_236 : decode cX9_findRing 236 = .ok (.lcmp, 1) := by decide +kernel
theorem dX9_findRing_237 : decode cX9_findRing 237 = .ok (.ifCond .le 49, 3) := by decide +kernel
theorem dX9_findRing_240 : decode cX9_findRing 240 = .ok (.aload_n 0, 1) := by decide +kernel
theorem dX9_findRing_241 : decode cX9_findRing 241 = .ok (.lload 6, 2) := by decide +kernel
theorem dX9_findRing_243 : decode cX9_findRing 243 = .ok (.putfield 230, 3) := by decide +kernel
theorem dX9_findRing_246 : decode cX9_findRing 246 = .ok (.aload_n 0, 1) := by decide +kernel
theorem dX9_findRing_247 : decode cX9_findRing 247 = .ok (.lload 8, 2) := by decide +kernel
theorem dX9_findRing_249 : decode cX9_findRing 249 = .ok (.putfield 234, 3) := by decide +kernel
theorem dX9_findRing_252 : decode cX9_findRing 252 = .ok (.aload_n 0, 1) := by decide +kernel
theorem dX9_findRing_253 : decode cX9_findRing 253 = .ok (.iload_n 2, 1) := by decide +kernel
theorem dX9_findRing_254 : decode cX9_findRing 254 = .ok (.putfield 227, 3) := by decide +kernel
theorem dX9_findRing_257 : decode cX9_findRing 257 = .ok (.iconst 0, 1) := by decide +kernel
theorem dX9_findRing_258 : decode cX9_findRing 258 = .ok (.istore 10, 2) := by decide +kernel
theorem dX9_findRing_260 : decode cX9_findRing 260 = .ok (.iload 10, 2) := by decide +kernel
theorem dX9_findRing_262 : decode cX9_findRing 262 = .ok (.iload_n 2, 1) := by decide +kernel
theorem dX9_findRing_263 : decode cX9_findRing 263 = .ok (.if_icmp .ge 23, 3) := by decide +kernel
theorem dX9_findRing_266 : decode cX9_findRing 266 = .ok (.aload_n 0, 1) := by decide +kernel
theorem dX9_findRing_267 : decode cX9_findRing 267 = .ok (.getfield 111, 3) := by decide +kernel
theorem dX9_findRing_270 : decode cX9_findRing 270 = .ok (.iload 10, 2) := by decide +kernel
theorem dX9_findRing_272 : decode cX9_findRing 272 = .ok (.aload_n 0, 1) := by decide +kernel
theorem dX9_findRing_273 : decode cX9_findRing 273 = .ok (.getfield 108, 3) := by decide +kernel
theorem dX9_findRing_276 : decode cX9_findRing 276 = .ok (.iload 10, 2) := by decide +kernel
theorem dX9_findRing_278 : decode cX9_findRing 278 = .ok (.iaload, 1) := by decide +kernel
theorem dX9_findRing_279 : decode cX9_findRing 279 = .ok (.iastore, 1) := by decide +kernel
theorem dX9_findRing_280 : decode cX9_findRing 280 = .ok (.iinc 10 1, 3) := by decide +kernel
theorem dX9_findRing_283 : decode cX9_findRing 283 = .ok (.goto (-23), 3) := by decide +kernel
theorem dX9_findRing_286 : decode cX9_findRing 286 = .ok (.iinc 4 1, 3) := by decide +kernel
theorem dX9_findRing_289 : decode cX9_findRing 289 = .ok (.goto (-232), 3) := by decide +kernel
theorem dX9_findRing_292 : decode cX9_findRing 292 = .ok (.iinc 2 1, 3) := by decide +kernel
theorem dX9_findRing_295 : decode cX9_findRing 295 = .ok (.goto (-278), 3) := by decide +kernel
theorem dX9_findRing_298 : decode cX9_findRing 298 = .ok (.aload_n 0, 1) := by decide +kernel
theorem dX9_findRing_299 : decode cX9_findRing 299 = .ok (.getfield 227, 3) := by decide +kernel
theorem dX9_findRing_302 : decode cX9_findRing 302 = .ok (.ifCond .le 7, 3) := by decide +kernel
theorem dX9_findRing_305 : decode cX9_findRing 305 = .ok (.iconst 1, 1) := by decide +kernel
theorem dX9_findRing_306 : decode cX9_findRing 306 = .ok (.goto 4, 3) := by decide +kernel
theorem dX9_findRing_309 : decode cX9_findRing 309 = .ok (.iconst 0, 1) := by decide +kernel
theorem dX9_findRing_310 : decode cX9_findRing 310 = .ok (.ireturn, 1) := by decide +kernel
theorem dX9_ring_0 : decode cX9_ring 0 = .ok (.aload_n 0, 1) := by decide +kernel
theorem dX9_ring_1 : decode cX9_ring 1 = .ok (.iconst 0, 1) := by decide +kernel
theorem dX9_ring_2 : decode cX9_ring 2 = .ok (.putfield 117, 3) := by decide +kernel
theorem dX9_ring_5 : decode cX9_ring 5 = .ok (.aload_n 0, 1) := by decide +kernel
theorem dX9_ring_6 : decode cX9_ring 6 = .ok (.iload_n 1, 1) := by decide +kernel
theorem dX9_ring_7 : decode cX9_ring 7 = .ok (.invokevirtual 180, 3) := by decide +kernel
theorem dX9_ring_10 : decode cX9_ring 10 = .ok (.ifCond .eq 7, 3) := by decide +kernel
theorem dX9_ring_13 : decode cX9_ring 13 = .ok (.ldc2_w 240, 3) := by decide +kernel
theorem dX9_ring_16 : decode cX9_ring 16 = .ok (.lreturn, 1) := by decide +kernel
theorem dX9_ring_17 : decode cX9_ring 17 = .ok (.aload_n 0, 1) := by decide +kernel
theorem dX9_ring_18 : decode cX9_ring 18 = .ok (.aload_n 0, 1) := by decide +kernel
theorem dX9_ring_19 : decode cX9_ring 19 = .ok (.getfield 13, 3) := by decide +kernel
theorem dX9_ring_22 : decode cX9_ring 22 = .ok (.iload_n 1, 1) := by decide +kernel
theorem dX9_ring_23 : decode cX9_ring 23 = .ok (.iaload, 1) := by decide +kernel
theorem dX9_ring_24 : decode cX9_ring 24 = .ok (.invokevirtual 242, 3) := by decide +kernel
theorem dX9_ring_27 : decode cX9_ring 27 = .ok (.ifCond .ne 7, 3) := by decide +kernel
theorem dX9_ring_30 : decode cX9_ring 30 = .ok (.ldc2_w 245, 3) := by decide +kernel
theorem dX9_ring_33 : decode cX9_ring 33 = .ok (.lreturn, 1) := by decide +kernel
theorem dX9_ring_34 : decode cX9_ring 34 = .ok (.aload_n 0, 1) := by decide +kernel
theorem dX9_ring_35 : decode cX9_ring 35 = .ok (.getfield 230, 3) := by decide +kernel
theorem dX9_ring_38 : decode cX9_ring 38 = .ok (.aload_n 0, 1) := by decide +kernel
theorem dX9_ring_39 : decode cX9_ring 39 = .ok (.getfield 234, 3) := by decide +kernel
theorem dX9_ring_42 : decode cX9_ring 42 = .ok (.invokestatic 195, 3) := by decide +kernel
theorem dX9_ring_45 : decode cX9_ring 45 = .ok (.lstore_n 3, 1) := by decide +kernel
theorem dX9_ring_46 : decode cX9_ring 46 = .ok (.iload_n 2, 1) := by decide +kernel
theorem dX9_ring_47 : decode cX9_ring 47 = .ok (.ifCond .eq 12, 3) := by decide +kernel
theorem dX9_ring_50 : decode cX9_ring 50 = .ok (.aload_n 0, 1) := by decide +kernel
theorem dX9_ring_51 : decode cX9_ring 51 = .ok (.getfield 230, 3) := by decide +kernel
theorem dX9_ring_54 : decode cX9_ring 54 = .ok (.lload_n 3, 1) := by decide +kernel
theorem dX9_ring_55 : decode cX9_ring 55 = .ok (.ldiv, 1) := by decide +kernel
theorem dX9_ring_56 : decode cX9_ring 56 = .ok (.goto 9, 3) := by decide +kernel
theorem dX9_ring_59 : decode cX9_ring 59 = .ok (.aload_n 0, 1) := by decide +kernel
theorem dX9_ring_60 : decode cX9_ring 60 = .ok (.getfield 234, 3) := by decide +kernel
theorem dX9_ring_63 : decode cX9_ring 63 = .ok (.lload_n 3, 1) := by decide +kernel
theorem dX9_ring_64 : decode cX9_ring 64 = .ok (.ldiv, 1) := by decide +kernel
theorem dX9_ring_65 : decode cX9_ring 65 = .ok (.lreturn, 1) := by decide +kernel
theorem dX9_ringAt_0 : decode cX9_ringAt 0 = .ok (.aload_n 0, 1) := by decide +kernel
theorem dX9_ringAt_1 : decode cX9_ringAt 1 = .ok (.iconst 0, 1) := by decide +kernel
theorem dX9_ringAt_2 : decode cX9_ringAt 2 = .ok (.putfield 117, 3) := by decide +kernel
theorem dX9_ringAt_5 : decode cX9_ringAt 5 = .ok (.aload_n 0, 1) := by decide +kernel
theorem dX9_ringAt_6 : decode cX9_ringAt 6 = .ok (.iload_n 1, 1) := by decide +kernel
theorem dX9_ringAt_7 : decode cX9_ringAt 7 = .ok (.invokevirtual 180, 3) := by decide +kernel
theorem dX9_ringAt_10 : decode cX9_ringAt 10 = .ok (.ifCond .eq 5, 3) := by decide +kernel
theorem dX9_ringAt_13 : decode cX9_ringAt 13 = .ok (.iconst (-1), 1) := by decide +kernel
theorem dX9_ringAt_14 : decode cX9_ringAt 14 = .ok (.ireturn, 1) := by decide +kernel
theorem dX9_ringAt_15 : decode cX9_ringAt 15 = .ok (.aload_n 0, 1) := by decide +kernel
theorem dX9_ringAt_16 : decode cX9_ringAt 16 = .ok (.aload_n 0, 1) := by decide +kernel
theorem dX9_ringAt_17 : decode cX9_ringAt 17 = .ok (.getfield 13, 3) := by decide +kernel
theorem dX9_ringAt_20 : decode cX9_ringAt 20 = .ok (.iload_n 1, 1) := by decide +kernel
theorem dX9_ringAt_21 : decode cX9_ringAt 21 = .ok (.iaload, 1) := by decide +kernel
theorem dX9_ringAt_22 : decode cX9_ringAt 22 = .ok (.invokevirtual 242, 3) := by decide +kernel
theorem dX9_ringAt_25 : decode cX9_ringAt 25 = .ok (.ifCond .eq 28, 3) := by decide +kernel
theorem dX9_ringAt_28 : decode cX9_ringAt 28 = .ok (.iload_n 2, 1) := by decide +kernel
theorem dX9_ringAt_29 : decode cX9_ringAt 29 = .ok (.i2l, 1) := by decide +kernel
theorem dX9_ringAt_30 : decode cX9_ringAt 30 = .ok (.lconst 0, 1) := by decide +kernel
theorem dX9_ringAt_31 : decode cX9_ringAt 31 = .ok (.aload_n 0, 1) := by decide +kernel
theorem dX9_ringAt_32 : decode cX9_ringAt 32 = .ok (.getfield 227, 3) := by decide +kernel
theorem dX9_ringAt_35 : decode cX9_ringAt 35 = .ok (.iconst 1, 1) := by decide +kernel
theorem dX9_ringAt_36 : decode cX9_ringAt 36 = .ok (.isub, 1) := by decide +kernel
theorem dX9_ringAt_37 : decode cX9_ringAt 37 = .ok (.i2l, 1) := by decide +kernel
theorem dX9_ringAt_38 : decode cX9_ringAt 38 = .ok (.invokestatic 123, 3) := by decide +kernel
theorem dX9_ringAt_41 : decode cX9_ringAt 41 = .ok (.ifCond .eq 12, 3) := by decide +kernel
theorem dX9_ringAt_44 : decode cX9_ringAt 44 = .ok (.aload_n 0, 1) := by decide +kernel
theorem dX9_ringAt_45 : decode cX9_ringAt 45 = .ok (.getfield 111, 3) := by decide +kernel
theorem dX9_ringAt_48 : decode cX9_ringAt 48 = .ok (.iload_n 2, 1) := by decide +kernel
theorem dX9_ringAt_49 : decode cX9_ringAt 49 = .ok (.iaload, 1) := by decide +kernel
theorem dX9_ringAt_50 : decode cX9_ringAt 50 = .ok (.goto 5, 3) := by decide +kernel
theorem dX9_ringAt_53 : decode cX9_ringAt 53 = .ok (.bipush (-9), 2) := by decide +kernel
theorem dX9_ringAt_55 : decode cX9_ringAt 55 = .ok (.ireturn, 1) := by decide +kernel
theorem dX9_come_0 : decode cX9_come 0 = .ok (.aload_n 0, 1) := by decide +kernel
theorem dX9_come_1 : decode cX9_come 1 = .ok (.iconst 0, 1) := by decide +kernel
theorem dX9_come_2 : decode cX9_come 2 = .ok (.putfield 117, 3) := by decide +kernel
theorem dX9_come_5 : decode cX9_come 5 = .ok (.aload_n 0, 1) := by decide +kernel
theorem dX9_come_6 : decode cX9_come 6 = .ok (.iload_n 1, 1) := by decide +kernel
theorem dX9_come_7 : decode cX9_come 7 = .ok (.invokevirtual 180, 3) := by decide +kernel
theorem dX9_come_10 : decode cX9_come 10 = .ok (.ifCond .eq 5, 3) := by decide +kernel
theorem dX9_come_13 : decode cX9_come 13 = .ok (.iconst (-1), 1) := by decide +kernel
theorem dX9_come_14 : decode cX9_come 14 = .ok (.ireturn, 1) := by decide +kernel
theorem dX9_come_15 : decode cX9_come 15 = .ok (.iload_n 2, 1) := by decide +kernel
theorem dX9_come_16 : decode cX9_come 16 = .ok (.i2l, 1) := by decide +kernel
theorem dX9_come_17 : decode cX9_come 17 = .ok (.lconst 0, 1) := by decide +kernel
theorem dX9_come_18 : decode cX9_come 18 = .ok (.ldc2_w 138, 3) := by decide +kernel
theorem dX9_come_21 : decode cX9_come 21 = .ok (.invokestatic 123, 3) := by decide +kernel
theorem dX9_come_24 : decode cX9_come 24 = .ok (.ifCond .ne 6, 3) := by decide +kernel
theorem dX9_come_27 : decode cX9_come 27 = .ok (.bipush (-2), 2) := by decide +kernel
theorem dX9_come_29 : decode cX9_come 29 = .ok (.ireturn, 1) := by decide +kernel
theorem dX9_come_30 : decode cX9_come 30 = .ok (.aload_n 0, 1) := by decide +kernel
theorem dX9_come_31 : decode cX9_come 31 = .ok (.getfield 29, 3) := by decide +kernel
theorem dX9_come_34 : decode cX9_come 34 = .ok (.iload_n 1, 1) := by decide +kernel
theorem dX9_come_35 : decode cX9_come 35 = .ok (.iaload, 1) := by decide +kernel
theorem dX9_come_36 : decode cX9_come 36 = .ok (.istore_n 3, 1) := by decide +kernel
theorem dX9_come_37 : decode cX9_come 37 = .ok (.aload_n 0, 1) := by decide +kernel
theorem dX9_come_38 : decode cX9_come 38 = .ok (.getfield 29, 3) := by decide +kernel
theorem dX9_come_41 : decode cX9_come 41 = .ok (.iload_n 1, 1) := by decide +kernel
theorem dX9_come_42 : decode cX9_come 42 = .ok (.iload_n 2, 1) := by decide +kernel
theorem dX9_come_43 : decode cX9_come 43 = .ok (.iastore, 1) := by decide +kernel
theorem dX9_come_44 : decode cX9_come 44 = .ok (.iload_n 3, 1) := by decide +kernel
theorem dX9_come_45 : decode cX9_come 45 = .ok (.ireturn, 1) := by decide +kernel
theorem dX9_earnedBy_0 : decode cX9_earnedBy 0 = .ok (.iconst 0, 1) := by decide +kernel
theorem dX9_earnedBy_1 : decode cX9_earnedBy 1 = .ok (.istore 4, 2) := by decide +kernel
theorem dX9_earnedBy_3 : decode cX9_earnedBy 3 = .ok (.iconst 0, 1) := by decide +kernel
theorem dX9_earnedBy_4 : decode cX9_earnedBy 4 = .ok (.istore 5, 2) := by decide +kernel
theorem dX9_earnedBy_6 : decode cX9_earnedBy 6 = .ok (.iload 5, 2) := by decide +kernel
theorem dX9_earnedBy_8 : decode cX9_earnedBy 8 = .ok (.aload_n 0, 1) := by decide +kernel
theorem dX9_earnedBy_9 : decode cX9_earnedBy 9 = .ok (.getfield 120, 3) := by decide +kernel
theorem dX9_earnedBy_12 : decode cX9_earnedBy 12 = .ok (.if_icmp .ge 50, 3) := by decide +kernel
theorem dX9_earnedBy_15 : decode cX9_earnedBy 15 = .ok (.iload 4, 2) := by decide +kernel
theorem dX9_earnedBy_17 : decode cX9_earnedBy 17 = .ok (.iload_n 1, 1) := by decide +kernel
theorem dX9_earnedBy_18 : decode cX9_earnedBy 18 = .ok (.iload_n 2, 1) := by decide +kernel
theorem dX9_earnedBy_19 : decode cX9_earnedBy 19 = .ok (.aload_n 0, 1) := by decide +kernel
theorem dX9_earnedBy_20 : decode cX9_earnedBy 20 = .ok (.getfield 13, 3) := by decide +kernel
theorem dX9_earnedBy_23 : decode cX9_earnedBy 23 = .ok (.iload 5, 2) := by decide +kernel
theorem dX9_earnedBy_25 : decode cX9_earnedBy 25 = .ok (.iaload, 1) := by decide +kernel
theorem dX9_earnedBy_26 : decode cX9_earnedBy 26 = .ok (.imul, 1) := by decide +kernel
theorem dX9_earnedBy_27 : decode cX9_earnedBy 27 = .ok (.if_icmp .gt 25, 3) := by decide +kernel
theorem dX9_earnedBy_30 : decode cX9_earnedBy 30 = .ok (.aload_n 0, 1) := by decide +kernel
theorem dX9_earnedBy_31 : decode cX9_earnedBy 31 = .ok (.getfield 29, 3) := by decide +kernel
theorem dX9_earnedBy_34 : decode cX9_earnedBy 34 = .ok (.iload 5, 2) := by decide +kernel
theorem dX9_earnedBy_36 : decode cX9_earnedBy 36 = .ok (.iaload, 1) := by decide +kernel
theorem dX9_earnedBy_37 : decode cX9_earnedBy 37 = .ok (.iload_n 1, 1) := by decide +kernel
theorem dX9_earnedBy_38 : decode cX9_earnedBy 38 = .ok (.iload_n 3, 1) := by decide +kernel
theorem dX9_earnedBy_39 : decode cX9_earnedBy 39 = .ok (.aload_n 0, 1) := by decide +kernel
theorem dX9_earnedBy_40 : decode cX9_earnedBy 40 = .ok (.getfield 13, 3) := by decide +kernel
theorem dX9_earnedBy_43 : decode cX9_earnedBy 43 = .ok (.iload 5, 2) := by decide +kernel
theorem dX9_earnedBy_45 : decode cX9_earnedBy 45 = .ok (.iaload, 1) := by decide +kernel
theorem dX9_earnedBy_46 : decode cX9_earnedBy 46 = .ok (.imul, 1) := by decide +kernel
theorem dX9_earnedBy_47 : decode cX9_earnedBy 47 = .ok (.isub, 1) := by decide +kernel
theorem dX9_earnedBy_48 : decode cX9_earnedBy 48 = .ok (.imul, 1) := by decide +kernel
theorem dX9_earnedBy_49 : decode cX9_earnedBy 49 = .ok (.goto 4, 3) := by decide +kernel
theorem dX9_earnedBy_52 : decode cX9_earnedBy 52 = .ok (.iconst 0, 1) := by decide +kernel
theorem dX9_earnedBy_53 : decode cX9_earnedBy 53 = .ok (.iadd, 1) := by decide +kernel
theorem dX9_earnedBy_54 : decode cX9_earnedBy 54 = .ok (.istore 4, 2) := by decide +kernel
theorem dX9_earnedBy_56 : decode cX9_earnedBy 56 = .ok (.iinc 5 1, 3) := by decide +kernel
theorem dX9_earnedBy_59 : decode cX9_earnedBy 59 = .ok (.goto (-53), 3) := by decide +kernel
theorem dX9_earnedBy_62 : decode cX9_earnedBy 62 = .ok (.iload 4, 2) := by decide +kernel
theorem dX9_earnedBy_64 : decode cX9_earnedBy 64 = .ok (.ireturn, 1) := by decide +kernel
theorem dX9_earned_0 : decode cX9_earned 0 = .ok (.aload_n 0, 1) := by decide +kernel
theorem dX9_earned_1 : decode cX9_earned 1 = .ok (.iconst 0, 1) := by decide +kernel
theorem dX9_earned_2 : decode cX9_earned 2 = .ok (.putfield 117, 3) := by decide +kernel
theorem dX9_earned_5 : decode cX9_earned 5 = .ok (.iload_n 1, 1) := by decide +kernel
theorem dX9_earned_6 : decode cX9_earned 6 = .ok (.i2l, 1) := by decide +kernel
theorem dX9_earned_7 : decode cX9_earned 7 = .ok (.lconst 1, 1) := by decide +kernel
theorem dX9_earned_8 : decode cX9_earned 8 = .ok (.ldc2_w 216, 3) := by decide +kernel
theorem dX9_earned_11 : decode cX9_earned 11 = .ok (.invokestatic 123, 3) := by decide +kernel
theorem dX9_earned_14 : decode cX9_earned 14 = .ok (.ifCond .eq 27, 3) := by decide +kernel
theorem dX9_earned_17 : decode cX9_earned 17 = .ok (.iload_n 2, 1) := by decide +kernel
theorem dX9_earned_18 : decode cX9_earned 18 = .ok (.i2l, 1) := by decide +kernel
theorem dX9_earned_19 : decode cX9_earned 19 = .ok (.lconst 1, 1) := by decide +kernel
theorem dX9_earned_20 : decode cX9_earned 20 = .ok (.ldc2_w 191, 3) := by decide +kernel
theorem dX9_earned_23 : decode cX9_earned 23 = .ok (.invokestatic 123, 3) := by decide +kernel
theorem dX9_earned_26 : decode cX9_earned 26 = .ok (.ifCond .eq 15, 3) := by decide +kernel
theorem dX9_earned_29 : decode cX9_earned 29 = .ok (.iload_n 3, 1) := by decide +kernel
theorem dX9_earned_30 : decode cX9_earned 30 = .ok (.i2l, 1) := by decide +kernel
theorem dX9_earned_31 : decode cX9_earned 31 = .ok (.lconst 0, 1) := by decide +kernel
theorem dX9_earned_32 : decode cX9_earned 32 = .ok (.ldc2_w 138, 3) := by decide +kernel
theorem dX9_earned_35 : decode cX9_earned 35 = .ok (.invokestatic 123, 3) := by decide +kernel
theorem dX9_earned_38 : decode cX9_earned 38 = .ok (.ifCond .ne 6, 3) := by decide +kernel
theorem dX9_earned_41 : decode cX9_earned 41 = .ok (.bipush (-2), 2) := by decide +kernel
