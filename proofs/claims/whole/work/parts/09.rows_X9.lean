theorem dX9_init_0 : decode cX9_init 0 = .ok (.aload_n 0, 1) := by decide +kernel
theorem dX9_init_1 : decode cX9_init 1 = .ok (.invokespecial 1, 3) := by decide +kernel
theorem dX9_init_4 : decode cX9_init 4 = .ok (.aload_n 0, 1) := by decide +kernel
theorem dX9_init_5 : decode cX9_init 5 = .ok (.bipush 72, 2) := by decide +kernel
theorem dX9_init_7 : decode cX9_init 7 = .ok (.newarray .int, 2) := by decide +kernel
theorem dX9_init_9 : decode cX9_init 9 = .ok (.putfield 7, 3) := by decide +kernel
theorem dX9_init_12 : decode cX9_init 12 = .ok (.aload_n 0, 1) := by decide +kernel
theorem dX9_init_13 : decode cX9_init 13 = .ok (.bipush 6, 2) := by decide +kernel
theorem dX9_init_15 : decode cX9_init 15 = .ok (.newarray .int, 2) := by decide +kernel
theorem dX9_init_17 : decode cX9_init 17 = .ok (.putfield 13, 3) := by decide +kernel
theorem dX9_init_20 : decode cX9_init 20 = .ok (.aload_n 0, 1) := by decide +kernel
theorem dX9_init_21 : decode cX9_init 21 = .ok (.bipush 6, 2) := by decide +kernel
theorem dX9_init_23 : decode cX9_init 23 = .ok (.newarray .int, 2) := by decide +kernel
theorem dX9_init_25 : decode cX9_init 25 = .ok (.putfield 16, 3) := by decide +kernel
theorem dX9_init_28 : decode cX9_init 28 = .ok (.aload_n 0, 1) := by decide +kernel
theorem dX9_init_29 : decode cX9_init 29 = .ok (.iconst 4, 1) := by decide +kernel
theorem dX9_init_30 : decode cX9_init 30 = .ok (.newarray .int, 2) := by decide +kernel
theorem dX9_init_32 : decode cX9_init 32 = .ok (.putfield 19, 3) := by decide +kernel
theorem dX9_init_35 : decode cX9_init 35 = .ok (.aload_n 0, 1) := by decide +kernel
theorem dX9_init_36 : decode cX9_init 36 = .ok (.iconst 4, 1) := by decide +kernel
theorem dX9_init_37 : decode cX9_init 37 = .ok (.newarray .int, 2) := by decide +kernel
theorem dX9_init_39 : decode cX9_init 39 = .ok (.putfield 22, 3) := by decide +kernel
theorem dX9_init_42 : decode cX9_init 42 = .ok (.aload_n 0, 1) := by decide +kernel
theorem dX9_init_43 : decode cX9_init 43 = .ok (.bipush 24, 2) := by decide +kernel
theorem dX9_init_45 : decode cX9_init 45 = .ok (.newarray .boolean, 2) := by decide +kernel
theorem dX9_init_47 : decode cX9_init 47 = .ok (.putfield 25, 3) := by decide +kernel
theorem dX9_init_50 : decode cX9_init 50 = .ok (.aload_n 0, 1) := by decide +kernel
theorem dX9_init_51 : decode cX9_init 51 = .ok (.bipush 6, 2) := by decide +kernel
theorem dX9_init_53 : decode cX9_init 53 = .ok (.newarray .int, 2) := by decide +kernel
theorem dX9_init_55 : decode cX9_init 55 = .ok (.putfield 29, 3) := by decide +kernel
theorem dX9_init_58 : decode cX9_init 58 = .ok (.aload_n 0, 1) := by decide +kernel
theorem dX9_init_59 : decode cX9_init 59 = .ok (.bipush 6, 2) := by decide +kernel
theorem dX9_init_61 : decode cX9_init 61 = .ok (.newarray .boolean, 2) := by decide +kernel
theorem dX9_init_63 : decode cX9_init 63 = .ok (.putfield 32, 3) := by decide +kernel
theorem dX9_init_66 : decode cX9_init 66 = .ok (.aload_n 0, 1) := by decide +kernel
theorem dX9_init_67 : decode cX9_init 67 = .ok (.bipush 30, 2) := by decide +kernel
theorem dX9_init_69 : decode cX9_init 69 = .ok (.putfield 35, 3) := by decide +kernel
theorem dX9_init_72 : decode cX9_init 72 = .ok (.aload_n 0, 1) := by decide +kernel
theorem dX9_init_73 : decode cX9_init 73 = .ok (.bipush 6, 2) := by decide +kernel
theorem dX9_init_75 : decode cX9_init 75 = .ok (.newarray .int, 2) := by decide +kernel
theorem dX9_init_77 : decode cX9_init 77 = .ok (.putfield 39, 3) := by decide +kernel
theorem dX9_init_80 : decode cX9_init 80 = .ok (.aload_n 0, 1) := by decide +kernel
theorem dX9_init_81 : decode cX9_init 81 = .ok (.bipush 6, 2) := by decide +kernel
theorem dX9_init_83 : decode cX9_init 83 = .ok (.newarray .int, 2) := by decide +kernel
theorem dX9_init_85 : decode cX9_init 85 = .ok (.putfield 42, 3) := by decide +kernel
theorem dX9_init_88 : decode cX9_init 88 = .ok (.aload_n 0, 1) := by decide +kernel
theorem dX9_init_89 : decode cX9_init 89 = .ok (.iconst 4, 1) := by decide +kernel
theorem dX9_init_90 : decode cX9_init 90 = .ok (.newarray .int, 2) := by decide +kernel
theorem dX9_init_92 : decode cX9_init 92 = .ok (.putfield 45, 3) := by decide +kernel
theorem dX9_init_95 : decode cX9_init 95 = .ok (.aload_n 0, 1) := by decide +kernel
theorem dX9_init_96 : decode cX9_init 96 = .ok (.iconst 4, 1) := by decide +kernel
theorem dX9_init_97 : decode cX9_init 97 = .ok (.newarray .int, 2) := by decide +kernel
theorem dX9_init_99 : decode cX9_init 99 = .ok (.putfield 48, 3) := by decide +kernel
theorem dX9_init_102 : decode cX9_init 102 = .ok (.aload_n 0, 1) := by decide +kernel
theorem dX9_init_103 : decode cX9_init 103 = .ok (.bipush 24, 2) := by decide +kernel
theorem dX9_init_105 : decode cX9_init 105 = .ok (.newarray .boolean, 2) := by decide +kernel
theorem dX9_init_107 : decode cX9_init 107 = .ok (.putfield 51, 3) := by decide +kernel
theorem dX9_init_110 : decode cX9_init 110 = .ok (.aload_n 0, 1) := by decide +kernel
theorem dX9_init_111 : decode cX9_init 111 = .ok (.bipush 12, 2) := by decide +kernel
theorem dX9_init_113 : decode cX9_init 113 = .ok (.newarray .int, 2) := by decide +kernel
theorem dX9_init_115 : decode cX9_init 115 = .ok (.putfield 54, 3) := by decide +kernel
theorem dX9_init_118 : decode cX9_init 118 = .ok (.aload_n 0, 1) := by decide +kernel
theorem dX9_init_119 : decode cX9_init 119 = .ok (.bipush 12, 2) := by decide +kernel
theorem dX9_init_121 : decode cX9_init 121 = .ok (.newarray .int, 2) := by decide +kernel
theorem dX9_init_123 : decode cX9_init 123 = .ok (.putfield 57, 3) := by decide +kernel
theorem dX9_init_126 : decode cX9_init 126 = .ok (.aload_n 0, 1) := by decide +kernel
theorem dX9_init_127 : decode cX9_init 127 = .ok (.bipush 12, 2) := by decide +kernel
theorem dX9_init_129 : decode cX9_init 129 = .ok (.newarray .int, 2) := by decide +kernel
theorem dX9_init_131 : decode cX9_init 131 = .ok (.putfield 60, 3) := by decide +kernel
theorem dX9_init_134 : decode cX9_init 134 = .ok (.aload_n 0, 1) := by decide +kernel
theorem dX9_init_135 : decode cX9_init 135 = .ok (.bipush 12, 2) := by decide +kernel
theorem dX9_init_137 : decode cX9_init 137 = .ok (.newarray .int, 2) := by decide +kernel
theorem dX9_init_139 : decode cX9_init 139 = .ok (.putfield 63, 3) := by decide +kernel
theorem dX9_init_142 : decode cX9_init 142 = .ok (.aload_n 0, 1) := by decide +kernel
theorem dX9_init_143 : decode cX9_init 143 = .ok (.bipush 8, 2) := by decide +kernel
theorem dX9_init_145 : decode cX9_init 145 = .ok (.newarray .int, 2) := by decide +kernel
theorem dX9_init_147 : decode cX9_init 147 = .ok (.putfield 66, 3) := by decide +kernel
theorem dX9_init_150 : decode cX9_init 150 = .ok (.aload_n 0, 1) := by decide +kernel
theorem dX9_init_151 : decode cX9_init 151 = .ok (.bipush 8, 2) := by decide +kernel
theorem dX9_init_153 : decode cX9_init 153 = .ok (.newarray .int, 2) := by decide +kernel
theorem dX9_init_155 : decode cX9_init 155 = .ok (.putfield 69, 3) := by decide +kernel
theorem dX9_init_158 : decode cX9_init 158 = .ok (.aload_n 0, 1) := by decide +kernel
theorem dX9_init_159 : decode cX9_init 159 = .ok (.bipush 8, 2) := by decide +kernel
theorem dX9_init_161 : decode cX9_init 161 = .ok (.newarray .int, 2) := by decide +kernel
theorem dX9_init_163 : decode cX9_init 163 = .ok (.putfield 72, 3) := by decide +kernel
theorem dX9_init_166 : decode cX9_init 166 = .ok (.aload_n 0, 1) := by decide +kernel
theorem dX9_init_167 : decode cX9_init 167 = .ok (.bipush 8, 2) := by decide +kernel
theorem dX9_init_169 : decode cX9_init 169 = .ok (.newarray .int, 2) := by decide +kernel
theorem dX9_init_171 : decode cX9_init 171 = .ok (.putfield 75, 3) := by decide +kernel
theorem dX9_init_174 : decode cX9_init 174 = .ok (.aload_n 0, 1) := by decide +kernel
theorem dX9_init_175 : decode cX9_init 175 = .ok (.bipush 8, 2) := by decide +kernel
theorem dX9_init_177 : decode cX9_init 177 = .ok (.newarray .int, 2) := by decide +kernel
theorem dX9_init_179 : decode cX9_init 179 = .ok (.putfield 78, 3) := by decide +kernel
theorem dX9_init_182 : decode cX9_init 182 = .ok (.aload_n 0, 1) := by decide +kernel
theorem dX9_init_183 : decode cX9_init 183 = .ok (.bipush 8, 2) := by decide +kernel
theorem dX9_init_185 : decode cX9_init 185 = .ok (.newarray .int, 2) := by decide +kernel
theorem dX9_init_187 : decode cX9_init 187 = .ok (.putfield 81, 3) := by decide +kernel
theorem dX9_init_190 : decode cX9_init 190 = .ok (.aload_n 0, 1) := by decide +kernel
theorem dX9_init_191 : decode cX9_init 191 = .ok (.bipush 8, 2) := by decide +kernel
theorem dX9_init_193 : decode cX9_init 193 = .ok (.newarray .int, 2) := by decide +kernel
theorem dX9_init_195 : decode cX9_init 195 = .ok (.putfield 84, 3) := by decide +kernel
theorem dX9_init_198 : decode cX9_init 198 = .ok (.aload_n 0, 1) := by decide +kernel
theorem dX9_init_199 : decode cX9_init 199 = .ok (.bipush 8, 2) := by decide +kernel
theorem dX9_init_201 : decode cX9_init 201 = .ok (.newarray .int, 2) := by decide +kernel
theorem dX9_init_203 : decode cX9_init 203 = .ok (.putfield 87, 3) := by decide +kernel
theorem dX9_init_206 : decode cX9_init 206 = .ok (.aload_n 0, 1) := by decide +kernel
theorem dX9_init_207 : decode cX9_init 207 = .ok (.bipush 8, 2) := by decide +kernel
theorem dX9_init_209 : decode cX9_init 209 = .ok (.newarray .int, 2) := by decide +kernel
theorem dX9_init_211 : decode cX9_init 211 = .ok (.putfield 90, 3) := by decide +kernel
theorem dX9_init_214 : decode cX9_init 214 = .ok (.aload_n 0, 1) := by decide +kernel
theorem dX9_init_215 : decode cX9_init 215 = .ok (.bipush 8, 2) := by decide +kernel
theorem dX9_init_217 : decode cX9_init 217 = .ok (.newarray .int, 2) := by decide +kernel
theorem dX9_init_219 : decode cX9_init 219 = .ok (.putfield 93, 3) := by decide +kernel
theorem dX9_init_222 : decode cX9_init 222 = .ok (.aload_n 0, 1) := by decide +kernel
theorem dX9_init_223 : decode cX9_init 223 = .ok (.bipush 120, 2) := by decide +kernel
theorem dX9_init_225 : decode cX9_init 225 = .ok (.newarray .int, 2) := by decide +kernel
theorem dX9_init_227 : decode cX9_init 227 = .ok (.putfield 96, 3) := by decide +kernel
theorem dX9_init_230 : decode cX9_init 230 = .ok (.aload_n 0, 1) := by decide +kernel
theorem dX9_init_231 : decode cX9_init 231 = .ok (.iconst 2, 1) := by decide +kernel
theorem dX9_init_232 : decode cX9_init 232 = .ok (.newarray .boolean, 2) := by decide +kernel
theorem dX9_init_234 : decode cX9_init 234 = .ok (.putfield 99, 3) := by decide +kernel
theorem dX9_init_237 : decode cX9_init 237 = .ok (.aload_n 0, 1) := by decide +kernel
theorem dX9_init_238 : decode cX9_init 238 = .ok (.sipush 7707, 3) := by decide +kernel
theorem dX9_init_241 : decode cX9_init 241 = .ok (.newarray .int, 2) := by decide +kernel
theorem dX9_init_243 : decode cX9_init 243 = .ok (.putfield 102, 3) := by decide +kernel
theorem dX9_init_246 : decode cX9_init 246 = .ok (.aload_n 0, 1) := by decide +kernel
theorem dX9_init_247 : decode cX9_init 247 = .ok (.bipush 6, 2) := by decide +kernel
theorem dX9_init_249 : decode cX9_init 249 = .ok (.newarray .int, 2) := by decide +kernel
theorem dX9_init_251 : decode cX9_init 251 = .ok (.putfield 105, 3) := by decide +kernel
theorem dX9_init_254 : decode cX9_init 254 = .ok (.aload_n 0, 1) := by decide +kernel
theorem dX9_init_255 : decode cX9_init 255 = .ok (.bipush 6, 2) := by decide +kernel
theorem dX9_init_257 : decode cX9_init 257 = .ok (.newarray .int, 2) := by decide +kernel
theorem dX9_init_259 : decode cX9_init 259 = .ok (.putfield 108, 3) := by decide +kernel
theorem dX9_init_262 : decode cX9_init 262 = .ok (.aload_n 0, 1) := by decide +kernel
theorem dX9_init_263 : decode cX9_init 263 = .ok (.iconst 3, 1) := by decide +kernel
theorem dX9_init_264 : decode cX9_init 264 = .ok (.newarray .int, 2) := by decide +kernel
theorem dX9_init_266 : decode cX9_init 266 = .ok (.putfield 111, 3) := by decide +kernel
theorem dX9_init_269 : decode cX9_init 269 = .ok (.aload_n 0, 1) := by decide +kernel
theorem dX9_init_270 : decode cX9_init 270 = .ok (.sipush 1000, 3) := by decide +kernel
theorem dX9_init_273 : decode cX9_init 273 = .ok (.newarray .int, 2) := by decide +kernel
theorem dX9_init_275 : decode cX9_init 275 = .ok (.putfield 114, 3) := by decide +kernel
theorem dX9_init_278 : decode cX9_init 278 = .ok (.return_, 1) := by decide +kernel
theorem dX9_in_0 : decode cX9_in 0 = .ok (.lload_n 0, 1) := by decide +kernel
theorem dX9_in_1 : decode cX9_in 1 = .ok (.lload_n 2, 1) := by decide +kernel
theorem dX9_in_2 : decode cX9_in 2 = .ok (.lcmp, 1) := by decide +kernel
theorem dX9_in_3 : decode cX9_in 3 = .ok (.ifCond .lt 14, 3) := by decide +kernel
theorem dX9_in_6 : decode cX9_in 6 = .ok (.lload_n 0, 1) := by decide +kernel
theorem dX9_in_7 : decode cX9_in 7 = .ok (.lload 4, 2) := by decide +kernel
theorem dX9_in_9 : decode cX9_in 9 = .ok (.lcmp, 1) := by decide +kernel
theorem dX9_in_10 : decode cX9_in 10 = .ok (.ifCond .gt 7, 3) := by decide +kernel
theorem dX9_in_13 : decode cX9_in 13 = .ok (.iconst 1, 1) := by decide +kernel
theorem dX9_in_14 : decode cX9_in 14 = .ok (.goto 4, 3) := by decide +kernel
theorem dX9_in_17 : decode cX9_in 17 = .ok (.iconst 0, 1) := by decide +kernel
theorem dX9_in_18 : decode cX9_in 18 = .ok (.ireturn, 1) := by decide +kernel
theorem dX9_has_0 : decode cX9_has 0 = .ok (.iload_n 0, 1) := by decide +kernel
theorem dX9_has_1 : decode cX9_has 1 = .ok (.iload_n 1, 1) := by decide +kernel
theorem dX9_has_2 : decode cX9_has 2 = .ok (.ishr, 1) := by decide +kernel
theorem dX9_has_3 : decode cX9_has 3 = .ok (.iconst 1, 1) := by decide +kernel
theorem dX9_has_4 : decode cX9_has 4 = .ok (.iand, 1) := by decide +kernel
theorem dX9_has_5 : decode cX9_has 5 = .ok (.iconst 1, 1) := by decide +kernel
theorem dX9_has_6 : decode cX9_has 6 = .ok (.if_icmp .ne 7, 3) := by decide +kernel
theorem dX9_has_9 : decode cX9_has 9 = .ok (.iconst 1, 1) := by decide +kernel
theorem dX9_has_10 : decode cX9_has 10 = .ok (.goto 4, 3) := by decide +kernel
theorem dX9_has_13 : decode cX9_has 13 = .ok (.iconst 0, 1) := by decide +kernel
theorem dX9_has_14 : decode cX9_has 14 = .ok (.ireturn, 1) := by decide +kernel
theorem dX9_noOne_0 : decode cX9_noOne 0 = .ok (.iload_n 1, 1) := by decide +kernel
theorem dX9_noOne_1 : decode cX9_noOne 1 = .ok (.i2l, 1) := by decide +kernel
theorem dX9_noOne_2 : decode cX9_noOne 2 = .ok (.lconst 0, 1) := by decide +kernel
theorem dX9_noOne_3 : decode cX9_noOne 3 = .ok (.aload_n 0, 1) := by decide +kernel
theorem dX9_noOne_4 : decode cX9_noOne 4 = .ok (.getfield 120, 3) := by decide +kernel
theorem dX9_noOne_7 : decode cX9_noOne 7 = .ok (.iconst 1, 1) := by decide +kernel
theorem dX9_noOne_8 : decode cX9_noOne 8 = .ok (.isub, 1) := by decide +kernel
theorem dX9_noOne_9 : decode cX9_noOne 9 = .ok (.i2l, 1) := by decide +kernel
theorem dX9_noOne_10 : decode cX9_noOne 10 = .ok (.invokestatic 123, 3) := by decide +kernel
theorem dX9_noOne_13 : decode cX9_noOne 13 = .ok (.ifCond .ne 7, 3) := by decide +kernel
theorem dX9_noOne_16 : decode cX9_noOne 16 = .ok (.iconst 1, 1) := by decide +kernel
theorem dX9_noOne_17 : decode cX9_noOne 17 = .ok (.goto 4, 3) := by decide +kernel
theorem dX9_noOne_20 : decode cX9_noOne 20 = .ok (.iconst 0, 1) := by decide +kernel
theorem dX9_noOne_21 : decode cX9_noOne 21 = .ok (.ireturn, 1) := by decide +kernel
theorem dX9_noCounter_0 : decode cX9_noCounter 0 = .ok (.iload_n 1, 1) := by decide +kernel
theorem dX9_noCounter_1 : decode cX9_noCounter 1 = .ok (.i2l, 1) := by decide +kernel
theorem dX9_noCounter_2 : decode cX9_noCounter 2 = .ok (.lconst 0, 1) := by decide +kernel
theorem dX9_noCounter_3 : decode cX9_noCounter 3 = .ok (.aload_n 0, 1) := by decide +kernel
theorem dX9_noCounter_4 : decode cX9_noCounter 4 = .ok (.getfield 127, 3) := by decide +kernel
theorem dX9_noCounter_7 : decode cX9_noCounter 7 = .ok (.iconst 1, 1) := by decide +kernel
theorem dX9_noCounter_8 : decode cX9_noCounter 8 = .ok (.isub, 1) := by decide +kernel
theorem dX9_noCounter_9 : decode cX9_noCounter 9 = .ok (.i2l, 1) := by decide +kernel
theorem dX9_noCounter_10 : decode cX9_noCounter 10 = .ok (.invokestatic 123, 3) := by decide +kernel
theorem dX9_noCounter_13 : decode cX9_noCounter 13 = .ok (.ifCond .ne 7, 3) := by decide +kernel
theorem dX9_noCounter_16 : decode cX9_noCounter 16 = .ok (.iconst 1, 1) := by decide +kernel
theorem dX9_noCounter_17 : decode cX9_noCounter 17 = .ok (.goto 4, 3) := by decide +kernel
theorem dX9_noCounter_20 : decode cX9_noCounter 20 = .ok (.iconst 0, 1) := by decide +kernel
theorem dX9_noCounter_21 : decode cX9_noCounter 21 = .ok (.ireturn, 1) := by decide +kernel
theorem dX9_write_0 : decode cX9_write 0 = .ok (.aload_n 0, 1) := by decide +kernel
theorem dX9_write_1 : decode cX9_write 1 = .ok (.iconst 0, 1) := by decide +kernel
theorem dX9_write_2 : decode cX9_write 2 = .ok (.putfield 117, 3) := by decide +kernel
theorem dX9_write_5 : decode cX9_write 5 = .ok (.iload_n 1, 1) := by decide +kernel
theorem dX9_write_6 : decode cX9_write 6 = .ok (.i2l, 1) := by decide +kernel
theorem dX9_write_7 : decode cX9_write 7 = .ok (.lconst 1, 1) := by decide +kernel
theorem dX9_write_8 : decode cX9_write 8 = .ok (.ldc2_w 130, 3) := by decide +kernel
theorem dX9_write_11 : decode cX9_write 11 = .ok (.invokestatic 123, 3) := by decide +kernel
theorem dX9_write_14 : decode cX9_write 14 = .ok (.ifCond .ne 6, 3) := by decide +kernel
theorem dX9_write_17 : decode cX9_write 17 = .ok (.bipush (-2), 2) := by decide +kernel
theorem dX9_write_19 : decode cX9_write 19 = .ok (.ireturn, 1) := by decide +kernel
theorem dX9_write_20 : decode cX9_write 20 = .ok (.aload_n 0, 1) := by decide +kernel
theorem dX9_write_21 : decode cX9_write 21 = .ok (.getfield 132, 3) := by decide +kernel
theorem dX9_write_24 : decode cX9_write 24 = .ok (.iload_n 1, 1) := by decide +kernel
theorem dX9_write_25 : decode cX9_write 25 = .ok (.iadd, 1) := by decide +kernel
theorem dX9_write_26 : decode cX9_write 26 = .ok (.bipush 72, 2) := by decide +kernel
theorem dX9_write_28 : decode cX9_write 28 = .ok (.if_icmp .le 6, 3) := by decide +kernel
theorem dX9_write_31 : decode cX9_write 31 = .ok (.bipush (-4), 2) := by decide +kernel
theorem dX9_write_33 : decode cX9_write 33 = .ok (.ireturn, 1) := by decide +kernel
theorem dX9_write_34 : decode cX9_write 34 = .ok (.iload_n 1, 1) := by decide +kernel
theorem dX9_write_35 : decode cX9_write 35 = .ok (.iconst 1, 1) := by decide +kernel
theorem dX9_write_36 : decode cX9_write 36 = .ok (.isub, 1) := by decide +kernel
theorem dX9_write_37 : decode cX9_write 37 = .ok (.istore 4, 2) := by decide +kernel
theorem dX9_write_39 : decode cX9_write 39 = .ok (.iload 4, 2) := by decide +kernel
theorem dX9_write_41 : decode cX9_write 41 = .ok (.ifCond .lt 40, 3) := by decide +kernel
theorem dX9_write_44 : decode cX9_write 44 = .ok (.aload_n 0, 1) := by decide +kernel
theorem dX9_write_45 : decode cX9_write 45 = .ok (.getfield 7, 3) := by decide +kernel
theorem dX9_write_48 : decode cX9_write 48 = .ok (.aload_n 0, 1) := by decide +kernel
theorem dX9_write_49 : decode cX9_write 49 = .ok (.getfield 132, 3) := by decide +kernel
theorem dX9_write_52 : decode cX9_write 52 = .ok (.lload_n 2, 1) := by decide +kernel
theorem dX9_write_53 : decode cX9_write 53 = .ok (.bipush 8, 2) := by decide +kernel
theorem dX9_write_55 : decode cX9_write 55 = .ok (.iload 4, 2) := by decide +kernel
theorem dX9_write_57 : decode cX9_write 57 = .ok (.imul, 1) := by decide +kernel
theorem dX9_write_58 : decode cX9_write 58 = .ok (.lshr, 1) := by decide +kernel
theorem dX9_write_59 : decode cX9_write 59 = .ok (.l2i, 1) := by decide +kernel
theorem dX9_write_60 : decode cX9_write 60 = .ok (.sipush 255, 3) := by decide +kernel
theorem dX9_write_63 : decode cX9_write 63 = .ok (.iand, 1) := by decide +kernel
theorem dX9_write_64 : decode cX9_write 64 = .ok (.iastore, 1) := by decide +kernel
theorem dX9_write_65 : decode cX9_write 65 = .ok (.aload_n 0, 1) := by decide +kernel
theorem dX9_write_66 : decode cX9_write 66 = .ok (.dup, 1) := by decide +kernel
theorem dX9_write_67 : decode cX9_write 67 = .ok (.getfield 132, 3) := by decide +kernel
theorem dX9_write_70 : decode cX9_write 70 = .ok (.iconst 1, 1) := by decide +kernel
theorem dX9_write_71 : decode cX9_write 71 = .ok (.iadd, 1) := by decide +kernel
theorem dX9_write_72 : decode cX9_write 72 = .ok (.putfield 132, 3) := by decide +kernel
theorem dX9_write_75 : decode cX9_write 75 = .ok (.iinc 4 (-1), 3) := by decide +kernel
theorem dX9_write_78 : decode cX9_write 78 = .ok (.goto (-39), 3) := by decide +kernel
theorem dX9_write_81 : decode cX9_write 81 = .ok (.aload_n 0, 1) := by decide +kernel
theorem dX9_write_82 : decode cX9_write 82 = .ok (.getfield 132, 3) := by decide +kernel
theorem dX9_write_85 : decode cX9_write 85 = .ok (.ireturn, 1) := by decide +kernel
theorem dX9_wipe_0 : decode cX9_wipe 0 = .ok (.aload_n 0, 1) := by decide +kernel
theorem dX9_wipe_1 : decode cX9_wipe 1 = .ok (.iconst 0, 1) := by decide +kernel
theorem dX9_wipe_2 : decode cX9_wipe 2 = .ok (.putfield 117, 3) := by decide +kernel
theorem dX9_wipe_5 : decode cX9_wipe 5 = .ok (.aload_n 0, 1) := by decide +kernel
theorem dX9_wipe_6 : decode cX9_wipe 6 = .ok (.getfield 132, 3) := by decide +kernel
theorem dX9_wipe_9 : decode cX9_wipe 9 = .ok (.istore_n 1, 1) := by decide +kernel
theorem dX9_wipe_10 : decode cX9_wipe 10 = .ok (.aload_n 0, 1) := by decide +kernel
theorem dX9_wipe_11 : decode cX9_wipe 11 = .ok (.iconst 0, 1) := by decide +kernel
theorem dX9_wipe_12 : decode cX9_wipe 12 = .ok (.putfield 132, 3) := by decide +kernel
theorem dX9_wipe_15 : decode cX9_wipe 15 = .ok (.iload_n 1, 1) := by decide +kernel
theorem dX9_wipe_16 : decode cX9_wipe 16 = .ok (.ireturn, 1) := by decide +kernel
theorem dX9_figure_0 : decode cX9_figure 0 = .ok (.aload_n 0, 1) := by decide +kernel
theorem dX9_figure_1 : decode cX9_figure 1 = .ok (.getfield 135, 3) := by decide +kernel
theorem dX9_figure_4 : decode cX9_figure 4 = .ok (.aload_n 0, 1) := by decide +kernel
theorem dX9_figure_5 : decode cX9_figure 5 = .ok (.getfield 132, 3) := by decide +kernel
theorem dX9_figure_8 : decode cX9_figure 8 = .ok (.if_icmp .eq 27, 3) := by decide +kernel
theorem dX9_figure_11 : decode cX9_figure 11 = .ok (.aload_n 0, 1) := by decide +kernel
theorem dX9_figure_12 : decode cX9_figure 12 = .ok (.getfield 7, 3) := by decide +kernel
theorem dX9_figure_15 : decode cX9_figure 15 = .ok (.aload_n 0, 1) := by decide +kernel
theorem dX9_figure_16 : decode cX9_figure 16 = .ok (.getfield 135, 3) := by decide +kernel
theorem dX9_figure_19 : decode cX9_figure 19 = .ok (.iaload, 1) := by decide +kernel
theorem dX9_figure_20 : decode cX9_figure 20 = .ok (.bipush 48, 2) := by decide +kernel
theorem dX9_figure_22 : decode cX9_figure 22 = .ok (.isub, 1) := by decide +kernel
theorem dX9_figure_23 : decode cX9_figure 23 = .ok (.i2l, 1) := by decide +kernel
theorem dX9_figure_24 : decode cX9_figure 24 = .ok (.iload_n 1, 1) := by decide +kernel
theorem dX9_figure_25 : decode cX9_figure 25 = .ok (.i2l, 1) := by decide +kernel
theorem dX9_figure_26 : decode cX9_figure 26 = .ok (.ldc2_w 138, 3) := by decide +kernel
theorem dX9_figure_29 : decode cX9_figure 29 = .ok (.invokestatic 123, 3) := by decide +kernel
theorem dX9_figure_32 : decode cX9_figure 32 = .ok (.ifCond .ne 6, 3) := by decide +kernel
theorem dX9_figure_35 : decode cX9_figure 35 = .ok (.bipush (-9), 2) := by decide +kernel
theorem dX9_figure_37 : decode cX9_figure 37 = .ok (.ireturn, 1) := by decide +kernel
theorem dX9_figure_38 : decode cX9_figure 38 = .ok (.aload_n 0, 1) := by decide +kernel
theorem dX9_figure_39 : decode cX9_figure 39 = .ok (.dup, 1) := by decide +kernel
theorem dX9_figure_40 : decode cX9_figure 40 = .ok (.getfield 135, 3) := by decide +kernel
theorem dX9_figure_43 : decode cX9_figure 43 = .ok (.iconst 1, 1) := by decide +kernel
theorem dX9_figure_44 : decode cX9_figure 44 = .ok (.iadd, 1) := by decide +kernel
theorem dX9_figure_45 : decode cX9_figure 45 = .ok (.putfield 135, 3) := by decide +kernel
theorem dX9_figure_48 : decode cX9_figure 48 = .ok (.aload_n 0, 1) := by decide +kernel
theorem dX9_figure_49 : decode cX9_figure 49 = .ok (.getfield 7, 3) := by decide +kernel
theorem dX9_figure_52 : decode cX9_figure 52 = .ok (.aload_n 0, 1) := by decide +kernel
theorem dX9_figure_53 : decode cX9_figure 53 = .ok (.getfield 135, 3) := by decide +kernel
theorem dX9_figure_56 : decode cX9_figure 56 = .ok (.iconst 1, 1) := by decide +kernel
theorem dX9_figure_57 : decode cX9_figure 57 = .ok (.isub, 1) := by decide +kernel
theorem dX9_figure_58 : decode cX9_figure 58 = .ok (.iaload, 1) := by decide +kernel
theorem dX9_figure_59 : decode cX9_figure 59 = .ok (.bipush 48, 2) := by decide +kernel
theorem dX9_figure_61 : decode cX9_figure 61 = .ok (.isub, 1) := by decide +kernel
theorem dX9_figure_62 : decode cX9_figure 62 = .ok (.ireturn, 1) := by decide +kernel
theorem dX9_two_0 : decode cX9_two 0 = .ok (.aload_n 0, 1) := by decide +kernel
theorem dX9_two_1 : decode cX9_two 1 = .ok (.iconst 0, 1) := by decide +kernel
theorem dX9_two_2 : decode cX9_two 2 = .ok (.invokevirtual 140, 3) := by decide +kernel
theorem dX9_two_5 : decode cX9_two 5 = .ok (.istore_n 2, 1) := by decide +kernel
theorem dX9_two_6 : decode cX9_two 6 = .ok (.iload_n 2, 1) := by decide +kernel
theorem dX9_two_7 : decode cX9_two 7 = .ok (.bipush (-9), 2) := by decide +kernel
theorem dX9_two_9 : decode cX9_two 9 = .ok (.if_icmp .ne 8, 3) := by decide +kernel
theorem dX9_two_12 : decode cX9_two 12 = .ok (.bipush (-9), 2) := by decide +kernel
theorem dX9_two_14 : decode cX9_two 14 = .ok (.goto 16, 3) := by decide +kernel
theorem dX9_two_17 : decode cX9_two 17 = .ok (.aload_n 0, 1) := by decide +kernel
theorem dX9_two_18 : decode cX9_two 18 = .ok (.iload_n 2, 1) := by decide +kernel
theorem dX9_two_19 : decode cX9_two 19 = .ok (.ifCond .ne 7, 3) := by decide +kernel
theorem dX9_two_22 : decode cX9_two 22 = .ok (.iload_n 1, 1) := by decide +kernel
theorem dX9_two_23 : decode cX9_two 23 = .ok (.goto 4, 3) := by decide +kernel
theorem dX9_two_26 : decode cX9_two 26 = .ok (.iconst 0, 1) := by decide +kernel
theorem dX9_two_27 : decode cX9_two 27 = .ok (.invokevirtual 140, 3) := by decide +kernel
theorem dX9_two_30 : decode cX9_two 30 = .ok (.istore_n 3, 1) := by decide +kernel
theorem dX9_two_31 : decode cX9_two 31 = .ok (.iload_n 3, 1) := by decide +kernel
theorem dX9_two_32 : decode cX9_two 32 = .ok (.bipush (-9), 2) := by decide +kernel
theorem dX9_two_34 : decode cX9_two 34 = .ok (.if_icmp .ne 8, 3) := by decide +kernel
theorem dX9_two_37 : decode cX9_two 37 = .ok (.bipush (-9), 2) := by decide +kernel
theorem dX9_two_39 : decode cX9_two 39 = .ok (.goto 9, 3) := by decide +kernel
theorem dX9_two_42 : decode cX9_two 42 = .ok (.bipush 10, 2) := by decide +kernel
theorem dX9_two_44 : decode cX9_two 44 = .ok (.iload_n 2, 1) := by decide +kernel
theorem dX9_two_45 : decode cX9_two 45 = .ok (.imul, 1) := by decide +kernel
theorem dX9_two_46 : decode cX9_two 46 = .ok (.iload_n 3, 1) := by decide +kernel
theorem dX9_two_47 : decode cX9_two 47 = .ok (.iadd, 1) := by decide +kernel
theorem dX9_two_48 : decode cX9_two 48 = .ok (.ireturn, 1) := by decide +kernel
theorem dX9_readPerson_0 : decode cX9_readPerson 0 = .ok (.aload_n 0, 1) := by decide +kernel
theorem dX9_readPerson_1 : decode cX9_readPerson 1 = .ok (.iconst 1, 1) := by decide +kernel
theorem dX9_readPerson_2 : decode cX9_readPerson 2 = .ok (.invokevirtual 144, 3) := by decide +kernel
theorem dX9_readPerson_5 : decode cX9_readPerson 5 = .ok (.istore_n 1, 1) := by decide +kernel
theorem dX9_readPerson_6 : decode cX9_readPerson 6 = .ok (.iload_n 1, 1) := by decide +kernel
theorem dX9_readPerson_7 : decode cX9_readPerson 7 = .ok (.bipush (-9), 2) := by decide +kernel
theorem dX9_readPerson_9 : decode cX9_readPerson 9 = .ok (.if_icmp .ne 8, 3) := by decide +kernel
theorem dX9_readPerson_12 : decode cX9_readPerson 12 = .ok (.bipush (-9), 2) := by decide +kernel
theorem dX9_readPerson_14 : decode cX9_readPerson 14 = .ok (.goto 8, 3) := by decide +kernel
theorem dX9_readPerson_17 : decode cX9_readPerson 17 = .ok (.aload_n 0, 1) := by decide +kernel
theorem dX9_readPerson_18 : decode cX9_readPerson 18 = .ok (.iconst 0, 1) := by decide +kernel
theorem dX9_readPerson_19 : decode cX9_readPerson 19 = .ok (.invokevirtual 144, 3) := by decide +kernel
theorem dX9_readPerson_22 : decode cX9_readPerson 22 = .ok (.istore_n 2, 1) := by decide +kernel
theorem dX9_readPerson_23 : decode cX9_readPerson 23 = .ok (.iload_n 2, 1) := by decide +kernel
theorem dX9_readPerson_24 : decode cX9_readPerson 24 = .ok (.bipush (-9), 2) := by decide +kernel
theorem dX9_readPerson_26 : decode cX9_readPerson 26 = .ok (.if_icmp .ne 5, 3) := by decide +kernel
theorem dX9_readPerson_29 : decode cX9_readPerson 29 = .ok (.iconst 0, 1) := by decide +kernel
theorem dX9_readPerson_30 : decode cX9_readPerson 30 = .ok (.ireturn, 1) := by decide +kernel
theorem dX9_readPerson_31 : decode cX9_readPerson 31 = .ok (.aload_n 0, 1) := by decide +kernel
theorem dX9_readPerson_32 : decode cX9_readPerson 32 = .ok (.getfield 39, 3) := by decide +kernel
theorem dX9_readPerson_35 : decode cX9_readPerson 35 = .ok (.aload_n 0, 1) := by decide +kernel
theorem dX9_readPerson_36 : decode cX9_readPerson 36 = .ok (.getfield 147, 3) := by decide +kernel
theorem dX9_readPerson_39 : decode cX9_readPerson 39 = .ok (.iload_n 1, 1) := by decide +kernel
theorem dX9_readPerson_40 : decode cX9_readPerson 40 = .ok (.iastore, 1) := by decide +kernel
theorem dX9_readPerson_41 : decode cX9_readPerson 41 = .ok (.aload_n 0, 1) := by decide +kernel
theorem dX9_readPerson_42 : decode cX9_readPerson 42 = .ok (.getfield 42, 3) := by decide +kernel
theorem dX9_readPerson_45 : decode cX9_readPerson 45 = .ok (.aload_n 0, 1) := by decide +kernel
theorem dX9_readPerson_46 : decode cX9_readPerson 46 = .ok (.getfield 147, 3) := by decide +kernel
theorem dX9_readPerson_49 : decode cX9_readPerson 49 = .ok (.iload_n 2, 1) := by decide +kernel
theorem dX9_readPerson_50 : decode cX9_readPerson 50 = .ok (.iastore, 1) := by decide +kernel
theorem dX9_readPerson_51 : decode cX9_readPerson 51 = .ok (.aload_n 0, 1) := by decide +kernel
theorem dX9_readPerson_52 : decode cX9_readPerson 52 = .ok (.dup, 1) := by decide +kernel
theorem dX9_readPerson_53 : decode cX9_readPerson 53 = .ok (.getfield 147, 3) := by decide +kernel
theorem dX9_readPerson_56 : decode cX9_readPerson 56 = .ok (.iconst 1, 1) := by decide +kernel
theorem dX9_readPerson_57 : decode cX9_readPerson 57 = .ok (.iadd, 1) := by decide +kernel
theorem dX9_readPerson_58 : decode cX9_readPerson 58 = .ok (.putfield 147, 3) := by decide +kernel
theorem dX9_readPerson_61 : decode cX9_readPerson 61 = .ok (.iconst 1, 1) := by decide +kernel
theorem dX9_readPerson_62 : decode cX9_readPerson 62 = .ok (.ireturn, 1) := by decide +kernel
theorem dX9_readCounter_0 : decode cX9_readCounter 0 = .ok (.aload_n 0, 1) := by decide +kernel
theorem dX9_readCounter_1 : decode cX9_readCounter 1 = .ok (.iconst 1, 1) := by decide +kernel
theorem dX9_readCounter_2 : decode cX9_readCounter 2 = .ok (.invokevirtual 144, 3) := by decide +kernel
theorem dX9_readCounter_5 : decode cX9_readCounter 5 = .ok (.istore_n 1, 1) := by decide +kernel
theorem dX9_readCounter_6 : decode cX9_readCounter 6 = .ok (.iload_n 1, 1) := by decide +kernel
theorem dX9_readCounter_7 : decode cX9_readCounter 7 = .ok (.bipush (-9), 2) := by decide +kernel
theorem dX9_readCounter_9 : decode cX9_readCounter 9 = .ok (.if_icmp .ne 8, 3) := by decide +kernel
theorem dX9_readCounter_12 : decode cX9_readCounter 12 = .ok (.bipush (-9), 2) := by decide +kernel
theorem dX9_readCounter_14 : decode cX9_readCounter 14 = .ok (.goto 8, 3) := by decide +kernel
theorem dX9_readCounter_17 : decode cX9_readCounter 17 = .ok (.aload_n 0, 1) := by decide +kernel
theorem dX9_readCounter_18 : decode cX9_readCounter 18 = .ok (.iconst 0, 1) := by decide +kernel
theorem dX9_readCounter_19 : decode cX9_readCounter 19 = .ok (.invokevirtual 144, 3) := by decide +kernel
theorem dX9_readCounter_22 : decode cX9_readCounter 22 = .ok (.istore_n 2, 1) := by decide +kernel
theorem dX9_readCounter_23 : decode cX9_readCounter 23 = .ok (.iload_n 2, 1) := by decide +kernel
theorem dX9_readCounter_24 : decode cX9_readCounter 24 = .ok (.bipush (-9), 2) := by decide +kernel
theorem dX9_readCounter_26 : decode cX9_readCounter 26 = .ok (.if_icmp .ne 8, 3) := by decide +kernel
theorem dX9_readCounter_29 : decode cX9_readCounter 29 = .ok (.bipush (-9), 2) := by decide +kernel
theorem dX9_readCounter_31 : decode cX9_readCounter 31 = .ok (.goto 8, 3) := by decide +kernel
theorem dX9_readCounter_34 : decode cX9_readCounter 34 = .ok (.aload_n 0, 1) := by decide +kernel
theorem dX9_readCounter_35 : decode cX9_readCounter 35 = .ok (.iconst 0, 1) := by decide +kernel
theorem dX9_readCounter_36 : decode cX9_readCounter 36 = .ok (.invokevirtual 144, 3) := by decide +kernel
theorem dX9_readCounter_39 : decode cX9_readCounter 39 = .ok (.istore_n 3, 1) := by decide +kernel
theorem dX9_readCounter_40 : decode cX9_readCounter 40 = .ok (.iload_n 3, 1) := by decide +kernel
theorem dX9_readCounter_41 : decode cX9_readCounter 41 = .ok (.bipush (-9), 2) := by decide +kernel
theorem dX9_readCounter_43 : decode cX9_readCounter 43 = .ok (.if_icmp .ne 5, 3) := by decide +kernel
theorem dX9_readCounter_46 : decode cX9_readCounter 46 = .ok (.iconst 0, 1) := by decide +kernel
theorem dX9_readCounter_47 : decode cX9_readCounter 47 = .ok (.ireturn, 1) := by decide +kernel
theorem dX9_readCounter_48 : decode cX9_readCounter 48 = .ok (.aload_n 0, 1) := by decide +kernel
theorem dX9_readCounter_49 : decode cX9_readCounter 49 = .ok (.getfield 45, 3) := by decide +kernel
theorem dX9_readCounter_52 : decode cX9_readCounter 52 = .ok (.aload_n 0, 1) := by decide +kernel
theorem dX9_readCounter_53 : decode cX9_readCounter 53 = .ok (.getfield 150, 3) := by decide +kernel
theorem dX9_readCounter_56 : decode cX9_readCounter 56 = .ok (.iload_n 1, 1) := by decide +kernel
theorem dX9_readCounter_57 : decode cX9_readCounter 57 = .ok (.iastore, 1) := by decide +kernel
theorem dX9_readCounter_58 : decode cX9_readCounter 58 = .ok (.aload_n 0, 1) := by decide +kernel
theorem dX9_readCounter_59 : decode cX9_readCounter 59 = .ok (.getfield 48, 3) := by decide +kernel
theorem dX9_readCounter_62 : decode cX9_readCounter 62 = .ok (.aload_n 0, 1) := by decide +kernel
theorem dX9_readCounter_63 : decode cX9_readCounter 63 = .ok (.getfield 150, 3) := by decide +kernel
theorem dX9_readCounter_66 : decode cX9_readCounter 66 = .ok (.bipush 100, 2) := by decide +kernel
theorem dX9_readCounter_68 : decode cX9_readCounter 68 = .ok (.iload_n 2, 1) := by decide +kernel
theorem dX9_readCounter_69 : decode cX9_readCounter 69 = .ok (.imul, 1) := by decide +kernel
theorem dX9_readCounter_70 : decode cX9_readCounter 70 = .ok (.iload_n 3, 1) := by decide +kernel
theorem dX9_readCounter_71 : decode cX9_readCounter 71 = .ok (.iadd, 1) := by decide +kernel
theorem dX9_readCounter_72 : decode cX9_readCounter 72 = .ok (.iastore, 1) := by decide +kernel
theorem dX9_readCounter_73 : decode cX9_readCounter 73 = .ok (.aload_n 0, 1) := by decide +kernel
theorem dX9_readCounter_74 : decode cX9_readCounter 74 = .ok (.dup, 1) := by decide +kernel
theorem dX9_readCounter_75 : decode cX9_readCounter 75 = .ok (.getfield 150, 3) := by decide +kernel
theorem dX9_readCounter_78 : decode cX9_readCounter 78 = .ok (.iconst 1, 1) := by decide +kernel
theorem dX9_readCounter_79 : decode cX9_readCounter 79 = .ok (.iadd, 1) := by decide +kernel
theorem dX9_readCounter_80 : decode cX9_readCounter 80 = .ok (.putfield 150, 3) := by decide +kernel
theorem dX9_readCounter_83 : decode cX9_readCounter 83 = .ok (.iconst 1, 1) := by decide +kernel
theorem dX9_readCounter_84 : decode cX9_readCounter 84 = .ok (.ireturn, 1) := by decide +kernel
theorem dX9_hasLeft_0 : decode cX9_hasLeft 0 = .ok (.iconst 0, 1) := by decide +kernel
theorem dX9_hasLeft_1 : decode cX9_hasLeft 1 = .ok (.istore_n 2, 1) := by decide +kernel
theorem dX9_hasLeft_2 : decode cX9_hasLeft 2 = .ok (.iconst 0, 1) := by decide +kernel
theorem dX9_hasLeft_3 : decode cX9_hasLeft 3 = .ok (.istore_n 3, 1) := by decide +kernel
theorem dX9_hasLeft_4 : decode cX9_hasLeft 4 = .ok (.iload_n 3, 1) := by decide +kernel
theorem dX9_hasLeft_5 : decode cX9_hasLeft 5 = .ok (.aload_n 0, 1) := by decide +kernel
theorem dX9_hasLeft_6 : decode cX9_hasLeft 6 = .ok (.getfield 150, 3) := by decide +kernel
theorem dX9_hasLeft_9 : decode cX9_hasLeft 9 = .ok (.if_icmp .ge 32, 3) := by decide +kernel
theorem dX9_hasLeft_12 : decode cX9_hasLeft 12 = .ok (.iload_n 2, 1) := by decide +kernel
theorem dX9_hasLeft_13 : decode cX9_hasLeft 13 = .ok (.ifCond .ne 16, 3) := by decide +kernel
theorem dX9_hasLeft_16 : decode cX9_hasLeft 16 = .ok (.aload_n 0, 1) := by decide +kernel
theorem dX9_hasLeft_17 : decode cX9_hasLeft 17 = .ok (.getfield 51, 3) := by decide +kernel
theorem dX9_hasLeft_20 : decode cX9_hasLeft 20 = .ok (.iconst 4, 1) := by decide +kernel
theorem dX9_hasLeft_21 : decode cX9_hasLeft 21 = .ok (.iload_n 1, 1) := by decide +kernel
theorem dX9_hasLeft_22 : decode cX9_hasLeft 22 = .ok (.imul, 1) := by decide +kernel
theorem dX9_hasLeft_23 : decode cX9_hasLeft 23 = .ok (.iload_n 3, 1) := by decide +kernel
theorem dX9_hasLeft_24 : decode cX9_hasLeft 24 = .ok (.iadd, 1) := by decide +kernel
theorem dX9_hasLeft_25 : decode cX9_hasLeft 25 = .ok (.baload, 1) := by decide +kernel
theorem dX9_hasLeft_26 : decode cX9_hasLeft 26 = .ok (.ifCond .ne 7, 3) := by decide +kernel
theorem dX9_hasLeft_29 : decode cX9_hasLeft 29 = .ok (.iconst 1, 1) := by decide +kernel
theorem dX9_hasLeft_30 : decode cX9_hasLeft 30 = .ok (.goto 4, 3) := by decide +kernel
theorem dX9_hasLeft_33 : decode cX9_hasLeft 33 = .ok (.iconst 0, 1) := by decide +kernel
theorem dX9_hasLeft_34 : decode cX9_hasLeft 34 = .ok (.istore_n 2, 1) := by decide +kernel
theorem dX9_hasLeft_35 : decode cX9_hasLeft 35 = .ok (.iinc 3 1, 3) := by decide +kernel
theorem dX9_hasLeft_38 : decode cX9_hasLeft 38 = .ok (.goto (-34), 3) := by decide +kernel
theorem dX9_hasLeft_41 : decode cX9_hasLeft 41 = .ok (.iload_n 2, 1) := by decide +kernel
theorem dX9_hasLeft_42 : decode cX9_hasLeft 42 = .ok (.ireturn, 1) := by decide +kernel
theorem dX9_hasAny_0 : decode cX9_hasAny 0 = .ok (.iconst 0, 1) := by decide +kernel
theorem dX9_hasAny_1 : decode cX9_hasAny 1 = .ok (.istore_n 1, 1) := by decide +kernel
theorem dX9_hasAny_2 : decode cX9_hasAny 2 = .ok (.iconst 0, 1) := by decide +kernel
theorem dX9_hasAny_3 : decode cX9_hasAny 3 = .ok (.istore_n 2, 1) := by decide +kernel
theorem dX9_hasAny_4 : decode cX9_hasAny 4 = .ok (.iload_n 2, 1) := by decide +kernel
theorem dX9_hasAny_5 : decode cX9_hasAny 5 = .ok (.aload_n 0, 1) := by decide +kernel
theorem dX9_hasAny_6 : decode cX9_hasAny 6 = .ok (.getfield 147, 3) := by decide +kernel
theorem dX9_hasAny_9 : decode cX9_hasAny 9 = .ok (.if_icmp .ge 27, 3) := by decide +kernel
theorem dX9_hasAny_12 : decode cX9_hasAny 12 = .ok (.iload_n 1, 1) := by decide +kernel
theorem dX9_hasAny_13 : decode cX9_hasAny 13 = .ok (.ifCond .ne 11, 3) := by decide +kernel
theorem dX9_hasAny_16 : decode cX9_hasAny 16 = .ok (.aload_n 0, 1) := by decide +kernel
theorem dX9_hasAny_17 : decode cX9_hasAny 17 = .ok (.iload_n 2, 1) := by decide +kernel
theorem dX9_hasAny_18 : decode cX9_hasAny 18 = .ok (.invokevirtual 153, 3) := by decide +kernel
theorem dX9_hasAny_21 : decode cX9_hasAny 21 = .ok (.ifCond .eq 7, 3) := by decide +kernel
theorem dX9_hasAny_24 : decode cX9_hasAny 24 = .ok (.iconst 1, 1) := by decide +kernel
theorem dX9_hasAny_25 : decode cX9_hasAny 25 = .ok (.goto 4, 3) := by decide +kernel
theorem dX9_hasAny_28 : decode cX9_hasAny 28 = .ok (.iconst 0, 1) := by decide +kernel
theorem dX9_hasAny_29 : decode cX9_hasAny 29 = .ok (.istore_n 1, 1) := by decide +kernel
theorem dX9_hasAny_30 : decode cX9_hasAny 30 = .ok (.iinc 2 1, 3) := by decide +kernel
theorem dX9_hasAny_33 : decode cX9_hasAny 33 = .ok (.goto (-29), 3) := by decide +kernel
theorem dX9_hasAny_36 : decode cX9_hasAny 36 = .ok (.iload_n 1, 1) := by decide +kernel
theorem dX9_hasAny_37 : decode cX9_hasAny 37 = .ok (.ireturn, 1) := by decide +kernel
theorem dX9_readBar_0 : decode cX9_readBar 0 = .ok (.aload_n 0, 1) := by decide +kernel
theorem dX9_readBar_1 : decode cX9_readBar 1 = .ok (.getfield 135, 3) := by decide +kernel
theorem dX9_readBar_4 : decode cX9_readBar 4 = .ok (.aload_n 0, 1) := by decide +kernel
theorem dX9_readBar_5 : decode cX9_readBar 5 = .ok (.getfield 132, 3) := by decide +kernel
theorem dX9_readBar_8 : decode cX9_readBar 8 = .ok (.if_icmp .ge 18, 3) := by decide +kernel
theorem dX9_readBar_11 : decode cX9_readBar 11 = .ok (.aload_n 0, 1) := by decide +kernel
theorem dX9_readBar_12 : decode cX9_readBar 12 = .ok (.getfield 7, 3) := by decide +kernel
theorem dX9_readBar_15 : decode cX9_readBar 15 = .ok (.aload_n 0, 1) := by decide +kernel
theorem dX9_readBar_16 : decode cX9_readBar 16 = .ok (.getfield 135, 3) := by decide +kernel
theorem dX9_readBar_19 : decode cX9_readBar 19 = .ok (.iaload, 1) := by decide +kernel
theorem dX9_readBar_20 : decode cX9_readBar 20 = .ok (.bipush 48, 2) := by decide +kernel
theorem dX9_readBar_22 : decode cX9_readBar 22 = .ok (.isub, 1) := by decide +kernel
theorem dX9_readBar_23 : decode cX9_readBar 23 = .ok (.goto 5, 3) := by decide +kernel
theorem dX9_readBar_26 : decode cX9_readBar 26 = .ok (.bipush (-9), 2) := by decide +kernel
theorem dX9_readBar_28 : decode cX9_readBar 28 = .ok (.istore_n 1, 1) := by decide +kernel
theorem dX9_readBar_29 : decode cX9_readBar 29 = .ok (.iload_n 1, 1) := by decide +kernel
theorem dX9_readBar_30 : decode cX9_readBar 30 = .ok (.i2l, 1) := by decide +kernel
theorem dX9_readBar_31 : decode cX9_readBar 31 = .ok (.lconst 0, 1) := by decide +kernel
theorem dX9_readBar_32 : decode cX9_readBar 32 = .ok (.aload_n 0, 1) := by decide +kernel
theorem dX9_readBar_33 : decode cX9_readBar 33 = .ok (.getfield 147, 3) := by decide +kernel
theorem dX9_readBar_36 : decode cX9_readBar 36 = .ok (.iconst 1, 1) := by decide +kernel
theorem dX9_readBar_37 : decode cX9_readBar 37 = .ok (.isub, 1) := by decide +kernel
theorem dX9_readBar_38 : decode cX9_readBar 38 = .ok (.i2l, 1) := by decide +kernel
theorem dX9_readBar_39 : decode cX9_readBar 39 = .ok (.invokestatic 123, 3) := by decide +kernel
theorem dX9_readBar_42 : decode cX9_readBar 42 = .ok (.ifCond .eq 11, 3) := by decide +kernel
theorem dX9_readBar_45 : decode cX9_readBar 45 = .ok (.aload_n 0, 1) := by decide +kernel
theorem dX9_readBar_46 : decode cX9_readBar 46 = .ok (.iload_n 1, 1) := by decide +kernel
theorem dX9_readBar_47 : decode cX9_readBar 47 = .ok (.invokevirtual 153, 3) := by decide +kernel
theorem dX9_readBar_50 : decode cX9_readBar 50 = .ok (.ifCond .ne 5, 3) := by decide +kernel
theorem dX9_readBar_53 : decode cX9_readBar 53 = .ok (.iconst 0, 1) := by decide +kernel
theorem dX9_readBar_54 : decode cX9_readBar 54 = .ok (.ireturn, 1) := by decide +kernel
theorem dX9_readBar_55 : decode cX9_readBar 55 = .ok (.aload_n 0, 1) := by decide +kernel
theorem dX9_readBar_56 : decode cX9_readBar 56 = .ok (.dup, 1) := by decide +kernel
theorem dX9_readBar_57 : decode cX9_readBar 57 = .ok (.getfield 135, 3) := by decide +kernel
theorem dX9_readBar_60 : decode cX9_readBar 60 = .ok (.iconst 1, 1) := by decide +kernel
theorem dX9_readBar_61 : decode cX9_readBar 61 = .ok (.iadd, 1) := by decide +kernel
theorem dX9_readBar_62 : decode cX9_readBar 62 = .ok (.putfield 135, 3) := by decide +kernel
theorem dX9_readBar_65 : decode cX9_readBar 65 = .ok (.aload_n 0, 1) := by decide +kernel
theorem dX9_readBar_66 : decode cX9_readBar 66 = .ok (.getfield 135, 3) := by decide +kernel
theorem dX9_readBar_69 : decode cX9_readBar 69 = .ok (.aload_n 0, 1) := by decide +kernel
theorem dX9_readBar_70 : decode cX9_readBar 70 = .ok (.getfield 132, 3) := by decide +kernel
theorem dX9_readBar_73 : decode cX9_readBar 73 = .ok (.if_icmp .ge 18, 3) := by decide +kernel
theorem dX9_readBar_76 : decode cX9_readBar 76 = .ok (.aload_n 0, 1) := by decide +kernel
theorem dX9_readBar_77 : decode cX9_readBar 77 = .ok (.getfield 7, 3) := by decide +kernel
theorem dX9_readBar_80 : decode cX9_readBar 80 = .ok (.aload_n 0, 1) := by decide +kernel
theorem dX9_readBar_81 : decode cX9_readBar 81 = .ok (.getfield 135, 3) := by decide +kernel
theorem dX9_readBar_84 : decode cX9_readBar 84 = .ok (.iaload, 1) := by decide +kernel
theorem dX9_readBar_85 : decode cX9_readBar 85 = .ok (.bipush 48, 2) := by decide +kernel
theorem dX9_readBar_87 : decode cX9_readBar 87 = .ok (.isub, 1) := by decide +kernel
theorem dX9_readBar_88 : decode cX9_readBar 88 = .ok (.goto 5, 3) := by decide +kernel
theorem dX9_readBar_91 : decode cX9_readBar 91 = .ok (.bipush (-9), 2) := by decide +kernel
theorem dX9_readBar_93 : decode cX9_readBar 93 = .ok (.istore_n 2, 1) := by decide +kernel
theorem dX9_readBar_94 : decode cX9_readBar 94 = .ok (.iload_n 2, 1) := by decide +kernel
theorem dX9_readBar_95 : decode cX9_readBar 95 = .ok (.i2l, 1) := by decide +kernel
theorem dX9_readBar_96 : decode cX9_readBar 96 = .ok (.lconst 0, 1) := by decide +kernel
theorem dX9_readBar_97 : decode cX9_readBar 97 = .ok (.aload_n 0, 1) := by decide +kernel
theorem dX9_readBar_98 : decode cX9_readBar 98 = .ok (.getfield 150, 3) := by decide +kernel
theorem dX9_readBar_101 : decode cX9_readBar 101 = .ok (.iconst 1, 1) := by decide +kernel
theorem dX9_readBar_102 : decode cX9_readBar 102 = .ok (.isub, 1) := by decide +kernel
theorem dX9_readBar_103 : decode cX9_readBar 103 = .ok (.i2l, 1) := by decide +kernel
theorem dX9_readBar_104 : decode cX9_readBar 104 = .ok (.invokestatic 123, 3) := by decide +kernel
theorem dX9_readBar_107 : decode cX9_readBar 107 = .ok (.ifCond .eq 16, 3) := by decide +kernel
theorem dX9_readBar_110 : decode cX9_readBar 110 = .ok (.aload_n 0, 1) := by decide +kernel
theorem dX9_readBar_111 : decode cX9_readBar 111 = .ok (.getfield 51, 3) := by decide +kernel
theorem dX9_readBar_114 : decode cX9_readBar 114 = .ok (.iconst 4, 1) := by decide +kernel
theorem dX9_readBar_115 : decode cX9_readBar 115 = .ok (.iload_n 1, 1) := by decide +kernel
theorem dX9_readBar_116 : decode cX9_readBar 116 = .ok (.imul, 1) := by decide +kernel
theorem dX9_readBar_117 : decode cX9_readBar 117 = .ok (.iload_n 2, 1) := by decide +kernel
theorem dX9_readBar_118 : decode cX9_readBar 118 = .ok (.iadd, 1) := by decide +kernel
theorem dX9_readBar_119 : decode cX9_readBar 119 = .ok (.baload, 1) := by decide +kernel
theorem dX9_readBar_120 : decode cX9_readBar 120 = .ok (.ifCond .eq 5, 3) := by decide +kernel
theorem dX9_readBar_123 : decode cX9_readBar 123 = .ok (.iconst 0, 1) := by decide +kernel
theorem dX9_readBar_124 : decode cX9_readBar 124 = .ok (.ireturn, 1) := by decide +kernel
theorem dX9_readBar_125 : decode cX9_readBar 125 = .ok (.aload_n 0, 1) := by decide +kernel
theorem dX9_readBar_126 : decode cX9_readBar 126 = .ok (.dup, 1) := by decide +kernel
theorem dX9_readBar_127 : decode cX9_readBar 127 = .ok (.getfield 135, 3) := by decide +kernel
theorem dX9_readBar_130 : decode cX9_readBar 130 = .ok (.iconst 1, 1) := by decide +kernel
theorem dX9_readBar_131 : decode cX9_readBar 131 = .ok (.iadd, 1) := by decide +kernel
theorem dX9_readBar_132 : decode cX9_readBar 132 = .ok (.putfield 135, 3) := by decide +kernel
theorem dX9_readBar_135 : decode cX9_readBar 135 = .ok (.aload_n 0, 1) := by decide +kernel
theorem dX9_readBar_136 : decode cX9_readBar 136 = .ok (.getfield 51, 3) := by decide +kernel
theorem dX9_readBar_139 : decode cX9_readBar 139 = .ok (.iconst 4, 1) := by decide +kernel
theorem dX9_readBar_140 : decode cX9_readBar 140 = .ok (.iload_n 1, 1) := by decide +kernel
theorem dX9_readBar_141 : decode cX9_readBar 141 = .ok (.imul, 1) := by decide +kernel
theorem dX9_readBar_142 : decode cX9_readBar 142 = .ok (.iload_n 2, 1) := by decide +kernel
theorem dX9_readBar_143 : decode cX9_readBar 143 = .ok (.iadd, 1) := by decide +kernel
theorem dX9_readBar_144 : decode cX9_readBar 144 = .ok (.iconst 1, 1) := by decide +kernel
theorem dX9_readBar_145 : decode cX9_readBar 145 = .ok (.bastore, 1) := by decide +kernel
theorem dX9_readBar_146 : decode cX9_readBar 146 = .ok (.iconst 1, 1) := by decide +kernel
theorem dX9_readBar_147 : decode cX9_readBar 147 = .ok (.ireturn, 1) := by decide +kernel
theorem dX9_readPart_0 : decode cX9_readPart 0 = .ok (.aload_n 0, 1) := by decide +kernel
theorem dX9_readPart_1 : decode cX9_readPart 1 = .ok (.getfield 7, 3) := by decide +kernel
theorem dX9_readPart_4 : decode cX9_readPart 4 = .ok (.aload_n 0, 1) := by decide +kernel
theorem dX9_readPart_5 : decode cX9_readPart 5 = .ok (.getfield 135, 3) := by decide +kernel
theorem dX9_readPart_8 : decode cX9_readPart 8 = .ok (.iaload, 1) := by decide +kernel
theorem dX9_readPart_9 : decode cX9_readPart 9 = .ok (.istore_n 1, 1) := by decide +kernel
theorem dX9_readPart_10 : decode cX9_readPart 10 = .ok (.iload_n 1, 1) := by decide +kernel
theorem dX9_readPart_11 : decode cX9_readPart 11 = .ok (.bipush 65, 2) := by decide +kernel
theorem dX9_readPart_13 : decode cX9_readPart 13 = .ok (.if_icmp .ne 27, 3) := by decide +kernel
theorem dX9_readPart_16 : decode cX9_readPart 16 = .ok (.aload_n 0, 1) := by decide +kernel
theorem dX9_readPart_17 : decode cX9_readPart 17 = .ok (.getfield 147, 3) := by decide +kernel
theorem dX9_readPart_20 : decode cX9_readPart 20 = .ok (.bipush 6, 2) := by decide +kernel
theorem dX9_readPart_22 : decode cX9_readPart 22 = .ok (.if_icmp .ge 18, 3) := by decide +kernel
theorem dX9_readPart_25 : decode cX9_readPart 25 = .ok (.aload_n 0, 1) := by decide +kernel
theorem dX9_readPart_26 : decode cX9_readPart 26 = .ok (.dup, 1) := by decide +kernel
theorem dX9_readPart_27 : decode cX9_readPart 27 = .ok (.getfield 135, 3) := by decide +kernel
theorem dX9_readPart_30 : decode cX9_readPart 30 = .ok (.iconst 1, 1) := by decide +kernel
theorem dX9_readPart_31 : decode cX9_readPart 31 = .ok (.iadd, 1) := by decide +kernel
theorem dX9_readPart_32 : decode cX9_readPart 32 = .ok (.putfield 135, 3) := by decide +kernel
theorem dX9_readPart_35 : decode cX9_readPart 35 = .ok (.aload_n 0, 1) := by decide +kernel
theorem dX9_readPart_36 : decode cX9_readPart 36 = .ok (.invokevirtual 157, 3) := by decide +kernel
theorem dX9_readPart_39 : decode cX9_readPart 39 = .ok (.ireturn, 1) := by decide +kernel
theorem dX9_readPart_40 : decode cX9_readPart 40 = .ok (.iload_n 1, 1) := by decide +kernel
theorem dX9_readPart_41 : decode cX9_readPart 41 = .ok (.bipush 67, 2) := by decide +kernel
theorem dX9_readPart_43 : decode cX9_readPart 43 = .ok (.if_icmp .ne 26, 3) := by decide +kernel
theorem dX9_readPart_46 : decode cX9_readPart 46 = .ok (.aload_n 0, 1) := by decide +kernel
theorem dX9_readPart_47 : decode cX9_readPart 47 = .ok (.getfield 150, 3) := by decide +kernel
theorem dX9_readPart_50 : decode cX9_readPart 50 = .ok (.iconst 4, 1) := by decide +kernel
theorem dX9_readPart_51 : decode cX9_readPart 51 = .ok (.if_icmp .ge 18, 3) := by decide +kernel
theorem dX9_readPart_54 : decode cX9_readPart 54 = .ok (.aload_n 0, 1) := by decide +kernel
theorem dX9_readPart_55 : decode cX9_readPart 55 = .ok (.dup, 1) := by decide +kernel
theorem dX9_readPart_56 : decode cX9_readPart 56 = .ok (.getfield 135, 3) := by decide +kernel
theorem dX9_readPart_59 : decode cX9_readPart 59 = .ok (.iconst 1, 1) := by decide +kernel
theorem dX9_readPart_60 : decode cX9_readPart 60 = .ok (.iadd, 1) := by decide +kernel
theorem dX9_readPart_61 : decode cX9_readPart 61 = .ok (.putfield 135, 3) := by decide +kernel
theorem dX9_readPart_64 : decode cX9_readPart 64 = .ok (.aload_n 0, 1) := by decide +kernel
theorem dX9_readPart_65 : decode cX9_readPart 65 = .ok (.invokevirtual 161, 3) := by decide +kernel
theorem dX9_readPart_68 : decode cX9_readPart 68 = .ok (.ireturn, 1) := by decide +kernel
theorem dX9_readPart_69 : decode cX9_readPart 69 = .ok (.iload_n 1, 1) := by decide +kernel
theorem dX9_readPart_70 : decode cX9_readPart 70 = .ok (.bipush 78, 2) := by decide +kernel
theorem dX9_readPart_72 : decode cX9_readPart 72 = .ok (.if_icmp .ne 25, 3) := by decide +kernel
theorem dX9_readPart_75 : decode cX9_readPart 75 = .ok (.aload_n 0, 1) := by decide +kernel
theorem dX9_readPart_76 : decode cX9_readPart 76 = .ok (.invokevirtual 164, 3) := by decide +kernel
theorem dX9_readPart_79 : decode cX9_readPart 79 = .ok (.ifCond .eq 18, 3) := by decide +kernel
theorem dX9_readPart_82 : decode cX9_readPart 82 = .ok (.aload_n 0, 1) := by decide +kernel
theorem dX9_readPart_83 : decode cX9_readPart 83 = .ok (.dup, 1) := by decide +kernel
theorem dX9_readPart_84 : decode cX9_readPart 84 = .ok (.getfield 135, 3) := by decide +kernel
theorem dX9_readPart_87 : decode cX9_readPart 87 = .ok (.iconst 1, 1) := by decide +kernel
theorem dX9_readPart_88 : decode cX9_readPart 88 = .ok (.iadd, 1) := by decide +kernel
theorem dX9_readPart_89 : decode cX9_readPart 89 = .ok (.putfield 135, 3) := by decide +kernel
theorem dX9_readPart_92 : decode cX9_readPart 92 = .ok (.aload_n 0, 1) := by decide +kernel
theorem dX9_readPart_93 : decode cX9_readPart 93 = .ok (.invokevirtual 167, 3) := by decide +kernel
theorem dX9_readPart_96 : decode cX9_readPart 96 = .ok (.ireturn, 1) := by decide +kernel
theorem dX9_readPart_97 : decode cX9_readPart 97 = .ok (.iconst 0, 1) := by decide +kernel
theorem dX9_readPart_98 : decode cX9_readPart 98 = .ok (.ireturn, 1) := by decide +kernel
theorem dX9_readMarket_0 : decode cX9_readMarket 0 = .ok (.aload_n 0, 1) := by decide +kernel
theorem dX9_readMarket_1 : decode cX9_readMarket 1 = .ok (.iconst 0, 1) := by decide +kernel
theorem dX9_readMarket_2 : decode cX9_readMarket 2 = .ok (.putfield 135, 3) := by decide +kernel
theorem dX9_readMarket_5 : decode cX9_readMarket 5 = .ok (.aload_n 0, 1) := by decide +kernel
theorem dX9_readMarket_6 : decode cX9_readMarket 6 = .ok (.iconst 0, 1) := by decide +kernel
theorem dX9_readMarket_7 : decode cX9_readMarket 7 = .ok (.putfield 147, 3) := by decide +kernel
theorem dX9_readMarket_10 : decode cX9_readMarket 10 = .ok (.aload_n 0, 1) := by decide +kernel
theorem dX9_readMarket_11 : decode cX9_readMarket 11 = .ok (.iconst 0, 1) := by decide +kernel
theorem dX9_readMarket_12 : decode cX9_readMarket 12 = .ok (.putfield 150, 3) := by decide +kernel
theorem dX9_readMarket_15 : decode cX9_readMarket 15 = .ok (.iconst 0, 1) := by decide +kernel
theorem dX9_readMarket_16 : decode cX9_readMarket 16 = .ok (.istore_n 1, 1) := by decide +kernel
theorem dX9_readMarket_17 : decode cX9_readMarket 17 = .ok (.iload_n 1, 1) := by decide +kernel
theorem dX9_readMarket_18 : decode cX9_readMarket 18 = .ok (.bipush 24, 2) := by decide +kernel
theorem dX9_readMarket_20 : decode cX9_readMarket 20 = .ok (.if_icmp .ge 16, 3) := by decide +kernel
theorem dX9_readMarket_23 : decode cX9_readMarket 23 = .ok (.aload_n 0, 1) := by decide +kernel
theorem dX9_readMarket_24 : decode cX9_readMarket 24 = .ok (.getfield 51, 3) := by decide +kernel
theorem dX9_readMarket_27 : decode cX9_readMarket 27 = .ok (.iload_n 1, 1) := by decide +kernel
theorem dX9_readMarket_28 : decode cX9_readMarket 28 = .ok (.iconst 0, 1) := by decide +kernel
theorem dX9_readMarket_29 : decode cX9_readMarket 29 = .ok (.bastore, 1) := by decide +kernel
theorem dX9_readMarket_30 : decode cX9_readMarket 30 = .ok (.iinc 1 1, 3) := by decide +kernel
theorem dX9_readMarket_33 : decode cX9_readMarket 33 = .ok (.goto (-16), 3) := by decide +kernel
theorem dX9_readMarket_36 : decode cX9_readMarket 36 = .ok (.aload_n 0, 1) := by decide +kernel
theorem dX9_readMarket_37 : decode cX9_readMarket 37 = .ok (.getfield 135, 3) := by decide +kernel
theorem dX9_readMarket_40 : decode cX9_readMarket 40 = .ok (.aload_n 0, 1) := by decide +kernel
theorem dX9_readMarket_41 : decode cX9_readMarket 41 = .ok (.getfield 132, 3) := by decide +kernel
theorem dX9_readMarket_44 : decode cX9_readMarket 44 = .ok (.if_icmp .ge 15, 3) := by decide +kernel
theorem dX9_readMarket_47 : decode cX9_readMarket 47 = .ok (.aload_n 0, 1) := by decide +kernel
theorem dX9_readMarket_48 : decode cX9_readMarket 48 = .ok (.invokevirtual 170, 3) := by decide +kernel
theorem dX9_readMarket_51 : decode cX9_readMarket 51 = .ok (.ifCond .ne (-15), 3) := by decide +kernel
theorem dX9_readMarket_54 : decode cX9_readMarket 54 = .ok (.aload_n 0, 1) := by decide +kernel
theorem dX9_readMarket_55 : decode cX9_readMarket 55 = .ok (.getfield 135, 3) := by decide +kernel
theorem dX9_readMarket_58 : decode cX9_readMarket 58 = .ok (.ireturn, 1) := by decide +kernel
theorem dX9_readMarket_59 : decode cX9_readMarket 59 = .ok (.bipush (-9), 2) := by decide +kernel
theorem dX9_readMarket_61 : decode cX9_readMarket 61 = .ok (.ireturn, 1) := by decide +kernel
theorem dX9_fault_0 : decode cX9_fault 0 = .ok (.aload_n 0, 1) := by decide +kernel
theorem dX9_fault_1 : decode cX9_fault 1 = .ok (.iconst 0, 1) := by decide +kernel
theorem dX9_fault_2 : decode cX9_fault 2 = .ok (.putfield 117, 3) := by decide +kernel
theorem dX9_fault_5 : decode cX9_fault 5 = .ok (.aload_n 0, 1) := by decide +kernel
theorem dX9_fault_6 : decode cX9_fault 6 = .ok (.invokevirtual 173, 3) := by decide +kernel
theorem dX9_fault_9 : decode cX9_fault 9 = .ok (.ireturn, 1) := by decide +kernel
theorem dX9_market_0 : decode cX9_market 0 = .ok (.aload_n 0, 1) := by decide +kernel
theorem dX9_market_1 : decode cX9_market 1 = .ok (.iconst 0, 1) := by decide +kernel
theorem dX9_market_2 : decode cX9_market 2 = .ok (.putfield 117, 3) := by decide +kernel
theorem dX9_market_5 : decode cX9_market 5 = .ok (.aload_n 0, 1) := by decide +kernel
theorem dX9_market_6 : decode cX9_market 6 = .ok (.invokevirtual 173, 3) := by decide +kernel
theorem dX9_market_9 : decode cX9_market 9 = .ok (.bipush (-9), 2) := by decide +kernel
theorem dX9_market_11 : decode cX9_market 11 = .ok (.if_icmp .eq 6, 3) := by decide +kernel
theorem dX9_market_14 : decode cX9_market 14 = .ok (.bipush (-3), 2) := by decide +kernel
theorem dX9_market_16 : decode cX9_market 16 = .ok (.ireturn, 1) := by decide +kernel
theorem dX9_market_17 : decode cX9_market 17 = .ok (.aload_n 0, 1) := by decide +kernel
theorem dX9_market_18 : decode cX9_market 18 = .ok (.aload_n 0, 1) := by decide +kernel
theorem dX9_market_19 : decode cX9_market 19 = .ok (.getfield 147, 3) := by decide +kernel
theorem dX9_market_22 : decode cX9_market 22 = .ok (.putfield 120, 3) := by decide +kernel
theorem dX9_market_25 : decode cX9_market 25 = .ok (.aload_n 0, 1) := by decide +kernel
theorem dX9_market_26 : decode cX9_market 26 = .ok (.aload_n 0, 1) := by decide +kernel
theorem dX9_market_27 : decode cX9_market 27 = .ok (.getfield 150, 3) := by decide +kernel
theorem dX9_market_30 : decode cX9_market 30 = .ok (.putfield 127, 3) := by decide +kernel
theorem dX9_market_33 : decode cX9_market 33 = .ok (.iconst 0, 1) := by decide +kernel
theorem dX9_market_34 : decode cX9_market 34 = .ok (.istore_n 1, 1) := by decide +kernel
theorem dX9_market_35 : decode cX9_market 35 = .ok (.iload_n 1, 1) := by decide +kernel
theorem dX9_market_36 : decode cX9_market 36 = .ok (.bipush 6, 2) := by decide +kernel
theorem dX9_market_38 : decode cX9_market 38 = .ok (.if_icmp .ge 47, 3) := by decide +kernel
theorem dX9_market_41 : decode cX9_market 41 = .ok (.aload_n 0, 1) := by decide +kernel
theorem dX9_market_42 : decode cX9_market 42 = .ok (.getfield 13, 3) := by decide +kernel
theorem dX9_market_45 : decode cX9_market 45 = .ok (.iload_n 1, 1) := by decide +kernel
theorem dX9_market_46 : decode cX9_market 46 = .ok (.aload_n 0, 1) := by decide +kernel
theorem dX9_market_47 : decode cX9_market 47 = .ok (.getfield 39, 3) := by decide +kernel
theorem dX9_market_50 : decode cX9_market 50 = .ok (.iload_n 1, 1) := by decide +kernel
theorem dX9_market_51 : decode cX9_market 51 = .ok (.iaload, 1) := by decide +kernel
theorem dX9_market_52 : decode cX9_market 52 = .ok (.iastore, 1) := by decide +kernel
theorem dX9_market_53 : decode cX9_market 53 = .ok (.aload_n 0, 1) := by decide +kernel
theorem dX9_market_54 : decode cX9_market 54 = .ok (.getfield 16, 3) := by decide +kernel
theorem dX9_market_57 : decode cX9_market 57 = .ok (.iload_n 1, 1) := by decide +kernel
theorem dX9_market_58 : decode cX9_market 58 = .ok (.aload_n 0, 1) := by decide +kernel
theorem dX9_market_59 : decode cX9_market 59 = .ok (.getfield 42, 3) := by decide +kernel
theorem dX9_market_62 : decode cX9_market 62 = .ok (.iload_n 1, 1) := by decide +kernel
theorem dX9_market_63 : decode cX9_market 63 = .ok (.iaload, 1) := by decide +kernel
theorem dX9_market_64 : decode cX9_market 64 = .ok (.iastore, 1) := by decide +kernel
theorem dX9_market_65 : decode cX9_market 65 = .ok (.aload_n 0, 1) := by decide +kernel
theorem dX9_market_66 : decode cX9_market 66 = .ok (.getfield 29, 3) := by decide +kernel
theorem dX9_market_69 : decode cX9_market 69 = .ok (.iload_n 1, 1) := by decide +kernel
theorem dX9_market_70 : decode cX9_market 70 = .ok (.iconst 0, 1) := by decide +kernel
theorem dX9_market_71 : decode cX9_market 71 = .ok (.iastore, 1) := by decide +kernel
theorem dX9_market_72 : decode cX9_market 72 = .ok (.aload_n 0, 1) := by decide +kernel
theorem dX9_market_73 : decode cX9_market 73 = .ok (.getfield 32, 3) := by decide +kernel
theorem dX9_market_76 : decode cX9_market 76 = .ok (.iload_n 1, 1) := by decide +kernel
theorem dX9_market_77 : decode cX9_market 77 = .ok (.iconst 0, 1) := by decide +kernel
theorem dX9_market_78 : decode cX9_market 78 = .ok (.bastore, 1) := by decide +kernel
theorem dX9_market_79 : decode cX9_market 79 = .ok (.iinc 1 1, 3) := by decide +kernel
theorem dX9_market_82 : decode cX9_market 82 = .ok (.goto (-47), 3) := by decide +kernel
theorem dX9_market_85 : decode cX9_market 85 = .ok (.iconst 0, 1) := by decide +kernel
theorem dX9_market_86 : decode cX9_market 86 = .ok (.istore_n 1, 1) := by decide +kernel
theorem dX9_market_87 : decode cX9_market 87 = .ok (.iload_n 1, 1) := by decide +kernel
theorem dX9_market_88 : decode cX9_market 88 = .ok (.iconst 4, 1) := by decide +kernel
theorem dX9_market_89 : decode cX9_market 89 = .ok (.if_icmp .ge 33, 3) := by decide +kernel
theorem dX9_market_92 : decode cX9_market 92 = .ok (.aload_n 0, 1) := by decide +kernel
theorem dX9_market_93 : decode cX9_market 93 = .ok (.getfield 19, 3) := by decide +kernel
theorem dX9_market_96 : decode cX9_market 96 = .ok (.iload_n 1, 1) := by decide +kernel
theorem dX9_market_97 : decode cX9_market 97 = .ok (.aload_n 0, 1) := by decide +kernel
theorem dX9_market_98 : decode cX9_market 98 = .ok (.getfield 45, 3) := by decide +kernel
