theorem dX9_keep_123 : decode cX9_keep 123 = .ok (.iaload, 1) := by decide +kernel
theorem dX9_keep_124 : decode cX9_keep 124 = .ok (.iadd, 1) := by decide +kernel
theorem dX9_keep_125 : decode cX9_keep 125 = .ok (.iastore, 1) := by decide +kernel
theorem dX9_keep_126 : decode cX9_keep 126 = .ok (.aload_n 0, 1) := by decide +kernel
theorem dX9_keep_127 : decode cX9_keep 127 = .ok (.getfield 96, 3) := by decide +kernel
theorem dX9_keep_130 : decode cX9_keep 130 = .ok (.bipush 60, 2) := by decide +kernel
theorem dX9_keep_132 : decode cX9_keep 132 = .ok (.iload_n 1, 1) := by decide +kernel
theorem dX9_keep_133 : decode cX9_keep 133 = .ok (.imul, 1) := by decide +kernel
theorem dX9_keep_134 : decode cX9_keep 134 = .ok (.bipush 22, 2) := by decide +kernel
theorem dX9_keep_136 : decode cX9_keep 136 = .ok (.iadd, 1) := by decide +kernel
theorem dX9_keep_137 : decode cX9_keep 137 = .ok (.iload_n 2, 1) := by decide +kernel
theorem dX9_keep_138 : decode cX9_keep 138 = .ok (.iadd, 1) := by decide +kernel
theorem dX9_keep_139 : decode cX9_keep 139 = .ok (.aload_n 0, 1) := by decide +kernel
theorem dX9_keep_140 : decode cX9_keep 140 = .ok (.getfield 60, 3) := by decide +kernel
theorem dX9_keep_143 : decode cX9_keep 143 = .ok (.iload_n 2, 1) := by decide +kernel
theorem dX9_keep_144 : decode cX9_keep 144 = .ok (.iaload, 1) := by decide +kernel
theorem dX9_keep_145 : decode cX9_keep 145 = .ok (.iastore, 1) := by decide +kernel
theorem dX9_keep_146 : decode cX9_keep 146 = .ok (.aload_n 0, 1) := by decide +kernel
theorem dX9_keep_147 : decode cX9_keep 147 = .ok (.getfield 96, 3) := by decide +kernel
theorem dX9_keep_150 : decode cX9_keep 150 = .ok (.bipush 60, 2) := by decide +kernel
theorem dX9_keep_152 : decode cX9_keep 152 = .ok (.iload_n 1, 1) := by decide +kernel
theorem dX9_keep_153 : decode cX9_keep 153 = .ok (.imul, 1) := by decide +kernel
theorem dX9_keep_154 : decode cX9_keep 154 = .ok (.bipush 34, 2) := by decide +kernel
theorem dX9_keep_156 : decode cX9_keep 156 = .ok (.iadd, 1) := by decide +kernel
theorem dX9_keep_157 : decode cX9_keep 157 = .ok (.iload_n 2, 1) := by decide +kernel
theorem dX9_keep_158 : decode cX9_keep 158 = .ok (.iadd, 1) := by decide +kernel
theorem dX9_keep_159 : decode cX9_keep 159 = .ok (.aload_n 0, 1) := by decide +kernel
theorem dX9_keep_160 : decode cX9_keep 160 = .ok (.getfield 63, 3) := by decide +kernel
theorem dX9_keep_163 : decode cX9_keep 163 = .ok (.iload_n 2, 1) := by decide +kernel
theorem dX9_keep_164 : decode cX9_keep 164 = .ok (.iaload, 1) := by decide +kernel
theorem dX9_keep_165 : decode cX9_keep 165 = .ok (.iastore, 1) := by decide +kernel
theorem dX9_keep_166 : decode cX9_keep 166 = .ok (.iinc 2 1, 3) := by decide +kernel
theorem dX9_keep_169 : decode cX9_keep 169 = .ok (.goto (-79), 3) := by decide +kernel
theorem dX9_keep_172 : decode cX9_keep 172 = .ok (.aload_n 0, 1) := by decide +kernel
theorem dX9_keep_173 : decode cX9_keep 173 = .ok (.getfield 96, 3) := by decide +kernel
theorem dX9_keep_176 : decode cX9_keep 176 = .ok (.bipush 60, 2) := by decide +kernel
theorem dX9_keep_178 : decode cX9_keep 178 = .ok (.iload_n 1, 1) := by decide +kernel
theorem dX9_keep_179 : decode cX9_keep 179 = .ok (.imul, 1) := by decide +kernel
theorem dX9_keep_180 : decode cX9_keep 180 = .ok (.bipush 46, 2) := by decide +kernel
theorem dX9_keep_182 : decode cX9_keep 182 = .ok (.iadd, 1) := by decide +kernel
theorem dX9_keep_183 : decode cX9_keep 183 = .ok (.aload_n 0, 1) := by decide +kernel
theorem dX9_keep_184 : decode cX9_keep 184 = .ok (.getfield 177, 3) := by decide +kernel
theorem dX9_keep_187 : decode cX9_keep 187 = .ok (.iastore, 1) := by decide +kernel
theorem dX9_keep_188 : decode cX9_keep 188 = .ok (.aload_n 0, 1) := by decide +kernel
theorem dX9_keep_189 : decode cX9_keep 189 = .ok (.getfield 96, 3) := by decide +kernel
theorem dX9_keep_192 : decode cX9_keep 192 = .ok (.bipush 60, 2) := by decide +kernel
theorem dX9_keep_194 : decode cX9_keep 194 = .ok (.iload_n 1, 1) := by decide +kernel
theorem dX9_keep_195 : decode cX9_keep 195 = .ok (.imul, 1) := by decide +kernel
theorem dX9_keep_196 : decode cX9_keep 196 = .ok (.bipush 47, 2) := by decide +kernel
theorem dX9_keep_198 : decode cX9_keep 198 = .ok (.iadd, 1) := by decide +kernel
theorem dX9_keep_199 : decode cX9_keep 199 = .ok (.aload_n 0, 1) := by decide +kernel
theorem dX9_keep_200 : decode cX9_keep 200 = .ok (.getfield 35, 3) := by decide +kernel
theorem dX9_keep_203 : decode cX9_keep 203 = .ok (.iastore, 1) := by decide +kernel
theorem dX9_keep_204 : decode cX9_keep 204 = .ok (.aload_n 0, 1) := by decide +kernel
theorem dX9_keep_205 : decode cX9_keep 205 = .ok (.getfield 177, 3) := by decide +kernel
theorem dX9_keep_208 : decode cX9_keep 208 = .ok (.ireturn, 1) := by decide +kernel
theorem dX9_again_0 : decode cX9_again 0 = .ok (.aload_n 0, 1) := by decide +kernel
theorem dX9_again_1 : decode cX9_again 1 = .ok (.iconst 0, 1) := by decide +kernel
theorem dX9_again_2 : decode cX9_again 2 = .ok (.putfield 117, 3) := by decide +kernel
theorem dX9_again_5 : decode cX9_again 5 = .ok (.iload_n 1, 1) := by decide +kernel
theorem dX9_again_6 : decode cX9_again 6 = .ok (.i2l, 1) := by decide +kernel
theorem dX9_again_7 : decode cX9_again 7 = .ok (.lconst 0, 1) := by decide +kernel
theorem dX9_again_8 : decode cX9_again 8 = .ok (.lconst 1, 1) := by decide +kernel
theorem dX9_again_9 : decode cX9_again 9 = .ok (.invokestatic 123, 3) := by decide +kernel
theorem dX9_again_12 : decode cX9_again 12 = .ok (.ifCond .ne 5, 3) := by decide +kernel
theorem dX9_again_15 : decode cX9_again 15 = .ok (.iconst (-1), 1) := by decide +kernel
theorem dX9_again_16 : decode cX9_again 16 = .ok (.ireturn, 1) := by decide +kernel
theorem dX9_again_17 : decode cX9_again 17 = .ok (.aload_n 0, 1) := by decide +kernel
theorem dX9_again_18 : decode cX9_again 18 = .ok (.getfield 99, 3) := by decide +kernel
theorem dX9_again_21 : decode cX9_again 21 = .ok (.iload_n 1, 1) := by decide +kernel
theorem dX9_again_22 : decode cX9_again 22 = .ok (.baload, 1) := by decide +kernel
theorem dX9_again_23 : decode cX9_again 23 = .ok (.ifCond .ne 6, 3) := by decide +kernel
theorem dX9_again_26 : decode cX9_again 26 = .ok (.bipush (-3), 2) := by decide +kernel
theorem dX9_again_28 : decode cX9_again 28 = .ok (.ireturn, 1) := by decide +kernel
theorem dX9_again_29 : decode cX9_again 29 = .ok (.iconst 0, 1) := by decide +kernel
theorem dX9_again_30 : decode cX9_again 30 = .ok (.istore_n 2, 1) := by decide +kernel
theorem dX9_again_31 : decode cX9_again 31 = .ok (.iload_n 2, 1) := by decide +kernel
theorem dX9_again_32 : decode cX9_again 32 = .ok (.bipush 6, 2) := by decide +kernel
theorem dX9_again_34 : decode cX9_again 34 = .ok (.if_icmp .ge 26, 3) := by decide +kernel
theorem dX9_again_37 : decode cX9_again 37 = .ok (.aload_n 0, 1) := by decide +kernel
theorem dX9_again_38 : decode cX9_again 38 = .ok (.getfield 13, 3) := by decide +kernel
theorem dX9_again_41 : decode cX9_again 41 = .ok (.iload_n 2, 1) := by decide +kernel
theorem dX9_again_42 : decode cX9_again 42 = .ok (.aload_n 0, 1) := by decide +kernel
theorem dX9_again_43 : decode cX9_again 43 = .ok (.getfield 96, 3) := by decide +kernel
theorem dX9_again_46 : decode cX9_again 46 = .ok (.bipush 60, 2) := by decide +kernel
theorem dX9_again_48 : decode cX9_again 48 = .ok (.iload_n 1, 1) := by decide +kernel
theorem dX9_again_49 : decode cX9_again 49 = .ok (.imul, 1) := by decide +kernel
theorem dX9_again_50 : decode cX9_again 50 = .ok (.iload_n 2, 1) := by decide +kernel
theorem dX9_again_51 : decode cX9_again 51 = .ok (.iadd, 1) := by decide +kernel
theorem dX9_again_52 : decode cX9_again 52 = .ok (.iaload, 1) := by decide +kernel
theorem dX9_again_53 : decode cX9_again 53 = .ok (.iastore, 1) := by decide +kernel
theorem dX9_again_54 : decode cX9_again 54 = .ok (.iinc 2 1, 3) := by decide +kernel
theorem dX9_again_57 : decode cX9_again 57 = .ok (.goto (-26), 3) := by decide +kernel
theorem dX9_again_60 : decode cX9_again 60 = .ok (.iconst 0, 1) := by decide +kernel
theorem dX9_again_61 : decode cX9_again 61 = .ok (.istore_n 2, 1) := by decide +kernel
theorem dX9_again_62 : decode cX9_again 62 = .ok (.iload_n 2, 1) := by decide +kernel
theorem dX9_again_63 : decode cX9_again 63 = .ok (.iconst 4, 1) := by decide +kernel
theorem dX9_again_64 : decode cX9_again 64 = .ok (.if_icmp .ge 29, 3) := by decide +kernel
theorem dX9_again_67 : decode cX9_again 67 = .ok (.aload_n 0, 1) := by decide +kernel
theorem dX9_again_68 : decode cX9_again 68 = .ok (.getfield 22, 3) := by decide +kernel
theorem dX9_again_71 : decode cX9_again 71 = .ok (.iload_n 2, 1) := by decide +kernel
theorem dX9_again_72 : decode cX9_again 72 = .ok (.aload_n 0, 1) := by decide +kernel
theorem dX9_again_73 : decode cX9_again 73 = .ok (.getfield 96, 3) := by decide +kernel
theorem dX9_again_76 : decode cX9_again 76 = .ok (.bipush 60, 2) := by decide +kernel
theorem dX9_again_78 : decode cX9_again 78 = .ok (.iload_n 1, 1) := by decide +kernel
theorem dX9_again_79 : decode cX9_again 79 = .ok (.imul, 1) := by decide +kernel
theorem dX9_again_80 : decode cX9_again 80 = .ok (.bipush 6, 2) := by decide +kernel
theorem dX9_again_82 : decode cX9_again 82 = .ok (.iadd, 1) := by decide +kernel
theorem dX9_again_83 : decode cX9_again 83 = .ok (.iload_n 2, 1) := by decide +kernel
theorem dX9_again_84 : decode cX9_again 84 = .ok (.iadd, 1) := by decide +kernel
theorem dX9_again_85 : decode cX9_again 85 = .ok (.iaload, 1) := by decide +kernel
theorem dX9_again_86 : decode cX9_again 86 = .ok (.iastore, 1) := by decide +kernel
theorem dX9_again_87 : decode cX9_again 87 = .ok (.iinc 2 1, 3) := by decide +kernel
theorem dX9_again_90 : decode cX9_again 90 = .ok (.goto (-28), 3) := by decide +kernel
theorem dX9_again_93 : decode cX9_again 93 = .ok (.iconst 0, 1) := by decide +kernel
theorem dX9_again_94 : decode cX9_again 94 = .ok (.istore_n 2, 1) := by decide +kernel
theorem dX9_again_95 : decode cX9_again 95 = .ok (.iload_n 2, 1) := by decide +kernel
theorem dX9_again_96 : decode cX9_again 96 = .ok (.bipush 12, 2) := by decide +kernel
theorem dX9_again_98 : decode cX9_again 98 = .ok (.if_icmp .ge 95, 3) := by decide +kernel
theorem dX9_again_101 : decode cX9_again 101 = .ok (.aload_n 0, 1) := by decide +kernel
theorem dX9_again_102 : decode cX9_again 102 = .ok (.getfield 54, 3) := by decide +kernel
theorem dX9_again_105 : decode cX9_again 105 = .ok (.iload_n 2, 1) := by decide +kernel
theorem dX9_again_106 : decode cX9_again 106 = .ok (.aload_n 0, 1) := by decide +kernel
theorem dX9_again_107 : decode cX9_again 107 = .ok (.getfield 96, 3) := by decide +kernel
theorem dX9_again_110 : decode cX9_again 110 = .ok (.bipush 60, 2) := by decide +kernel
theorem dX9_again_112 : decode cX9_again 112 = .ok (.iload_n 1, 1) := by decide +kernel
theorem dX9_again_113 : decode cX9_again 113 = .ok (.imul, 1) := by decide +kernel
theorem dX9_again_114 : decode cX9_again 114 = .ok (.bipush 10, 2) := by decide +kernel
theorem dX9_again_116 : decode cX9_again 116 = .ok (.iadd, 1) := by decide +kernel
theorem dX9_again_117 : decode cX9_again 117 = .ok (.iload_n 2, 1) := by decide +kernel
theorem dX9_again_118 : decode cX9_again 118 = .ok (.iadd, 1) := by decide +kernel
theorem dX9_again_119 : decode cX9_again 119 = .ok (.iaload, 1) := by decide +kernel
theorem dX9_again_120 : decode cX9_again 120 = .ok (.bipush 10, 2) := by decide +kernel
theorem dX9_again_122 : decode cX9_again 122 = .ok (.idiv, 1) := by decide +kernel
theorem dX9_again_123 : decode cX9_again 123 = .ok (.iastore, 1) := by decide +kernel
theorem dX9_again_124 : decode cX9_again 124 = .ok (.aload_n 0, 1) := by decide +kernel
theorem dX9_again_125 : decode cX9_again 125 = .ok (.getfield 57, 3) := by decide +kernel
theorem dX9_again_128 : decode cX9_again 128 = .ok (.iload_n 2, 1) := by decide +kernel
theorem dX9_again_129 : decode cX9_again 129 = .ok (.aload_n 0, 1) := by decide +kernel
theorem dX9_again_130 : decode cX9_again 130 = .ok (.getfield 96, 3) := by decide +kernel
theorem dX9_again_133 : decode cX9_again 133 = .ok (.bipush 60, 2) := by decide +kernel
theorem dX9_again_135 : decode cX9_again 135 = .ok (.iload_n 1, 1) := by decide +kernel
theorem dX9_again_136 : decode cX9_again 136 = .ok (.imul, 1) := by decide +kernel
theorem dX9_again_137 : decode cX9_again 137 = .ok (.bipush 10, 2) := by decide +kernel
theorem dX9_again_139 : decode cX9_again 139 = .ok (.iadd, 1) := by decide +kernel
theorem dX9_again_140 : decode cX9_again 140 = .ok (.iload_n 2, 1) := by decide +kernel
theorem dX9_again_141 : decode cX9_again 141 = .ok (.iadd, 1) := by decide +kernel
theorem dX9_again_142 : decode cX9_again 142 = .ok (.iaload, 1) := by decide +kernel
theorem dX9_again_143 : decode cX9_again 143 = .ok (.bipush 10, 2) := by decide +kernel
theorem dX9_again_145 : decode cX9_again 145 = .ok (.irem, 1) := by decide +kernel
theorem dX9_again_146 : decode cX9_again 146 = .ok (.iastore, 1) := by decide +kernel
theorem dX9_again_147 : decode cX9_again 147 = .ok (.aload_n 0, 1) := by decide +kernel
theorem dX9_again_148 : decode cX9_again 148 = .ok (.getfield 60, 3) := by decide +kernel
theorem dX9_again_151 : decode cX9_again 151 = .ok (.iload_n 2, 1) := by decide +kernel
theorem dX9_again_152 : decode cX9_again 152 = .ok (.aload_n 0, 1) := by decide +kernel
theorem dX9_again_153 : decode cX9_again 153 = .ok (.getfield 96, 3) := by decide +kernel
theorem dX9_again_156 : decode cX9_again 156 = .ok (.bipush 60, 2) := by decide +kernel
theorem dX9_again_158 : decode cX9_again 158 = .ok (.iload_n 1, 1) := by decide +kernel
theorem dX9_again_159 : decode cX9_again 159 = .ok (.imul, 1) := by decide +kernel
theorem dX9_again_160 : decode cX9_again 160 = .ok (.bipush 22, 2) := by decide +kernel
theorem dX9_again_162 : decode cX9_again 162 = .ok (.iadd, 1) := by decide +kernel
theorem dX9_again_163 : decode cX9_again 163 = .ok (.iload_n 2, 1) := by decide +kernel
theorem dX9_again_164 : decode cX9_again 164 = .ok (.iadd, 1) := by decide +kernel
theorem dX9_again_165 : decode cX9_again 165 = .ok (.iaload, 1) := by decide +kernel
theorem dX9_again_166 : decode cX9_again 166 = .ok (.iastore, 1) := by decide +kernel
theorem dX9_again_167 : decode cX9_again 167 = .ok (.aload_n 0, 1) := by decide +kernel
theorem dX9_again_168 : decode cX9_again 168 = .ok (.getfield 63, 3) := by decide +kernel
theorem dX9_again_171 : decode cX9_again 171 = .ok (.iload_n 2, 1) := by decide +kernel
theorem dX9_again_172 : decode cX9_again 172 = .ok (.aload_n 0, 1) := by decide +kernel
theorem dX9_again_173 : decode cX9_again 173 = .ok (.getfield 96, 3) := by decide +kernel
theorem dX9_again_176 : decode cX9_again 176 = .ok (.bipush 60, 2) := by decide +kernel
theorem dX9_again_178 : decode cX9_again 178 = .ok (.iload_n 1, 1) := by decide +kernel
theorem dX9_again_179 : decode cX9_again 179 = .ok (.imul, 1) := by decide +kernel
theorem dX9_again_180 : decode cX9_again 180 = .ok (.bipush 34, 2) := by decide +kernel
theorem dX9_again_182 : decode cX9_again 182 = .ok (.iadd, 1) := by decide +kernel
theorem dX9_again_183 : decode cX9_again 183 = .ok (.iload_n 2, 1) := by decide +kernel
theorem dX9_again_184 : decode cX9_again 184 = .ok (.iadd, 1) := by decide +kernel
theorem dX9_again_185 : decode cX9_again 185 = .ok (.iaload, 1) := by decide +kernel
theorem dX9_again_186 : decode cX9_again 186 = .ok (.iastore, 1) := by decide +kernel
theorem dX9_again_187 : decode cX9_again 187 = .ok (.iinc 2 1, 3) := by decide +kernel
theorem dX9_again_190 : decode cX9_again 190 = .ok (.goto (-95), 3) := by decide +kernel
theorem dX9_again_193 : decode cX9_again 193 = .ok (.aload_n 0, 1) := by decide +kernel
theorem dX9_again_194 : decode cX9_again 194 = .ok (.aload_n 0, 1) := by decide +kernel
theorem dX9_again_195 : decode cX9_again 195 = .ok (.getfield 96, 3) := by decide +kernel
theorem dX9_again_198 : decode cX9_again 198 = .ok (.bipush 60, 2) := by decide +kernel
theorem dX9_again_200 : decode cX9_again 200 = .ok (.iload_n 1, 1) := by decide +kernel
theorem dX9_again_201 : decode cX9_again 201 = .ok (.imul, 1) := by decide +kernel
theorem dX9_again_202 : decode cX9_again 202 = .ok (.bipush 46, 2) := by decide +kernel
theorem dX9_again_204 : decode cX9_again 204 = .ok (.iadd, 1) := by decide +kernel
theorem dX9_again_205 : decode cX9_again 205 = .ok (.iaload, 1) := by decide +kernel
theorem dX9_again_206 : decode cX9_again 206 = .ok (.putfield 177, 3) := by decide +kernel
theorem dX9_again_209 : decode cX9_again 209 = .ok (.aload_n 0, 1) := by decide +kernel
theorem dX9_again_210 : decode cX9_again 210 = .ok (.aload_n 0, 1) := by decide +kernel
theorem dX9_again_211 : decode cX9_again 211 = .ok (.getfield 96, 3) := by decide +kernel
theorem dX9_again_214 : decode cX9_again 214 = .ok (.bipush 60, 2) := by decide +kernel
theorem dX9_again_216 : decode cX9_again 216 = .ok (.iload_n 1, 1) := by decide +kernel
theorem dX9_again_217 : decode cX9_again 217 = .ok (.imul, 1) := by decide +kernel
theorem dX9_again_218 : decode cX9_again 218 = .ok (.bipush 47, 2) := by decide +kernel
theorem dX9_again_220 : decode cX9_again 220 = .ok (.iadd, 1) := by decide +kernel
theorem dX9_again_221 : decode cX9_again 221 = .ok (.iaload, 1) := by decide +kernel
theorem dX9_again_222 : decode cX9_again 222 = .ok (.putfield 35, 3) := by decide +kernel
theorem dX9_again_225 : decode cX9_again 225 = .ok (.aload_n 0, 1) := by decide +kernel
theorem dX9_again_226 : decode cX9_again 226 = .ok (.getfield 177, 3) := by decide +kernel
theorem dX9_again_229 : decode cX9_again 229 = .ok (.ireturn, 1) := by decide +kernel
theorem dX9_count_0 : decode cX9_count 0 = .ok (.aload_n 0, 1) := by decide +kernel
theorem dX9_count_1 : decode cX9_count 1 = .ok (.iconst 0, 1) := by decide +kernel
theorem dX9_count_2 : decode cX9_count 2 = .ok (.putfield 117, 3) := by decide +kernel
theorem dX9_count_5 : decode cX9_count 5 = .ok (.iload_n 1, 1) := by decide +kernel
theorem dX9_count_6 : decode cX9_count 6 = .ok (.tableswitch 77 0 6 #[42, 47, 52, 57, 62, 67, 72], 42) := by decide +kernel
theorem dX9_count_48 : decode cX9_count 48 = .ok (.aload_n 0, 1) := by decide +kernel
theorem dX9_count_49 : decode cX9_count 49 = .ok (.getfield 120, 3) := by decide +kernel
theorem dX9_count_52 : decode cX9_count 52 = .ok (.ireturn, 1) := by decide +kernel
theorem dX9_count_53 : decode cX9_count 53 = .ok (.aload_n 0, 1) := by decide +kernel
theorem dX9_count_54 : decode cX9_count 54 = .ok (.getfield 127, 3) := by decide +kernel
theorem dX9_count_57 : decode cX9_count 57 = .ok (.ireturn, 1) := by decide +kernel
theorem dX9_count_58 : decode cX9_count 58 = .ok (.aload_n 0, 1) := by decide +kernel
theorem dX9_count_59 : decode cX9_count 59 = .ok (.getfield 177, 3) := by decide +kernel
theorem dX9_count_62 : decode cX9_count 62 = .ok (.ireturn, 1) := by decide +kernel
theorem dX9_count_63 : decode cX9_count 63 = .ok (.aload_n 0, 1) := by decide +kernel
theorem dX9_count_64 : decode cX9_count 64 = .ok (.getfield 224, 3) := by decide +kernel
theorem dX9_count_67 : decode cX9_count 67 = .ok (.ireturn, 1) := by decide +kernel
theorem dX9_count_68 : decode cX9_count 68 = .ok (.aload_n 0, 1) := by decide +kernel
theorem dX9_count_69 : decode cX9_count 69 = .ok (.getfield 254, 3) := by decide +kernel
theorem dX9_count_72 : decode cX9_count 72 = .ok (.ireturn, 1) := by decide +kernel
theorem dX9_count_73 : decode cX9_count 73 = .ok (.aload_n 0, 1) := by decide +kernel
theorem dX9_count_74 : decode cX9_count 74 = .ok (.getfield 35, 3) := by decide +kernel
theorem dX9_count_77 : decode cX9_count 77 = .ok (.ireturn, 1) := by decide +kernel
theorem dX9_count_78 : decode cX9_count 78 = .ok (.aload_n 0, 1) := by decide +kernel
theorem dX9_count_79 : decode cX9_count 79 = .ok (.getfield 132, 3) := by decide +kernel
theorem dX9_count_82 : decode cX9_count 82 = .ok (.ireturn, 1) := by decide +kernel
theorem dX9_count_83 : decode cX9_count 83 = .ok (.bipush (-2), 2) := by decide +kernel
theorem dX9_count_85 : decode cX9_count 85 = .ok (.ireturn, 1) := by decide +kernel
theorem dJ6_bitCount_0f7a4_0 : decode cJ6_bitCount_0f7a4 0 = .ok (.iload_n 0, 1) := by decide +kernel
theorem dJ6_bitCount_0f7a4_1 : decode cJ6_bitCount_0f7a4 1 = .ok (.iload_n 0, 1) := by decide +kernel
theorem dJ6_bitCount_0f7a4_2 : decode cJ6_bitCount_0f7a4 2 = .ok (.iconst 1, 1) := by decide +kernel
theorem dJ6_bitCount_0f7a4_3 : decode cJ6_bitCount_0f7a4 3 = .ok (.iushr, 1) := by decide +kernel
theorem dJ6_bitCount_0f7a4_4 : decode cJ6_bitCount_0f7a4 4 = .ok (.ldc_w 265, 3) := by decide +kernel
theorem dJ6_bitCount_0f7a4_7 : decode cJ6_bitCount_0f7a4 7 = .ok (.iand, 1) := by decide +kernel
theorem dJ6_bitCount_0f7a4_8 : decode cJ6_bitCount_0f7a4 8 = .ok (.isub, 1) := by decide +kernel
theorem dJ6_bitCount_0f7a4_9 : decode cJ6_bitCount_0f7a4 9 = .ok (.istore_n 0, 1) := by decide +kernel
theorem dJ6_bitCount_0f7a4_10 : decode cJ6_bitCount_0f7a4 10 = .ok (.iload_n 0, 1) := by decide +kernel
theorem dJ6_bitCount_0f7a4_11 : decode cJ6_bitCount_0f7a4 11 = .ok (.ldc_w 266, 3) := by decide +kernel
theorem dJ6_bitCount_0f7a4_14 : decode cJ6_bitCount_0f7a4 14 = .ok (.iand, 1) := by decide +kernel
theorem dJ6_bitCount_0f7a4_15 : decode cJ6_bitCount_0f7a4 15 = .ok (.iload_n 0, 1) := by decide +kernel
theorem dJ6_bitCount_0f7a4_16 : decode cJ6_bitCount_0f7a4 16 = .ok (.iconst 2, 1) := by decide +kernel
theorem dJ6_bitCount_0f7a4_17 : decode cJ6_bitCount_0f7a4 17 = .ok (.iushr, 1) := by decide +kernel
theorem dJ6_bitCount_0f7a4_18 : decode cJ6_bitCount_0f7a4 18 = .ok (.ldc_w 266, 3) := by decide +kernel
theorem dJ6_bitCount_0f7a4_21 : decode cJ6_bitCount_0f7a4 21 = .ok (.iand, 1) := by decide +kernel
theorem dJ6_bitCount_0f7a4_22 : decode cJ6_bitCount_0f7a4 22 = .ok (.iadd, 1) := by decide +kernel
theorem dJ6_bitCount_0f7a4_23 : decode cJ6_bitCount_0f7a4 23 = .ok (.istore_n 0, 1) := by decide +kernel
theorem dJ6_bitCount_0f7a4_24 : decode cJ6_bitCount_0f7a4 24 = .ok (.iload_n 0, 1) := by decide +kernel
theorem dJ6_bitCount_0f7a4_25 : decode cJ6_bitCount_0f7a4 25 = .ok (.iload_n 0, 1) := by decide +kernel
theorem dJ6_bitCount_0f7a4_26 : decode cJ6_bitCount_0f7a4 26 = .ok (.iconst 4, 1) := by decide +kernel
theorem dJ6_bitCount_0f7a4_27 : decode cJ6_bitCount_0f7a4 27 = .ok (.iushr, 1) := by decide +kernel
theorem dJ6_bitCount_0f7a4_28 : decode cJ6_bitCount_0f7a4 28 = .ok (.iadd, 1) := by decide +kernel
theorem dJ6_bitCount_0f7a4_29 : decode cJ6_bitCount_0f7a4 29 = .ok (.ldc_w 267, 3) := by decide +kernel
theorem dJ6_bitCount_0f7a4_32 : decode cJ6_bitCount_0f7a4 32 = .ok (.iand, 1) := by decide +kernel
theorem dJ6_bitCount_0f7a4_33 : decode cJ6_bitCount_0f7a4 33 = .ok (.istore_n 0, 1) := by decide +kernel
theorem dJ6_bitCount_0f7a4_34 : decode cJ6_bitCount_0f7a4 34 = .ok (.iload_n 0, 1) := by decide +kernel
theorem dJ6_bitCount_0f7a4_35 : decode cJ6_bitCount_0f7a4 35 = .ok (.iload_n 0, 1) := by decide +kernel
theorem dJ6_bitCount_0f7a4_36 : decode cJ6_bitCount_0f7a4 36 = .ok (.bipush 8, 2) := by decide +kernel
theorem dJ6_bitCount_0f7a4_38 : decode cJ6_bitCount_0f7a4 38 = .ok (.iushr, 1) := by decide +kernel
theorem dJ6_bitCount_0f7a4_39 : decode cJ6_bitCount_0f7a4 39 = .ok (.iadd, 1) := by decide +kernel
theorem dJ6_bitCount_0f7a4_40 : decode cJ6_bitCount_0f7a4 40 = .ok (.istore_n 0, 1) := by decide +kernel
theorem dJ6_bitCount_0f7a4_41 : decode cJ6_bitCount_0f7a4 41 = .ok (.iload_n 0, 1) := by decide +kernel
theorem dJ6_bitCount_0f7a4_42 : decode cJ6_bitCount_0f7a4 42 = .ok (.iload_n 0, 1) := by decide +kernel
theorem dJ6_bitCount_0f7a4_43 : decode cJ6_bitCount_0f7a4 43 = .ok (.bipush 16, 2) := by decide +kernel
theorem dJ6_bitCount_0f7a4_45 : decode cJ6_bitCount_0f7a4 45 = .ok (.iushr, 1) := by decide +kernel
theorem dJ6_bitCount_0f7a4_46 : decode cJ6_bitCount_0f7a4 46 = .ok (.iadd, 1) := by decide +kernel
theorem dJ6_bitCount_0f7a4_47 : decode cJ6_bitCount_0f7a4 47 = .ok (.istore_n 0, 1) := by decide +kernel
theorem dJ6_bitCount_0f7a4_48 : decode cJ6_bitCount_0f7a4 48 = .ok (.iload_n 0, 1) := by decide +kernel
theorem dJ6_bitCount_0f7a4_49 : decode cJ6_bitCount_0f7a4 49 = .ok (.bipush 63, 2) := by decide +kernel
theorem dJ6_bitCount_0f7a4_51 : decode cJ6_bitCount_0f7a4 51 = .ok (.iand, 1) := by decide +kernel
theorem dJ6_bitCount_0f7a4_52 : decode cJ6_bitCount_0f7a4 52 = .ok (.ireturn, 1) := by decide +kernel
theorem dJ9_max_7cf53_0 : decode cJ9_max_7cf53 0 = .ok (.iload_n 0, 1) := by decide +kernel
theorem dJ9_max_7cf53_1 : decode cJ9_max_7cf53 1 = .ok (.iload_n 1, 1) := by decide +kernel
theorem dJ9_max_7cf53_2 : decode cJ9_max_7cf53 2 = .ok (.if_icmp .lt 7, 3) := by decide +kernel
theorem dJ9_max_7cf53_5 : decode cJ9_max_7cf53 5 = .ok (.iload_n 0, 1) := by decide +kernel
theorem dJ9_max_7cf53_6 : decode cJ9_max_7cf53 6 = .ok (.goto 4, 3) := by decide +kernel
theorem dJ9_max_7cf53_9 : decode cJ9_max_7cf53 9 = .ok (.iload_n 1, 1) := by decide +kernel
theorem dJ9_max_7cf53_10 : decode cJ9_max_7cf53 10 = .ok (.ireturn, 1) := by decide +kernel
theorem dJ9_min_7cf53_0 : decode cJ9_min_7cf53 0 = .ok (.iload_n 0, 1) := by decide +kernel
theorem dJ9_min_7cf53_1 : decode cJ9_min_7cf53 1 = .ok (.iload_n 1, 1) := by decide +kernel
theorem dJ9_min_7cf53_2 : decode cJ9_min_7cf53 2 = .ok (.if_icmp .gt 7, 3) := by decide +kernel
theorem dJ9_min_7cf53_5 : decode cJ9_min_7cf53 5 = .ok (.iload_n 0, 1) := by decide +kernel
theorem dJ9_min_7cf53_6 : decode cJ9_min_7cf53 6 = .ok (.goto 4, 3) := by decide +kernel
theorem dJ9_min_7cf53_9 : decode cJ9_min_7cf53 9 = .ok (.iload_n 1, 1) := by decide +kernel
theorem dJ9_min_7cf53_10 : decode cJ9_min_7cf53 10 = .ok (.ireturn, 1) := by decide +kernel
theorem dJ7_fill_53178_0 : decode cJ7_fill_53178 0 = .ok (.iconst 0, 1) := by decide +kernel
theorem dJ7_fill_53178_1 : decode cJ7_fill_53178 1 = .ok (.istore_n 2, 1) := by decide +kernel
theorem dJ7_fill_53178_2 : decode cJ7_fill_53178 2 = .ok (.aload_n 0, 1) := by decide +kernel
theorem dJ7_fill_53178_3 : decode cJ7_fill_53178 3 = .ok (.arraylength, 1) := by decide +kernel
theorem dJ7_fill_53178_4 : decode cJ7_fill_53178 4 = .ok (.istore_n 3, 1) := by decide +kernel
theorem dJ7_fill_53178_5 : decode cJ7_fill_53178 5 = .ok (.iload_n 2, 1) := by decide +kernel
theorem dJ7_fill_53178_6 : decode cJ7_fill_53178 6 = .ok (.iload_n 3, 1) := by decide +kernel
theorem dJ7_fill_53178_7 : decode cJ7_fill_53178 7 = .ok (.if_icmp .ge 13, 3) := by decide +kernel
theorem dJ7_fill_53178_10 : decode cJ7_fill_53178 10 = .ok (.aload_n 0, 1) := by decide +kernel
theorem dJ7_fill_53178_11 : decode cJ7_fill_53178 11 = .ok (.iload_n 2, 1) := by decide +kernel
theorem dJ7_fill_53178_12 : decode cJ7_fill_53178 12 = .ok (.iload_n 1, 1) := by decide +kernel
theorem dJ7_fill_53178_13 : decode cJ7_fill_53178 13 = .ok (.iastore, 1) := by decide +kernel
theorem dJ7_fill_53178_14 : decode cJ7_fill_53178 14 = .ok (.iinc 2 1, 3) := by decide +kernel
theorem dJ7_fill_53178_17 : decode cJ7_fill_53178 17 = .ok (.goto (-12), 3) := by decide +kernel
theorem dJ7_fill_53178_20 : decode cJ7_fill_53178 20 = .ok (.return_, 1) := by decide +kernel
