theorem dX2_is_16 : decode cX2_is 16 = .ok (.getfield 80, 3) := by decide +kernel
theorem dX2_is_19 : decode cX2_is 19 = .ok (.iaload, 1) := by decide +kernel
theorem dX2_is_20 : decode cX2_is 20 = .ok (.iload_n 1, 1) := by decide +kernel
theorem dX2_is_21 : decode cX2_is 21 = .ok (.if_icmp .ne 7, 3) := by decide +kernel
theorem dX2_is_24 : decode cX2_is 24 = .ok (.iconst 1, 1) := by decide +kernel
theorem dX2_is_25 : decode cX2_is 25 = .ok (.goto 4, 3) := by decide +kernel
theorem dX2_is_28 : decode cX2_is 28 = .ok (.iconst 0, 1) := by decide +kernel
theorem dX2_is_29 : decode cX2_is 29 = .ok (.ireturn, 1) := by decide +kernel
theorem dX2_isDigit_0 : decode cX2_isDigit 0 = .ok (.aload_n 0, 1) := by decide +kernel
theorem dX2_isDigit_1 : decode cX2_isDigit 1 = .ok (.getfield 80, 3) := by decide +kernel
theorem dX2_isDigit_4 : decode cX2_isDigit 4 = .ok (.aload_n 0, 1) := by decide +kernel
theorem dX2_isDigit_5 : decode cX2_isDigit 5 = .ok (.getfield 30, 3) := by decide +kernel
theorem dX2_isDigit_8 : decode cX2_isDigit 8 = .ok (.if_icmp .ge 35, 3) := by decide +kernel
theorem dX2_isDigit_11 : decode cX2_isDigit 11 = .ok (.aload_n 0, 1) := by decide +kernel
theorem dX2_isDigit_12 : decode cX2_isDigit 12 = .ok (.getfield 7, 3) := by decide +kernel
theorem dX2_isDigit_15 : decode cX2_isDigit 15 = .ok (.aload_n 0, 1) := by decide +kernel
theorem dX2_isDigit_16 : decode cX2_isDigit 16 = .ok (.getfield 80, 3) := by decide +kernel
theorem dX2_isDigit_19 : decode cX2_isDigit 19 = .ok (.iaload, 1) := by decide +kernel
theorem dX2_isDigit_20 : decode cX2_isDigit 20 = .ok (.bipush 48, 2) := by decide +kernel
theorem dX2_isDigit_22 : decode cX2_isDigit 22 = .ok (.if_icmp .lt 21, 3) := by decide +kernel
theorem dX2_isDigit_25 : decode cX2_isDigit 25 = .ok (.aload_n 0, 1) := by decide +kernel
theorem dX2_isDigit_26 : decode cX2_isDigit 26 = .ok (.getfield 7, 3) := by decide +kernel
theorem dX2_isDigit_29 : decode cX2_isDigit 29 = .ok (.aload_n 0, 1) := by decide +kernel
theorem dX2_isDigit_30 : decode cX2_isDigit 30 = .ok (.getfield 80, 3) := by decide +kernel
theorem dX2_isDigit_33 : decode cX2_isDigit 33 = .ok (.iaload, 1) := by decide +kernel
theorem dX2_isDigit_34 : decode cX2_isDigit 34 = .ok (.bipush 57, 2) := by decide +kernel
theorem dX2_isDigit_36 : decode cX2_isDigit 36 = .ok (.if_icmp .gt 7, 3) := by decide +kernel
theorem dX2_isDigit_39 : decode cX2_isDigit 39 = .ok (.iconst 1, 1) := by decide +kernel
theorem dX2_isDigit_40 : decode cX2_isDigit 40 = .ok (.goto 4, 3) := by decide +kernel
theorem dX2_isDigit_43 : decode cX2_isDigit 43 = .ok (.iconst 0, 1) := by decide +kernel
theorem dX2_isDigit_44 : decode cX2_isDigit 44 = .ok (.ireturn, 1) := by decide +kernel
theorem dX2_parse_0 : decode cX2_parse 0 = .ok (.aload_n 0, 1) := by decide +kernel
theorem dX2_parse_1 : decode cX2_parse 1 = .ok (.getfield 16, 3) := by decide +kernel
theorem dX2_parse_4 : decode cX2_parse 4 = .ok (.iconst 0, 1) := by decide +kernel
theorem dX2_parse_5 : decode cX2_parse 5 = .ok (.iconst 0, 1) := by decide +kernel
theorem dX2_parse_6 : decode cX2_parse 6 = .ok (.iastore, 1) := by decide +kernel
theorem dX2_parse_7 : decode cX2_parse 7 = .ok (.aload_n 0, 1) := by decide +kernel
theorem dX2_parse_8 : decode cX2_parse 8 = .ok (.getfield 19, 3) := by decide +kernel
theorem dX2_parse_11 : decode cX2_parse 11 = .ok (.iconst 0, 1) := by decide +kernel
theorem dX2_parse_12 : decode cX2_parse 12 = .ok (.iconst 0, 1) := by decide +kernel
theorem dX2_parse_13 : decode cX2_parse 13 = .ok (.iastore, 1) := by decide +kernel
theorem dX2_parse_14 : decode cX2_parse 14 = .ok (.aload_n 0, 1) := by decide +kernel
theorem dX2_parse_15 : decode cX2_parse 15 = .ok (.invokevirtual 83, 3) := by decide +kernel
theorem dX2_parse_18 : decode cX2_parse 18 = .ok (.ifCond .ne 5, 3) := by decide +kernel
theorem dX2_parse_21 : decode cX2_parse 21 = .ok (.iconst 0, 1) := by decide +kernel
theorem dX2_parse_22 : decode cX2_parse 22 = .ok (.ireturn, 1) := by decide +kernel
theorem dX2_parse_23 : decode cX2_parse 23 = .ok (.aload_n 0, 1) := by decide +kernel
theorem dX2_parse_24 : decode cX2_parse 24 = .ok (.invokevirtual 83, 3) := by decide +kernel
theorem dX2_parse_27 : decode cX2_parse 27 = .ok (.ifCond .eq 33, 3) := by decide +kernel
theorem dX2_parse_30 : decode cX2_parse 30 = .ok (.aload_n 0, 1) := by decide +kernel
theorem dX2_parse_31 : decode cX2_parse 31 = .ok (.iconst 0, 1) := by decide +kernel
theorem dX2_parse_32 : decode cX2_parse 32 = .ok (.aload_n 0, 1) := by decide +kernel
theorem dX2_parse_33 : decode cX2_parse 33 = .ok (.getfield 7, 3) := by decide +kernel
theorem dX2_parse_36 : decode cX2_parse 36 = .ok (.aload_n 0, 1) := by decide +kernel
theorem dX2_parse_37 : decode cX2_parse 37 = .ok (.getfield 80, 3) := by decide +kernel
theorem dX2_parse_40 : decode cX2_parse 40 = .ok (.iaload, 1) := by decide +kernel
theorem dX2_parse_41 : decode cX2_parse 41 = .ok (.bipush 48, 2) := by decide +kernel
theorem dX2_parse_43 : decode cX2_parse 43 = .ok (.isub, 1) := by decide +kernel
theorem dX2_parse_44 : decode cX2_parse 44 = .ok (.invokevirtual 56, 3) := by decide +kernel
theorem dX2_parse_47 : decode cX2_parse 47 = .ok (.aload_n 0, 1) := by decide +kernel
theorem dX2_parse_48 : decode cX2_parse 48 = .ok (.dup, 1) := by decide +kernel
theorem dX2_parse_49 : decode cX2_parse 49 = .ok (.getfield 80, 3) := by decide +kernel
theorem dX2_parse_52 : decode cX2_parse 52 = .ok (.iconst 1, 1) := by decide +kernel
theorem dX2_parse_53 : decode cX2_parse 53 = .ok (.iadd, 1) := by decide +kernel
theorem dX2_parse_54 : decode cX2_parse 54 = .ok (.putfield 80, 3) := by decide +kernel
theorem dX2_parse_57 : decode cX2_parse 57 = .ok (.goto (-34), 3) := by decide +kernel
theorem dX2_parse_60 : decode cX2_parse 60 = .ok (.aload_n 0, 1) := by decide +kernel
theorem dX2_parse_61 : decode cX2_parse 61 = .ok (.getfield 19, 3) := by decide +kernel
theorem dX2_parse_64 : decode cX2_parse 64 = .ok (.iconst 0, 1) := by decide +kernel
theorem dX2_parse_65 : decode cX2_parse 65 = .ok (.aload_n 0, 1) := by decide +kernel
theorem dX2_parse_66 : decode cX2_parse 66 = .ok (.getfield 16, 3) := by decide +kernel
theorem dX2_parse_69 : decode cX2_parse 69 = .ok (.iconst 0, 1) := by decide +kernel
theorem dX2_parse_70 : decode cX2_parse 70 = .ok (.iaload, 1) := by decide +kernel
theorem dX2_parse_71 : decode cX2_parse 71 = .ok (.iastore, 1) := by decide +kernel
theorem dX2_parse_72 : decode cX2_parse 72 = .ok (.aload_n 0, 1) := by decide +kernel
theorem dX2_parse_73 : decode cX2_parse 73 = .ok (.bipush 46, 2) := by decide +kernel
theorem dX2_parse_75 : decode cX2_parse 75 = .ok (.invokevirtual 87, 3) := by decide +kernel
theorem dX2_parse_78 : decode cX2_parse 78 = .ok (.ifCond .eq 59, 3) := by decide +kernel
theorem dX2_parse_81 : decode cX2_parse 81 = .ok (.aload_n 0, 1) := by decide +kernel
theorem dX2_parse_82 : decode cX2_parse 82 = .ok (.dup, 1) := by decide +kernel
theorem dX2_parse_83 : decode cX2_parse 83 = .ok (.getfield 80, 3) := by decide +kernel
theorem dX2_parse_86 : decode cX2_parse 86 = .ok (.iconst 1, 1) := by decide +kernel
theorem dX2_parse_87 : decode cX2_parse 87 = .ok (.iadd, 1) := by decide +kernel
theorem dX2_parse_88 : decode cX2_parse 88 = .ok (.putfield 80, 3) := by decide +kernel
theorem dX2_parse_91 : decode cX2_parse 91 = .ok (.aload_n 0, 1) := by decide +kernel
theorem dX2_parse_92 : decode cX2_parse 92 = .ok (.invokevirtual 83, 3) := by decide +kernel
theorem dX2_parse_95 : decode cX2_parse 95 = .ok (.ifCond .ne 5, 3) := by decide +kernel
theorem dX2_parse_98 : decode cX2_parse 98 = .ok (.iconst 0, 1) := by decide +kernel
theorem dX2_parse_99 : decode cX2_parse 99 = .ok (.ireturn, 1) := by decide +kernel
theorem dX2_parse_100 : decode cX2_parse 100 = .ok (.aload_n 0, 1) := by decide +kernel
theorem dX2_parse_101 : decode cX2_parse 101 = .ok (.invokevirtual 83, 3) := by decide +kernel
theorem dX2_parse_104 : decode cX2_parse 104 = .ok (.ifCond .eq 33, 3) := by decide +kernel
theorem dX2_parse_107 : decode cX2_parse 107 = .ok (.aload_n 0, 1) := by decide +kernel
theorem dX2_parse_108 : decode cX2_parse 108 = .ok (.iconst 0, 1) := by decide +kernel
theorem dX2_parse_109 : decode cX2_parse 109 = .ok (.aload_n 0, 1) := by decide +kernel
theorem dX2_parse_110 : decode cX2_parse 110 = .ok (.getfield 7, 3) := by decide +kernel
theorem dX2_parse_113 : decode cX2_parse 113 = .ok (.aload_n 0, 1) := by decide +kernel
theorem dX2_parse_114 : decode cX2_parse 114 = .ok (.getfield 80, 3) := by decide +kernel
theorem dX2_parse_117 : decode cX2_parse 117 = .ok (.iaload, 1) := by decide +kernel
theorem dX2_parse_118 : decode cX2_parse 118 = .ok (.bipush 48, 2) := by decide +kernel
theorem dX2_parse_120 : decode cX2_parse 120 = .ok (.isub, 1) := by decide +kernel
theorem dX2_parse_121 : decode cX2_parse 121 = .ok (.invokevirtual 56, 3) := by decide +kernel
theorem dX2_parse_124 : decode cX2_parse 124 = .ok (.aload_n 0, 1) := by decide +kernel
theorem dX2_parse_125 : decode cX2_parse 125 = .ok (.dup, 1) := by decide +kernel
theorem dX2_parse_126 : decode cX2_parse 126 = .ok (.getfield 80, 3) := by decide +kernel
theorem dX2_parse_129 : decode cX2_parse 129 = .ok (.iconst 1, 1) := by decide +kernel
theorem dX2_parse_130 : decode cX2_parse 130 = .ok (.iadd, 1) := by decide +kernel
theorem dX2_parse_131 : decode cX2_parse 131 = .ok (.putfield 80, 3) := by decide +kernel
theorem dX2_parse_134 : decode cX2_parse 134 = .ok (.goto (-34), 3) := by decide +kernel
theorem dX2_parse_137 : decode cX2_parse 137 = .ok (.aload_n 0, 1) := by decide +kernel
theorem dX2_parse_138 : decode cX2_parse 138 = .ok (.bipush 101, 2) := by decide +kernel
theorem dX2_parse_140 : decode cX2_parse 140 = .ok (.invokevirtual 87, 3) := by decide +kernel
theorem dX2_parse_143 : decode cX2_parse 143 = .ok (.ifCond .eq 118, 3) := by decide +kernel
theorem dX2_parse_146 : decode cX2_parse 146 = .ok (.aload_n 0, 1) := by decide +kernel
theorem dX2_parse_147 : decode cX2_parse 147 = .ok (.dup, 1) := by decide +kernel
theorem dX2_parse_148 : decode cX2_parse 148 = .ok (.getfield 80, 3) := by decide +kernel
theorem dX2_parse_151 : decode cX2_parse 151 = .ok (.iconst 1, 1) := by decide +kernel
theorem dX2_parse_152 : decode cX2_parse 152 = .ok (.iadd, 1) := by decide +kernel
theorem dX2_parse_153 : decode cX2_parse 153 = .ok (.putfield 80, 3) := by decide +kernel
theorem dX2_parse_156 : decode cX2_parse 156 = .ok (.aload_n 0, 1) := by decide +kernel
theorem dX2_parse_157 : decode cX2_parse 157 = .ok (.bipush 45, 2) := by decide +kernel
theorem dX2_parse_159 : decode cX2_parse 159 = .ok (.invokevirtual 87, 3) := by decide +kernel
theorem dX2_parse_162 : decode cX2_parse 162 = .ok (.istore_n 1, 1) := by decide +kernel
theorem dX2_parse_163 : decode cX2_parse 163 = .ok (.iload_n 1, 1) := by decide +kernel
theorem dX2_parse_164 : decode cX2_parse 164 = .ok (.ifCond .eq 13, 3) := by decide +kernel
theorem dX2_parse_167 : decode cX2_parse 167 = .ok (.aload_n 0, 1) := by decide +kernel
theorem dX2_parse_168 : decode cX2_parse 168 = .ok (.dup, 1) := by decide +kernel
theorem dX2_parse_169 : decode cX2_parse 169 = .ok (.getfield 80, 3) := by decide +kernel
theorem dX2_parse_172 : decode cX2_parse 172 = .ok (.iconst 1, 1) := by decide +kernel
theorem dX2_parse_173 : decode cX2_parse 173 = .ok (.iadd, 1) := by decide +kernel
theorem dX2_parse_174 : decode cX2_parse 174 = .ok (.putfield 80, 3) := by decide +kernel
theorem dX2_parse_177 : decode cX2_parse 177 = .ok (.aload_n 0, 1) := by decide +kernel
theorem dX2_parse_178 : decode cX2_parse 178 = .ok (.getfield 80, 3) := by decide +kernel
theorem dX2_parse_181 : decode cX2_parse 181 = .ok (.istore_n 2, 1) := by decide +kernel
theorem dX2_parse_182 : decode cX2_parse 182 = .ok (.iconst 0, 1) := by decide +kernel
theorem dX2_parse_183 : decode cX2_parse 183 = .ok (.istore_n 3, 1) := by decide +kernel
theorem dX2_parse_184 : decode cX2_parse 184 = .ok (.aload_n 0, 1) := by decide +kernel
theorem dX2_parse_185 : decode cX2_parse 185 = .ok (.invokevirtual 83, 3) := by decide +kernel
theorem dX2_parse_188 : decode cX2_parse 188 = .ok (.ifCond .eq 44, 3) := by decide +kernel
theorem dX2_parse_191 : decode cX2_parse 191 = .ok (.aload_n 0, 1) := by decide +kernel
theorem dX2_parse_192 : decode cX2_parse 192 = .ok (.getfield 80, 3) := by decide +kernel
theorem dX2_parse_195 : decode cX2_parse 195 = .ok (.iload_n 2, 1) := by decide +kernel
theorem dX2_parse_196 : decode cX2_parse 196 = .ok (.isub, 1) := by decide +kernel
theorem dX2_parse_197 : decode cX2_parse 197 = .ok (.iconst 4, 1) := by decide +kernel
theorem dX2_parse_198 : decode cX2_parse 198 = .ok (.if_icmp .ge 34, 3) := by decide +kernel
theorem dX2_parse_201 : decode cX2_parse 201 = .ok (.bipush 10, 2) := by decide +kernel
theorem dX2_parse_203 : decode cX2_parse 203 = .ok (.iload_n 3, 1) := by decide +kernel
theorem dX2_parse_204 : decode cX2_parse 204 = .ok (.imul, 1) := by decide +kernel
theorem dX2_parse_205 : decode cX2_parse 205 = .ok (.aload_n 0, 1) := by decide +kernel
theorem dX2_parse_206 : decode cX2_parse 206 = .ok (.getfield 7, 3) := by decide +kernel
theorem dX2_parse_209 : decode cX2_parse 209 = .ok (.aload_n 0, 1) := by decide +kernel
theorem dX2_parse_210 : decode cX2_parse 210 = .ok (.getfield 80, 3) := by decide +kernel
theorem dX2_parse_213 : decode cX2_parse 213 = .ok (.iaload, 1) := by decide +kernel
theorem dX2_parse_214 : decode cX2_parse 214 = .ok (.iadd, 1) := by decide +kernel
theorem dX2_parse_215 : decode cX2_parse 215 = .ok (.bipush 48, 2) := by decide +kernel
theorem dX2_parse_217 : decode cX2_parse 217 = .ok (.isub, 1) := by decide +kernel
theorem dX2_parse_218 : decode cX2_parse 218 = .ok (.istore_n 3, 1) := by decide +kernel
theorem dX2_parse_219 : decode cX2_parse 219 = .ok (.aload_n 0, 1) := by decide +kernel
theorem dX2_parse_220 : decode cX2_parse 220 = .ok (.dup, 1) := by decide +kernel
theorem dX2_parse_221 : decode cX2_parse 221 = .ok (.getfield 80, 3) := by decide +kernel
theorem dX2_parse_224 : decode cX2_parse 224 = .ok (.iconst 1, 1) := by decide +kernel
theorem dX2_parse_225 : decode cX2_parse 225 = .ok (.iadd, 1) := by decide +kernel
theorem dX2_parse_226 : decode cX2_parse 226 = .ok (.putfield 80, 3) := by decide +kernel
theorem dX2_parse_229 : decode cX2_parse 229 = .ok (.goto (-45), 3) := by decide +kernel
theorem dX2_parse_232 : decode cX2_parse 232 = .ok (.aload_n 0, 1) := by decide +kernel
theorem dX2_parse_233 : decode cX2_parse 233 = .ok (.getfield 80, 3) := by decide +kernel
theorem dX2_parse_236 : decode cX2_parse 236 = .ok (.iload_n 2, 1) := by decide +kernel
theorem dX2_parse_237 : decode cX2_parse 237 = .ok (.if_icmp .ne 5, 3) := by decide +kernel
theorem dX2_parse_240 : decode cX2_parse 240 = .ok (.iconst 0, 1) := by decide +kernel
theorem dX2_parse_241 : decode cX2_parse 241 = .ok (.ireturn, 1) := by decide +kernel
theorem dX2_parse_242 : decode cX2_parse 242 = .ok (.aload_n 0, 1) := by decide +kernel
theorem dX2_parse_243 : decode cX2_parse 243 = .ok (.getfield 19, 3) := by decide +kernel
theorem dX2_parse_246 : decode cX2_parse 246 = .ok (.iconst 0, 1) := by decide +kernel
theorem dX2_parse_247 : decode cX2_parse 247 = .ok (.dup2, 1) := by decide +kernel
theorem dX2_parse_248 : decode cX2_parse 248 = .ok (.iaload, 1) := by decide +kernel
theorem dX2_parse_249 : decode cX2_parse 249 = .ok (.iload_n 1, 1) := by decide +kernel
theorem dX2_parse_250 : decode cX2_parse 250 = .ok (.ifCond .eq 8, 3) := by decide +kernel
theorem dX2_parse_253 : decode cX2_parse 253 = .ok (.iload_n 3, 1) := by decide +kernel
theorem dX2_parse_254 : decode cX2_parse 254 = .ok (.ineg, 1) := by decide +kernel
theorem dX2_parse_255 : decode cX2_parse 255 = .ok (.goto 4, 3) := by decide +kernel
theorem dX2_parse_258 : decode cX2_parse 258 = .ok (.iload_n 3, 1) := by decide +kernel
theorem dX2_parse_259 : decode cX2_parse 259 = .ok (.iadd, 1) := by decide +kernel
theorem dX2_parse_260 : decode cX2_parse 260 = .ok (.iastore, 1) := by decide +kernel
theorem dX2_parse_261 : decode cX2_parse 261 = .ok (.aload_n 0, 1) := by decide +kernel
theorem dX2_parse_262 : decode cX2_parse 262 = .ok (.iconst 0, 1) := by decide +kernel
theorem dX2_parse_263 : decode cX2_parse 263 = .ok (.invokevirtual 60, 3) := by decide +kernel
theorem dX2_parse_266 : decode cX2_parse 266 = .ok (.aload_n 0, 1) := by decide +kernel
theorem dX2_parse_267 : decode cX2_parse 267 = .ok (.getfield 80, 3) := by decide +kernel
theorem dX2_parse_270 : decode cX2_parse 270 = .ok (.aload_n 0, 1) := by decide +kernel
theorem dX2_parse_271 : decode cX2_parse 271 = .ok (.getfield 30, 3) := by decide +kernel
theorem dX2_parse_274 : decode cX2_parse 274 = .ok (.if_icmp .ne 7, 3) := by decide +kernel
theorem dX2_parse_277 : decode cX2_parse 277 = .ok (.iconst 1, 1) := by decide +kernel
theorem dX2_parse_278 : decode cX2_parse 278 = .ok (.goto 4, 3) := by decide +kernel
theorem dX2_parse_281 : decode cX2_parse 281 = .ok (.iconst 0, 1) := by decide +kernel
theorem dX2_parse_282 : decode cX2_parse 282 = .ok (.ireturn, 1) := by decide +kernel
theorem dX2_nearest_0 : decode cX2_nearest 0 = .ok (.aload_n 0, 1) := by decide +kernel
theorem dX2_nearest_1 : decode cX2_nearest 1 = .ok (.getfield 16, 3) := by decide +kernel
theorem dX2_nearest_4 : decode cX2_nearest 4 = .ok (.iconst 0, 1) := by decide +kernel
theorem dX2_nearest_5 : decode cX2_nearest 5 = .ok (.iaload, 1) := by decide +kernel
theorem dX2_nearest_6 : decode cX2_nearest 6 = .ok (.ifCond .eq 15, 3) := by decide +kernel
theorem dX2_nearest_9 : decode cX2_nearest 9 = .ok (.aload_n 0, 1) := by decide +kernel
theorem dX2_nearest_10 : decode cX2_nearest 10 = .ok (.getfield 19, 3) := by decide +kernel
theorem dX2_nearest_13 : decode cX2_nearest 13 = .ok (.iconst 0, 1) := by decide +kernel
theorem dX2_nearest_14 : decode cX2_nearest 14 = .ok (.iaload, 1) := by decide +kernel
theorem dX2_nearest_15 : decode cX2_nearest 15 = .ok (.sipush (-400), 3) := by decide +kernel
theorem dX2_nearest_18 : decode cX2_nearest 18 = .ok (.if_icmp .ge 5, 3) := by decide +kernel
theorem dX2_nearest_21 : decode cX2_nearest 21 = .ok (.lconst 0, 1) := by decide +kernel
theorem dX2_nearest_22 : decode cX2_nearest 22 = .ok (.lreturn, 1) := by decide +kernel
theorem dX2_nearest_23 : decode cX2_nearest 23 = .ok (.aload_n 0, 1) := by decide +kernel
theorem dX2_nearest_24 : decode cX2_nearest 24 = .ok (.getfield 19, 3) := by decide +kernel
theorem dX2_nearest_27 : decode cX2_nearest 27 = .ok (.iconst 0, 1) := by decide +kernel
theorem dX2_nearest_28 : decode cX2_nearest 28 = .ok (.iaload, 1) := by decide +kernel
theorem dX2_nearest_29 : decode cX2_nearest 29 = .ok (.sipush 400, 3) := by decide +kernel
theorem dX2_nearest_32 : decode cX2_nearest 32 = .ok (.if_icmp .le 7, 3) := by decide +kernel
theorem dX2_nearest_35 : decode cX2_nearest 35 = .ok (.ldc2_w 91, 3) := by decide +kernel
theorem dX2_nearest_38 : decode cX2_nearest 38 = .ok (.lreturn, 1) := by decide +kernel
theorem dX2_nearest_39 : decode cX2_nearest 39 = .ok (.lconst 0, 1) := by decide +kernel
theorem dX2_nearest_40 : decode cX2_nearest 40 = .ok (.lstore_n 1, 1) := by decide +kernel
theorem dX2_nearest_41 : decode cX2_nearest 41 = .ok (.ldc2_w 93, 3) := by decide +kernel
theorem dX2_nearest_44 : decode cX2_nearest 44 = .ok (.lstore_n 3, 1) := by decide +kernel
theorem dX2_nearest_45 : decode cX2_nearest 45 = .ok (.lload_n 1, 1) := by decide +kernel
theorem dX2_nearest_46 : decode cX2_nearest 46 = .ok (.lload_n 3, 1) := by decide +kernel
theorem dX2_nearest_47 : decode cX2_nearest 47 = .ok (.lcmp, 1) := by decide +kernel
theorem dX2_nearest_48 : decode cX2_nearest 48 = .ok (.ifCond .ge 50, 3) := by decide +kernel
theorem dX2_nearest_51 : decode cX2_nearest 51 = .ok (.lload_n 1, 1) := by decide +kernel
theorem dX2_nearest_52 : decode cX2_nearest 52 = .ok (.lload_n 3, 1) := by decide +kernel
theorem dX2_nearest_53 : decode cX2_nearest 53 = .ok (.lload_n 1, 1) := by decide +kernel
theorem dX2_nearest_54 : decode cX2_nearest 54 = .ok (.lsub, 1) := by decide +kernel
theorem dX2_nearest_55 : decode cX2_nearest 55 = .ok (.lconst 1, 1) := by decide +kernel
theorem dX2_nearest_56 : decode cX2_nearest 56 = .ok (.ladd, 1) := by decide +kernel
theorem dX2_nearest_57 : decode cX2_nearest 57 = .ok (.ldc2_w 95, 3) := by decide +kernel
theorem dX2_nearest_60 : decode cX2_nearest 60 = .ok (.ldiv, 1) := by decide +kernel
theorem dX2_nearest_61 : decode cX2_nearest 61 = .ok (.ladd, 1) := by decide +kernel
theorem dX2_nearest_62 : decode cX2_nearest 62 = .ok (.lstore 5, 2) := by decide +kernel
theorem dX2_nearest_64 : decode cX2_nearest 64 = .ok (.aload_n 0, 1) := by decide +kernel
theorem dX2_nearest_65 : decode cX2_nearest 65 = .ok (.lload 5, 2) := by decide +kernel
theorem dX2_nearest_67 : decode cX2_nearest 67 = .ok (.sipush 1400, 3) := by decide +kernel
theorem dX2_nearest_70 : decode cX2_nearest 70 = .ok (.invokevirtual 97, 3) := by decide +kernel
theorem dX2_nearest_73 : decode cX2_nearest 73 = .ok (.aload_n 0, 1) := by decide +kernel
theorem dX2_nearest_74 : decode cX2_nearest 74 = .ok (.iconst 0, 1) := by decide +kernel
theorem dX2_nearest_75 : decode cX2_nearest 75 = .ok (.sipush 1400, 3) := by decide +kernel
theorem dX2_nearest_78 : decode cX2_nearest 78 = .ok (.invokevirtual 101, 3) := by decide +kernel
theorem dX2_nearest_81 : decode cX2_nearest 81 = .ok (.ifCond .lt 9, 3) := by decide +kernel
theorem dX2_nearest_84 : decode cX2_nearest 84 = .ok (.lload 5, 2) := by decide +kernel
theorem dX2_nearest_86 : decode cX2_nearest 86 = .ok (.lstore_n 1, 1) := by decide +kernel
theorem dX2_nearest_87 : decode cX2_nearest 87 = .ok (.goto 8, 3) := by decide +kernel
theorem dX2_nearest_90 : decode cX2_nearest 90 = .ok (.lload 5, 2) := by decide +kernel
theorem dX2_nearest_92 : decode cX2_nearest 92 = .ok (.lconst 1, 1) := by decide +kernel
theorem dX2_nearest_93 : decode cX2_nearest 93 = .ok (.lsub, 1) := by decide +kernel
theorem dX2_nearest_94 : decode cX2_nearest 94 = .ok (.lstore_n 3, 1) := by decide +kernel
theorem dX2_nearest_95 : decode cX2_nearest 95 = .ok (.goto (-50), 3) := by decide +kernel
theorem dX2_nearest_98 : decode cX2_nearest 98 = .ok (.aload_n 0, 1) := by decide +kernel
theorem dX2_nearest_99 : decode cX2_nearest 99 = .ok (.ldc2_w 95, 3) := by decide +kernel
theorem dX2_nearest_102 : decode cX2_nearest 102 = .ok (.lload_n 1, 1) := by decide +kernel
theorem dX2_nearest_103 : decode cX2_nearest 103 = .ok (.invokestatic 68, 3) := by decide +kernel
theorem dX2_nearest_106 : decode cX2_nearest 106 = .ok (.lmul, 1) := by decide +kernel
theorem dX2_nearest_107 : decode cX2_nearest 107 = .ok (.lconst 1, 1) := by decide +kernel
theorem dX2_nearest_108 : decode cX2_nearest 108 = .ok (.ladd, 1) := by decide +kernel
theorem dX2_nearest_109 : decode cX2_nearest 109 = .ok (.lload_n 1, 1) := by decide +kernel
theorem dX2_nearest_110 : decode cX2_nearest 110 = .ok (.invokestatic 72, 3) := by decide +kernel
theorem dX2_nearest_113 : decode cX2_nearest 113 = .ok (.iconst 1, 1) := by decide +kernel
theorem dX2_nearest_114 : decode cX2_nearest 114 = .ok (.isub, 1) := by decide +kernel
theorem dX2_nearest_115 : decode cX2_nearest 115 = .ok (.sipush 5600, 3) := by decide +kernel
theorem dX2_nearest_118 : decode cX2_nearest 118 = .ok (.invokevirtual 76, 3) := by decide +kernel
theorem dX2_nearest_121 : decode cX2_nearest 121 = .ok (.aload_n 0, 1) := by decide +kernel
theorem dX2_nearest_122 : decode cX2_nearest 122 = .ok (.iconst 0, 1) := by decide +kernel
theorem dX2_nearest_123 : decode cX2_nearest 123 = .ok (.sipush 5600, 3) := by decide +kernel
theorem dX2_nearest_126 : decode cX2_nearest 126 = .ok (.invokevirtual 101, 3) := by decide +kernel
theorem dX2_nearest_129 : decode cX2_nearest 129 = .ok (.istore 5, 2) := by decide +kernel
theorem dX2_nearest_131 : decode cX2_nearest 131 = .ok (.iload 5, 2) := by decide +kernel
theorem dX2_nearest_133 : decode cX2_nearest 133 = .ok (.ifCond .lt 18, 3) := by decide +kernel
theorem dX2_nearest_136 : decode cX2_nearest 136 = .ok (.iload 5, 2) := by decide +kernel
theorem dX2_nearest_138 : decode cX2_nearest 138 = .ok (.ifCond .ne 17, 3) := by decide +kernel
theorem dX2_nearest_141 : decode cX2_nearest 141 = .ok (.lload_n 1, 1) := by decide +kernel
theorem dX2_nearest_142 : decode cX2_nearest 142 = .ok (.ldc2_w 95, 3) := by decide +kernel
theorem dX2_nearest_145 : decode cX2_nearest 145 = .ok (.lrem, 1) := by decide +kernel
theorem dX2_nearest_146 : decode cX2_nearest 146 = .ok (.lconst 0, 1) := by decide +kernel
theorem dX2_nearest_147 : decode cX2_nearest 147 = .ok (.lcmp, 1) := by decide +kernel
theorem dX2_nearest_148 : decode cX2_nearest 148 = .ok (.ifCond .ne 7, 3) := by decide +kernel
theorem dX2_nearest_151 : decode cX2_nearest 151 = .ok (.lload_n 1, 1) := by decide +kernel
theorem dX2_nearest_152 : decode cX2_nearest 152 = .ok (.goto 6, 3) := by decide +kernel
theorem dX2_nearest_155 : decode cX2_nearest 155 = .ok (.lload_n 1, 1) := by decide +kernel
theorem dX2_nearest_156 : decode cX2_nearest 156 = .ok (.lconst 1, 1) := by decide +kernel
theorem dX2_nearest_157 : decode cX2_nearest 157 = .ok (.ladd, 1) := by decide +kernel
theorem dX2_nearest_158 : decode cX2_nearest 158 = .ok (.lreturn, 1) := by decide +kernel
theorem dX2_read_0 : decode cX2_read 0 = .ok (.aload_n 0, 1) := by decide +kernel
theorem dX2_read_1 : decode cX2_read 1 = .ok (.iconst 0, 1) := by decide +kernel
theorem dX2_read_2 : decode cX2_read 2 = .ok (.putfield 80, 3) := by decide +kernel
theorem dX2_read_5 : decode cX2_read 5 = .ok (.aload_n 0, 1) := by decide +kernel
theorem dX2_read_6 : decode cX2_read 6 = .ok (.bipush 45, 2) := by decide +kernel
theorem dX2_read_8 : decode cX2_read 8 = .ok (.invokevirtual 87, 3) := by decide +kernel
theorem dX2_read_11 : decode cX2_read 11 = .ok (.istore_n 1, 1) := by decide +kernel
theorem dX2_read_12 : decode cX2_read 12 = .ok (.iload_n 1, 1) := by decide +kernel
theorem dX2_read_13 : decode cX2_read 13 = .ok (.ifCond .eq 13, 3) := by decide +kernel
theorem dX2_read_16 : decode cX2_read 16 = .ok (.aload_n 0, 1) := by decide +kernel
theorem dX2_read_17 : decode cX2_read 17 = .ok (.dup, 1) := by decide +kernel
theorem dX2_read_18 : decode cX2_read 18 = .ok (.getfield 80, 3) := by decide +kernel
theorem dX2_read_21 : decode cX2_read 21 = .ok (.iconst 1, 1) := by decide +kernel
theorem dX2_read_22 : decode cX2_read 22 = .ok (.iadd, 1) := by decide +kernel
theorem dX2_read_23 : decode cX2_read 23 = .ok (.putfield 80, 3) := by decide +kernel
theorem dX2_read_26 : decode cX2_read 26 = .ok (.aload_n 0, 1) := by decide +kernel
theorem dX2_read_27 : decode cX2_read 27 = .ok (.aload_n 0, 1) := by decide +kernel
theorem dX2_read_28 : decode cX2_read 28 = .ok (.invokevirtual 104, 3) := by decide +kernel
theorem dX2_read_31 : decode cX2_read 31 = .ok (.ifCond .eq 7, 3) := by decide +kernel
theorem dX2_read_34 : decode cX2_read 34 = .ok (.iconst 0, 1) := by decide +kernel
theorem dX2_read_35 : decode cX2_read 35 = .ok (.goto 4, 3) := by decide +kernel
theorem dX2_read_38 : decode cX2_read 38 = .ok (.iconst 1, 1) := by decide +kernel
theorem dX2_read_39 : decode cX2_read 39 = .ok (.putfield 26, 3) := by decide +kernel
theorem dX2_read_42 : decode cX2_read 42 = .ok (.aload_n 0, 1) := by decide +kernel
theorem dX2_read_43 : decode cX2_read 43 = .ok (.getfield 26, 3) := by decide +kernel
theorem dX2_read_46 : decode cX2_read 46 = .ok (.ifCond .eq 5, 3) := by decide +kernel
theorem dX2_read_49 : decode cX2_read 49 = .ok (.lconst 0, 1) := by decide +kernel
theorem dX2_read_50 : decode cX2_read 50 = .ok (.lreturn, 1) := by decide +kernel
theorem dX2_read_51 : decode cX2_read 51 = .ok (.aload_n 0, 1) := by decide +kernel
theorem dX2_read_52 : decode cX2_read 52 = .ok (.invokevirtual 107, 3) := by decide +kernel
theorem dX2_read_55 : decode cX2_read 55 = .ok (.iload_n 1, 1) := by decide +kernel
theorem dX2_read_56 : decode cX2_read 56 = .ok (.ifCond .eq 9, 3) := by decide +kernel
theorem dX2_read_59 : decode cX2_read 59 = .ok (.ldc2_w 111, 3) := by decide +kernel
theorem dX2_read_62 : decode cX2_read 62 = .ok (.goto 4, 3) := by decide +kernel
theorem dX2_read_65 : decode cX2_read 65 = .ok (.lconst 0, 1) := by decide +kernel
theorem dX2_read_66 : decode cX2_read 66 = .ok (.lor, 1) := by decide +kernel
theorem dX2_read_67 : decode cX2_read 67 = .ok (.lreturn, 1) := by decide +kernel
theorem dX2_put_0 : decode cX2_put 0 = .ok (.aload_n 0, 1) := by decide +kernel
theorem dX2_put_1 : decode cX2_put 1 = .ok (.getfield 7, 3) := by decide +kernel
theorem dX2_put_4 : decode cX2_put 4 = .ok (.aload_n 0, 1) := by decide +kernel
theorem dX2_put_5 : decode cX2_put 5 = .ok (.getfield 30, 3) := by decide +kernel
theorem dX2_put_8 : decode cX2_put 8 = .ok (.iload_n 1, 1) := by decide +kernel
theorem dX2_put_9 : decode cX2_put 9 = .ok (.iastore, 1) := by decide +kernel
theorem dX2_put_10 : decode cX2_put 10 = .ok (.aload_n 0, 1) := by decide +kernel
theorem dX2_put_11 : decode cX2_put 11 = .ok (.dup, 1) := by decide +kernel
theorem dX2_put_12 : decode cX2_put 12 = .ok (.getfield 30, 3) := by decide +kernel
theorem dX2_put_15 : decode cX2_put 15 = .ok (.iconst 1, 1) := by decide +kernel
theorem dX2_put_16 : decode cX2_put 16 = .ok (.iadd, 1) := by decide +kernel
theorem dX2_put_17 : decode cX2_put 17 = .ok (.putfield 30, 3) := by decide +kernel
theorem dX2_put_20 : decode cX2_put 20 = .ok (.return_, 1) := by decide +kernel
theorem dX2_begins_0 : decode cX2_begins 0 = .ok (.lload_n 1, 1) := by decide +kernel
theorem dX2_begins_1 : decode cX2_begins 1 = .ok (.ldc2_w 91, 3) := by decide +kernel
theorem dX2_begins_4 : decode cX2_begins 4 = .ok (.land, 1) := by decide +kernel
theorem dX2_begins_5 : decode cX2_begins 5 = .ok (.ldc2_w 91, 3) := by decide +kernel
theorem dX2_begins_8 : decode cX2_begins 8 = .ok (.lcmp, 1) := by decide +kernel
theorem dX2_begins_9 : decode cX2_begins 9 = .ok (.ifCond .ne 5, 3) := by decide +kernel
theorem dX2_begins_12 : decode cX2_begins 12 = .ok (.iconst 0, 1) := by decide +kernel
theorem dX2_begins_13 : decode cX2_begins 13 = .ok (.ireturn, 1) := by decide +kernel
theorem dX2_begins_14 : decode cX2_begins 14 = .ok (.aload_n 0, 1) := by decide +kernel
theorem dX2_begins_15 : decode cX2_begins 15 = .ok (.iconst 0, 1) := by decide +kernel
theorem dX2_begins_16 : decode cX2_begins 16 = .ok (.putfield 30, 3) := by decide +kernel
theorem dX2_begins_19 : decode cX2_begins 19 = .ok (.lload_n 1, 1) := by decide +kernel
theorem dX2_begins_20 : decode cX2_begins 20 = .ok (.lconst 0, 1) := by decide +kernel
theorem dX2_begins_21 : decode cX2_begins 21 = .ok (.lcmp, 1) := by decide +kernel
theorem dX2_begins_22 : decode cX2_begins 22 = .ok (.ifCond .ge 9, 3) := by decide +kernel
theorem dX2_begins_25 : decode cX2_begins 25 = .ok (.aload_n 0, 1) := by decide +kernel
theorem dX2_begins_26 : decode cX2_begins 26 = .ok (.bipush 45, 2) := by decide +kernel
theorem dX2_begins_28 : decode cX2_begins 28 = .ok (.invokevirtual 113, 3) := by decide +kernel
theorem dX2_begins_31 : decode cX2_begins 31 = .ok (.iconst 1, 1) := by decide +kernel
theorem dX2_begins_32 : decode cX2_begins 32 = .ok (.ireturn, 1) := by decide +kernel
theorem dX2_print_0 : decode cX2_print 0 = .ok (.aload_n 0, 1) := by decide +kernel
theorem dX2_print_1 : decode cX2_print 1 = .ok (.iload_n 3, 1) := by decide +kernel
theorem dX2_print_2 : decode cX2_print 2 = .ok (.ifCond .lt 9, 3) := by decide +kernel
theorem dX2_print_5 : decode cX2_print 5 = .ok (.iload_n 3, 1) := by decide +kernel
theorem dX2_print_6 : decode cX2_print 6 = .ok (.bipush 30, 2) := by decide +kernel
theorem dX2_print_8 : decode cX2_print 8 = .ok (.if_icmp .le 7, 3) := by decide +kernel
theorem dX2_print_11 : decode cX2_print 11 = .ok (.iconst 1, 1) := by decide +kernel
theorem dX2_print_12 : decode cX2_print 12 = .ok (.goto 20, 3) := by decide +kernel
theorem dX2_print_15 : decode cX2_print 15 = .ok (.lload_n 1, 1) := by decide +kernel
theorem dX2_print_16 : decode cX2_print 16 = .ok (.ldc2_w 91, 3) := by decide +kernel
theorem dX2_print_19 : decode cX2_print 19 = .ok (.land, 1) := by decide +kernel
theorem dX2_print_20 : decode cX2_print 20 = .ok (.ldc2_w 91, 3) := by decide +kernel
theorem dX2_print_23 : decode cX2_print 23 = .ok (.lcmp, 1) := by decide +kernel
theorem dX2_print_24 : decode cX2_print 24 = .ok (.ifCond .ne 7, 3) := by decide +kernel
theorem dX2_print_27 : decode cX2_print 27 = .ok (.iconst 2, 1) := by decide +kernel
theorem dX2_print_28 : decode cX2_print 28 = .ok (.goto 4, 3) := by decide +kernel
theorem dX2_print_31 : decode cX2_print 31 = .ok (.iconst 0, 1) := by decide +kernel
theorem dX2_print_32 : decode cX2_print 32 = .ok (.putfield 26, 3) := by decide +kernel
theorem dX2_print_35 : decode cX2_print 35 = .ok (.aload_n 0, 1) := by decide +kernel
theorem dX2_print_36 : decode cX2_print 36 = .ok (.getfield 26, 3) := by decide +kernel
theorem dX2_print_39 : decode cX2_print 39 = .ok (.ifCond .ne 11, 3) := by decide +kernel
theorem dX2_print_42 : decode cX2_print 42 = .ok (.aload_n 0, 1) := by decide +kernel
theorem dX2_print_43 : decode cX2_print 43 = .ok (.lload_n 1, 1) := by decide +kernel
theorem dX2_print_44 : decode cX2_print 44 = .ok (.invokevirtual 116, 3) := by decide +kernel
theorem dX2_print_47 : decode cX2_print 47 = .ok (.ifCond .ne 5, 3) := by decide +kernel
theorem dX2_print_50 : decode cX2_print 50 = .ok (.iconst 0, 1) := by decide +kernel
theorem dX2_print_51 : decode cX2_print 51 = .ok (.ireturn, 1) := by decide +kernel
theorem dX2_print_52 : decode cX2_print 52 = .ok (.aload_n 0, 1) := by decide +kernel
theorem dX2_print_53 : decode cX2_print 53 = .ok (.lload_n 1, 1) := by decide +kernel
theorem dX2_print_54 : decode cX2_print 54 = .ok (.ldc2_w 120, 3) := by decide +kernel
theorem dX2_print_57 : decode cX2_print 57 = .ok (.land, 1) := by decide +kernel
theorem dX2_print_58 : decode cX2_print 58 = .ok (.sipush 1400, 3) := by decide +kernel
theorem dX2_print_61 : decode cX2_print 61 = .ok (.invokevirtual 97, 3) := by decide +kernel
theorem dX2_print_64 : decode cX2_print 64 = .ok (.aload_n 0, 1) := by decide +kernel
theorem dX2_print_65 : decode cX2_print 65 = .ok (.aload_n 0, 1) := by decide +kernel
theorem dX2_print_66 : decode cX2_print 66 = .ok (.getfield 19, 3) := by decide +kernel
theorem dX2_print_69 : decode cX2_print 69 = .ok (.sipush 1400, 3) := by decide +kernel
theorem dX2_print_72 : decode cX2_print 72 = .ok (.iaload, 1) := by decide +kernel
theorem dX2_print_73 : decode cX2_print 73 = .ok (.iload_n 3, 1) := by decide +kernel
theorem dX2_print_74 : decode cX2_print 74 = .ok (.iadd, 1) := by decide +kernel
theorem dX2_print_75 : decode cX2_print 75 = .ok (.invokevirtual 122, 3) := by decide +kernel
theorem dX2_print_78 : decode cX2_print 78 = .ok (.iconst 0, 1) := by decide +kernel
theorem dX2_print_79 : decode cX2_print 79 = .ok (.istore 4, 2) := by decide +kernel
theorem dX2_print_81 : decode cX2_print 81 = .ok (.iload 4, 2) := by decide +kernel
theorem dX2_print_83 : decode cX2_print 83 = .ok (.aload_n 0, 1) := by decide +kernel
theorem dX2_print_84 : decode cX2_print 84 = .ok (.getfield 19, 3) := by decide +kernel
theorem dX2_print_87 : decode cX2_print 87 = .ok (.sipush 2800, 3) := by decide +kernel
theorem dX2_print_90 : decode cX2_print 90 = .ok (.iaload, 1) := by decide +kernel
theorem dX2_print_91 : decode cX2_print 91 = .ok (.if_icmp .ge 25, 3) := by decide +kernel
theorem dX2_print_94 : decode cX2_print 94 = .ok (.aload_n 0, 1) := by decide +kernel
theorem dX2_print_95 : decode cX2_print 95 = .ok (.bipush 48, 2) := by decide +kernel
theorem dX2_print_97 : decode cX2_print 97 = .ok (.aload_n 0, 1) := by decide +kernel
theorem dX2_print_98 : decode cX2_print 98 = .ok (.sipush 2800, 3) := by decide +kernel
theorem dX2_print_101 : decode cX2_print 101 = .ok (.iload 4, 2) := by decide +kernel
theorem dX2_print_103 : decode cX2_print 103 = .ok (.invokevirtual 33, 3) := by decide +kernel
theorem dX2_print_106 : decode cX2_print 106 = .ok (.iadd, 1) := by decide +kernel
theorem dX2_print_107 : decode cX2_print 107 = .ok (.invokevirtual 113, 3) := by decide +kernel
theorem dX2_print_110 : decode cX2_print 110 = .ok (.iinc 4 1, 3) := by decide +kernel
theorem dX2_print_113 : decode cX2_print 113 = .ok (.goto (-32), 3) := by decide +kernel
theorem dX2_print_116 : decode cX2_print 116 = .ok (.aload_n 0, 1) := by decide +kernel
theorem dX2_print_117 : decode cX2_print 117 = .ok (.getfield 19, 3) := by decide +kernel
theorem dX2_print_120 : decode cX2_print 120 = .ok (.sipush 2800, 3) := by decide +kernel
theorem dX2_print_123 : decode cX2_print 123 = .ok (.iaload, 1) := by decide +kernel
theorem dX2_print_124 : decode cX2_print 124 = .ok (.ifCond .gt 9, 3) := by decide +kernel
theorem dX2_print_127 : decode cX2_print 127 = .ok (.aload_n 0, 1) := by decide +kernel
theorem dX2_print_128 : decode cX2_print 128 = .ok (.bipush 48, 2) := by decide +kernel
theorem dX2_print_130 : decode cX2_print 130 = .ok (.invokevirtual 113, 3) := by decide +kernel
theorem dX2_print_133 : decode cX2_print 133 = .ok (.iload_n 3, 1) := by decide +kernel
theorem dX2_print_134 : decode cX2_print 134 = .ok (.ifCond .le 9, 3) := by decide +kernel
theorem dX2_print_137 : decode cX2_print 137 = .ok (.aload_n 0, 1) := by decide +kernel
theorem dX2_print_138 : decode cX2_print 138 = .ok (.bipush 46, 2) := by decide +kernel
theorem dX2_print_140 : decode cX2_print 140 = .ok (.invokevirtual 113, 3) := by decide +kernel
theorem dX2_print_143 : decode cX2_print 143 = .ok (.iconst 0, 1) := by decide +kernel
theorem dX2_print_144 : decode cX2_print 144 = .ok (.istore 4, 2) := by decide +kernel
theorem dX2_print_146 : decode cX2_print 146 = .ok (.iload 4, 2) := by decide +kernel
theorem dX2_print_148 : decode cX2_print 148 = .ok (.iload_n 3, 1) := by decide +kernel
theorem dX2_print_149 : decode cX2_print 149 = .ok (.if_icmp .ge 34, 3) := by decide +kernel
theorem dX2_print_152 : decode cX2_print 152 = .ok (.aload_n 0, 1) := by decide +kernel
theorem dX2_print_153 : decode cX2_print 153 = .ok (.bipush 48, 2) := by decide +kernel
theorem dX2_print_155 : decode cX2_print 155 = .ok (.aload_n 0, 1) := by decide +kernel
theorem dX2_print_156 : decode cX2_print 156 = .ok (.sipush 2800, 3) := by decide +kernel
theorem dX2_print_159 : decode cX2_print 159 = .ok (.aload_n 0, 1) := by decide +kernel
theorem dX2_print_160 : decode cX2_print 160 = .ok (.getfield 19, 3) := by decide +kernel
theorem dX2_print_163 : decode cX2_print 163 = .ok (.sipush 2800, 3) := by decide +kernel
theorem dX2_print_166 : decode cX2_print 166 = .ok (.iaload, 1) := by decide +kernel
theorem dX2_print_167 : decode cX2_print 167 = .ok (.iload 4, 2) := by decide +kernel
theorem dX2_print_169 : decode cX2_print 169 = .ok (.iadd, 1) := by decide +kernel
theorem dX2_print_170 : decode cX2_print 170 = .ok (.invokevirtual 33, 3) := by decide +kernel
theorem dX2_print_173 : decode cX2_print 173 = .ok (.iadd, 1) := by decide +kernel
theorem dX2_print_174 : decode cX2_print 174 = .ok (.invokevirtual 113, 3) := by decide +kernel
theorem dX2_print_177 : decode cX2_print 177 = .ok (.iinc 4 1, 3) := by decide +kernel
theorem dX2_print_180 : decode cX2_print 180 = .ok (.goto (-34), 3) := by decide +kernel
theorem dX2_print_183 : decode cX2_print 183 = .ok (.aload_n 0, 1) := by decide +kernel
theorem dX2_print_184 : decode cX2_print 184 = .ok (.getfield 30, 3) := by decide +kernel
theorem dX2_print_187 : decode cX2_print 187 = .ok (.ireturn, 1) := by decide +kernel
theorem dX2_shortest_0 : decode cX2_shortest 0 = .ok (.aload_n 0, 1) := by decide +kernel
theorem dX2_shortest_1 : decode cX2_shortest 1 = .ok (.aload_n 0, 1) := by decide +kernel
theorem dX2_shortest_2 : decode cX2_shortest 2 = .ok (.lload_n 1, 1) := by decide +kernel
theorem dX2_shortest_3 : decode cX2_shortest 3 = .ok (.invokevirtual 116, 3) := by decide +kernel
theorem dX2_shortest_6 : decode cX2_shortest 6 = .ok (.ifCond .eq 7, 3) := by decide +kernel
theorem dX2_shortest_9 : decode cX2_shortest 9 = .ok (.iconst 0, 1) := by decide +kernel
theorem dX2_shortest_10 : decode cX2_shortest 10 = .ok (.goto 4, 3) := by decide +kernel
theorem dX2_shortest_13 : decode cX2_shortest 13 = .ok (.iconst 1, 1) := by decide +kernel
theorem dX2_shortest_14 : decode cX2_shortest 14 = .ok (.putfield 26, 3) := by decide +kernel
theorem dX2_shortest_17 : decode cX2_shortest 17 = .ok (.aload_n 0, 1) := by decide +kernel
theorem dX2_shortest_18 : decode cX2_shortest 18 = .ok (.getfield 26, 3) := by decide +kernel
theorem dX2_shortest_21 : decode cX2_shortest 21 = .ok (.ifCond .eq 5, 3) := by decide +kernel
theorem dX2_shortest_24 : decode cX2_shortest 24 = .ok (.iconst 0, 1) := by decide +kernel
theorem dX2_shortest_25 : decode cX2_shortest 25 = .ok (.ireturn, 1) := by decide +kernel
theorem dX2_shortest_26 : decode cX2_shortest 26 = .ok (.lload_n 1, 1) := by decide +kernel
theorem dX2_shortest_27 : decode cX2_shortest 27 = .ok (.ldc2_w 120, 3) := by decide +kernel
theorem dX2_shortest_30 : decode cX2_shortest 30 = .ok (.land, 1) := by decide +kernel
theorem dX2_shortest_31 : decode cX2_shortest 31 = .ok (.lstore_n 3, 1) := by decide +kernel
theorem dX2_shortest_32 : decode cX2_shortest 32 = .ok (.lload_n 3, 1) := by decide +kernel
theorem dX2_shortest_33 : decode cX2_shortest 33 = .ok (.lconst 0, 1) := by decide +kernel
theorem dX2_shortest_34 : decode cX2_shortest 34 = .ok (.lcmp, 1) := by decide +kernel
theorem dX2_shortest_35 : decode cX2_shortest 35 = .ok (.ifCond .ne 26, 3) := by decide +kernel
theorem dX2_shortest_38 : decode cX2_shortest 38 = .ok (.aload_n 0, 1) := by decide +kernel
theorem dX2_shortest_39 : decode cX2_shortest 39 = .ok (.bipush 48, 2) := by decide +kernel
theorem dX2_shortest_41 : decode cX2_shortest 41 = .ok (.invokevirtual 113, 3) := by decide +kernel
theorem dX2_shortest_44 : decode cX2_shortest 44 = .ok (.aload_n 0, 1) := by decide +kernel
theorem dX2_shortest_45 : decode cX2_shortest 45 = .ok (.bipush 101, 2) := by decide +kernel
theorem dX2_shortest_47 : decode cX2_shortest 47 = .ok (.invokevirtual 113, 3) := by decide +kernel
theorem dX2_shortest_50 : decode cX2_shortest 50 = .ok (.aload_n 0, 1) := by decide +kernel
theorem dX2_shortest_51 : decode cX2_shortest 51 = .ok (.bipush 48, 2) := by decide +kernel
theorem dX2_shortest_53 : decode cX2_shortest 53 = .ok (.invokevirtual 113, 3) := by decide +kernel
theorem dX2_shortest_56 : decode cX2_shortest 56 = .ok (.aload_n 0, 1) := by decide +kernel
theorem dX2_shortest_57 : decode cX2_shortest 57 = .ok (.getfield 30, 3) := by decide +kernel
theorem dX2_shortest_60 : decode cX2_shortest 60 = .ok (.ireturn, 1) := by decide +kernel
theorem dX2_shortest_61 : decode cX2_shortest 61 = .ok (.aload_n 0, 1) := by decide +kernel
theorem dX2_shortest_62 : decode cX2_shortest 62 = .ok (.lload_n 3, 1) := by decide +kernel
theorem dX2_shortest_63 : decode cX2_shortest 63 = .ok (.sipush 1400, 3) := by decide +kernel
theorem dX2_shortest_66 : decode cX2_shortest 66 = .ok (.invokevirtual 97, 3) := by decide +kernel
theorem dX2_shortest_69 : decode cX2_shortest 69 = .ok (.lload_n 3, 1) := by decide +kernel
theorem dX2_shortest_70 : decode cX2_shortest 70 = .ok (.ldc2_w 64, 3) := by decide +kernel
theorem dX2_shortest_73 : decode cX2_shortest 73 = .ok (.land, 1) := by decide +kernel
theorem dX2_shortest_74 : decode cX2_shortest 74 = .ok (.lconst 0, 1) := by decide +kernel
theorem dX2_shortest_75 : decode cX2_shortest 75 = .ok (.lcmp, 1) := by decide +kernel
theorem dX2_shortest_76 : decode cX2_shortest 76 = .ok (.ifCond .ne 16, 3) := by decide +kernel
theorem dX2_shortest_79 : decode cX2_shortest 79 = .ok (.lload_n 3, 1) := by decide +kernel
theorem dX2_shortest_80 : decode cX2_shortest 80 = .ok (.bipush 52, 2) := by decide +kernel
theorem dX2_shortest_82 : decode cX2_shortest 82 = .ok (.lushr, 1) := by decide +kernel
theorem dX2_shortest_83 : decode cX2_shortest 83 = .ok (.lconst 1, 1) := by decide +kernel
theorem dX2_shortest_84 : decode cX2_shortest 84 = .ok (.lcmp, 1) := by decide +kernel
theorem dX2_shortest_85 : decode cX2_shortest 85 = .ok (.ifCond .le 7, 3) := by decide +kernel
theorem dX2_shortest_88 : decode cX2_shortest 88 = .ok (.iconst 1, 1) := by decide +kernel
theorem dX2_shortest_89 : decode cX2_shortest 89 = .ok (.goto 4, 3) := by decide +kernel
theorem dX2_shortest_92 : decode cX2_shortest 92 = .ok (.iconst 0, 1) := by decide +kernel
theorem dX2_shortest_93 : decode cX2_shortest 93 = .ok (.istore 5, 2) := by decide +kernel
theorem dX2_shortest_95 : decode cX2_shortest 95 = .ok (.aload_n 0, 1) := by decide +kernel
theorem dX2_shortest_96 : decode cX2_shortest 96 = .ok (.iload 5, 2) := by decide +kernel
theorem dX2_shortest_98 : decode cX2_shortest 98 = .ok (.ifCond .eq 16, 3) := by decide +kernel
theorem dX2_shortest_101 : decode cX2_shortest 101 = .ok (.ldc2_w 125, 3) := by decide +kernel
theorem dX2_shortest_104 : decode cX2_shortest 104 = .ok (.lload_n 3, 1) := by decide +kernel
theorem dX2_shortest_105 : decode cX2_shortest 105 = .ok (.invokestatic 68, 3) := by decide +kernel
theorem dX2_shortest_108 : decode cX2_shortest 108 = .ok (.lmul, 1) := by decide +kernel
theorem dX2_shortest_109 : decode cX2_shortest 109 = .ok (.lconst 1, 1) := by decide +kernel
theorem dX2_shortest_110 : decode cX2_shortest 110 = .ok (.lsub, 1) := by decide +kernel
theorem dX2_shortest_111 : decode cX2_shortest 111 = .ok (.goto 13, 3) := by decide +kernel
theorem dX2_shortest_114 : decode cX2_shortest 114 = .ok (.ldc2_w 95, 3) := by decide +kernel
theorem dX2_shortest_117 : decode cX2_shortest 117 = .ok (.lload_n 3, 1) := by decide +kernel
theorem dX2_shortest_118 : decode cX2_shortest 118 = .ok (.invokestatic 68, 3) := by decide +kernel
theorem dX2_shortest_121 : decode cX2_shortest 121 = .ok (.lmul, 1) := by decide +kernel
theorem dX2_shortest_122 : decode cX2_shortest 122 = .ok (.lconst 1, 1) := by decide +kernel
theorem dX2_shortest_123 : decode cX2_shortest 123 = .ok (.lsub, 1) := by decide +kernel
theorem dX2_shortest_124 : decode cX2_shortest 124 = .ok (.lload_n 3, 1) := by decide +kernel
theorem dX2_shortest_125 : decode cX2_shortest 125 = .ok (.invokestatic 72, 3) := by decide +kernel
theorem dX2_shortest_128 : decode cX2_shortest 128 = .ok (.iload 5, 2) := by decide +kernel
theorem dX2_shortest_130 : decode cX2_shortest 130 = .ok (.ifCond .eq 7, 3) := by decide +kernel
theorem dX2_shortest_133 : decode cX2_shortest 133 = .ok (.iconst 2, 1) := by decide +kernel
theorem dX2_shortest_134 : decode cX2_shortest 134 = .ok (.goto 4, 3) := by decide +kernel
theorem dX2_shortest_137 : decode cX2_shortest 137 = .ok (.iconst 1, 1) := by decide +kernel
theorem dX2_shortest_138 : decode cX2_shortest 138 = .ok (.isub, 1) := by decide +kernel
theorem dX2_shortest_139 : decode cX2_shortest 139 = .ok (.sipush 4200, 3) := by decide +kernel
theorem dX2_shortest_142 : decode cX2_shortest 142 = .ok (.invokevirtual 76, 3) := by decide +kernel
theorem dX2_shortest_145 : decode cX2_shortest 145 = .ok (.aload_n 0, 1) := by decide +kernel
theorem dX2_shortest_146 : decode cX2_shortest 146 = .ok (.ldc2_w 95, 3) := by decide +kernel
theorem dX2_shortest_149 : decode cX2_shortest 149 = .ok (.lload_n 3, 1) := by decide +kernel
theorem dX2_shortest_150 : decode cX2_shortest 150 = .ok (.invokestatic 68, 3) := by decide +kernel
theorem dX2_shortest_153 : decode cX2_shortest 153 = .ok (.lmul, 1) := by decide +kernel
theorem dX2_shortest_154 : decode cX2_shortest 154 = .ok (.lconst 1, 1) := by decide +kernel
theorem dX2_shortest_155 : decode cX2_shortest 155 = .ok (.ladd, 1) := by decide +kernel
theorem dX2_shortest_156 : decode cX2_shortest 156 = .ok (.lload_n 3, 1) := by decide +kernel
theorem dX2_shortest_157 : decode cX2_shortest 157 = .ok (.invokestatic 72, 3) := by decide +kernel
theorem dX2_shortest_160 : decode cX2_shortest 160 = .ok (.iconst 1, 1) := by decide +kernel
theorem dX2_shortest_161 : decode cX2_shortest 161 = .ok (.isub, 1) := by decide +kernel
theorem dX2_shortest_162 : decode cX2_shortest 162 = .ok (.sipush 5600, 3) := by decide +kernel
theorem dX2_shortest_165 : decode cX2_shortest 165 = .ok (.invokevirtual 76, 3) := by decide +kernel
theorem dX2_shortest_168 : decode cX2_shortest 168 = .ok (.iconst 1, 1) := by decide +kernel
theorem dX2_shortest_169 : decode cX2_shortest 169 = .ok (.istore 6, 2) := by decide +kernel
theorem dX2_shortest_171 : decode cX2_shortest 171 = .ok (.aload_n 0, 1) := by decide +kernel
theorem dX2_shortest_172 : decode cX2_shortest 172 = .ok (.iload 6, 2) := by decide +kernel
theorem dX2_shortest_174 : decode cX2_shortest 174 = .ok (.lload_n 3, 1) := by decide +kernel
theorem dX2_shortest_175 : decode cX2_shortest 175 = .ok (.ldc2_w 95, 3) := by decide +kernel
theorem dX2_shortest_178 : decode cX2_shortest 178 = .ok (.lrem, 1) := by decide +kernel
theorem dX2_shortest_179 : decode cX2_shortest 179 = .ok (.lconst 0, 1) := by decide +kernel
theorem dX2_shortest_180 : decode cX2_shortest 180 = .ok (.lcmp, 1) := by decide +kernel
theorem dX2_shortest_181 : decode cX2_shortest 181 = .ok (.ifCond .ne 7, 3) := by decide +kernel
theorem dX2_shortest_184 : decode cX2_shortest 184 = .ok (.iconst 1, 1) := by decide +kernel
theorem dX2_shortest_185 : decode cX2_shortest 185 = .ok (.goto 4, 3) := by decide +kernel
theorem dX2_shortest_188 : decode cX2_shortest 188 = .ok (.iconst 0, 1) := by decide +kernel
theorem dX2_shortest_189 : decode cX2_shortest 189 = .ok (.invokevirtual 127, 3) := by decide +kernel
theorem dX2_shortest_192 : decode cX2_shortest 192 = .ok (.ifCond .ne 9, 3) := by decide +kernel
theorem dX2_shortest_195 : decode cX2_shortest 195 = .ok (.iinc 6 1, 3) := by decide +kernel
theorem dX2_shortest_198 : decode cX2_shortest 198 = .ok (.goto (-27), 3) := by decide +kernel
theorem dX2_shortest_201 : decode cX2_shortest 201 = .ok (.aload_n 0, 1) := by decide +kernel
theorem dX2_shortest_202 : decode cX2_shortest 202 = .ok (.bipush 48, 2) := by decide +kernel
theorem dX2_shortest_204 : decode cX2_shortest 204 = .ok (.aload_n 0, 1) := by decide +kernel
theorem dX2_shortest_205 : decode cX2_shortest 205 = .ok (.sipush 2800, 3) := by decide +kernel
theorem dX2_shortest_208 : decode cX2_shortest 208 = .ok (.iconst 0, 1) := by decide +kernel
theorem dX2_shortest_209 : decode cX2_shortest 209 = .ok (.invokevirtual 33, 3) := by decide +kernel
theorem dX2_shortest_212 : decode cX2_shortest 212 = .ok (.iadd, 1) := by decide +kernel
theorem dX2_shortest_213 : decode cX2_shortest 213 = .ok (.invokevirtual 113, 3) := by decide +kernel
theorem dX2_shortest_216 : decode cX2_shortest 216 = .ok (.iload 6, 2) := by decide +kernel
theorem dX2_shortest_218 : decode cX2_shortest 218 = .ok (.iconst 1, 1) := by decide +kernel
theorem dX2_shortest_219 : decode cX2_shortest 219 = .ok (.if_icmp .le 9, 3) := by decide +kernel
theorem dX2_shortest_222 : decode cX2_shortest 222 = .ok (.aload_n 0, 1) := by decide +kernel
theorem dX2_shortest_223 : decode cX2_shortest 223 = .ok (.bipush 46, 2) := by decide +kernel
theorem dX2_shortest_225 : decode cX2_shortest 225 = .ok (.invokevirtual 113, 3) := by decide +kernel
theorem dX2_shortest_228 : decode cX2_shortest 228 = .ok (.iconst 1, 1) := by decide +kernel
theorem dX2_shortest_229 : decode cX2_shortest 229 = .ok (.istore 7, 2) := by decide +kernel
theorem dX2_shortest_231 : decode cX2_shortest 231 = .ok (.iload 7, 2) := by decide +kernel
theorem dX2_shortest_233 : decode cX2_shortest 233 = .ok (.iload 6, 2) := by decide +kernel
theorem dX2_shortest_235 : decode cX2_shortest 235 = .ok (.if_icmp .ge 25, 3) := by decide +kernel
theorem dX2_shortest_238 : decode cX2_shortest 238 = .ok (.aload_n 0, 1) := by decide +kernel
theorem dX2_shortest_239 : decode cX2_shortest 239 = .ok (.bipush 48, 2) := by decide +kernel
theorem dX2_shortest_241 : decode cX2_shortest 241 = .ok (.aload_n 0, 1) := by decide +kernel
theorem dX2_shortest_242 : decode cX2_shortest 242 = .ok (.sipush 2800, 3) := by decide +kernel
theorem dX2_shortest_245 : decode cX2_shortest 245 = .ok (.iload 7, 2) := by decide +kernel
theorem dX2_shortest_247 : decode cX2_shortest 247 = .ok (.invokevirtual 33, 3) := by decide +kernel
theorem dX2_shortest_250 : decode cX2_shortest 250 = .ok (.iadd, 1) := by decide +kernel
theorem dX2_shortest_251 : decode cX2_shortest 251 = .ok (.invokevirtual 113, 3) := by decide +kernel
theorem dX2_shortest_254 : decode cX2_shortest 254 = .ok (.iinc 7 1, 3) := by decide +kernel
theorem dX2_shortest_257 : decode cX2_shortest 257 = .ok (.goto (-26), 3) := by decide +kernel
theorem dX2_shortest_260 : decode cX2_shortest 260 = .ok (.aload_n 0, 1) := by decide +kernel
theorem dX2_shortest_261 : decode cX2_shortest 261 = .ok (.bipush 101, 2) := by decide +kernel
theorem dX2_shortest_263 : decode cX2_shortest 263 = .ok (.invokevirtual 113, 3) := by decide +kernel
theorem dX2_shortest_266 : decode cX2_shortest 266 = .ok (.aload_n 0, 1) := by decide +kernel
theorem dX2_shortest_267 : decode cX2_shortest 267 = .ok (.getfield 19, 3) := by decide +kernel
theorem dX2_shortest_270 : decode cX2_shortest 270 = .ok (.sipush 2800, 3) := by decide +kernel
theorem dX2_shortest_273 : decode cX2_shortest 273 = .ok (.iaload, 1) := by decide +kernel
theorem dX2_shortest_274 : decode cX2_shortest 274 = .ok (.iconst 1, 1) := by decide +kernel
theorem dX2_shortest_275 : decode cX2_shortest 275 = .ok (.isub, 1) := by decide +kernel
theorem dX2_shortest_276 : decode cX2_shortest 276 = .ok (.istore 7, 2) := by decide +kernel
theorem dX2_shortest_278 : decode cX2_shortest 278 = .ok (.iload 7, 2) := by decide +kernel
theorem dX2_shortest_280 : decode cX2_shortest 280 = .ok (.ifCond .ge 9, 3) := by decide +kernel
theorem dX2_shortest_283 : decode cX2_shortest 283 = .ok (.aload_n 0, 1) := by decide +kernel
theorem dX2_shortest_284 : decode cX2_shortest 284 = .ok (.bipush 45, 2) := by decide +kernel
theorem dX2_shortest_286 : decode cX2_shortest 286 = .ok (.invokevirtual 113, 3) := by decide +kernel
theorem dX2_shortest_289 : decode cX2_shortest 289 = .ok (.iload 7, 2) := by decide +kernel
theorem dX2_shortest_291 : decode cX2_shortest 291 = .ok (.ifCond .ge 9, 3) := by decide +kernel
theorem dX2_shortest_294 : decode cX2_shortest 294 = .ok (.iload 7, 2) := by decide +kernel
theorem dX2_shortest_296 : decode cX2_shortest 296 = .ok (.ineg, 1) := by decide +kernel
theorem dX2_shortest_297 : decode cX2_shortest 297 = .ok (.goto 5, 3) := by decide +kernel
theorem dX2_shortest_300 : decode cX2_shortest 300 = .ok (.iload 7, 2) := by decide +kernel
theorem dX2_shortest_302 : decode cX2_shortest 302 = .ok (.istore 8, 2) := by decide +kernel
theorem dX2_shortest_304 : decode cX2_shortest 304 = .ok (.bipush 100, 2) := by decide +kernel
theorem dX2_shortest_306 : decode cX2_shortest 306 = .ok (.istore 9, 2) := by decide +kernel
theorem dX2_shortest_308 : decode cX2_shortest 308 = .ok (.iload 9, 2) := by decide +kernel
theorem dX2_shortest_310 : decode cX2_shortest 310 = .ok (.ifCond .le 41, 3) := by decide +kernel
theorem dX2_shortest_313 : decode cX2_shortest 313 = .ok (.iload 8, 2) := by decide +kernel
theorem dX2_shortest_315 : decode cX2_shortest 315 = .ok (.iload 9, 2) := by decide +kernel
theorem dX2_shortest_317 : decode cX2_shortest 317 = .ok (.if_icmp .ge 9, 3) := by decide +kernel
theorem dX2_shortest_320 : decode cX2_shortest 320 = .ok (.iload 9, 2) := by decide +kernel
theorem dX2_shortest_322 : decode cX2_shortest 322 = .ok (.iconst 1, 1) := by decide +kernel
theorem dX2_shortest_323 : decode cX2_shortest 323 = .ok (.if_icmp .ne 18, 3) := by decide +kernel
theorem dX2_shortest_326 : decode cX2_shortest 326 = .ok (.aload_n 0, 1) := by decide +kernel
theorem dX2_shortest_327 : decode cX2_shortest 327 = .ok (.bipush 48, 2) := by decide +kernel
theorem dX2_shortest_329 : decode cX2_shortest 329 = .ok (.iload 8, 2) := by decide +kernel
theorem dX2_shortest_331 : decode cX2_shortest 331 = .ok (.iload 9, 2) := by decide +kernel
theorem dX2_shortest_333 : decode cX2_shortest 333 = .ok (.idiv, 1) := by decide +kernel
theorem dX2_shortest_334 : decode cX2_shortest 334 = .ok (.bipush 10, 2) := by decide +kernel
theorem dX2_shortest_336 : decode cX2_shortest 336 = .ok (.irem, 1) := by decide +kernel
theorem dX2_shortest_337 : decode cX2_shortest 337 = .ok (.iadd, 1) := by decide +kernel
theorem dX2_shortest_338 : decode cX2_shortest 338 = .ok (.invokevirtual 113, 3) := by decide +kernel
theorem dX2_shortest_341 : decode cX2_shortest 341 = .ok (.iload 9, 2) := by decide +kernel
theorem dX2_shortest_343 : decode cX2_shortest 343 = .ok (.bipush 10, 2) := by decide +kernel
theorem dX2_shortest_345 : decode cX2_shortest 345 = .ok (.idiv, 1) := by decide +kernel
theorem dX2_shortest_346 : decode cX2_shortest 346 = .ok (.istore 9, 2) := by decide +kernel
theorem dX2_shortest_348 : decode cX2_shortest 348 = .ok (.goto (-40), 3) := by decide +kernel
theorem dX2_shortest_351 : decode cX2_shortest 351 = .ok (.aload_n 0, 1) := by decide +kernel
theorem dX2_shortest_352 : decode cX2_shortest 352 = .ok (.getfield 30, 3) := by decide +kernel
theorem dX2_shortest_355 : decode cX2_shortest 355 = .ok (.ireturn, 1) := by decide +kernel
theorem dX2_readsAsIt_0 : decode cX2_readsAsIt 0 = .ok (.aload_n 0, 1) := by decide +kernel
theorem dX2_readsAsIt_1 : decode cX2_readsAsIt 1 = .ok (.iload_n 1, 1) := by decide +kernel
theorem dX2_readsAsIt_2 : decode cX2_readsAsIt 2 = .ok (.invokevirtual 122, 3) := by decide +kernel
theorem dX2_readsAsIt_5 : decode cX2_readsAsIt 5 = .ok (.aload_n 0, 1) := by decide +kernel
theorem dX2_readsAsIt_6 : decode cX2_readsAsIt 6 = .ok (.sipush 2800, 3) := by decide +kernel
theorem dX2_readsAsIt_9 : decode cX2_readsAsIt 9 = .ok (.sipush 4200, 3) := by decide +kernel
theorem dX2_readsAsIt_12 : decode cX2_readsAsIt 12 = .ok (.invokevirtual 101, 3) := by decide +kernel
theorem dX2_readsAsIt_15 : decode cX2_readsAsIt 15 = .ok (.istore_n 3, 1) := by decide +kernel
theorem dX2_readsAsIt_16 : decode cX2_readsAsIt 16 = .ok (.aload_n 0, 1) := by decide +kernel
theorem dX2_readsAsIt_17 : decode cX2_readsAsIt 17 = .ok (.sipush 2800, 3) := by decide +kernel
theorem dX2_readsAsIt_20 : decode cX2_readsAsIt 20 = .ok (.sipush 5600, 3) := by decide +kernel
theorem dX2_readsAsIt_23 : decode cX2_readsAsIt 23 = .ok (.invokevirtual 101, 3) := by decide +kernel
theorem dX2_readsAsIt_26 : decode cX2_readsAsIt 26 = .ok (.istore 4, 2) := by decide +kernel
theorem dX2_readsAsIt_28 : decode cX2_readsAsIt 28 = .ok (.iload_n 3, 1) := by decide +kernel
theorem dX2_readsAsIt_29 : decode cX2_readsAsIt 29 = .ok (.ifCond .gt 11, 3) := by decide +kernel
theorem dX2_readsAsIt_32 : decode cX2_readsAsIt 32 = .ok (.iload_n 3, 1) := by decide +kernel
theorem dX2_readsAsIt_33 : decode cX2_readsAsIt 33 = .ok (.ifCond .ne 25, 3) := by decide +kernel
theorem dX2_readsAsIt_36 : decode cX2_readsAsIt 36 = .ok (.iload_n 2, 1) := by decide +kernel
theorem dX2_readsAsIt_37 : decode cX2_readsAsIt 37 = .ok (.ifCond .eq 21, 3) := by decide +kernel
theorem dX2_readsAsIt_40 : decode cX2_readsAsIt 40 = .ok (.iload 4, 2) := by decide +kernel
theorem dX2_readsAsIt_42 : decode cX2_readsAsIt 42 = .ok (.ifCond .lt 12, 3) := by decide +kernel
theorem dX2_readsAsIt_45 : decode cX2_readsAsIt 45 = .ok (.iload 4, 2) := by decide +kernel
theorem dX2_readsAsIt_47 : decode cX2_readsAsIt 47 = .ok (.ifCond .ne 11, 3) := by decide +kernel
theorem dX2_readsAsIt_50 : decode cX2_readsAsIt 50 = .ok (.iload_n 2, 1) := by decide +kernel
theorem dX2_readsAsIt_51 : decode cX2_readsAsIt 51 = .ok (.ifCond .eq 7, 3) := by decide +kernel
theorem dX2_readsAsIt_54 : decode cX2_readsAsIt 54 = .ok (.iconst 1, 1) := by decide +kernel
theorem dX2_readsAsIt_55 : decode cX2_readsAsIt 55 = .ok (.goto 4, 3) := by decide +kernel
theorem dX2_readsAsIt_58 : decode cX2_readsAsIt 58 = .ok (.iconst 0, 1) := by decide +kernel
theorem dX2_readsAsIt_59 : decode cX2_readsAsIt 59 = .ok (.ireturn, 1) := by decide +kernel
theorem dX2_letter_0 : decode cX2_letter 0 = .ok (.aload_n 0, 1) := by decide +kernel
theorem dX2_letter_1 : decode cX2_letter 1 = .ok (.iload_n 1, 1) := by decide +kernel
theorem dX2_letter_2 : decode cX2_letter 2 = .ok (.ifCond .lt 11, 3) := by decide +kernel
theorem dX2_letter_5 : decode cX2_letter 5 = .ok (.iload_n 1, 1) := by decide +kernel
theorem dX2_letter_6 : decode cX2_letter 6 = .ok (.aload_n 0, 1) := by decide +kernel
theorem dX2_letter_7 : decode cX2_letter 7 = .ok (.getfield 30, 3) := by decide +kernel
theorem dX2_letter_10 : decode cX2_letter 10 = .ok (.if_icmp .lt 7, 3) := by decide +kernel
theorem dX2_letter_13 : decode cX2_letter 13 = .ok (.iconst 1, 1) := by decide +kernel
theorem dX2_letter_14 : decode cX2_letter 14 = .ok (.goto 4, 3) := by decide +kernel
theorem dX2_letter_17 : decode cX2_letter 17 = .ok (.iconst 0, 1) := by decide +kernel
theorem dX2_letter_18 : decode cX2_letter 18 = .ok (.putfield 26, 3) := by decide +kernel
theorem dX2_letter_21 : decode cX2_letter 21 = .ok (.aload_n 0, 1) := by decide +kernel
theorem dX2_letter_22 : decode cX2_letter 22 = .ok (.getfield 26, 3) := by decide +kernel
theorem dX2_letter_25 : decode cX2_letter 25 = .ok (.ifCond .eq 7, 3) := by decide +kernel
theorem dX2_letter_28 : decode cX2_letter 28 = .ok (.iconst 0, 1) := by decide +kernel
theorem dX2_letter_29 : decode cX2_letter 29 = .ok (.goto 9, 3) := by decide +kernel
theorem dX2_letter_32 : decode cX2_letter 32 = .ok (.aload_n 0, 1) := by decide +kernel
theorem dX2_letter_33 : decode cX2_letter 33 = .ok (.getfield 7, 3) := by decide +kernel
theorem dX2_letter_36 : decode cX2_letter 36 = .ok (.iload_n 1, 1) := by decide +kernel
theorem dX2_letter_37 : decode cX2_letter 37 = .ok (.iaload, 1) := by decide +kernel
theorem dX2_letter_38 : decode cX2_letter 38 = .ok (.ireturn, 1) := by decide +kernel
theorem dJ6_numberOfLeadingZeros_0f7a4_0 : decode cJ6_numberOfLeadingZeros_0f7a4 0 = .ok (.iload_n 0, 1) := by decide +kernel
theorem dJ6_numberOfLeadingZeros_0f7a4_1 : decode cJ6_numberOfLeadingZeros_0f7a4 1 = .ok (.ifCond .gt 14, 3) := by decide +kernel
theorem dJ6_numberOfLeadingZeros_0f7a4_4 : decode cJ6_numberOfLeadingZeros_0f7a4 4 = .ok (.iload_n 0, 1) := by decide +kernel
theorem dJ6_numberOfLeadingZeros_0f7a4_5 : decode cJ6_numberOfLeadingZeros_0f7a4 5 = .ok (.ifCond .ne 8, 3) := by decide +kernel
theorem dJ6_numberOfLeadingZeros_0f7a4_8 : decode cJ6_numberOfLeadingZeros_0f7a4 8 = .ok (.bipush 32, 2) := by decide +kernel
theorem dJ6_numberOfLeadingZeros_0f7a4_10 : decode cJ6_numberOfLeadingZeros_0f7a4 10 = .ok (.goto 4, 3) := by decide +kernel
theorem dJ6_numberOfLeadingZeros_0f7a4_13 : decode cJ6_numberOfLeadingZeros_0f7a4 13 = .ok (.iconst 0, 1) := by decide +kernel
theorem dJ6_numberOfLeadingZeros_0f7a4_14 : decode cJ6_numberOfLeadingZeros_0f7a4 14 = .ok (.ireturn, 1) := by decide +kernel
theorem dJ6_numberOfLeadingZeros_0f7a4_15 : decode cJ6_numberOfLeadingZeros_0f7a4 15 = .ok (.bipush 31, 2) := by decide +kernel
theorem dJ6_numberOfLeadingZeros_0f7a4_17 : decode cJ6_numberOfLeadingZeros_0f7a4 17 = .ok (.istore_n 1, 1) := by decide +kernel
theorem dJ6_numberOfLeadingZeros_0f7a4_18 : decode cJ6_numberOfLeadingZeros_0f7a4 18 = .ok (.iload_n 0, 1) := by decide +kernel
theorem dJ6_numberOfLeadingZeros_0f7a4_19 : decode cJ6_numberOfLeadingZeros_0f7a4 19 = .ok (.ldc_w 264, 3) := by decide +kernel
