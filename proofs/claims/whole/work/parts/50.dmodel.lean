theorem d_M_abort_0 : decode b_M_abort 0 = .ok (.iload_n 1, 1) := by decide +kernel
theorem d_M_abort_1 : decode b_M_abort 1 = .ok (.invokestatic 159, 3) := by decide +kernel
theorem d_M_abort_4 : decode b_M_abort 4 = .ok (.ifCond .ne 9, 3) := by decide +kernel
theorem d_M_abort_7 : decode b_M_abort 7 = .ok (.aload_n 0, 1) := by decide +kernel
theorem d_M_abort_8 : decode b_M_abort 8 = .ok (.iconst 1, 1) := by decide +kernel
theorem d_M_abort_9 : decode b_M_abort 9 = .ok (.invokevirtual 162, 3) := by decide +kernel
theorem d_M_abort_12 : decode b_M_abort 12 = .ok (.ireturn, 1) := by decide +kernel
theorem d_M_abort_13 : decode b_M_abort 13 = .ok (.aload_n 0, 1) := by decide +kernel
theorem d_M_abort_14 : decode b_M_abort 14 = .ok (.iload_n 1, 1) := by decide +kernel
theorem d_M_abort_15 : decode b_M_abort 15 = .ok (.iconst 1, 1) := by decide +kernel
theorem d_M_abort_16 : decode b_M_abort 16 = .ok (.invokevirtual 165, 3) := by decide +kernel
theorem d_M_abort_19 : decode b_M_abort 19 = .ok (.ifCond .eq 9, 3) := by decide +kernel
theorem d_M_abort_22 : decode b_M_abort 22 = .ok (.aload_n 0, 1) := by decide +kernel
theorem d_M_abort_23 : decode b_M_abort 23 = .ok (.iconst 2, 1) := by decide +kernel
theorem d_M_abort_24 : decode b_M_abort 24 = .ok (.invokevirtual 162, 3) := by decide +kernel
theorem d_M_abort_27 : decode b_M_abort 27 = .ok (.ireturn, 1) := by decide +kernel
theorem d_M_abort_28 : decode b_M_abort 28 = .ok (.aload_n 0, 1) := by decide +kernel
theorem d_M_abort_29 : decode b_M_abort 29 = .ok (.iconst 0, 1) := by decide +kernel
theorem d_M_abort_30 : decode b_M_abort 30 = .ok (.putfield 69, 3) := by decide +kernel
theorem d_M_abort_33 : decode b_M_abort 33 = .ok (.aload_n 0, 1) := by decide +kernel
theorem d_M_abort_34 : decode b_M_abort 34 = .ok (.iload_n 1, 1) := by decide +kernel
theorem d_M_abort_35 : decode b_M_abort 35 = .ok (.invokevirtual 178, 3) := by decide +kernel
theorem d_M_abort_38 : decode b_M_abort 38 = .ok (.ireturn, 1) := by decide +kernel
theorem d_M_add_0 : decode b_M_add 0 = .ok (.aload_n 0, 1) := by decide +kernel
theorem d_M_add_1 : decode b_M_add 1 = .ok (.iload_n 1, 1) := by decide +kernel
theorem d_M_add_2 : decode b_M_add 2 = .ok (.iload_n 2, 1) := by decide +kernel
theorem d_M_add_3 : decode b_M_add 3 = .ok (.iload_n 3, 1) := by decide +kernel
theorem d_M_add_4 : decode b_M_add 4 = .ok (.invokevirtual 102, 3) := by decide +kernel
theorem d_M_add_7 : decode b_M_add 7 = .ok (.lstore 4, 2) := by decide +kernel
theorem d_M_add_9 : decode b_M_add 9 = .ok (.iconst 0, 1) := by decide +kernel
theorem d_M_add_10 : decode b_M_add 10 = .ok (.istore 6, 2) := by decide +kernel
theorem d_M_add_12 : decode b_M_add 12 = .ok (.iload 6, 2) := by decide +kernel
theorem d_M_add_14 : decode b_M_add 14 = .ok (.aload_n 0, 1) := by decide +kernel
theorem d_M_add_15 : decode b_M_add 15 = .ok (.getfield 106, 3) := by decide +kernel
theorem d_M_add_18 : decode b_M_add 18 = .ok (.if_icmp .ge 23, 3) := by decide +kernel
theorem d_M_add_21 : decode b_M_add 21 = .ok (.lload 4, 2) := by decide +kernel
theorem d_M_add_23 : decode b_M_add 23 = .ok (.aload_n 0, 1) := by decide +kernel
theorem d_M_add_24 : decode b_M_add 24 = .ok (.getfield 66, 3) := by decide +kernel
theorem d_M_add_27 : decode b_M_add 27 = .ok (.iload 6, 2) := by decide +kernel
theorem d_M_add_29 : decode b_M_add 29 = .ok (.iaload, 1) := by decide +kernel
theorem d_M_add_30 : decode b_M_add 30 = .ok (.invokestatic 78, 3) := by decide +kernel
theorem d_M_add_33 : decode b_M_add 33 = .ok (.lstore 4, 2) := by decide +kernel
theorem d_M_add_35 : decode b_M_add 35 = .ok (.iinc 6 1, 3) := by decide +kernel
theorem d_M_add_38 : decode b_M_add 38 = .ok (.goto (-26), 3) := by decide +kernel
theorem d_M_add_41 : decode b_M_add 41 = .ok (.aload_n 0, 1) := by decide +kernel
theorem d_M_add_42 : decode b_M_add 42 = .ok (.iload_n 1, 1) := by decide +kernel
theorem d_M_add_43 : decode b_M_add 43 = .ok (.lload 4, 2) := by decide +kernel
theorem d_M_add_45 : decode b_M_add 45 = .ok (.invokevirtual 138, 3) := by decide +kernel
theorem d_M_add_48 : decode b_M_add 48 = .ok (.istore 6, 2) := by decide +kernel
theorem d_M_add_50 : decode b_M_add 50 = .ok (.iload 6, 2) := by decide +kernel
theorem d_M_add_52 : decode b_M_add 52 = .ok (.ifCond .lt 6, 3) := by decide +kernel
theorem d_M_add_55 : decode b_M_add 55 = .ok (.iload 6, 2) := by decide +kernel
theorem d_M_add_57 : decode b_M_add 57 = .ok (.ireturn, 1) := by decide +kernel
theorem d_M_add_58 : decode b_M_add 58 = .ok (.aload_n 0, 1) := by decide +kernel
theorem d_M_add_59 : decode b_M_add 59 = .ok (.iload_n 1, 1) := by decide +kernel
theorem d_M_add_60 : decode b_M_add 60 = .ok (.iload_n 2, 1) := by decide +kernel
theorem d_M_add_61 : decode b_M_add 61 = .ok (.iload_n 3, 1) := by decide +kernel
theorem d_M_add_62 : decode b_M_add 62 = .ok (.invokevirtual 142, 3) := by decide +kernel
theorem d_M_add_65 : decode b_M_add 65 = .ok (.istore 7, 2) := by decide +kernel
theorem d_M_add_67 : decode b_M_add 67 = .ok (.iconst 1, 1) := by decide +kernel
theorem d_M_add_68 : decode b_M_add 68 = .ok (.iconst 2, 1) := by decide +kernel
theorem d_M_add_69 : decode b_M_add 69 = .ok (.aload_n 0, 1) := by decide +kernel
theorem d_M_add_70 : decode b_M_add 70 = .ok (.invokevirtual 117, 3) := by decide +kernel
theorem d_M_add_73 : decode b_M_add 73 = .ok (.imul, 1) := by decide +kernel
theorem d_M_add_74 : decode b_M_add 74 = .ok (.iadd, 1) := by decide +kernel
theorem d_M_add_75 : decode b_M_add 75 = .ok (.istore 8, 2) := by decide +kernel
theorem d_M_add_77 : decode b_M_add 77 = .ok (.iload 8, 2) := by decide +kernel
theorem d_M_add_79 : decode b_M_add 79 = .ok (.iconst 1, 1) := by decide +kernel
theorem d_M_add_80 : decode b_M_add 80 = .ok (.aload_n 0, 1) := by decide +kernel
theorem d_M_add_81 : decode b_M_add 81 = .ok (.getfield 106, 3) := by decide +kernel
theorem d_M_add_84 : decode b_M_add 84 = .ok (.iadd, 1) := by decide +kernel
theorem d_M_add_85 : decode b_M_add 85 = .ok (.if_icmp .ge 8, 3) := by decide +kernel
theorem d_M_add_88 : decode b_M_add 88 = .ok (.iload 8, 2) := by decide +kernel
theorem d_M_add_90 : decode b_M_add 90 = .ok (.goto 9, 3) := by decide +kernel
theorem d_M_add_93 : decode b_M_add 93 = .ok (.iconst 1, 1) := by decide +kernel
theorem d_M_add_94 : decode b_M_add 94 = .ok (.aload_n 0, 1) := by decide +kernel
theorem d_M_add_95 : decode b_M_add 95 = .ok (.getfield 106, 3) := by decide +kernel
theorem d_M_add_98 : decode b_M_add 98 = .ok (.iadd, 1) := by decide +kernel
theorem d_M_add_99 : decode b_M_add 99 = .ok (.istore 9, 2) := by decide +kernel
theorem d_M_add_101 : decode b_M_add 101 = .ok (.iload 7, 2) := by decide +kernel
theorem d_M_add_103 : decode b_M_add 103 = .ok (.ifCond .lt 17, 3) := by decide +kernel
theorem d_M_add_106 : decode b_M_add 106 = .ok (.aload_n 0, 1) := by decide +kernel
theorem d_M_add_107 : decode b_M_add 107 = .ok (.iload_n 1, 1) := by decide +kernel
theorem d_M_add_108 : decode b_M_add 108 = .ok (.iload 7, 2) := by decide +kernel
theorem d_M_add_110 : decode b_M_add 110 = .ok (.invokevirtual 124, 3) := by decide +kernel
theorem d_M_add_113 : decode b_M_add 113 = .ok (.pop, 1) := by decide +kernel
theorem d_M_add_114 : decode b_M_add 114 = .ok (.aload_n 0, 1) := by decide +kernel
theorem d_M_add_115 : decode b_M_add 115 = .ok (.invokevirtual 127, 3) := by decide +kernel
theorem d_M_add_118 : decode b_M_add 118 = .ok (.istore 9, 2) := by decide +kernel
theorem d_M_add_120 : decode b_M_add 120 = .ok (.aload_n 0, 1) := by decide +kernel
theorem d_M_add_121 : decode b_M_add 121 = .ok (.getfield 19, 3) := by decide +kernel
theorem d_M_add_124 : decode b_M_add 124 = .ok (.iload_n 1, 1) := by decide +kernel
theorem d_M_add_125 : decode b_M_add 125 = .ok (.iaload, 1) := by decide +kernel
theorem d_M_add_126 : decode b_M_add 126 = .ok (.bipush 24, 2) := by decide +kernel
theorem d_M_add_128 : decode b_M_add 128 = .ok (.if_icmp .eq 18, 3) := by decide +kernel
theorem d_M_add_131 : decode b_M_add 131 = .ok (.aload_n 0, 1) := by decide +kernel
theorem d_M_add_132 : decode b_M_add 132 = .ok (.getfield 16, 3) := by decide +kernel
theorem d_M_add_135 : decode b_M_add 135 = .ok (.iload_n 1, 1) := by decide +kernel
theorem d_M_add_136 : decode b_M_add 136 = .ok (.iaload, 1) := by decide +kernel
theorem d_M_add_137 : decode b_M_add 137 = .ok (.iload 9, 2) := by decide +kernel
theorem d_M_add_139 : decode b_M_add 139 = .ok (.iadd, 1) := by decide +kernel
theorem d_M_add_140 : decode b_M_add 140 = .ok (.sipush 600, 3) := by decide +kernel
theorem d_M_add_143 : decode b_M_add 143 = .ok (.if_icmp .le 6, 3) := by decide +kernel
theorem d_M_add_146 : decode b_M_add 146 = .ok (.bipush (-4), 2) := by decide +kernel
theorem d_M_add_148 : decode b_M_add 148 = .ok (.ireturn, 1) := by decide +kernel
theorem d_M_add_149 : decode b_M_add 149 = .ok (.aload_n 0, 1) := by decide +kernel
theorem d_M_add_150 : decode b_M_add 150 = .ok (.getfield 16, 3) := by decide +kernel
theorem d_M_add_153 : decode b_M_add 153 = .ok (.iload_n 1, 1) := by decide +kernel
theorem d_M_add_154 : decode b_M_add 154 = .ok (.iaload, 1) := by decide +kernel
theorem d_M_add_155 : decode b_M_add 155 = .ok (.istore 10, 2) := by decide +kernel
theorem d_M_add_157 : decode b_M_add 157 = .ok (.aload_n 0, 1) := by decide +kernel
theorem d_M_add_158 : decode b_M_add 158 = .ok (.iload_n 1, 1) := by decide +kernel
theorem d_M_add_159 : decode b_M_add 159 = .ok (.invokevirtual 145, 3) := by decide +kernel
theorem d_M_add_162 : decode b_M_add 162 = .ok (.ifCond .ne 6, 3) := by decide +kernel
theorem d_M_add_165 : decode b_M_add 165 = .ok (.bipush (-2), 2) := by decide +kernel
theorem d_M_add_167 : decode b_M_add 167 = .ok (.ireturn, 1) := by decide +kernel
theorem d_M_add_168 : decode b_M_add 168 = .ok (.iload 7, 2) := by decide +kernel
theorem d_M_add_170 : decode b_M_add 170 = .ok (.ifCond .lt 13, 3) := by decide +kernel
theorem d_M_add_173 : decode b_M_add 173 = .ok (.aload_n 0, 1) := by decide +kernel
theorem d_M_add_174 : decode b_M_add 174 = .ok (.iload_n 1, 1) := by decide +kernel
theorem d_M_add_175 : decode b_M_add 175 = .ok (.iload 7, 2) := by decide +kernel
theorem d_M_add_177 : decode b_M_add 177 = .ok (.invokevirtual 149, 3) := by decide +kernel
theorem d_M_add_180 : decode b_M_add 180 = .ok (.goto 8, 3) := by decide +kernel
theorem d_M_add_183 : decode b_M_add 183 = .ok (.aload_n 0, 1) := by decide +kernel
theorem d_M_add_184 : decode b_M_add 184 = .ok (.iload_n 1, 1) := by decide +kernel
theorem d_M_add_185 : decode b_M_add 185 = .ok (.invokevirtual 152, 3) := by decide +kernel
theorem d_M_add_188 : decode b_M_add 188 = .ok (.aload_n 0, 1) := by decide +kernel
theorem d_M_add_189 : decode b_M_add 189 = .ok (.iload_n 1, 1) := by decide +kernel
theorem d_M_add_190 : decode b_M_add 190 = .ok (.invokevirtual 145, 3) := by decide +kernel
theorem d_M_add_193 : decode b_M_add 193 = .ok (.ifCond .ne 6, 3) := by decide +kernel
theorem d_M_add_196 : decode b_M_add 196 = .ok (.bipush (-2), 2) := by decide +kernel
theorem d_M_add_198 : decode b_M_add 198 = .ok (.ireturn, 1) := by decide +kernel
theorem d_M_add_199 : decode b_M_add 199 = .ok (.bipush 24, 2) := by decide +kernel
theorem d_M_add_201 : decode b_M_add 201 = .ok (.iload_n 1, 1) := by decide +kernel
theorem d_M_add_202 : decode b_M_add 202 = .ok (.imul, 1) := by decide +kernel
theorem d_M_add_203 : decode b_M_add 203 = .ok (.aload_n 0, 1) := by decide +kernel
theorem d_M_add_204 : decode b_M_add 204 = .ok (.getfield 19, 3) := by decide +kernel
theorem d_M_add_207 : decode b_M_add 207 = .ok (.iload_n 1, 1) := by decide +kernel
theorem d_M_add_208 : decode b_M_add 208 = .ok (.iaload, 1) := by decide +kernel
theorem d_M_add_209 : decode b_M_add 209 = .ok (.iadd, 1) := by decide +kernel
theorem d_M_add_210 : decode b_M_add 210 = .ok (.istore 11, 2) := by decide +kernel
theorem d_M_add_212 : decode b_M_add 212 = .ok (.aload_n 0, 1) := by decide +kernel
theorem d_M_add_213 : decode b_M_add 213 = .ok (.getfield 22, 3) := by decide +kernel
theorem d_M_add_216 : decode b_M_add 216 = .ok (.iload 11, 2) := by decide +kernel
theorem d_M_add_218 : decode b_M_add 218 = .ok (.iload 10, 2) := by decide +kernel
theorem d_M_add_220 : decode b_M_add 220 = .ok (.iastore, 1) := by decide +kernel
theorem d_M_add_221 : decode b_M_add 221 = .ok (.aload_n 0, 1) := by decide +kernel
theorem d_M_add_222 : decode b_M_add 222 = .ok (.getfield 25, 3) := by decide +kernel
theorem d_M_add_225 : decode b_M_add 225 = .ok (.iload 11, 2) := by decide +kernel
theorem d_M_add_227 : decode b_M_add 227 = .ok (.iload 9, 2) := by decide +kernel
theorem d_M_add_229 : decode b_M_add 229 = .ok (.iastore, 1) := by decide +kernel
theorem d_M_add_230 : decode b_M_add 230 = .ok (.aload_n 0, 1) := by decide +kernel
theorem d_M_add_231 : decode b_M_add 231 = .ok (.getfield 28, 3) := by decide +kernel
theorem d_M_add_234 : decode b_M_add 234 = .ok (.iload 11, 2) := by decide +kernel
theorem d_M_add_236 : decode b_M_add 236 = .ok (.aload_n 0, 1) := by decide +kernel
theorem d_M_add_237 : decode b_M_add 237 = .ok (.getfield 106, 3) := by decide +kernel
theorem d_M_add_240 : decode b_M_add 240 = .ok (.iastore, 1) := by decide +kernel
theorem d_M_add_241 : decode b_M_add 241 = .ok (.aload_n 0, 1) := by decide +kernel
theorem d_M_add_242 : decode b_M_add 242 = .ok (.getfield 31, 3) := by decide +kernel
theorem d_M_add_245 : decode b_M_add 245 = .ok (.iload 11, 2) := by decide +kernel
theorem d_M_add_247 : decode b_M_add 247 = .ok (.iload 7, 2) := by decide +kernel
theorem d_M_add_249 : decode b_M_add 249 = .ok (.iastore, 1) := by decide +kernel
theorem d_M_add_250 : decode b_M_add 250 = .ok (.aload_n 0, 1) := by decide +kernel
theorem d_M_add_251 : decode b_M_add 251 = .ok (.getfield 34, 3) := by decide +kernel
theorem d_M_add_254 : decode b_M_add 254 = .ok (.iload 11, 2) := by decide +kernel
theorem d_M_add_256 : decode b_M_add 256 = .ok (.iload_n 2, 1) := by decide +kernel
theorem d_M_add_257 : decode b_M_add 257 = .ok (.iastore, 1) := by decide +kernel
theorem d_M_add_258 : decode b_M_add 258 = .ok (.aload_n 0, 1) := by decide +kernel
theorem d_M_add_259 : decode b_M_add 259 = .ok (.getfield 37, 3) := by decide +kernel
theorem d_M_add_262 : decode b_M_add 262 = .ok (.iload 11, 2) := by decide +kernel
theorem d_M_add_264 : decode b_M_add 264 = .ok (.iload_n 3, 1) := by decide +kernel
theorem d_M_add_265 : decode b_M_add 265 = .ok (.iastore, 1) := by decide +kernel
theorem d_M_add_266 : decode b_M_add 266 = .ok (.aload_n 0, 1) := by decide +kernel
theorem d_M_add_267 : decode b_M_add 267 = .ok (.getfield 40, 3) := by decide +kernel
theorem d_M_add_270 : decode b_M_add 270 = .ok (.iload 11, 2) := by decide +kernel
theorem d_M_add_272 : decode b_M_add 272 = .ok (.lload 4, 2) := by decide +kernel
theorem d_M_add_274 : decode b_M_add 274 = .ok (.lastore, 1) := by decide +kernel
theorem d_M_add_275 : decode b_M_add 275 = .ok (.aload_n 0, 1) := by decide +kernel
theorem d_M_add_276 : decode b_M_add 276 = .ok (.getfield 19, 3) := by decide +kernel
theorem d_M_add_279 : decode b_M_add 279 = .ok (.iload_n 1, 1) := by decide +kernel
theorem d_M_add_280 : decode b_M_add 280 = .ok (.dup2, 1) := by decide +kernel
theorem d_M_add_281 : decode b_M_add 281 = .ok (.iaload, 1) := by decide +kernel
theorem d_M_add_282 : decode b_M_add 282 = .ok (.iconst 1, 1) := by decide +kernel
theorem d_M_add_283 : decode b_M_add 283 = .ok (.iadd, 1) := by decide +kernel
theorem d_M_add_284 : decode b_M_add 284 = .ok (.iastore, 1) := by decide +kernel
theorem d_M_add_285 : decode b_M_add 285 = .ok (.aload_n 0, 1) := by decide +kernel
theorem d_M_add_286 : decode b_M_add 286 = .ok (.getfield 19, 3) := by decide +kernel
theorem d_M_add_289 : decode b_M_add 289 = .ok (.iload_n 1, 1) := by decide +kernel
theorem d_M_add_290 : decode b_M_add 290 = .ok (.iaload, 1) := by decide +kernel
theorem d_M_add_291 : decode b_M_add 291 = .ok (.iconst 1, 1) := by decide +kernel
theorem d_M_add_292 : decode b_M_add 292 = .ok (.isub, 1) := by decide +kernel
theorem d_M_add_293 : decode b_M_add 293 = .ok (.ireturn, 1) := by decide +kernel
theorem d_M_ancestors_0 : decode b_M_ancestors 0 = .ok (.iconst 1, 1) := by decide +kernel
theorem d_M_ancestors_1 : decode b_M_ancestors 1 = .ok (.iload_n 2, 1) := by decide +kernel
theorem d_M_ancestors_2 : decode b_M_ancestors 2 = .ok (.ishl, 1) := by decide +kernel
theorem d_M_ancestors_3 : decode b_M_ancestors 3 = .ok (.istore_n 3, 1) := by decide +kernel
theorem d_M_ancestors_4 : decode b_M_ancestors 4 = .ok (.iload_n 2, 1) := by decide +kernel
theorem d_M_ancestors_5 : decode b_M_ancestors 5 = .ok (.istore 4, 2) := by decide +kernel
theorem d_M_ancestors_7 : decode b_M_ancestors 7 = .ok (.iload 4, 2) := by decide +kernel
theorem d_M_ancestors_9 : decode b_M_ancestors 9 = .ok (.ifCond .lt 77, 3) := by decide +kernel
theorem d_M_ancestors_12 : decode b_M_ancestors 12 = .ok (.iload_n 3, 1) := by decide +kernel
theorem d_M_ancestors_13 : decode b_M_ancestors 13 = .ok (.iload 4, 2) := by decide +kernel
theorem d_M_ancestors_15 : decode b_M_ancestors 15 = .ok (.ishr, 1) := by decide +kernel
theorem d_M_ancestors_16 : decode b_M_ancestors 16 = .ok (.iconst 1, 1) := by decide +kernel
theorem d_M_ancestors_17 : decode b_M_ancestors 17 = .ok (.iand, 1) := by decide +kernel
theorem d_M_ancestors_18 : decode b_M_ancestors 18 = .ok (.iconst 1, 1) := by decide +kernel
theorem d_M_ancestors_19 : decode b_M_ancestors 19 = .ok (.if_icmp .ne 61, 3) := by decide +kernel
theorem d_M_ancestors_22 : decode b_M_ancestors 22 = .ok (.aload_n 0, 1) := by decide +kernel
theorem d_M_ancestors_23 : decode b_M_ancestors 23 = .ok (.getfield 34, 3) := by decide +kernel
theorem d_M_ancestors_26 : decode b_M_ancestors 26 = .ok (.bipush 24, 2) := by decide +kernel
theorem d_M_ancestors_28 : decode b_M_ancestors 28 = .ok (.iload_n 1, 1) := by decide +kernel
theorem d_M_ancestors_29 : decode b_M_ancestors 29 = .ok (.imul, 1) := by decide +kernel
theorem d_M_ancestors_30 : decode b_M_ancestors 30 = .ok (.iload 4, 2) := by decide +kernel
theorem d_M_ancestors_32 : decode b_M_ancestors 32 = .ok (.iadd, 1) := by decide +kernel
theorem d_M_ancestors_33 : decode b_M_ancestors 33 = .ok (.iaload, 1) := by decide +kernel
theorem d_M_ancestors_34 : decode b_M_ancestors 34 = .ok (.istore 5, 2) := by decide +kernel
theorem d_M_ancestors_36 : decode b_M_ancestors 36 = .ok (.aload_n 0, 1) := by decide +kernel
theorem d_M_ancestors_37 : decode b_M_ancestors 37 = .ok (.getfield 37, 3) := by decide +kernel
theorem d_M_ancestors_40 : decode b_M_ancestors 40 = .ok (.bipush 24, 2) := by decide +kernel
theorem d_M_ancestors_42 : decode b_M_ancestors 42 = .ok (.iload_n 1, 1) := by decide +kernel
theorem d_M_ancestors_43 : decode b_M_ancestors 43 = .ok (.imul, 1) := by decide +kernel
theorem d_M_ancestors_44 : decode b_M_ancestors 44 = .ok (.iload 4, 2) := by decide +kernel
theorem d_M_ancestors_46 : decode b_M_ancestors 46 = .ok (.iadd, 1) := by decide +kernel
theorem d_M_ancestors_47 : decode b_M_ancestors 47 = .ok (.iaload, 1) := by decide +kernel
theorem d_M_ancestors_48 : decode b_M_ancestors 48 = .ok (.istore 6, 2) := by decide +kernel
theorem d_M_ancestors_50 : decode b_M_ancestors 50 = .ok (.iload_n 3, 1) := by decide +kernel
theorem d_M_ancestors_51 : decode b_M_ancestors 51 = .ok (.iload 5, 2) := by decide +kernel
theorem d_M_ancestors_53 : decode b_M_ancestors 53 = .ok (.ifCond .ge 7, 3) := by decide +kernel
theorem d_M_ancestors_56 : decode b_M_ancestors 56 = .ok (.iconst 0, 1) := by decide +kernel
theorem d_M_ancestors_57 : decode b_M_ancestors 57 = .ok (.goto 7, 3) := by decide +kernel
theorem d_M_ancestors_60 : decode b_M_ancestors 60 = .ok (.iconst 1, 1) := by decide +kernel
theorem d_M_ancestors_61 : decode b_M_ancestors 61 = .ok (.iload 5, 2) := by decide +kernel
theorem d_M_ancestors_63 : decode b_M_ancestors 63 = .ok (.ishl, 1) := by decide +kernel
theorem d_M_ancestors_64 : decode b_M_ancestors 64 = .ok (.iload 6, 2) := by decide +kernel
theorem d_M_ancestors_66 : decode b_M_ancestors 66 = .ok (.ifCond .ge 7, 3) := by decide +kernel
theorem d_M_ancestors_69 : decode b_M_ancestors 69 = .ok (.iconst 0, 1) := by decide +kernel
theorem d_M_ancestors_70 : decode b_M_ancestors 70 = .ok (.goto 7, 3) := by decide +kernel
theorem d_M_ancestors_73 : decode b_M_ancestors 73 = .ok (.iconst 1, 1) := by decide +kernel
theorem d_M_ancestors_74 : decode b_M_ancestors 74 = .ok (.iload 6, 2) := by decide +kernel
theorem d_M_ancestors_76 : decode b_M_ancestors 76 = .ok (.ishl, 1) := by decide +kernel
theorem d_M_ancestors_77 : decode b_M_ancestors 77 = .ok (.ior, 1) := by decide +kernel
theorem d_M_ancestors_78 : decode b_M_ancestors 78 = .ok (.ior, 1) := by decide +kernel
theorem d_M_ancestors_79 : decode b_M_ancestors 79 = .ok (.istore_n 3, 1) := by decide +kernel
theorem d_M_ancestors_80 : decode b_M_ancestors 80 = .ok (.iinc 4 (-1), 3) := by decide +kernel
theorem d_M_ancestors_83 : decode b_M_ancestors 83 = .ok (.goto (-76), 3) := by decide +kernel
theorem d_M_ancestors_86 : decode b_M_ancestors 86 = .ok (.iload_n 3, 1) := by decide +kernel
theorem d_M_ancestors_87 : decode b_M_ancestors 87 = .ok (.ireturn, 1) := by decide +kernel
theorem d_M_append_0 : decode b_M_append 0 = .ok (.iload_n 1, 1) := by decide +kernel
theorem d_M_append_1 : decode b_M_append 1 = .ok (.invokestatic 159, 3) := by decide +kernel
theorem d_M_append_4 : decode b_M_append 4 = .ok (.ifCond .ne 9, 3) := by decide +kernel
theorem d_M_append_7 : decode b_M_append 7 = .ok (.aload_n 0, 1) := by decide +kernel
theorem d_M_append_8 : decode b_M_append 8 = .ok (.iconst 1, 1) := by decide +kernel
theorem d_M_append_9 : decode b_M_append 9 = .ok (.invokevirtual 162, 3) := by decide +kernel
theorem d_M_append_12 : decode b_M_append 12 = .ok (.ireturn, 1) := by decide +kernel
theorem d_M_append_13 : decode b_M_append 13 = .ok (.aload_n 0, 1) := by decide +kernel
theorem d_M_append_14 : decode b_M_append 14 = .ok (.iload_n 1, 1) := by decide +kernel
theorem d_M_append_15 : decode b_M_append 15 = .ok (.iconst 1, 1) := by decide +kernel
theorem d_M_append_16 : decode b_M_append 16 = .ok (.invokevirtual 165, 3) := by decide +kernel
theorem d_M_append_19 : decode b_M_append 19 = .ok (.ifCond .eq 9, 3) := by decide +kernel
theorem d_M_append_22 : decode b_M_append 22 = .ok (.aload_n 0, 1) := by decide +kernel
theorem d_M_append_23 : decode b_M_append 23 = .ok (.iconst 2, 1) := by decide +kernel
theorem d_M_append_24 : decode b_M_append 24 = .ok (.invokevirtual 162, 3) := by decide +kernel
theorem d_M_append_27 : decode b_M_append 27 = .ok (.ireturn, 1) := by decide +kernel
theorem d_M_append_28 : decode b_M_append 28 = .ok (.iload_n 2, 1) := by decide +kernel
theorem d_M_append_29 : decode b_M_append 29 = .ok (.iconst (-1), 1) := by decide +kernel
theorem d_M_append_30 : decode b_M_append 30 = .ok (.if_icmp .eq 12, 3) := by decide +kernel
theorem d_M_append_33 : decode b_M_append 33 = .ok (.aload_n 0, 1) := by decide +kernel
theorem d_M_append_34 : decode b_M_append 34 = .ok (.iload_n 1, 1) := by decide +kernel
theorem d_M_append_35 : decode b_M_append 35 = .ok (.iload_n 2, 1) := by decide +kernel
theorem d_M_append_36 : decode b_M_append 36 = .ok (.invokevirtual 172, 3) := by decide +kernel
theorem d_M_append_39 : decode b_M_append 39 = .ok (.ifCond .eq 17, 3) := by decide +kernel
theorem d_M_append_42 : decode b_M_append 42 = .ok (.iload_n 3, 1) := by decide +kernel
theorem d_M_append_43 : decode b_M_append 43 = .ok (.iconst (-1), 1) := by decide +kernel
theorem d_M_append_44 : decode b_M_append 44 = .ok (.if_icmp .eq 18, 3) := by decide +kernel
theorem d_M_append_47 : decode b_M_append 47 = .ok (.aload_n 0, 1) := by decide +kernel
theorem d_M_append_48 : decode b_M_append 48 = .ok (.iload_n 1, 1) := by decide +kernel
theorem d_M_append_49 : decode b_M_append 49 = .ok (.iload_n 3, 1) := by decide +kernel
theorem d_M_append_50 : decode b_M_append 50 = .ok (.invokevirtual 172, 3) := by decide +kernel
theorem d_M_append_53 : decode b_M_append 53 = .ok (.ifCond .ne 9, 3) := by decide +kernel
theorem d_M_append_56 : decode b_M_append 56 = .ok (.aload_n 0, 1) := by decide +kernel
theorem d_M_append_57 : decode b_M_append 57 = .ok (.iconst 3, 1) := by decide +kernel
theorem d_M_append_58 : decode b_M_append 58 = .ok (.invokevirtual 162, 3) := by decide +kernel
theorem d_M_append_61 : decode b_M_append 61 = .ok (.ireturn, 1) := by decide +kernel
theorem d_M_append_62 : decode b_M_append 62 = .ok (.aload_n 0, 1) := by decide +kernel
theorem d_M_append_63 : decode b_M_append 63 = .ok (.aload_n 0, 1) := by decide +kernel
theorem d_M_append_64 : decode b_M_append 64 = .ok (.getfield 73, 3) := by decide +kernel
theorem d_M_append_67 : decode b_M_append 67 = .ok (.putfield 106, 3) := by decide +kernel
theorem d_M_append_70 : decode b_M_append 70 = .ok (.iconst 0, 1) := by decide +kernel
theorem d_M_append_71 : decode b_M_append 71 = .ok (.istore 4, 2) := by decide +kernel
theorem d_M_append_73 : decode b_M_append 73 = .ok (.iload 4, 2) := by decide +kernel
theorem d_M_append_75 : decode b_M_append 75 = .ok (.aload_n 0, 1) := by decide +kernel
theorem d_M_append_76 : decode b_M_append 76 = .ok (.getfield 73, 3) := by decide +kernel
theorem d_M_append_79 : decode b_M_append 79 = .ok (.if_icmp .ge 23, 3) := by decide +kernel
theorem d_M_append_82 : decode b_M_append 82 = .ok (.aload_n 0, 1) := by decide +kernel
theorem d_M_append_83 : decode b_M_append 83 = .ok (.getfield 66, 3) := by decide +kernel
theorem d_M_append_86 : decode b_M_append 86 = .ok (.iload 4, 2) := by decide +kernel
theorem d_M_append_88 : decode b_M_append 88 = .ok (.aload_n 0, 1) := by decide +kernel
theorem d_M_append_89 : decode b_M_append 89 = .ok (.getfield 7, 3) := by decide +kernel
theorem d_M_append_92 : decode b_M_append 92 = .ok (.iload 4, 2) := by decide +kernel
theorem d_M_append_94 : decode b_M_append 94 = .ok (.iaload, 1) := by decide +kernel
theorem d_M_append_95 : decode b_M_append 95 = .ok (.iastore, 1) := by decide +kernel
theorem d_M_append_96 : decode b_M_append 96 = .ok (.iinc 4 1, 3) := by decide +kernel
theorem d_M_append_99 : decode b_M_append 99 = .ok (.goto (-26), 3) := by decide +kernel
theorem d_M_append_102 : decode b_M_append 102 = .ok (.aload_n 0, 1) := by decide +kernel
theorem d_M_append_103 : decode b_M_append 103 = .ok (.iload_n 1, 1) := by decide +kernel
theorem d_M_append_104 : decode b_M_append 104 = .ok (.iload_n 2, 1) := by decide +kernel
theorem d_M_append_105 : decode b_M_append 105 = .ok (.iload_n 3, 1) := by decide +kernel
theorem d_M_append_106 : decode b_M_append 106 = .ok (.invokevirtual 175, 3) := by decide +kernel
theorem d_M_append_109 : decode b_M_append 109 = .ok (.istore 4, 2) := by decide +kernel
theorem d_M_append_111 : decode b_M_append 111 = .ok (.aload_n 0, 1) := by decide +kernel
theorem d_M_append_112 : decode b_M_append 112 = .ok (.iload 4, 2) := by decide +kernel
theorem d_M_append_114 : decode b_M_append 114 = .ok (.bipush (-4), 2) := by decide +kernel
theorem d_M_append_116 : decode b_M_append 116 = .ok (.if_icmp .ne 7, 3) := by decide +kernel
theorem d_M_append_119 : decode b_M_append 119 = .ok (.iconst 4, 1) := by decide +kernel
theorem d_M_append_120 : decode b_M_append 120 = .ok (.goto 4, 3) := by decide +kernel
theorem d_M_append_123 : decode b_M_append 123 = .ok (.iconst 0, 1) := by decide +kernel
theorem d_M_append_124 : decode b_M_append 124 = .ok (.putfield 69, 3) := by decide +kernel
theorem d_M_append_127 : decode b_M_append 127 = .ok (.iload 4, 2) := by decide +kernel
theorem d_M_append_129 : decode b_M_append 129 = .ok (.bipush (-4), 2) := by decide +kernel
theorem d_M_append_131 : decode b_M_append 131 = .ok (.if_icmp .ne 7, 3) := by decide +kernel
theorem d_M_append_134 : decode b_M_append 134 = .ok (.iconst 0, 1) := by decide +kernel
theorem d_M_append_135 : decode b_M_append 135 = .ok (.goto 5, 3) := by decide +kernel
theorem d_M_append_138 : decode b_M_append 138 = .ok (.iload 4, 2) := by decide +kernel
theorem d_M_append_140 : decode b_M_append 140 = .ok (.ireturn, 1) := by decide +kernel
theorem d_M_apply_0 : decode b_M_apply 0 = .ok (.aload_n 0, 1) := by decide +kernel
theorem d_M_apply_1 : decode b_M_apply 1 = .ok (.getfield 25, 3) := by decide +kernel
theorem d_M_apply_4 : decode b_M_apply 4 = .ok (.bipush 24, 2) := by decide +kernel
theorem d_M_apply_6 : decode b_M_apply 6 = .ok (.iload_n 1, 1) := by decide +kernel
theorem d_M_apply_7 : decode b_M_apply 7 = .ok (.imul, 1) := by decide +kernel
theorem d_M_apply_8 : decode b_M_apply 8 = .ok (.iload_n 2, 1) := by decide +kernel
theorem d_M_apply_9 : decode b_M_apply 9 = .ok (.iadd, 1) := by decide +kernel
theorem d_M_apply_10 : decode b_M_apply 10 = .ok (.iaload, 1) := by decide +kernel
theorem d_M_apply_11 : decode b_M_apply 11 = .ok (.istore_n 3, 1) := by decide +kernel
theorem d_M_apply_12 : decode b_M_apply 12 = .ok (.aload_n 0, 1) := by decide +kernel
theorem d_M_apply_13 : decode b_M_apply 13 = .ok (.iload_n 1, 1) := by decide +kernel
theorem d_M_apply_14 : decode b_M_apply 14 = .ok (.iload_n 2, 1) := by decide +kernel
theorem d_M_apply_15 : decode b_M_apply 15 = .ok (.iconst 0, 1) := by decide +kernel
theorem d_M_apply_16 : decode b_M_apply 16 = .ok (.invokevirtual 88, 3) := by decide +kernel
theorem d_M_apply_19 : decode b_M_apply 19 = .ok (.bipush 100, 2) := by decide +kernel
theorem d_M_apply_21 : decode b_M_apply 21 = .ok (.if_icmp .ne 8, 3) := by decide +kernel
theorem d_M_apply_24 : decode b_M_apply 24 = .ok (.iload_n 3, 1) := by decide +kernel
theorem d_M_apply_25 : decode b_M_apply 25 = .ok (.iconst 4, 1) := by decide +kernel
theorem d_M_apply_26 : decode b_M_apply 26 = .ok (.if_icmp .ge 5, 3) := by decide +kernel
theorem d_M_apply_29 : decode b_M_apply 29 = .ok (.iconst 0, 1) := by decide +kernel
theorem d_M_apply_30 : decode b_M_apply 30 = .ok (.ireturn, 1) := by decide +kernel
theorem d_M_apply_31 : decode b_M_apply 31 = .ok (.aload_n 0, 1) := by decide +kernel
theorem d_M_apply_32 : decode b_M_apply 32 = .ok (.iload_n 1, 1) := by decide +kernel
theorem d_M_apply_33 : decode b_M_apply 33 = .ok (.iload_n 2, 1) := by decide +kernel
theorem d_M_apply_34 : decode b_M_apply 34 = .ok (.iconst 1, 1) := by decide +kernel
theorem d_M_apply_35 : decode b_M_apply 35 = .ok (.invokevirtual 88, 3) := by decide +kernel
theorem d_M_apply_38 : decode b_M_apply 38 = .ok (.istore 4, 2) := by decide +kernel
theorem d_M_apply_40 : decode b_M_apply 40 = .ok (.aload_n 0, 1) := by decide +kernel
theorem d_M_apply_41 : decode b_M_apply 41 = .ok (.iload_n 1, 1) := by decide +kernel
theorem d_M_apply_42 : decode b_M_apply 42 = .ok (.iload_n 2, 1) := by decide +kernel
theorem d_M_apply_43 : decode b_M_apply 43 = .ok (.iconst 2, 1) := by decide +kernel
theorem d_M_apply_44 : decode b_M_apply 44 = .ok (.invokevirtual 88, 3) := by decide +kernel
theorem d_M_apply_47 : decode b_M_apply 47 = .ok (.istore 5, 2) := by decide +kernel
theorem d_M_apply_49 : decode b_M_apply 49 = .ok (.aload_n 0, 1) := by decide +kernel
theorem d_M_apply_50 : decode b_M_apply 50 = .ok (.iload_n 1, 1) := by decide +kernel
theorem d_M_apply_51 : decode b_M_apply 51 = .ok (.iload_n 2, 1) := by decide +kernel
theorem d_M_apply_52 : decode b_M_apply 52 = .ok (.iconst 3, 1) := by decide +kernel
theorem d_M_apply_53 : decode b_M_apply 53 = .ok (.invokevirtual 88, 3) := by decide +kernel
theorem d_M_apply_56 : decode b_M_apply 56 = .ok (.istore 6, 2) := by decide +kernel
theorem d_M_apply_58 : decode b_M_apply 58 = .ok (.iload 4, 2) := by decide +kernel
theorem d_M_apply_60 : decode b_M_apply 60 = .ok (.iload 6, 2) := by decide +kernel
theorem d_M_apply_62 : decode b_M_apply 62 = .ok (.iadd, 1) := by decide +kernel
theorem d_M_apply_63 : decode b_M_apply 63 = .ok (.aload_n 0, 1) := by decide +kernel
theorem d_M_apply_64 : decode b_M_apply 64 = .ok (.getfield 92, 3) := by decide +kernel
theorem d_M_apply_67 : decode b_M_apply 67 = .ok (.iadd, 1) := by decide +kernel
theorem d_M_apply_68 : decode b_M_apply 68 = .ok (.iload 5, 2) := by decide +kernel
theorem d_M_apply_70 : decode b_M_apply 70 = .ok (.isub, 1) := by decide +kernel
theorem d_M_apply_71 : decode b_M_apply 71 = .ok (.istore 7, 2) := by decide +kernel
theorem d_M_apply_73 : decode b_M_apply 73 = .ok (.iload 4, 2) := by decide +kernel
theorem d_M_apply_75 : decode b_M_apply 75 = .ok (.iload 5, 2) := by decide +kernel
theorem d_M_apply_77 : decode b_M_apply 77 = .ok (.if_icmp .gt 27, 3) := by decide +kernel
theorem d_M_apply_80 : decode b_M_apply 80 = .ok (.iload 5, 2) := by decide +kernel
theorem d_M_apply_82 : decode b_M_apply 82 = .ok (.aload_n 0, 1) := by decide +kernel
theorem d_M_apply_83 : decode b_M_apply 83 = .ok (.getfield 92, 3) := by decide +kernel
theorem d_M_apply_86 : decode b_M_apply 86 = .ok (.if_icmp .gt 18, 3) := by decide +kernel
theorem d_M_apply_89 : decode b_M_apply 89 = .ok (.iload 6, 2) := by decide +kernel
theorem d_M_apply_91 : decode b_M_apply 91 = .ok (.iload_n 3, 1) := by decide +kernel
theorem d_M_apply_92 : decode b_M_apply 92 = .ok (.iconst 4, 1) := by decide +kernel
theorem d_M_apply_93 : decode b_M_apply 93 = .ok (.isub, 1) := by decide +kernel
theorem d_M_apply_94 : decode b_M_apply 94 = .ok (.if_icmp .ne 10, 3) := by decide +kernel
theorem d_M_apply_97 : decode b_M_apply 97 = .ok (.iload 7, 2) := by decide +kernel
theorem d_M_apply_99 : decode b_M_apply 99 = .ok (.bipush 60, 2) := by decide +kernel
theorem d_M_apply_101 : decode b_M_apply 101 = .ok (.if_icmp .le 5, 3) := by decide +kernel
theorem d_M_apply_104 : decode b_M_apply 104 = .ok (.iconst 0, 1) := by decide +kernel
theorem d_M_apply_105 : decode b_M_apply 105 = .ok (.ireturn, 1) := by decide +kernel
theorem d_M_apply_106 : decode b_M_apply 106 = .ok (.iconst 0, 1) := by decide +kernel
theorem d_M_apply_107 : decode b_M_apply 107 = .ok (.istore 8, 2) := by decide +kernel
theorem d_M_apply_109 : decode b_M_apply 109 = .ok (.iload 8, 2) := by decide +kernel
theorem d_M_apply_111 : decode b_M_apply 111 = .ok (.iload 7, 2) := by decide +kernel
theorem d_M_apply_113 : decode b_M_apply 113 = .ok (.if_icmp .ge 75, 3) := by decide +kernel
theorem d_M_apply_116 : decode b_M_apply 116 = .ok (.aload_n 0, 1) := by decide +kernel
theorem d_M_apply_117 : decode b_M_apply 117 = .ok (.getfield 60, 3) := by decide +kernel
theorem d_M_apply_120 : decode b_M_apply 120 = .ok (.iload 8, 2) := by decide +kernel
theorem d_M_apply_122 : decode b_M_apply 122 = .ok (.iload 8, 2) := by decide +kernel
theorem d_M_apply_124 : decode b_M_apply 124 = .ok (.iload 4, 2) := by decide +kernel
theorem d_M_apply_126 : decode b_M_apply 126 = .ok (.if_icmp .ge 13, 3) := by decide +kernel
theorem d_M_apply_129 : decode b_M_apply 129 = .ok (.aload_n 0, 1) := by decide +kernel
theorem d_M_apply_130 : decode b_M_apply 130 = .ok (.getfield 57, 3) := by decide +kernel
theorem d_M_apply_133 : decode b_M_apply 133 = .ok (.iload 8, 2) := by decide +kernel
theorem d_M_apply_135 : decode b_M_apply 135 = .ok (.iaload, 1) := by decide +kernel
theorem d_M_apply_136 : decode b_M_apply 136 = .ok (.goto 45, 3) := by decide +kernel
theorem d_M_apply_139 : decode b_M_apply 139 = .ok (.iload 8, 2) := by decide +kernel
theorem d_M_apply_141 : decode b_M_apply 141 = .ok (.iload 4, 2) := by decide +kernel
theorem d_M_apply_143 : decode b_M_apply 143 = .ok (.iload 6, 2) := by decide +kernel
theorem d_M_apply_145 : decode b_M_apply 145 = .ok (.iadd, 1) := by decide +kernel
theorem d_M_apply_146 : decode b_M_apply 146 = .ok (.if_icmp .ge 19, 3) := by decide +kernel
theorem d_M_apply_149 : decode b_M_apply 149 = .ok (.aload_n 0, 1) := by decide +kernel
theorem d_M_apply_150 : decode b_M_apply 150 = .ok (.iload_n 1, 1) := by decide +kernel
theorem d_M_apply_151 : decode b_M_apply 151 = .ok (.iload_n 2, 1) := by decide +kernel
theorem d_M_apply_152 : decode b_M_apply 152 = .ok (.iconst 4, 1) := by decide +kernel
theorem d_M_apply_153 : decode b_M_apply 153 = .ok (.iload 8, 2) := by decide +kernel
theorem d_M_apply_155 : decode b_M_apply 155 = .ok (.iadd, 1) := by decide +kernel
theorem d_M_apply_156 : decode b_M_apply 156 = .ok (.iload 4, 2) := by decide +kernel
theorem d_M_apply_158 : decode b_M_apply 158 = .ok (.isub, 1) := by decide +kernel
theorem d_M_apply_159 : decode b_M_apply 159 = .ok (.invokevirtual 88, 3) := by decide +kernel
theorem d_M_apply_162 : decode b_M_apply 162 = .ok (.goto 19, 3) := by decide +kernel
theorem d_M_apply_165 : decode b_M_apply 165 = .ok (.aload_n 0, 1) := by decide +kernel
theorem d_M_apply_166 : decode b_M_apply 166 = .ok (.getfield 57, 3) := by decide +kernel
theorem d_M_apply_169 : decode b_M_apply 169 = .ok (.iload 5, 2) := by decide +kernel
theorem d_M_apply_171 : decode b_M_apply 171 = .ok (.iload 8, 2) := by decide +kernel
theorem d_M_apply_173 : decode b_M_apply 173 = .ok (.iadd, 1) := by decide +kernel
theorem d_M_apply_174 : decode b_M_apply 174 = .ok (.iload 4, 2) := by decide +kernel
theorem d_M_apply_176 : decode b_M_apply 176 = .ok (.isub, 1) := by decide +kernel
theorem d_M_apply_177 : decode b_M_apply 177 = .ok (.iload 6, 2) := by decide +kernel
theorem d_M_apply_179 : decode b_M_apply 179 = .ok (.isub, 1) := by decide +kernel
theorem d_M_apply_180 : decode b_M_apply 180 = .ok (.iaload, 1) := by decide +kernel
theorem d_M_apply_181 : decode b_M_apply 181 = .ok (.iastore, 1) := by decide +kernel
theorem d_M_apply_182 : decode b_M_apply 182 = .ok (.iinc 8 1, 3) := by decide +kernel
theorem d_M_apply_185 : decode b_M_apply 185 = .ok (.goto (-76), 3) := by decide +kernel
theorem d_M_apply_188 : decode b_M_apply 188 = .ok (.iconst 0, 1) := by decide +kernel
theorem d_M_apply_189 : decode b_M_apply 189 = .ok (.istore 8, 2) := by decide +kernel
theorem d_M_apply_191 : decode b_M_apply 191 = .ok (.iload 8, 2) := by decide +kernel
theorem d_M_apply_193 : decode b_M_apply 193 = .ok (.iload 7, 2) := by decide +kernel
theorem d_M_apply_195 : decode b_M_apply 195 = .ok (.if_icmp .ge 23, 3) := by decide +kernel
theorem d_M_apply_198 : decode b_M_apply 198 = .ok (.aload_n 0, 1) := by decide +kernel
theorem d_M_apply_199 : decode b_M_apply 199 = .ok (.getfield 57, 3) := by decide +kernel
theorem d_M_apply_202 : decode b_M_apply 202 = .ok (.iload 8, 2) := by decide +kernel
theorem d_M_apply_204 : decode b_M_apply 204 = .ok (.aload_n 0, 1) := by decide +kernel
theorem d_M_apply_205 : decode b_M_apply 205 = .ok (.getfield 60, 3) := by decide +kernel
theorem d_M_apply_208 : decode b_M_apply 208 = .ok (.iload 8, 2) := by decide +kernel
theorem d_M_apply_210 : decode b_M_apply 210 = .ok (.iaload, 1) := by decide +kernel
theorem d_M_apply_211 : decode b_M_apply 211 = .ok (.iastore, 1) := by decide +kernel
theorem d_M_apply_212 : decode b_M_apply 212 = .ok (.iinc 8 1, 3) := by decide +kernel
theorem d_M_apply_215 : decode b_M_apply 215 = .ok (.goto (-24), 3) := by decide +kernel
theorem d_M_apply_218 : decode b_M_apply 218 = .ok (.aload_n 0, 1) := by decide +kernel
theorem d_M_apply_219 : decode b_M_apply 219 = .ok (.iload 7, 2) := by decide +kernel
theorem d_M_apply_221 : decode b_M_apply 221 = .ok (.putfield 92, 3) := by decide +kernel
theorem d_M_apply_224 : decode b_M_apply 224 = .ok (.iconst 1, 1) := by decide +kernel
theorem d_M_apply_225 : decode b_M_apply 225 = .ok (.ireturn, 1) := by decide +kernel
theorem d_M_barred_0 : decode b_M_barred 0 = .ok (.aload_n 0, 1) := by decide +kernel
theorem d_M_barred_1 : decode b_M_barred 1 = .ok (.getfield 50, 3) := by decide +kernel
theorem d_M_barred_4 : decode b_M_barred 4 = .ok (.iload_n 1, 1) := by decide +kernel
theorem d_M_barred_5 : decode b_M_barred 5 = .ok (.baload, 1) := by decide +kernel
theorem d_M_barred_6 : decode b_M_barred 6 = .ok (.ifCond .ne 21, 3) := by decide +kernel
theorem d_M_barred_9 : decode b_M_barred 9 = .ok (.aload_n 0, 1) := by decide +kernel
theorem d_M_barred_10 : decode b_M_barred 10 = .ok (.getfield 44, 3) := by decide +kernel
theorem d_M_barred_13 : decode b_M_barred 13 = .ok (.iload_n 1, 1) := by decide +kernel
theorem d_M_barred_14 : decode b_M_barred 14 = .ok (.iaload, 1) := by decide +kernel
theorem d_M_barred_15 : decode b_M_barred 15 = .ok (.ifCond .lt 7, 3) := by decide +kernel
theorem d_M_barred_18 : decode b_M_barred 18 = .ok (.iconst 1, 1) := by decide +kernel
theorem d_M_barred_19 : decode b_M_barred 19 = .ok (.goto 4, 3) := by decide +kernel
theorem d_M_barred_22 : decode b_M_barred 22 = .ok (.iconst 0, 1) := by decide +kernel
theorem d_M_barred_23 : decode b_M_barred 23 = .ok (.iload_n 2, 1) := by decide +kernel
theorem d_M_barred_24 : decode b_M_barred 24 = .ok (.if_icmp .eq 7, 3) := by decide +kernel
theorem d_M_barred_27 : decode b_M_barred 27 = .ok (.iconst 1, 1) := by decide +kernel
theorem d_M_barred_28 : decode b_M_barred 28 = .ok (.goto 4, 3) := by decide +kernel
theorem d_M_barred_31 : decode b_M_barred 31 = .ok (.iconst 0, 1) := by decide +kernel
theorem d_M_barred_32 : decode b_M_barred 32 = .ok (.ireturn, 1) := by decide +kernel
theorem d_M_begin_0 : decode b_M_begin 0 = .ok (.iload_n 1, 1) := by decide +kernel
theorem d_M_begin_1 : decode b_M_begin 1 = .ok (.invokestatic 159, 3) := by decide +kernel
theorem d_M_begin_4 : decode b_M_begin 4 = .ok (.ifCond .ne 9, 3) := by decide +kernel
theorem d_M_begin_7 : decode b_M_begin 7 = .ok (.aload_n 0, 1) := by decide +kernel
theorem d_M_begin_8 : decode b_M_begin 8 = .ok (.iconst 1, 1) := by decide +kernel
theorem d_M_begin_9 : decode b_M_begin 9 = .ok (.invokevirtual 162, 3) := by decide +kernel
theorem d_M_begin_12 : decode b_M_begin 12 = .ok (.ireturn, 1) := by decide +kernel
theorem d_M_begin_13 : decode b_M_begin 13 = .ok (.aload_n 0, 1) := by decide +kernel
theorem d_M_begin_14 : decode b_M_begin 14 = .ok (.iload_n 1, 1) := by decide +kernel
theorem d_M_begin_15 : decode b_M_begin 15 = .ok (.iconst 0, 1) := by decide +kernel
theorem d_M_begin_16 : decode b_M_begin 16 = .ok (.invokevirtual 165, 3) := by decide +kernel
theorem d_M_begin_19 : decode b_M_begin 19 = .ok (.ifCond .eq 9, 3) := by decide +kernel
theorem d_M_begin_22 : decode b_M_begin 22 = .ok (.aload_n 0, 1) := by decide +kernel
theorem d_M_begin_23 : decode b_M_begin 23 = .ok (.iconst 2, 1) := by decide +kernel
theorem d_M_begin_24 : decode b_M_begin 24 = .ok (.invokevirtual 162, 3) := by decide +kernel
theorem d_M_begin_27 : decode b_M_begin 27 = .ok (.ireturn, 1) := by decide +kernel
theorem d_M_begin_28 : decode b_M_begin 28 = .ok (.aload_n 0, 1) := by decide +kernel
theorem d_M_begin_29 : decode b_M_begin 29 = .ok (.iconst 0, 1) := by decide +kernel
theorem d_M_begin_30 : decode b_M_begin 30 = .ok (.putfield 69, 3) := by decide +kernel
theorem d_M_begin_33 : decode b_M_begin 33 = .ok (.aload_n 0, 1) := by decide +kernel
theorem d_M_begin_34 : decode b_M_begin 34 = .ok (.iload_n 1, 1) := by decide +kernel
theorem d_M_begin_35 : decode b_M_begin 35 = .ok (.invokevirtual 169, 3) := by decide +kernel
theorem d_M_begin_38 : decode b_M_begin 38 = .ok (.ifCond .eq 7, 3) := by decide +kernel
theorem d_M_begin_41 : decode b_M_begin 41 = .ok (.iconst 0, 1) := by decide +kernel
theorem d_M_begin_42 : decode b_M_begin 42 = .ok (.goto 5, 3) := by decide +kernel
theorem d_M_begin_45 : decode b_M_begin 45 = .ok (.bipush (-2), 2) := by decide +kernel
theorem d_M_begin_47 : decode b_M_begin 47 = .ok (.ireturn, 1) := by decide +kernel
theorem d_M_begun_0 : decode b_M_begun 0 = .ok (.iload_n 2, 1) := by decide +kernel
theorem d_M_begun_1 : decode b_M_begun 1 = .ok (.ifCond .ge 7, 3) := by decide +kernel
theorem d_M_begun_4 : decode b_M_begun 4 = .ok (.lconst 0, 1) := by decide +kernel
theorem d_M_begun_5 : decode b_M_begun 5 = .ok (.goto 14, 3) := by decide +kernel
theorem d_M_begun_8 : decode b_M_begun 8 = .ok (.aload_n 0, 1) := by decide +kernel
theorem d_M_begun_9 : decode b_M_begun 9 = .ok (.getfield 40, 3) := by decide +kernel
theorem d_M_begun_12 : decode b_M_begun 12 = .ok (.bipush 24, 2) := by decide +kernel
theorem d_M_begun_14 : decode b_M_begun 14 = .ok (.iload_n 1, 1) := by decide +kernel
theorem d_M_begun_15 : decode b_M_begun 15 = .ok (.imul, 1) := by decide +kernel
theorem d_M_begun_16 : decode b_M_begun 16 = .ok (.iload_n 2, 1) := by decide +kernel
theorem d_M_begun_17 : decode b_M_begun 17 = .ok (.iadd, 1) := by decide +kernel
theorem d_M_begun_18 : decode b_M_begun 18 = .ok (.laload, 1) := by decide +kernel
theorem d_M_begun_19 : decode b_M_begun 19 = .ok (.lstore 4, 2) := by decide +kernel
theorem d_M_begun_21 : decode b_M_begun 21 = .ok (.iload_n 3, 1) := by decide +kernel
theorem d_M_begun_22 : decode b_M_begun 22 = .ok (.ifCond .ge 7, 3) := by decide +kernel
theorem d_M_begun_25 : decode b_M_begun 25 = .ok (.lconst 0, 1) := by decide +kernel
theorem d_M_begun_26 : decode b_M_begun 26 = .ok (.goto 14, 3) := by decide +kernel
theorem d_M_begun_29 : decode b_M_begun 29 = .ok (.aload_n 0, 1) := by decide +kernel
theorem d_M_begun_30 : decode b_M_begun 30 = .ok (.getfield 40, 3) := by decide +kernel
theorem d_M_begun_33 : decode b_M_begun 33 = .ok (.bipush 24, 2) := by decide +kernel
theorem d_M_begun_35 : decode b_M_begun 35 = .ok (.iload_n 1, 1) := by decide +kernel
theorem d_M_begun_36 : decode b_M_begun 36 = .ok (.imul, 1) := by decide +kernel
theorem d_M_begun_37 : decode b_M_begun 37 = .ok (.iload_n 3, 1) := by decide +kernel
theorem d_M_begun_38 : decode b_M_begun 38 = .ok (.iadd, 1) := by decide +kernel
theorem d_M_begun_39 : decode b_M_begun 39 = .ok (.laload, 1) := by decide +kernel
theorem d_M_begun_40 : decode b_M_begun 40 = .ok (.lstore 6, 2) := by decide +kernel
theorem d_M_begun_42 : decode b_M_begun 42 = .ok (.ldc2_w 82, 3) := by decide +kernel
theorem d_M_begun_45 : decode b_M_begun 45 = .ok (.lload 4, 2) := by decide +kernel
theorem d_M_begun_47 : decode b_M_begun 47 = .ok (.lload 6, 2) := by decide +kernel
theorem d_M_begun_49 : decode b_M_begun 49 = .ok (.lcmp, 1) := by decide +kernel
theorem d_M_begun_50 : decode b_M_begun 50 = .ok (.ifCond .ge 8, 3) := by decide +kernel
theorem d_M_begun_53 : decode b_M_begun 53 = .ok (.lload 4, 2) := by decide +kernel
theorem d_M_begun_55 : decode b_M_begun 55 = .ok (.goto 5, 3) := by decide +kernel
theorem d_M_begun_58 : decode b_M_begun 58 = .ok (.lload 6, 2) := by decide +kernel
theorem d_M_begun_60 : decode b_M_begun 60 = .ok (.invokestatic 84, 3) := by decide +kernel
theorem d_M_begun_63 : decode b_M_begun 63 = .ok (.lstore 8, 2) := by decide +kernel
theorem d_M_begun_65 : decode b_M_begun 65 = .ok (.lload 8, 2) := by decide +kernel
theorem d_M_begun_67 : decode b_M_begun 67 = .ok (.lload 4, 2) := by decide +kernel
theorem d_M_begun_69 : decode b_M_begun 69 = .ok (.lload 6, 2) := by decide +kernel
theorem d_M_begun_71 : decode b_M_begun 71 = .ok (.lcmp, 1) := by decide +kernel
theorem d_M_begun_72 : decode b_M_begun 72 = .ok (.ifCond .ge 8, 3) := by decide +kernel
theorem d_M_begun_75 : decode b_M_begun 75 = .ok (.lload 6, 2) := by decide +kernel
theorem d_M_begun_77 : decode b_M_begun 77 = .ok (.goto 5, 3) := by decide +kernel
theorem d_M_begun_80 : decode b_M_begun 80 = .ok (.lload 4, 2) := by decide +kernel
theorem d_M_begun_82 : decode b_M_begun 82 = .ok (.invokestatic 84, 3) := by decide +kernel
theorem d_M_begun_85 : decode b_M_begun 85 = .ok (.lreturn, 1) := by decide +kernel
theorem d_M_bring_0 : decode b_M_bring 0 = .ok (.aload_n 0, 1) := by decide +kernel
theorem d_M_bring_1 : decode b_M_bring 1 = .ok (.aload_n 0, 1) := by decide +kernel
theorem d_M_bring_2 : decode b_M_bring 2 = .ok (.getfield 92, 3) := by decide +kernel
theorem d_M_bring_5 : decode b_M_bring 5 = .ok (.putfield 106, 3) := by decide +kernel
theorem d_M_bring_8 : decode b_M_bring 8 = .ok (.iconst 0, 1) := by decide +kernel
theorem d_M_bring_9 : decode b_M_bring 9 = .ok (.istore 4, 2) := by decide +kernel
theorem d_M_bring_11 : decode b_M_bring 11 = .ok (.iload 4, 2) := by decide +kernel
theorem d_M_bring_13 : decode b_M_bring 13 = .ok (.aload_n 0, 1) := by decide +kernel
theorem d_M_bring_14 : decode b_M_bring 14 = .ok (.getfield 92, 3) := by decide +kernel
theorem d_M_bring_17 : decode b_M_bring 17 = .ok (.if_icmp .ge 23, 3) := by decide +kernel
theorem d_M_bring_20 : decode b_M_bring 20 = .ok (.aload_n 0, 1) := by decide +kernel
theorem d_M_bring_21 : decode b_M_bring 21 = .ok (.getfield 66, 3) := by decide +kernel
theorem d_M_bring_24 : decode b_M_bring 24 = .ok (.iload 4, 2) := by decide +kernel
theorem d_M_bring_26 : decode b_M_bring 26 = .ok (.aload_n 0, 1) := by decide +kernel
theorem d_M_bring_27 : decode b_M_bring 27 = .ok (.getfield 57, 3) := by decide +kernel
theorem d_M_bring_30 : decode b_M_bring 30 = .ok (.iload 4, 2) := by decide +kernel
theorem d_M_bring_32 : decode b_M_bring 32 = .ok (.iaload, 1) := by decide +kernel
theorem d_M_bring_33 : decode b_M_bring 33 = .ok (.iastore, 1) := by decide +kernel
theorem d_M_bring_34 : decode b_M_bring 34 = .ok (.iinc 4 1, 3) := by decide +kernel
theorem d_M_bring_37 : decode b_M_bring 37 = .ok (.goto (-26), 3) := by decide +kernel
theorem d_M_bring_40 : decode b_M_bring 40 = .ok (.aload_n 0, 1) := by decide +kernel
theorem d_M_bring_41 : decode b_M_bring 41 = .ok (.getfield 34, 3) := by decide +kernel
theorem d_M_bring_44 : decode b_M_bring 44 = .ok (.bipush 24, 2) := by decide +kernel
theorem d_M_bring_46 : decode b_M_bring 46 = .ok (.iload_n 2, 1) := by decide +kernel
theorem d_M_bring_47 : decode b_M_bring 47 = .ok (.imul, 1) := by decide +kernel
theorem d_M_bring_48 : decode b_M_bring 48 = .ok (.iload_n 3, 1) := by decide +kernel
theorem d_M_bring_49 : decode b_M_bring 49 = .ok (.iadd, 1) := by decide +kernel
theorem d_M_bring_50 : decode b_M_bring 50 = .ok (.iaload, 1) := by decide +kernel
theorem d_M_bring_51 : decode b_M_bring 51 = .ok (.istore 4, 2) := by decide +kernel
theorem d_M_bring_53 : decode b_M_bring 53 = .ok (.aload_n 0, 1) := by decide +kernel
theorem d_M_bring_54 : decode b_M_bring 54 = .ok (.getfield 37, 3) := by decide +kernel
theorem d_M_bring_57 : decode b_M_bring 57 = .ok (.bipush 24, 2) := by decide +kernel
theorem d_M_bring_59 : decode b_M_bring 59 = .ok (.iload_n 2, 1) := by decide +kernel
theorem d_M_bring_60 : decode b_M_bring 60 = .ok (.imul, 1) := by decide +kernel
theorem d_M_bring_61 : decode b_M_bring 61 = .ok (.iload_n 3, 1) := by decide +kernel
theorem d_M_bring_62 : decode b_M_bring 62 = .ok (.iadd, 1) := by decide +kernel
theorem d_M_bring_63 : decode b_M_bring 63 = .ok (.iaload, 1) := by decide +kernel
theorem d_M_bring_64 : decode b_M_bring 64 = .ok (.istore 5, 2) := by decide +kernel
theorem d_M_bring_66 : decode b_M_bring 66 = .ok (.iload 4, 2) := by decide +kernel
theorem d_M_bring_68 : decode b_M_bring 68 = .ok (.ifCond .ge 7, 3) := by decide +kernel
theorem d_M_bring_71 : decode b_M_bring 71 = .ok (.iconst (-1), 1) := by decide +kernel
theorem d_M_bring_72 : decode b_M_bring 72 = .ok (.goto 20, 3) := by decide +kernel
theorem d_M_bring_75 : decode b_M_bring 75 = .ok (.aload_n 0, 1) := by decide +kernel
theorem d_M_bring_76 : decode b_M_bring 76 = .ok (.iload_n 1, 1) := by decide +kernel
theorem d_M_bring_77 : decode b_M_bring 77 = .ok (.aload_n 0, 1) := by decide +kernel
theorem d_M_bring_78 : decode b_M_bring 78 = .ok (.getfield 40, 3) := by decide +kernel
theorem d_M_bring_81 : decode b_M_bring 81 = .ok (.bipush 24, 2) := by decide +kernel
theorem d_M_bring_83 : decode b_M_bring 83 = .ok (.iload_n 2, 1) := by decide +kernel
theorem d_M_bring_84 : decode b_M_bring 84 = .ok (.imul, 1) := by decide +kernel
theorem d_M_bring_85 : decode b_M_bring 85 = .ok (.iload 4, 2) := by decide +kernel
theorem d_M_bring_87 : decode b_M_bring 87 = .ok (.iadd, 1) := by decide +kernel
theorem d_M_bring_88 : decode b_M_bring 88 = .ok (.laload, 1) := by decide +kernel
theorem d_M_bring_89 : decode b_M_bring 89 = .ok (.invokevirtual 138, 3) := by decide +kernel
theorem d_M_bring_92 : decode b_M_bring 92 = .ok (.istore 6, 2) := by decide +kernel
theorem d_M_bring_94 : decode b_M_bring 94 = .ok (.iload 5, 2) := by decide +kernel
theorem d_M_bring_96 : decode b_M_bring 96 = .ok (.ifCond .ge 7, 3) := by decide +kernel
theorem d_M_bring_99 : decode b_M_bring 99 = .ok (.iconst (-1), 1) := by decide +kernel
theorem d_M_bring_100 : decode b_M_bring 100 = .ok (.goto 20, 3) := by decide +kernel
theorem d_M_bring_103 : decode b_M_bring 103 = .ok (.aload_n 0, 1) := by decide +kernel
theorem d_M_bring_104 : decode b_M_bring 104 = .ok (.iload_n 1, 1) := by decide +kernel
theorem d_M_bring_105 : decode b_M_bring 105 = .ok (.aload_n 0, 1) := by decide +kernel
theorem d_M_bring_106 : decode b_M_bring 106 = .ok (.getfield 40, 3) := by decide +kernel
theorem d_M_bring_109 : decode b_M_bring 109 = .ok (.bipush 24, 2) := by decide +kernel
theorem d_M_bring_111 : decode b_M_bring 111 = .ok (.iload_n 2, 1) := by decide +kernel
theorem d_M_bring_112 : decode b_M_bring 112 = .ok (.imul, 1) := by decide +kernel
theorem d_M_bring_113 : decode b_M_bring 113 = .ok (.iload 5, 2) := by decide +kernel
theorem d_M_bring_115 : decode b_M_bring 115 = .ok (.iadd, 1) := by decide +kernel
theorem d_M_bring_116 : decode b_M_bring 116 = .ok (.laload, 1) := by decide +kernel
theorem d_M_bring_117 : decode b_M_bring 117 = .ok (.invokevirtual 138, 3) := by decide +kernel
theorem d_M_bring_120 : decode b_M_bring 120 = .ok (.istore 7, 2) := by decide +kernel
theorem d_M_bring_122 : decode b_M_bring 122 = .ok (.aload_n 0, 1) := by decide +kernel
theorem d_M_bring_123 : decode b_M_bring 123 = .ok (.iload_n 1, 1) := by decide +kernel
theorem d_M_bring_124 : decode b_M_bring 124 = .ok (.iload 6, 2) := by decide +kernel
theorem d_M_bring_126 : decode b_M_bring 126 = .ok (.iload 7, 2) := by decide +kernel
theorem d_M_bring_128 : decode b_M_bring 128 = .ok (.invokevirtual 175, 3) := by decide +kernel
theorem d_M_bring_131 : decode b_M_bring 131 = .ok (.ireturn, 1) := by decide +kernel
theorem d_M_build_0 : decode b_M_build 0 = .ok (.iconst 0, 1) := by decide +kernel
theorem d_M_build_1 : decode b_M_build 1 = .ok (.istore_n 3, 1) := by decide +kernel
theorem d_M_build_2 : decode b_M_build 2 = .ok (.iload_n 2, 1) := by decide +kernel
theorem d_M_build_3 : decode b_M_build 3 = .ok (.istore 4, 2) := by decide +kernel
theorem d_M_build_5 : decode b_M_build 5 = .ok (.iload 4, 2) := by decide +kernel
theorem d_M_build_7 : decode b_M_build 7 = .ok (.ifCond .lt 31, 3) := by decide +kernel
theorem d_M_build_10 : decode b_M_build 10 = .ok (.aload_n 0, 1) := by decide +kernel
theorem d_M_build_11 : decode b_M_build 11 = .ok (.getfield 63, 3) := by decide +kernel
theorem d_M_build_14 : decode b_M_build 14 = .ok (.iload_n 3, 1) := by decide +kernel
theorem d_M_build_15 : decode b_M_build 15 = .ok (.iload 4, 2) := by decide +kernel
theorem d_M_build_17 : decode b_M_build 17 = .ok (.iastore, 1) := by decide +kernel
theorem d_M_build_18 : decode b_M_build 18 = .ok (.iinc 3 1, 3) := by decide +kernel
theorem d_M_build_21 : decode b_M_build 21 = .ok (.aload_n 0, 1) := by decide +kernel
theorem d_M_build_22 : decode b_M_build 22 = .ok (.getfield 31, 3) := by decide +kernel
theorem d_M_build_25 : decode b_M_build 25 = .ok (.bipush 24, 2) := by decide +kernel
theorem d_M_build_27 : decode b_M_build 27 = .ok (.iload_n 1, 1) := by decide +kernel
theorem d_M_build_28 : decode b_M_build 28 = .ok (.imul, 1) := by decide +kernel
theorem d_M_build_29 : decode b_M_build 29 = .ok (.iload 4, 2) := by decide +kernel
theorem d_M_build_31 : decode b_M_build 31 = .ok (.iadd, 1) := by decide +kernel
theorem d_M_build_32 : decode b_M_build 32 = .ok (.iaload, 1) := by decide +kernel
theorem d_M_build_33 : decode b_M_build 33 = .ok (.istore 4, 2) := by decide +kernel
theorem d_M_build_35 : decode b_M_build 35 = .ok (.goto (-30), 3) := by decide +kernel
theorem d_M_build_38 : decode b_M_build 38 = .ok (.aload_n 0, 1) := by decide +kernel
theorem d_M_build_39 : decode b_M_build 39 = .ok (.iload_n 1, 1) := by decide +kernel
theorem d_M_build_40 : decode b_M_build 40 = .ok (.aload_n 0, 1) := by decide +kernel
theorem d_M_build_41 : decode b_M_build 41 = .ok (.getfield 63, 3) := by decide +kernel
theorem d_M_build_44 : decode b_M_build 44 = .ok (.iload_n 3, 1) := by decide +kernel
theorem d_M_build_45 : decode b_M_build 45 = .ok (.iconst 1, 1) := by decide +kernel
theorem d_M_build_46 : decode b_M_build 46 = .ok (.isub, 1) := by decide +kernel
theorem d_M_build_47 : decode b_M_build 47 = .ok (.iaload, 1) := by decide +kernel
theorem d_M_build_48 : decode b_M_build 48 = .ok (.invokevirtual 95, 3) := by decide +kernel
theorem d_M_build_51 : decode b_M_build 51 = .ok (.istore 5, 2) := by decide +kernel
theorem d_M_build_53 : decode b_M_build 53 = .ok (.iload_n 3, 1) := by decide +kernel
theorem d_M_build_54 : decode b_M_build 54 = .ok (.iconst 2, 1) := by decide +kernel
theorem d_M_build_55 : decode b_M_build 55 = .ok (.isub, 1) := by decide +kernel
theorem d_M_build_56 : decode b_M_build 56 = .ok (.istore 6, 2) := by decide +kernel
theorem d_M_build_58 : decode b_M_build 58 = .ok (.iload 6, 2) := by decide +kernel
theorem d_M_build_60 : decode b_M_build 60 = .ok (.ifCond .lt 28, 3) := by decide +kernel
theorem d_M_build_63 : decode b_M_build 63 = .ok (.iload 5, 2) := by decide +kernel
theorem d_M_build_65 : decode b_M_build 65 = .ok (.ifCond .eq 23, 3) := by decide +kernel
theorem d_M_build_68 : decode b_M_build 68 = .ok (.aload_n 0, 1) := by decide +kernel
theorem d_M_build_69 : decode b_M_build 69 = .ok (.iload_n 1, 1) := by decide +kernel
theorem d_M_build_70 : decode b_M_build 70 = .ok (.aload_n 0, 1) := by decide +kernel
theorem d_M_build_71 : decode b_M_build 71 = .ok (.getfield 63, 3) := by decide +kernel
theorem d_M_build_74 : decode b_M_build 74 = .ok (.iload 6, 2) := by decide +kernel
theorem d_M_build_76 : decode b_M_build 76 = .ok (.iaload, 1) := by decide +kernel
theorem d_M_build_77 : decode b_M_build 77 = .ok (.invokevirtual 99, 3) := by decide +kernel
theorem d_M_build_80 : decode b_M_build 80 = .ok (.istore 5, 2) := by decide +kernel
theorem d_M_build_82 : decode b_M_build 82 = .ok (.iinc 6 (-1), 3) := by decide +kernel
theorem d_M_build_85 : decode b_M_build 85 = .ok (.goto (-27), 3) := by decide +kernel
theorem d_M_build_88 : decode b_M_build 88 = .ok (.iload 5, 2) := by decide +kernel
theorem d_M_build_90 : decode b_M_build 90 = .ok (.ifCond .eq 21, 3) := by decide +kernel
theorem d_M_build_93 : decode b_M_build 93 = .ok (.aload_n 0, 1) := by decide +kernel
theorem d_M_build_94 : decode b_M_build 94 = .ok (.getfield 92, 3) := by decide +kernel
theorem d_M_build_97 : decode b_M_build 97 = .ok (.aload_n 0, 1) := by decide +kernel
theorem d_M_build_98 : decode b_M_build 98 = .ok (.getfield 28, 3) := by decide +kernel
theorem d_M_build_101 : decode b_M_build 101 = .ok (.bipush 24, 2) := by decide +kernel
theorem d_M_build_103 : decode b_M_build 103 = .ok (.iload_n 1, 1) := by decide +kernel
theorem d_M_build_104 : decode b_M_build 104 = .ok (.imul, 1) := by decide +kernel
theorem d_M_build_105 : decode b_M_build 105 = .ok (.iload_n 2, 1) := by decide +kernel
theorem d_M_build_106 : decode b_M_build 106 = .ok (.iadd, 1) := by decide +kernel
theorem d_M_build_107 : decode b_M_build 107 = .ok (.iaload, 1) := by decide +kernel
theorem d_M_build_108 : decode b_M_build 108 = .ok (.if_icmp .eq 5, 3) := by decide +kernel
theorem d_M_build_111 : decode b_M_build 111 = .ok (.iconst 0, 1) := by decide +kernel
theorem d_M_build_112 : decode b_M_build 112 = .ok (.ireturn, 1) := by decide +kernel
theorem d_M_build_113 : decode b_M_build 113 = .ok (.aload_n 0, 1) := by decide +kernel
theorem d_M_build_114 : decode b_M_build 114 = .ok (.iload_n 1, 1) := by decide +kernel
theorem d_M_build_115 : decode b_M_build 115 = .ok (.aload_n 0, 1) := by decide +kernel
theorem d_M_build_116 : decode b_M_build 116 = .ok (.getfield 34, 3) := by decide +kernel
theorem d_M_build_119 : decode b_M_build 119 = .ok (.bipush 24, 2) := by decide +kernel
theorem d_M_build_121 : decode b_M_build 121 = .ok (.iload_n 1, 1) := by decide +kernel
theorem d_M_build_122 : decode b_M_build 122 = .ok (.imul, 1) := by decide +kernel
theorem d_M_build_123 : decode b_M_build 123 = .ok (.iload_n 2, 1) := by decide +kernel
theorem d_M_build_124 : decode b_M_build 124 = .ok (.iadd, 1) := by decide +kernel
theorem d_M_build_125 : decode b_M_build 125 = .ok (.iaload, 1) := by decide +kernel
theorem d_M_build_126 : decode b_M_build 126 = .ok (.aload_n 0, 1) := by decide +kernel
theorem d_M_build_127 : decode b_M_build 127 = .ok (.getfield 37, 3) := by decide +kernel
theorem d_M_build_130 : decode b_M_build 130 = .ok (.bipush 24, 2) := by decide +kernel
theorem d_M_build_132 : decode b_M_build 132 = .ok (.iload_n 1, 1) := by decide +kernel
theorem d_M_build_133 : decode b_M_build 133 = .ok (.imul, 1) := by decide +kernel
theorem d_M_build_134 : decode b_M_build 134 = .ok (.iload_n 2, 1) := by decide +kernel
theorem d_M_build_135 : decode b_M_build 135 = .ok (.iadd, 1) := by decide +kernel
theorem d_M_build_136 : decode b_M_build 136 = .ok (.iaload, 1) := by decide +kernel
theorem d_M_build_137 : decode b_M_build 137 = .ok (.invokevirtual 102, 3) := by decide +kernel
theorem d_M_build_140 : decode b_M_build 140 = .ok (.lstore 6, 2) := by decide +kernel
theorem d_M_build_142 : decode b_M_build 142 = .ok (.iconst 0, 1) := by decide +kernel
theorem d_M_build_143 : decode b_M_build 143 = .ok (.istore 8, 2) := by decide +kernel
theorem d_M_build_145 : decode b_M_build 145 = .ok (.iload 8, 2) := by decide +kernel
theorem d_M_build_147 : decode b_M_build 147 = .ok (.aload_n 0, 1) := by decide +kernel
theorem d_M_build_148 : decode b_M_build 148 = .ok (.getfield 92, 3) := by decide +kernel
theorem d_M_build_151 : decode b_M_build 151 = .ok (.if_icmp .ge 23, 3) := by decide +kernel
theorem d_M_build_154 : decode b_M_build 154 = .ok (.lload 6, 2) := by decide +kernel
theorem d_M_build_156 : decode b_M_build 156 = .ok (.aload_n 0, 1) := by decide +kernel
theorem d_M_build_157 : decode b_M_build 157 = .ok (.getfield 57, 3) := by decide +kernel
theorem d_M_build_160 : decode b_M_build 160 = .ok (.iload 8, 2) := by decide +kernel
theorem d_M_build_162 : decode b_M_build 162 = .ok (.iaload, 1) := by decide +kernel
theorem d_M_build_163 : decode b_M_build 163 = .ok (.invokestatic 78, 3) := by decide +kernel
theorem d_M_build_166 : decode b_M_build 166 = .ok (.lstore 6, 2) := by decide +kernel
theorem d_M_build_168 : decode b_M_build 168 = .ok (.iinc 8 1, 3) := by decide +kernel
theorem d_M_build_171 : decode b_M_build 171 = .ok (.goto (-26), 3) := by decide +kernel
theorem d_M_build_174 : decode b_M_build 174 = .ok (.lload 6, 2) := by decide +kernel
theorem d_M_build_176 : decode b_M_build 176 = .ok (.aload_n 0, 1) := by decide +kernel
theorem d_M_build_177 : decode b_M_build 177 = .ok (.getfield 40, 3) := by decide +kernel
theorem d_M_build_180 : decode b_M_build 180 = .ok (.bipush 24, 2) := by decide +kernel
theorem d_M_build_182 : decode b_M_build 182 = .ok (.iload_n 1, 1) := by decide +kernel
theorem d_M_build_183 : decode b_M_build 183 = .ok (.imul, 1) := by decide +kernel
theorem d_M_build_184 : decode b_M_build 184 = .ok (.iload_n 2, 1) := by decide +kernel
theorem d_M_build_185 : decode b_M_build 185 = .ok (.iadd, 1) := by decide +kernel
theorem d_M_build_186 : decode b_M_build 186 = .ok (.laload, 1) := by decide +kernel
theorem d_M_build_187 : decode b_M_build 187 = .ok (.lcmp, 1) := by decide +kernel
theorem d_M_build_188 : decode b_M_build 188 = .ok (.ifCond .ne 7, 3) := by decide +kernel
theorem d_M_build_191 : decode b_M_build 191 = .ok (.iconst 1, 1) := by decide +kernel
theorem d_M_build_192 : decode b_M_build 192 = .ok (.goto 4, 3) := by decide +kernel
theorem d_M_build_195 : decode b_M_build 195 = .ok (.iconst 0, 1) := by decide +kernel
theorem d_M_build_196 : decode b_M_build 196 = .ok (.ireturn, 1) := by decide +kernel
theorem d_M_byteAt_0 : decode b_M_byteAt 0 = .ok (.aload_n 0, 1) := by decide +kernel
theorem d_M_byteAt_1 : decode b_M_byteAt 1 = .ok (.getfield 13, 3) := by decide +kernel
theorem d_M_byteAt_4 : decode b_M_byteAt 4 = .ok (.sipush 600, 3) := by decide +kernel
theorem d_M_byteAt_7 : decode b_M_byteAt 7 = .ok (.iload_n 1, 1) := by decide +kernel
theorem d_M_byteAt_8 : decode b_M_byteAt 8 = .ok (.imul, 1) := by decide +kernel
theorem d_M_byteAt_9 : decode b_M_byteAt 9 = .ok (.aload_n 0, 1) := by decide +kernel
theorem d_M_byteAt_10 : decode b_M_byteAt 10 = .ok (.getfield 22, 3) := by decide +kernel
theorem d_M_byteAt_13 : decode b_M_byteAt 13 = .ok (.bipush 24, 2) := by decide +kernel
theorem d_M_byteAt_15 : decode b_M_byteAt 15 = .ok (.iload_n 1, 1) := by decide +kernel
theorem d_M_byteAt_16 : decode b_M_byteAt 16 = .ok (.imul, 1) := by decide +kernel
theorem d_M_byteAt_17 : decode b_M_byteAt 17 = .ok (.iload_n 2, 1) := by decide +kernel
theorem d_M_byteAt_18 : decode b_M_byteAt 18 = .ok (.iadd, 1) := by decide +kernel
theorem d_M_byteAt_19 : decode b_M_byteAt 19 = .ok (.iaload, 1) := by decide +kernel
theorem d_M_byteAt_20 : decode b_M_byteAt 20 = .ok (.iadd, 1) := by decide +kernel
theorem d_M_byteAt_21 : decode b_M_byteAt 21 = .ok (.iload_n 3, 1) := by decide +kernel
theorem d_M_byteAt_22 : decode b_M_byteAt 22 = .ok (.iadd, 1) := by decide +kernel
theorem d_M_byteAt_23 : decode b_M_byteAt 23 = .ok (.iaload, 1) := by decide +kernel
theorem d_M_byteAt_24 : decode b_M_byteAt 24 = .ok (.ireturn, 1) := by decide +kernel
theorem d_M_candidate_0 : decode b_M_candidate 0 = .ok (.iload 4, 2) := by decide +kernel
theorem d_M_candidate_2 : decode b_M_candidate 2 = .ok (.ifCond .ne 7, 3) := by decide +kernel
theorem d_M_candidate_5 : decode b_M_candidate 5 = .ok (.iload_n 2, 1) := by decide +kernel
theorem d_M_candidate_6 : decode b_M_candidate 6 = .ok (.goto 21, 3) := by decide +kernel
theorem d_M_candidate_9 : decode b_M_candidate 9 = .ok (.iload 4, 2) := by decide +kernel
theorem d_M_candidate_11 : decode b_M_candidate 11 = .ok (.iconst 1, 1) := by decide +kernel
theorem d_M_candidate_12 : decode b_M_candidate 12 = .ok (.if_icmp .ne 7, 3) := by decide +kernel
theorem d_M_candidate_15 : decode b_M_candidate 15 = .ok (.iload_n 3, 1) := by decide +kernel
theorem d_M_candidate_16 : decode b_M_candidate 16 = .ok (.goto 11, 3) := by decide +kernel
theorem d_M_candidate_19 : decode b_M_candidate 19 = .ok (.aload_n 0, 1) := by decide +kernel
theorem d_M_candidate_20 : decode b_M_candidate 20 = .ok (.getfield 19, 3) := by decide +kernel
theorem d_M_candidate_23 : decode b_M_candidate 23 = .ok (.iload_n 1, 1) := by decide +kernel
theorem d_M_candidate_24 : decode b_M_candidate 24 = .ok (.iaload, 1) := by decide +kernel
theorem d_M_candidate_25 : decode b_M_candidate 25 = .ok (.iconst 1, 1) := by decide +kernel
theorem d_M_candidate_26 : decode b_M_candidate 26 = .ok (.isub, 1) := by decide +kernel
theorem d_M_candidate_27 : decode b_M_candidate 27 = .ok (.ireturn, 1) := by decide +kernel
theorem d_M_chosen_0 : decode b_M_chosen 0 = .ok (.iconst 1, 1) := by decide +kernel
theorem d_M_chosen_1 : decode b_M_chosen 1 = .ok (.iconst 2, 1) := by decide +kernel
theorem d_M_chosen_2 : decode b_M_chosen 2 = .ok (.aload_n 0, 1) := by decide +kernel
theorem d_M_chosen_3 : decode b_M_chosen 3 = .ok (.invokevirtual 117, 3) := by decide +kernel
theorem d_M_chosen_6 : decode b_M_chosen 6 = .ok (.imul, 1) := by decide +kernel
theorem d_M_chosen_7 : decode b_M_chosen 7 = .ok (.iadd, 1) := by decide +kernel
theorem d_M_chosen_8 : decode b_M_chosen 8 = .ok (.istore 4, 2) := by decide +kernel
theorem d_M_chosen_10 : decode b_M_chosen 10 = .ok (.iload 4, 2) := by decide +kernel
theorem d_M_chosen_12 : decode b_M_chosen 12 = .ok (.iconst 1, 1) := by decide +kernel
theorem d_M_chosen_13 : decode b_M_chosen 13 = .ok (.aload_n 0, 1) := by decide +kernel
theorem d_M_chosen_14 : decode b_M_chosen 14 = .ok (.getfield 106, 3) := by decide +kernel
theorem d_M_chosen_17 : decode b_M_chosen 17 = .ok (.iadd, 1) := by decide +kernel
theorem d_M_chosen_18 : decode b_M_chosen 18 = .ok (.if_icmp .ge 8, 3) := by decide +kernel
theorem d_M_chosen_21 : decode b_M_chosen 21 = .ok (.iload 4, 2) := by decide +kernel
theorem d_M_chosen_23 : decode b_M_chosen 23 = .ok (.goto 9, 3) := by decide +kernel
theorem d_M_chosen_26 : decode b_M_chosen 26 = .ok (.iconst 1, 1) := by decide +kernel
theorem d_M_chosen_27 : decode b_M_chosen 27 = .ok (.aload_n 0, 1) := by decide +kernel
theorem d_M_chosen_28 : decode b_M_chosen 28 = .ok (.getfield 106, 3) := by decide +kernel
theorem d_M_chosen_31 : decode b_M_chosen 31 = .ok (.iadd, 1) := by decide +kernel
theorem d_M_chosen_32 : decode b_M_chosen 32 = .ok (.istore 5, 2) := by decide +kernel
theorem d_M_chosen_34 : decode b_M_chosen 34 = .ok (.iconst (-1), 1) := by decide +kernel
theorem d_M_chosen_35 : decode b_M_chosen 35 = .ok (.istore 6, 2) := by decide +kernel
theorem d_M_chosen_37 : decode b_M_chosen 37 = .ok (.iconst 0, 1) := by decide +kernel
theorem d_M_chosen_38 : decode b_M_chosen 38 = .ok (.istore 7, 2) := by decide +kernel
theorem d_M_chosen_40 : decode b_M_chosen 40 = .ok (.iload 7, 2) := by decide +kernel
theorem d_M_chosen_42 : decode b_M_chosen 42 = .ok (.iconst 3, 1) := by decide +kernel
theorem d_M_chosen_43 : decode b_M_chosen 43 = .ok (.if_icmp .ge 68, 3) := by decide +kernel
theorem d_M_chosen_46 : decode b_M_chosen 46 = .ok (.aload_n 0, 1) := by decide +kernel
theorem d_M_chosen_47 : decode b_M_chosen 47 = .ok (.iload_n 1, 1) := by decide +kernel
theorem d_M_chosen_48 : decode b_M_chosen 48 = .ok (.iload_n 2, 1) := by decide +kernel
theorem d_M_chosen_49 : decode b_M_chosen 49 = .ok (.iload_n 3, 1) := by decide +kernel
theorem d_M_chosen_50 : decode b_M_chosen 50 = .ok (.iload 7, 2) := by decide +kernel
theorem d_M_chosen_52 : decode b_M_chosen 52 = .ok (.invokevirtual 120, 3) := by decide +kernel
theorem d_M_chosen_55 : decode b_M_chosen 55 = .ok (.istore 8, 2) := by decide +kernel
theorem d_M_chosen_57 : decode b_M_chosen 57 = .ok (.iload 8, 2) := by decide +kernel
theorem d_M_chosen_59 : decode b_M_chosen 59 = .ok (.ifCond .lt 46, 3) := by decide +kernel
theorem d_M_chosen_62 : decode b_M_chosen 62 = .ok (.aload_n 0, 1) := by decide +kernel
theorem d_M_chosen_63 : decode b_M_chosen 63 = .ok (.iload_n 1, 1) := by decide +kernel
theorem d_M_chosen_64 : decode b_M_chosen 64 = .ok (.iload 8, 2) := by decide +kernel
theorem d_M_chosen_66 : decode b_M_chosen 66 = .ok (.invokevirtual 124, 3) := by decide +kernel
theorem d_M_chosen_69 : decode b_M_chosen 69 = .ok (.ifCond .eq 36, 3) := by decide +kernel
theorem d_M_chosen_72 : decode b_M_chosen 72 = .ok (.aload_n 0, 1) := by decide +kernel
theorem d_M_chosen_73 : decode b_M_chosen 73 = .ok (.invokevirtual 127, 3) := by decide +kernel
theorem d_M_chosen_76 : decode b_M_chosen 76 = .ok (.istore 9, 2) := by decide +kernel
theorem d_M_chosen_78 : decode b_M_chosen 78 = .ok (.iload 9, 2) := by decide +kernel
theorem d_M_chosen_80 : decode b_M_chosen 80 = .ok (.iload 5, 2) := by decide +kernel
theorem d_M_chosen_82 : decode b_M_chosen 82 = .ok (.if_icmp .ge 23, 3) := by decide +kernel
theorem d_M_chosen_85 : decode b_M_chosen 85 = .ok (.aload_n 0, 1) := by decide +kernel
theorem d_M_chosen_86 : decode b_M_chosen 86 = .ok (.iload_n 1, 1) := by decide +kernel
theorem d_M_chosen_87 : decode b_M_chosen 87 = .ok (.iload 8, 2) := by decide +kernel
theorem d_M_chosen_89 : decode b_M_chosen 89 = .ok (.iload 9, 2) := by decide +kernel
theorem d_M_chosen_91 : decode b_M_chosen 91 = .ok (.invokevirtual 130, 3) := by decide +kernel
theorem d_M_chosen_94 : decode b_M_chosen 94 = .ok (.ifCond .eq 11, 3) := by decide +kernel
theorem d_M_chosen_97 : decode b_M_chosen 97 = .ok (.iload 9, 2) := by decide +kernel
theorem d_M_chosen_99 : decode b_M_chosen 99 = .ok (.istore 5, 2) := by decide +kernel
theorem d_M_chosen_101 : decode b_M_chosen 101 = .ok (.iload 8, 2) := by decide +kernel
theorem d_M_chosen_103 : decode b_M_chosen 103 = .ok (.istore 6, 2) := by decide +kernel
theorem d_M_chosen_105 : decode b_M_chosen 105 = .ok (.iinc 7 1, 3) := by decide +kernel
theorem d_M_chosen_108 : decode b_M_chosen 108 = .ok (.goto (-68), 3) := by decide +kernel
theorem d_M_chosen_111 : decode b_M_chosen 111 = .ok (.iload 6, 2) := by decide +kernel
theorem d_M_chosen_113 : decode b_M_chosen 113 = .ok (.ireturn, 1) := by decide +kernel
theorem d_M_commit_0 : decode b_M_commit 0 = .ok (.iload_n 1, 1) := by decide +kernel
theorem d_M_commit_1 : decode b_M_commit 1 = .ok (.invokestatic 159, 3) := by decide +kernel
theorem d_M_commit_4 : decode b_M_commit 4 = .ok (.ifCond .ne 9, 3) := by decide +kernel
theorem d_M_commit_7 : decode b_M_commit 7 = .ok (.aload_n 0, 1) := by decide +kernel
theorem d_M_commit_8 : decode b_M_commit 8 = .ok (.iconst 1, 1) := by decide +kernel
theorem d_M_commit_9 : decode b_M_commit 9 = .ok (.invokevirtual 162, 3) := by decide +kernel
theorem d_M_commit_12 : decode b_M_commit 12 = .ok (.ireturn, 1) := by decide +kernel
theorem d_M_commit_13 : decode b_M_commit 13 = .ok (.aload_n 0, 1) := by decide +kernel
theorem d_M_commit_14 : decode b_M_commit 14 = .ok (.iload_n 1, 1) := by decide +kernel
theorem d_M_commit_15 : decode b_M_commit 15 = .ok (.iconst 1, 1) := by decide +kernel
theorem d_M_commit_16 : decode b_M_commit 16 = .ok (.invokevirtual 165, 3) := by decide +kernel
theorem d_M_commit_19 : decode b_M_commit 19 = .ok (.ifCond .eq 9, 3) := by decide +kernel
theorem d_M_commit_22 : decode b_M_commit 22 = .ok (.aload_n 0, 1) := by decide +kernel
theorem d_M_commit_23 : decode b_M_commit 23 = .ok (.iconst 2, 1) := by decide +kernel
theorem d_M_commit_24 : decode b_M_commit 24 = .ok (.invokevirtual 162, 3) := by decide +kernel
theorem d_M_commit_27 : decode b_M_commit 27 = .ok (.ireturn, 1) := by decide +kernel
theorem d_M_commit_28 : decode b_M_commit 28 = .ok (.aload_n 0, 1) := by decide +kernel
theorem d_M_commit_29 : decode b_M_commit 29 = .ok (.iconst 0, 1) := by decide +kernel
theorem d_M_commit_30 : decode b_M_commit 30 = .ok (.putfield 69, 3) := by decide +kernel
theorem d_M_commit_33 : decode b_M_commit 33 = .ok (.aload_n 0, 1) := by decide +kernel
theorem d_M_commit_34 : decode b_M_commit 34 = .ok (.iload_n 1, 1) := by decide +kernel
theorem d_M_commit_35 : decode b_M_commit 35 = .ok (.invokevirtual 156, 3) := by decide +kernel
theorem d_M_commit_38 : decode b_M_commit 38 = .ok (.ifCond .eq 7, 3) := by decide +kernel
theorem d_M_commit_41 : decode b_M_commit 41 = .ok (.iconst 0, 1) := by decide +kernel
theorem d_M_commit_42 : decode b_M_commit 42 = .ok (.goto 5, 3) := by decide +kernel
theorem d_M_commit_45 : decode b_M_commit 45 = .ok (.bipush (-2), 2) := by decide +kernel
theorem d_M_commit_47 : decode b_M_commit 47 = .ok (.ireturn, 1) := by decide +kernel
theorem d_M_common_0 : decode b_M_common 0 = .ok (.aload_n 0, 1) := by decide +kernel
theorem d_M_common_1 : decode b_M_common 1 = .ok (.iload_n 1, 1) := by decide +kernel
theorem d_M_common_2 : decode b_M_common 2 = .ok (.invokevirtual 184, 3) := by decide +kernel
theorem d_M_common_5 : decode b_M_common 5 = .ok (.istore 4, 2) := by decide +kernel
theorem d_M_common_7 : decode b_M_common 7 = .ok (.iload 4, 2) := by decide +kernel
theorem d_M_common_9 : decode b_M_common 9 = .ok (.ifCond .ge 6, 3) := by decide +kernel
theorem d_M_common_12 : decode b_M_common 12 = .ok (.iload 4, 2) := by decide +kernel
theorem d_M_common_14 : decode b_M_common 14 = .ok (.ireturn, 1) := by decide +kernel
theorem d_M_common_15 : decode b_M_common 15 = .ok (.aload_n 0, 1) := by decide +kernel
theorem d_M_common_16 : decode b_M_common 16 = .ok (.iload_n 1, 1) := by decide +kernel
theorem d_M_common_17 : decode b_M_common 17 = .ok (.iload_n 2, 1) := by decide +kernel
theorem d_M_common_18 : decode b_M_common 18 = .ok (.invokevirtual 172, 3) := by decide +kernel
theorem d_M_common_21 : decode b_M_common 21 = .ok (.ifCond .eq 12, 3) := by decide +kernel
theorem d_M_common_24 : decode b_M_common 24 = .ok (.aload_n 0, 1) := by decide +kernel
theorem d_M_common_25 : decode b_M_common 25 = .ok (.iload_n 1, 1) := by decide +kernel
theorem d_M_common_26 : decode b_M_common 26 = .ok (.iload_n 3, 1) := by decide +kernel
theorem d_M_common_27 : decode b_M_common 27 = .ok (.invokevirtual 172, 3) := by decide +kernel
theorem d_M_common_30 : decode b_M_common 30 = .ok (.ifCond .ne 5, 3) := by decide +kernel
theorem d_M_common_33 : decode b_M_common 33 = .ok (.iconst (-1), 1) := by decide +kernel
theorem d_M_common_34 : decode b_M_common 34 = .ok (.ireturn, 1) := by decide +kernel
theorem d_M_common_35 : decode b_M_common 35 = .ok (.aload_n 0, 1) := by decide +kernel
theorem d_M_common_36 : decode b_M_common 36 = .ok (.iload_n 1, 1) := by decide +kernel
theorem d_M_common_37 : decode b_M_common 37 = .ok (.iload_n 2, 1) := by decide +kernel
theorem d_M_common_38 : decode b_M_common 38 = .ok (.invokevirtual 187, 3) := by decide +kernel
theorem d_M_common_41 : decode b_M_common 41 = .ok (.aload_n 0, 1) := by decide +kernel
theorem d_M_common_42 : decode b_M_common 42 = .ok (.iload_n 1, 1) := by decide +kernel
theorem d_M_common_43 : decode b_M_common 43 = .ok (.iload_n 3, 1) := by decide +kernel
theorem d_M_common_44 : decode b_M_common 44 = .ok (.invokevirtual 187, 3) := by decide +kernel
theorem d_M_common_47 : decode b_M_common 47 = .ok (.iand, 1) := by decide +kernel
theorem d_M_common_48 : decode b_M_common 48 = .ok (.istore 5, 2) := by decide +kernel
theorem d_M_common_50 : decode b_M_common 50 = .ok (.iconst (-1), 1) := by decide +kernel
theorem d_M_common_51 : decode b_M_common 51 = .ok (.istore 6, 2) := by decide +kernel
theorem d_M_common_53 : decode b_M_common 53 = .ok (.iconst 0, 1) := by decide +kernel
theorem d_M_common_54 : decode b_M_common 54 = .ok (.istore 7, 2) := by decide +kernel
theorem d_M_common_56 : decode b_M_common 56 = .ok (.iload 7, 2) := by decide +kernel
theorem d_M_common_58 : decode b_M_common 58 = .ok (.bipush 24, 2) := by decide +kernel
theorem d_M_common_60 : decode b_M_common 60 = .ok (.if_icmp .ge 29, 3) := by decide +kernel
theorem d_M_common_63 : decode b_M_common 63 = .ok (.iload 5, 2) := by decide +kernel
theorem d_M_common_65 : decode b_M_common 65 = .ok (.iload 7, 2) := by decide +kernel
theorem d_M_common_67 : decode b_M_common 67 = .ok (.ishr, 1) := by decide +kernel
theorem d_M_common_68 : decode b_M_common 68 = .ok (.iconst 1, 1) := by decide +kernel
theorem d_M_common_69 : decode b_M_common 69 = .ok (.iand, 1) := by decide +kernel
theorem d_M_common_70 : decode b_M_common 70 = .ok (.iconst 1, 1) := by decide +kernel
theorem d_M_common_71 : decode b_M_common 71 = .ok (.if_icmp .ne 8, 3) := by decide +kernel
theorem d_M_common_74 : decode b_M_common 74 = .ok (.iload 7, 2) := by decide +kernel
theorem d_M_common_76 : decode b_M_common 76 = .ok (.goto 5, 3) := by decide +kernel
theorem d_M_common_79 : decode b_M_common 79 = .ok (.iload 6, 2) := by decide +kernel
theorem d_M_common_81 : decode b_M_common 81 = .ok (.istore 6, 2) := by decide +kernel
theorem d_M_common_83 : decode b_M_common 83 = .ok (.iinc 7 1, 3) := by decide +kernel
theorem d_M_common_86 : decode b_M_common 86 = .ok (.goto (-30), 3) := by decide +kernel
theorem d_M_common_89 : decode b_M_common 89 = .ok (.iload 6, 2) := by decide +kernel
theorem d_M_common_91 : decode b_M_common 91 = .ok (.ireturn, 1) := by decide +kernel
theorem d_M_commonBegin_0 : decode b_M_commonBegin 0 = .ok (.iconst 0, 1) := by decide +kernel
theorem d_M_commonBegin_1 : decode b_M_commonBegin 1 = .ok (.istore_n 1, 1) := by decide +kernel
theorem d_M_commonBegin_2 : decode b_M_commonBegin 2 = .ok (.iload_n 1, 1) := by decide +kernel
theorem d_M_commonBegin_3 : decode b_M_commonBegin 3 = .ok (.aload_n 0, 1) := by decide +kernel
theorem d_M_commonBegin_4 : decode b_M_commonBegin 4 = .ok (.getfield 92, 3) := by decide +kernel
theorem d_M_commonBegin_7 : decode b_M_commonBegin 7 = .ok (.if_icmp .ge 32, 3) := by decide +kernel
theorem d_M_commonBegin_10 : decode b_M_commonBegin 10 = .ok (.iload_n 1, 1) := by decide +kernel
theorem d_M_commonBegin_11 : decode b_M_commonBegin 11 = .ok (.aload_n 0, 1) := by decide +kernel
theorem d_M_commonBegin_12 : decode b_M_commonBegin 12 = .ok (.getfield 106, 3) := by decide +kernel
theorem d_M_commonBegin_15 : decode b_M_commonBegin 15 = .ok (.if_icmp .ge 24, 3) := by decide +kernel
theorem d_M_commonBegin_18 : decode b_M_commonBegin 18 = .ok (.aload_n 0, 1) := by decide +kernel
theorem d_M_commonBegin_19 : decode b_M_commonBegin 19 = .ok (.getfield 57, 3) := by decide +kernel
theorem d_M_commonBegin_22 : decode b_M_commonBegin 22 = .ok (.iload_n 1, 1) := by decide +kernel
theorem d_M_commonBegin_23 : decode b_M_commonBegin 23 = .ok (.iaload, 1) := by decide +kernel
theorem d_M_commonBegin_24 : decode b_M_commonBegin 24 = .ok (.aload_n 0, 1) := by decide +kernel
theorem d_M_commonBegin_25 : decode b_M_commonBegin 25 = .ok (.getfield 66, 3) := by decide +kernel
theorem d_M_commonBegin_28 : decode b_M_commonBegin 28 = .ok (.iload_n 1, 1) := by decide +kernel
theorem d_M_commonBegin_29 : decode b_M_commonBegin 29 = .ok (.iaload, 1) := by decide +kernel
theorem d_M_commonBegin_30 : decode b_M_commonBegin 30 = .ok (.if_icmp .ne 9, 3) := by decide +kernel
theorem d_M_commonBegin_33 : decode b_M_commonBegin 33 = .ok (.iinc 1 1, 3) := by decide +kernel
theorem d_M_commonBegin_36 : decode b_M_commonBegin 36 = .ok (.goto (-34), 3) := by decide +kernel
theorem d_M_commonBegin_39 : decode b_M_commonBegin 39 = .ok (.iload_n 1, 1) := by decide +kernel
theorem d_M_commonBegin_40 : decode b_M_commonBegin 40 = .ok (.ireturn, 1) := by decide +kernel
theorem d_M_commonEnd_0 : decode b_M_commonEnd 0 = .ok (.iconst 0, 1) := by decide +kernel
theorem d_M_commonEnd_1 : decode b_M_commonEnd 1 = .ok (.istore_n 2, 1) := by decide +kernel
theorem d_M_commonEnd_2 : decode b_M_commonEnd 2 = .ok (.iload_n 2, 1) := by decide +kernel
theorem d_M_commonEnd_3 : decode b_M_commonEnd 3 = .ok (.aload_n 0, 1) := by decide +kernel
theorem d_M_commonEnd_4 : decode b_M_commonEnd 4 = .ok (.getfield 92, 3) := by decide +kernel
theorem d_M_commonEnd_7 : decode b_M_commonEnd 7 = .ok (.iload_n 1, 1) := by decide +kernel
theorem d_M_commonEnd_8 : decode b_M_commonEnd 8 = .ok (.isub, 1) := by decide +kernel
theorem d_M_commonEnd_9 : decode b_M_commonEnd 9 = .ok (.if_icmp .ge 48, 3) := by decide +kernel
theorem d_M_commonEnd_12 : decode b_M_commonEnd 12 = .ok (.iload_n 2, 1) := by decide +kernel
theorem d_M_commonEnd_13 : decode b_M_commonEnd 13 = .ok (.aload_n 0, 1) := by decide +kernel
theorem d_M_commonEnd_14 : decode b_M_commonEnd 14 = .ok (.getfield 106, 3) := by decide +kernel
theorem d_M_commonEnd_17 : decode b_M_commonEnd 17 = .ok (.iload_n 1, 1) := by decide +kernel
theorem d_M_commonEnd_18 : decode b_M_commonEnd 18 = .ok (.isub, 1) := by decide +kernel
theorem d_M_commonEnd_19 : decode b_M_commonEnd 19 = .ok (.if_icmp .ge 38, 3) := by decide +kernel
theorem d_M_commonEnd_22 : decode b_M_commonEnd 22 = .ok (.aload_n 0, 1) := by decide +kernel
theorem d_M_commonEnd_23 : decode b_M_commonEnd 23 = .ok (.getfield 57, 3) := by decide +kernel
theorem d_M_commonEnd_26 : decode b_M_commonEnd 26 = .ok (.aload_n 0, 1) := by decide +kernel
theorem d_M_commonEnd_27 : decode b_M_commonEnd 27 = .ok (.getfield 92, 3) := by decide +kernel
theorem d_M_commonEnd_30 : decode b_M_commonEnd 30 = .ok (.iconst 1, 1) := by decide +kernel
theorem d_M_commonEnd_31 : decode b_M_commonEnd 31 = .ok (.isub, 1) := by decide +kernel
theorem d_M_commonEnd_32 : decode b_M_commonEnd 32 = .ok (.iload_n 2, 1) := by decide +kernel
theorem d_M_commonEnd_33 : decode b_M_commonEnd 33 = .ok (.isub, 1) := by decide +kernel
theorem d_M_commonEnd_34 : decode b_M_commonEnd 34 = .ok (.iaload, 1) := by decide +kernel
theorem d_M_commonEnd_35 : decode b_M_commonEnd 35 = .ok (.aload_n 0, 1) := by decide +kernel
theorem d_M_commonEnd_36 : decode b_M_commonEnd 36 = .ok (.getfield 66, 3) := by decide +kernel
theorem d_M_commonEnd_39 : decode b_M_commonEnd 39 = .ok (.aload_n 0, 1) := by decide +kernel
theorem d_M_commonEnd_40 : decode b_M_commonEnd 40 = .ok (.getfield 106, 3) := by decide +kernel
theorem d_M_commonEnd_43 : decode b_M_commonEnd 43 = .ok (.iconst 1, 1) := by decide +kernel
theorem d_M_commonEnd_44 : decode b_M_commonEnd 44 = .ok (.isub, 1) := by decide +kernel
theorem d_M_commonEnd_45 : decode b_M_commonEnd 45 = .ok (.iload_n 2, 1) := by decide +kernel
theorem d_M_commonEnd_46 : decode b_M_commonEnd 46 = .ok (.isub, 1) := by decide +kernel
theorem d_M_commonEnd_47 : decode b_M_commonEnd 47 = .ok (.iaload, 1) := by decide +kernel
theorem d_M_commonEnd_48 : decode b_M_commonEnd 48 = .ok (.if_icmp .ne 9, 3) := by decide +kernel
theorem d_M_commonEnd_51 : decode b_M_commonEnd 51 = .ok (.iinc 2 1, 3) := by decide +kernel
theorem d_M_commonEnd_54 : decode b_M_commonEnd 54 = .ok (.goto (-52), 3) := by decide +kernel
theorem d_M_commonEnd_57 : decode b_M_commonEnd 57 = .ok (.iload_n 2, 1) := by decide +kernel
theorem d_M_commonEnd_58 : decode b_M_commonEnd 58 = .ok (.ireturn, 1) := by decide +kernel
theorem d_M_damage_0 : decode b_M_damage 0 = .ok (.aload_n 0, 1) := by decide +kernel
theorem d_M_damage_1 : decode b_M_damage 1 = .ok (.iload_n 1, 1) := by decide +kernel
theorem d_M_damage_2 : decode b_M_damage 2 = .ok (.invokevirtual 184, 3) := by decide +kernel
theorem d_M_damage_5 : decode b_M_damage 5 = .ok (.ifCond .lt 29, 3) := by decide +kernel
theorem d_M_damage_8 : decode b_M_damage 8 = .ok (.iload_n 2, 1) := by decide +kernel
theorem d_M_damage_9 : decode b_M_damage 9 = .ok (.ifCond .lt 25, 3) := by decide +kernel
theorem d_M_damage_12 : decode b_M_damage 12 = .ok (.iload_n 2, 1) := by decide +kernel
theorem d_M_damage_13 : decode b_M_damage 13 = .ok (.aload_n 0, 1) := by decide +kernel
theorem d_M_damage_14 : decode b_M_damage 14 = .ok (.getfield 16, 3) := by decide +kernel
theorem d_M_damage_17 : decode b_M_damage 17 = .ok (.iload_n 1, 1) := by decide +kernel
theorem d_M_damage_18 : decode b_M_damage 18 = .ok (.iaload, 1) := by decide +kernel
theorem d_M_damage_19 : decode b_M_damage 19 = .ok (.if_icmp .ge 15, 3) := by decide +kernel
theorem d_M_damage_22 : decode b_M_damage 22 = .ok (.iload_n 3, 1) := by decide +kernel
theorem d_M_damage_23 : decode b_M_damage 23 = .ok (.iconst 1, 1) := by decide +kernel
theorem d_M_damage_24 : decode b_M_damage 24 = .ok (.if_icmp .lt 10, 3) := by decide +kernel
theorem d_M_damage_27 : decode b_M_damage 27 = .ok (.iload_n 3, 1) := by decide +kernel
theorem d_M_damage_28 : decode b_M_damage 28 = .ok (.sipush 255, 3) := by decide +kernel
theorem d_M_damage_31 : decode b_M_damage 31 = .ok (.if_icmp .le 5, 3) := by decide +kernel
theorem d_M_damage_34 : decode b_M_damage 34 = .ok (.iconst 0, 1) := by decide +kernel
theorem d_M_damage_35 : decode b_M_damage 35 = .ok (.ireturn, 1) := by decide +kernel
theorem d_M_damage_36 : decode b_M_damage 36 = .ok (.aload_n 0, 1) := by decide +kernel
theorem d_M_damage_37 : decode b_M_damage 37 = .ok (.getfield 13, 3) := by decide +kernel
theorem d_M_damage_40 : decode b_M_damage 40 = .ok (.sipush 600, 3) := by decide +kernel
theorem d_M_damage_43 : decode b_M_damage 43 = .ok (.iload_n 1, 1) := by decide +kernel
theorem d_M_damage_44 : decode b_M_damage 44 = .ok (.imul, 1) := by decide +kernel
theorem d_M_damage_45 : decode b_M_damage 45 = .ok (.iload_n 2, 1) := by decide +kernel
theorem d_M_damage_46 : decode b_M_damage 46 = .ok (.iadd, 1) := by decide +kernel
theorem d_M_damage_47 : decode b_M_damage 47 = .ok (.dup2, 1) := by decide +kernel
theorem d_M_damage_48 : decode b_M_damage 48 = .ok (.iaload, 1) := by decide +kernel
theorem d_M_damage_49 : decode b_M_damage 49 = .ok (.iload_n 3, 1) := by decide +kernel
theorem d_M_damage_50 : decode b_M_damage 50 = .ok (.ixor, 1) := by decide +kernel
theorem d_M_damage_51 : decode b_M_damage 51 = .ok (.iastore, 1) := by decide +kernel
theorem d_M_damage_52 : decode b_M_damage 52 = .ok (.iconst 1, 1) := by decide +kernel
theorem d_M_damage_53 : decode b_M_damage 53 = .ok (.ireturn, 1) := by decide +kernel
theorem d_M_data_0 : decode b_M_data 0 = .ok (.aload_n 0, 1) := by decide +kernel
theorem d_M_data_1 : decode b_M_data 1 = .ok (.iload_n 1, 1) := by decide +kernel
theorem d_M_data_2 : decode b_M_data 2 = .ok (.invokevirtual 184, 3) := by decide +kernel
theorem d_M_data_5 : decode b_M_data 5 = .ok (.istore_n 3, 1) := by decide +kernel
theorem d_M_data_6 : decode b_M_data 6 = .ok (.iload_n 3, 1) := by decide +kernel
theorem d_M_data_7 : decode b_M_data 7 = .ok (.ifCond .ge 5, 3) := by decide +kernel
theorem d_M_data_10 : decode b_M_data 10 = .ok (.iload_n 3, 1) := by decide +kernel
theorem d_M_data_11 : decode b_M_data 11 = .ok (.ireturn, 1) := by decide +kernel
theorem d_M_data_12 : decode b_M_data 12 = .ok (.iload_n 2, 1) := by decide +kernel
theorem d_M_data_13 : decode b_M_data 13 = .ok (.iconst (-1), 1) := by decide +kernel
theorem d_M_data_14 : decode b_M_data 14 = .ok (.if_icmp .ne 12, 3) := by decide +kernel
theorem d_M_data_17 : decode b_M_data 17 = .ok (.aload_n 0, 1) := by decide +kernel
theorem d_M_data_18 : decode b_M_data 18 = .ok (.getfield 16, 3) := by decide +kernel
theorem d_M_data_21 : decode b_M_data 21 = .ok (.iload_n 1, 1) := by decide +kernel
theorem d_M_data_22 : decode b_M_data 22 = .ok (.iaload, 1) := by decide +kernel
theorem d_M_data_23 : decode b_M_data 23 = .ok (.goto 33, 3) := by decide +kernel
theorem d_M_data_26 : decode b_M_data 26 = .ok (.iload_n 2, 1) := by decide +kernel
theorem d_M_data_27 : decode b_M_data 27 = .ok (.ifCond .lt 28, 3) := by decide +kernel
theorem d_M_data_30 : decode b_M_data 30 = .ok (.iload_n 2, 1) := by decide +kernel
theorem d_M_data_31 : decode b_M_data 31 = .ok (.aload_n 0, 1) := by decide +kernel
theorem d_M_data_32 : decode b_M_data 32 = .ok (.getfield 16, 3) := by decide +kernel
theorem d_M_data_35 : decode b_M_data 35 = .ok (.iload_n 1, 1) := by decide +kernel
theorem d_M_data_36 : decode b_M_data 36 = .ok (.iaload, 1) := by decide +kernel
theorem d_M_data_37 : decode b_M_data 37 = .ok (.if_icmp .ge 18, 3) := by decide +kernel
theorem d_M_data_40 : decode b_M_data 40 = .ok (.aload_n 0, 1) := by decide +kernel
theorem d_M_data_41 : decode b_M_data 41 = .ok (.getfield 13, 3) := by decide +kernel
theorem d_M_data_44 : decode b_M_data 44 = .ok (.sipush 600, 3) := by decide +kernel
theorem d_M_data_47 : decode b_M_data 47 = .ok (.iload_n 1, 1) := by decide +kernel
theorem d_M_data_48 : decode b_M_data 48 = .ok (.imul, 1) := by decide +kernel
theorem d_M_data_49 : decode b_M_data 49 = .ok (.iload_n 2, 1) := by decide +kernel
theorem d_M_data_50 : decode b_M_data 50 = .ok (.iadd, 1) := by decide +kernel
theorem d_M_data_51 : decode b_M_data 51 = .ok (.iaload, 1) := by decide +kernel
theorem d_M_data_52 : decode b_M_data 52 = .ok (.goto 4, 3) := by decide +kernel
theorem d_M_data_55 : decode b_M_data 55 = .ok (.iconst (-1), 1) := by decide +kernel
theorem d_M_data_56 : decode b_M_data 56 = .ok (.ireturn, 1) := by decide +kernel
theorem d_M_difference_0 : decode b_M_difference 0 = .ok (.aload_n 0, 1) := by decide +kernel
theorem d_M_difference_1 : decode b_M_difference 1 = .ok (.invokevirtual 109, 3) := by decide +kernel
theorem d_M_difference_4 : decode b_M_difference 4 = .ok (.istore_n 1, 1) := by decide +kernel
theorem d_M_difference_5 : decode b_M_difference 5 = .ok (.aload_n 0, 1) := by decide +kernel
theorem d_M_difference_6 : decode b_M_difference 6 = .ok (.iload_n 1, 1) := by decide +kernel
theorem d_M_difference_7 : decode b_M_difference 7 = .ok (.invokevirtual 113, 3) := by decide +kernel
theorem d_M_difference_10 : decode b_M_difference 10 = .ok (.istore_n 2, 1) := by decide +kernel
theorem d_M_difference_11 : decode b_M_difference 11 = .ok (.iconst 4, 1) := by decide +kernel
theorem d_M_difference_12 : decode b_M_difference 12 = .ok (.aload_n 0, 1) := by decide +kernel
theorem d_M_difference_13 : decode b_M_difference 13 = .ok (.getfield 106, 3) := by decide +kernel
theorem d_M_difference_16 : decode b_M_difference 16 = .ok (.iadd, 1) := by decide +kernel
theorem d_M_difference_17 : decode b_M_difference 17 = .ok (.iload_n 1, 1) := by decide +kernel
theorem d_M_difference_18 : decode b_M_difference 18 = .ok (.isub, 1) := by decide +kernel
theorem d_M_difference_19 : decode b_M_difference 19 = .ok (.iload_n 2, 1) := by decide +kernel
theorem d_M_difference_20 : decode b_M_difference 20 = .ok (.isub, 1) := by decide +kernel
theorem d_M_difference_21 : decode b_M_difference 21 = .ok (.ireturn, 1) := by decide +kernel
theorem d_M_fail_0 : decode b_M_fail 0 = .ok (.aload_n 0, 1) := by decide +kernel
theorem d_M_fail_1 : decode b_M_fail 1 = .ok (.iconst 0, 1) := by decide +kernel
theorem d_M_fail_2 : decode b_M_fail 2 = .ok (.putfield 69, 3) := by decide +kernel
theorem d_M_fail_5 : decode b_M_fail 5 = .ok (.iload_n 1, 1) := by decide +kernel
theorem d_M_fail_6 : decode b_M_fail 6 = .ok (.invokestatic 159, 3) := by decide +kernel
theorem d_M_fail_9 : decode b_M_fail 9 = .ok (.ifCond .eq 22, 3) := by decide +kernel
theorem d_M_fail_12 : decode b_M_fail 12 = .ok (.aload_n 0, 1) := by decide +kernel
theorem d_M_fail_13 : decode b_M_fail 13 = .ok (.getfield 50, 3) := by decide +kernel
theorem d_M_fail_16 : decode b_M_fail 16 = .ok (.iload_n 1, 1) := by decide +kernel
theorem d_M_fail_17 : decode b_M_fail 17 = .ok (.baload, 1) := by decide +kernel
theorem d_M_fail_18 : decode b_M_fail 18 = .ok (.ifCond .ne 13, 3) := by decide +kernel
theorem d_M_fail_21 : decode b_M_fail 21 = .ok (.iload_n 2, 1) := by decide +kernel
theorem d_M_fail_22 : decode b_M_fail 22 = .ok (.ifCond .lt 9, 3) := by decide +kernel
theorem d_M_fail_25 : decode b_M_fail 25 = .ok (.iload_n 2, 1) := by decide +kernel
theorem d_M_fail_26 : decode b_M_fail 26 = .ok (.bipush 100, 2) := by decide +kernel
theorem d_M_fail_28 : decode b_M_fail 28 = .ok (.if_icmp .le 5, 3) := by decide +kernel
theorem d_M_fail_31 : decode b_M_fail 31 = .ok (.iconst 0, 1) := by decide +kernel
theorem d_M_fail_32 : decode b_M_fail 32 = .ok (.ireturn, 1) := by decide +kernel
theorem d_M_fail_33 : decode b_M_fail 33 = .ok (.aload_n 0, 1) := by decide +kernel
theorem d_M_fail_34 : decode b_M_fail 34 = .ok (.getfield 54, 3) := by decide +kernel
theorem d_M_fail_37 : decode b_M_fail 37 = .ok (.iload_n 1, 1) := by decide +kernel
theorem d_M_fail_38 : decode b_M_fail 38 = .ok (.iload_n 2, 1) := by decide +kernel
theorem d_M_fail_39 : decode b_M_fail 39 = .ok (.iastore, 1) := by decide +kernel
theorem d_M_fail_40 : decode b_M_fail 40 = .ok (.iconst 1, 1) := by decide +kernel
theorem d_M_fail_41 : decode b_M_fail 41 = .ok (.ireturn, 1) := by decide +kernel
theorem d_M_finish_0 : decode b_M_finish 0 = .ok (.aload_n 0, 1) := by decide +kernel
theorem d_M_finish_1 : decode b_M_finish 1 = .ok (.iload_n 1, 1) := by decide +kernel
theorem d_M_finish_2 : decode b_M_finish 2 = .ok (.invokevirtual 145, 3) := by decide +kernel
theorem d_M_finish_5 : decode b_M_finish 5 = .ok (.ifCond .ne 5, 3) := by decide +kernel
theorem d_M_finish_8 : decode b_M_finish 8 = .ok (.iconst 0, 1) := by decide +kernel
theorem d_M_finish_9 : decode b_M_finish 9 = .ok (.ireturn, 1) := by decide +kernel
theorem d_M_finish_10 : decode b_M_finish 10 = .ok (.aload_n 0, 1) := by decide +kernel
theorem d_M_finish_11 : decode b_M_finish 11 = .ok (.getfield 44, 3) := by decide +kernel
theorem d_M_finish_14 : decode b_M_finish 14 = .ok (.iload_n 1, 1) := by decide +kernel
theorem d_M_finish_15 : decode b_M_finish 15 = .ok (.iconst (-1), 1) := by decide +kernel
theorem d_M_finish_16 : decode b_M_finish 16 = .ok (.iastore, 1) := by decide +kernel
theorem d_M_finish_17 : decode b_M_finish 17 = .ok (.iconst 1, 1) := by decide +kernel
theorem d_M_finish_18 : decode b_M_finish 18 = .ok (.ireturn, 1) := by decide +kernel
theorem d_M_found_0 : decode b_M_found 0 = .ok (.iconst 0, 1) := by decide +kernel
theorem d_M_found_1 : decode b_M_found 1 = .ok (.istore 4, 2) := by decide +kernel
theorem d_M_found_3 : decode b_M_found 3 = .ok (.iload 4, 2) := by decide +kernel
theorem d_M_found_5 : decode b_M_found 5 = .ok (.aload_n 0, 1) := by decide +kernel
theorem d_M_found_6 : decode b_M_found 6 = .ok (.getfield 19, 3) := by decide +kernel
theorem d_M_found_9 : decode b_M_found 9 = .ok (.iload_n 1, 1) := by decide +kernel
theorem d_M_found_10 : decode b_M_found 10 = .ok (.iaload, 1) := by decide +kernel
theorem d_M_found_11 : decode b_M_found 11 = .ok (.if_icmp .ge 29, 3) := by decide +kernel
theorem d_M_found_14 : decode b_M_found 14 = .ok (.aload_n 0, 1) := by decide +kernel
theorem d_M_found_15 : decode b_M_found 15 = .ok (.getfield 40, 3) := by decide +kernel
theorem d_M_found_18 : decode b_M_found 18 = .ok (.bipush 24, 2) := by decide +kernel
theorem d_M_found_20 : decode b_M_found 20 = .ok (.iload_n 1, 1) := by decide +kernel
theorem d_M_found_21 : decode b_M_found 21 = .ok (.imul, 1) := by decide +kernel
theorem d_M_found_22 : decode b_M_found 22 = .ok (.iload 4, 2) := by decide +kernel
theorem d_M_found_24 : decode b_M_found 24 = .ok (.iadd, 1) := by decide +kernel
theorem d_M_found_25 : decode b_M_found 25 = .ok (.laload, 1) := by decide +kernel
theorem d_M_found_26 : decode b_M_found 26 = .ok (.lload_n 2, 1) := by decide +kernel
theorem d_M_found_27 : decode b_M_found 27 = .ok (.lcmp, 1) := by decide +kernel
theorem d_M_found_28 : decode b_M_found 28 = .ok (.ifCond .ne 6, 3) := by decide +kernel
theorem d_M_found_31 : decode b_M_found 31 = .ok (.iload 4, 2) := by decide +kernel
theorem d_M_found_33 : decode b_M_found 33 = .ok (.ireturn, 1) := by decide +kernel
theorem d_M_found_34 : decode b_M_found 34 = .ok (.iinc 4 1, 3) := by decide +kernel
theorem d_M_found_37 : decode b_M_found 37 = .ok (.goto (-34), 3) := by decide +kernel
theorem d_M_found_40 : decode b_M_found 40 = .ok (.iconst (-1), 1) := by decide +kernel
theorem d_M_found_41 : decode b_M_found 41 = .ok (.ireturn, 1) := by decide +kernel
theorem d_M_heads_0 : decode b_M_heads 0 = .ok (.aload_n 0, 1) := by decide +kernel
theorem d_M_heads_1 : decode b_M_heads 1 = .ok (.iload_n 1, 1) := by decide +kernel
theorem d_M_heads_2 : decode b_M_heads 2 = .ok (.invokevirtual 184, 3) := by decide +kernel
theorem d_M_heads_5 : decode b_M_heads 5 = .ok (.istore_n 2, 1) := by decide +kernel
theorem d_M_heads_6 : decode b_M_heads 6 = .ok (.iconst 0, 1) := by decide +kernel
theorem d_M_heads_7 : decode b_M_heads 7 = .ok (.istore_n 3, 1) := by decide +kernel
theorem d_M_heads_8 : decode b_M_heads 8 = .ok (.iconst 0, 1) := by decide +kernel
theorem d_M_heads_9 : decode b_M_heads 9 = .ok (.istore 4, 2) := by decide +kernel
theorem d_M_heads_11 : decode b_M_heads 11 = .ok (.iload_n 2, 1) := by decide +kernel
theorem d_M_heads_12 : decode b_M_heads 12 = .ok (.ifCond .ne 102, 3) := by decide +kernel
theorem d_M_heads_15 : decode b_M_heads 15 = .ok (.iload 4, 2) := by decide +kernel
theorem d_M_heads_17 : decode b_M_heads 17 = .ok (.aload_n 0, 1) := by decide +kernel
theorem d_M_heads_18 : decode b_M_heads 18 = .ok (.getfield 19, 3) := by decide +kernel
theorem d_M_heads_21 : decode b_M_heads 21 = .ok (.iload_n 1, 1) := by decide +kernel
theorem d_M_heads_22 : decode b_M_heads 22 = .ok (.iaload, 1) := by decide +kernel
theorem d_M_heads_23 : decode b_M_heads 23 = .ok (.if_icmp .ge 91, 3) := by decide +kernel
theorem d_M_heads_26 : decode b_M_heads 26 = .ok (.iconst 0, 1) := by decide +kernel
theorem d_M_heads_27 : decode b_M_heads 27 = .ok (.istore 5, 2) := by decide +kernel
theorem d_M_heads_29 : decode b_M_heads 29 = .ok (.iconst 0, 1) := by decide +kernel
theorem d_M_heads_30 : decode b_M_heads 30 = .ok (.istore 6, 2) := by decide +kernel
theorem d_M_heads_32 : decode b_M_heads 32 = .ok (.iload 6, 2) := by decide +kernel
theorem d_M_heads_34 : decode b_M_heads 34 = .ok (.aload_n 0, 1) := by decide +kernel
theorem d_M_heads_35 : decode b_M_heads 35 = .ok (.getfield 19, 3) := by decide +kernel
theorem d_M_heads_38 : decode b_M_heads 38 = .ok (.iload_n 1, 1) := by decide +kernel
theorem d_M_heads_39 : decode b_M_heads 39 = .ok (.iaload, 1) := by decide +kernel
theorem d_M_heads_40 : decode b_M_heads 40 = .ok (.if_icmp .ge 55, 3) := by decide +kernel
theorem d_M_heads_43 : decode b_M_heads 43 = .ok (.iload 5, 2) := by decide +kernel
theorem d_M_heads_45 : decode b_M_heads 45 = .ok (.ifCond .ne 37, 3) := by decide +kernel
theorem d_M_heads_48 : decode b_M_heads 48 = .ok (.aload_n 0, 1) := by decide +kernel
theorem d_M_heads_49 : decode b_M_heads 49 = .ok (.getfield 34, 3) := by decide +kernel
theorem d_M_heads_52 : decode b_M_heads 52 = .ok (.bipush 24, 2) := by decide +kernel
theorem d_M_heads_54 : decode b_M_heads 54 = .ok (.iload_n 1, 1) := by decide +kernel
theorem d_M_heads_55 : decode b_M_heads 55 = .ok (.imul, 1) := by decide +kernel
theorem d_M_heads_56 : decode b_M_heads 56 = .ok (.iload 6, 2) := by decide +kernel
theorem d_M_heads_58 : decode b_M_heads 58 = .ok (.iadd, 1) := by decide +kernel
theorem d_M_heads_59 : decode b_M_heads 59 = .ok (.iaload, 1) := by decide +kernel
theorem d_M_heads_60 : decode b_M_heads 60 = .ok (.iload 4, 2) := by decide +kernel
theorem d_M_heads_62 : decode b_M_heads 62 = .ok (.if_icmp .eq 20, 3) := by decide +kernel
theorem d_M_heads_65 : decode b_M_heads 65 = .ok (.aload_n 0, 1) := by decide +kernel
theorem d_M_heads_66 : decode b_M_heads 66 = .ok (.getfield 37, 3) := by decide +kernel
theorem d_M_heads_69 : decode b_M_heads 69 = .ok (.bipush 24, 2) := by decide +kernel
theorem d_M_heads_71 : decode b_M_heads 71 = .ok (.iload_n 1, 1) := by decide +kernel
theorem d_M_heads_72 : decode b_M_heads 72 = .ok (.imul, 1) := by decide +kernel
theorem d_M_heads_73 : decode b_M_heads 73 = .ok (.iload 6, 2) := by decide +kernel
theorem d_M_heads_75 : decode b_M_heads 75 = .ok (.iadd, 1) := by decide +kernel
theorem d_M_heads_76 : decode b_M_heads 76 = .ok (.iaload, 1) := by decide +kernel
theorem d_M_heads_77 : decode b_M_heads 77 = .ok (.iload 4, 2) := by decide +kernel
theorem d_M_heads_79 : decode b_M_heads 79 = .ok (.if_icmp .ne 7, 3) := by decide +kernel
theorem d_M_heads_82 : decode b_M_heads 82 = .ok (.iconst 1, 1) := by decide +kernel
theorem d_M_heads_83 : decode b_M_heads 83 = .ok (.goto 4, 3) := by decide +kernel
theorem d_M_heads_86 : decode b_M_heads 86 = .ok (.iconst 0, 1) := by decide +kernel
theorem d_M_heads_87 : decode b_M_heads 87 = .ok (.istore 5, 2) := by decide +kernel
theorem d_M_heads_89 : decode b_M_heads 89 = .ok (.iinc 6 1, 3) := by decide +kernel
theorem d_M_heads_92 : decode b_M_heads 92 = .ok (.goto (-60), 3) := by decide +kernel
theorem d_M_heads_95 : decode b_M_heads 95 = .ok (.iload 5, 2) := by decide +kernel
theorem d_M_heads_97 : decode b_M_heads 97 = .ok (.ifCond .eq 7, 3) := by decide +kernel
theorem d_M_heads_100 : decode b_M_heads 100 = .ok (.iload_n 3, 1) := by decide +kernel
theorem d_M_heads_101 : decode b_M_heads 101 = .ok (.goto 6, 3) := by decide +kernel
theorem d_M_heads_104 : decode b_M_heads 104 = .ok (.iload_n 3, 1) := by decide +kernel
theorem d_M_heads_105 : decode b_M_heads 105 = .ok (.iconst 1, 1) := by decide +kernel
theorem d_M_heads_106 : decode b_M_heads 106 = .ok (.iadd, 1) := by decide +kernel
theorem d_M_heads_107 : decode b_M_heads 107 = .ok (.istore_n 3, 1) := by decide +kernel
theorem d_M_heads_108 : decode b_M_heads 108 = .ok (.iinc 4 1, 3) := by decide +kernel
theorem d_M_heads_111 : decode b_M_heads 111 = .ok (.goto (-100), 3) := by decide +kernel
theorem d_M_heads_114 : decode b_M_heads 114 = .ok (.iload_n 2, 1) := by decide +kernel
theorem d_M_heads_115 : decode b_M_heads 115 = .ok (.ifCond .ge 7, 3) := by decide +kernel
theorem d_M_heads_118 : decode b_M_heads 118 = .ok (.iload_n 2, 1) := by decide +kernel
theorem d_M_heads_119 : decode b_M_heads 119 = .ok (.goto 4, 3) := by decide +kernel
theorem d_M_heads_122 : decode b_M_heads 122 = .ok (.iload_n 3, 1) := by decide +kernel
theorem d_M_heads_123 : decode b_M_heads 123 = .ok (.ireturn, 1) := by decide +kernel
theorem d_M_init_0 : decode b_M_init 0 = .ok (.aload_n 0, 1) := by decide +kernel
theorem d_M_init_1 : decode b_M_init 1 = .ok (.invokespecial 1, 3) := by decide +kernel
theorem d_M_init_4 : decode b_M_init 4 = .ok (.aload_n 0, 1) := by decide +kernel
theorem d_M_init_5 : decode b_M_init 5 = .ok (.bipush 60, 2) := by decide +kernel
theorem d_M_init_7 : decode b_M_init 7 = .ok (.newarray .int, 2) := by decide +kernel
theorem d_M_init_9 : decode b_M_init 9 = .ok (.putfield 7, 3) := by decide +kernel
theorem d_M_init_12 : decode b_M_init 12 = .ok (.aload_n 0, 1) := by decide +kernel
theorem d_M_init_13 : decode b_M_init 13 = .ok (.sipush 1200, 3) := by decide +kernel
theorem d_M_init_16 : decode b_M_init 16 = .ok (.newarray .int, 2) := by decide +kernel
theorem d_M_init_18 : decode b_M_init 18 = .ok (.putfield 13, 3) := by decide +kernel
theorem d_M_init_21 : decode b_M_init 21 = .ok (.aload_n 0, 1) := by decide +kernel
theorem d_M_init_22 : decode b_M_init 22 = .ok (.iconst 2, 1) := by decide +kernel
theorem d_M_init_23 : decode b_M_init 23 = .ok (.newarray .int, 2) := by decide +kernel
theorem d_M_init_25 : decode b_M_init 25 = .ok (.putfield 16, 3) := by decide +kernel
theorem d_M_init_28 : decode b_M_init 28 = .ok (.aload_n 0, 1) := by decide +kernel
theorem d_M_init_29 : decode b_M_init 29 = .ok (.iconst 2, 1) := by decide +kernel
theorem d_M_init_30 : decode b_M_init 30 = .ok (.newarray .int, 2) := by decide +kernel
theorem d_M_init_32 : decode b_M_init 32 = .ok (.putfield 19, 3) := by decide +kernel
theorem d_M_init_35 : decode b_M_init 35 = .ok (.aload_n 0, 1) := by decide +kernel
theorem d_M_init_36 : decode b_M_init 36 = .ok (.bipush 48, 2) := by decide +kernel
theorem d_M_init_38 : decode b_M_init 38 = .ok (.newarray .int, 2) := by decide +kernel
theorem d_M_init_40 : decode b_M_init 40 = .ok (.putfield 22, 3) := by decide +kernel
theorem d_M_init_43 : decode b_M_init 43 = .ok (.aload_n 0, 1) := by decide +kernel
theorem d_M_init_44 : decode b_M_init 44 = .ok (.bipush 48, 2) := by decide +kernel
theorem d_M_init_46 : decode b_M_init 46 = .ok (.newarray .int, 2) := by decide +kernel
theorem d_M_init_48 : decode b_M_init 48 = .ok (.putfield 25, 3) := by decide +kernel
theorem d_M_init_51 : decode b_M_init 51 = .ok (.aload_n 0, 1) := by decide +kernel
theorem d_M_init_52 : decode b_M_init 52 = .ok (.bipush 48, 2) := by decide +kernel
theorem d_M_init_54 : decode b_M_init 54 = .ok (.newarray .int, 2) := by decide +kernel
theorem d_M_init_56 : decode b_M_init 56 = .ok (.putfield 28, 3) := by decide +kernel
theorem d_M_init_59 : decode b_M_init 59 = .ok (.aload_n 0, 1) := by decide +kernel
theorem d_M_init_60 : decode b_M_init 60 = .ok (.bipush 48, 2) := by decide +kernel
theorem d_M_init_62 : decode b_M_init 62 = .ok (.newarray .int, 2) := by decide +kernel
theorem d_M_init_64 : decode b_M_init 64 = .ok (.putfield 31, 3) := by decide +kernel
theorem d_M_init_67 : decode b_M_init 67 = .ok (.aload_n 0, 1) := by decide +kernel
theorem d_M_init_68 : decode b_M_init 68 = .ok (.bipush 48, 2) := by decide +kernel
theorem d_M_init_70 : decode b_M_init 70 = .ok (.newarray .int, 2) := by decide +kernel
theorem d_M_init_72 : decode b_M_init 72 = .ok (.putfield 34, 3) := by decide +kernel
theorem d_M_init_75 : decode b_M_init 75 = .ok (.aload_n 0, 1) := by decide +kernel
theorem d_M_init_76 : decode b_M_init 76 = .ok (.bipush 48, 2) := by decide +kernel
theorem d_M_init_78 : decode b_M_init 78 = .ok (.newarray .int, 2) := by decide +kernel
theorem d_M_init_80 : decode b_M_init 80 = .ok (.putfield 37, 3) := by decide +kernel
theorem d_M_init_83 : decode b_M_init 83 = .ok (.aload_n 0, 1) := by decide +kernel
theorem d_M_init_84 : decode b_M_init 84 = .ok (.bipush 48, 2) := by decide +kernel
theorem d_M_init_86 : decode b_M_init 86 = .ok (.newarray .long, 2) := by decide +kernel
theorem d_M_init_88 : decode b_M_init 88 = .ok (.putfield 40, 3) := by decide +kernel
theorem d_M_init_91 : decode b_M_init 91 = .ok (.aload_n 0, 1) := by decide +kernel
theorem d_M_init_92 : decode b_M_init 92 = .ok (.iconst 2, 1) := by decide +kernel
theorem d_M_init_93 : decode b_M_init 93 = .ok (.newarray .int, 2) := by decide +kernel
theorem d_M_init_95 : decode b_M_init 95 = .ok (.dup, 1) := by decide +kernel
theorem d_M_init_96 : decode b_M_init 96 = .ok (.iconst 0, 1) := by decide +kernel
theorem d_M_init_97 : decode b_M_init 97 = .ok (.iconst (-1), 1) := by decide +kernel
theorem d_M_init_98 : decode b_M_init 98 = .ok (.iastore, 1) := by decide +kernel
theorem d_M_init_99 : decode b_M_init 99 = .ok (.dup, 1) := by decide +kernel
theorem d_M_init_100 : decode b_M_init 100 = .ok (.iconst 1, 1) := by decide +kernel
theorem d_M_init_101 : decode b_M_init 101 = .ok (.iconst (-1), 1) := by decide +kernel
theorem d_M_init_102 : decode b_M_init 102 = .ok (.iastore, 1) := by decide +kernel
theorem d_M_init_103 : decode b_M_init 103 = .ok (.putfield 44, 3) := by decide +kernel
theorem d_M_init_106 : decode b_M_init 106 = .ok (.aload_n 0, 1) := by decide +kernel
theorem d_M_init_107 : decode b_M_init 107 = .ok (.iconst 2, 1) := by decide +kernel
theorem d_M_init_108 : decode b_M_init 108 = .ok (.newarray .int, 2) := by decide +kernel
theorem d_M_init_110 : decode b_M_init 110 = .ok (.putfield 47, 3) := by decide +kernel
theorem d_M_init_113 : decode b_M_init 113 = .ok (.aload_n 0, 1) := by decide +kernel
theorem d_M_init_114 : decode b_M_init 114 = .ok (.iconst 2, 1) := by decide +kernel
theorem d_M_init_115 : decode b_M_init 115 = .ok (.newarray .boolean, 2) := by decide +kernel
theorem d_M_init_117 : decode b_M_init 117 = .ok (.putfield 50, 3) := by decide +kernel
theorem d_M_init_120 : decode b_M_init 120 = .ok (.aload_n 0, 1) := by decide +kernel
theorem d_M_init_121 : decode b_M_init 121 = .ok (.iconst 2, 1) := by decide +kernel
theorem d_M_init_122 : decode b_M_init 122 = .ok (.newarray .int, 2) := by decide +kernel
theorem d_M_init_124 : decode b_M_init 124 = .ok (.putfield 54, 3) := by decide +kernel
theorem d_M_init_127 : decode b_M_init 127 = .ok (.aload_n 0, 1) := by decide +kernel
theorem d_M_init_128 : decode b_M_init 128 = .ok (.bipush 60, 2) := by decide +kernel
theorem d_M_init_130 : decode b_M_init 130 = .ok (.newarray .int, 2) := by decide +kernel
theorem d_M_init_132 : decode b_M_init 132 = .ok (.putfield 57, 3) := by decide +kernel
theorem d_M_init_135 : decode b_M_init 135 = .ok (.aload_n 0, 1) := by decide +kernel
theorem d_M_init_136 : decode b_M_init 136 = .ok (.bipush 60, 2) := by decide +kernel
theorem d_M_init_138 : decode b_M_init 138 = .ok (.newarray .int, 2) := by decide +kernel
theorem d_M_init_140 : decode b_M_init 140 = .ok (.putfield 60, 3) := by decide +kernel
theorem d_M_init_143 : decode b_M_init 143 = .ok (.aload_n 0, 1) := by decide +kernel
theorem d_M_init_144 : decode b_M_init 144 = .ok (.bipush 24, 2) := by decide +kernel
theorem d_M_init_146 : decode b_M_init 146 = .ok (.newarray .int, 2) := by decide +kernel
theorem d_M_init_148 : decode b_M_init 148 = .ok (.putfield 63, 3) := by decide +kernel
theorem d_M_init_151 : decode b_M_init 151 = .ok (.aload_n 0, 1) := by decide +kernel
theorem d_M_init_152 : decode b_M_init 152 = .ok (.bipush 60, 2) := by decide +kernel
theorem d_M_init_154 : decode b_M_init 154 = .ok (.newarray .int, 2) := by decide +kernel
theorem d_M_init_156 : decode b_M_init 156 = .ok (.putfield 66, 3) := by decide +kernel
theorem d_M_init_159 : decode b_M_init 159 = .ok (.return_, 1) := by decide +kernel
theorem d_M_isRepository_0 : decode b_M_isRepository 0 = .ok (.iload_n 0, 1) := by decide +kernel
theorem d_M_isRepository_1 : decode b_M_isRepository 1 = .ok (.ifCond .eq 8, 3) := by decide +kernel
theorem d_M_isRepository_4 : decode b_M_isRepository 4 = .ok (.iload_n 0, 1) := by decide +kernel
theorem d_M_isRepository_5 : decode b_M_isRepository 5 = .ok (.iconst 1, 1) := by decide +kernel
theorem d_M_isRepository_6 : decode b_M_isRepository 6 = .ok (.if_icmp .ne 7, 3) := by decide +kernel
theorem d_M_isRepository_9 : decode b_M_isRepository 9 = .ok (.iconst 1, 1) := by decide +kernel
theorem d_M_isRepository_10 : decode b_M_isRepository 10 = .ok (.goto 4, 3) := by decide +kernel
theorem d_M_isRepository_13 : decode b_M_isRepository 13 = .ok (.iconst 0, 1) := by decide +kernel
theorem d_M_isRepository_14 : decode b_M_isRepository 14 = .ok (.ireturn, 1) := by decide +kernel
theorem d_M_isRevision_0 : decode b_M_isRevision 0 = .ok (.iload_n 2, 1) := by decide +kernel
theorem d_M_isRevision_1 : decode b_M_isRevision 1 = .ok (.ifCond .lt 17, 3) := by decide +kernel
theorem d_M_isRevision_4 : decode b_M_isRevision 4 = .ok (.iload_n 2, 1) := by decide +kernel
theorem d_M_isRevision_5 : decode b_M_isRevision 5 = .ok (.aload_n 0, 1) := by decide +kernel
theorem d_M_isRevision_6 : decode b_M_isRevision 6 = .ok (.getfield 19, 3) := by decide +kernel
theorem d_M_isRevision_9 : decode b_M_isRevision 9 = .ok (.iload_n 1, 1) := by decide +kernel
theorem d_M_isRevision_10 : decode b_M_isRevision 10 = .ok (.iaload, 1) := by decide +kernel
theorem d_M_isRevision_11 : decode b_M_isRevision 11 = .ok (.if_icmp .ge 7, 3) := by decide +kernel
theorem d_M_isRevision_14 : decode b_M_isRevision 14 = .ok (.iconst 1, 1) := by decide +kernel
theorem d_M_isRevision_15 : decode b_M_isRevision 15 = .ok (.goto 4, 3) := by decide +kernel
theorem d_M_isRevision_18 : decode b_M_isRevision 18 = .ok (.iconst 0, 1) := by decide +kernel
theorem d_M_isRevision_19 : decode b_M_isRevision 19 = .ok (.ireturn, 1) := by decide +kernel
theorem d_M_mixed_0 : decode b_M_mixed 0 = .ok (.lload_n 0, 1) := by decide +kernel
theorem d_M_mixed_1 : decode b_M_mixed 1 = .ok (.iload_n 2, 1) := by decide +kernel
theorem d_M_mixed_2 : decode b_M_mixed 2 = .ok (.i2l, 1) := by decide +kernel
theorem d_M_mixed_3 : decode b_M_mixed 3 = .ok (.lxor, 1) := by decide +kernel
theorem d_M_mixed_4 : decode b_M_mixed 4 = .ok (.ldc2_w 76, 3) := by decide +kernel
theorem d_M_mixed_7 : decode b_M_mixed 7 = .ok (.lmul, 1) := by decide +kernel
theorem d_M_mixed_8 : decode b_M_mixed 8 = .ok (.lreturn, 1) := by decide +kernel
theorem d_M_mixedLong_0 : decode b_M_mixedLong 0 = .ok (.lload_n 0, 1) := by decide +kernel
theorem d_M_mixedLong_1 : decode b_M_mixedLong 1 = .ok (.lstore 4, 2) := by decide +kernel
theorem d_M_mixedLong_3 : decode b_M_mixedLong 3 = .ok (.bipush 56, 2) := by decide +kernel
theorem d_M_mixedLong_5 : decode b_M_mixedLong 5 = .ok (.istore 6, 2) := by decide +kernel
theorem d_M_mixedLong_7 : decode b_M_mixedLong 7 = .ok (.iload 6, 2) := by decide +kernel
theorem d_M_mixedLong_9 : decode b_M_mixedLong 9 = .ok (.ifCond .lt 25, 3) := by decide +kernel
theorem d_M_mixedLong_12 : decode b_M_mixedLong 12 = .ok (.lload 4, 2) := by decide +kernel
theorem d_M_mixedLong_14 : decode b_M_mixedLong 14 = .ok (.lload_n 2, 1) := by decide +kernel
theorem d_M_mixedLong_15 : decode b_M_mixedLong 15 = .ok (.iload 6, 2) := by decide +kernel
theorem d_M_mixedLong_17 : decode b_M_mixedLong 17 = .ok (.lushr, 1) := by decide +kernel
theorem d_M_mixedLong_18 : decode b_M_mixedLong 18 = .ok (.l2i, 1) := by decide +kernel
theorem d_M_mixedLong_19 : decode b_M_mixedLong 19 = .ok (.sipush 255, 3) := by decide +kernel
theorem d_M_mixedLong_22 : decode b_M_mixedLong 22 = .ok (.iand, 1) := by decide +kernel
theorem d_M_mixedLong_23 : decode b_M_mixedLong 23 = .ok (.invokestatic 78, 3) := by decide +kernel
theorem d_M_mixedLong_26 : decode b_M_mixedLong 26 = .ok (.lstore 4, 2) := by decide +kernel
theorem d_M_mixedLong_28 : decode b_M_mixedLong 28 = .ok (.iinc 6 (-8), 3) := by decide +kernel
theorem d_M_mixedLong_31 : decode b_M_mixedLong 31 = .ok (.goto (-24), 3) := by decide +kernel
theorem d_M_mixedLong_34 : decode b_M_mixedLong 34 = .ok (.lload 4, 2) := by decide +kernel
theorem d_M_mixedLong_36 : decode b_M_mixedLong 36 = .ok (.lreturn, 1) := by decide +kernel
theorem d_M_node_0 : decode b_M_node 0 = .ok (.aload_n 0, 1) := by decide +kernel
theorem d_M_node_1 : decode b_M_node 1 = .ok (.iload_n 1, 1) := by decide +kernel
theorem d_M_node_2 : decode b_M_node 2 = .ok (.invokevirtual 184, 3) := by decide +kernel
theorem d_M_node_5 : decode b_M_node 5 = .ok (.ifCond .lt 12, 3) := by decide +kernel
theorem d_M_node_8 : decode b_M_node 8 = .ok (.aload_n 0, 1) := by decide +kernel
theorem d_M_node_9 : decode b_M_node 9 = .ok (.iload_n 1, 1) := by decide +kernel
theorem d_M_node_10 : decode b_M_node 10 = .ok (.iload_n 2, 1) := by decide +kernel
theorem d_M_node_11 : decode b_M_node 11 = .ok (.invokevirtual 172, 3) := by decide +kernel
theorem d_M_node_14 : decode b_M_node 14 = .ok (.ifCond .ne 7, 3) := by decide +kernel
theorem d_M_node_17 : decode b_M_node 17 = .ok (.lconst 0, 1) := by decide +kernel
theorem d_M_node_18 : decode b_M_node 18 = .ok (.goto 14, 3) := by decide +kernel
theorem d_M_node_21 : decode b_M_node 21 = .ok (.aload_n 0, 1) := by decide +kernel
theorem d_M_node_22 : decode b_M_node 22 = .ok (.getfield 40, 3) := by decide +kernel
theorem d_M_node_25 : decode b_M_node 25 = .ok (.bipush 24, 2) := by decide +kernel
theorem d_M_node_27 : decode b_M_node 27 = .ok (.iload_n 1, 1) := by decide +kernel
theorem d_M_node_28 : decode b_M_node 28 = .ok (.imul, 1) := by decide +kernel
theorem d_M_node_29 : decode b_M_node 29 = .ok (.iload_n 2, 1) := by decide +kernel
theorem d_M_node_30 : decode b_M_node 30 = .ok (.iadd, 1) := by decide +kernel
theorem d_M_node_31 : decode b_M_node 31 = .ok (.laload, 1) := by decide +kernel
theorem d_M_node_32 : decode b_M_node 32 = .ok (.lreturn, 1) := by decide +kernel
theorem d_M_pull_0 : decode b_M_pull 0 = .ok (.iload_n 1, 1) := by decide +kernel
theorem d_M_pull_1 : decode b_M_pull 1 = .ok (.invokestatic 159, 3) := by decide +kernel
theorem d_M_pull_4 : decode b_M_pull 4 = .ok (.ifCond .ne 9, 3) := by decide +kernel
theorem d_M_pull_7 : decode b_M_pull 7 = .ok (.aload_n 0, 1) := by decide +kernel
theorem d_M_pull_8 : decode b_M_pull 8 = .ok (.iconst 1, 1) := by decide +kernel
theorem d_M_pull_9 : decode b_M_pull 9 = .ok (.invokevirtual 162, 3) := by decide +kernel
theorem d_M_pull_12 : decode b_M_pull 12 = .ok (.ireturn, 1) := by decide +kernel
theorem d_M_pull_13 : decode b_M_pull 13 = .ok (.iconst 1, 1) := by decide +kernel
theorem d_M_pull_14 : decode b_M_pull 14 = .ok (.iload_n 1, 1) := by decide +kernel
theorem d_M_pull_15 : decode b_M_pull 15 = .ok (.isub, 1) := by decide +kernel
theorem d_M_pull_16 : decode b_M_pull 16 = .ok (.istore_n 2, 1) := by decide +kernel
theorem d_M_pull_17 : decode b_M_pull 17 = .ok (.aload_n 0, 1) := by decide +kernel
theorem d_M_pull_18 : decode b_M_pull 18 = .ok (.iload_n 1, 1) := by decide +kernel
theorem d_M_pull_19 : decode b_M_pull 19 = .ok (.iconst 0, 1) := by decide +kernel
theorem d_M_pull_20 : decode b_M_pull 20 = .ok (.invokevirtual 165, 3) := by decide +kernel
theorem d_M_pull_23 : decode b_M_pull 23 = .ok (.ifCond .ne 12, 3) := by decide +kernel
theorem d_M_pull_26 : decode b_M_pull 26 = .ok (.aload_n 0, 1) := by decide +kernel
theorem d_M_pull_27 : decode b_M_pull 27 = .ok (.iload_n 2, 1) := by decide +kernel
theorem d_M_pull_28 : decode b_M_pull 28 = .ok (.iconst 0, 1) := by decide +kernel
theorem d_M_pull_29 : decode b_M_pull 29 = .ok (.invokevirtual 165, 3) := by decide +kernel
theorem d_M_pull_32 : decode b_M_pull 32 = .ok (.ifCond .eq 9, 3) := by decide +kernel
theorem d_M_pull_35 : decode b_M_pull 35 = .ok (.aload_n 0, 1) := by decide +kernel
theorem d_M_pull_36 : decode b_M_pull 36 = .ok (.iconst 2, 1) := by decide +kernel
theorem d_M_pull_37 : decode b_M_pull 37 = .ok (.invokevirtual 162, 3) := by decide +kernel
theorem d_M_pull_40 : decode b_M_pull 40 = .ok (.ireturn, 1) := by decide +kernel
theorem d_M_pull_41 : decode b_M_pull 41 = .ok (.aload_n 0, 1) := by decide +kernel
theorem d_M_pull_42 : decode b_M_pull 42 = .ok (.iconst 0, 1) := by decide +kernel
theorem d_M_pull_43 : decode b_M_pull 43 = .ok (.putfield 69, 3) := by decide +kernel
theorem d_M_pull_46 : decode b_M_pull 46 = .ok (.aload_n 0, 1) := by decide +kernel
theorem d_M_pull_47 : decode b_M_pull 47 = .ok (.getfield 16, 3) := by decide +kernel
theorem d_M_pull_50 : decode b_M_pull 50 = .ok (.iload_n 1, 1) := by decide +kernel
theorem d_M_pull_51 : decode b_M_pull 51 = .ok (.iaload, 1) := by decide +kernel
theorem d_M_pull_52 : decode b_M_pull 52 = .ok (.istore_n 3, 1) := by decide +kernel
theorem d_M_pull_53 : decode b_M_pull 53 = .ok (.aload_n 0, 1) := by decide +kernel
theorem d_M_pull_54 : decode b_M_pull 54 = .ok (.getfield 19, 3) := by decide +kernel
theorem d_M_pull_57 : decode b_M_pull 57 = .ok (.iload_n 1, 1) := by decide +kernel
theorem d_M_pull_58 : decode b_M_pull 58 = .ok (.iaload, 1) := by decide +kernel
theorem d_M_pull_59 : decode b_M_pull 59 = .ok (.istore 4, 2) := by decide +kernel
theorem d_M_pull_61 : decode b_M_pull 61 = .ok (.aload_n 0, 1) := by decide +kernel
theorem d_M_pull_62 : decode b_M_pull 62 = .ok (.getfield 54, 3) := by decide +kernel
theorem d_M_pull_65 : decode b_M_pull 65 = .ok (.iload_n 1, 1) := by decide +kernel
theorem d_M_pull_66 : decode b_M_pull 66 = .ok (.iaload, 1) := by decide +kernel
theorem d_M_pull_67 : decode b_M_pull 67 = .ok (.istore 5, 2) := by decide +kernel
theorem d_M_pull_69 : decode b_M_pull 69 = .ok (.aload_n 0, 1) := by decide +kernel
theorem d_M_pull_70 : decode b_M_pull 70 = .ok (.iload_n 1, 1) := by decide +kernel
theorem d_M_pull_71 : decode b_M_pull 71 = .ok (.invokevirtual 169, 3) := by decide +kernel
theorem d_M_pull_74 : decode b_M_pull 74 = .ok (.ifCond .ne 6, 3) := by decide +kernel
theorem d_M_pull_77 : decode b_M_pull 77 = .ok (.bipush (-2), 2) := by decide +kernel
theorem d_M_pull_79 : decode b_M_pull 79 = .ok (.ireturn, 1) := by decide +kernel
theorem d_M_pull_80 : decode b_M_pull 80 = .ok (.iconst 0, 1) := by decide +kernel
theorem d_M_pull_81 : decode b_M_pull 81 = .ok (.istore 6, 2) := by decide +kernel
theorem d_M_pull_83 : decode b_M_pull 83 = .ok (.iload 6, 2) := by decide +kernel
theorem d_M_pull_85 : decode b_M_pull 85 = .ok (.aload_n 0, 1) := by decide +kernel
theorem d_M_pull_86 : decode b_M_pull 86 = .ok (.getfield 19, 3) := by decide +kernel
theorem d_M_pull_89 : decode b_M_pull 89 = .ok (.iload_n 2, 1) := by decide +kernel
theorem d_M_pull_90 : decode b_M_pull 90 = .ok (.iaload, 1) := by decide +kernel
theorem d_M_pull_91 : decode b_M_pull 91 = .ok (.if_icmp .ge 107, 3) := by decide +kernel
theorem d_M_pull_94 : decode b_M_pull 94 = .ok (.aload_n 0, 1) := by decide +kernel
theorem d_M_pull_95 : decode b_M_pull 95 = .ok (.iload_n 1, 1) := by decide +kernel
theorem d_M_pull_96 : decode b_M_pull 96 = .ok (.aload_n 0, 1) := by decide +kernel
theorem d_M_pull_97 : decode b_M_pull 97 = .ok (.getfield 40, 3) := by decide +kernel
theorem d_M_pull_100 : decode b_M_pull 100 = .ok (.bipush 24, 2) := by decide +kernel
theorem d_M_pull_102 : decode b_M_pull 102 = .ok (.iload_n 2, 1) := by decide +kernel
theorem d_M_pull_103 : decode b_M_pull 103 = .ok (.imul, 1) := by decide +kernel
theorem d_M_pull_104 : decode b_M_pull 104 = .ok (.iload 6, 2) := by decide +kernel
theorem d_M_pull_106 : decode b_M_pull 106 = .ok (.iadd, 1) := by decide +kernel
theorem d_M_pull_107 : decode b_M_pull 107 = .ok (.laload, 1) := by decide +kernel
theorem d_M_pull_108 : decode b_M_pull 108 = .ok (.invokevirtual 138, 3) := by decide +kernel
theorem d_M_pull_111 : decode b_M_pull 111 = .ok (.ifCond .ge 81, 3) := by decide +kernel
theorem d_M_pull_114 : decode b_M_pull 114 = .ok (.aload_n 0, 1) := by decide +kernel
theorem d_M_pull_115 : decode b_M_pull 115 = .ok (.iload_n 2, 1) := by decide +kernel
theorem d_M_pull_116 : decode b_M_pull 116 = .ok (.iload 6, 2) := by decide +kernel
theorem d_M_pull_118 : decode b_M_pull 118 = .ok (.invokevirtual 124, 3) := by decide +kernel
theorem d_M_pull_121 : decode b_M_pull 121 = .ok (.ifCond .eq 14, 3) := by decide +kernel
theorem d_M_pull_124 : decode b_M_pull 124 = .ok (.aload_n 0, 1) := by decide +kernel
theorem d_M_pull_125 : decode b_M_pull 125 = .ok (.iload_n 1, 1) := by decide +kernel
theorem d_M_pull_126 : decode b_M_pull 126 = .ok (.iload_n 2, 1) := by decide +kernel
theorem d_M_pull_127 : decode b_M_pull 127 = .ok (.iload 6, 2) := by decide +kernel
theorem d_M_pull_129 : decode b_M_pull 129 = .ok (.invokevirtual 181, 3) := by decide +kernel
theorem d_M_pull_132 : decode b_M_pull 132 = .ok (.goto 5, 3) := by decide +kernel
theorem d_M_pull_135 : decode b_M_pull 135 = .ok (.bipush (-4), 2) := by decide +kernel
theorem d_M_pull_137 : decode b_M_pull 137 = .ok (.istore 7, 2) := by decide +kernel
theorem d_M_pull_139 : decode b_M_pull 139 = .ok (.iload 7, 2) := by decide +kernel
theorem d_M_pull_141 : decode b_M_pull 141 = .ok (.bipush (-2), 2) := by decide +kernel
theorem d_M_pull_143 : decode b_M_pull 143 = .ok (.if_icmp .ne 6, 3) := by decide +kernel
theorem d_M_pull_146 : decode b_M_pull 146 = .ok (.bipush (-2), 2) := by decide +kernel
theorem d_M_pull_148 : decode b_M_pull 148 = .ok (.ireturn, 1) := by decide +kernel
theorem d_M_pull_149 : decode b_M_pull 149 = .ok (.iload 7, 2) := by decide +kernel
theorem d_M_pull_151 : decode b_M_pull 151 = .ok (.bipush (-4), 2) := by decide +kernel
theorem d_M_pull_153 : decode b_M_pull 153 = .ok (.if_icmp .ne 39, 3) := by decide +kernel
theorem d_M_pull_156 : decode b_M_pull 156 = .ok (.aload_n 0, 1) := by decide +kernel
theorem d_M_pull_157 : decode b_M_pull 157 = .ok (.getfield 16, 3) := by decide +kernel
theorem d_M_pull_160 : decode b_M_pull 160 = .ok (.iload_n 1, 1) := by decide +kernel
theorem d_M_pull_161 : decode b_M_pull 161 = .ok (.iload_n 3, 1) := by decide +kernel
theorem d_M_pull_162 : decode b_M_pull 162 = .ok (.iastore, 1) := by decide +kernel
theorem d_M_pull_163 : decode b_M_pull 163 = .ok (.aload_n 0, 1) := by decide +kernel
theorem d_M_pull_164 : decode b_M_pull 164 = .ok (.getfield 19, 3) := by decide +kernel
theorem d_M_pull_167 : decode b_M_pull 167 = .ok (.iload_n 1, 1) := by decide +kernel
theorem d_M_pull_168 : decode b_M_pull 168 = .ok (.iload 4, 2) := by decide +kernel
theorem d_M_pull_170 : decode b_M_pull 170 = .ok (.iastore, 1) := by decide +kernel
theorem d_M_pull_171 : decode b_M_pull 171 = .ok (.aload_n 0, 1) := by decide +kernel
theorem d_M_pull_172 : decode b_M_pull 172 = .ok (.getfield 54, 3) := by decide +kernel
theorem d_M_pull_175 : decode b_M_pull 175 = .ok (.iload_n 1, 1) := by decide +kernel
theorem d_M_pull_176 : decode b_M_pull 176 = .ok (.iload 5, 2) := by decide +kernel
theorem d_M_pull_178 : decode b_M_pull 178 = .ok (.iastore, 1) := by decide +kernel
theorem d_M_pull_179 : decode b_M_pull 179 = .ok (.aload_n 0, 1) := by decide +kernel
theorem d_M_pull_180 : decode b_M_pull 180 = .ok (.getfield 44, 3) := by decide +kernel
theorem d_M_pull_183 : decode b_M_pull 183 = .ok (.iload_n 1, 1) := by decide +kernel
theorem d_M_pull_184 : decode b_M_pull 184 = .ok (.iconst (-1), 1) := by decide +kernel
theorem d_M_pull_185 : decode b_M_pull 185 = .ok (.iastore, 1) := by decide +kernel
theorem d_M_pull_186 : decode b_M_pull 186 = .ok (.aload_n 0, 1) := by decide +kernel
theorem d_M_pull_187 : decode b_M_pull 187 = .ok (.iconst 3, 1) := by decide +kernel
theorem d_M_pull_188 : decode b_M_pull 188 = .ok (.invokevirtual 162, 3) := by decide +kernel
theorem d_M_pull_191 : decode b_M_pull 191 = .ok (.ireturn, 1) := by decide +kernel
theorem d_M_pull_192 : decode b_M_pull 192 = .ok (.iinc 6 1, 3) := by decide +kernel
theorem d_M_pull_195 : decode b_M_pull 195 = .ok (.goto (-112), 3) := by decide +kernel
theorem d_M_pull_198 : decode b_M_pull 198 = .ok (.aload_n 0, 1) := by decide +kernel
theorem d_M_pull_199 : decode b_M_pull 199 = .ok (.iload_n 1, 1) := by decide +kernel
theorem d_M_pull_200 : decode b_M_pull 200 = .ok (.invokevirtual 156, 3) := by decide +kernel
theorem d_M_pull_203 : decode b_M_pull 203 = .ok (.ifCond .eq 15, 3) := by decide +kernel
theorem d_M_pull_206 : decode b_M_pull 206 = .ok (.aload_n 0, 1) := by decide +kernel
theorem d_M_pull_207 : decode b_M_pull 207 = .ok (.getfield 19, 3) := by decide +kernel
theorem d_M_pull_210 : decode b_M_pull 210 = .ok (.iload_n 1, 1) := by decide +kernel
theorem d_M_pull_211 : decode b_M_pull 211 = .ok (.iaload, 1) := by decide +kernel
theorem d_M_pull_212 : decode b_M_pull 212 = .ok (.iload 4, 2) := by decide +kernel
theorem d_M_pull_214 : decode b_M_pull 214 = .ok (.isub, 1) := by decide +kernel
theorem d_M_pull_215 : decode b_M_pull 215 = .ok (.goto 5, 3) := by decide +kernel
theorem d_M_pull_218 : decode b_M_pull 218 = .ok (.bipush (-2), 2) := by decide +kernel
theorem d_M_pull_220 : decode b_M_pull 220 = .ok (.ireturn, 1) := by decide +kernel
theorem d_M_putByte_0 : decode b_M_putByte 0 = .ok (.aload_n 0, 1) := by decide +kernel
theorem d_M_putByte_1 : decode b_M_putByte 1 = .ok (.getfield 13, 3) := by decide +kernel
theorem d_M_putByte_4 : decode b_M_putByte 4 = .ok (.sipush 600, 3) := by decide +kernel
theorem d_M_putByte_7 : decode b_M_putByte 7 = .ok (.iload_n 1, 1) := by decide +kernel
theorem d_M_putByte_8 : decode b_M_putByte 8 = .ok (.imul, 1) := by decide +kernel
theorem d_M_putByte_9 : decode b_M_putByte 9 = .ok (.aload_n 0, 1) := by decide +kernel
theorem d_M_putByte_10 : decode b_M_putByte 10 = .ok (.getfield 16, 3) := by decide +kernel
theorem d_M_putByte_13 : decode b_M_putByte 13 = .ok (.iload_n 1, 1) := by decide +kernel
theorem d_M_putByte_14 : decode b_M_putByte 14 = .ok (.iaload, 1) := by decide +kernel
theorem d_M_putByte_15 : decode b_M_putByte 15 = .ok (.iadd, 1) := by decide +kernel
theorem d_M_putByte_16 : decode b_M_putByte 16 = .ok (.iload_n 2, 1) := by decide +kernel
theorem d_M_putByte_17 : decode b_M_putByte 17 = .ok (.iastore, 1) := by decide +kernel
theorem d_M_putByte_18 : decode b_M_putByte 18 = .ok (.aload_n 0, 1) := by decide +kernel
theorem d_M_putByte_19 : decode b_M_putByte 19 = .ok (.getfield 16, 3) := by decide +kernel
theorem d_M_putByte_22 : decode b_M_putByte 22 = .ok (.iload_n 1, 1) := by decide +kernel
theorem d_M_putByte_23 : decode b_M_putByte 23 = .ok (.dup2, 1) := by decide +kernel
theorem d_M_putByte_24 : decode b_M_putByte 24 = .ok (.iaload, 1) := by decide +kernel
theorem d_M_putByte_25 : decode b_M_putByte 25 = .ok (.iconst 1, 1) := by decide +kernel
theorem d_M_putByte_26 : decode b_M_putByte 26 = .ok (.iadd, 1) := by decide +kernel
theorem d_M_putByte_27 : decode b_M_putByte 27 = .ok (.iastore, 1) := by decide +kernel
theorem d_M_putByte_28 : decode b_M_putByte 28 = .ok (.return_, 1) := by decide +kernel
theorem d_M_putDifference_0 : decode b_M_putDifference 0 = .ok (.aload_n 0, 1) := by decide +kernel
theorem d_M_putDifference_1 : decode b_M_putDifference 1 = .ok (.iload_n 1, 1) := by decide +kernel
theorem d_M_putDifference_2 : decode b_M_putDifference 2 = .ok (.iload_n 2, 1) := by decide +kernel
theorem d_M_putDifference_3 : decode b_M_putDifference 3 = .ok (.invokevirtual 124, 3) := by decide +kernel
theorem d_M_putDifference_6 : decode b_M_putDifference 6 = .ok (.pop, 1) := by decide +kernel
theorem d_M_putDifference_7 : decode b_M_putDifference 7 = .ok (.aload_n 0, 1) := by decide +kernel
theorem d_M_putDifference_8 : decode b_M_putDifference 8 = .ok (.invokevirtual 109, 3) := by decide +kernel
theorem d_M_putDifference_11 : decode b_M_putDifference 11 = .ok (.istore_n 3, 1) := by decide +kernel
theorem d_M_putDifference_12 : decode b_M_putDifference 12 = .ok (.aload_n 0, 1) := by decide +kernel
theorem d_M_putDifference_13 : decode b_M_putDifference 13 = .ok (.iload_n 3, 1) := by decide +kernel
theorem d_M_putDifference_14 : decode b_M_putDifference 14 = .ok (.invokevirtual 113, 3) := by decide +kernel
theorem d_M_putDifference_17 : decode b_M_putDifference 17 = .ok (.istore 4, 2) := by decide +kernel
theorem d_M_putDifference_19 : decode b_M_putDifference 19 = .ok (.aload_n 0, 1) := by decide +kernel
theorem d_M_putDifference_20 : decode b_M_putDifference 20 = .ok (.iload_n 1, 1) := by decide +kernel
theorem d_M_putDifference_21 : decode b_M_putDifference 21 = .ok (.bipush 100, 2) := by decide +kernel
theorem d_M_putDifference_23 : decode b_M_putDifference 23 = .ok (.invokevirtual 134, 3) := by decide +kernel
theorem d_M_putDifference_26 : decode b_M_putDifference 26 = .ok (.aload_n 0, 1) := by decide +kernel
theorem d_M_putDifference_27 : decode b_M_putDifference 27 = .ok (.iload_n 1, 1) := by decide +kernel
theorem d_M_putDifference_28 : decode b_M_putDifference 28 = .ok (.iload_n 3, 1) := by decide +kernel
theorem d_M_putDifference_29 : decode b_M_putDifference 29 = .ok (.invokevirtual 134, 3) := by decide +kernel
theorem d_M_putDifference_32 : decode b_M_putDifference 32 = .ok (.aload_n 0, 1) := by decide +kernel
theorem d_M_putDifference_33 : decode b_M_putDifference 33 = .ok (.iload_n 1, 1) := by decide +kernel
theorem d_M_putDifference_34 : decode b_M_putDifference 34 = .ok (.aload_n 0, 1) := by decide +kernel
theorem d_M_putDifference_35 : decode b_M_putDifference 35 = .ok (.getfield 92, 3) := by decide +kernel
theorem d_M_putDifference_38 : decode b_M_putDifference 38 = .ok (.iload 4, 2) := by decide +kernel
theorem d_M_putDifference_40 : decode b_M_putDifference 40 = .ok (.isub, 1) := by decide +kernel
theorem d_M_putDifference_41 : decode b_M_putDifference 41 = .ok (.invokevirtual 134, 3) := by decide +kernel
theorem d_M_putDifference_44 : decode b_M_putDifference 44 = .ok (.aload_n 0, 1) := by decide +kernel
theorem d_M_putDifference_45 : decode b_M_putDifference 45 = .ok (.iload_n 1, 1) := by decide +kernel
theorem d_M_putDifference_46 : decode b_M_putDifference 46 = .ok (.aload_n 0, 1) := by decide +kernel
theorem d_M_putDifference_47 : decode b_M_putDifference 47 = .ok (.getfield 106, 3) := by decide +kernel
theorem d_M_putDifference_50 : decode b_M_putDifference 50 = .ok (.iload_n 3, 1) := by decide +kernel
theorem d_M_putDifference_51 : decode b_M_putDifference 51 = .ok (.isub, 1) := by decide +kernel
theorem d_M_putDifference_52 : decode b_M_putDifference 52 = .ok (.iload 4, 2) := by decide +kernel
theorem d_M_putDifference_54 : decode b_M_putDifference 54 = .ok (.isub, 1) := by decide +kernel
theorem d_M_putDifference_55 : decode b_M_putDifference 55 = .ok (.invokevirtual 134, 3) := by decide +kernel
theorem d_M_putDifference_58 : decode b_M_putDifference 58 = .ok (.iload_n 3, 1) := by decide +kernel
theorem d_M_putDifference_59 : decode b_M_putDifference 59 = .ok (.istore 5, 2) := by decide +kernel
theorem d_M_putDifference_61 : decode b_M_putDifference 61 = .ok (.iload 5, 2) := by decide +kernel
theorem d_M_putDifference_63 : decode b_M_putDifference 63 = .ok (.aload_n 0, 1) := by decide +kernel
theorem d_M_putDifference_64 : decode b_M_putDifference 64 = .ok (.getfield 106, 3) := by decide +kernel
theorem d_M_putDifference_67 : decode b_M_putDifference 67 = .ok (.iload 4, 2) := by decide +kernel
theorem d_M_putDifference_69 : decode b_M_putDifference 69 = .ok (.isub, 1) := by decide +kernel
theorem d_M_putDifference_70 : decode b_M_putDifference 70 = .ok (.if_icmp .ge 21, 3) := by decide +kernel
theorem d_M_putDifference_73 : decode b_M_putDifference 73 = .ok (.aload_n 0, 1) := by decide +kernel
theorem d_M_putDifference_74 : decode b_M_putDifference 74 = .ok (.iload_n 1, 1) := by decide +kernel
theorem d_M_putDifference_75 : decode b_M_putDifference 75 = .ok (.aload_n 0, 1) := by decide +kernel
theorem d_M_putDifference_76 : decode b_M_putDifference 76 = .ok (.getfield 66, 3) := by decide +kernel
theorem d_M_putDifference_79 : decode b_M_putDifference 79 = .ok (.iload 5, 2) := by decide +kernel
theorem d_M_putDifference_81 : decode b_M_putDifference 81 = .ok (.iaload, 1) := by decide +kernel
theorem d_M_putDifference_82 : decode b_M_putDifference 82 = .ok (.invokevirtual 134, 3) := by decide +kernel
theorem d_M_putDifference_85 : decode b_M_putDifference 85 = .ok (.iinc 5 1, 3) := by decide +kernel
theorem d_M_putDifference_88 : decode b_M_putDifference 88 = .ok (.goto (-27), 3) := by decide +kernel
theorem d_M_putDifference_91 : decode b_M_putDifference 91 = .ok (.return_, 1) := by decide +kernel
theorem d_M_putSnapshot_0 : decode b_M_putSnapshot 0 = .ok (.iconst 1, 1) := by decide +kernel
theorem d_M_putSnapshot_1 : decode b_M_putSnapshot 1 = .ok (.iconst 2, 1) := by decide +kernel
theorem d_M_putSnapshot_2 : decode b_M_putSnapshot 2 = .ok (.aload_n 0, 1) := by decide +kernel
theorem d_M_putSnapshot_3 : decode b_M_putSnapshot 3 = .ok (.invokevirtual 117, 3) := by decide +kernel
theorem d_M_putSnapshot_6 : decode b_M_putSnapshot 6 = .ok (.imul, 1) := by decide +kernel
theorem d_M_putSnapshot_7 : decode b_M_putSnapshot 7 = .ok (.iadd, 1) := by decide +kernel
theorem d_M_putSnapshot_8 : decode b_M_putSnapshot 8 = .ok (.iconst 1, 1) := by decide +kernel
theorem d_M_putSnapshot_9 : decode b_M_putSnapshot 9 = .ok (.aload_n 0, 1) := by decide +kernel
theorem d_M_putSnapshot_10 : decode b_M_putSnapshot 10 = .ok (.getfield 106, 3) := by decide +kernel
theorem d_M_putSnapshot_13 : decode b_M_putSnapshot 13 = .ok (.iadd, 1) := by decide +kernel
theorem d_M_putSnapshot_14 : decode b_M_putSnapshot 14 = .ok (.if_icmp .lt 38, 3) := by decide +kernel
theorem d_M_putSnapshot_17 : decode b_M_putSnapshot 17 = .ok (.aload_n 0, 1) := by decide +kernel
theorem d_M_putSnapshot_18 : decode b_M_putSnapshot 18 = .ok (.iload_n 1, 1) := by decide +kernel
theorem d_M_putSnapshot_19 : decode b_M_putSnapshot 19 = .ok (.bipush 117, 2) := by decide +kernel
theorem d_M_putSnapshot_21 : decode b_M_putSnapshot 21 = .ok (.invokevirtual 134, 3) := by decide +kernel
theorem d_M_putSnapshot_24 : decode b_M_putSnapshot 24 = .ok (.iconst 0, 1) := by decide +kernel
theorem d_M_putSnapshot_25 : decode b_M_putSnapshot 25 = .ok (.istore_n 2, 1) := by decide +kernel
theorem d_M_putSnapshot_26 : decode b_M_putSnapshot 26 = .ok (.iload_n 2, 1) := by decide +kernel
theorem d_M_putSnapshot_27 : decode b_M_putSnapshot 27 = .ok (.aload_n 0, 1) := by decide +kernel
theorem d_M_putSnapshot_28 : decode b_M_putSnapshot 28 = .ok (.getfield 106, 3) := by decide +kernel
theorem d_M_putSnapshot_31 : decode b_M_putSnapshot 31 = .ok (.if_icmp .ge 20, 3) := by decide +kernel
theorem d_M_putSnapshot_34 : decode b_M_putSnapshot 34 = .ok (.aload_n 0, 1) := by decide +kernel
theorem d_M_putSnapshot_35 : decode b_M_putSnapshot 35 = .ok (.iload_n 1, 1) := by decide +kernel
theorem d_M_putSnapshot_36 : decode b_M_putSnapshot 36 = .ok (.aload_n 0, 1) := by decide +kernel
theorem d_M_putSnapshot_37 : decode b_M_putSnapshot 37 = .ok (.getfield 66, 3) := by decide +kernel
theorem d_M_putSnapshot_40 : decode b_M_putSnapshot 40 = .ok (.iload_n 2, 1) := by decide +kernel
theorem d_M_putSnapshot_41 : decode b_M_putSnapshot 41 = .ok (.iaload, 1) := by decide +kernel
theorem d_M_putSnapshot_42 : decode b_M_putSnapshot 42 = .ok (.invokevirtual 134, 3) := by decide +kernel
theorem d_M_putSnapshot_45 : decode b_M_putSnapshot 45 = .ok (.iinc 2 1, 3) := by decide +kernel
theorem d_M_putSnapshot_48 : decode b_M_putSnapshot 48 = .ok (.goto (-22), 3) := by decide +kernel
theorem d_M_putSnapshot_51 : decode b_M_putSnapshot 51 = .ok (.return_, 1) := by decide +kernel
theorem d_M_putSnapshot_52 : decode b_M_putSnapshot 52 = .ok (.aload_n 0, 1) := by decide +kernel
theorem d_M_putSnapshot_53 : decode b_M_putSnapshot 53 = .ok (.iload_n 1, 1) := by decide +kernel
theorem d_M_putSnapshot_54 : decode b_M_putSnapshot 54 = .ok (.bipush 120, 2) := by decide +kernel
theorem d_M_putSnapshot_56 : decode b_M_putSnapshot 56 = .ok (.invokevirtual 134, 3) := by decide +kernel
theorem d_M_putSnapshot_59 : decode b_M_putSnapshot 59 = .ok (.iconst 0, 1) := by decide +kernel
theorem d_M_putSnapshot_60 : decode b_M_putSnapshot 60 = .ok (.istore_n 2, 1) := by decide +kernel
theorem d_M_putSnapshot_61 : decode b_M_putSnapshot 61 = .ok (.iload_n 2, 1) := by decide +kernel
theorem d_M_putSnapshot_62 : decode b_M_putSnapshot 62 = .ok (.aload_n 0, 1) := by decide +kernel
theorem d_M_putSnapshot_63 : decode b_M_putSnapshot 63 = .ok (.getfield 106, 3) := by decide +kernel
theorem d_M_putSnapshot_66 : decode b_M_putSnapshot 66 = .ok (.if_icmp .ge 58, 3) := by decide +kernel
theorem d_M_putSnapshot_69 : decode b_M_putSnapshot 69 = .ok (.iload_n 2, 1) := by decide +kernel
theorem d_M_putSnapshot_70 : decode b_M_putSnapshot 70 = .ok (.istore_n 3, 1) := by decide +kernel
theorem d_M_putSnapshot_71 : decode b_M_putSnapshot 71 = .ok (.iload_n 3, 1) := by decide +kernel
theorem d_M_putSnapshot_72 : decode b_M_putSnapshot 72 = .ok (.aload_n 0, 1) := by decide +kernel
theorem d_M_putSnapshot_73 : decode b_M_putSnapshot 73 = .ok (.getfield 106, 3) := by decide +kernel
theorem d_M_putSnapshot_76 : decode b_M_putSnapshot 76 = .ok (.if_icmp .ge 24, 3) := by decide +kernel
theorem d_M_putSnapshot_79 : decode b_M_putSnapshot 79 = .ok (.aload_n 0, 1) := by decide +kernel
theorem d_M_putSnapshot_80 : decode b_M_putSnapshot 80 = .ok (.getfield 66, 3) := by decide +kernel
theorem d_M_putSnapshot_83 : decode b_M_putSnapshot 83 = .ok (.iload_n 3, 1) := by decide +kernel
theorem d_M_putSnapshot_84 : decode b_M_putSnapshot 84 = .ok (.iaload, 1) := by decide +kernel
theorem d_M_putSnapshot_85 : decode b_M_putSnapshot 85 = .ok (.aload_n 0, 1) := by decide +kernel
theorem d_M_putSnapshot_86 : decode b_M_putSnapshot 86 = .ok (.getfield 66, 3) := by decide +kernel
theorem d_M_putSnapshot_89 : decode b_M_putSnapshot 89 = .ok (.iload_n 2, 1) := by decide +kernel
theorem d_M_putSnapshot_90 : decode b_M_putSnapshot 90 = .ok (.iaload, 1) := by decide +kernel
theorem d_M_putSnapshot_91 : decode b_M_putSnapshot 91 = .ok (.if_icmp .ne 9, 3) := by decide +kernel
theorem d_M_putSnapshot_94 : decode b_M_putSnapshot 94 = .ok (.iinc 3 1, 3) := by decide +kernel
theorem d_M_putSnapshot_97 : decode b_M_putSnapshot 97 = .ok (.goto (-26), 3) := by decide +kernel
theorem d_M_putSnapshot_100 : decode b_M_putSnapshot 100 = .ok (.aload_n 0, 1) := by decide +kernel
theorem d_M_putSnapshot_101 : decode b_M_putSnapshot 101 = .ok (.iload_n 1, 1) := by decide +kernel
theorem d_M_putSnapshot_102 : decode b_M_putSnapshot 102 = .ok (.iload_n 3, 1) := by decide +kernel
theorem d_M_putSnapshot_103 : decode b_M_putSnapshot 103 = .ok (.iload_n 2, 1) := by decide +kernel
theorem d_M_putSnapshot_104 : decode b_M_putSnapshot 104 = .ok (.isub, 1) := by decide +kernel
theorem d_M_putSnapshot_105 : decode b_M_putSnapshot 105 = .ok (.invokevirtual 134, 3) := by decide +kernel
theorem d_M_putSnapshot_108 : decode b_M_putSnapshot 108 = .ok (.aload_n 0, 1) := by decide +kernel
theorem d_M_putSnapshot_109 : decode b_M_putSnapshot 109 = .ok (.iload_n 1, 1) := by decide +kernel
theorem d_M_putSnapshot_110 : decode b_M_putSnapshot 110 = .ok (.aload_n 0, 1) := by decide +kernel
theorem d_M_putSnapshot_111 : decode b_M_putSnapshot 111 = .ok (.getfield 66, 3) := by decide +kernel
theorem d_M_putSnapshot_114 : decode b_M_putSnapshot 114 = .ok (.iload_n 2, 1) := by decide +kernel
theorem d_M_putSnapshot_115 : decode b_M_putSnapshot 115 = .ok (.iaload, 1) := by decide +kernel
theorem d_M_putSnapshot_116 : decode b_M_putSnapshot 116 = .ok (.invokevirtual 134, 3) := by decide +kernel
theorem d_M_putSnapshot_119 : decode b_M_putSnapshot 119 = .ok (.iload_n 3, 1) := by decide +kernel
theorem d_M_putSnapshot_120 : decode b_M_putSnapshot 120 = .ok (.istore_n 2, 1) := by decide +kernel
theorem d_M_putSnapshot_121 : decode b_M_putSnapshot 121 = .ok (.goto (-60), 3) := by decide +kernel
theorem d_M_putSnapshot_124 : decode b_M_putSnapshot 124 = .ok (.return_, 1) := by decide +kernel
theorem d_M_raise_0 : decode b_M_raise 0 = .ok (.aload_n 0, 1) := by decide +kernel
theorem d_M_raise_1 : decode b_M_raise 1 = .ok (.iload_n 1, 1) := by decide +kernel
theorem d_M_raise_2 : decode b_M_raise 2 = .ok (.putfield 69, 3) := by decide +kernel
theorem d_M_raise_5 : decode b_M_raise 5 = .ok (.iconst 0, 1) := by decide +kernel
theorem d_M_raise_6 : decode b_M_raise 6 = .ok (.ireturn, 1) := by decide +kernel
theorem d_M_record_0 : decode b_M_record 0 = .ok (.aload_n 0, 1) := by decide +kernel
theorem d_M_record_1 : decode b_M_record 1 = .ok (.iload_n 1, 1) := by decide +kernel
theorem d_M_record_2 : decode b_M_record 2 = .ok (.invokevirtual 184, 3) := by decide +kernel
theorem d_M_record_5 : decode b_M_record 5 = .ok (.istore 4, 2) := by decide +kernel
theorem d_M_record_7 : decode b_M_record 7 = .ok (.iload 4, 2) := by decide +kernel
theorem d_M_record_9 : decode b_M_record 9 = .ok (.ifCond .ge 6, 3) := by decide +kernel
theorem d_M_record_12 : decode b_M_record 12 = .ok (.iload 4, 2) := by decide +kernel
theorem d_M_record_14 : decode b_M_record 14 = .ok (.ireturn, 1) := by decide +kernel
theorem d_M_record_15 : decode b_M_record 15 = .ok (.aload_n 0, 1) := by decide +kernel
theorem d_M_record_16 : decode b_M_record 16 = .ok (.iload_n 1, 1) := by decide +kernel
theorem d_M_record_17 : decode b_M_record 17 = .ok (.iload_n 2, 1) := by decide +kernel
theorem d_M_record_18 : decode b_M_record 18 = .ok (.invokevirtual 172, 3) := by decide +kernel
theorem d_M_record_21 : decode b_M_record 21 = .ok (.ifCond .eq 12, 3) := by decide +kernel
theorem d_M_record_24 : decode b_M_record 24 = .ok (.iload_n 3, 1) := by decide +kernel
theorem d_M_record_25 : decode b_M_record 25 = .ok (.ifCond .lt 8, 3) := by decide +kernel
theorem d_M_record_28 : decode b_M_record 28 = .ok (.iload_n 3, 1) := by decide +kernel
theorem d_M_record_29 : decode b_M_record 29 = .ok (.iconst 5, 1) := by decide +kernel
theorem d_M_record_30 : decode b_M_record 30 = .ok (.if_icmp .le 5, 3) := by decide +kernel
theorem d_M_record_33 : decode b_M_record 33 = .ok (.iconst (-1), 1) := by decide +kernel
theorem d_M_record_34 : decode b_M_record 34 = .ok (.ireturn, 1) := by decide +kernel
theorem d_M_record_35 : decode b_M_record 35 = .ok (.bipush 24, 2) := by decide +kernel
theorem d_M_record_37 : decode b_M_record 37 = .ok (.iload_n 1, 1) := by decide +kernel
theorem d_M_record_38 : decode b_M_record 38 = .ok (.imul, 1) := by decide +kernel
theorem d_M_record_39 : decode b_M_record 39 = .ok (.iload_n 2, 1) := by decide +kernel
theorem d_M_record_40 : decode b_M_record 40 = .ok (.iadd, 1) := by decide +kernel
theorem d_M_record_41 : decode b_M_record 41 = .ok (.istore 5, 2) := by decide +kernel
theorem d_M_record_43 : decode b_M_record 43 = .ok (.iload_n 3, 1) := by decide +kernel
theorem d_M_record_44 : decode b_M_record 44 = .ok (.ifCond .ne 13, 3) := by decide +kernel
theorem d_M_record_47 : decode b_M_record 47 = .ok (.aload_n 0, 1) := by decide +kernel
theorem d_M_record_48 : decode b_M_record 48 = .ok (.getfield 22, 3) := by decide +kernel
theorem d_M_record_51 : decode b_M_record 51 = .ok (.iload 5, 2) := by decide +kernel
theorem d_M_record_53 : decode b_M_record 53 = .ok (.iaload, 1) := by decide +kernel
theorem d_M_record_54 : decode b_M_record 54 = .ok (.goto 70, 3) := by decide +kernel
theorem d_M_record_57 : decode b_M_record 57 = .ok (.iload_n 3, 1) := by decide +kernel
theorem d_M_record_58 : decode b_M_record 58 = .ok (.iconst 1, 1) := by decide +kernel
theorem d_M_record_59 : decode b_M_record 59 = .ok (.if_icmp .ne 13, 3) := by decide +kernel
theorem d_M_record_62 : decode b_M_record 62 = .ok (.aload_n 0, 1) := by decide +kernel
theorem d_M_record_63 : decode b_M_record 63 = .ok (.getfield 25, 3) := by decide +kernel
theorem d_M_record_66 : decode b_M_record 66 = .ok (.iload 5, 2) := by decide +kernel
theorem d_M_record_68 : decode b_M_record 68 = .ok (.iaload, 1) := by decide +kernel
theorem d_M_record_69 : decode b_M_record 69 = .ok (.goto 55, 3) := by decide +kernel
theorem d_M_record_72 : decode b_M_record 72 = .ok (.iload_n 3, 1) := by decide +kernel
theorem d_M_record_73 : decode b_M_record 73 = .ok (.iconst 2, 1) := by decide +kernel
theorem d_M_record_74 : decode b_M_record 74 = .ok (.if_icmp .ne 13, 3) := by decide +kernel
theorem d_M_record_77 : decode b_M_record 77 = .ok (.aload_n 0, 1) := by decide +kernel
theorem d_M_record_78 : decode b_M_record 78 = .ok (.getfield 28, 3) := by decide +kernel
theorem d_M_record_81 : decode b_M_record 81 = .ok (.iload 5, 2) := by decide +kernel
theorem d_M_record_83 : decode b_M_record 83 = .ok (.iaload, 1) := by decide +kernel
theorem d_M_record_84 : decode b_M_record 84 = .ok (.goto 40, 3) := by decide +kernel
theorem d_M_record_87 : decode b_M_record 87 = .ok (.iload_n 3, 1) := by decide +kernel
theorem d_M_record_88 : decode b_M_record 88 = .ok (.iconst 3, 1) := by decide +kernel
theorem d_M_record_89 : decode b_M_record 89 = .ok (.if_icmp .ne 13, 3) := by decide +kernel
theorem d_M_record_92 : decode b_M_record 92 = .ok (.aload_n 0, 1) := by decide +kernel
theorem d_M_record_93 : decode b_M_record 93 = .ok (.getfield 31, 3) := by decide +kernel
theorem d_M_record_96 : decode b_M_record 96 = .ok (.iload 5, 2) := by decide +kernel
theorem d_M_record_98 : decode b_M_record 98 = .ok (.iaload, 1) := by decide +kernel
theorem d_M_record_99 : decode b_M_record 99 = .ok (.goto 25, 3) := by decide +kernel
theorem d_M_record_102 : decode b_M_record 102 = .ok (.iload_n 3, 1) := by decide +kernel
theorem d_M_record_103 : decode b_M_record 103 = .ok (.iconst 4, 1) := by decide +kernel
theorem d_M_record_104 : decode b_M_record 104 = .ok (.if_icmp .ne 13, 3) := by decide +kernel
theorem d_M_record_107 : decode b_M_record 107 = .ok (.aload_n 0, 1) := by decide +kernel
theorem d_M_record_108 : decode b_M_record 108 = .ok (.getfield 34, 3) := by decide +kernel
theorem d_M_record_111 : decode b_M_record 111 = .ok (.iload 5, 2) := by decide +kernel
theorem d_M_record_113 : decode b_M_record 113 = .ok (.iaload, 1) := by decide +kernel
theorem d_M_record_114 : decode b_M_record 114 = .ok (.goto 10, 3) := by decide +kernel
theorem d_M_record_117 : decode b_M_record 117 = .ok (.aload_n 0, 1) := by decide +kernel
theorem d_M_record_118 : decode b_M_record 118 = .ok (.getfield 37, 3) := by decide +kernel
theorem d_M_record_121 : decode b_M_record 121 = .ok (.iload 5, 2) := by decide +kernel
theorem d_M_record_123 : decode b_M_record 123 = .ok (.iaload, 1) := by decide +kernel
theorem d_M_record_124 : decode b_M_record 124 = .ok (.ireturn, 1) := by decide +kernel
theorem d_M_recover_0 : decode b_M_recover 0 = .ok (.iload_n 1, 1) := by decide +kernel
theorem d_M_recover_1 : decode b_M_recover 1 = .ok (.invokestatic 159, 3) := by decide +kernel
theorem d_M_recover_4 : decode b_M_recover 4 = .ok (.ifCond .eq 12, 3) := by decide +kernel
theorem d_M_recover_7 : decode b_M_recover 7 = .ok (.iload_n 2, 1) := by decide +kernel
theorem d_M_recover_8 : decode b_M_recover 8 = .ok (.ifCond .lt 8, 3) := by decide +kernel
theorem d_M_recover_11 : decode b_M_recover 11 = .ok (.iload_n 2, 1) := by decide +kernel
theorem d_M_recover_12 : decode b_M_recover 12 = .ok (.iconst 3, 1) := by decide +kernel
theorem d_M_recover_13 : decode b_M_recover 13 = .ok (.if_icmp .le 9, 3) := by decide +kernel
theorem d_M_recover_16 : decode b_M_recover 16 = .ok (.aload_n 0, 1) := by decide +kernel
theorem d_M_recover_17 : decode b_M_recover 17 = .ok (.iconst 1, 1) := by decide +kernel
theorem d_M_recover_18 : decode b_M_recover 18 = .ok (.invokevirtual 162, 3) := by decide +kernel
theorem d_M_recover_21 : decode b_M_recover 21 = .ok (.ireturn, 1) := by decide +kernel
theorem d_M_recover_22 : decode b_M_recover 22 = .ok (.aload_n 0, 1) := by decide +kernel
theorem d_M_recover_23 : decode b_M_recover 23 = .ok (.getfield 50, 3) := by decide +kernel
theorem d_M_recover_26 : decode b_M_recover 26 = .ok (.iload_n 1, 1) := by decide +kernel
theorem d_M_recover_27 : decode b_M_recover 27 = .ok (.baload, 1) := by decide +kernel
theorem d_M_recover_28 : decode b_M_recover 28 = .ok (.ifCond .ne 9, 3) := by decide +kernel
theorem d_M_recover_31 : decode b_M_recover 31 = .ok (.aload_n 0, 1) := by decide +kernel
theorem d_M_recover_32 : decode b_M_recover 32 = .ok (.iconst 2, 1) := by decide +kernel
theorem d_M_recover_33 : decode b_M_recover 33 = .ok (.invokevirtual 162, 3) := by decide +kernel
theorem d_M_recover_36 : decode b_M_recover 36 = .ok (.ireturn, 1) := by decide +kernel
theorem d_M_recover_37 : decode b_M_recover 37 = .ok (.aload_n 0, 1) := by decide +kernel
theorem d_M_recover_38 : decode b_M_recover 38 = .ok (.iconst 0, 1) := by decide +kernel
theorem d_M_recover_39 : decode b_M_recover 39 = .ok (.putfield 69, 3) := by decide +kernel
theorem d_M_recover_42 : decode b_M_recover 42 = .ok (.aload_n 0, 1) := by decide +kernel
theorem d_M_recover_43 : decode b_M_recover 43 = .ok (.getfield 50, 3) := by decide +kernel
theorem d_M_recover_46 : decode b_M_recover 46 = .ok (.iload_n 1, 1) := by decide +kernel
theorem d_M_recover_47 : decode b_M_recover 47 = .ok (.iconst 0, 1) := by decide +kernel
theorem d_M_recover_48 : decode b_M_recover 48 = .ok (.bastore, 1) := by decide +kernel
theorem d_M_recover_49 : decode b_M_recover 49 = .ok (.aload_n 0, 1) := by decide +kernel
theorem d_M_recover_50 : decode b_M_recover 50 = .ok (.getfield 54, 3) := by decide +kernel
theorem d_M_recover_53 : decode b_M_recover 53 = .ok (.iload_n 1, 1) := by decide +kernel
theorem d_M_recover_54 : decode b_M_recover 54 = .ok (.iconst 0, 1) := by decide +kernel
theorem d_M_recover_55 : decode b_M_recover 55 = .ok (.iastore, 1) := by decide +kernel
theorem d_M_recover_56 : decode b_M_recover 56 = .ok (.aload_n 0, 1) := by decide +kernel
theorem d_M_recover_57 : decode b_M_recover 57 = .ok (.getfield 44, 3) := by decide +kernel
theorem d_M_recover_60 : decode b_M_recover 60 = .ok (.iload_n 1, 1) := by decide +kernel
theorem d_M_recover_61 : decode b_M_recover 61 = .ok (.iaload, 1) := by decide +kernel
theorem d_M_recover_62 : decode b_M_recover 62 = .ok (.ifCond .ge 5, 3) := by decide +kernel
theorem d_M_recover_65 : decode b_M_recover 65 = .ok (.iconst 0, 1) := by decide +kernel
theorem d_M_recover_66 : decode b_M_recover 66 = .ok (.ireturn, 1) := by decide +kernel
theorem d_M_recover_67 : decode b_M_recover 67 = .ok (.aload_n 0, 1) := by decide +kernel
theorem d_M_recover_68 : decode b_M_recover 68 = .ok (.getfield 54, 3) := by decide +kernel
theorem d_M_recover_71 : decode b_M_recover 71 = .ok (.iload_n 1, 1) := by decide +kernel
theorem d_M_recover_72 : decode b_M_recover 72 = .ok (.iload_n 2, 1) := by decide +kernel
theorem d_M_recover_73 : decode b_M_recover 73 = .ok (.iastore, 1) := by decide +kernel
theorem d_M_recover_74 : decode b_M_recover 74 = .ok (.aload_n 0, 1) := by decide +kernel
theorem d_M_recover_75 : decode b_M_recover 75 = .ok (.iload_n 1, 1) := by decide +kernel
theorem d_M_recover_76 : decode b_M_recover 76 = .ok (.invokevirtual 178, 3) := by decide +kernel
theorem d_M_recover_79 : decode b_M_recover 79 = .ok (.ireturn, 1) := by decide +kernel
theorem d_M_revisions_0 : decode b_M_revisions 0 = .ok (.aload_n 0, 1) := by decide +kernel
theorem d_M_revisions_1 : decode b_M_revisions 1 = .ok (.iload_n 1, 1) := by decide +kernel
theorem d_M_revisions_2 : decode b_M_revisions 2 = .ok (.invokevirtual 184, 3) := by decide +kernel
theorem d_M_revisions_5 : decode b_M_revisions 5 = .ok (.istore_n 2, 1) := by decide +kernel
theorem d_M_revisions_6 : decode b_M_revisions 6 = .ok (.iload_n 2, 1) := by decide +kernel
theorem d_M_revisions_7 : decode b_M_revisions 7 = .ok (.ifCond .ge 7, 3) := by decide +kernel
theorem d_M_revisions_10 : decode b_M_revisions 10 = .ok (.iload_n 2, 1) := by decide +kernel
theorem d_M_revisions_11 : decode b_M_revisions 11 = .ok (.goto 9, 3) := by decide +kernel
theorem d_M_revisions_14 : decode b_M_revisions 14 = .ok (.aload_n 0, 1) := by decide +kernel
theorem d_M_revisions_15 : decode b_M_revisions 15 = .ok (.getfield 19, 3) := by decide +kernel
theorem d_M_revisions_18 : decode b_M_revisions 18 = .ok (.iload_n 1, 1) := by decide +kernel
theorem d_M_revisions_19 : decode b_M_revisions 19 = .ok (.iaload, 1) := by decide +kernel
theorem d_M_revisions_20 : decode b_M_revisions 20 = .ok (.ireturn, 1) := by decide +kernel
theorem d_M_roll_0 : decode b_M_roll 0 = .ok (.aload_n 0, 1) := by decide +kernel
theorem d_M_roll_1 : decode b_M_roll 1 = .ok (.iload_n 1, 1) := by decide +kernel
theorem d_M_roll_2 : decode b_M_roll 2 = .ok (.invokevirtual 145, 3) := by decide +kernel
theorem d_M_roll_5 : decode b_M_roll 5 = .ok (.ifCond .ne 6, 3) := by decide +kernel
theorem d_M_roll_8 : decode b_M_roll 8 = .ok (.bipush (-2), 2) := by decide +kernel
theorem d_M_roll_10 : decode b_M_roll 10 = .ok (.ireturn, 1) := by decide +kernel
theorem d_M_roll_11 : decode b_M_roll 11 = .ok (.aload_n 0, 1) := by decide +kernel
theorem d_M_roll_12 : decode b_M_roll 12 = .ok (.getfield 16, 3) := by decide +kernel
theorem d_M_roll_15 : decode b_M_roll 15 = .ok (.iload_n 1, 1) := by decide +kernel
theorem d_M_roll_16 : decode b_M_roll 16 = .ok (.aload_n 0, 1) := by decide +kernel
theorem d_M_roll_17 : decode b_M_roll 17 = .ok (.getfield 44, 3) := by decide +kernel
theorem d_M_roll_20 : decode b_M_roll 20 = .ok (.iload_n 1, 1) := by decide +kernel
theorem d_M_roll_21 : decode b_M_roll 21 = .ok (.iaload, 1) := by decide +kernel
theorem d_M_roll_22 : decode b_M_roll 22 = .ok (.iastore, 1) := by decide +kernel
theorem d_M_roll_23 : decode b_M_roll 23 = .ok (.aload_n 0, 1) := by decide +kernel
theorem d_M_roll_24 : decode b_M_roll 24 = .ok (.iload_n 1, 1) := by decide +kernel
theorem d_M_roll_25 : decode b_M_roll 25 = .ok (.invokevirtual 145, 3) := by decide +kernel
theorem d_M_roll_28 : decode b_M_roll 28 = .ok (.ifCond .ne 6, 3) := by decide +kernel
theorem d_M_roll_31 : decode b_M_roll 31 = .ok (.bipush (-2), 2) := by decide +kernel
theorem d_M_roll_33 : decode b_M_roll 33 = .ok (.ireturn, 1) := by decide +kernel
theorem d_M_roll_34 : decode b_M_roll 34 = .ok (.aload_n 0, 1) := by decide +kernel
theorem d_M_roll_35 : decode b_M_roll 35 = .ok (.getfield 19, 3) := by decide +kernel
theorem d_M_roll_38 : decode b_M_roll 38 = .ok (.iload_n 1, 1) := by decide +kernel
theorem d_M_roll_39 : decode b_M_roll 39 = .ok (.iaload, 1) := by decide +kernel
theorem d_M_roll_40 : decode b_M_roll 40 = .ok (.aload_n 0, 1) := by decide +kernel
theorem d_M_roll_41 : decode b_M_roll 41 = .ok (.getfield 47, 3) := by decide +kernel
theorem d_M_roll_44 : decode b_M_roll 44 = .ok (.iload_n 1, 1) := by decide +kernel
theorem d_M_roll_45 : decode b_M_roll 45 = .ok (.iaload, 1) := by decide +kernel
theorem d_M_roll_46 : decode b_M_roll 46 = .ok (.isub, 1) := by decide +kernel
theorem d_M_roll_47 : decode b_M_roll 47 = .ok (.istore_n 2, 1) := by decide +kernel
theorem d_M_roll_48 : decode b_M_roll 48 = .ok (.aload_n 0, 1) := by decide +kernel
theorem d_M_roll_49 : decode b_M_roll 49 = .ok (.getfield 19, 3) := by decide +kernel
theorem d_M_roll_52 : decode b_M_roll 52 = .ok (.iload_n 1, 1) := by decide +kernel
theorem d_M_roll_53 : decode b_M_roll 53 = .ok (.aload_n 0, 1) := by decide +kernel
theorem d_M_roll_54 : decode b_M_roll 54 = .ok (.getfield 47, 3) := by decide +kernel
theorem d_M_roll_57 : decode b_M_roll 57 = .ok (.iload_n 1, 1) := by decide +kernel
theorem d_M_roll_58 : decode b_M_roll 58 = .ok (.iaload, 1) := by decide +kernel
theorem d_M_roll_59 : decode b_M_roll 59 = .ok (.iastore, 1) := by decide +kernel
theorem d_M_roll_60 : decode b_M_roll 60 = .ok (.aload_n 0, 1) := by decide +kernel
theorem d_M_roll_61 : decode b_M_roll 61 = .ok (.iload_n 1, 1) := by decide +kernel
theorem d_M_roll_62 : decode b_M_roll 62 = .ok (.invokevirtual 156, 3) := by decide +kernel
theorem d_M_roll_65 : decode b_M_roll 65 = .ok (.ifCond .eq 7, 3) := by decide +kernel
theorem d_M_roll_68 : decode b_M_roll 68 = .ok (.iload_n 2, 1) := by decide +kernel
theorem d_M_roll_69 : decode b_M_roll 69 = .ok (.goto 5, 3) := by decide +kernel
theorem d_M_roll_72 : decode b_M_roll 72 = .ok (.bipush (-2), 2) := by decide +kernel
theorem d_M_roll_74 : decode b_M_roll 74 = .ok (.ireturn, 1) := by decide +kernel
theorem d_M_runs_0 : decode b_M_runs 0 = .ok (.iconst 0, 1) := by decide +kernel
theorem d_M_runs_1 : decode b_M_runs 1 = .ok (.istore_n 1, 1) := by decide +kernel
theorem d_M_runs_2 : decode b_M_runs 2 = .ok (.iconst 0, 1) := by decide +kernel
theorem d_M_runs_3 : decode b_M_runs 3 = .ok (.istore_n 2, 1) := by decide +kernel
theorem d_M_runs_4 : decode b_M_runs 4 = .ok (.iload_n 2, 1) := by decide +kernel
theorem d_M_runs_5 : decode b_M_runs 5 = .ok (.aload_n 0, 1) := by decide +kernel
theorem d_M_runs_6 : decode b_M_runs 6 = .ok (.getfield 106, 3) := by decide +kernel
theorem d_M_runs_9 : decode b_M_runs 9 = .ok (.if_icmp .ge 38, 3) := by decide +kernel
theorem d_M_runs_12 : decode b_M_runs 12 = .ok (.iload_n 2, 1) := by decide +kernel
theorem d_M_runs_13 : decode b_M_runs 13 = .ok (.ifCond .eq 20, 3) := by decide +kernel
theorem d_M_runs_16 : decode b_M_runs 16 = .ok (.aload_n 0, 1) := by decide +kernel
theorem d_M_runs_17 : decode b_M_runs 17 = .ok (.getfield 66, 3) := by decide +kernel
theorem d_M_runs_20 : decode b_M_runs 20 = .ok (.iload_n 2, 1) := by decide +kernel
theorem d_M_runs_21 : decode b_M_runs 21 = .ok (.iaload, 1) := by decide +kernel
theorem d_M_runs_22 : decode b_M_runs 22 = .ok (.aload_n 0, 1) := by decide +kernel
theorem d_M_runs_23 : decode b_M_runs 23 = .ok (.getfield 66, 3) := by decide +kernel
theorem d_M_runs_26 : decode b_M_runs 26 = .ok (.iload_n 2, 1) := by decide +kernel
theorem d_M_runs_27 : decode b_M_runs 27 = .ok (.iconst 1, 1) := by decide +kernel
theorem d_M_runs_28 : decode b_M_runs 28 = .ok (.isub, 1) := by decide +kernel
theorem d_M_runs_29 : decode b_M_runs 29 = .ok (.iaload, 1) := by decide +kernel
theorem d_M_runs_30 : decode b_M_runs 30 = .ok (.if_icmp .eq 9, 3) := by decide +kernel
theorem d_M_runs_33 : decode b_M_runs 33 = .ok (.iload_n 1, 1) := by decide +kernel
theorem d_M_runs_34 : decode b_M_runs 34 = .ok (.iconst 1, 1) := by decide +kernel
theorem d_M_runs_35 : decode b_M_runs 35 = .ok (.iadd, 1) := by decide +kernel
theorem d_M_runs_36 : decode b_M_runs 36 = .ok (.goto 4, 3) := by decide +kernel
theorem d_M_runs_39 : decode b_M_runs 39 = .ok (.iload_n 1, 1) := by decide +kernel
theorem d_M_runs_40 : decode b_M_runs 40 = .ok (.istore_n 1, 1) := by decide +kernel
theorem d_M_runs_41 : decode b_M_runs 41 = .ok (.iinc 2 1, 3) := by decide +kernel
theorem d_M_runs_44 : decode b_M_runs 44 = .ok (.goto (-40), 3) := by decide +kernel
theorem d_M_runs_47 : decode b_M_runs 47 = .ok (.iload_n 1, 1) := by decide +kernel
theorem d_M_runs_48 : decode b_M_runs 48 = .ok (.ireturn, 1) := by decide +kernel
theorem d_M_shortChain_0 : decode b_M_shortChain 0 = .ok (.iconst 1, 1) := by decide +kernel
theorem d_M_shortChain_1 : decode b_M_shortChain 1 = .ok (.istore 4, 2) := by decide +kernel
theorem d_M_shortChain_3 : decode b_M_shortChain 3 = .ok (.iload_n 3, 1) := by decide +kernel
theorem d_M_shortChain_4 : decode b_M_shortChain 4 = .ok (.istore 5, 2) := by decide +kernel
theorem d_M_shortChain_6 : decode b_M_shortChain 6 = .ok (.iload_n 2, 1) := by decide +kernel
theorem d_M_shortChain_7 : decode b_M_shortChain 7 = .ok (.istore 6, 2) := by decide +kernel
theorem d_M_shortChain_9 : decode b_M_shortChain 9 = .ok (.iload 6, 2) := by decide +kernel
theorem d_M_shortChain_11 : decode b_M_shortChain 11 = .ok (.ifCond .lt 40, 3) := by decide +kernel
theorem d_M_shortChain_14 : decode b_M_shortChain 14 = .ok (.iinc 4 1, 3) := by decide +kernel
theorem d_M_shortChain_17 : decode b_M_shortChain 17 = .ok (.iload 5, 2) := by decide +kernel
theorem d_M_shortChain_19 : decode b_M_shortChain 19 = .ok (.aload_n 0, 1) := by decide +kernel
theorem d_M_shortChain_20 : decode b_M_shortChain 20 = .ok (.getfield 25, 3) := by decide +kernel
theorem d_M_shortChain_23 : decode b_M_shortChain 23 = .ok (.bipush 24, 2) := by decide +kernel
theorem d_M_shortChain_25 : decode b_M_shortChain 25 = .ok (.iload_n 1, 1) := by decide +kernel
theorem d_M_shortChain_26 : decode b_M_shortChain 26 = .ok (.imul, 1) := by decide +kernel
theorem d_M_shortChain_27 : decode b_M_shortChain 27 = .ok (.iload 6, 2) := by decide +kernel
theorem d_M_shortChain_29 : decode b_M_shortChain 29 = .ok (.iadd, 1) := by decide +kernel
theorem d_M_shortChain_30 : decode b_M_shortChain 30 = .ok (.iaload, 1) := by decide +kernel
theorem d_M_shortChain_31 : decode b_M_shortChain 31 = .ok (.iadd, 1) := by decide +kernel
theorem d_M_shortChain_32 : decode b_M_shortChain 32 = .ok (.istore 5, 2) := by decide +kernel
theorem d_M_shortChain_34 : decode b_M_shortChain 34 = .ok (.aload_n 0, 1) := by decide +kernel
theorem d_M_shortChain_35 : decode b_M_shortChain 35 = .ok (.getfield 31, 3) := by decide +kernel
theorem d_M_shortChain_38 : decode b_M_shortChain 38 = .ok (.bipush 24, 2) := by decide +kernel
theorem d_M_shortChain_40 : decode b_M_shortChain 40 = .ok (.iload_n 1, 1) := by decide +kernel
theorem d_M_shortChain_41 : decode b_M_shortChain 41 = .ok (.imul, 1) := by decide +kernel
theorem d_M_shortChain_42 : decode b_M_shortChain 42 = .ok (.iload 6, 2) := by decide +kernel
theorem d_M_shortChain_44 : decode b_M_shortChain 44 = .ok (.iadd, 1) := by decide +kernel
theorem d_M_shortChain_45 : decode b_M_shortChain 45 = .ok (.iaload, 1) := by decide +kernel
theorem d_M_shortChain_46 : decode b_M_shortChain 46 = .ok (.istore 6, 2) := by decide +kernel
theorem d_M_shortChain_48 : decode b_M_shortChain 48 = .ok (.goto (-39), 3) := by decide +kernel
theorem d_M_shortChain_51 : decode b_M_shortChain 51 = .ok (.iload 4, 2) := by decide +kernel
theorem d_M_shortChain_53 : decode b_M_shortChain 53 = .ok (.bipush 6, 2) := by decide +kernel
theorem d_M_shortChain_55 : decode b_M_shortChain 55 = .ok (.if_icmp .gt 21, 3) := by decide +kernel
theorem d_M_shortChain_58 : decode b_M_shortChain 58 = .ok (.iload 5, 2) := by decide +kernel
theorem d_M_shortChain_60 : decode b_M_shortChain 60 = .ok (.iconst 2, 1) := by decide +kernel
theorem d_M_shortChain_61 : decode b_M_shortChain 61 = .ok (.aload_n 0, 1) := by decide +kernel
theorem d_M_shortChain_62 : decode b_M_shortChain 62 = .ok (.getfield 106, 3) := by decide +kernel
theorem d_M_shortChain_65 : decode b_M_shortChain 65 = .ok (.imul, 1) := by decide +kernel
theorem d_M_shortChain_66 : decode b_M_shortChain 66 = .ok (.bipush 16, 2) := by decide +kernel
theorem d_M_shortChain_68 : decode b_M_shortChain 68 = .ok (.iadd, 1) := by decide +kernel
theorem d_M_shortChain_69 : decode b_M_shortChain 69 = .ok (.if_icmp .gt 7, 3) := by decide +kernel
theorem d_M_shortChain_72 : decode b_M_shortChain 72 = .ok (.iconst 1, 1) := by decide +kernel
theorem d_M_shortChain_73 : decode b_M_shortChain 73 = .ok (.goto 4, 3) := by decide +kernel
theorem d_M_shortChain_76 : decode b_M_shortChain 76 = .ok (.iconst 0, 1) := by decide +kernel
theorem d_M_shortChain_77 : decode b_M_shortChain 77 = .ok (.ireturn, 1) := by decide +kernel
theorem d_M_shut_0 : decode b_M_shut 0 = .ok (.aload_n 0, 1) := by decide +kernel
theorem d_M_shut_1 : decode b_M_shut 1 = .ok (.iconst 0, 1) := by decide +kernel
theorem d_M_shut_2 : decode b_M_shut 2 = .ok (.putfield 69, 3) := by decide +kernel
theorem d_M_shut_5 : decode b_M_shut 5 = .ok (.iload_n 1, 1) := by decide +kernel
theorem d_M_shut_6 : decode b_M_shut 6 = .ok (.invokestatic 159, 3) := by decide +kernel
theorem d_M_shut_9 : decode b_M_shut 9 = .ok (.ifCond .ne 7, 3) := by decide +kernel
theorem d_M_shut_12 : decode b_M_shut 12 = .ok (.iconst (-1), 1) := by decide +kernel
theorem d_M_shut_13 : decode b_M_shut 13 = .ok (.goto 18, 3) := by decide +kernel
theorem d_M_shut_16 : decode b_M_shut 16 = .ok (.aload_n 0, 1) := by decide +kernel
theorem d_M_shut_17 : decode b_M_shut 17 = .ok (.getfield 50, 3) := by decide +kernel
theorem d_M_shut_20 : decode b_M_shut 20 = .ok (.iload_n 1, 1) := by decide +kernel
theorem d_M_shut_21 : decode b_M_shut 21 = .ok (.baload, 1) := by decide +kernel
theorem d_M_shut_22 : decode b_M_shut 22 = .ok (.ifCond .eq 8, 3) := by decide +kernel
theorem d_M_shut_25 : decode b_M_shut 25 = .ok (.bipush (-2), 2) := by decide +kernel
theorem d_M_shut_27 : decode b_M_shut 27 = .ok (.goto 4, 3) := by decide +kernel
theorem d_M_shut_30 : decode b_M_shut 30 = .ok (.iconst 0, 1) := by decide +kernel
theorem d_M_shut_31 : decode b_M_shut 31 = .ok (.ireturn, 1) := by decide +kernel
theorem d_M_start_0 : decode b_M_start 0 = .ok (.aload_n 0, 1) := by decide +kernel
theorem d_M_start_1 : decode b_M_start 1 = .ok (.iload_n 1, 1) := by decide +kernel
theorem d_M_start_2 : decode b_M_start 2 = .ok (.invokevirtual 145, 3) := by decide +kernel
theorem d_M_start_5 : decode b_M_start 5 = .ok (.ifCond .ne 5, 3) := by decide +kernel
theorem d_M_start_8 : decode b_M_start 8 = .ok (.iconst 0, 1) := by decide +kernel
theorem d_M_start_9 : decode b_M_start 9 = .ok (.ireturn, 1) := by decide +kernel
theorem d_M_start_10 : decode b_M_start 10 = .ok (.aload_n 0, 1) := by decide +kernel
theorem d_M_start_11 : decode b_M_start 11 = .ok (.getfield 44, 3) := by decide +kernel
theorem d_M_start_14 : decode b_M_start 14 = .ok (.iload_n 1, 1) := by decide +kernel
theorem d_M_start_15 : decode b_M_start 15 = .ok (.aload_n 0, 1) := by decide +kernel
theorem d_M_start_16 : decode b_M_start 16 = .ok (.getfield 16, 3) := by decide +kernel
theorem d_M_start_19 : decode b_M_start 19 = .ok (.iload_n 1, 1) := by decide +kernel
theorem d_M_start_20 : decode b_M_start 20 = .ok (.iaload, 1) := by decide +kernel
theorem d_M_start_21 : decode b_M_start 21 = .ok (.iastore, 1) := by decide +kernel
theorem d_M_start_22 : decode b_M_start 22 = .ok (.aload_n 0, 1) := by decide +kernel
theorem d_M_start_23 : decode b_M_start 23 = .ok (.getfield 47, 3) := by decide +kernel
theorem d_M_start_26 : decode b_M_start 26 = .ok (.iload_n 1, 1) := by decide +kernel
theorem d_M_start_27 : decode b_M_start 27 = .ok (.aload_n 0, 1) := by decide +kernel
theorem d_M_start_28 : decode b_M_start 28 = .ok (.getfield 19, 3) := by decide +kernel
theorem d_M_start_31 : decode b_M_start 31 = .ok (.iload_n 1, 1) := by decide +kernel
theorem d_M_start_32 : decode b_M_start 32 = .ok (.iaload, 1) := by decide +kernel
theorem d_M_start_33 : decode b_M_start 33 = .ok (.iastore, 1) := by decide +kernel
theorem d_M_start_34 : decode b_M_start 34 = .ok (.iconst 1, 1) := by decide +kernel
theorem d_M_start_35 : decode b_M_start 35 = .ok (.ireturn, 1) := by decide +kernel
theorem d_M_text_0 : decode b_M_text 0 = .ok (.iload_n 1, 1) := by decide +kernel
theorem d_M_text_1 : decode b_M_text 1 = .ok (.invokestatic 159, 3) := by decide +kernel
theorem d_M_text_4 : decode b_M_text 4 = .ok (.ifCond .eq 12, 3) := by decide +kernel
theorem d_M_text_7 : decode b_M_text 7 = .ok (.aload_n 0, 1) := by decide +kernel
theorem d_M_text_8 : decode b_M_text 8 = .ok (.iload_n 1, 1) := by decide +kernel
theorem d_M_text_9 : decode b_M_text 9 = .ok (.iload_n 2, 1) := by decide +kernel
theorem d_M_text_10 : decode b_M_text 10 = .ok (.invokevirtual 172, 3) := by decide +kernel
theorem d_M_text_13 : decode b_M_text 13 = .ok (.ifCond .ne 9, 3) := by decide +kernel
theorem d_M_text_16 : decode b_M_text 16 = .ok (.aload_n 0, 1) := by decide +kernel
theorem d_M_text_17 : decode b_M_text 17 = .ok (.iconst 1, 1) := by decide +kernel
theorem d_M_text_18 : decode b_M_text 18 = .ok (.invokevirtual 162, 3) := by decide +kernel
theorem d_M_text_21 : decode b_M_text 21 = .ok (.ireturn, 1) := by decide +kernel
theorem d_M_text_22 : decode b_M_text 22 = .ok (.aload_n 0, 1) := by decide +kernel
theorem d_M_text_23 : decode b_M_text 23 = .ok (.getfield 50, 3) := by decide +kernel
theorem d_M_text_26 : decode b_M_text 26 = .ok (.iload_n 1, 1) := by decide +kernel
theorem d_M_text_27 : decode b_M_text 27 = .ok (.baload, 1) := by decide +kernel
theorem d_M_text_28 : decode b_M_text 28 = .ok (.ifCond .eq 9, 3) := by decide +kernel
theorem d_M_text_31 : decode b_M_text 31 = .ok (.aload_n 0, 1) := by decide +kernel
theorem d_M_text_32 : decode b_M_text 32 = .ok (.iconst 2, 1) := by decide +kernel
theorem d_M_text_33 : decode b_M_text 33 = .ok (.invokevirtual 162, 3) := by decide +kernel
theorem d_M_text_36 : decode b_M_text 36 = .ok (.ireturn, 1) := by decide +kernel
theorem d_M_text_37 : decode b_M_text 37 = .ok (.aload_n 0, 1) := by decide +kernel
theorem d_M_text_38 : decode b_M_text 38 = .ok (.iload_n 1, 1) := by decide +kernel
theorem d_M_text_39 : decode b_M_text 39 = .ok (.iload_n 2, 1) := by decide +kernel
theorem d_M_text_40 : decode b_M_text 40 = .ok (.invokevirtual 124, 3) := by decide +kernel
theorem d_M_text_43 : decode b_M_text 43 = .ok (.ifCond .ne 9, 3) := by decide +kernel
theorem d_M_text_46 : decode b_M_text 46 = .ok (.aload_n 0, 1) := by decide +kernel
theorem d_M_text_47 : decode b_M_text 47 = .ok (.iconst 3, 1) := by decide +kernel
theorem d_M_text_48 : decode b_M_text 48 = .ok (.invokevirtual 162, 3) := by decide +kernel
theorem d_M_text_51 : decode b_M_text 51 = .ok (.ireturn, 1) := by decide +kernel
theorem d_M_text_52 : decode b_M_text 52 = .ok (.aload_n 0, 1) := by decide +kernel
theorem d_M_text_53 : decode b_M_text 53 = .ok (.iconst 0, 1) := by decide +kernel
theorem d_M_text_54 : decode b_M_text 54 = .ok (.putfield 69, 3) := by decide +kernel
theorem d_M_text_57 : decode b_M_text 57 = .ok (.iload_n 3, 1) := by decide +kernel
theorem d_M_text_58 : decode b_M_text 58 = .ok (.ifCond .lt 20, 3) := by decide +kernel
theorem d_M_text_61 : decode b_M_text 61 = .ok (.iload_n 3, 1) := by decide +kernel
theorem d_M_text_62 : decode b_M_text 62 = .ok (.aload_n 0, 1) := by decide +kernel
theorem d_M_text_63 : decode b_M_text 63 = .ok (.getfield 92, 3) := by decide +kernel
theorem d_M_text_66 : decode b_M_text 66 = .ok (.if_icmp .ge 12, 3) := by decide +kernel
theorem d_M_text_69 : decode b_M_text 69 = .ok (.aload_n 0, 1) := by decide +kernel
theorem d_M_text_70 : decode b_M_text 70 = .ok (.getfield 57, 3) := by decide +kernel
theorem d_M_text_73 : decode b_M_text 73 = .ok (.iload_n 3, 1) := by decide +kernel
theorem d_M_text_74 : decode b_M_text 74 = .ok (.iaload, 1) := by decide +kernel
theorem d_M_text_75 : decode b_M_text 75 = .ok (.goto 4, 3) := by decide +kernel
theorem d_M_text_78 : decode b_M_text 78 = .ok (.iconst 0, 1) := by decide +kernel
theorem d_M_text_79 : decode b_M_text 79 = .ok (.ireturn, 1) := by decide +kernel
theorem d_M_thrown_0 : decode b_M_thrown 0 = .ok (.aload_n 0, 1) := by decide +kernel
theorem d_M_thrown_1 : decode b_M_thrown 1 = .ok (.getfield 69, 3) := by decide +kernel
theorem d_M_thrown_4 : decode b_M_thrown 4 = .ok (.ireturn, 1) := by decide +kernel
theorem d_M_type_0 : decode b_M_type 0 = .ok (.aload_n 0, 1) := by decide +kernel
theorem d_M_type_1 : decode b_M_type 1 = .ok (.iconst 0, 1) := by decide +kernel
theorem d_M_type_2 : decode b_M_type 2 = .ok (.putfield 69, 3) := by decide +kernel
theorem d_M_type_5 : decode b_M_type 5 = .ok (.iconst 0, 1) := by decide +kernel
theorem d_M_type_6 : decode b_M_type 6 = .ok (.istore_n 3, 1) := by decide +kernel
theorem d_M_type_7 : decode b_M_type 7 = .ok (.iconst 1, 1) := by decide +kernel
theorem d_M_type_8 : decode b_M_type 8 = .ok (.istore 4, 2) := by decide +kernel
theorem d_M_type_10 : decode b_M_type 10 = .ok (.bipush 56, 2) := by decide +kernel
theorem d_M_type_12 : decode b_M_type 12 = .ok (.istore 5, 2) := by decide +kernel
theorem d_M_type_14 : decode b_M_type 14 = .ok (.iload 5, 2) := by decide +kernel
theorem d_M_type_16 : decode b_M_type 16 = .ok (.ifCond .lt 71, 3) := by decide +kernel
theorem d_M_type_19 : decode b_M_type 19 = .ok (.lload_n 1, 1) := by decide +kernel
theorem d_M_type_20 : decode b_M_type 20 = .ok (.iload 5, 2) := by decide +kernel
theorem d_M_type_22 : decode b_M_type 22 = .ok (.lushr, 1) := by decide +kernel
theorem d_M_type_23 : decode b_M_type 23 = .ok (.l2i, 1) := by decide +kernel
theorem d_M_type_24 : decode b_M_type 24 = .ok (.sipush 255, 3) := by decide +kernel
theorem d_M_type_27 : decode b_M_type 27 = .ok (.iand, 1) := by decide +kernel
theorem d_M_type_28 : decode b_M_type 28 = .ok (.istore 6, 2) := by decide +kernel
theorem d_M_type_30 : decode b_M_type 30 = .ok (.iload 4, 2) := by decide +kernel
theorem d_M_type_32 : decode b_M_type 32 = .ok (.ifCond .eq 33, 3) := by decide +kernel
theorem d_M_type_35 : decode b_M_type 35 = .ok (.iload 6, 2) := by decide +kernel
theorem d_M_type_37 : decode b_M_type 37 = .ok (.ifCond .eq 24, 3) := by decide +kernel
theorem d_M_type_40 : decode b_M_type 40 = .ok (.iload 6, 2) := by decide +kernel
theorem d_M_type_42 : decode b_M_type 42 = .ok (.bipush 10, 2) := by decide +kernel
theorem d_M_type_44 : decode b_M_type 44 = .ok (.if_icmp .eq 17, 3) := by decide +kernel
theorem d_M_type_47 : decode b_M_type 47 = .ok (.iload 6, 2) := by decide +kernel
theorem d_M_type_49 : decode b_M_type 49 = .ok (.bipush 32, 2) := by decide +kernel
theorem d_M_type_51 : decode b_M_type 51 = .ok (.if_icmp .lt 14, 3) := by decide +kernel
theorem d_M_type_54 : decode b_M_type 54 = .ok (.iload 6, 2) := by decide +kernel
theorem d_M_type_56 : decode b_M_type 56 = .ok (.bipush 126, 2) := by decide +kernel
theorem d_M_type_58 : decode b_M_type 58 = .ok (.if_icmp .gt 7, 3) := by decide +kernel
theorem d_M_type_61 : decode b_M_type 61 = .ok (.iconst 1, 1) := by decide +kernel
theorem d_M_type_62 : decode b_M_type 62 = .ok (.goto 4, 3) := by decide +kernel
theorem d_M_type_65 : decode b_M_type 65 = .ok (.iconst 0, 1) := by decide +kernel
theorem d_M_type_66 : decode b_M_type 66 = .ok (.istore 4, 2) := by decide +kernel
theorem d_M_type_68 : decode b_M_type 68 = .ok (.iload 6, 2) := by decide +kernel
theorem d_M_type_70 : decode b_M_type 70 = .ok (.ifCond .ne 7, 3) := by decide +kernel
theorem d_M_type_73 : decode b_M_type 73 = .ok (.iload_n 3, 1) := by decide +kernel
theorem d_M_type_74 : decode b_M_type 74 = .ok (.goto 6, 3) := by decide +kernel
theorem d_M_type_77 : decode b_M_type 77 = .ok (.iload_n 3, 1) := by decide +kernel
theorem d_M_type_78 : decode b_M_type 78 = .ok (.iconst 1, 1) := by decide +kernel
theorem d_M_type_79 : decode b_M_type 79 = .ok (.iadd, 1) := by decide +kernel
theorem d_M_type_80 : decode b_M_type 80 = .ok (.istore_n 3, 1) := by decide +kernel
theorem d_M_type_81 : decode b_M_type 81 = .ok (.iinc 5 (-8), 3) := by decide +kernel
theorem d_M_type_84 : decode b_M_type 84 = .ok (.goto (-70), 3) := by decide +kernel
theorem d_M_type_87 : decode b_M_type 87 = .ok (.iload 4, 2) := by decide +kernel
theorem d_M_type_89 : decode b_M_type 89 = .ok (.ifCond .eq 14, 3) := by decide +kernel
theorem d_M_type_92 : decode b_M_type 92 = .ok (.aload_n 0, 1) := by decide +kernel
theorem d_M_type_93 : decode b_M_type 93 = .ok (.getfield 73, 3) := by decide +kernel
theorem d_M_type_96 : decode b_M_type 96 = .ok (.iload_n 3, 1) := by decide +kernel
theorem d_M_type_97 : decode b_M_type 97 = .ok (.iadd, 1) := by decide +kernel
theorem d_M_type_98 : decode b_M_type 98 = .ok (.bipush 60, 2) := by decide +kernel
theorem d_M_type_100 : decode b_M_type 100 = .ok (.if_icmp .le 5, 3) := by decide +kernel
theorem d_M_type_103 : decode b_M_type 103 = .ok (.iconst 0, 1) := by decide +kernel
theorem d_M_type_104 : decode b_M_type 104 = .ok (.ireturn, 1) := by decide +kernel
theorem d_M_type_105 : decode b_M_type 105 = .ok (.bipush 56, 2) := by decide +kernel
theorem d_M_type_107 : decode b_M_type 107 = .ok (.istore 5, 2) := by decide +kernel
theorem d_M_type_109 : decode b_M_type 109 = .ok (.iload 5, 2) := by decide +kernel
theorem d_M_type_111 : decode b_M_type 111 = .ok (.ifCond .lt 46, 3) := by decide +kernel
theorem d_M_type_114 : decode b_M_type 114 = .ok (.lload_n 1, 1) := by decide +kernel
theorem d_M_type_115 : decode b_M_type 115 = .ok (.iload 5, 2) := by decide +kernel
theorem d_M_type_117 : decode b_M_type 117 = .ok (.lushr, 1) := by decide +kernel
theorem d_M_type_118 : decode b_M_type 118 = .ok (.l2i, 1) := by decide +kernel
theorem d_M_type_119 : decode b_M_type 119 = .ok (.sipush 255, 3) := by decide +kernel
theorem d_M_type_122 : decode b_M_type 122 = .ok (.iand, 1) := by decide +kernel
theorem d_M_type_123 : decode b_M_type 123 = .ok (.istore 6, 2) := by decide +kernel
theorem d_M_type_125 : decode b_M_type 125 = .ok (.iload 6, 2) := by decide +kernel
theorem d_M_type_127 : decode b_M_type 127 = .ok (.ifCond .eq 24, 3) := by decide +kernel
theorem d_M_type_130 : decode b_M_type 130 = .ok (.aload_n 0, 1) := by decide +kernel
theorem d_M_type_131 : decode b_M_type 131 = .ok (.getfield 7, 3) := by decide +kernel
theorem d_M_type_134 : decode b_M_type 134 = .ok (.aload_n 0, 1) := by decide +kernel
theorem d_M_type_135 : decode b_M_type 135 = .ok (.getfield 73, 3) := by decide +kernel
theorem d_M_type_138 : decode b_M_type 138 = .ok (.iload 6, 2) := by decide +kernel
theorem d_M_type_140 : decode b_M_type 140 = .ok (.iastore, 1) := by decide +kernel
theorem d_M_type_141 : decode b_M_type 141 = .ok (.aload_n 0, 1) := by decide +kernel
theorem d_M_type_142 : decode b_M_type 142 = .ok (.dup, 1) := by decide +kernel
theorem d_M_type_143 : decode b_M_type 143 = .ok (.getfield 73, 3) := by decide +kernel
theorem d_M_type_146 : decode b_M_type 146 = .ok (.iconst 1, 1) := by decide +kernel
theorem d_M_type_147 : decode b_M_type 147 = .ok (.iadd, 1) := by decide +kernel
theorem d_M_type_148 : decode b_M_type 148 = .ok (.putfield 73, 3) := by decide +kernel
theorem d_M_type_151 : decode b_M_type 151 = .ok (.iinc 5 (-8), 3) := by decide +kernel
theorem d_M_type_154 : decode b_M_type 154 = .ok (.goto (-45), 3) := by decide +kernel
theorem d_M_type_157 : decode b_M_type 157 = .ok (.iconst 1, 1) := by decide +kernel
theorem d_M_type_158 : decode b_M_type 158 = .ok (.ireturn, 1) := by decide +kernel
theorem d_M_whole_0 : decode b_M_whole 0 = .ok (.aload_n 0, 1) := by decide +kernel
theorem d_M_whole_1 : decode b_M_whole 1 = .ok (.getfield 25, 3) := by decide +kernel
theorem d_M_whole_4 : decode b_M_whole 4 = .ok (.bipush 24, 2) := by decide +kernel
theorem d_M_whole_6 : decode b_M_whole 6 = .ok (.iload_n 1, 1) := by decide +kernel
theorem d_M_whole_7 : decode b_M_whole 7 = .ok (.imul, 1) := by decide +kernel
theorem d_M_whole_8 : decode b_M_whole 8 = .ok (.iload_n 2, 1) := by decide +kernel
theorem d_M_whole_9 : decode b_M_whole 9 = .ok (.iadd, 1) := by decide +kernel
theorem d_M_whole_10 : decode b_M_whole 10 = .ok (.iaload, 1) := by decide +kernel
theorem d_M_whole_11 : decode b_M_whole 11 = .ok (.istore_n 3, 1) := by decide +kernel
theorem d_M_whole_12 : decode b_M_whole 12 = .ok (.aload_n 0, 1) := by decide +kernel
theorem d_M_whole_13 : decode b_M_whole 13 = .ok (.iload_n 1, 1) := by decide +kernel
theorem d_M_whole_14 : decode b_M_whole 14 = .ok (.iload_n 2, 1) := by decide +kernel
theorem d_M_whole_15 : decode b_M_whole 15 = .ok (.iconst 0, 1) := by decide +kernel
theorem d_M_whole_16 : decode b_M_whole 16 = .ok (.invokevirtual 88, 3) := by decide +kernel
theorem d_M_whole_19 : decode b_M_whole 19 = .ok (.istore 4, 2) := by decide +kernel
theorem d_M_whole_21 : decode b_M_whole 21 = .ok (.aload_n 0, 1) := by decide +kernel
theorem d_M_whole_22 : decode b_M_whole 22 = .ok (.iconst 0, 1) := by decide +kernel
theorem d_M_whole_23 : decode b_M_whole 23 = .ok (.putfield 92, 3) := by decide +kernel
theorem d_M_whole_26 : decode b_M_whole 26 = .ok (.iload 4, 2) := by decide +kernel
theorem d_M_whole_28 : decode b_M_whole 28 = .ok (.bipush 117, 2) := by decide +kernel
theorem d_M_whole_30 : decode b_M_whole 30 = .ok (.if_icmp .ne 50, 3) := by decide +kernel
theorem d_M_whole_33 : decode b_M_whole 33 = .ok (.iload_n 3, 1) := by decide +kernel
theorem d_M_whole_34 : decode b_M_whole 34 = .ok (.bipush 61, 2) := by decide +kernel
theorem d_M_whole_36 : decode b_M_whole 36 = .ok (.if_icmp .gt 44, 3) := by decide +kernel
theorem d_M_whole_39 : decode b_M_whole 39 = .ok (.iconst 1, 1) := by decide +kernel
theorem d_M_whole_40 : decode b_M_whole 40 = .ok (.istore 5, 2) := by decide +kernel
theorem d_M_whole_42 : decode b_M_whole 42 = .ok (.iload 5, 2) := by decide +kernel
theorem d_M_whole_44 : decode b_M_whole 44 = .ok (.iload_n 3, 1) := by decide +kernel
theorem d_M_whole_45 : decode b_M_whole 45 = .ok (.if_icmp .ge 26, 3) := by decide +kernel
theorem d_M_whole_48 : decode b_M_whole 48 = .ok (.aload_n 0, 1) := by decide +kernel
theorem d_M_whole_49 : decode b_M_whole 49 = .ok (.getfield 57, 3) := by decide +kernel
theorem d_M_whole_52 : decode b_M_whole 52 = .ok (.iload 5, 2) := by decide +kernel
theorem d_M_whole_54 : decode b_M_whole 54 = .ok (.iconst 1, 1) := by decide +kernel
theorem d_M_whole_55 : decode b_M_whole 55 = .ok (.isub, 1) := by decide +kernel
theorem d_M_whole_56 : decode b_M_whole 56 = .ok (.aload_n 0, 1) := by decide +kernel
theorem d_M_whole_57 : decode b_M_whole 57 = .ok (.iload_n 1, 1) := by decide +kernel
theorem d_M_whole_58 : decode b_M_whole 58 = .ok (.iload_n 2, 1) := by decide +kernel
theorem d_M_whole_59 : decode b_M_whole 59 = .ok (.iload 5, 2) := by decide +kernel
theorem d_M_whole_61 : decode b_M_whole 61 = .ok (.invokevirtual 88, 3) := by decide +kernel
theorem d_M_whole_64 : decode b_M_whole 64 = .ok (.iastore, 1) := by decide +kernel
theorem d_M_whole_65 : decode b_M_whole 65 = .ok (.iinc 5 1, 3) := by decide +kernel
theorem d_M_whole_68 : decode b_M_whole 68 = .ok (.goto (-26), 3) := by decide +kernel
theorem d_M_whole_71 : decode b_M_whole 71 = .ok (.aload_n 0, 1) := by decide +kernel
theorem d_M_whole_72 : decode b_M_whole 72 = .ok (.iload_n 3, 1) := by decide +kernel
theorem d_M_whole_73 : decode b_M_whole 73 = .ok (.iconst 1, 1) := by decide +kernel
theorem d_M_whole_74 : decode b_M_whole 74 = .ok (.isub, 1) := by decide +kernel
theorem d_M_whole_75 : decode b_M_whole 75 = .ok (.putfield 92, 3) := by decide +kernel
theorem d_M_whole_78 : decode b_M_whole 78 = .ok (.iconst 1, 1) := by decide +kernel
theorem d_M_whole_79 : decode b_M_whole 79 = .ok (.ireturn, 1) := by decide +kernel
theorem d_M_whole_80 : decode b_M_whole 80 = .ok (.iload 4, 2) := by decide +kernel
theorem d_M_whole_82 : decode b_M_whole 82 = .ok (.bipush 120, 2) := by decide +kernel
theorem d_M_whole_84 : decode b_M_whole 84 = .ok (.if_icmp .ne 9, 3) := by decide +kernel
theorem d_M_whole_87 : decode b_M_whole 87 = .ok (.iload_n 3, 1) := by decide +kernel
theorem d_M_whole_88 : decode b_M_whole 88 = .ok (.iconst 2, 1) := by decide +kernel
theorem d_M_whole_89 : decode b_M_whole 89 = .ok (.irem, 1) := by decide +kernel
theorem d_M_whole_90 : decode b_M_whole 90 = .ok (.ifCond .ne 5, 3) := by decide +kernel
theorem d_M_whole_93 : decode b_M_whole 93 = .ok (.iconst 0, 1) := by decide +kernel
theorem d_M_whole_94 : decode b_M_whole 94 = .ok (.ireturn, 1) := by decide +kernel
theorem d_M_whole_95 : decode b_M_whole 95 = .ok (.iconst 1, 1) := by decide +kernel
theorem d_M_whole_96 : decode b_M_whole 96 = .ok (.istore 5, 2) := by decide +kernel
theorem d_M_whole_98 : decode b_M_whole 98 = .ok (.iload 5, 2) := by decide +kernel
theorem d_M_whole_100 : decode b_M_whole 100 = .ok (.iload_n 3, 1) := by decide +kernel
theorem d_M_whole_101 : decode b_M_whole 101 = .ok (.if_icmp .ge 83, 3) := by decide +kernel
theorem d_M_whole_104 : decode b_M_whole 104 = .ok (.aload_n 0, 1) := by decide +kernel
theorem d_M_whole_105 : decode b_M_whole 105 = .ok (.iload_n 1, 1) := by decide +kernel
theorem d_M_whole_106 : decode b_M_whole 106 = .ok (.iload_n 2, 1) := by decide +kernel
theorem d_M_whole_107 : decode b_M_whole 107 = .ok (.iload 5, 2) := by decide +kernel
theorem d_M_whole_109 : decode b_M_whole 109 = .ok (.invokevirtual 88, 3) := by decide +kernel
theorem d_M_whole_112 : decode b_M_whole 112 = .ok (.istore 6, 2) := by decide +kernel
theorem d_M_whole_114 : decode b_M_whole 114 = .ok (.iload 6, 2) := by decide +kernel
theorem d_M_whole_116 : decode b_M_whole 116 = .ok (.ifCond .eq 15, 3) := by decide +kernel
theorem d_M_whole_119 : decode b_M_whole 119 = .ok (.aload_n 0, 1) := by decide +kernel
theorem d_M_whole_120 : decode b_M_whole 120 = .ok (.getfield 92, 3) := by decide +kernel
theorem d_M_whole_123 : decode b_M_whole 123 = .ok (.iload 6, 2) := by decide +kernel
theorem d_M_whole_125 : decode b_M_whole 125 = .ok (.iadd, 1) := by decide +kernel
theorem d_M_whole_126 : decode b_M_whole 126 = .ok (.bipush 60, 2) := by decide +kernel
theorem d_M_whole_128 : decode b_M_whole 128 = .ok (.if_icmp .le 5, 3) := by decide +kernel
theorem d_M_whole_131 : decode b_M_whole 131 = .ok (.iconst 0, 1) := by decide +kernel
theorem d_M_whole_132 : decode b_M_whole 132 = .ok (.ireturn, 1) := by decide +kernel
theorem d_M_whole_133 : decode b_M_whole 133 = .ok (.iconst 0, 1) := by decide +kernel
theorem d_M_whole_134 : decode b_M_whole 134 = .ok (.istore 7, 2) := by decide +kernel
theorem d_M_whole_136 : decode b_M_whole 136 = .ok (.iload 7, 2) := by decide +kernel
theorem d_M_whole_138 : decode b_M_whole 138 = .ok (.iload 6, 2) := by decide +kernel
theorem d_M_whole_140 : decode b_M_whole 140 = .ok (.if_icmp .ge 38, 3) := by decide +kernel
theorem d_M_whole_143 : decode b_M_whole 143 = .ok (.aload_n 0, 1) := by decide +kernel
theorem d_M_whole_144 : decode b_M_whole 144 = .ok (.getfield 57, 3) := by decide +kernel
theorem d_M_whole_147 : decode b_M_whole 147 = .ok (.aload_n 0, 1) := by decide +kernel
theorem d_M_whole_148 : decode b_M_whole 148 = .ok (.getfield 92, 3) := by decide +kernel
theorem d_M_whole_151 : decode b_M_whole 151 = .ok (.aload_n 0, 1) := by decide +kernel
theorem d_M_whole_152 : decode b_M_whole 152 = .ok (.iload_n 1, 1) := by decide +kernel
theorem d_M_whole_153 : decode b_M_whole 153 = .ok (.iload_n 2, 1) := by decide +kernel
theorem d_M_whole_154 : decode b_M_whole 154 = .ok (.iload 5, 2) := by decide +kernel
theorem d_M_whole_156 : decode b_M_whole 156 = .ok (.iconst 1, 1) := by decide +kernel
theorem d_M_whole_157 : decode b_M_whole 157 = .ok (.iadd, 1) := by decide +kernel
theorem d_M_whole_158 : decode b_M_whole 158 = .ok (.invokevirtual 88, 3) := by decide +kernel
theorem d_M_whole_161 : decode b_M_whole 161 = .ok (.iastore, 1) := by decide +kernel
theorem d_M_whole_162 : decode b_M_whole 162 = .ok (.aload_n 0, 1) := by decide +kernel
theorem d_M_whole_163 : decode b_M_whole 163 = .ok (.dup, 1) := by decide +kernel
theorem d_M_whole_164 : decode b_M_whole 164 = .ok (.getfield 92, 3) := by decide +kernel
theorem d_M_whole_167 : decode b_M_whole 167 = .ok (.iconst 1, 1) := by decide +kernel
theorem d_M_whole_168 : decode b_M_whole 168 = .ok (.iadd, 1) := by decide +kernel
theorem d_M_whole_169 : decode b_M_whole 169 = .ok (.putfield 92, 3) := by decide +kernel
theorem d_M_whole_172 : decode b_M_whole 172 = .ok (.iinc 7 1, 3) := by decide +kernel
theorem d_M_whole_175 : decode b_M_whole 175 = .ok (.goto (-39), 3) := by decide +kernel
theorem d_M_whole_178 : decode b_M_whole 178 = .ok (.iinc 5 2, 3) := by decide +kernel
theorem d_M_whole_181 : decode b_M_whole 181 = .ok (.goto (-83), 3) := by decide +kernel
theorem d_M_whole_184 : decode b_M_whole 184 = .ok (.iconst 1, 1) := by decide +kernel
theorem d_M_whole_185 : decode b_M_whole 185 = .ok (.ireturn, 1) := by decide +kernel
theorem d_M_wipe_0 : decode b_M_wipe 0 = .ok (.aload_n 0, 1) := by decide +kernel
theorem d_M_wipe_1 : decode b_M_wipe 1 = .ok (.iconst 0, 1) := by decide +kernel
theorem d_M_wipe_2 : decode b_M_wipe 2 = .ok (.putfield 69, 3) := by decide +kernel
theorem d_M_wipe_5 : decode b_M_wipe 5 = .ok (.aload_n 0, 1) := by decide +kernel
theorem d_M_wipe_6 : decode b_M_wipe 6 = .ok (.iconst 0, 1) := by decide +kernel
theorem d_M_wipe_7 : decode b_M_wipe 7 = .ok (.putfield 73, 3) := by decide +kernel
theorem d_M_wipe_10 : decode b_M_wipe 10 = .ok (.return_, 1) := by decide +kernel
theorem d_M_write_0 : decode b_M_write 0 = .ok (.aload_n 0, 1) := by decide +kernel
theorem d_M_write_1 : decode b_M_write 1 = .ok (.getfield 54, 3) := by decide +kernel
theorem d_M_write_4 : decode b_M_write 4 = .ok (.iload_n 1, 1) := by decide +kernel
theorem d_M_write_5 : decode b_M_write 5 = .ok (.iaload, 1) := by decide +kernel
theorem d_M_write_6 : decode b_M_write 6 = .ok (.ifCond .ne 5, 3) := by decide +kernel
theorem d_M_write_9 : decode b_M_write 9 = .ok (.iconst 1, 1) := by decide +kernel
theorem d_M_write_10 : decode b_M_write 10 = .ok (.ireturn, 1) := by decide +kernel
theorem d_M_write_11 : decode b_M_write 11 = .ok (.aload_n 0, 1) := by decide +kernel
theorem d_M_write_12 : decode b_M_write 12 = .ok (.getfield 54, 3) := by decide +kernel
theorem d_M_write_15 : decode b_M_write 15 = .ok (.iload_n 1, 1) := by decide +kernel
theorem d_M_write_16 : decode b_M_write 16 = .ok (.dup2, 1) := by decide +kernel
theorem d_M_write_17 : decode b_M_write 17 = .ok (.iaload, 1) := by decide +kernel
theorem d_M_write_18 : decode b_M_write 18 = .ok (.iconst 1, 1) := by decide +kernel
theorem d_M_write_19 : decode b_M_write 19 = .ok (.isub, 1) := by decide +kernel
theorem d_M_write_20 : decode b_M_write 20 = .ok (.iastore, 1) := by decide +kernel
theorem d_M_write_21 : decode b_M_write 21 = .ok (.aload_n 0, 1) := by decide +kernel
theorem d_M_write_22 : decode b_M_write 22 = .ok (.getfield 50, 3) := by decide +kernel
theorem d_M_write_25 : decode b_M_write 25 = .ok (.iload_n 1, 1) := by decide +kernel
theorem d_M_write_26 : decode b_M_write 26 = .ok (.aload_n 0, 1) := by decide +kernel
theorem d_M_write_27 : decode b_M_write 27 = .ok (.getfield 54, 3) := by decide +kernel
theorem d_M_write_30 : decode b_M_write 30 = .ok (.iload_n 1, 1) := by decide +kernel
theorem d_M_write_31 : decode b_M_write 31 = .ok (.iaload, 1) := by decide +kernel
theorem d_M_write_32 : decode b_M_write 32 = .ok (.ifCond .ne 7, 3) := by decide +kernel
theorem d_M_write_35 : decode b_M_write 35 = .ok (.iconst 1, 1) := by decide +kernel
theorem d_M_write_36 : decode b_M_write 36 = .ok (.goto 4, 3) := by decide +kernel
theorem d_M_write_39 : decode b_M_write 39 = .ok (.iconst 0, 1) := by decide +kernel
theorem d_M_write_40 : decode b_M_write 40 = .ok (.bastore, 1) := by decide +kernel
theorem d_M_write_41 : decode b_M_write 41 = .ok (.aload_n 0, 1) := by decide +kernel
theorem d_M_write_42 : decode b_M_write 42 = .ok (.getfield 50, 3) := by decide +kernel
theorem d_M_write_45 : decode b_M_write 45 = .ok (.iload_n 1, 1) := by decide +kernel
theorem d_M_write_46 : decode b_M_write 46 = .ok (.baload, 1) := by decide +kernel
theorem d_M_write_47 : decode b_M_write 47 = .ok (.ifCond .ne 7, 3) := by decide +kernel
theorem d_M_write_50 : decode b_M_write 50 = .ok (.iconst 1, 1) := by decide +kernel
theorem d_M_write_51 : decode b_M_write 51 = .ok (.goto 4, 3) := by decide +kernel
theorem d_M_write_54 : decode b_M_write 54 = .ok (.iconst 0, 1) := by decide +kernel
theorem d_M_write_55 : decode b_M_write 55 = .ok (.ireturn, 1) := by decide +kernel
theorem d_M_wrong_0 : decode b_M_wrong 0 = .ok (.aload_n 0, 1) := by decide +kernel
theorem d_M_wrong_1 : decode b_M_wrong 1 = .ok (.iload_n 1, 1) := by decide +kernel
theorem d_M_wrong_2 : decode b_M_wrong 2 = .ok (.invokevirtual 184, 3) := by decide +kernel
theorem d_M_wrong_5 : decode b_M_wrong 5 = .ok (.istore_n 2, 1) := by decide +kernel
theorem d_M_wrong_6 : decode b_M_wrong 6 = .ok (.iconst 0, 1) := by decide +kernel
theorem d_M_wrong_7 : decode b_M_wrong 7 = .ok (.istore_n 3, 1) := by decide +kernel
theorem d_M_wrong_8 : decode b_M_wrong 8 = .ok (.iconst 0, 1) := by decide +kernel
theorem d_M_wrong_9 : decode b_M_wrong 9 = .ok (.istore 4, 2) := by decide +kernel
theorem d_M_wrong_11 : decode b_M_wrong 11 = .ok (.iload_n 2, 1) := by decide +kernel
theorem d_M_wrong_12 : decode b_M_wrong 12 = .ok (.ifCond .ne 38, 3) := by decide +kernel
theorem d_M_wrong_15 : decode b_M_wrong 15 = .ok (.iload 4, 2) := by decide +kernel
theorem d_M_wrong_17 : decode b_M_wrong 17 = .ok (.aload_n 0, 1) := by decide +kernel
theorem d_M_wrong_18 : decode b_M_wrong 18 = .ok (.getfield 19, 3) := by decide +kernel
theorem d_M_wrong_21 : decode b_M_wrong 21 = .ok (.iload_n 1, 1) := by decide +kernel
theorem d_M_wrong_22 : decode b_M_wrong 22 = .ok (.iaload, 1) := by decide +kernel
theorem d_M_wrong_23 : decode b_M_wrong 23 = .ok (.if_icmp .ge 27, 3) := by decide +kernel
theorem d_M_wrong_26 : decode b_M_wrong 26 = .ok (.aload_n 0, 1) := by decide +kernel
theorem d_M_wrong_27 : decode b_M_wrong 27 = .ok (.iload_n 1, 1) := by decide +kernel
theorem d_M_wrong_28 : decode b_M_wrong 28 = .ok (.iload 4, 2) := by decide +kernel
theorem d_M_wrong_30 : decode b_M_wrong 30 = .ok (.invokevirtual 124, 3) := by decide +kernel
theorem d_M_wrong_33 : decode b_M_wrong 33 = .ok (.ifCond .eq 7, 3) := by decide +kernel
theorem d_M_wrong_36 : decode b_M_wrong 36 = .ok (.iload_n 3, 1) := by decide +kernel
theorem d_M_wrong_37 : decode b_M_wrong 37 = .ok (.goto 6, 3) := by decide +kernel
theorem d_M_wrong_40 : decode b_M_wrong 40 = .ok (.iload_n 3, 1) := by decide +kernel
theorem d_M_wrong_41 : decode b_M_wrong 41 = .ok (.iconst 1, 1) := by decide +kernel
theorem d_M_wrong_42 : decode b_M_wrong 42 = .ok (.iadd, 1) := by decide +kernel
theorem d_M_wrong_43 : decode b_M_wrong 43 = .ok (.istore_n 3, 1) := by decide +kernel
theorem d_M_wrong_44 : decode b_M_wrong 44 = .ok (.iinc 4 1, 3) := by decide +kernel
theorem d_M_wrong_47 : decode b_M_wrong 47 = .ok (.goto (-36), 3) := by decide +kernel
theorem d_M_wrong_50 : decode b_M_wrong 50 = .ok (.iload_n 2, 1) := by decide +kernel
theorem d_M_wrong_51 : decode b_M_wrong 51 = .ok (.ifCond .ge 7, 3) := by decide +kernel
theorem d_M_wrong_54 : decode b_M_wrong 54 = .ok (.iload_n 2, 1) := by decide +kernel
theorem d_M_wrong_55 : decode b_M_wrong 55 = .ok (.goto 4, 3) := by decide +kernel
theorem d_M_wrong_58 : decode b_M_wrong 58 = .ok (.iload_n 3, 1) := by decide +kernel
theorem d_M_wrong_59 : decode b_M_wrong 59 = .ok (.ireturn, 1) := by decide +kernel
