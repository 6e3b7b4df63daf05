theorem dL_below_2 : decode cL_below 2 = .ok (.iload_n 3, 1) := by decide +kernel
theorem dL_below_3 : decode cL_below 3 = .ok (.iload_n 2, 1) := by decide +kernel
theorem dL_below_4 : decode cL_below 4 = .ok (.if_icmp .le 13, 3) := by decide +kernel
theorem dL_below_7 : decode cL_below 7 = .ok (.aload_n 0, 1) := by decide +kernel
theorem dL_below_8 : decode cL_below 8 = .ok (.bipush 8, 2) := by decide +kernel
theorem dL_below_10 : decode cL_below 10 = .ok (.iload_n 3, 1) := by decide +kernel
theorem dL_below_11 : decode cL_below 11 = .ok (.imul, 1) := by decide +kernel
theorem dL_below_12 : decode cL_below 12 = .ok (.iaload, 1) := by decide +kernel
theorem dL_below_13 : decode cL_below 13 = .ok (.istore_n 3, 1) := by decide +kernel
theorem dL_below_14 : decode cL_below 14 = .ok (.goto (-12), 3) := by decide +kernel
theorem dL_below_17 : decode cL_below 17 = .ok (.iload_n 3, 1) := by decide +kernel
theorem dL_below_18 : decode cL_below 18 = .ok (.iload_n 2, 1) := by decide +kernel
theorem dL_below_19 : decode cL_below 19 = .ok (.if_icmp .ne 7, 3) := by decide +kernel
theorem dL_below_22 : decode cL_below 22 = .ok (.iconst 1, 1) := by decide +kernel
theorem dL_below_23 : decode cL_below 23 = .ok (.goto 4, 3) := by decide +kernel
theorem dL_below_26 : decode cL_below 26 = .ok (.iconst 0, 1) := by decide +kernel
theorem dL_below_27 : decode cL_below 27 = .ok (.ireturn, 1) := by decide +kernel
theorem dL_works_0 : decode cL_works 0 = .ok (.iconst 0, 1) := by decide +kernel
theorem dL_works_1 : decode cL_works 1 = .ok (.istore 4, 2) := by decide +kernel
theorem dL_works_3 : decode cL_works 3 = .ok (.iload 4, 2) := by decide +kernel
theorem dL_works_5 : decode cL_works 5 = .ok (.aload_n 0, 1) := by decide +kernel
theorem dL_works_6 : decode cL_works 6 = .ok (.iconst 5, 1) := by decide +kernel
theorem dL_works_7 : decode cL_works 7 = .ok (.iaload, 1) := by decide +kernel
theorem dL_works_8 : decode cL_works 8 = .ok (.if_icmp .ge 72, 3) := by decide +kernel
theorem dL_works_11 : decode cL_works 11 = .ok (.aload_n 3, 1) := by decide +kernel
theorem dL_works_12 : decode cL_works 12 = .ok (.iload 4, 2) := by decide +kernel
theorem dL_works_14 : decode cL_works 14 = .ok (.iconst 0, 1) := by decide +kernel
theorem dL_works_15 : decode cL_works 15 = .ok (.iastore, 1) := by decide +kernel
theorem dL_works_16 : decode cL_works 16 = .ok (.iconst 1, 1) := by decide +kernel
theorem dL_works_17 : decode cL_works 17 = .ok (.istore 5, 2) := by decide +kernel
theorem dL_works_19 : decode cL_works 19 = .ok (.iload 5, 2) := by decide +kernel
theorem dL_works_21 : decode cL_works 21 = .ok (.aload_n 0, 1) := by decide +kernel
theorem dL_works_22 : decode cL_works 22 = .ok (.iconst 5, 1) := by decide +kernel
theorem dL_works_23 : decode cL_works 23 = .ok (.iaload, 1) := by decide +kernel
theorem dL_works_24 : decode cL_works 24 = .ok (.if_icmp .ge 50, 3) := by decide +kernel
theorem dL_works_27 : decode cL_works 27 = .ok (.aload_n 3, 1) := by decide +kernel
theorem dL_works_28 : decode cL_works 28 = .ok (.iload 4, 2) := by decide +kernel
theorem dL_works_30 : decode cL_works 30 = .ok (.dup2, 1) := by decide +kernel
theorem dL_works_31 : decode cL_works 31 = .ok (.iaload, 1) := by decide +kernel
theorem dL_works_32 : decode cL_works 32 = .ok (.aload_n 1, 1) := by decide +kernel
theorem dL_works_33 : decode cL_works 33 = .ok (.iload 5, 2) := by decide +kernel
theorem dL_works_35 : decode cL_works 35 = .ok (.iload 4, 2) := by decide +kernel
theorem dL_works_37 : decode cL_works 37 = .ok (.invokestatic 9, 3) := by decide +kernel
theorem dL_works_40 : decode cL_works 40 = .ok (.ifCond .eq 25, 3) := by decide +kernel
theorem dL_works_43 : decode cL_works 43 = .ok (.aload_n 1, 1) := by decide +kernel
theorem dL_works_44 : decode cL_works 44 = .ok (.bipush 8, 2) := by decide +kernel
theorem dL_works_46 : decode cL_works 46 = .ok (.iload 5, 2) := by decide +kernel
theorem dL_works_48 : decode cL_works 48 = .ok (.imul, 1) := by decide +kernel
theorem dL_works_49 : decode cL_works 49 = .ok (.iconst 3, 1) := by decide +kernel
theorem dL_works_50 : decode cL_works 50 = .ok (.iadd, 1) := by decide +kernel
theorem dL_works_51 : decode cL_works 51 = .ok (.iaload, 1) := by decide +kernel
theorem dL_works_52 : decode cL_works 52 = .ok (.aload_n 1, 1) := by decide +kernel
theorem dL_works_53 : decode cL_works 53 = .ok (.bipush 8, 2) := by decide +kernel
theorem dL_works_55 : decode cL_works 55 = .ok (.iload 5, 2) := by decide +kernel
theorem dL_works_57 : decode cL_works 57 = .ok (.imul, 1) := by decide +kernel
theorem dL_works_58 : decode cL_works 58 = .ok (.iconst 5, 1) := by decide +kernel
theorem dL_works_59 : decode cL_works 59 = .ok (.iadd, 1) := by decide +kernel
theorem dL_works_60 : decode cL_works 60 = .ok (.iaload, 1) := by decide +kernel
theorem dL_works_61 : decode cL_works 61 = .ok (.iadd, 1) := by decide +kernel
theorem dL_works_62 : decode cL_works 62 = .ok (.goto 4, 3) := by decide +kernel
theorem dL_works_65 : decode cL_works 65 = .ok (.iconst 0, 1) := by decide +kernel
theorem dL_works_66 : decode cL_works 66 = .ok (.iadd, 1) := by decide +kernel
theorem dL_works_67 : decode cL_works 67 = .ok (.iastore, 1) := by decide +kernel
theorem dL_works_68 : decode cL_works 68 = .ok (.iinc 5 1, 3) := by decide +kernel
theorem dL_works_71 : decode cL_works 71 = .ok (.goto (-52), 3) := by decide +kernel
theorem dL_works_74 : decode cL_works 74 = .ok (.iinc 4 1, 3) := by decide +kernel
theorem dL_works_77 : decode cL_works 77 = .ok (.goto (-74), 3) := by decide +kernel
theorem dL_works_80 : decode cL_works 80 = .ok (.aload_n 3, 1) := by decide +kernel
theorem dL_works_81 : decode cL_works 81 = .ok (.bipush 8, 2) := by decide +kernel
theorem dL_works_83 : decode cL_works 83 = .ok (.aload_n 0, 1) := by decide +kernel
theorem dL_works_84 : decode cL_works 84 = .ok (.iconst 0, 1) := by decide +kernel
theorem dL_works_85 : decode cL_works 85 = .ok (.iaload, 1) := by decide +kernel
theorem dL_works_86 : decode cL_works 86 = .ok (.iastore, 1) := by decide +kernel
theorem dL_works_87 : decode cL_works 87 = .ok (.iconst 1, 1) := by decide +kernel
theorem dL_works_88 : decode cL_works 88 = .ok (.istore 4, 2) := by decide +kernel
theorem dL_works_90 : decode cL_works 90 = .ok (.iload 4, 2) := by decide +kernel
theorem dL_works_92 : decode cL_works 92 = .ok (.aload_n 0, 1) := by decide +kernel
theorem dL_works_93 : decode cL_works 93 = .ok (.iconst 5, 1) := by decide +kernel
theorem dL_works_94 : decode cL_works 94 = .ok (.iaload, 1) := by decide +kernel
theorem dL_works_95 : decode cL_works 95 = .ok (.if_icmp .ge 178, 3) := by decide +kernel
theorem dL_works_98 : decode cL_works 98 = .ok (.aload_n 3, 1) := by decide +kernel
theorem dL_works_99 : decode cL_works 99 = .ok (.bipush 8, 2) := by decide +kernel
theorem dL_works_101 : decode cL_works 101 = .ok (.aload_n 1, 1) := by decide +kernel
theorem dL_works_102 : decode cL_works 102 = .ok (.bipush 8, 2) := by decide +kernel
theorem dL_works_104 : decode cL_works 104 = .ok (.iload 4, 2) := by decide +kernel
theorem dL_works_106 : decode cL_works 106 = .ok (.imul, 1) := by decide +kernel
theorem dL_works_107 : decode cL_works 107 = .ok (.iaload, 1) := by decide +kernel
theorem dL_works_108 : decode cL_works 108 = .ok (.iadd, 1) := by decide +kernel
theorem dL_works_109 : decode cL_works 109 = .ok (.iaload, 1) := by decide +kernel
theorem dL_works_110 : decode cL_works 110 = .ok (.istore 5, 2) := by decide +kernel
theorem dL_works_112 : decode cL_works 112 = .ok (.iload 5, 2) := by decide +kernel
theorem dL_works_114 : decode cL_works 114 = .ok (.aload_n 0, 1) := by decide +kernel
theorem dL_works_115 : decode cL_works 115 = .ok (.iconst 1, 1) := by decide +kernel
theorem dL_works_116 : decode cL_works 116 = .ok (.iaload, 1) := by decide +kernel
theorem dL_works_117 : decode cL_works 117 = .ok (.isub, 1) := by decide +kernel
theorem dL_works_118 : decode cL_works 118 = .ok (.istore 6, 2) := by decide +kernel
theorem dL_works_120 : decode cL_works 120 = .ok (.aload_n 3, 1) := by decide +kernel
theorem dL_works_121 : decode cL_works 121 = .ok (.iload 4, 2) := by decide +kernel
theorem dL_works_123 : decode cL_works 123 = .ok (.iaload, 1) := by decide +kernel
theorem dL_works_124 : decode cL_works 124 = .ok (.ifCond .ne 7, 3) := by decide +kernel
theorem dL_works_127 : decode cL_works 127 = .ok (.iconst 0, 1) := by decide +kernel
theorem dL_works_128 : decode cL_works 128 = .ok (.goto 34, 3) := by decide +kernel
theorem dL_works_131 : decode cL_works 131 = .ok (.iload 6, 2) := by decide +kernel
theorem dL_works_133 : decode cL_works 133 = .ok (.aload_n 1, 1) := by decide +kernel
theorem dL_works_134 : decode cL_works 134 = .ok (.bipush 8, 2) := by decide +kernel
theorem dL_works_136 : decode cL_works 136 = .ok (.iload 4, 2) := by decide +kernel
theorem dL_works_138 : decode cL_works 138 = .ok (.imul, 1) := by decide +kernel
theorem dL_works_139 : decode cL_works 139 = .ok (.iconst 2, 1) := by decide +kernel
theorem dL_works_140 : decode cL_works 140 = .ok (.iadd, 1) := by decide +kernel
theorem dL_works_141 : decode cL_works 141 = .ok (.iaload, 1) := by decide +kernel
theorem dL_works_142 : decode cL_works 142 = .ok (.imul, 1) := by decide +kernel
theorem dL_works_143 : decode cL_works 143 = .ok (.aload_n 1, 1) := by decide +kernel
theorem dL_works_144 : decode cL_works 144 = .ok (.bipush 8, 2) := by decide +kernel
theorem dL_works_146 : decode cL_works 146 = .ok (.iload 4, 2) := by decide +kernel
theorem dL_works_148 : decode cL_works 148 = .ok (.imul, 1) := by decide +kernel
theorem dL_works_149 : decode cL_works 149 = .ok (.iconst 1, 1) := by decide +kernel
theorem dL_works_150 : decode cL_works 150 = .ok (.iadd, 1) := by decide +kernel
theorem dL_works_151 : decode cL_works 151 = .ok (.iaload, 1) := by decide +kernel
theorem dL_works_152 : decode cL_works 152 = .ok (.imul, 1) := by decide +kernel
theorem dL_works_153 : decode cL_works 153 = .ok (.sipush 1000, 3) := by decide +kernel
theorem dL_works_156 : decode cL_works 156 = .ok (.aload_n 3, 1) := by decide +kernel
theorem dL_works_157 : decode cL_works 157 = .ok (.iload 4, 2) := by decide +kernel
theorem dL_works_159 : decode cL_works 159 = .ok (.iaload, 1) := by decide +kernel
theorem dL_works_160 : decode cL_works 160 = .ok (.imul, 1) := by decide +kernel
theorem dL_works_161 : decode cL_works 161 = .ok (.idiv, 1) := by decide +kernel
theorem dL_works_162 : decode cL_works 162 = .ok (.istore 7, 2) := by decide +kernel
theorem dL_works_164 : decode cL_works 164 = .ok (.aload_n 3, 1) := by decide +kernel
theorem dL_works_165 : decode cL_works 165 = .ok (.bipush 8, 2) := by decide +kernel
theorem dL_works_167 : decode cL_works 167 = .ok (.iload 4, 2) := by decide +kernel
theorem dL_works_169 : decode cL_works 169 = .ok (.iadd, 1) := by decide +kernel
theorem dL_works_170 : decode cL_works 170 = .ok (.aload_n 3, 1) := by decide +kernel
theorem dL_works_171 : decode cL_works 171 = .ok (.iload 4, 2) := by decide +kernel
theorem dL_works_173 : decode cL_works 173 = .ok (.iaload, 1) := by decide +kernel
theorem dL_works_174 : decode cL_works 174 = .ok (.ifCond .ne 19, 3) := by decide +kernel
theorem dL_works_177 : decode cL_works 177 = .ok (.iload 6, 2) := by decide +kernel
theorem dL_works_179 : decode cL_works 179 = .ok (.ifCond .le 9, 3) := by decide +kernel
theorem dL_works_182 : decode cL_works 182 = .ok (.aload_n 0, 1) := by decide +kernel
theorem dL_works_183 : decode cL_works 183 = .ok (.iconst 1, 1) := by decide +kernel
theorem dL_works_184 : decode cL_works 184 = .ok (.iaload, 1) := by decide +kernel
theorem dL_works_185 : decode cL_works 185 = .ok (.goto 36, 3) := by decide +kernel
theorem dL_works_188 : decode cL_works 188 = .ok (.iload 5, 2) := by decide +kernel
theorem dL_works_190 : decode cL_works 190 = .ok (.goto 31, 3) := by decide +kernel
theorem dL_works_193 : decode cL_works 193 = .ok (.iload 6, 2) := by decide +kernel
theorem dL_works_195 : decode cL_works 195 = .ok (.ifCond .gt 8, 3) := by decide +kernel
theorem dL_works_198 : decode cL_works 198 = .ok (.iload 5, 2) := by decide +kernel
theorem dL_works_200 : decode cL_works 200 = .ok (.goto 21, 3) := by decide +kernel
theorem dL_works_203 : decode cL_works 203 = .ok (.iload 7, 2) := by decide +kernel
theorem dL_works_205 : decode cL_works 205 = .ok (.iload 6, 2) := by decide +kernel
theorem dL_works_207 : decode cL_works 207 = .ok (.if_icmp .le 9, 3) := by decide +kernel
theorem dL_works_210 : decode cL_works 210 = .ok (.aload_n 0, 1) := by decide +kernel
theorem dL_works_211 : decode cL_works 211 = .ok (.iconst 1, 1) := by decide +kernel
theorem dL_works_212 : decode cL_works 212 = .ok (.iaload, 1) := by decide +kernel
theorem dL_works_213 : decode cL_works 213 = .ok (.goto 8, 3) := by decide +kernel
theorem dL_works_216 : decode cL_works 216 = .ok (.iload 5, 2) := by decide +kernel
theorem dL_works_218 : decode cL_works 218 = .ok (.iload 7, 2) := by decide +kernel
theorem dL_works_220 : decode cL_works 220 = .ok (.isub, 1) := by decide +kernel
theorem dL_works_221 : decode cL_works 221 = .ok (.iastore, 1) := by decide +kernel
theorem dL_works_222 : decode cL_works 222 = .ok (.aload_n 3, 1) := by decide +kernel
theorem dL_works_223 : decode cL_works 223 = .ok (.bipush 16, 2) := by decide +kernel
theorem dL_works_225 : decode cL_works 225 = .ok (.iload 4, 2) := by decide +kernel
theorem dL_works_227 : decode cL_works 227 = .ok (.iadd, 1) := by decide +kernel
theorem dL_works_228 : decode cL_works 228 = .ok (.aload_n 3, 1) := by decide +kernel
theorem dL_works_229 : decode cL_works 229 = .ok (.bipush 8, 2) := by decide +kernel
theorem dL_works_231 : decode cL_works 231 = .ok (.iload 4, 2) := by decide +kernel
theorem dL_works_233 : decode cL_works 233 = .ok (.iadd, 1) := by decide +kernel
theorem dL_works_234 : decode cL_works 234 = .ok (.iaload, 1) := by decide +kernel
theorem dL_works_235 : decode cL_works 235 = .ok (.aload_n 1, 1) := by decide +kernel
theorem dL_works_236 : decode cL_works 236 = .ok (.bipush 8, 2) := by decide +kernel
theorem dL_works_238 : decode cL_works 238 = .ok (.iload 4, 2) := by decide +kernel
theorem dL_works_240 : decode cL_works 240 = .ok (.imul, 1) := by decide +kernel
theorem dL_works_241 : decode cL_works 241 = .ok (.iconst 4, 1) := by decide +kernel
theorem dL_works_242 : decode cL_works 242 = .ok (.iadd, 1) := by decide +kernel
theorem dL_works_243 : decode cL_works 243 = .ok (.iaload, 1) := by decide +kernel
theorem dL_works_244 : decode cL_works 244 = .ok (.if_icmp .ge 13, 3) := by decide +kernel
theorem dL_works_247 : decode cL_works 247 = .ok (.aload_n 3, 1) := by decide +kernel
theorem dL_works_248 : decode cL_works 248 = .ok (.bipush 8, 2) := by decide +kernel
theorem dL_works_250 : decode cL_works 250 = .ok (.iload 4, 2) := by decide +kernel
theorem dL_works_252 : decode cL_works 252 = .ok (.iadd, 1) := by decide +kernel
theorem dL_works_253 : decode cL_works 253 = .ok (.iaload, 1) := by decide +kernel
theorem dL_works_254 : decode cL_works 254 = .ok (.goto 12, 3) := by decide +kernel
theorem dL_works_257 : decode cL_works 257 = .ok (.aload_n 1, 1) := by decide +kernel
theorem dL_works_258 : decode cL_works 258 = .ok (.bipush 8, 2) := by decide +kernel
theorem dL_works_260 : decode cL_works 260 = .ok (.iload 4, 2) := by decide +kernel
theorem dL_works_262 : decode cL_works 262 = .ok (.imul, 1) := by decide +kernel
theorem dL_works_263 : decode cL_works 263 = .ok (.iconst 4, 1) := by decide +kernel
theorem dL_works_264 : decode cL_works 264 = .ok (.iadd, 1) := by decide +kernel
theorem dL_works_265 : decode cL_works 265 = .ok (.iaload, 1) := by decide +kernel
theorem dL_works_266 : decode cL_works 266 = .ok (.iastore, 1) := by decide +kernel
theorem dL_works_267 : decode cL_works 267 = .ok (.iinc 4 1, 3) := by decide +kernel
theorem dL_works_270 : decode cL_works 270 = .ok (.goto (-180), 3) := by decide +kernel
theorem dL_works_273 : decode cL_works 273 = .ok (.iconst 0, 1) := by decide +kernel
theorem dL_works_274 : decode cL_works 274 = .ok (.istore 4, 2) := by decide +kernel
theorem dL_works_276 : decode cL_works 276 = .ok (.iload 4, 2) := by decide +kernel
theorem dL_works_278 : decode cL_works 278 = .ok (.aload_n 0, 1) := by decide +kernel
theorem dL_works_279 : decode cL_works 279 = .ok (.iconst 5, 1) := by decide +kernel
theorem dL_works_280 : decode cL_works 280 = .ok (.iaload, 1) := by decide +kernel
theorem dL_works_281 : decode cL_works 281 = .ok (.if_icmp .ge 76, 3) := by decide +kernel
theorem dL_works_284 : decode cL_works 284 = .ok (.aload_n 3, 1) := by decide +kernel
theorem dL_works_285 : decode cL_works 285 = .ok (.bipush 24, 2) := by decide +kernel
theorem dL_works_287 : decode cL_works 287 = .ok (.iload 4, 2) := by decide +kernel
theorem dL_works_289 : decode cL_works 289 = .ok (.iadd, 1) := by decide +kernel
theorem dL_works_290 : decode cL_works 290 = .ok (.iconst 0, 1) := by decide +kernel
theorem dL_works_291 : decode cL_works 291 = .ok (.iastore, 1) := by decide +kernel
theorem dL_works_292 : decode cL_works 292 = .ok (.iconst 1, 1) := by decide +kernel
theorem dL_works_293 : decode cL_works 293 = .ok (.istore 5, 2) := by decide +kernel
theorem dL_works_295 : decode cL_works 295 = .ok (.iload 5, 2) := by decide +kernel
theorem dL_works_297 : decode cL_works 297 = .ok (.aload_n 0, 1) := by decide +kernel
theorem dL_works_298 : decode cL_works 298 = .ok (.iconst 5, 1) := by decide +kernel
theorem dL_works_299 : decode cL_works 299 = .ok (.iaload, 1) := by decide +kernel
theorem dL_works_300 : decode cL_works 300 = .ok (.if_icmp .ge 51, 3) := by decide +kernel
theorem dL_works_303 : decode cL_works 303 = .ok (.aload_n 3, 1) := by decide +kernel
theorem dL_works_304 : decode cL_works 304 = .ok (.bipush 24, 2) := by decide +kernel
theorem dL_works_306 : decode cL_works 306 = .ok (.iload 4, 2) := by decide +kernel
theorem dL_works_308 : decode cL_works 308 = .ok (.iadd, 1) := by decide +kernel
theorem dL_works_309 : decode cL_works 309 = .ok (.dup2, 1) := by decide +kernel
theorem dL_works_310 : decode cL_works 310 = .ok (.iaload, 1) := by decide +kernel
theorem dL_works_311 : decode cL_works 311 = .ok (.aload_n 1, 1) := by decide +kernel
theorem dL_works_312 : decode cL_works 312 = .ok (.iload 5, 2) := by decide +kernel
theorem dL_works_314 : decode cL_works 314 = .ok (.iload 4, 2) := by decide +kernel
theorem dL_works_316 : decode cL_works 316 = .ok (.invokestatic 9, 3) := by decide +kernel
theorem dL_works_319 : decode cL_works 319 = .ok (.ifCond .eq 23, 3) := by decide +kernel
theorem dL_works_322 : decode cL_works 322 = .ok (.aload_n 1, 1) := by decide +kernel
theorem dL_works_323 : decode cL_works 323 = .ok (.bipush 8, 2) := by decide +kernel
theorem dL_works_325 : decode cL_works 325 = .ok (.iload 5, 2) := by decide +kernel
theorem dL_works_327 : decode cL_works 327 = .ok (.imul, 1) := by decide +kernel
theorem dL_works_328 : decode cL_works 328 = .ok (.iconst 3, 1) := by decide +kernel
theorem dL_works_329 : decode cL_works 329 = .ok (.iadd, 1) := by decide +kernel
theorem dL_works_330 : decode cL_works 330 = .ok (.iaload, 1) := by decide +kernel
theorem dL_works_331 : decode cL_works 331 = .ok (.aload_n 3, 1) := by decide +kernel
theorem dL_works_332 : decode cL_works 332 = .ok (.bipush 16, 2) := by decide +kernel
theorem dL_works_334 : decode cL_works 334 = .ok (.iload 5, 2) := by decide +kernel
theorem dL_works_336 : decode cL_works 336 = .ok (.iadd, 1) := by decide +kernel
theorem dL_works_337 : decode cL_works 337 = .ok (.iaload, 1) := by decide +kernel
theorem dL_works_338 : decode cL_works 338 = .ok (.imul, 1) := by decide +kernel
theorem dL_works_339 : decode cL_works 339 = .ok (.goto 4, 3) := by decide +kernel
theorem dL_works_342 : decode cL_works 342 = .ok (.iconst 0, 1) := by decide +kernel
theorem dL_works_343 : decode cL_works 343 = .ok (.iadd, 1) := by decide +kernel
theorem dL_works_344 : decode cL_works 344 = .ok (.iastore, 1) := by decide +kernel
theorem dL_works_345 : decode cL_works 345 = .ok (.iinc 5 1, 3) := by decide +kernel
theorem dL_works_348 : decode cL_works 348 = .ok (.goto (-53), 3) := by decide +kernel
theorem dL_works_351 : decode cL_works 351 = .ok (.iinc 4 1, 3) := by decide +kernel
theorem dL_works_354 : decode cL_works 354 = .ok (.goto (-78), 3) := by decide +kernel
theorem dL_works_357 : decode cL_works 357 = .ok (.aload_n 3, 1) := by decide +kernel
theorem dL_works_358 : decode cL_works 358 = .ok (.iconst 0, 1) := by decide +kernel
theorem dL_works_359 : decode cL_works 359 = .ok (.iaload, 1) := by decide +kernel
theorem dL_works_360 : decode cL_works 360 = .ok (.aload_n 0, 1) := by decide +kernel
theorem dL_works_361 : decode cL_works 361 = .ok (.iconst 0, 1) := by decide +kernel
theorem dL_works_362 : decode cL_works 362 = .ok (.iaload, 1) := by decide +kernel
theorem dL_works_363 : decode cL_works 363 = .ok (.imul, 1) := by decide +kernel
theorem dL_works_364 : decode cL_works 364 = .ok (.aload_n 3, 1) := by decide +kernel
theorem dL_works_365 : decode cL_works 365 = .ok (.bipush 24, 2) := by decide +kernel
theorem dL_works_367 : decode cL_works 367 = .ok (.iaload, 1) := by decide +kernel
theorem dL_works_368 : decode cL_works 368 = .ok (.isub, 1) := by decide +kernel
theorem dL_works_369 : decode cL_works 369 = .ok (.istore 4, 2) := by decide +kernel
theorem dL_works_371 : decode cL_works 371 = .ok (.aload_n 3, 1) := by decide +kernel
theorem dL_works_372 : decode cL_works 372 = .ok (.bipush 38, 2) := by decide +kernel
theorem dL_works_374 : decode cL_works 374 = .ok (.iload 4, 2) := by decide +kernel
theorem dL_works_376 : decode cL_works 376 = .ok (.ifCond .ge 7, 3) := by decide +kernel
theorem dL_works_379 : decode cL_works 379 = .ok (.iconst 0, 1) := by decide +kernel
theorem dL_works_380 : decode cL_works 380 = .ok (.goto 5, 3) := by decide +kernel
theorem dL_works_383 : decode cL_works 383 = .ok (.iload 4, 2) := by decide +kernel
theorem dL_works_385 : decode cL_works 385 = .ok (.iastore, 1) := by decide +kernel
theorem dL_works_386 : decode cL_works 386 = .ok (.aload_n 3, 1) := by decide +kernel
theorem dL_works_387 : decode cL_works 387 = .ok (.bipush 36, 2) := by decide +kernel
theorem dL_works_389 : decode cL_works 389 = .ok (.aload_n 3, 1) := by decide +kernel
theorem dL_works_390 : decode cL_works 390 = .ok (.bipush 38, 2) := by decide +kernel
theorem dL_works_392 : decode cL_works 392 = .ok (.iaload, 1) := by decide +kernel
theorem dL_works_393 : decode cL_works 393 = .ok (.iastore, 1) := by decide +kernel
theorem dL_works_394 : decode cL_works 394 = .ok (.aload_n 3, 1) := by decide +kernel
theorem dL_works_395 : decode cL_works 395 = .ok (.bipush 37, 2) := by decide +kernel
theorem dL_works_397 : decode cL_works 397 = .ok (.iconst 0, 1) := by decide +kernel
theorem dL_works_398 : decode cL_works 398 = .ok (.iastore, 1) := by decide +kernel
theorem dL_works_399 : decode cL_works 399 = .ok (.iconst 0, 1) := by decide +kernel
theorem dL_works_400 : decode cL_works 400 = .ok (.istore 5, 2) := by decide +kernel
theorem dL_works_402 : decode cL_works 402 = .ok (.iload 5, 2) := by decide +kernel
theorem dL_works_404 : decode cL_works 404 = .ok (.iconst 4, 1) := by decide +kernel
theorem dL_works_405 : decode cL_works 405 = .ok (.if_icmp .ge 17, 3) := by decide +kernel
theorem dL_works_408 : decode cL_works 408 = .ok (.aload_n 3, 1) := by decide +kernel
theorem dL_works_409 : decode cL_works 409 = .ok (.bipush 32, 2) := by decide +kernel
theorem dL_works_411 : decode cL_works 411 = .ok (.iload 5, 2) := by decide +kernel
theorem dL_works_413 : decode cL_works 413 = .ok (.iadd, 1) := by decide +kernel
theorem dL_works_414 : decode cL_works 414 = .ok (.iconst 0, 1) := by decide +kernel
theorem dL_works_415 : decode cL_works 415 = .ok (.iastore, 1) := by decide +kernel
theorem dL_works_416 : decode cL_works 416 = .ok (.iinc 5 1, 3) := by decide +kernel
theorem dL_works_419 : decode cL_works 419 = .ok (.goto (-17), 3) := by decide +kernel
theorem dL_works_422 : decode cL_works 422 = .ok (.iconst 0, 1) := by decide +kernel
theorem dL_works_423 : decode cL_works 423 = .ok (.istore 5, 2) := by decide +kernel
theorem dL_works_425 : decode cL_works 425 = .ok (.iload 5, 2) := by decide +kernel
theorem dL_works_427 : decode cL_works 427 = .ok (.bipush 100, 2) := by decide +kernel
theorem dL_works_429 : decode cL_works 429 = .ok (.if_icmp .ge 135, 3) := by decide +kernel
theorem dL_works_432 : decode cL_works 432 = .ok (.iconst 0, 1) := by decide +kernel
theorem dL_works_433 : decode cL_works 433 = .ok (.istore 6, 2) := by decide +kernel
theorem dL_works_435 : decode cL_works 435 = .ok (.iload 6, 2) := by decide +kernel
theorem dL_works_437 : decode cL_works 437 = .ok (.aload_n 0, 1) := by decide +kernel
theorem dL_works_438 : decode cL_works 438 = .ok (.bipush 6, 2) := by decide +kernel
theorem dL_works_440 : decode cL_works 440 = .ok (.iaload, 1) := by decide +kernel
theorem dL_works_441 : decode cL_works 441 = .ok (.if_icmp .ge 117, 3) := by decide +kernel
theorem dL_works_444 : decode cL_works 444 = .ok (.aload_n 2, 1) := by decide +kernel
theorem dL_works_445 : decode cL_works 445 = .ok (.iconst 3, 1) := by decide +kernel
theorem dL_works_446 : decode cL_works 446 = .ok (.iload 6, 2) := by decide +kernel
theorem dL_works_448 : decode cL_works 448 = .ok (.imul, 1) := by decide +kernel
theorem dL_works_449 : decode cL_works 449 = .ok (.iconst 2, 1) := by decide +kernel
theorem dL_works_450 : decode cL_works 450 = .ok (.iadd, 1) := by decide +kernel
theorem dL_works_451 : decode cL_works 451 = .ok (.iaload, 1) := by decide +kernel
theorem dL_works_452 : decode cL_works 452 = .ok (.iload 5, 2) := by decide +kernel
theorem dL_works_454 : decode cL_works 454 = .ok (.if_icmp .ne 98, 3) := by decide +kernel
theorem dL_works_457 : decode cL_works 457 = .ok (.aload_n 3, 1) := by decide +kernel
theorem dL_works_458 : decode cL_works 458 = .ok (.bipush 36, 2) := by decide +kernel
theorem dL_works_460 : decode cL_works 460 = .ok (.iaload, 1) := by decide +kernel
theorem dL_works_461 : decode cL_works 461 = .ok (.aload_n 2, 1) := by decide +kernel
theorem dL_works_462 : decode cL_works 462 = .ok (.iconst 3, 1) := by decide +kernel
theorem dL_works_463 : decode cL_works 463 = .ok (.iload 6, 2) := by decide +kernel
theorem dL_works_465 : decode cL_works 465 = .ok (.imul, 1) := by decide +kernel
theorem dL_works_466 : decode cL_works 466 = .ok (.iaload, 1) := by decide +kernel
theorem dL_works_467 : decode cL_works 467 = .ok (.if_icmp .le 12, 3) := by decide +kernel
theorem dL_works_470 : decode cL_works 470 = .ok (.aload_n 2, 1) := by decide +kernel
theorem dL_works_471 : decode cL_works 471 = .ok (.iconst 3, 1) := by decide +kernel
theorem dL_works_472 : decode cL_works 472 = .ok (.iload 6, 2) := by decide +kernel
theorem dL_works_474 : decode cL_works 474 = .ok (.imul, 1) := by decide +kernel
theorem dL_works_475 : decode cL_works 475 = .ok (.iaload, 1) := by decide +kernel
theorem dL_works_476 : decode cL_works 476 = .ok (.goto 7, 3) := by decide +kernel
theorem dL_works_479 : decode cL_works 479 = .ok (.aload_n 3, 1) := by decide +kernel
theorem dL_works_480 : decode cL_works 480 = .ok (.bipush 36, 2) := by decide +kernel
theorem dL_works_482 : decode cL_works 482 = .ok (.iaload, 1) := by decide +kernel
theorem dL_works_483 : decode cL_works 483 = .ok (.istore 7, 2) := by decide +kernel
theorem dL_works_485 : decode cL_works 485 = .ok (.aload_n 3, 1) := by decide +kernel
theorem dL_works_486 : decode cL_works 486 = .ok (.bipush 36, 2) := by decide +kernel
theorem dL_works_488 : decode cL_works 488 = .ok (.dup2, 1) := by decide +kernel
theorem dL_works_489 : decode cL_works 489 = .ok (.iaload, 1) := by decide +kernel
theorem dL_works_490 : decode cL_works 490 = .ok (.iload 7, 2) := by decide +kernel
theorem dL_works_492 : decode cL_works 492 = .ok (.isub, 1) := by decide +kernel
theorem dL_works_493 : decode cL_works 493 = .ok (.iastore, 1) := by decide +kernel
theorem dL_works_494 : decode cL_works 494 = .ok (.iload 7, 2) := by decide +kernel
theorem dL_works_496 : decode cL_works 496 = .ok (.ifCond .le 31, 3) := by decide +kernel
theorem dL_works_499 : decode cL_works 499 = .ok (.iload 7, 2) := by decide +kernel
theorem dL_works_501 : decode cL_works 501 = .ok (.aload_n 2, 1) := by decide +kernel
theorem dL_works_502 : decode cL_works 502 = .ok (.iconst 3, 1) := by decide +kernel
theorem dL_works_503 : decode cL_works 503 = .ok (.iload 6, 2) := by decide +kernel
theorem dL_works_505 : decode cL_works 505 = .ok (.imul, 1) := by decide +kernel
theorem dL_works_506 : decode cL_works 506 = .ok (.iconst 1, 1) := by decide +kernel
theorem dL_works_507 : decode cL_works 507 = .ok (.iadd, 1) := by decide +kernel
theorem dL_works_508 : decode cL_works 508 = .ok (.iaload, 1) := by decide +kernel
theorem dL_works_509 : decode cL_works 509 = .ok (.if_icmp .ge 18, 3) := by decide +kernel
theorem dL_works_512 : decode cL_works 512 = .ok (.aload_n 2, 1) := by decide +kernel
theorem dL_works_513 : decode cL_works 513 = .ok (.iconst 3, 1) := by decide +kernel
theorem dL_works_514 : decode cL_works 514 = .ok (.iload 6, 2) := by decide +kernel
theorem dL_works_516 : decode cL_works 516 = .ok (.imul, 1) := by decide +kernel
theorem dL_works_517 : decode cL_works 517 = .ok (.iconst 1, 1) := by decide +kernel
theorem dL_works_518 : decode cL_works 518 = .ok (.iadd, 1) := by decide +kernel
theorem dL_works_519 : decode cL_works 519 = .ok (.iaload, 1) := by decide +kernel
theorem dL_works_520 : decode cL_works 520 = .ok (.istore 7, 2) := by decide +kernel
theorem dL_works_522 : decode cL_works 522 = .ok (.aload_n 3, 1) := by decide +kernel
theorem dL_works_523 : decode cL_works 523 = .ok (.bipush 36, 2) := by decide +kernel
theorem dL_works_525 : decode cL_works 525 = .ok (.iconst 0, 1) := by decide +kernel
theorem dL_works_526 : decode cL_works 526 = .ok (.iastore, 1) := by decide +kernel
theorem dL_works_527 : decode cL_works 527 = .ok (.aload_n 3, 1) := by decide +kernel
theorem dL_works_528 : decode cL_works 528 = .ok (.bipush 32, 2) := by decide +kernel
theorem dL_works_530 : decode cL_works 530 = .ok (.iload 6, 2) := by decide +kernel
theorem dL_works_532 : decode cL_works 532 = .ok (.iadd, 1) := by decide +kernel
theorem dL_works_533 : decode cL_works 533 = .ok (.iload 7, 2) := by decide +kernel
theorem dL_works_535 : decode cL_works 535 = .ok (.iastore, 1) := by decide +kernel
theorem dL_works_536 : decode cL_works 536 = .ok (.aload_n 3, 1) := by decide +kernel
theorem dL_works_537 : decode cL_works 537 = .ok (.bipush 37, 2) := by decide +kernel
theorem dL_works_539 : decode cL_works 539 = .ok (.dup2, 1) := by decide +kernel
theorem dL_works_540 : decode cL_works 540 = .ok (.iaload, 1) := by decide +kernel
theorem dL_works_541 : decode cL_works 541 = .ok (.iload 7, 2) := by decide +kernel
theorem dL_works_543 : decode cL_works 543 = .ok (.iload 5, 2) := by decide +kernel
theorem dL_works_545 : decode cL_works 545 = .ok (.imul, 1) := by decide +kernel
theorem dL_works_546 : decode cL_works 546 = .ok (.sipush 1000, 3) := by decide +kernel
theorem dL_works_549 : decode cL_works 549 = .ok (.idiv, 1) := by decide +kernel
theorem dL_works_550 : decode cL_works 550 = .ok (.iadd, 1) := by decide +kernel
theorem dL_works_551 : decode cL_works 551 = .ok (.iastore, 1) := by decide +kernel
theorem dL_works_552 : decode cL_works 552 = .ok (.iinc 6 1, 3) := by decide +kernel
theorem dL_works_555 : decode cL_works 555 = .ok (.goto (-120), 3) := by decide +kernel
theorem dL_works_558 : decode cL_works 558 = .ok (.iinc 5 1, 3) := by decide +kernel
theorem dL_works_561 : decode cL_works 561 = .ok (.goto (-136), 3) := by decide +kernel
theorem dL_works_564 : decode cL_works 564 = .ok (.return_, 1) := by decide +kernel
theorem dL_bill_0 : decode cL_bill 0 = .ok (.aload_n 1, 1) := by decide +kernel
theorem dL_bill_1 : decode cL_bill 1 = .ok (.bipush 8, 2) := by decide +kernel
theorem dL_bill_3 : decode cL_bill 3 = .ok (.iload_n 3, 1) := by decide +kernel
theorem dL_bill_4 : decode cL_bill 4 = .ok (.imul, 1) := by decide +kernel
theorem dL_bill_5 : decode cL_bill 5 = .ok (.iconst 3, 1) := by decide +kernel
theorem dL_bill_6 : decode cL_bill 6 = .ok (.iadd, 1) := by decide +kernel
theorem dL_bill_7 : decode cL_bill 7 = .ok (.iaload, 1) := by decide +kernel
theorem dL_bill_8 : decode cL_bill 8 = .ok (.istore 4, 2) := by decide +kernel
theorem dL_bill_10 : decode cL_bill 10 = .ok (.iload 4, 2) := by decide +kernel
theorem dL_bill_12 : decode cL_bill 12 = .ok (.aload_n 2, 1) := by decide +kernel
theorem dL_bill_13 : decode cL_bill 13 = .ok (.bipush 8, 2) := by decide +kernel
theorem dL_bill_15 : decode cL_bill 15 = .ok (.iload_n 3, 1) := by decide +kernel
theorem dL_bill_16 : decode cL_bill 16 = .ok (.iadd, 1) := by decide +kernel
theorem dL_bill_17 : decode cL_bill 17 = .ok (.iaload, 1) := by decide +kernel
theorem dL_bill_18 : decode cL_bill 18 = .ok (.aload_n 2, 1) := by decide +kernel
theorem dL_bill_19 : decode cL_bill 19 = .ok (.bipush 16, 2) := by decide +kernel
theorem dL_bill_21 : decode cL_bill 21 = .ok (.iload_n 3, 1) := by decide +kernel
theorem dL_bill_22 : decode cL_bill 22 = .ok (.iadd, 1) := by decide +kernel
theorem dL_bill_23 : decode cL_bill 23 = .ok (.iaload, 1) := by decide +kernel
theorem dL_bill_24 : decode cL_bill 24 = .ok (.isub, 1) := by decide +kernel
theorem dL_bill_25 : decode cL_bill 25 = .ok (.imul, 1) := by decide +kernel
theorem dL_bill_26 : decode cL_bill 26 = .ok (.aload_n 0, 1) := by decide +kernel
theorem dL_bill_27 : decode cL_bill 27 = .ok (.iconst 2, 1) := by decide +kernel
theorem dL_bill_28 : decode cL_bill 28 = .ok (.iaload, 1) := by decide +kernel
theorem dL_bill_29 : decode cL_bill 29 = .ok (.imul, 1) := by decide +kernel
theorem dL_bill_30 : decode cL_bill 30 = .ok (.sipush 1000, 3) := by decide +kernel
theorem dL_bill_33 : decode cL_bill 33 = .ok (.idiv, 1) := by decide +kernel
theorem dL_bill_34 : decode cL_bill 34 = .ok (.iload 4, 2) := by decide +kernel
theorem dL_bill_36 : decode cL_bill 36 = .ok (.aload_n 2, 1) := by decide +kernel
theorem dL_bill_37 : decode cL_bill 37 = .ok (.bipush 16, 2) := by decide +kernel
theorem dL_bill_39 : decode cL_bill 39 = .ok (.iload_n 3, 1) := by decide +kernel
theorem dL_bill_40 : decode cL_bill 40 = .ok (.iadd, 1) := by decide +kernel
theorem dL_bill_41 : decode cL_bill 41 = .ok (.iaload, 1) := by decide +kernel
theorem dL_bill_42 : decode cL_bill 42 = .ok (.aload_n 0, 1) := by decide +kernel
theorem dL_bill_43 : decode cL_bill 43 = .ok (.iconst 3, 1) := by decide +kernel
theorem dL_bill_44 : decode cL_bill 44 = .ok (.iaload, 1) := by decide +kernel
theorem dL_bill_45 : decode cL_bill 45 = .ok (.isub, 1) := by decide +kernel
theorem dL_bill_46 : decode cL_bill 46 = .ok (.imul, 1) := by decide +kernel
theorem dL_bill_47 : decode cL_bill 47 = .ok (.aload_n 0, 1) := by decide +kernel
theorem dL_bill_48 : decode cL_bill 48 = .ok (.iconst 4, 1) := by decide +kernel
theorem dL_bill_49 : decode cL_bill 49 = .ok (.iaload, 1) := by decide +kernel
theorem dL_bill_50 : decode cL_bill 50 = .ok (.imul, 1) := by decide +kernel
theorem dL_bill_51 : decode cL_bill 51 = .ok (.sipush 1000, 3) := by decide +kernel
theorem dL_bill_54 : decode cL_bill 54 = .ok (.idiv, 1) := by decide +kernel
theorem dL_bill_55 : decode cL_bill 55 = .ok (.iadd, 1) := by decide +kernel
theorem dL_bill_56 : decode cL_bill 56 = .ok (.ireturn, 1) := by decide +kernel
theorem dL_begins_0 : decode cL_begins 0 = .ok (.aload_n 0, 1) := by decide +kernel
theorem dL_begins_1 : decode cL_begins 1 = .ok (.iconst 0, 1) := by decide +kernel
theorem dL_begins_2 : decode cL_begins 2 = .ok (.sipush 800, 3) := by decide +kernel
theorem dL_begins_5 : decode cL_begins 5 = .ok (.iastore, 1) := by decide +kernel
theorem dL_begins_6 : decode cL_begins 6 = .ok (.aload_n 0, 1) := by decide +kernel
theorem dL_begins_7 : decode cL_begins 7 = .ok (.iconst 1, 1) := by decide +kernel
theorem dL_begins_8 : decode cL_begins 8 = .ok (.bipush 80, 2) := by decide +kernel
theorem dL_begins_10 : decode cL_begins 10 = .ok (.iastore, 1) := by decide +kernel
theorem dL_begins_11 : decode cL_begins 11 = .ok (.aload_n 0, 1) := by decide +kernel
theorem dL_begins_12 : decode cL_begins 12 = .ok (.iconst 2, 1) := by decide +kernel
theorem dL_begins_13 : decode cL_begins 13 = .ok (.bipush 50, 2) := by decide +kernel
theorem dL_begins_15 : decode cL_begins 15 = .ok (.iastore, 1) := by decide +kernel
theorem dL_begins_16 : decode cL_begins 16 = .ok (.aload_n 0, 1) := by decide +kernel
theorem dL_begins_17 : decode cL_begins 17 = .ok (.iconst 3, 1) := by decide +kernel
theorem dL_begins_18 : decode cL_begins 18 = .ok (.sipush 400, 3) := by decide +kernel
theorem dL_begins_21 : decode cL_begins 21 = .ok (.iastore, 1) := by decide +kernel
theorem dL_begins_22 : decode cL_begins 22 = .ok (.aload_n 0, 1) := by decide +kernel
theorem dL_begins_23 : decode cL_begins 23 = .ok (.iconst 4, 1) := by decide +kernel
theorem dL_begins_24 : decode cL_begins 24 = .ok (.bipush 10, 2) := by decide +kernel
theorem dL_begins_26 : decode cL_begins 26 = .ok (.iastore, 1) := by decide +kernel
theorem dL_begins_27 : decode cL_begins 27 = .ok (.aload_n 0, 1) := by decide +kernel
theorem dL_begins_28 : decode cL_begins 28 = .ok (.iconst 5, 1) := by decide +kernel
theorem dL_begins_29 : decode cL_begins 29 = .ok (.iconst 1, 1) := by decide +kernel
theorem dL_begins_30 : decode cL_begins 30 = .ok (.iastore, 1) := by decide +kernel
theorem dL_begins_31 : decode cL_begins 31 = .ok (.return_, 1) := by decide +kernel
theorem dL_acts_0 : decode cL_acts 0 = .ok (.iload 5, 2) := by decide +kernel
theorem dL_acts_2 : decode cL_acts 2 = .ok (.iconst 5, 1) := by decide +kernel
theorem dL_acts_3 : decode cL_acts 3 = .ok (.ishr, 1) := by decide +kernel
theorem dL_acts_4 : decode cL_acts 4 = .ok (.ldc 15, 2) := by decide +kernel
theorem dL_acts_6 : decode cL_acts 6 = .ok (.invokestatic 16, 3) := by decide +kernel
theorem dL_acts_9 : decode cL_acts 9 = .ok (.istore 6, 2) := by decide +kernel
theorem dL_acts_11 : decode cL_acts 11 = .ok (.aload_n 1, 1) := by decide +kernel
theorem dL_acts_12 : decode cL_acts 12 = .ok (.iconst 5, 1) := by decide +kernel
theorem dL_acts_13 : decode cL_acts 13 = .ok (.iaload, 1) := by decide +kernel
theorem dL_acts_14 : decode cL_acts 14 = .ok (.iconst 1, 1) := by decide +kernel
theorem dL_acts_15 : decode cL_acts 15 = .ok (.if_icmp .ne 7, 3) := by decide +kernel
theorem dL_acts_18 : decode cL_acts 18 = .ok (.iconst 1, 1) := by decide +kernel
theorem dL_acts_19 : decode cL_acts 19 = .ok (.goto 13, 3) := by decide +kernel
theorem dL_acts_22 : decode cL_acts 22 = .ok (.iconst 1, 1) := by decide +kernel
theorem dL_acts_23 : decode cL_acts 23 = .ok (.iload 6, 2) := by decide +kernel
theorem dL_acts_25 : decode cL_acts 25 = .ok (.aload_n 1, 1) := by decide +kernel
theorem dL_acts_26 : decode cL_acts 26 = .ok (.iconst 5, 1) := by decide +kernel
theorem dL_acts_27 : decode cL_acts 27 = .ok (.iaload, 1) := by decide +kernel
theorem dL_acts_28 : decode cL_acts 28 = .ok (.iconst 1, 1) := by decide +kernel
theorem dL_acts_29 : decode cL_acts 29 = .ok (.isub, 1) := by decide +kernel
theorem dL_acts_30 : decode cL_acts 30 = .ok (.irem, 1) := by decide +kernel
theorem dL_acts_31 : decode cL_acts 31 = .ok (.iadd, 1) := by decide +kernel
theorem dL_acts_32 : decode cL_acts 32 = .ok (.istore 7, 2) := by decide +kernel
theorem dL_acts_34 : decode cL_acts 34 = .ok (.aload_n 1, 1) := by decide +kernel
theorem dL_acts_35 : decode cL_acts 35 = .ok (.iconst 5, 1) := by decide +kernel
theorem dL_acts_36 : decode cL_acts 36 = .ok (.iaload, 1) := by decide +kernel
theorem dL_acts_37 : decode cL_acts 37 = .ok (.iconst 1, 1) := by decide +kernel
theorem dL_acts_38 : decode cL_acts 38 = .ok (.if_icmp .ne 7, 3) := by decide +kernel
theorem dL_acts_41 : decode cL_acts 41 = .ok (.iconst 1, 1) := by decide +kernel
theorem dL_acts_42 : decode cL_acts 42 = .ok (.goto 4, 3) := by decide +kernel
theorem dL_acts_45 : decode cL_acts 45 = .ok (.iconst 0, 1) := by decide +kernel
theorem dL_acts_46 : decode cL_acts 46 = .ok (.istore 8, 2) := by decide +kernel
theorem dL_acts_48 : decode cL_acts 48 = .ok (.iload 5, 2) := by decide +kernel
theorem dL_acts_50 : decode cL_acts 50 = .ok (.bipush 20, 2) := by decide +kernel
theorem dL_acts_52 : decode cL_acts 52 = .ok (.invokestatic 16, 3) := by decide +kernel
theorem dL_acts_55 : decode cL_acts 55 = .ok (.tableswitch 859 0 13 #[69, 69, 125, 125, 243, 243, 329, 329, 471, 555, 617, 617, 749, 749], 69) := by decide +kernel
theorem dL_acts_124 : decode cL_acts 124 = .ok (.aload_n 1, 1) := by decide +kernel
theorem dL_acts_125 : decode cL_acts 125 = .ok (.iconst 0, 1) := by decide +kernel
theorem dL_acts_126 : decode cL_acts 126 = .ok (.iaload, 1) := by decide +kernel
theorem dL_acts_127 : decode cL_acts 127 = .ok (.istore 9, 2) := by decide +kernel
theorem dL_acts_129 : decode cL_acts 129 = .ok (.aload_n 1, 1) := by decide +kernel
theorem dL_acts_130 : decode cL_acts 130 = .ok (.iconst 0, 1) := by decide +kernel
theorem dL_acts_131 : decode cL_acts 131 = .ok (.sipush 400, 3) := by decide +kernel
theorem dL_acts_134 : decode cL_acts 134 = .ok (.iload 6, 2) := by decide +kernel
theorem dL_acts_136 : decode cL_acts 136 = .ok (.sipush 801, 3) := by decide +kernel
theorem dL_acts_139 : decode cL_acts 139 = .ok (.irem, 1) := by decide +kernel
theorem dL_acts_140 : decode cL_acts 140 = .ok (.iadd, 1) := by decide +kernel
theorem dL_acts_141 : decode cL_acts 141 = .ok (.iastore, 1) := by decide +kernel
theorem dL_acts_142 : decode cL_acts 142 = .ok (.aload_n 1, 1) := by decide +kernel
theorem dL_acts_143 : decode cL_acts 143 = .ok (.iconst 1, 1) := by decide +kernel
theorem dL_acts_144 : decode cL_acts 144 = .ok (.iload 6, 2) := by decide +kernel
theorem dL_acts_146 : decode cL_acts 146 = .ok (.sipush 801, 3) := by decide +kernel
theorem dL_acts_149 : decode cL_acts 149 = .ok (.idiv, 1) := by decide +kernel
theorem dL_acts_150 : decode cL_acts 150 = .ok (.sipush 501, 3) := by decide +kernel
theorem dL_acts_153 : decode cL_acts 153 = .ok (.irem, 1) := by decide +kernel
theorem dL_acts_154 : decode cL_acts 154 = .ok (.sipush 200, 3) := by decide +kernel
theorem dL_acts_157 : decode cL_acts 157 = .ok (.isub, 1) := by decide +kernel
theorem dL_acts_158 : decode cL_acts 158 = .ok (.iastore, 1) := by decide +kernel
theorem dL_acts_159 : decode cL_acts 159 = .ok (.aload_n 0, 1) := by decide +kernel
theorem dL_acts_160 : decode cL_acts 160 = .ok (.aload_n 1, 1) := by decide +kernel
theorem dL_acts_161 : decode cL_acts 161 = .ok (.iconst 0, 1) := by decide +kernel
theorem dL_acts_162 : decode cL_acts 162 = .ok (.iaload, 1) := by decide +kernel
theorem dL_acts_163 : decode cL_acts 163 = .ok (.aload_n 1, 1) := by decide +kernel
theorem dL_acts_164 : decode cL_acts 164 = .ok (.iconst 1, 1) := by decide +kernel
theorem dL_acts_165 : decode cL_acts 165 = .ok (.iaload, 1) := by decide +kernel
theorem dL_acts_166 : decode cL_acts 166 = .ok (.invokestatic 20, 3) := by decide +kernel
theorem dL_acts_169 : decode cL_acts 169 = .ok (.iload 9, 2) := by decide +kernel
theorem dL_acts_171 : decode cL_acts 171 = .ok (.if_icmp .ne 7, 3) := by decide +kernel
theorem dL_acts_174 : decode cL_acts 174 = .ok (.iconst 1, 1) := by decide +kernel
theorem dL_acts_175 : decode cL_acts 175 = .ok (.goto 4, 3) := by decide +kernel
theorem dL_acts_178 : decode cL_acts 178 = .ok (.iconst 0, 1) := by decide +kernel
theorem dL_acts_179 : decode cL_acts 179 = .ok (.ireturn, 1) := by decide +kernel
theorem dL_acts_180 : decode cL_acts 180 = .ok (.iload 8, 2) := by decide +kernel
theorem dL_acts_182 : decode cL_acts 182 = .ok (.ifCond .eq 23, 3) := by decide +kernel
theorem dL_acts_185 : decode cL_acts 185 = .ok (.aload_n 0, 1) := by decide +kernel
theorem dL_acts_186 : decode cL_acts 186 = .ok (.iconst 1, 1) := by decide +kernel
theorem dL_acts_187 : decode cL_acts 187 = .ok (.sipush 501, 3) := by decide +kernel
theorem dL_acts_190 : decode cL_acts 190 = .ok (.iconst 0, 1) := by decide +kernel
theorem dL_acts_191 : decode cL_acts 191 = .ok (.invokestatic 24, 3) := by decide +kernel
theorem dL_acts_194 : decode cL_acts 194 = .ok (.ldc 28, 2) := by decide +kernel
theorem dL_acts_196 : decode cL_acts 196 = .ok (.if_icmp .ne 7, 3) := by decide +kernel
theorem dL_acts_199 : decode cL_acts 199 = .ok (.iconst 1, 1) := by decide +kernel
theorem dL_acts_200 : decode cL_acts 200 = .ok (.goto 4, 3) := by decide +kernel
theorem dL_acts_203 : decode cL_acts 203 = .ok (.iconst 0, 1) := by decide +kernel
theorem dL_acts_204 : decode cL_acts 204 = .ok (.ireturn, 1) := by decide +kernel
theorem dL_acts_205 : decode cL_acts 205 = .ok (.aload_n 2, 1) := by decide +kernel
theorem dL_acts_206 : decode cL_acts 206 = .ok (.bipush 8, 2) := by decide +kernel
theorem dL_acts_208 : decode cL_acts 208 = .ok (.iload 7, 2) := by decide +kernel
theorem dL_acts_210 : decode cL_acts 210 = .ok (.imul, 1) := by decide +kernel
theorem dL_acts_211 : decode cL_acts 211 = .ok (.iconst 3, 1) := by decide +kernel
theorem dL_acts_212 : decode cL_acts 212 = .ok (.iadd, 1) := by decide +kernel
theorem dL_acts_213 : decode cL_acts 213 = .ok (.iaload, 1) := by decide +kernel
theorem dL_acts_214 : decode cL_acts 214 = .ok (.istore 10, 2) := by decide +kernel
theorem dL_acts_216 : decode cL_acts 216 = .ok (.aload_n 2, 1) := by decide +kernel
theorem dL_acts_217 : decode cL_acts 217 = .ok (.bipush 8, 2) := by decide +kernel
theorem dL_acts_219 : decode cL_acts 219 = .ok (.iload 7, 2) := by decide +kernel
theorem dL_acts_221 : decode cL_acts 221 = .ok (.imul, 1) := by decide +kernel
theorem dL_acts_222 : decode cL_acts 222 = .ok (.iconst 3, 1) := by decide +kernel
theorem dL_acts_223 : decode cL_acts 223 = .ok (.iadd, 1) := by decide +kernel
theorem dL_acts_224 : decode cL_acts 224 = .ok (.iload 6, 2) := by decide +kernel
theorem dL_acts_226 : decode cL_acts 226 = .ok (.iconst 3, 1) := by decide +kernel
theorem dL_acts_227 : decode cL_acts 227 = .ok (.irem, 1) := by decide +kernel
theorem dL_acts_228 : decode cL_acts 228 = .ok (.ifCond .ne 7, 3) := by decide +kernel
theorem dL_acts_231 : decode cL_acts 231 = .ok (.iconst 0, 1) := by decide +kernel
theorem dL_acts_232 : decode cL_acts 232 = .ok (.goto 11, 3) := by decide +kernel
theorem dL_acts_235 : decode cL_acts 235 = .ok (.iload 6, 2) := by decide +kernel
theorem dL_acts_237 : decode cL_acts 237 = .ok (.iconst 3, 1) := by decide +kernel
theorem dL_acts_238 : decode cL_acts 238 = .ok (.idiv, 1) := by decide +kernel
theorem dL_acts_239 : decode cL_acts 239 = .ok (.sipush 501, 3) := by decide +kernel
theorem dL_acts_242 : decode cL_acts 242 = .ok (.irem, 1) := by decide +kernel
theorem dL_acts_243 : decode cL_acts 243 = .ok (.iastore, 1) := by decide +kernel
theorem dL_acts_244 : decode cL_acts 244 = .ok (.aload_n 2, 1) := by decide +kernel
theorem dL_acts_245 : decode cL_acts 245 = .ok (.bipush 8, 2) := by decide +kernel
theorem dL_acts_247 : decode cL_acts 247 = .ok (.iload 7, 2) := by decide +kernel
theorem dL_acts_249 : decode cL_acts 249 = .ok (.imul, 1) := by decide +kernel
theorem dL_acts_250 : decode cL_acts 250 = .ok (.iconst 4, 1) := by decide +kernel
theorem dL_acts_251 : decode cL_acts 251 = .ok (.iadd, 1) := by decide +kernel
theorem dL_acts_252 : decode cL_acts 252 = .ok (.iload 6, 2) := by decide +kernel
theorem dL_acts_254 : decode cL_acts 254 = .ok (.sipush 1503, 3) := by decide +kernel
theorem dL_acts_257 : decode cL_acts 257 = .ok (.idiv, 1) := by decide +kernel
theorem dL_acts_258 : decode cL_acts 258 = .ok (.sipush 1201, 3) := by decide +kernel
theorem dL_acts_261 : decode cL_acts 261 = .ok (.irem, 1) := by decide +kernel
theorem dL_acts_262 : decode cL_acts 262 = .ok (.iastore, 1) := by decide +kernel
theorem dL_acts_263 : decode cL_acts 263 = .ok (.aload_n 0, 1) := by decide +kernel
theorem dL_acts_264 : decode cL_acts 264 = .ok (.iload 7, 2) := by decide +kernel
theorem dL_acts_266 : decode cL_acts 266 = .ok (.aload_n 2, 1) := by decide +kernel
theorem dL_acts_267 : decode cL_acts 267 = .ok (.bipush 8, 2) := by decide +kernel
theorem dL_acts_269 : decode cL_acts 269 = .ok (.iload 7, 2) := by decide +kernel
theorem dL_acts_271 : decode cL_acts 271 = .ok (.imul, 1) := by decide +kernel
theorem dL_acts_272 : decode cL_acts 272 = .ok (.iconst 3, 1) := by decide +kernel
theorem dL_acts_273 : decode cL_acts 273 = .ok (.iadd, 1) := by decide +kernel
theorem dL_acts_274 : decode cL_acts 274 = .ok (.iaload, 1) := by decide +kernel
theorem dL_acts_275 : decode cL_acts 275 = .ok (.aload_n 2, 1) := by decide +kernel
theorem dL_acts_276 : decode cL_acts 276 = .ok (.bipush 8, 2) := by decide +kernel
theorem dL_acts_278 : decode cL_acts 278 = .ok (.iload 7, 2) := by decide +kernel
theorem dL_acts_280 : decode cL_acts 280 = .ok (.imul, 1) := by decide +kernel
theorem dL_acts_281 : decode cL_acts 281 = .ok (.iconst 4, 1) := by decide +kernel
theorem dL_acts_282 : decode cL_acts 282 = .ok (.iadd, 1) := by decide +kernel
theorem dL_acts_283 : decode cL_acts 283 = .ok (.iaload, 1) := by decide +kernel
theorem dL_acts_284 : decode cL_acts 284 = .ok (.invokestatic 24, 3) := by decide +kernel
theorem dL_acts_287 : decode cL_acts 287 = .ok (.iload 10, 2) := by decide +kernel
theorem dL_acts_289 : decode cL_acts 289 = .ok (.if_icmp .ne 7, 3) := by decide +kernel
theorem dL_acts_292 : decode cL_acts 292 = .ok (.iconst 1, 1) := by decide +kernel
theorem dL_acts_293 : decode cL_acts 293 = .ok (.goto 4, 3) := by decide +kernel
theorem dL_acts_296 : decode cL_acts 296 = .ok (.iconst 0, 1) := by decide +kernel
theorem dL_acts_297 : decode cL_acts 297 = .ok (.ireturn, 1) := by decide +kernel
theorem dL_acts_298 : decode cL_acts 298 = .ok (.iload 8, 2) := by decide +kernel
theorem dL_acts_300 : decode cL_acts 300 = .ok (.ifCond .eq 20, 3) := by decide +kernel
theorem dL_acts_303 : decode cL_acts 303 = .ok (.aload_n 0, 1) := by decide +kernel
theorem dL_acts_304 : decode cL_acts 304 = .ok (.iconst 0, 1) := by decide +kernel
theorem dL_acts_305 : decode cL_acts 305 = .ok (.iconst 5, 1) := by decide +kernel
theorem dL_acts_306 : decode cL_acts 306 = .ok (.invokestatic 29, 3) := by decide +kernel
theorem dL_acts_309 : decode cL_acts 309 = .ok (.ldc 28, 2) := by decide +kernel
theorem dL_acts_311 : decode cL_acts 311 = .ok (.if_icmp .ne 7, 3) := by decide +kernel
theorem dL_acts_314 : decode cL_acts 314 = .ok (.iconst 1, 1) := by decide +kernel
theorem dL_acts_315 : decode cL_acts 315 = .ok (.goto 4, 3) := by decide +kernel
theorem dL_acts_318 : decode cL_acts 318 = .ok (.iconst 0, 1) := by decide +kernel
theorem dL_acts_319 : decode cL_acts 319 = .ok (.ireturn, 1) := by decide +kernel
theorem dL_acts_320 : decode cL_acts 320 = .ok (.aload_n 2, 1) := by decide +kernel
theorem dL_acts_321 : decode cL_acts 321 = .ok (.bipush 8, 2) := by decide +kernel
theorem dL_acts_323 : decode cL_acts 323 = .ok (.iload 7, 2) := by decide +kernel
theorem dL_acts_325 : decode cL_acts 325 = .ok (.imul, 1) := by decide +kernel
theorem dL_acts_326 : decode cL_acts 326 = .ok (.iconst 5, 1) := by decide +kernel
theorem dL_acts_327 : decode cL_acts 327 = .ok (.iadd, 1) := by decide +kernel
theorem dL_acts_328 : decode cL_acts 328 = .ok (.iaload, 1) := by decide +kernel
theorem dL_acts_329 : decode cL_acts 329 = .ok (.istore 11, 2) := by decide +kernel
theorem dL_acts_331 : decode cL_acts 331 = .ok (.aload_n 2, 1) := by decide +kernel
theorem dL_acts_332 : decode cL_acts 332 = .ok (.bipush 8, 2) := by decide +kernel
theorem dL_acts_334 : decode cL_acts 334 = .ok (.iload 7, 2) := by decide +kernel
theorem dL_acts_336 : decode cL_acts 336 = .ok (.imul, 1) := by decide +kernel
theorem dL_acts_337 : decode cL_acts 337 = .ok (.iconst 5, 1) := by decide +kernel
theorem dL_acts_338 : decode cL_acts 338 = .ok (.iadd, 1) := by decide +kernel
theorem dL_acts_339 : decode cL_acts 339 = .ok (.iload 6, 2) := by decide +kernel
theorem dL_acts_341 : decode cL_acts 341 = .ok (.iconst 3, 1) := by decide +kernel
theorem dL_acts_342 : decode cL_acts 342 = .ok (.irem, 1) := by decide +kernel
theorem dL_acts_343 : decode cL_acts 343 = .ok (.ifCond .ne 7, 3) := by decide +kernel
theorem dL_acts_346 : decode cL_acts 346 = .ok (.iconst 0, 1) := by decide +kernel
theorem dL_acts_347 : decode cL_acts 347 = .ok (.goto 10, 3) := by decide +kernel
theorem dL_acts_350 : decode cL_acts 350 = .ok (.iload 6, 2) := by decide +kernel
theorem dL_acts_352 : decode cL_acts 352 = .ok (.iconst 3, 1) := by decide +kernel
theorem dL_acts_353 : decode cL_acts 353 = .ok (.idiv, 1) := by decide +kernel
theorem dL_acts_354 : decode cL_acts 354 = .ok (.bipush 101, 2) := by decide +kernel
theorem dL_acts_356 : decode cL_acts 356 = .ok (.irem, 1) := by decide +kernel
theorem dL_acts_357 : decode cL_acts 357 = .ok (.iastore, 1) := by decide +kernel
theorem dL_acts_358 : decode cL_acts 358 = .ok (.aload_n 0, 1) := by decide +kernel
theorem dL_acts_359 : decode cL_acts 359 = .ok (.iload 7, 2) := by decide +kernel
theorem dL_acts_361 : decode cL_acts 361 = .ok (.aload_n 2, 1) := by decide +kernel
theorem dL_acts_362 : decode cL_acts 362 = .ok (.bipush 8, 2) := by decide +kernel
theorem dL_acts_364 : decode cL_acts 364 = .ok (.iload 7, 2) := by decide +kernel
theorem dL_acts_366 : decode cL_acts 366 = .ok (.imul, 1) := by decide +kernel
theorem dL_acts_367 : decode cL_acts 367 = .ok (.iconst 5, 1) := by decide +kernel
theorem dL_acts_368 : decode cL_acts 368 = .ok (.iadd, 1) := by decide +kernel
theorem dL_acts_369 : decode cL_acts 369 = .ok (.iaload, 1) := by decide +kernel
theorem dL_acts_370 : decode cL_acts 370 = .ok (.invokestatic 29, 3) := by decide +kernel
theorem dL_acts_373 : decode cL_acts 373 = .ok (.iload 11, 2) := by decide +kernel
theorem dL_acts_375 : decode cL_acts 375 = .ok (.if_icmp .ne 7, 3) := by decide +kernel
theorem dL_acts_378 : decode cL_acts 378 = .ok (.iconst 1, 1) := by decide +kernel
theorem dL_acts_379 : decode cL_acts 379 = .ok (.goto 4, 3) := by decide +kernel
theorem dL_acts_382 : decode cL_acts 382 = .ok (.iconst 0, 1) := by decide +kernel
theorem dL_acts_383 : decode cL_acts 383 = .ok (.ireturn, 1) := by decide +kernel
theorem dL_acts_384 : decode cL_acts 384 = .ok (.aload_n 1, 1) := by decide +kernel
theorem dL_acts_385 : decode cL_acts 385 = .ok (.bipush 6, 2) := by decide +kernel
theorem dL_acts_387 : decode cL_acts 387 = .ok (.iaload, 1) := by decide +kernel
theorem dL_acts_388 : decode cL_acts 388 = .ok (.iconst 4, 1) := by decide +kernel
theorem dL_acts_389 : decode cL_acts 389 = .ok (.if_icmp .ne 21, 3) := by decide +kernel
theorem dL_acts_392 : decode cL_acts 392 = .ok (.aload_n 0, 1) := by decide +kernel
theorem dL_acts_393 : decode cL_acts 393 = .ok (.iconst 1, 1) := by decide +kernel
theorem dL_acts_394 : decode cL_acts 394 = .ok (.iconst 0, 1) := by decide +kernel
theorem dL_acts_395 : decode cL_acts 395 = .ok (.iconst 1, 1) := by decide +kernel
theorem dL_acts_396 : decode cL_acts 396 = .ok (.invokestatic 32, 3) := by decide +kernel
theorem dL_acts_399 : decode cL_acts 399 = .ok (.ldc 35, 2) := by decide +kernel
theorem dL_acts_401 : decode cL_acts 401 = .ok (.if_icmp .ne 7, 3) := by decide +kernel
theorem dL_acts_404 : decode cL_acts 404 = .ok (.iconst 1, 1) := by decide +kernel
theorem dL_acts_405 : decode cL_acts 405 = .ok (.goto 4, 3) := by decide +kernel
theorem dL_acts_408 : decode cL_acts 408 = .ok (.iconst 0, 1) := by decide +kernel
theorem dL_acts_409 : decode cL_acts 409 = .ok (.ireturn, 1) := by decide +kernel
theorem dL_acts_410 : decode cL_acts 410 = .ok (.iconst 3, 1) := by decide +kernel
theorem dL_acts_411 : decode cL_acts 411 = .ok (.aload_n 1, 1) := by decide +kernel
theorem dL_acts_412 : decode cL_acts 412 = .ok (.bipush 6, 2) := by decide +kernel
theorem dL_acts_414 : decode cL_acts 414 = .ok (.iaload, 1) := by decide +kernel
theorem dL_acts_415 : decode cL_acts 415 = .ok (.imul, 1) := by decide +kernel
theorem dL_acts_416 : decode cL_acts 416 = .ok (.istore 12, 2) := by decide +kernel
theorem dL_acts_418 : decode cL_acts 418 = .ok (.aload_n 3, 1) := by decide +kernel
theorem dL_acts_419 : decode cL_acts 419 = .ok (.iload 12, 2) := by decide +kernel
theorem dL_acts_421 : decode cL_acts 421 = .ok (.iconst 1, 1) := by decide +kernel
theorem dL_acts_422 : decode cL_acts 422 = .ok (.iload 6, 2) := by decide +kernel
theorem dL_acts_424 : decode cL_acts 424 = .ok (.iload 6, 2) := by decide +kernel
theorem dL_acts_426 : decode cL_acts 426 = .ok (.iconst 2, 1) := by decide +kernel
theorem dL_acts_427 : decode cL_acts 427 = .ok (.irem, 1) := by decide +kernel
theorem dL_acts_428 : decode cL_acts 428 = .ok (.ifCond .ne 8, 3) := by decide +kernel
theorem dL_acts_431 : decode cL_acts 431 = .ok (.ldc 36, 2) := by decide +kernel
theorem dL_acts_433 : decode cL_acts 433 = .ok (.goto 5, 3) := by decide +kernel
theorem dL_acts_436 : decode cL_acts 436 = .ok (.ldc 37, 2) := by decide +kernel
theorem dL_acts_438 : decode cL_acts 438 = .ok (.irem, 1) := by decide +kernel
theorem dL_acts_439 : decode cL_acts 439 = .ok (.iadd, 1) := by decide +kernel
theorem dL_acts_440 : decode cL_acts 440 = .ok (.iastore, 1) := by decide +kernel
theorem dL_acts_441 : decode cL_acts 441 = .ok (.aload_n 3, 1) := by decide +kernel
theorem dL_acts_442 : decode cL_acts 442 = .ok (.iload 12, 2) := by decide +kernel
theorem dL_acts_444 : decode cL_acts 444 = .ok (.iconst 1, 1) := by decide +kernel
theorem dL_acts_445 : decode cL_acts 445 = .ok (.iadd, 1) := by decide +kernel
theorem dL_acts_446 : decode cL_acts 446 = .ok (.iload 6, 2) := by decide +kernel
theorem dL_acts_448 : decode cL_acts 448 = .ok (.iconst 5, 1) := by decide +kernel
theorem dL_acts_449 : decode cL_acts 449 = .ok (.idiv, 1) := by decide +kernel
theorem dL_acts_450 : decode cL_acts 450 = .ok (.aload_n 3, 1) := by decide +kernel
theorem dL_acts_451 : decode cL_acts 451 = .ok (.iload 12, 2) := by decide +kernel
theorem dL_acts_453 : decode cL_acts 453 = .ok (.iaload, 1) := by decide +kernel
theorem dL_acts_454 : decode cL_acts 454 = .ok (.iconst 1, 1) := by decide +kernel
theorem dL_acts_455 : decode cL_acts 455 = .ok (.iadd, 1) := by decide +kernel
theorem dL_acts_456 : decode cL_acts 456 = .ok (.irem, 1) := by decide +kernel
theorem dL_acts_457 : decode cL_acts 457 = .ok (.iastore, 1) := by decide +kernel
theorem dL_acts_458 : decode cL_acts 458 = .ok (.aload_n 3, 1) := by decide +kernel
theorem dL_acts_459 : decode cL_acts 459 = .ok (.iload 12, 2) := by decide +kernel
theorem dL_acts_461 : decode cL_acts 461 = .ok (.iconst 2, 1) := by decide +kernel
theorem dL_acts_462 : decode cL_acts 462 = .ok (.iadd, 1) := by decide +kernel
theorem dL_acts_463 : decode cL_acts 463 = .ok (.iload 6, 2) := by decide +kernel
theorem dL_acts_465 : decode cL_acts 465 = .ok (.bipush 7, 2) := by decide +kernel
theorem dL_acts_467 : decode cL_acts 467 = .ok (.idiv, 1) := by decide +kernel
theorem dL_acts_468 : decode cL_acts 468 = .ok (.iload 6, 2) := by decide +kernel
theorem dL_acts_470 : decode cL_acts 470 = .ok (.iconst 3, 1) := by decide +kernel
theorem dL_acts_471 : decode cL_acts 471 = .ok (.irem, 1) := by decide +kernel
theorem dL_acts_472 : decode cL_acts 472 = .ok (.ifCond .ne 8, 3) := by decide +kernel
theorem dL_acts_475 : decode cL_acts 475 = .ok (.bipush 100, 2) := by decide +kernel
theorem dL_acts_477 : decode cL_acts 477 = .ok (.goto 4, 3) := by decide +kernel
theorem dL_acts_480 : decode cL_acts 480 = .ok (.iconst 4, 1) := by decide +kernel
theorem dL_acts_481 : decode cL_acts 481 = .ok (.irem, 1) := by decide +kernel
theorem dL_acts_482 : decode cL_acts 482 = .ok (.iastore, 1) := by decide +kernel
theorem dL_acts_483 : decode cL_acts 483 = .ok (.aload_n 1, 1) := by decide +kernel
theorem dL_acts_484 : decode cL_acts 484 = .ok (.bipush 6, 2) := by decide +kernel
theorem dL_acts_486 : decode cL_acts 486 = .ok (.dup2, 1) := by decide +kernel
theorem dL_acts_487 : decode cL_acts 487 = .ok (.iaload, 1) := by decide +kernel
theorem dL_acts_488 : decode cL_acts 488 = .ok (.iconst 1, 1) := by decide +kernel
theorem dL_acts_489 : decode cL_acts 489 = .ok (.iadd, 1) := by decide +kernel
theorem dL_acts_490 : decode cL_acts 490 = .ok (.iastore, 1) := by decide +kernel
theorem dL_acts_491 : decode cL_acts 491 = .ok (.aload_n 0, 1) := by decide +kernel
theorem dL_acts_492 : decode cL_acts 492 = .ok (.aload_n 3, 1) := by decide +kernel
theorem dL_acts_493 : decode cL_acts 493 = .ok (.iload 12, 2) := by decide +kernel
theorem dL_acts_495 : decode cL_acts 495 = .ok (.iaload, 1) := by decide +kernel
theorem dL_acts_496 : decode cL_acts 496 = .ok (.aload_n 3, 1) := by decide +kernel
theorem dL_acts_497 : decode cL_acts 497 = .ok (.iload 12, 2) := by decide +kernel
theorem dL_acts_499 : decode cL_acts 499 = .ok (.iconst 1, 1) := by decide +kernel
theorem dL_acts_500 : decode cL_acts 500 = .ok (.iadd, 1) := by decide +kernel
theorem dL_acts_501 : decode cL_acts 501 = .ok (.iaload, 1) := by decide +kernel
theorem dL_acts_502 : decode cL_acts 502 = .ok (.aload_n 3, 1) := by decide +kernel
theorem dL_acts_503 : decode cL_acts 503 = .ok (.iload 12, 2) := by decide +kernel
theorem dL_acts_505 : decode cL_acts 505 = .ok (.iconst 2, 1) := by decide +kernel
theorem dL_acts_506 : decode cL_acts 506 = .ok (.iadd, 1) := by decide +kernel
theorem dL_acts_507 : decode cL_acts 507 = .ok (.iaload, 1) := by decide +kernel
theorem dL_acts_508 : decode cL_acts 508 = .ok (.invokestatic 32, 3) := by decide +kernel
theorem dL_acts_511 : decode cL_acts 511 = .ok (.aload_n 1, 1) := by decide +kernel
theorem dL_acts_512 : decode cL_acts 512 = .ok (.bipush 6, 2) := by decide +kernel
theorem dL_acts_514 : decode cL_acts 514 = .ok (.iaload, 1) := by decide +kernel
theorem dL_acts_515 : decode cL_acts 515 = .ok (.iconst 1, 1) := by decide +kernel
theorem dL_acts_516 : decode cL_acts 516 = .ok (.isub, 1) := by decide +kernel
theorem dL_acts_517 : decode cL_acts 517 = .ok (.if_icmp .ne 7, 3) := by decide +kernel
theorem dL_acts_520 : decode cL_acts 520 = .ok (.iconst 1, 1) := by decide +kernel
theorem dL_acts_521 : decode cL_acts 521 = .ok (.goto 4, 3) := by decide +kernel
theorem dL_acts_524 : decode cL_acts 524 = .ok (.iconst 0, 1) := by decide +kernel
theorem dL_acts_525 : decode cL_acts 525 = .ok (.ireturn, 1) := by decide +kernel
theorem dL_acts_526 : decode cL_acts 526 = .ok (.aload_n 1, 1) := by decide +kernel
theorem dL_acts_527 : decode cL_acts 527 = .ok (.bipush 6, 2) := by decide +kernel
theorem dL_acts_529 : decode cL_acts 529 = .ok (.iaload, 1) := by decide +kernel
theorem dL_acts_530 : decode cL_acts 530 = .ok (.ifCond .ne 21, 3) := by decide +kernel
theorem dL_acts_533 : decode cL_acts 533 = .ok (.aload_n 0, 1) := by decide +kernel
theorem dL_acts_534 : decode cL_acts 534 = .ok (.iconst 0, 1) := by decide +kernel
theorem dL_acts_535 : decode cL_acts 535 = .ok (.bipush 100, 2) := by decide +kernel
theorem dL_acts_537 : decode cL_acts 537 = .ok (.invokestatic 38, 3) := by decide +kernel
theorem dL_acts_540 : decode cL_acts 540 = .ok (.ldc 28, 2) := by decide +kernel
theorem dL_acts_542 : decode cL_acts 542 = .ok (.if_icmp .ne 7, 3) := by decide +kernel
theorem dL_acts_545 : decode cL_acts 545 = .ok (.iconst 1, 1) := by decide +kernel
theorem dL_acts_546 : decode cL_acts 546 = .ok (.goto 4, 3) := by decide +kernel
theorem dL_acts_549 : decode cL_acts 549 = .ok (.iconst 0, 1) := by decide +kernel
theorem dL_acts_550 : decode cL_acts 550 = .ok (.ireturn, 1) := by decide +kernel
theorem dL_acts_551 : decode cL_acts 551 = .ok (.iload 6, 2) := by decide +kernel
theorem dL_acts_553 : decode cL_acts 553 = .ok (.aload_n 1, 1) := by decide +kernel
theorem dL_acts_554 : decode cL_acts 554 = .ok (.bipush 6, 2) := by decide +kernel
theorem dL_acts_556 : decode cL_acts 556 = .ok (.iaload, 1) := by decide +kernel
theorem dL_acts_557 : decode cL_acts 557 = .ok (.irem, 1) := by decide +kernel
theorem dL_acts_558 : decode cL_acts 558 = .ok (.istore 13, 2) := by decide +kernel
theorem dL_acts_560 : decode cL_acts 560 = .ok (.aload_n 3, 1) := by decide +kernel
theorem dL_acts_561 : decode cL_acts 561 = .ok (.iconst 3, 1) := by decide +kernel
theorem dL_acts_562 : decode cL_acts 562 = .ok (.iload 13, 2) := by decide +kernel
theorem dL_acts_564 : decode cL_acts 564 = .ok (.imul, 1) := by decide +kernel
theorem dL_acts_565 : decode cL_acts 565 = .ok (.iconst 2, 1) := by decide +kernel
theorem dL_acts_566 : decode cL_acts 566 = .ok (.iadd, 1) := by decide +kernel
theorem dL_acts_567 : decode cL_acts 567 = .ok (.iaload, 1) := by decide +kernel
theorem dL_acts_568 : decode cL_acts 568 = .ok (.istore 14, 2) := by decide +kernel
theorem dL_acts_570 : decode cL_acts 570 = .ok (.aload_n 3, 1) := by decide +kernel
theorem dL_acts_571 : decode cL_acts 571 = .ok (.iconst 3, 1) := by decide +kernel
theorem dL_acts_572 : decode cL_acts 572 = .ok (.iload 13, 2) := by decide +kernel
theorem dL_acts_574 : decode cL_acts 574 = .ok (.imul, 1) := by decide +kernel
theorem dL_acts_575 : decode cL_acts 575 = .ok (.iconst 2, 1) := by decide +kernel
theorem dL_acts_576 : decode cL_acts 576 = .ok (.iadd, 1) := by decide +kernel
theorem dL_acts_577 : decode cL_acts 577 = .ok (.iload 6, 2) := by decide +kernel
theorem dL_acts_579 : decode cL_acts 579 = .ok (.iconst 4, 1) := by decide +kernel
theorem dL_acts_580 : decode cL_acts 580 = .ok (.idiv, 1) := by decide +kernel
theorem dL_acts_581 : decode cL_acts 581 = .ok (.bipush 100, 2) := by decide +kernel
theorem dL_acts_583 : decode cL_acts 583 = .ok (.irem, 1) := by decide +kernel
theorem dL_acts_584 : decode cL_acts 584 = .ok (.iastore, 1) := by decide +kernel
theorem dL_acts_585 : decode cL_acts 585 = .ok (.aload_n 0, 1) := by decide +kernel
theorem dL_acts_586 : decode cL_acts 586 = .ok (.iload 13, 2) := by decide +kernel
theorem dL_acts_588 : decode cL_acts 588 = .ok (.aload_n 3, 1) := by decide +kernel
theorem dL_acts_589 : decode cL_acts 589 = .ok (.iconst 3, 1) := by decide +kernel
theorem dL_acts_590 : decode cL_acts 590 = .ok (.iload 13, 2) := by decide +kernel
theorem dL_acts_592 : decode cL_acts 592 = .ok (.imul, 1) := by decide +kernel
theorem dL_acts_593 : decode cL_acts 593 = .ok (.iconst 2, 1) := by decide +kernel
theorem dL_acts_594 : decode cL_acts 594 = .ok (.iadd, 1) := by decide +kernel
theorem dL_acts_595 : decode cL_acts 595 = .ok (.iaload, 1) := by decide +kernel
theorem dL_acts_596 : decode cL_acts 596 = .ok (.invokestatic 38, 3) := by decide +kernel
theorem dL_acts_599 : decode cL_acts 599 = .ok (.iload 14, 2) := by decide +kernel
theorem dL_acts_601 : decode cL_acts 601 = .ok (.if_icmp .ne 7, 3) := by decide +kernel
theorem dL_acts_604 : decode cL_acts 604 = .ok (.iconst 1, 1) := by decide +kernel
theorem dL_acts_605 : decode cL_acts 605 = .ok (.goto 4, 3) := by decide +kernel
theorem dL_acts_608 : decode cL_acts 608 = .ok (.iconst 0, 1) := by decide +kernel
theorem dL_acts_609 : decode cL_acts 609 = .ok (.ireturn, 1) := by decide +kernel
theorem dL_acts_610 : decode cL_acts 610 = .ok (.aload_n 1, 1) := by decide +kernel
theorem dL_acts_611 : decode cL_acts 611 = .ok (.iconst 2, 1) := by decide +kernel
theorem dL_acts_612 : decode cL_acts 612 = .ok (.iaload, 1) := by decide +kernel
theorem dL_acts_613 : decode cL_acts 613 = .ok (.istore 15, 2) := by decide +kernel
theorem dL_acts_615 : decode cL_acts 615 = .ok (.aload_n 1, 1) := by decide +kernel
theorem dL_acts_616 : decode cL_acts 616 = .ok (.iconst 2, 1) := by decide +kernel
theorem dL_acts_617 : decode cL_acts 617 = .ok (.iload 6, 2) := by decide +kernel
theorem dL_acts_619 : decode cL_acts 619 = .ok (.sipush 1000, 3) := by decide +kernel
theorem dL_acts_622 : decode cL_acts 622 = .ok (.irem, 1) := by decide +kernel
theorem dL_acts_623 : decode cL_acts 623 = .ok (.iastore, 1) := by decide +kernel
theorem dL_acts_624 : decode cL_acts 624 = .ok (.aload_n 1, 1) := by decide +kernel
theorem dL_acts_625 : decode cL_acts 625 = .ok (.iconst 3, 1) := by decide +kernel
theorem dL_acts_626 : decode cL_acts 626 = .ok (.iload 6, 2) := by decide +kernel
theorem dL_acts_628 : decode cL_acts 628 = .ok (.sipush 1000, 3) := by decide +kernel
theorem dL_acts_631 : decode cL_acts 631 = .ok (.idiv, 1) := by decide +kernel
theorem dL_acts_632 : decode cL_acts 632 = .ok (.sipush 1201, 3) := by decide +kernel
theorem dL_acts_635 : decode cL_acts 635 = .ok (.irem, 1) := by decide +kernel
theorem dL_acts_636 : decode cL_acts 636 = .ok (.iastore, 1) := by decide +kernel
theorem dL_acts_637 : decode cL_acts 637 = .ok (.aload_n 1, 1) := by decide +kernel
theorem dL_acts_638 : decode cL_acts 638 = .ok (.iconst 4, 1) := by decide +kernel
theorem dL_acts_639 : decode cL_acts 639 = .ok (.iload 6, 2) := by decide +kernel
theorem dL_acts_641 : decode cL_acts 641 = .ok (.bipush 9, 2) := by decide +kernel
theorem dL_acts_643 : decode cL_acts 643 = .ok (.idiv, 1) := by decide +kernel
theorem dL_acts_644 : decode cL_acts 644 = .ok (.bipush 100, 2) := by decide +kernel
theorem dL_acts_646 : decode cL_acts 646 = .ok (.irem, 1) := by decide +kernel
theorem dL_acts_647 : decode cL_acts 647 = .ok (.iastore, 1) := by decide +kernel
theorem dL_acts_648 : decode cL_acts 648 = .ok (.aload_n 0, 1) := by decide +kernel
theorem dL_acts_649 : decode cL_acts 649 = .ok (.aload_n 1, 1) := by decide +kernel
theorem dL_acts_650 : decode cL_acts 650 = .ok (.iconst 2, 1) := by decide +kernel
theorem dL_acts_651 : decode cL_acts 651 = .ok (.iaload, 1) := by decide +kernel
theorem dL_acts_652 : decode cL_acts 652 = .ok (.aload_n 1, 1) := by decide +kernel
theorem dL_acts_653 : decode cL_acts 653 = .ok (.iconst 3, 1) := by decide +kernel
theorem dL_acts_654 : decode cL_acts 654 = .ok (.iaload, 1) := by decide +kernel
theorem dL_acts_655 : decode cL_acts 655 = .ok (.aload_n 1, 1) := by decide +kernel
theorem dL_acts_656 : decode cL_acts 656 = .ok (.iconst 4, 1) := by decide +kernel
theorem dL_acts_657 : decode cL_acts 657 = .ok (.iaload, 1) := by decide +kernel
theorem dL_acts_658 : decode cL_acts 658 = .ok (.invokestatic 41, 3) := by decide +kernel
theorem dL_acts_661 : decode cL_acts 661 = .ok (.iload 15, 2) := by decide +kernel
theorem dL_acts_663 : decode cL_acts 663 = .ok (.if_icmp .ne 7, 3) := by decide +kernel
theorem dL_acts_666 : decode cL_acts 666 = .ok (.iconst 1, 1) := by decide +kernel
theorem dL_acts_667 : decode cL_acts 667 = .ok (.goto 4, 3) := by decide +kernel
theorem dL_acts_670 : decode cL_acts 670 = .ok (.iconst 0, 1) := by decide +kernel
theorem dL_acts_671 : decode cL_acts 671 = .ok (.ireturn, 1) := by decide +kernel
theorem dL_acts_672 : decode cL_acts 672 = .ok (.iconst 1, 1) := by decide +kernel
theorem dL_acts_673 : decode cL_acts 673 = .ok (.iload 6, 2) := by decide +kernel
theorem dL_acts_675 : decode cL_acts 675 = .ok (.bipush 30, 2) := by decide +kernel
theorem dL_acts_677 : decode cL_acts 677 = .ok (.irem, 1) := by decide +kernel
theorem dL_acts_678 : decode cL_acts 678 = .ok (.iadd, 1) := by decide +kernel
theorem dL_acts_679 : decode cL_acts 679 = .ok (.istore 16, 2) := by decide +kernel
theorem dL_acts_681 : decode cL_acts 681 = .ok (.aload_n 1, 1) := by decide +kernel
theorem dL_acts_682 : decode cL_acts 682 = .ok (.bipush 8, 2) := by decide +kernel
theorem dL_acts_684 : decode cL_acts 684 = .ok (.iaload, 1) := by decide +kernel
theorem dL_acts_685 : decode cL_acts 685 = .ok (.iload 16, 2) := by decide +kernel
theorem dL_acts_687 : decode cL_acts 687 = .ok (.iadd, 1) := by decide +kernel
theorem dL_acts_688 : decode cL_acts 688 = .ok (.sipush 200, 3) := by decide +kernel
theorem dL_acts_691 : decode cL_acts 691 = .ok (.if_icmp .le 20, 3) := by decide +kernel
theorem dL_acts_694 : decode cL_acts 694 = .ok (.aload_n 0, 1) := by decide +kernel
theorem dL_acts_695 : decode cL_acts 695 = .ok (.iload 16, 2) := by decide +kernel
theorem dL_acts_697 : decode cL_acts 697 = .ok (.invokestatic 44, 3) := by decide +kernel
theorem dL_acts_700 : decode cL_acts 700 = .ok (.ldc 35, 2) := by decide +kernel
theorem dL_acts_702 : decode cL_acts 702 = .ok (.if_icmp .ne 7, 3) := by decide +kernel
theorem dL_acts_705 : decode cL_acts 705 = .ok (.iconst 1, 1) := by decide +kernel
theorem dL_acts_706 : decode cL_acts 706 = .ok (.goto 4, 3) := by decide +kernel
theorem dL_acts_709 : decode cL_acts 709 = .ok (.iconst 0, 1) := by decide +kernel
theorem dL_acts_710 : decode cL_acts 710 = .ok (.ireturn, 1) := by decide +kernel
theorem dL_acts_711 : decode cL_acts 711 = .ok (.aload_n 1, 1) := by decide +kernel
theorem dL_acts_712 : decode cL_acts 712 = .ok (.aload_n 2, 1) := by decide +kernel
theorem dL_acts_713 : decode cL_acts 713 = .ok (.aload_n 3, 1) := by decide +kernel
theorem dL_acts_714 : decode cL_acts 714 = .ok (.aload 4, 2) := by decide +kernel
theorem dL_acts_716 : decode cL_acts 716 = .ok (.invokestatic 48, 3) := by decide +kernel
theorem dL_acts_719 : decode cL_acts 719 = .ok (.iconst 1, 1) := by decide +kernel
theorem dL_acts_720 : decode cL_acts 720 = .ok (.istore 17, 2) := by decide +kernel
theorem dL_acts_722 : decode cL_acts 722 = .ok (.iload 17, 2) := by decide +kernel
theorem dL_acts_724 : decode cL_acts 724 = .ok (.aload_n 1, 1) := by decide +kernel
theorem dL_acts_725 : decode cL_acts 725 = .ok (.iconst 5, 1) := by decide +kernel
theorem dL_acts_726 : decode cL_acts 726 = .ok (.iaload, 1) := by decide +kernel
theorem dL_acts_727 : decode cL_acts 727 = .ok (.if_icmp .ge 34, 3) := by decide +kernel
theorem dL_acts_730 : decode cL_acts 730 = .ok (.aload_n 2, 1) := by decide +kernel
theorem dL_acts_731 : decode cL_acts 731 = .ok (.bipush 8, 2) := by decide +kernel
theorem dL_acts_733 : decode cL_acts 733 = .ok (.iload 17, 2) := by decide +kernel
theorem dL_acts_735 : decode cL_acts 735 = .ok (.imul, 1) := by decide +kernel
theorem dL_acts_736 : decode cL_acts 736 = .ok (.bipush 7, 2) := by decide +kernel
theorem dL_acts_738 : decode cL_acts 738 = .ok (.iadd, 1) := by decide +kernel
theorem dL_acts_739 : decode cL_acts 739 = .ok (.dup2, 1) := by decide +kernel
theorem dL_acts_740 : decode cL_acts 740 = .ok (.iaload, 1) := by decide +kernel
theorem dL_acts_741 : decode cL_acts 741 = .ok (.iload 16, 2) := by decide +kernel
theorem dL_acts_743 : decode cL_acts 743 = .ok (.aload_n 1, 1) := by decide +kernel
theorem dL_acts_744 : decode cL_acts 744 = .ok (.aload_n 2, 1) := by decide +kernel
theorem dL_acts_745 : decode cL_acts 745 = .ok (.aload 4, 2) := by decide +kernel
theorem dL_acts_747 : decode cL_acts 747 = .ok (.iload 17, 2) := by decide +kernel
theorem dL_acts_749 : decode cL_acts 749 = .ok (.invokestatic 52, 3) := by decide +kernel
theorem dL_acts_752 : decode cL_acts 752 = .ok (.imul, 1) := by decide +kernel
theorem dL_acts_753 : decode cL_acts 753 = .ok (.iadd, 1) := by decide +kernel
theorem dL_acts_754 : decode cL_acts 754 = .ok (.iastore, 1) := by decide +kernel
theorem dL_acts_755 : decode cL_acts 755 = .ok (.iinc 17 1, 3) := by decide +kernel
theorem dL_acts_758 : decode cL_acts 758 = .ok (.goto (-36), 3) := by decide +kernel
theorem dL_acts_761 : decode cL_acts 761 = .ok (.aload_n 1, 1) := by decide +kernel
theorem dL_acts_762 : decode cL_acts 762 = .ok (.bipush 7, 2) := by decide +kernel
theorem dL_acts_764 : decode cL_acts 764 = .ok (.dup2, 1) := by decide +kernel
theorem dL_acts_765 : decode cL_acts 765 = .ok (.iaload, 1) := by decide +kernel
theorem dL_acts_766 : decode cL_acts 766 = .ok (.iload 16, 2) := by decide +kernel
theorem dL_acts_768 : decode cL_acts 768 = .ok (.aload 4, 2) := by decide +kernel
theorem dL_acts_770 : decode cL_acts 770 = .ok (.bipush 37, 2) := by decide +kernel
theorem dL_acts_772 : decode cL_acts 772 = .ok (.iaload, 1) := by decide +kernel
theorem dL_acts_773 : decode cL_acts 773 = .ok (.imul, 1) := by decide +kernel
theorem dL_acts_774 : decode cL_acts 774 = .ok (.iadd, 1) := by decide +kernel
theorem dL_acts_775 : decode cL_acts 775 = .ok (.iastore, 1) := by decide +kernel
theorem dL_acts_776 : decode cL_acts 776 = .ok (.aload_n 1, 1) := by decide +kernel
theorem dL_acts_777 : decode cL_acts 777 = .ok (.bipush 8, 2) := by decide +kernel
theorem dL_acts_779 : decode cL_acts 779 = .ok (.dup2, 1) := by decide +kernel
theorem dL_acts_780 : decode cL_acts 780 = .ok (.iaload, 1) := by decide +kernel
theorem dL_acts_781 : decode cL_acts 781 = .ok (.iload 16, 2) := by decide +kernel
theorem dL_acts_783 : decode cL_acts 783 = .ok (.iadd, 1) := by decide +kernel
theorem dL_acts_784 : decode cL_acts 784 = .ok (.iastore, 1) := by decide +kernel
theorem dL_acts_785 : decode cL_acts 785 = .ok (.aload_n 0, 1) := by decide +kernel
theorem dL_acts_786 : decode cL_acts 786 = .ok (.iload 16, 2) := by decide +kernel
theorem dL_acts_788 : decode cL_acts 788 = .ok (.invokestatic 44, 3) := by decide +kernel
theorem dL_acts_791 : decode cL_acts 791 = .ok (.aload_n 1, 1) := by decide +kernel
theorem dL_acts_792 : decode cL_acts 792 = .ok (.bipush 8, 2) := by decide +kernel
theorem dL_acts_794 : decode cL_acts 794 = .ok (.iaload, 1) := by decide +kernel
theorem dL_acts_795 : decode cL_acts 795 = .ok (.if_icmp .ne 7, 3) := by decide +kernel
theorem dL_acts_798 : decode cL_acts 798 = .ok (.iconst 1, 1) := by decide +kernel
theorem dL_acts_799 : decode cL_acts 799 = .ok (.goto 4, 3) := by decide +kernel
theorem dL_acts_802 : decode cL_acts 802 = .ok (.iconst 0, 1) := by decide +kernel
theorem dL_acts_803 : decode cL_acts 803 = .ok (.ireturn, 1) := by decide +kernel
theorem dL_acts_804 : decode cL_acts 804 = .ok (.iload 8, 2) := by decide +kernel
theorem dL_acts_806 : decode cL_acts 806 = .ok (.ifCond .eq 20, 3) := by decide +kernel
theorem dL_acts_809 : decode cL_acts 809 = .ok (.aload_n 0, 1) := by decide +kernel
theorem dL_acts_810 : decode cL_acts 810 = .ok (.iconst 0, 1) := by decide +kernel
theorem dL_acts_811 : decode cL_acts 811 = .ok (.iconst 1, 1) := by decide +kernel
theorem dL_acts_812 : decode cL_acts 812 = .ok (.invokestatic 56, 3) := by decide +kernel
theorem dL_acts_815 : decode cL_acts 815 = .ok (.ldc 28, 2) := by decide +kernel
theorem dL_acts_817 : decode cL_acts 817 = .ok (.if_icmp .ne 7, 3) := by decide +kernel
theorem dL_acts_820 : decode cL_acts 820 = .ok (.iconst 1, 1) := by decide +kernel
theorem dL_acts_821 : decode cL_acts 821 = .ok (.goto 4, 3) := by decide +kernel
theorem dL_acts_824 : decode cL_acts 824 = .ok (.iconst 0, 1) := by decide +kernel
theorem dL_acts_825 : decode cL_acts 825 = .ok (.ireturn, 1) := by decide +kernel
theorem dL_acts_826 : decode cL_acts 826 = .ok (.aload_n 2, 1) := by decide +kernel
theorem dL_acts_827 : decode cL_acts 827 = .ok (.bipush 8, 2) := by decide +kernel
theorem dL_acts_829 : decode cL_acts 829 = .ok (.iload 7, 2) := by decide +kernel
theorem dL_acts_831 : decode cL_acts 831 = .ok (.imul, 1) := by decide +kernel
theorem dL_acts_832 : decode cL_acts 832 = .ok (.bipush 6, 2) := by decide +kernel
theorem dL_acts_834 : decode cL_acts 834 = .ok (.iadd, 1) := by decide +kernel
theorem dL_acts_835 : decode cL_acts 835 = .ok (.iload 6, 2) := by decide +kernel
theorem dL_acts_837 : decode cL_acts 837 = .ok (.iconst 5, 1) := by decide +kernel
theorem dL_acts_838 : decode cL_acts 838 = .ok (.irem, 1) := by decide +kernel
theorem dL_acts_839 : decode cL_acts 839 = .ok (.iconst 2, 1) := by decide +kernel
theorem dL_acts_840 : decode cL_acts 840 = .ok (.if_icmp .le 7, 3) := by decide +kernel
theorem dL_acts_843 : decode cL_acts 843 = .ok (.iconst 1, 1) := by decide +kernel
theorem dL_acts_844 : decode cL_acts 844 = .ok (.goto 4, 3) := by decide +kernel
theorem dL_acts_847 : decode cL_acts 847 = .ok (.iconst 0, 1) := by decide +kernel
theorem dL_acts_848 : decode cL_acts 848 = .ok (.iastore, 1) := by decide +kernel
theorem dL_acts_849 : decode cL_acts 849 = .ok (.iconst 0, 1) := by decide +kernel
theorem dL_acts_850 : decode cL_acts 850 = .ok (.istore 17, 2) := by decide +kernel
theorem dL_acts_852 : decode cL_acts 852 = .ok (.iconst 1, 1) := by decide +kernel
theorem dL_acts_853 : decode cL_acts 853 = .ok (.istore 18, 2) := by decide +kernel
theorem dL_acts_855 : decode cL_acts 855 = .ok (.iload 18, 2) := by decide +kernel
theorem dL_acts_857 : decode cL_acts 857 = .ok (.aload_n 1, 1) := by decide +kernel
theorem dL_acts_858 : decode cL_acts 858 = .ok (.iconst 5, 1) := by decide +kernel
theorem dL_acts_859 : decode cL_acts 859 = .ok (.iaload, 1) := by decide +kernel
theorem dL_acts_860 : decode cL_acts 860 = .ok (.if_icmp .ge 24, 3) := by decide +kernel
theorem dL_acts_863 : decode cL_acts 863 = .ok (.iload 17, 2) := by decide +kernel
theorem dL_acts_865 : decode cL_acts 865 = .ok (.aload_n 2, 1) := by decide +kernel
theorem dL_acts_866 : decode cL_acts 866 = .ok (.bipush 8, 2) := by decide +kernel
theorem dL_acts_868 : decode cL_acts 868 = .ok (.iload 18, 2) := by decide +kernel
theorem dL_acts_870 : decode cL_acts 870 = .ok (.imul, 1) := by decide +kernel
theorem dL_acts_871 : decode cL_acts 871 = .ok (.bipush 6, 2) := by decide +kernel
theorem dL_acts_873 : decode cL_acts 873 = .ok (.iadd, 1) := by decide +kernel
theorem dL_acts_874 : decode cL_acts 874 = .ok (.iaload, 1) := by decide +kernel
theorem dL_acts_875 : decode cL_acts 875 = .ok (.iadd, 1) := by decide +kernel
theorem dL_acts_876 : decode cL_acts 876 = .ok (.istore 17, 2) := by decide +kernel
theorem dL_acts_878 : decode cL_acts 878 = .ok (.iinc 18 1, 3) := by decide +kernel
theorem dL_acts_881 : decode cL_acts 881 = .ok (.goto (-26), 3) := by decide +kernel
theorem dL_acts_884 : decode cL_acts 884 = .ok (.aload_n 0, 1) := by decide +kernel
theorem dL_acts_885 : decode cL_acts 885 = .ok (.iload 7, 2) := by decide +kernel
theorem dL_acts_887 : decode cL_acts 887 = .ok (.iload 6, 2) := by decide +kernel
theorem dL_acts_889 : decode cL_acts 889 = .ok (.iconst 5, 1) := by decide +kernel
theorem dL_acts_890 : decode cL_acts 890 = .ok (.irem, 1) := by decide +kernel
theorem dL_acts_891 : decode cL_acts 891 = .ok (.iconst 2, 1) := by decide +kernel
theorem dL_acts_892 : decode cL_acts 892 = .ok (.if_icmp .le 7, 3) := by decide +kernel
theorem dL_acts_895 : decode cL_acts 895 = .ok (.iconst 1, 1) := by decide +kernel
