theorem dX1_seats_73 : decode cX1_seats 73 = .ok (.aload_n 0, 1) := by decide +kernel
theorem dX1_seats_74 : decode cX1_seats 74 = .ok (.getfield 23, 3) := by decide +kernel
theorem dX1_seats_77 : decode cX1_seats 77 = .ok (.if_icmp .ge 88, 3) := by decide +kernel
theorem dX1_seats_80 : decode cX1_seats 80 = .ok (.aload_n 0, 1) := by decide +kernel
theorem dX1_seats_81 : decode cX1_seats 81 = .ok (.getfield 27, 3) := by decide +kernel
theorem dX1_seats_84 : decode cX1_seats 84 = .ok (.iload 7, 2) := by decide +kernel
theorem dX1_seats_86 : decode cX1_seats 86 = .ok (.iload_n 3, 1) := by decide +kernel
theorem dX1_seats_87 : decode cX1_seats 87 = .ok (.ifCond .ne 25, 3) := by decide +kernel
theorem dX1_seats_90 : decode cX1_seats 90 = .ok (.iload_n 2, 1) := by decide +kernel
theorem dX1_seats_91 : decode cX1_seats 91 = .ok (.i2l, 1) := by decide +kernel
theorem dX1_seats_92 : decode cX1_seats 92 = .ok (.aload_n 0, 1) := by decide +kernel
theorem dX1_seats_93 : decode cX1_seats 93 = .ok (.getfield 16, 3) := by decide +kernel
theorem dX1_seats_96 : decode cX1_seats 96 = .ok (.bipush 8, 2) := by decide +kernel
theorem dX1_seats_98 : decode cX1_seats 98 = .ok (.iload_n 1, 1) := by decide +kernel
theorem dX1_seats_99 : decode cX1_seats 99 = .ok (.imul, 1) := by decide +kernel
theorem dX1_seats_100 : decode cX1_seats 100 = .ok (.iload 7, 2) := by decide +kernel
theorem dX1_seats_102 : decode cX1_seats 102 = .ok (.iadd, 1) := by decide +kernel
theorem dX1_seats_103 : decode cX1_seats 103 = .ok (.laload, 1) := by decide +kernel
theorem dX1_seats_104 : decode cX1_seats 104 = .ok (.lmul, 1) := by decide +kernel
theorem dX1_seats_105 : decode cX1_seats 105 = .ok (.lload 4, 2) := by decide +kernel
theorem dX1_seats_107 : decode cX1_seats 107 = .ok (.ldiv, 1) := by decide +kernel
theorem dX1_seats_108 : decode cX1_seats 108 = .ok (.l2i, 1) := by decide +kernel
theorem dX1_seats_109 : decode cX1_seats 109 = .ok (.goto 4, 3) := by decide +kernel
theorem dX1_seats_112 : decode cX1_seats 112 = .ok (.iconst 0, 1) := by decide +kernel
theorem dX1_seats_113 : decode cX1_seats 113 = .ok (.iastore, 1) := by decide +kernel
theorem dX1_seats_114 : decode cX1_seats 114 = .ok (.aload_n 0, 1) := by decide +kernel
theorem dX1_seats_115 : decode cX1_seats 115 = .ok (.getfield 30, 3) := by decide +kernel
theorem dX1_seats_118 : decode cX1_seats 118 = .ok (.iload 7, 2) := by decide +kernel
theorem dX1_seats_120 : decode cX1_seats 120 = .ok (.iload_n 3, 1) := by decide +kernel
theorem dX1_seats_121 : decode cX1_seats 121 = .ok (.ifCond .ne 24, 3) := by decide +kernel
theorem dX1_seats_124 : decode cX1_seats 124 = .ok (.iload_n 2, 1) := by decide +kernel
theorem dX1_seats_125 : decode cX1_seats 125 = .ok (.i2l, 1) := by decide +kernel
theorem dX1_seats_126 : decode cX1_seats 126 = .ok (.aload_n 0, 1) := by decide +kernel
theorem dX1_seats_127 : decode cX1_seats 127 = .ok (.getfield 16, 3) := by decide +kernel
theorem dX1_seats_130 : decode cX1_seats 130 = .ok (.bipush 8, 2) := by decide +kernel
theorem dX1_seats_132 : decode cX1_seats 132 = .ok (.iload_n 1, 1) := by decide +kernel
theorem dX1_seats_133 : decode cX1_seats 133 = .ok (.imul, 1) := by decide +kernel
theorem dX1_seats_134 : decode cX1_seats 134 = .ok (.iload 7, 2) := by decide +kernel
theorem dX1_seats_136 : decode cX1_seats 136 = .ok (.iadd, 1) := by decide +kernel
theorem dX1_seats_137 : decode cX1_seats 137 = .ok (.laload, 1) := by decide +kernel
theorem dX1_seats_138 : decode cX1_seats 138 = .ok (.lmul, 1) := by decide +kernel
theorem dX1_seats_139 : decode cX1_seats 139 = .ok (.lload 4, 2) := by decide +kernel
theorem dX1_seats_141 : decode cX1_seats 141 = .ok (.lrem, 1) := by decide +kernel
theorem dX1_seats_142 : decode cX1_seats 142 = .ok (.goto 4, 3) := by decide +kernel
theorem dX1_seats_145 : decode cX1_seats 145 = .ok (.lconst 0, 1) := by decide +kernel
theorem dX1_seats_146 : decode cX1_seats 146 = .ok (.lastore, 1) := by decide +kernel
theorem dX1_seats_147 : decode cX1_seats 147 = .ok (.iload 6, 2) := by decide +kernel
theorem dX1_seats_149 : decode cX1_seats 149 = .ok (.aload_n 0, 1) := by decide +kernel
theorem dX1_seats_150 : decode cX1_seats 150 = .ok (.getfield 27, 3) := by decide +kernel
theorem dX1_seats_153 : decode cX1_seats 153 = .ok (.iload 7, 2) := by decide +kernel
theorem dX1_seats_155 : decode cX1_seats 155 = .ok (.iaload, 1) := by decide +kernel
theorem dX1_seats_156 : decode cX1_seats 156 = .ok (.isub, 1) := by decide +kernel
theorem dX1_seats_157 : decode cX1_seats 157 = .ok (.istore 6, 2) := by decide +kernel
theorem dX1_seats_159 : decode cX1_seats 159 = .ok (.iinc 7 1, 3) := by decide +kernel
theorem dX1_seats_162 : decode cX1_seats 162 = .ok (.goto (-91), 3) := by decide +kernel
theorem dX1_seats_165 : decode cX1_seats 165 = .ok (.iload 6, 2) := by decide +kernel
theorem dX1_seats_167 : decode cX1_seats 167 = .ok (.ifCond .le 204, 3) := by decide +kernel
theorem dX1_seats_170 : decode cX1_seats 170 = .ok (.iconst 0, 1) := by decide +kernel
theorem dX1_seats_171 : decode cX1_seats 171 = .ok (.istore 7, 2) := by decide +kernel
theorem dX1_seats_173 : decode cX1_seats 173 = .ok (.iconst 1, 1) := by decide +kernel
theorem dX1_seats_174 : decode cX1_seats 174 = .ok (.istore 8, 2) := by decide +kernel
theorem dX1_seats_176 : decode cX1_seats 176 = .ok (.iload 8, 2) := by decide +kernel
theorem dX1_seats_178 : decode cX1_seats 178 = .ok (.aload_n 0, 1) := by decide +kernel
theorem dX1_seats_179 : decode cX1_seats 179 = .ok (.getfield 23, 3) := by decide +kernel
theorem dX1_seats_182 : decode cX1_seats 182 = .ok (.if_icmp .ge 162, 3) := by decide +kernel
theorem dX1_seats_185 : decode cX1_seats 185 = .ok (.iload_n 3, 1) := by decide +kernel
theorem dX1_seats_186 : decode cX1_seats 186 = .ok (.iconst 1, 1) := by decide +kernel
theorem dX1_seats_187 : decode cX1_seats 187 = .ok (.if_icmp .ne 16, 3) := by decide +kernel
theorem dX1_seats_190 : decode cX1_seats 190 = .ok (.aload_n 0, 1) := by decide +kernel
theorem dX1_seats_191 : decode cX1_seats 191 = .ok (.getfield 27, 3) := by decide +kernel
theorem dX1_seats_194 : decode cX1_seats 194 = .ok (.iload 8, 2) := by decide +kernel
theorem dX1_seats_196 : decode cX1_seats 196 = .ok (.iaload, 1) := by decide +kernel
theorem dX1_seats_197 : decode cX1_seats 197 = .ok (.i2l, 1) := by decide +kernel
theorem dX1_seats_198 : decode cX1_seats 198 = .ok (.lconst 1, 1) := by decide +kernel
theorem dX1_seats_199 : decode cX1_seats 199 = .ok (.ladd, 1) := by decide +kernel
theorem dX1_seats_200 : decode cX1_seats 200 = .ok (.goto 17, 3) := by decide +kernel
theorem dX1_seats_203 : decode cX1_seats 203 = .ok (.ldc2_w 133, 3) := by decide +kernel
theorem dX1_seats_206 : decode cX1_seats 206 = .ok (.aload_n 0, 1) := by decide +kernel
theorem dX1_seats_207 : decode cX1_seats 207 = .ok (.getfield 27, 3) := by decide +kernel
theorem dX1_seats_210 : decode cX1_seats 210 = .ok (.iload 8, 2) := by decide +kernel
theorem dX1_seats_212 : decode cX1_seats 212 = .ok (.iaload, 1) := by decide +kernel
theorem dX1_seats_213 : decode cX1_seats 213 = .ok (.i2l, 1) := by decide +kernel
theorem dX1_seats_214 : decode cX1_seats 214 = .ok (.lmul, 1) := by decide +kernel
theorem dX1_seats_215 : decode cX1_seats 215 = .ok (.lconst 1, 1) := by decide +kernel
theorem dX1_seats_216 : decode cX1_seats 216 = .ok (.ladd, 1) := by decide +kernel
theorem dX1_seats_217 : decode cX1_seats 217 = .ok (.lstore 9, 2) := by decide +kernel
theorem dX1_seats_219 : decode cX1_seats 219 = .ok (.iload_n 3, 1) := by decide +kernel
theorem dX1_seats_220 : decode cX1_seats 220 = .ok (.iconst 1, 1) := by decide +kernel
theorem dX1_seats_221 : decode cX1_seats 221 = .ok (.if_icmp .ne 16, 3) := by decide +kernel
theorem dX1_seats_224 : decode cX1_seats 224 = .ok (.aload_n 0, 1) := by decide +kernel
theorem dX1_seats_225 : decode cX1_seats 225 = .ok (.getfield 27, 3) := by decide +kernel
theorem dX1_seats_228 : decode cX1_seats 228 = .ok (.iload 7, 2) := by decide +kernel
theorem dX1_seats_230 : decode cX1_seats 230 = .ok (.iaload, 1) := by decide +kernel
theorem dX1_seats_231 : decode cX1_seats 231 = .ok (.i2l, 1) := by decide +kernel
theorem dX1_seats_232 : decode cX1_seats 232 = .ok (.lconst 1, 1) := by decide +kernel
theorem dX1_seats_233 : decode cX1_seats 233 = .ok (.ladd, 1) := by decide +kernel
theorem dX1_seats_234 : decode cX1_seats 234 = .ok (.goto 17, 3) := by decide +kernel
theorem dX1_seats_237 : decode cX1_seats 237 = .ok (.ldc2_w 133, 3) := by decide +kernel
theorem dX1_seats_240 : decode cX1_seats 240 = .ok (.aload_n 0, 1) := by decide +kernel
theorem dX1_seats_241 : decode cX1_seats 241 = .ok (.getfield 27, 3) := by decide +kernel
theorem dX1_seats_244 : decode cX1_seats 244 = .ok (.iload 7, 2) := by decide +kernel
theorem dX1_seats_246 : decode cX1_seats 246 = .ok (.iaload, 1) := by decide +kernel
theorem dX1_seats_247 : decode cX1_seats 247 = .ok (.i2l, 1) := by decide +kernel
theorem dX1_seats_248 : decode cX1_seats 248 = .ok (.lmul, 1) := by decide +kernel
theorem dX1_seats_249 : decode cX1_seats 249 = .ok (.lconst 1, 1) := by decide +kernel
theorem dX1_seats_250 : decode cX1_seats 250 = .ok (.ladd, 1) := by decide +kernel
theorem dX1_seats_251 : decode cX1_seats 251 = .ok (.lstore 11, 2) := by decide +kernel
theorem dX1_seats_253 : decode cX1_seats 253 = .ok (.iload_n 3, 1) := by decide +kernel
theorem dX1_seats_254 : decode cX1_seats 254 = .ok (.ifCond .ne 29, 3) := by decide +kernel
theorem dX1_seats_257 : decode cX1_seats 257 = .ok (.aload_n 0, 1) := by decide +kernel
theorem dX1_seats_258 : decode cX1_seats 258 = .ok (.getfield 30, 3) := by decide +kernel
theorem dX1_seats_261 : decode cX1_seats 261 = .ok (.iload 8, 2) := by decide +kernel
theorem dX1_seats_263 : decode cX1_seats 263 = .ok (.laload, 1) := by decide +kernel
theorem dX1_seats_264 : decode cX1_seats 264 = .ok (.aload_n 0, 1) := by decide +kernel
theorem dX1_seats_265 : decode cX1_seats 265 = .ok (.getfield 30, 3) := by decide +kernel
theorem dX1_seats_268 : decode cX1_seats 268 = .ok (.iload 7, 2) := by decide +kernel
theorem dX1_seats_270 : decode cX1_seats 270 = .ok (.laload, 1) := by decide +kernel
theorem dX1_seats_271 : decode cX1_seats 271 = .ok (.lcmp, 1) := by decide +kernel
theorem dX1_seats_272 : decode cX1_seats 272 = .ok (.ifCond .le 7, 3) := by decide +kernel
theorem dX1_seats_275 : decode cX1_seats 275 = .ok (.iconst 1, 1) := by decide +kernel
theorem dX1_seats_276 : decode cX1_seats 276 = .ok (.goto 46, 3) := by decide +kernel
theorem dX1_seats_279 : decode cX1_seats 279 = .ok (.iconst 0, 1) := by decide +kernel
theorem dX1_seats_280 : decode cX1_seats 280 = .ok (.goto 42, 3) := by decide +kernel
theorem dX1_seats_283 : decode cX1_seats 283 = .ok (.aload_n 0, 1) := by decide +kernel
theorem dX1_seats_284 : decode cX1_seats 284 = .ok (.getfield 16, 3) := by decide +kernel
theorem dX1_seats_287 : decode cX1_seats 287 = .ok (.bipush 8, 2) := by decide +kernel
theorem dX1_seats_289 : decode cX1_seats 289 = .ok (.iload_n 1, 1) := by decide +kernel
theorem dX1_seats_290 : decode cX1_seats 290 = .ok (.imul, 1) := by decide +kernel
theorem dX1_seats_291 : decode cX1_seats 291 = .ok (.iload 8, 2) := by decide +kernel
theorem dX1_seats_293 : decode cX1_seats 293 = .ok (.iadd, 1) := by decide +kernel
theorem dX1_seats_294 : decode cX1_seats 294 = .ok (.laload, 1) := by decide +kernel
theorem dX1_seats_295 : decode cX1_seats 295 = .ok (.lload 11, 2) := by decide +kernel
theorem dX1_seats_297 : decode cX1_seats 297 = .ok (.lmul, 1) := by decide +kernel
theorem dX1_seats_298 : decode cX1_seats 298 = .ok (.aload_n 0, 1) := by decide +kernel
theorem dX1_seats_299 : decode cX1_seats 299 = .ok (.getfield 16, 3) := by decide +kernel
theorem dX1_seats_302 : decode cX1_seats 302 = .ok (.bipush 8, 2) := by decide +kernel
theorem dX1_seats_304 : decode cX1_seats 304 = .ok (.iload_n 1, 1) := by decide +kernel
theorem dX1_seats_305 : decode cX1_seats 305 = .ok (.imul, 1) := by decide +kernel
theorem dX1_seats_306 : decode cX1_seats 306 = .ok (.iload 7, 2) := by decide +kernel
theorem dX1_seats_308 : decode cX1_seats 308 = .ok (.iadd, 1) := by decide +kernel
theorem dX1_seats_309 : decode cX1_seats 309 = .ok (.laload, 1) := by decide +kernel
theorem dX1_seats_310 : decode cX1_seats 310 = .ok (.lload 9, 2) := by decide +kernel
theorem dX1_seats_312 : decode cX1_seats 312 = .ok (.lmul, 1) := by decide +kernel
theorem dX1_seats_313 : decode cX1_seats 313 = .ok (.lcmp, 1) := by decide +kernel
theorem dX1_seats_314 : decode cX1_seats 314 = .ok (.ifCond .le 7, 3) := by decide +kernel
theorem dX1_seats_317 : decode cX1_seats 317 = .ok (.iconst 1, 1) := by decide +kernel
theorem dX1_seats_318 : decode cX1_seats 318 = .ok (.goto 4, 3) := by decide +kernel
theorem dX1_seats_321 : decode cX1_seats 321 = .ok (.iconst 0, 1) := by decide +kernel
theorem dX1_seats_322 : decode cX1_seats 322 = .ok (.istore 13, 2) := by decide +kernel
theorem dX1_seats_324 : decode cX1_seats 324 = .ok (.iload 13, 2) := by decide +kernel
theorem dX1_seats_326 : decode cX1_seats 326 = .ok (.ifCond .eq 8, 3) := by decide +kernel
theorem dX1_seats_329 : decode cX1_seats 329 = .ok (.iload 8, 2) := by decide +kernel
theorem dX1_seats_331 : decode cX1_seats 331 = .ok (.goto 5, 3) := by decide +kernel
theorem dX1_seats_334 : decode cX1_seats 334 = .ok (.iload 7, 2) := by decide +kernel
theorem dX1_seats_336 : decode cX1_seats 336 = .ok (.istore 7, 2) := by decide +kernel
theorem dX1_seats_338 : decode cX1_seats 338 = .ok (.iinc 8 1, 3) := by decide +kernel
theorem dX1_seats_341 : decode cX1_seats 341 = .ok (.goto (-165), 3) := by decide +kernel
theorem dX1_seats_344 : decode cX1_seats 344 = .ok (.aload_n 0, 1) := by decide +kernel
theorem dX1_seats_345 : decode cX1_seats 345 = .ok (.getfield 27, 3) := by decide +kernel
theorem dX1_seats_348 : decode cX1_seats 348 = .ok (.iload 7, 2) := by decide +kernel
theorem dX1_seats_350 : decode cX1_seats 350 = .ok (.dup2, 1) := by decide +kernel
theorem dX1_seats_351 : decode cX1_seats 351 = .ok (.iaload, 1) := by decide +kernel
theorem dX1_seats_352 : decode cX1_seats 352 = .ok (.iconst 1, 1) := by decide +kernel
theorem dX1_seats_353 : decode cX1_seats 353 = .ok (.iadd, 1) := by decide +kernel
theorem dX1_seats_354 : decode cX1_seats 354 = .ok (.iastore, 1) := by decide +kernel
theorem dX1_seats_355 : decode cX1_seats 355 = .ok (.aload_n 0, 1) := by decide +kernel
theorem dX1_seats_356 : decode cX1_seats 356 = .ok (.getfield 30, 3) := by decide +kernel
theorem dX1_seats_359 : decode cX1_seats 359 = .ok (.iload 7, 2) := by decide +kernel
theorem dX1_seats_361 : decode cX1_seats 361 = .ok (.ldc2_w 67, 3) := by decide +kernel
theorem dX1_seats_364 : decode cX1_seats 364 = .ok (.lastore, 1) := by decide +kernel
theorem dX1_seats_365 : decode cX1_seats 365 = .ok (.iinc 6 (-1), 3) := by decide +kernel
theorem dX1_seats_368 : decode cX1_seats 368 = .ok (.goto (-203), 3) := by decide +kernel
theorem dX1_seats_371 : decode cX1_seats 371 = .ok (.iconst 0, 1) := by decide +kernel
theorem dX1_seats_372 : decode cX1_seats 372 = .ok (.istore 7, 2) := by decide +kernel
theorem dX1_seats_374 : decode cX1_seats 374 = .ok (.iconst 0, 1) := by decide +kernel
theorem dX1_seats_375 : decode cX1_seats 375 = .ok (.istore 8, 2) := by decide +kernel
theorem dX1_seats_377 : decode cX1_seats 377 = .ok (.iload 8, 2) := by decide +kernel
theorem dX1_seats_379 : decode cX1_seats 379 = .ok (.aload_n 0, 1) := by decide +kernel
theorem dX1_seats_380 : decode cX1_seats 380 = .ok (.getfield 23, 3) := by decide +kernel
theorem dX1_seats_383 : decode cX1_seats 383 = .ok (.if_icmp .ge 29, 3) := by decide +kernel
theorem dX1_seats_386 : decode cX1_seats 386 = .ok (.iload 7, 2) := by decide +kernel
theorem dX1_seats_388 : decode cX1_seats 388 = .ok (.aload_n 0, 1) := by decide +kernel
theorem dX1_seats_389 : decode cX1_seats 389 = .ok (.getfield 27, 3) := by decide +kernel
theorem dX1_seats_392 : decode cX1_seats 392 = .ok (.iload 8, 2) := by decide +kernel
theorem dX1_seats_394 : decode cX1_seats 394 = .ok (.iaload, 1) := by decide +kernel
theorem dX1_seats_395 : decode cX1_seats 395 = .ok (.ifCond .le 7, 3) := by decide +kernel
theorem dX1_seats_398 : decode cX1_seats 398 = .ok (.iconst 1, 1) := by decide +kernel
theorem dX1_seats_399 : decode cX1_seats 399 = .ok (.goto 4, 3) := by decide +kernel
theorem dX1_seats_402 : decode cX1_seats 402 = .ok (.iconst 0, 1) := by decide +kernel
theorem dX1_seats_403 : decode cX1_seats 403 = .ok (.iadd, 1) := by decide +kernel
theorem dX1_seats_404 : decode cX1_seats 404 = .ok (.istore 7, 2) := by decide +kernel
theorem dX1_seats_406 : decode cX1_seats 406 = .ok (.iinc 8 1, 3) := by decide +kernel
theorem dX1_seats_409 : decode cX1_seats 409 = .ok (.goto (-32), 3) := by decide +kernel
theorem dX1_seats_412 : decode cX1_seats 412 = .ok (.iload 7, 2) := by decide +kernel
theorem dX1_seats_414 : decode cX1_seats 414 = .ok (.ireturn, 1) := by decide +kernel
set_option maxRecDepth 20000 in
theorem ggX1_given_X1_isIn : GoodIn wsX1_given wsX1_isIn := goodIn_r _ [7] (by decide +kernel) (by decide +kernel)
set_option maxRecDepth 20000 in
theorem gX1_given_X1_isIn : GoodIn wsX1_given (va_wsS RX1 59 yX1_isIn wsX1_isIn) := goodIn_app (goodIn_of _ (by decide +kernel)) ggX1_given_X1_isIn
theorem dX1_given_0 : decode cX1_given 0 = .ok (.aload_n 0, 1) := by decide +kernel
theorem dX1_given_1 : decode cX1_given 1 = .ok (.iconst 0, 1) := by decide +kernel
theorem dX1_given_2 : decode cX1_given 2 = .ok (.putfield 43, 3) := by decide +kernel
theorem dX1_given_5 : decode cX1_given 5 = .ok (.iload_n 1, 1) := by decide +kernel
theorem dX1_given_6 : decode cX1_given 6 = .ok (.i2l, 1) := by decide +kernel
theorem dX1_given_7 : decode cX1_given 7 = .ok (.lconst 0, 1) := by decide +kernel
theorem dX1_given_8 : decode cX1_given 8 = .ok (.aload_n 0, 1) := by decide +kernel
theorem dX1_given_9 : decode cX1_given 9 = .ok (.getfield 23, 3) := by decide +kernel
theorem dX1_given_12 : decode cX1_given 12 = .ok (.iconst 1, 1) := by decide +kernel
theorem dX1_given_13 : decode cX1_given 13 = .ok (.isub, 1) := by decide +kernel
theorem dX1_given_14 : decode cX1_given 14 = .ok (.i2l, 1) := by decide +kernel
theorem dX1_given_15 : decode cX1_given 15 = .ok (.invokestatic 59, 3) := by decide +kernel
theorem dX1_given_18 : decode cX1_given 18 = .ok (.ifCond .eq 12, 3) := by decide +kernel
theorem dX1_given_21 : decode cX1_given 21 = .ok (.aload_n 0, 1) := by decide +kernel
theorem dX1_given_22 : decode cX1_given 22 = .ok (.getfield 27, 3) := by decide +kernel
theorem dX1_given_25 : decode cX1_given 25 = .ok (.iload_n 1, 1) := by decide +kernel
theorem dX1_given_26 : decode cX1_given 26 = .ok (.iaload, 1) := by decide +kernel
theorem dX1_given_27 : decode cX1_given 27 = .ok (.goto 5, 3) := by decide +kernel
theorem dX1_given_30 : decode cX1_given 30 = .ok (.bipush (-5), 2) := by decide +kernel
theorem dX1_given_32 : decode cX1_given 32 = .ok (.ireturn, 1) := by decide +kernel
set_option maxRecDepth 20000 in
theorem ggX1_choose_X1_divisor : GoodIn wsX1_choose wsX1_divisor := goodIn_r _ [4, 5, 6, 3, 7] (by decide +kernel) (by decide +kernel)
set_option maxRecDepth 20000 in
theorem gX1_choose_X1_divisor : GoodIn wsX1_choose (va_wsS RX1 63 yX1_divisor wsX1_divisor) := goodIn_app (goodIn_of _ (by decide +kernel)) ggX1_choose_X1_divisor
theorem dX1_choose_0 : decode cX1_choose 0 = .ok (.iload_n 1, 1) := by decide +kernel
theorem dX1_choose_1 : decode cX1_choose 1 = .ok (.ifCond .lt 8, 3) := by decide +kernel
theorem dX1_choose_4 : decode cX1_choose 4 = .ok (.iload_n 1, 1) := by decide +kernel
theorem dX1_choose_5 : decode cX1_choose 5 = .ok (.iload_n 0, 1) := by decide +kernel
theorem dX1_choose_6 : decode cX1_choose 6 = .ok (.if_icmp .le 5, 3) := by decide +kernel
theorem dX1_choose_9 : decode cX1_choose 9 = .ok (.lconst 0, 1) := by decide +kernel
theorem dX1_choose_10 : decode cX1_choose 10 = .ok (.lreturn, 1) := by decide +kernel
theorem dX1_choose_11 : decode cX1_choose 11 = .ok (.lconst 1, 1) := by decide +kernel
theorem dX1_choose_12 : decode cX1_choose 12 = .ok (.lstore_n 2, 1) := by decide +kernel
theorem dX1_choose_13 : decode cX1_choose 13 = .ok (.iconst 1, 1) := by decide +kernel
theorem dX1_choose_14 : decode cX1_choose 14 = .ok (.istore 4, 2) := by decide +kernel
theorem dX1_choose_16 : decode cX1_choose 16 = .ok (.iload 4, 2) := by decide +kernel
theorem dX1_choose_18 : decode cX1_choose 18 = .ok (.iload_n 1, 1) := by decide +kernel
theorem dX1_choose_19 : decode cX1_choose 19 = .ok (.if_icmp .gt 42, 3) := by decide +kernel
theorem dX1_choose_22 : decode cX1_choose 22 = .ok (.iload_n 0, 1) := by decide +kernel
theorem dX1_choose_23 : decode cX1_choose 23 = .ok (.iload_n 1, 1) := by decide +kernel
theorem dX1_choose_24 : decode cX1_choose 24 = .ok (.isub, 1) := by decide +kernel
theorem dX1_choose_25 : decode cX1_choose 25 = .ok (.iload 4, 2) := by decide +kernel
theorem dX1_choose_27 : decode cX1_choose 27 = .ok (.iadd, 1) := by decide +kernel
theorem dX1_choose_28 : decode cX1_choose 28 = .ok (.i2l, 1) := by decide +kernel
theorem dX1_choose_29 : decode cX1_choose 29 = .ok (.lstore 5, 2) := by decide +kernel
theorem dX1_choose_31 : decode cX1_choose 31 = .ok (.lload_n 2, 1) := by decide +kernel
theorem dX1_choose_32 : decode cX1_choose 32 = .ok (.iload 4, 2) := by decide +kernel
theorem dX1_choose_34 : decode cX1_choose 34 = .ok (.i2l, 1) := by decide +kernel
theorem dX1_choose_35 : decode cX1_choose 35 = .ok (.invokestatic 63, 3) := by decide +kernel
theorem dX1_choose_38 : decode cX1_choose 38 = .ok (.lstore 7, 2) := by decide +kernel
theorem dX1_choose_40 : decode cX1_choose 40 = .ok (.lload_n 2, 1) := by decide +kernel
theorem dX1_choose_41 : decode cX1_choose 41 = .ok (.lload 7, 2) := by decide +kernel
theorem dX1_choose_43 : decode cX1_choose 43 = .ok (.ldiv, 1) := by decide +kernel
theorem dX1_choose_44 : decode cX1_choose 44 = .ok (.lload 5, 2) := by decide +kernel
theorem dX1_choose_46 : decode cX1_choose 46 = .ok (.iload 4, 2) := by decide +kernel
theorem dX1_choose_48 : decode cX1_choose 48 = .ok (.i2l, 1) := by decide +kernel
theorem dX1_choose_49 : decode cX1_choose 49 = .ok (.lload 7, 2) := by decide +kernel
theorem dX1_choose_51 : decode cX1_choose 51 = .ok (.ldiv, 1) := by decide +kernel
theorem dX1_choose_52 : decode cX1_choose 52 = .ok (.ldiv, 1) := by decide +kernel
theorem dX1_choose_53 : decode cX1_choose 53 = .ok (.lmul, 1) := by decide +kernel
theorem dX1_choose_54 : decode cX1_choose 54 = .ok (.lstore_n 2, 1) := by decide +kernel
theorem dX1_choose_55 : decode cX1_choose 55 = .ok (.iinc 4 1, 3) := by decide +kernel
theorem dX1_choose_58 : decode cX1_choose 58 = .ok (.goto (-42), 3) := by decide +kernel
theorem dX1_choose_61 : decode cX1_choose 61 = .ok (.lload_n 2, 1) := by decide +kernel
theorem dX1_choose_62 : decode cX1_choose 62 = .ok (.lreturn, 1) := by decide +kernel
set_option maxRecDepth 20000 in
theorem ggX1_power_X1_times : GoodIn wsX1_power wsX1_times := goodIn_r _ [5, 6, 7, 8, 9, 4, 10, 11, 12, 13, 14, 15, 16, 17, 18, 19, 20, 21, 22, 23, 24, 25, 26, 27] (by decide +kernel) (by decide +kernel)
set_option maxRecDepth 20000 in
theorem gX1_power_X1_times : GoodIn wsX1_power (wsV RX1 75 RX1 yX1_times wsX1_times) := goodIn_app (goodIn_of _ (by decide +kernel)) ggX1_power_X1_times
theorem dX1_power_0 : decode cX1_power 0 = .ok (.lconst 1, 1) := by decide +kernel
theorem dX1_power_1 : decode cX1_power 1 = .ok (.lstore 4, 2) := by decide +kernel
theorem dX1_power_3 : decode cX1_power 3 = .ok (.iconst 0, 1) := by decide +kernel
theorem dX1_power_4 : decode cX1_power 4 = .ok (.istore 6, 2) := by decide +kernel
theorem dX1_power_6 : decode cX1_power 6 = .ok (.iload 6, 2) := by decide +kernel
theorem dX1_power_8 : decode cX1_power 8 = .ok (.iload_n 3, 1) := by decide +kernel
theorem dX1_power_9 : decode cX1_power 9 = .ok (.if_icmp .ge 18, 3) := by decide +kernel
theorem dX1_power_12 : decode cX1_power 12 = .ok (.aload_n 0, 1) := by decide +kernel
theorem dX1_power_13 : decode cX1_power 13 = .ok (.lload 4, 2) := by decide +kernel
theorem dX1_power_15 : decode cX1_power 15 = .ok (.lload_n 1, 1) := by decide +kernel
theorem dX1_power_16 : decode cX1_power 16 = .ok (.invokevirtual 75, 3) := by decide +kernel
theorem dX1_power_19 : decode cX1_power 19 = .ok (.lstore 4, 2) := by decide +kernel
theorem dX1_power_21 : decode cX1_power 21 = .ok (.iinc 6 1, 3) := by decide +kernel
theorem dX1_power_24 : decode cX1_power 24 = .ok (.goto (-18), 3) := by decide +kernel
theorem dX1_power_27 : decode cX1_power 27 = .ok (.lload 4, 2) := by decide +kernel
theorem dX1_power_29 : decode cX1_power 29 = .ok (.lreturn, 1) := by decide +kernel
set_option maxRecDepth 20000 in
theorem ggX1_tail_X1_isIn : GoodIn wsX1_tail wsX1_isIn := goodIn_r _ [10] (by decide +kernel) (by decide +kernel)
set_option maxRecDepth 20000 in
theorem gX1_tail_X1_isIn : GoodIn wsX1_tail (va_wsS RX1 59 yX1_isIn wsX1_isIn) := goodIn_app (goodIn_of _ (by decide +kernel)) ggX1_tail_X1_isIn
set_option maxRecDepth 20000 in
theorem ggX1_tail_X1_isNumber : GoodIn wsX1_tail wsX1_isNumber := goodIn_r _ [14, 5, 7, 8, 9, 10, 38, 39, 40, 41, 42, 43, 44, 45, 46, 47, 48, 49, 50, 51, 52, 53, 54] (by decide +kernel) (by decide +kernel)
set_option maxRecDepth 20000 in
theorem gX1_tail_X1_isNumber : GoodIn wsX1_tail (wsV RX1 94 RX1 yX1_isNumber wsX1_isNumber) := goodIn_app (goodIn_of _ (by decide +kernel)) ggX1_tail_X1_isNumber
set_option maxRecDepth 20000 in
theorem ggX1_tail_X1_power : GoodIn wsX1_tail wsX1_power := goodIn_r _ [18, 19, 20, 21, 9, 22, 23, 6, 24, 25, 26, 38, 39, 40, 41, 42, 43, 44, 45, 46, 47, 48, 49, 50, 51, 52, 53, 54] (by decide +kernel) (by decide +kernel)
set_option maxRecDepth 20000 in
theorem gX1_tail_X1_power : GoodIn wsX1_tail (wsV RX1 137 RX1 yX1_power wsX1_power) := goodIn_app (goodIn_of _ (by decide +kernel)) ggX1_tail_X1_power
set_option maxRecDepth 20000 in
theorem ggX1_tail_X1_choose : GoodIn wsX1_tail wsX1_choose := goodIn_r _ [29, 30, 31, 9, 32, 24, 25, 26] (by decide +kernel) (by decide +kernel)
set_option maxRecDepth 20000 in
theorem gX1_tail_X1_choose : GoodIn wsX1_tail (va_wsS RX1 141 yX1_choose wsX1_choose) := goodIn_app (goodIn_of _ (by decide +kernel)) ggX1_tail_X1_choose
set_option maxRecDepth 20000 in
theorem ggX1_tail_X1_kept : GoodIn wsX1_tail wsX1_kept := goodIn_r _ [36, 37, 3, 5, 4, 30, 31, 9, 32, 24, 25, 26, 38, 39, 40, 41, 42, 43, 44, 45, 46, 47, 48, 49, 50, 51, 52, 53, 54] (by decide +kernel) (by decide +kernel)
set_option maxRecDepth 20000 in
theorem gX1_tail_X1_kept : GoodIn wsX1_tail (wsV RX1 71 RX1 yX1_kept wsX1_kept) := goodIn_app (goodIn_of _ (by decide +kernel)) ggX1_tail_X1_kept
theorem dX1_tail_0 : decode cX1_tail 0 = .ok (.aload_n 0, 1) := by decide +kernel
theorem dX1_tail_1 : decode cX1_tail 1 = .ok (.iconst 0, 1) := by decide +kernel
theorem dX1_tail_2 : decode cX1_tail 2 = .ok (.putfield 43, 3) := by decide +kernel
theorem dX1_tail_5 : decode cX1_tail 5 = .ok (.iload_n 1, 1) := by decide +kernel
theorem dX1_tail_6 : decode cX1_tail 6 = .ok (.i2l, 1) := by decide +kernel
theorem dX1_tail_7 : decode cX1_tail 7 = .ok (.lconst 0, 1) := by decide +kernel
theorem dX1_tail_8 : decode cX1_tail 8 = .ok (.ldc2_w 135, 3) := by decide +kernel
theorem dX1_tail_11 : decode cX1_tail 11 = .ok (.invokestatic 59, 3) := by decide +kernel
theorem dX1_tail_14 : decode cX1_tail 14 = .ok (.ifCond .eq 11, 3) := by decide +kernel
theorem dX1_tail_17 : decode cX1_tail 17 = .ok (.aload_n 0, 1) := by decide +kernel
theorem dX1_tail_18 : decode cX1_tail 18 = .ok (.iload_n 3, 1) := by decide +kernel
theorem dX1_tail_19 : decode cX1_tail 19 = .ok (.invokevirtual 94, 3) := by decide +kernel
theorem dX1_tail_22 : decode cX1_tail 22 = .ok (.ifCond .ne 5, 3) := by decide +kernel
theorem dX1_tail_25 : decode cX1_tail 25 = .ok (.iconst (-1), 1) := by decide +kernel
theorem dX1_tail_26 : decode cX1_tail 26 = .ok (.ireturn, 1) := by decide +kernel
theorem dX1_tail_27 : decode cX1_tail 27 = .ok (.aload_n 0, 1) := by decide +kernel
theorem dX1_tail_28 : decode cX1_tail 28 = .ok (.getfield 7, 3) := by decide +kernel
theorem dX1_tail_31 : decode cX1_tail 31 = .ok (.iload_n 3, 1) := by decide +kernel
theorem dX1_tail_32 : decode cX1_tail 32 = .ok (.laload, 1) := by decide +kernel
theorem dX1_tail_33 : decode cX1_tail 33 = .ok (.lconst 0, 1) := by decide +kernel
theorem dX1_tail_34 : decode cX1_tail 34 = .ok (.lcmp, 1) := by decide +kernel
theorem dX1_tail_35 : decode cX1_tail 35 = .ok (.ifCond .lt 19, 3) := by decide +kernel
theorem dX1_tail_38 : decode cX1_tail 38 = .ok (.aload_n 0, 1) := by decide +kernel
theorem dX1_tail_39 : decode cX1_tail 39 = .ok (.getfield 7, 3) := by decide +kernel
theorem dX1_tail_42 : decode cX1_tail 42 = .ok (.iload_n 3, 1) := by decide +kernel
theorem dX1_tail_43 : decode cX1_tail 43 = .ok (.laload, 1) := by decide +kernel
theorem dX1_tail_44 : decode cX1_tail 44 = .ok (.aload_n 0, 1) := by decide +kernel
theorem dX1_tail_45 : decode cX1_tail 45 = .ok (.getfield 13, 3) := by decide +kernel
theorem dX1_tail_48 : decode cX1_tail 48 = .ok (.iload_n 3, 1) := by decide +kernel
theorem dX1_tail_49 : decode cX1_tail 49 = .ok (.laload, 1) := by decide +kernel
theorem dX1_tail_50 : decode cX1_tail 50 = .ok (.lcmp, 1) := by decide +kernel
theorem dX1_tail_51 : decode cX1_tail 51 = .ok (.ifCond .le 6, 3) := by decide +kernel
theorem dX1_tail_54 : decode cX1_tail 54 = .ok (.bipush (-5), 2) := by decide +kernel
theorem dX1_tail_56 : decode cX1_tail 56 = .ok (.ireturn, 1) := by decide +kernel
theorem dX1_tail_57 : decode cX1_tail 57 = .ok (.aload_n 0, 1) := by decide +kernel
theorem dX1_tail_58 : decode cX1_tail 58 = .ok (.getfield 56, 3) := by decide +kernel
theorem dX1_tail_61 : decode cX1_tail 61 = .ok (.bipush 40, 2) := by decide +kernel
theorem dX1_tail_63 : decode cX1_tail 63 = .ok (.if_icmp .ne 6, 3) := by decide +kernel
theorem dX1_tail_66 : decode cX1_tail 66 = .ok (.bipush (-4), 2) := by decide +kernel
theorem dX1_tail_68 : decode cX1_tail 68 = .ok (.ireturn, 1) := by decide +kernel
theorem dX1_tail_69 : decode cX1_tail 69 = .ok (.aload_n 0, 1) := by decide +kernel
theorem dX1_tail_70 : decode cX1_tail 70 = .ok (.iconst 0, 1) := by decide +kernel
theorem dX1_tail_71 : decode cX1_tail 71 = .ok (.putfield 39, 3) := by decide +kernel
theorem dX1_tail_74 : decode cX1_tail 74 = .ok (.aload_n 0, 1) := by decide +kernel
theorem dX1_tail_75 : decode cX1_tail 75 = .ok (.aload_n 0, 1) := by decide +kernel
theorem dX1_tail_76 : decode cX1_tail 76 = .ok (.getfield 13, 3) := by decide +kernel
theorem dX1_tail_79 : decode cX1_tail 79 = .ok (.iload_n 3, 1) := by decide +kernel
theorem dX1_tail_80 : decode cX1_tail 80 = .ok (.laload, 1) := by decide +kernel
theorem dX1_tail_81 : decode cX1_tail 81 = .ok (.iload_n 1, 1) := by decide +kernel
theorem dX1_tail_82 : decode cX1_tail 82 = .ok (.invokevirtual 137, 3) := by decide +kernel
theorem dX1_tail_85 : decode cX1_tail 85 = .ok (.lstore 4, 2) := by decide +kernel
theorem dX1_tail_87 : decode cX1_tail 87 = .ok (.aload_n 0, 1) := by decide +kernel
theorem dX1_tail_88 : decode cX1_tail 88 = .ok (.getfield 39, 3) := by decide +kernel
theorem dX1_tail_91 : decode cX1_tail 91 = .ok (.ifCond .eq 6, 3) := by decide +kernel
theorem dX1_tail_94 : decode cX1_tail 94 = .ok (.bipush (-3), 2) := by decide +kernel
theorem dX1_tail_96 : decode cX1_tail 96 = .ok (.ireturn, 1) := by decide +kernel
theorem dX1_tail_97 : decode cX1_tail 97 = .ok (.lconst 0, 1) := by decide +kernel
theorem dX1_tail_98 : decode cX1_tail 98 = .ok (.lstore 6, 2) := by decide +kernel
theorem dX1_tail_100 : decode cX1_tail 100 = .ok (.iload_n 2, 1) := by decide +kernel
theorem dX1_tail_101 : decode cX1_tail 101 = .ok (.ifCond .ge 7, 3) := by decide +kernel
theorem dX1_tail_104 : decode cX1_tail 104 = .ok (.iconst 0, 1) := by decide +kernel
theorem dX1_tail_105 : decode cX1_tail 105 = .ok (.goto 4, 3) := by decide +kernel
theorem dX1_tail_108 : decode cX1_tail 108 = .ok (.iload_n 2, 1) := by decide +kernel
theorem dX1_tail_109 : decode cX1_tail 109 = .ok (.istore 8, 2) := by decide +kernel
theorem dX1_tail_111 : decode cX1_tail 111 = .ok (.iload 8, 2) := by decide +kernel
theorem dX1_tail_113 : decode cX1_tail 113 = .ok (.iload_n 1, 1) := by decide +kernel
theorem dX1_tail_114 : decode cX1_tail 114 = .ok (.if_icmp .gt 55, 3) := by decide +kernel
theorem dX1_tail_117 : decode cX1_tail 117 = .ok (.lload 6, 2) := by decide +kernel
theorem dX1_tail_119 : decode cX1_tail 119 = .ok (.iload_n 1, 1) := by decide +kernel
theorem dX1_tail_120 : decode cX1_tail 120 = .ok (.iload 8, 2) := by decide +kernel
theorem dX1_tail_122 : decode cX1_tail 122 = .ok (.invokestatic 141, 3) := by decide +kernel
theorem dX1_tail_125 : decode cX1_tail 125 = .ok (.aload_n 0, 1) := by decide +kernel
theorem dX1_tail_126 : decode cX1_tail 126 = .ok (.aload_n 0, 1) := by decide +kernel
theorem dX1_tail_127 : decode cX1_tail 127 = .ok (.getfield 7, 3) := by decide +kernel
theorem dX1_tail_130 : decode cX1_tail 130 = .ok (.iload_n 3, 1) := by decide +kernel
theorem dX1_tail_131 : decode cX1_tail 131 = .ok (.laload, 1) := by decide +kernel
theorem dX1_tail_132 : decode cX1_tail 132 = .ok (.iload 8, 2) := by decide +kernel
theorem dX1_tail_134 : decode cX1_tail 134 = .ok (.invokevirtual 137, 3) := by decide +kernel
theorem dX1_tail_137 : decode cX1_tail 137 = .ok (.lmul, 1) := by decide +kernel
theorem dX1_tail_138 : decode cX1_tail 138 = .ok (.aload_n 0, 1) := by decide +kernel
theorem dX1_tail_139 : decode cX1_tail 139 = .ok (.aload_n 0, 1) := by decide +kernel
theorem dX1_tail_140 : decode cX1_tail 140 = .ok (.getfield 13, 3) := by decide +kernel
theorem dX1_tail_143 : decode cX1_tail 143 = .ok (.iload_n 3, 1) := by decide +kernel
theorem dX1_tail_144 : decode cX1_tail 144 = .ok (.laload, 1) := by decide +kernel
theorem dX1_tail_145 : decode cX1_tail 145 = .ok (.aload_n 0, 1) := by decide +kernel
theorem dX1_tail_146 : decode cX1_tail 146 = .ok (.getfield 7, 3) := by decide +kernel
theorem dX1_tail_149 : decode cX1_tail 149 = .ok (.iload_n 3, 1) := by decide +kernel
theorem dX1_tail_150 : decode cX1_tail 150 = .ok (.laload, 1) := by decide +kernel
theorem dX1_tail_151 : decode cX1_tail 151 = .ok (.lsub, 1) := by decide +kernel
theorem dX1_tail_152 : decode cX1_tail 152 = .ok (.iload_n 1, 1) := by decide +kernel
theorem dX1_tail_153 : decode cX1_tail 153 = .ok (.iload 8, 2) := by decide +kernel
theorem dX1_tail_155 : decode cX1_tail 155 = .ok (.isub, 1) := by decide +kernel
theorem dX1_tail_156 : decode cX1_tail 156 = .ok (.invokevirtual 137, 3) := by decide +kernel
theorem dX1_tail_159 : decode cX1_tail 159 = .ok (.lmul, 1) := by decide +kernel
theorem dX1_tail_160 : decode cX1_tail 160 = .ok (.ladd, 1) := by decide +kernel
theorem dX1_tail_161 : decode cX1_tail 161 = .ok (.lstore 6, 2) := by decide +kernel
theorem dX1_tail_163 : decode cX1_tail 163 = .ok (.iinc 8 1, 3) := by decide +kernel
theorem dX1_tail_166 : decode cX1_tail 166 = .ok (.goto (-55), 3) := by decide +kernel
theorem dX1_tail_169 : decode cX1_tail 169 = .ok (.aload_n 0, 1) := by decide +kernel
theorem dX1_tail_170 : decode cX1_tail 170 = .ok (.lload 6, 2) := by decide +kernel
theorem dX1_tail_172 : decode cX1_tail 172 = .ok (.lload 4, 2) := by decide +kernel
theorem dX1_tail_174 : decode cX1_tail 174 = .ok (.invokevirtual 71, 3) := by decide +kernel
theorem dX1_tail_177 : decode cX1_tail 177 = .ok (.ireturn, 1) := by decide +kernel
set_option maxRecDepth 20000 in
theorem ggX1_urn_X1_isIn : GoodIn wsX1_urn wsX1_isIn := goodIn_r _ [7] (by decide +kernel) (by decide +kernel)
set_option maxRecDepth 20000 in
theorem gX1_urn_X1_isIn : GoodIn wsX1_urn (va_wsS RX1 59 yX1_isIn wsX1_isIn) := goodIn_app (goodIn_of _ (by decide +kernel)) ggX1_urn_X1_isIn
set_option maxRecDepth 20000 in
theorem ggX1_urn_X1_choose : GoodIn wsX1_urn wsX1_choose := goodIn_r _ [10, 11, 12, 6, 13, 14, 15, 16] (by decide +kernel) (by decide +kernel)
set_option maxRecDepth 20000 in
theorem gX1_urn_X1_choose : GoodIn wsX1_urn (va_wsS RX1 141 yX1_choose wsX1_choose) := goodIn_app (goodIn_of _ (by decide +kernel)) ggX1_urn_X1_choose
set_option maxRecDepth 20000 in
theorem ggX1_urn_X1_kept : GoodIn wsX1_urn wsX1_kept := goodIn_r _ [20, 21, 22, 3, 23, 11, 12, 6, 13, 14, 15, 16, 24, 25, 26, 27, 28, 29, 30, 31, 32, 33, 34, 35, 36, 37, 38, 39, 40] (by decide +kernel) (by decide +kernel)
set_option maxRecDepth 20000 in
theorem gX1_urn_X1_kept : GoodIn wsX1_urn (wsV RX1 71 RX1 yX1_kept wsX1_kept) := goodIn_app (goodIn_of _ (by decide +kernel)) ggX1_urn_X1_kept
theorem dX1_urn_0 : decode cX1_urn 0 = .ok (.aload_n 0, 1) := by decide +kernel
theorem dX1_urn_1 : decode cX1_urn 1 = .ok (.iconst 0, 1) := by decide +kernel
theorem dX1_urn_2 : decode cX1_urn 2 = .ok (.putfield 43, 3) := by decide +kernel
theorem dX1_urn_5 : decode cX1_urn 5 = .ok (.iload_n 1, 1) := by decide +kernel
theorem dX1_urn_6 : decode cX1_urn 6 = .ok (.i2l, 1) := by decide +kernel
theorem dX1_urn_7 : decode cX1_urn 7 = .ok (.lconst 0, 1) := by decide +kernel
theorem dX1_urn_8 : decode cX1_urn 8 = .ok (.ldc2_w 135, 3) := by decide +kernel
theorem dX1_urn_11 : decode cX1_urn 11 = .ok (.invokestatic 59, 3) := by decide +kernel
theorem dX1_urn_14 : decode cX1_urn 14 = .ok (.ifCond .eq 25, 3) := by decide +kernel
theorem dX1_urn_17 : decode cX1_urn 17 = .ok (.iload_n 2, 1) := by decide +kernel
theorem dX1_urn_18 : decode cX1_urn 18 = .ok (.i2l, 1) := by decide +kernel
theorem dX1_urn_19 : decode cX1_urn 19 = .ok (.lconst 0, 1) := by decide +kernel
theorem dX1_urn_20 : decode cX1_urn 20 = .ok (.iload_n 1, 1) := by decide +kernel
theorem dX1_urn_21 : decode cX1_urn 21 = .ok (.i2l, 1) := by decide +kernel
theorem dX1_urn_22 : decode cX1_urn 22 = .ok (.invokestatic 59, 3) := by decide +kernel
theorem dX1_urn_25 : decode cX1_urn 25 = .ok (.ifCond .eq 14, 3) := by decide +kernel
theorem dX1_urn_28 : decode cX1_urn 28 = .ok (.iload_n 3, 1) := by decide +kernel
theorem dX1_urn_29 : decode cX1_urn 29 = .ok (.i2l, 1) := by decide +kernel
theorem dX1_urn_30 : decode cX1_urn 30 = .ok (.lconst 0, 1) := by decide +kernel
theorem dX1_urn_31 : decode cX1_urn 31 = .ok (.iload_n 1, 1) := by decide +kernel
theorem dX1_urn_32 : decode cX1_urn 32 = .ok (.i2l, 1) := by decide +kernel
theorem dX1_urn_33 : decode cX1_urn 33 = .ok (.invokestatic 59, 3) := by decide +kernel
theorem dX1_urn_36 : decode cX1_urn 36 = .ok (.ifCond .ne 5, 3) := by decide +kernel
theorem dX1_urn_39 : decode cX1_urn 39 = .ok (.iconst (-1), 1) := by decide +kernel
theorem dX1_urn_40 : decode cX1_urn 40 = .ok (.ireturn, 1) := by decide +kernel
theorem dX1_urn_41 : decode cX1_urn 41 = .ok (.aload_n 0, 1) := by decide +kernel
theorem dX1_urn_42 : decode cX1_urn 42 = .ok (.getfield 56, 3) := by decide +kernel
theorem dX1_urn_45 : decode cX1_urn 45 = .ok (.bipush 40, 2) := by decide +kernel
theorem dX1_urn_47 : decode cX1_urn 47 = .ok (.if_icmp .ne 6, 3) := by decide +kernel
theorem dX1_urn_50 : decode cX1_urn 50 = .ok (.bipush (-4), 2) := by decide +kernel
theorem dX1_urn_52 : decode cX1_urn 52 = .ok (.ireturn, 1) := by decide +kernel
theorem dX1_urn_53 : decode cX1_urn 53 = .ok (.iload_n 2, 1) := by decide +kernel
theorem dX1_urn_54 : decode cX1_urn 54 = .ok (.iload 4, 2) := by decide +kernel
theorem dX1_urn_56 : decode cX1_urn 56 = .ok (.invokestatic 141, 3) := by decide +kernel
theorem dX1_urn_59 : decode cX1_urn 59 = .ok (.iload_n 1, 1) := by decide +kernel
theorem dX1_urn_60 : decode cX1_urn 60 = .ok (.iload_n 2, 1) := by decide +kernel
theorem dX1_urn_61 : decode cX1_urn 61 = .ok (.isub, 1) := by decide +kernel
theorem dX1_urn_62 : decode cX1_urn 62 = .ok (.iload 4, 2) := by decide +kernel
theorem dX1_urn_64 : decode cX1_urn 64 = .ok (.ifCond .ge 7, 3) := by decide +kernel
theorem dX1_urn_67 : decode cX1_urn 67 = .ok (.iconst (-1), 1) := by decide +kernel
theorem dX1_urn_68 : decode cX1_urn 68 = .ok (.goto 17, 3) := by decide +kernel
theorem dX1_urn_71 : decode cX1_urn 71 = .ok (.iload 4, 2) := by decide +kernel
theorem dX1_urn_73 : decode cX1_urn 73 = .ok (.iload_n 3, 1) := by decide +kernel
theorem dX1_urn_74 : decode cX1_urn 74 = .ok (.if_icmp .le 7, 3) := by decide +kernel
theorem dX1_urn_77 : decode cX1_urn 77 = .ok (.iconst (-1), 1) := by decide +kernel
theorem dX1_urn_78 : decode cX1_urn 78 = .ok (.goto 7, 3) := by decide +kernel
theorem dX1_urn_81 : decode cX1_urn 81 = .ok (.iload_n 3, 1) := by decide +kernel
theorem dX1_urn_82 : decode cX1_urn 82 = .ok (.iload 4, 2) := by decide +kernel
theorem dX1_urn_84 : decode cX1_urn 84 = .ok (.isub, 1) := by decide +kernel
theorem dX1_urn_85 : decode cX1_urn 85 = .ok (.invokestatic 141, 3) := by decide +kernel
theorem dX1_urn_88 : decode cX1_urn 88 = .ok (.lmul, 1) := by decide +kernel
theorem dX1_urn_89 : decode cX1_urn 89 = .ok (.lstore 5, 2) := by decide +kernel
theorem dX1_urn_91 : decode cX1_urn 91 = .ok (.aload_n 0, 1) := by decide +kernel
theorem dX1_urn_92 : decode cX1_urn 92 = .ok (.lload 5, 2) := by decide +kernel
theorem dX1_urn_94 : decode cX1_urn 94 = .ok (.iload_n 1, 1) := by decide +kernel
theorem dX1_urn_95 : decode cX1_urn 95 = .ok (.iload_n 3, 1) := by decide +kernel
theorem dX1_urn_96 : decode cX1_urn 96 = .ok (.invokestatic 141, 3) := by decide +kernel
theorem dX1_urn_99 : decode cX1_urn 99 = .ok (.invokevirtual 71, 3) := by decide +kernel
theorem dX1_urn_102 : decode cX1_urn 102 = .ok (.ireturn, 1) := by decide +kernel
set_option maxRecDepth 20000 in
theorem ggX1_test_X1_isRow : GoodIn wsX1_test wsX1_isRow := goodIn_r _ [12, 13, 14, 15, 11, 16] (by decide +kernel) (by decide +kernel)
set_option maxRecDepth 20000 in
theorem gX1_test_X1_isRow : GoodIn wsX1_test (va_wsS RX1 124 yX1_isRow wsX1_isRow) := goodIn_app (goodIn_of _ (by decide +kernel)) ggX1_test_X1_isRow
set_option maxRecDepth 20000 in
theorem ggX1_test_X1_sumOf : GoodIn wsX1_test wsX1_sumOf := goodIn_r _ [20, 2, 7, 34, 35, 36, 37, 38, 39, 40, 41, 42, 43, 44, 45, 46, 47, 48, 49, 50] (by decide +kernel) (by decide +kernel)
set_option maxRecDepth 20000 in
theorem gX1_test_X1_sumOf : GoodIn wsX1_test (wsV RX1 127 RX1 yX1_sumOf wsX1_sumOf) := goodIn_app (goodIn_of _ (by decide +kernel)) ggX1_test_X1_sumOf
set_option maxRecDepth 20000 in
theorem ggX1_test_X1_kept : GoodIn wsX1_test wsX1_kept := goodIn_r _ [24, 25, 26, 3, 27, 28, 29, 11, 30, 31, 32, 33, 34, 35, 36, 37, 38, 39, 40, 41, 42, 43, 44, 45, 46, 47, 48, 49, 50] (by decide +kernel) (by decide +kernel)
set_option maxRecDepth 20000 in
theorem gX1_test_X1_kept : GoodIn wsX1_test (wsV RX1 71 RX1 yX1_kept wsX1_kept) := goodIn_app (goodIn_of _ (by decide +kernel)) ggX1_test_X1_kept
theorem dX1_test_0 : decode cX1_test 0 = .ok (.aload_n 0, 1) := by decide +kernel
theorem dX1_test_1 : decode cX1_test 1 = .ok (.iconst 0, 1) := by decide +kernel
theorem dX1_test_2 : decode cX1_test 2 = .ok (.putfield 43, 3) := by decide +kernel
theorem dX1_test_5 : decode cX1_test 5 = .ok (.iload_n 1, 1) := by decide +kernel
theorem dX1_test_6 : decode cX1_test 6 = .ok (.invokestatic 124, 3) := by decide +kernel
theorem dX1_test_9 : decode cX1_test 9 = .ok (.ifCond .eq 15, 3) := by decide +kernel
theorem dX1_test_12 : decode cX1_test 12 = .ok (.iload_n 2, 1) := by decide +kernel
theorem dX1_test_13 : decode cX1_test 13 = .ok (.invokestatic 124, 3) := by decide +kernel
theorem dX1_test_16 : decode cX1_test 16 = .ok (.ifCond .eq 8, 3) := by decide +kernel
theorem dX1_test_19 : decode cX1_test 19 = .ok (.iload_n 1, 1) := by decide +kernel
theorem dX1_test_20 : decode cX1_test 20 = .ok (.iload_n 2, 1) := by decide +kernel
theorem dX1_test_21 : decode cX1_test 21 = .ok (.if_icmp .ne 5, 3) := by decide +kernel
theorem dX1_test_24 : decode cX1_test 24 = .ok (.iconst (-1), 1) := by decide +kernel
theorem dX1_test_25 : decode cX1_test 25 = .ok (.ireturn, 1) := by decide +kernel
theorem dX1_test_26 : decode cX1_test 26 = .ok (.aload_n 0, 1) := by decide +kernel
theorem dX1_test_27 : decode cX1_test 27 = .ok (.getfield 19, 3) := by decide +kernel
theorem dX1_test_30 : decode cX1_test 30 = .ok (.iload_n 1, 1) := by decide +kernel
theorem dX1_test_31 : decode cX1_test 31 = .ok (.iaload, 1) := by decide +kernel
theorem dX1_test_32 : decode cX1_test 32 = .ok (.ifCond .eq 12, 3) := by decide +kernel
theorem dX1_test_35 : decode cX1_test 35 = .ok (.aload_n 0, 1) := by decide +kernel
theorem dX1_test_36 : decode cX1_test 36 = .ok (.getfield 19, 3) := by decide +kernel
theorem dX1_test_39 : decode cX1_test 39 = .ok (.iload_n 2, 1) := by decide +kernel
theorem dX1_test_40 : decode cX1_test 40 = .ok (.iaload, 1) := by decide +kernel
theorem dX1_test_41 : decode cX1_test 41 = .ok (.ifCond .ne 6, 3) := by decide +kernel
theorem dX1_test_44 : decode cX1_test 44 = .ok (.bipush (-5), 2) := by decide +kernel
theorem dX1_test_46 : decode cX1_test 46 = .ok (.ireturn, 1) := by decide +kernel
theorem dX1_test_47 : decode cX1_test 47 = .ok (.aload_n 0, 1) := by decide +kernel
theorem dX1_test_48 : decode cX1_test 48 = .ok (.getfield 56, 3) := by decide +kernel
theorem dX1_test_51 : decode cX1_test 51 = .ok (.bipush 40, 2) := by decide +kernel
theorem dX1_test_53 : decode cX1_test 53 = .ok (.if_icmp .ne 6, 3) := by decide +kernel
theorem dX1_test_56 : decode cX1_test 56 = .ok (.bipush (-4), 2) := by decide +kernel
theorem dX1_test_58 : decode cX1_test 58 = .ok (.ireturn, 1) := by decide +kernel
theorem dX1_test_59 : decode cX1_test 59 = .ok (.aload_n 0, 1) := by decide +kernel
theorem dX1_test_60 : decode cX1_test 60 = .ok (.getfield 19, 3) := by decide +kernel
theorem dX1_test_63 : decode cX1_test 63 = .ok (.iload_n 1, 1) := by decide +kernel
theorem dX1_test_64 : decode cX1_test 64 = .ok (.iaload, 1) := by decide +kernel
theorem dX1_test_65 : decode cX1_test 65 = .ok (.aload_n 0, 1) := by decide +kernel
theorem dX1_test_66 : decode cX1_test 66 = .ok (.getfield 19, 3) := by decide +kernel
theorem dX1_test_69 : decode cX1_test 69 = .ok (.iload_n 2, 1) := by decide +kernel
theorem dX1_test_70 : decode cX1_test 70 = .ok (.iaload, 1) := by decide +kernel
theorem dX1_test_71 : decode cX1_test 71 = .ok (.iadd, 1) := by decide +kernel
theorem dX1_test_72 : decode cX1_test 72 = .ok (.istore_n 3, 1) := by decide +kernel
theorem dX1_test_73 : decode cX1_test 73 = .ok (.aload_n 0, 1) := by decide +kernel
theorem dX1_test_74 : decode cX1_test 74 = .ok (.iload_n 1, 1) := by decide +kernel
theorem dX1_test_75 : decode cX1_test 75 = .ok (.invokevirtual 127, 3) := by decide +kernel
theorem dX1_test_78 : decode cX1_test 78 = .ok (.lstore 4, 2) := by decide +kernel
theorem dX1_test_80 : decode cX1_test 80 = .ok (.aload_n 0, 1) := by decide +kernel
theorem dX1_test_81 : decode cX1_test 81 = .ok (.iconst 0, 1) := by decide +kernel
theorem dX1_test_82 : decode cX1_test 82 = .ok (.putfield 145, 3) := by decide +kernel
theorem dX1_test_85 : decode cX1_test 85 = .ok (.aload_n 0, 1) := by decide +kernel
theorem dX1_test_86 : decode cX1_test 86 = .ok (.iconst 0, 1) := by decide +kernel
theorem dX1_test_87 : decode cX1_test 87 = .ok (.putfield 148, 3) := by decide +kernel
theorem dX1_test_90 : decode cX1_test 90 = .ok (.aload_n 0, 1) := by decide +kernel
theorem dX1_test_91 : decode cX1_test 91 = .ok (.iconst 0, 1) := by decide +kernel
theorem dX1_test_92 : decode cX1_test 92 = .ok (.putfield 151, 3) := by decide +kernel
theorem dX1_test_95 : decode cX1_test 95 = .ok (.iconst 0, 1) := by decide +kernel
theorem dX1_test_96 : decode cX1_test 96 = .ok (.istore 6, 2) := by decide +kernel
theorem dX1_test_98 : decode cX1_test 98 = .ok (.iload 6, 2) := by decide +kernel
theorem dX1_test_100 : decode cX1_test 100 = .ok (.iconst 1, 1) := by decide +kernel
theorem dX1_test_101 : decode cX1_test 101 = .ok (.iload_n 3, 1) := by decide +kernel
theorem dX1_test_102 : decode cX1_test 102 = .ok (.ishl, 1) := by decide +kernel
theorem dX1_test_103 : decode cX1_test 103 = .ok (.if_icmp .ge 159, 3) := by decide +kernel
theorem dX1_test_106 : decode cX1_test 106 = .ok (.iconst 0, 1) := by decide +kernel
theorem dX1_test_107 : decode cX1_test 107 = .ok (.istore 7, 2) := by decide +kernel
theorem dX1_test_109 : decode cX1_test 109 = .ok (.lconst 0, 1) := by decide +kernel
theorem dX1_test_110 : decode cX1_test 110 = .ok (.lstore 8, 2) := by decide +kernel
theorem dX1_test_112 : decode cX1_test 112 = .ok (.iconst 0, 1) := by decide +kernel
theorem dX1_test_113 : decode cX1_test 113 = .ok (.istore 10, 2) := by decide +kernel
theorem dX1_test_115 : decode cX1_test 115 = .ok (.iload 10, 2) := by decide +kernel
theorem dX1_test_117 : decode cX1_test 117 = .ok (.iload_n 3, 1) := by decide +kernel
theorem dX1_test_118 : decode cX1_test 118 = .ok (.if_icmp .ge 73, 3) := by decide +kernel
theorem dX1_test_121 : decode cX1_test 121 = .ok (.iload 6, 2) := by decide +kernel
theorem dX1_test_123 : decode cX1_test 123 = .ok (.iload 10, 2) := by decide +kernel
theorem dX1_test_125 : decode cX1_test 125 = .ok (.ishr, 1) := by decide +kernel
theorem dX1_test_126 : decode cX1_test 126 = .ok (.iconst 1, 1) := by decide +kernel
theorem dX1_test_127 : decode cX1_test 127 = .ok (.iand, 1) := by decide +kernel
theorem dX1_test_128 : decode cX1_test 128 = .ok (.iconst 1, 1) := by decide +kernel
theorem dX1_test_129 : decode cX1_test 129 = .ok (.if_icmp .ne 56, 3) := by decide +kernel
theorem dX1_test_132 : decode cX1_test 132 = .ok (.iinc 7 1, 3) := by decide +kernel
theorem dX1_test_135 : decode cX1_test 135 = .ok (.lload 8, 2) := by decide +kernel
theorem dX1_test_137 : decode cX1_test 137 = .ok (.iload 10, 2) := by decide +kernel
theorem dX1_test_139 : decode cX1_test 139 = .ok (.aload_n 0, 1) := by decide +kernel
theorem dX1_test_140 : decode cX1_test 140 = .ok (.getfield 19, 3) := by decide +kernel
theorem dX1_test_143 : decode cX1_test 143 = .ok (.iload_n 1, 1) := by decide +kernel
theorem dX1_test_144 : decode cX1_test 144 = .ok (.iaload, 1) := by decide +kernel
theorem dX1_test_145 : decode cX1_test 145 = .ok (.if_icmp .ge 18, 3) := by decide +kernel
theorem dX1_test_148 : decode cX1_test 148 = .ok (.aload_n 0, 1) := by decide +kernel
theorem dX1_test_149 : decode cX1_test 149 = .ok (.getfield 16, 3) := by decide +kernel
theorem dX1_test_152 : decode cX1_test 152 = .ok (.bipush 8, 2) := by decide +kernel
theorem dX1_test_154 : decode cX1_test 154 = .ok (.iload_n 1, 1) := by decide +kernel
theorem dX1_test_155 : decode cX1_test 155 = .ok (.imul, 1) := by decide +kernel
theorem dX1_test_156 : decode cX1_test 156 = .ok (.iload 10, 2) := by decide +kernel
theorem dX1_test_158 : decode cX1_test 158 = .ok (.iadd, 1) := by decide +kernel
theorem dX1_test_159 : decode cX1_test 159 = .ok (.laload, 1) := by decide +kernel
theorem dX1_test_160 : decode cX1_test 160 = .ok (.goto 22, 3) := by decide +kernel
theorem dX1_test_163 : decode cX1_test 163 = .ok (.aload_n 0, 1) := by decide +kernel
theorem dX1_test_164 : decode cX1_test 164 = .ok (.getfield 16, 3) := by decide +kernel
theorem dX1_test_167 : decode cX1_test 167 = .ok (.bipush 8, 2) := by decide +kernel
theorem dX1_test_169 : decode cX1_test 169 = .ok (.iload_n 2, 1) := by decide +kernel
theorem dX1_test_170 : decode cX1_test 170 = .ok (.imul, 1) := by decide +kernel
theorem dX1_test_171 : decode cX1_test 171 = .ok (.iload 10, 2) := by decide +kernel
theorem dX1_test_173 : decode cX1_test 173 = .ok (.iadd, 1) := by decide +kernel
theorem dX1_test_174 : decode cX1_test 174 = .ok (.aload_n 0, 1) := by decide +kernel
theorem dX1_test_175 : decode cX1_test 175 = .ok (.getfield 19, 3) := by decide +kernel
theorem dX1_test_178 : decode cX1_test 178 = .ok (.iload_n 1, 1) := by decide +kernel
theorem dX1_test_179 : decode cX1_test 179 = .ok (.iaload, 1) := by decide +kernel
theorem dX1_test_180 : decode cX1_test 180 = .ok (.isub, 1) := by decide +kernel
theorem dX1_test_181 : decode cX1_test 181 = .ok (.laload, 1) := by decide +kernel
theorem dX1_test_182 : decode cX1_test 182 = .ok (.ladd, 1) := by decide +kernel
theorem dX1_test_183 : decode cX1_test 183 = .ok (.lstore 8, 2) := by decide +kernel
theorem dX1_test_185 : decode cX1_test 185 = .ok (.iinc 10 1, 3) := by decide +kernel
theorem dX1_test_188 : decode cX1_test 188 = .ok (.goto (-73), 3) := by decide +kernel
theorem dX1_test_191 : decode cX1_test 191 = .ok (.iload 7, 2) := by decide +kernel
theorem dX1_test_193 : decode cX1_test 193 = .ok (.aload_n 0, 1) := by decide +kernel
theorem dX1_test_194 : decode cX1_test 194 = .ok (.getfield 19, 3) := by decide +kernel
theorem dX1_test_197 : decode cX1_test 197 = .ok (.iload_n 1, 1) := by decide +kernel
theorem dX1_test_198 : decode cX1_test 198 = .ok (.iaload, 1) := by decide +kernel
theorem dX1_test_199 : decode cX1_test 199 = .ok (.if_icmp .ne 57, 3) := by decide +kernel
theorem dX1_test_202 : decode cX1_test 202 = .ok (.aload_n 0, 1) := by decide +kernel
theorem dX1_test_203 : decode cX1_test 203 = .ok (.dup, 1) := by decide +kernel
theorem dX1_test_204 : decode cX1_test 204 = .ok (.getfield 148, 3) := by decide +kernel
theorem dX1_test_207 : decode cX1_test 207 = .ok (.iconst 1, 1) := by decide +kernel
theorem dX1_test_208 : decode cX1_test 208 = .ok (.iadd, 1) := by decide +kernel
theorem dX1_test_209 : decode cX1_test 209 = .ok (.putfield 148, 3) := by decide +kernel
theorem dX1_test_212 : decode cX1_test 212 = .ok (.aload_n 0, 1) := by decide +kernel
theorem dX1_test_213 : decode cX1_test 213 = .ok (.dup, 1) := by decide +kernel
theorem dX1_test_214 : decode cX1_test 214 = .ok (.getfield 145, 3) := by decide +kernel
theorem dX1_test_217 : decode cX1_test 217 = .ok (.lload 8, 2) := by decide +kernel
theorem dX1_test_219 : decode cX1_test 219 = .ok (.lload 4, 2) := by decide +kernel
theorem dX1_test_221 : decode cX1_test 221 = .ok (.lcmp, 1) := by decide +kernel
theorem dX1_test_222 : decode cX1_test 222 = .ok (.ifCond .lt 7, 3) := by decide +kernel
theorem dX1_test_225 : decode cX1_test 225 = .ok (.iconst 1, 1) := by decide +kernel
theorem dX1_test_226 : decode cX1_test 226 = .ok (.goto 4, 3) := by decide +kernel
theorem dX1_test_229 : decode cX1_test 229 = .ok (.iconst 0, 1) := by decide +kernel
theorem dX1_test_230 : decode cX1_test 230 = .ok (.iadd, 1) := by decide +kernel
theorem dX1_test_231 : decode cX1_test 231 = .ok (.putfield 145, 3) := by decide +kernel
theorem dX1_test_234 : decode cX1_test 234 = .ok (.aload_n 0, 1) := by decide +kernel
theorem dX1_test_235 : decode cX1_test 235 = .ok (.dup, 1) := by decide +kernel
theorem dX1_test_236 : decode cX1_test 236 = .ok (.getfield 151, 3) := by decide +kernel
theorem dX1_test_239 : decode cX1_test 239 = .ok (.lload 8, 2) := by decide +kernel
theorem dX1_test_241 : decode cX1_test 241 = .ok (.lload 4, 2) := by decide +kernel
theorem dX1_test_243 : decode cX1_test 243 = .ok (.lcmp, 1) := by decide +kernel
theorem dX1_test_244 : decode cX1_test 244 = .ok (.ifCond .ne 7, 3) := by decide +kernel
theorem dX1_test_247 : decode cX1_test 247 = .ok (.iconst 1, 1) := by decide +kernel
theorem dX1_test_248 : decode cX1_test 248 = .ok (.goto 4, 3) := by decide +kernel
theorem dX1_test_251 : decode cX1_test 251 = .ok (.iconst 0, 1) := by decide +kernel
theorem dX1_test_252 : decode cX1_test 252 = .ok (.iadd, 1) := by decide +kernel
theorem dX1_test_253 : decode cX1_test 253 = .ok (.putfield 151, 3) := by decide +kernel
theorem dX1_test_256 : decode cX1_test 256 = .ok (.iinc 6 1, 3) := by decide +kernel
theorem dX1_test_259 : decode cX1_test 259 = .ok (.goto (-161), 3) := by decide +kernel
theorem dX1_test_262 : decode cX1_test 262 = .ok (.aload_n 0, 1) := by decide +kernel
theorem dX1_test_263 : decode cX1_test 263 = .ok (.iconst 1, 1) := by decide +kernel
theorem dX1_test_264 : decode cX1_test 264 = .ok (.putfield 154, 3) := by decide +kernel
theorem dX1_test_267 : decode cX1_test 267 = .ok (.aload_n 0, 1) := by decide +kernel
theorem dX1_test_268 : decode cX1_test 268 = .ok (.aload_n 0, 1) := by decide +kernel
theorem dX1_test_269 : decode cX1_test 269 = .ok (.getfield 145, 3) := by decide +kernel
theorem dX1_test_272 : decode cX1_test 272 = .ok (.i2l, 1) := by decide +kernel
theorem dX1_test_273 : decode cX1_test 273 = .ok (.aload_n 0, 1) := by decide +kernel
theorem dX1_test_274 : decode cX1_test 274 = .ok (.getfield 148, 3) := by decide +kernel
theorem dX1_test_277 : decode cX1_test 277 = .ok (.i2l, 1) := by decide +kernel
theorem dX1_test_278 : decode cX1_test 278 = .ok (.invokevirtual 71, 3) := by decide +kernel
theorem dX1_test_281 : decode cX1_test 281 = .ok (.ireturn, 1) := by decide +kernel
theorem dX1_ways_0 : decode cX1_ways 0 = .ok (.aload_n 0, 1) := by decide +kernel
theorem dX1_ways_1 : decode cX1_ways 1 = .ok (.iconst 0, 1) := by decide +kernel
theorem dX1_ways_2 : decode cX1_ways 2 = .ok (.putfield 43, 3) := by decide +kernel
theorem dX1_ways_5 : decode cX1_ways 5 = .ok (.aload_n 0, 1) := by decide +kernel
theorem dX1_ways_6 : decode cX1_ways 6 = .ok (.getfield 154, 3) := by decide +kernel
theorem dX1_ways_9 : decode cX1_ways 9 = .ok (.ifCond .ne 6, 3) := by decide +kernel
theorem dX1_ways_12 : decode cX1_ways 12 = .ok (.bipush (-5), 2) := by decide +kernel
theorem dX1_ways_14 : decode cX1_ways 14 = .ok (.ireturn, 1) := by decide +kernel
theorem dX1_ways_15 : decode cX1_ways 15 = .ok (.iload_n 1, 1) := by decide +kernel
theorem dX1_ways_16 : decode cX1_ways 16 = .ok (.ifCond .ne 10, 3) := by decide +kernel
theorem dX1_ways_19 : decode cX1_ways 19 = .ok (.aload_n 0, 1) := by decide +kernel
theorem dX1_ways_20 : decode cX1_ways 20 = .ok (.getfield 145, 3) := by decide +kernel
theorem dX1_ways_23 : decode cX1_ways 23 = .ok (.goto 28, 3) := by decide +kernel
theorem dX1_ways_26 : decode cX1_ways 26 = .ok (.iload_n 1, 1) := by decide +kernel
theorem dX1_ways_27 : decode cX1_ways 27 = .ok (.iconst 1, 1) := by decide +kernel
theorem dX1_ways_28 : decode cX1_ways 28 = .ok (.if_icmp .ne 10, 3) := by decide +kernel
theorem dX1_ways_31 : decode cX1_ways 31 = .ok (.aload_n 0, 1) := by decide +kernel
theorem dX1_ways_32 : decode cX1_ways 32 = .ok (.getfield 148, 3) := by decide +kernel
theorem dX1_ways_35 : decode cX1_ways 35 = .ok (.goto 16, 3) := by decide +kernel
theorem dX1_ways_38 : decode cX1_ways 38 = .ok (.iload_n 1, 1) := by decide +kernel
theorem dX1_ways_39 : decode cX1_ways 39 = .ok (.iconst 2, 1) := by decide +kernel
theorem dX1_ways_40 : decode cX1_ways 40 = .ok (.if_icmp .ne 10, 3) := by decide +kernel
theorem dX1_ways_43 : decode cX1_ways 43 = .ok (.aload_n 0, 1) := by decide +kernel
theorem dX1_ways_44 : decode cX1_ways 44 = .ok (.getfield 151, 3) := by decide +kernel
theorem dX1_ways_47 : decode cX1_ways 47 = .ok (.goto 4, 3) := by decide +kernel
theorem dX1_ways_50 : decode cX1_ways 50 = .ok (.iconst (-1), 1) := by decide +kernel
theorem dX1_ways_51 : decode cX1_ways 51 = .ok (.ireturn, 1) := by decide +kernel
set_option maxRecDepth 20000 in
theorem ggX1_count_X1_isIn : GoodIn wsX1_count wsX1_isIn := goodIn_r _ [9] (by decide +kernel) (by decide +kernel)
set_option maxRecDepth 20000 in
theorem gX1_count_X1_isIn : GoodIn wsX1_count (va_wsS RX1 59 yX1_isIn wsX1_isIn) := goodIn_app (goodIn_of _ (by decide +kernel)) ggX1_count_X1_isIn
theorem dX1_count_0 : decode cX1_count 0 = .ok (.aload_n 0, 1) := by decide +kernel
theorem dX1_count_1 : decode cX1_count 1 = .ok (.iconst 0, 1) := by decide +kernel
theorem dX1_count_2 : decode cX1_count 2 = .ok (.putfield 43, 3) := by decide +kernel
theorem dX1_count_5 : decode cX1_count 5 = .ok (.iload_n 1, 1) := by decide +kernel
theorem dX1_count_6 : decode cX1_count 6 = .ok (.ifCond .ne 10, 3) := by decide +kernel
theorem dX1_count_9 : decode cX1_count 9 = .ok (.aload_n 0, 1) := by decide +kernel
theorem dX1_count_10 : decode cX1_count 10 = .ok (.getfield 56, 3) := by decide +kernel
theorem dX1_count_13 : decode cX1_count 13 = .ok (.goto 39, 3) := by decide +kernel
theorem dX1_count_16 : decode cX1_count 16 = .ok (.iload_n 1, 1) := by decide +kernel
theorem dX1_count_17 : decode cX1_count 17 = .ok (.i2l, 1) := by decide +kernel
theorem dX1_count_18 : decode cX1_count 18 = .ok (.lconst 1, 1) := by decide +kernel
theorem dX1_count_19 : decode cX1_count 19 = .ok (.ldc2_w 157, 3) := by decide +kernel
theorem dX1_count_22 : decode cX1_count 22 = .ok (.invokestatic 59, 3) := by decide +kernel
theorem dX1_count_25 : decode cX1_count 25 = .ok (.ifCond .eq 14, 3) := by decide +kernel
theorem dX1_count_28 : decode cX1_count 28 = .ok (.aload_n 0, 1) := by decide +kernel
theorem dX1_count_29 : decode cX1_count 29 = .ok (.getfield 19, 3) := by decide +kernel
theorem dX1_count_32 : decode cX1_count 32 = .ok (.iload_n 1, 1) := by decide +kernel
theorem dX1_count_33 : decode cX1_count 33 = .ok (.iconst 1, 1) := by decide +kernel
theorem dX1_count_34 : decode cX1_count 34 = .ok (.isub, 1) := by decide +kernel
theorem dX1_count_35 : decode cX1_count 35 = .ok (.iaload, 1) := by decide +kernel
theorem dX1_count_36 : decode cX1_count 36 = .ok (.goto 16, 3) := by decide +kernel
theorem dX1_count_39 : decode cX1_count 39 = .ok (.iload_n 1, 1) := by decide +kernel
theorem dX1_count_40 : decode cX1_count 40 = .ok (.iconst 5, 1) := by decide +kernel
theorem dX1_count_41 : decode cX1_count 41 = .ok (.if_icmp .ne 10, 3) := by decide +kernel
theorem dX1_count_44 : decode cX1_count 44 = .ok (.aload_n 0, 1) := by decide +kernel
theorem dX1_count_45 : decode cX1_count 45 = .ok (.getfield 89, 3) := by decide +kernel
theorem dX1_count_48 : decode cX1_count 48 = .ok (.goto 4, 3) := by decide +kernel
theorem dX1_count_51 : decode cX1_count 51 = .ok (.iconst (-1), 1) := by decide +kernel
theorem dX1_count_52 : decode cX1_count 52 = .ok (.ireturn, 1) := by decide +kernel
