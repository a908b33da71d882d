theorem dL_law_0 : decode cL_law 0 = .ok (.new 15, 3) := by decide +kernel
theorem dL_law_3 : decode cL_law 3 = .ok (.dup, 1) := by decide +kernel
theorem dL_law_4 : decode cL_law 4 = .ok (.invokespecial 180, 3) := by decide +kernel
theorem dL_law_7 : decode cL_law 7 = .ok (.astore_n 1, 1) := by decide +kernel
theorem dL_law_8 : decode cL_law 8 = .ok (.bipush 80, 2) := by decide +kernel
theorem dL_law_10 : decode cL_law 10 = .ok (.newarray .long, 2) := by decide +kernel
theorem dL_law_12 : decode cL_law 12 = .ok (.astore_n 2, 1) := by decide +kernel
theorem dL_law_13 : decode cL_law 13 = .ok (.iconst 0, 1) := by decide +kernel
theorem dL_law_14 : decode cL_law 14 = .ok (.istore_n 3, 1) := by decide +kernel
theorem dL_law_15 : decode cL_law 15 = .ok (.aload_n 2, 1) := by decide +kernel
theorem dL_law_16 : decode cL_law 16 = .ok (.iload_n 3, 1) := by decide +kernel
theorem dL_law_17 : decode cL_law 17 = .ok (.aload_n 1, 1) := by decide +kernel
theorem dL_law_18 : decode cL_law 18 = .ok (.invokestatic 181, 3) := by decide +kernel
theorem dL_law_21 : decode cL_law 21 = .ok (.lastore, 1) := by decide +kernel
theorem dL_law_22 : decode cL_law 22 = .ok (.iconst 0, 1) := by decide +kernel
theorem dL_law_23 : decode cL_law 23 = .ok (.istore 4, 2) := by decide +kernel
theorem dL_law_25 : decode cL_law 25 = .ok (.iconst 0, 1) := by decide +kernel
theorem dL_law_26 : decode cL_law 26 = .ok (.istore 5, 2) := by decide +kernel
theorem dL_law_28 : decode cL_law 28 = .ok (.iconst 0, 1) := by decide +kernel
theorem dL_law_29 : decode cL_law 29 = .ok (.istore 6, 2) := by decide +kernel
theorem dL_law_31 : decode cL_law 31 = .ok (.iload 6, 2) := by decide +kernel
theorem dL_law_33 : decode cL_law 33 = .ok (.bipush 58, 2) := by decide +kernel
theorem dL_law_35 : decode cL_law 35 = .ok (.if_icmp .ge 560, 3) := by decide +kernel
theorem dL_law_38 : decode cL_law 38 = .ok (.aload_n 1, 1) := by decide +kernel
theorem dL_law_39 : decode cL_law 39 = .ok (.invokestatic 181, 3) := by decide +kernel
theorem dL_law_42 : decode cL_law 42 = .ok (.lstore 7, 2) := by decide +kernel
theorem dL_law_44 : decode cL_law 44 = .ok (.aload_n 1, 1) := by decide +kernel
theorem dL_law_45 : decode cL_law 45 = .ok (.invokevirtual 185, 3) := by decide +kernel
theorem dL_law_48 : decode cL_law 48 = .ok (.istore 9, 2) := by decide +kernel
theorem dL_law_50 : decode cL_law 50 = .ok (.iload 6, 2) := by decide +kernel
theorem dL_law_52 : decode cL_law 52 = .ok (.iconst 5, 1) := by decide +kernel
theorem dL_law_53 : decode cL_law 53 = .ok (.if_icmp .ge 7, 3) := by decide +kernel
theorem dL_law_56 : decode cL_law 56 = .ok (.iconst 0, 1) := by decide +kernel
theorem dL_law_57 : decode cL_law 57 = .ok (.goto 35, 3) := by decide +kernel
theorem dL_law_60 : decode cL_law 60 = .ok (.iload 6, 2) := by decide +kernel
theorem dL_law_62 : decode cL_law 62 = .ok (.bipush 8, 2) := by decide +kernel
theorem dL_law_64 : decode cL_law 64 = .ok (.if_icmp .ge 8, 3) := by decide +kernel
theorem dL_law_67 : decode cL_law 67 = .ok (.bipush 20, 2) := by decide +kernel
theorem dL_law_69 : decode cL_law 69 = .ok (.goto 23, 3) := by decide +kernel
theorem dL_law_72 : decode cL_law 72 = .ok (.iload 6, 2) := by decide +kernel
theorem dL_law_74 : decode cL_law 74 = .ok (.bipush 10, 2) := by decide +kernel
theorem dL_law_76 : decode cL_law 76 = .ok (.if_icmp .ge 8, 3) := by decide +kernel
theorem dL_law_79 : decode cL_law 79 = .ok (.bipush 16, 2) := by decide +kernel
theorem dL_law_81 : decode cL_law 81 = .ok (.goto 11, 3) := by decide +kernel
theorem dL_law_84 : decode cL_law 84 = .ok (.aload_n 0, 1) := by decide +kernel
theorem dL_law_85 : decode cL_law 85 = .ok (.iload 4, 2) := by decide +kernel
theorem dL_law_87 : decode cL_law 87 = .ok (.bipush 48, 2) := by decide +kernel
theorem dL_law_89 : decode cL_law 89 = .ok (.invokestatic 188, 3) := by decide +kernel
theorem dL_law_92 : decode cL_law 92 = .ok (.istore 10, 2) := by decide +kernel
theorem dL_law_94 : decode cL_law 94 = .ok (.aload_n 1, 1) := by decide +kernel
theorem dL_law_95 : decode cL_law 95 = .ok (.invokevirtual 192, 3) := by decide +kernel
theorem dL_law_98 : decode cL_law 98 = .ok (.istore 11, 2) := by decide +kernel
theorem dL_law_100 : decode cL_law 100 = .ok (.iload 11, 2) := by decide +kernel
theorem dL_law_102 : decode cL_law 102 = .ok (.ifCond .eq 13, 3) := by decide +kernel
theorem dL_law_105 : decode cL_law 105 = .ok (.iload 6, 2) := by decide +kernel
theorem dL_law_107 : decode cL_law 107 = .ok (.bipush 13, 2) := by decide +kernel
theorem dL_law_109 : decode cL_law 109 = .ok (.irem, 1) := by decide +kernel
theorem dL_law_110 : decode cL_law 110 = .ok (.bipush 12, 2) := by decide +kernel
theorem dL_law_112 : decode cL_law 112 = .ok (.if_icmp .ne 16, 3) := by decide +kernel
theorem dL_law_115 : decode cL_law 115 = .ok (.aload_n 0, 1) := by decide +kernel
theorem dL_law_116 : decode cL_law 116 = .ok (.iload 4, 2) := by decide +kernel
theorem dL_law_118 : decode cL_law 118 = .ok (.iconst 2, 1) := by decide +kernel
theorem dL_law_119 : decode cL_law 119 = .ok (.iadd, 1) := by decide +kernel
theorem dL_law_120 : decode cL_law 120 = .ok (.bipush 30, 2) := by decide +kernel
theorem dL_law_122 : decode cL_law 122 = .ok (.invokestatic 188, 3) := by decide +kernel
theorem dL_law_125 : decode cL_law 125 = .ok (.goto 17, 3) := by decide +kernel
theorem dL_law_128 : decode cL_law 128 = .ok (.aload_n 1, 1) := by decide +kernel
theorem dL_law_129 : decode cL_law 129 = .ok (.aload_n 0, 1) := by decide +kernel
theorem dL_law_130 : decode cL_law 130 = .ok (.iload 4, 2) := by decide +kernel
theorem dL_law_132 : decode cL_law 132 = .ok (.iconst 2, 1) := by decide +kernel
theorem dL_law_133 : decode cL_law 133 = .ok (.iadd, 1) := by decide +kernel
theorem dL_law_134 : decode cL_law 134 = .ok (.iload 11, 2) := by decide +kernel
theorem dL_law_136 : decode cL_law 136 = .ok (.invokestatic 188, 3) := by decide +kernel
theorem dL_law_139 : decode cL_law 139 = .ok (.invokestatic 195, 3) := by decide +kernel
theorem dL_law_142 : decode cL_law 142 = .ok (.istore 12, 2) := by decide +kernel
theorem dL_law_144 : decode cL_law 144 = .ok (.aload_n 1, 1) := by decide +kernel
theorem dL_law_145 : decode cL_law 145 = .ok (.iload 12, 2) := by decide +kernel
theorem dL_law_147 : decode cL_law 147 = .ok (.invokestatic 197, 3) := by decide +kernel
theorem dL_law_150 : decode cL_law 150 = .ok (.istore 13, 2) := by decide +kernel
theorem dL_law_152 : decode cL_law 152 = .ok (.aload_n 0, 1) := by decide +kernel
theorem dL_law_153 : decode cL_law 153 = .ok (.iload 4, 2) := by decide +kernel
theorem dL_law_155 : decode cL_law 155 = .ok (.iconst 1, 1) := by decide +kernel
theorem dL_law_156 : decode cL_law 156 = .ok (.iadd, 1) := by decide +kernel
theorem dL_law_157 : decode cL_law 157 = .ok (.iconst 4, 1) := by decide +kernel
theorem dL_law_158 : decode cL_law 158 = .ok (.invokestatic 188, 3) := by decide +kernel
theorem dL_law_161 : decode cL_law 161 = .ok (.istore 14, 2) := by decide +kernel
theorem dL_law_163 : decode cL_law 163 = .ok (.aload_n 1, 1) := by decide +kernel
theorem dL_law_164 : decode cL_law 164 = .ok (.iload 14, 2) := by decide +kernel
theorem dL_law_166 : decode cL_law 166 = .ok (.invokestatic 199, 3) := by decide +kernel
theorem dL_law_169 : decode cL_law 169 = .ok (.istore 15, 2) := by decide +kernel
theorem dL_law_171 : decode cL_law 171 = .ok (.aload_n 1, 1) := by decide +kernel
theorem dL_law_172 : decode cL_law 172 = .ok (.invokevirtual 201, 3) := by decide +kernel
theorem dL_law_175 : decode cL_law 175 = .ok (.istore 16, 2) := by decide +kernel
theorem dL_law_177 : decode cL_law 177 = .ok (.aload_n 1, 1) := by decide +kernel
theorem dL_law_178 : decode cL_law 178 = .ok (.invokevirtual 204, 3) := by decide +kernel
theorem dL_law_181 : decode cL_law 181 = .ok (.istore 17, 2) := by decide +kernel
theorem dL_law_183 : decode cL_law 183 = .ok (.aload_n 1, 1) := by decide +kernel
theorem dL_law_184 : decode cL_law 184 = .ok (.iconst 0, 1) := by decide +kernel
theorem dL_law_185 : decode cL_law 185 = .ok (.invokestatic 207, 3) := by decide +kernel
theorem dL_law_188 : decode cL_law 188 = .ok (.istore 18, 2) := by decide +kernel
theorem dL_law_190 : decode cL_law 190 = .ok (.aload_n 1, 1) := by decide +kernel
theorem dL_law_191 : decode cL_law 191 = .ok (.invokevirtual 209, 3) := by decide +kernel
theorem dL_law_194 : decode cL_law 194 = .ok (.istore 19, 2) := by decide +kernel
theorem dL_law_196 : decode cL_law 196 = .ok (.aload_n 1, 1) := by decide +kernel
theorem dL_law_197 : decode cL_law 197 = .ok (.invokevirtual 212, 3) := by decide +kernel
theorem dL_law_200 : decode cL_law 200 = .ok (.istore 20, 2) := by decide +kernel
theorem dL_law_202 : decode cL_law 202 = .ok (.aload_n 0, 1) := by decide +kernel
theorem dL_law_203 : decode cL_law 203 = .ok (.iload 4, 2) := by decide +kernel
theorem dL_law_205 : decode cL_law 205 = .ok (.iload 10, 2) := by decide +kernel
theorem dL_law_207 : decode cL_law 207 = .ok (.aload_n 1, 1) := by decide +kernel
theorem dL_law_208 : decode cL_law 208 = .ok (.iload 12, 2) := by decide +kernel
theorem dL_law_210 : decode cL_law 210 = .ok (.iload 14, 2) := by decide +kernel
theorem dL_law_212 : decode cL_law 212 = .ok (.invokestatic 215, 3) := by decide +kernel
theorem dL_law_215 : decode cL_law 215 = .ok (.istore 21, 2) := by decide +kernel
theorem dL_law_217 : decode cL_law 217 = .ok (.iload 10, 2) := by decide +kernel
theorem dL_law_219 : decode cL_law 219 = .ok (.bipush 12, 2) := by decide +kernel
theorem dL_law_221 : decode cL_law 221 = .ok (.if_icmp .le 21, 3) := by decide +kernel
theorem dL_law_224 : decode cL_law 224 = .ok (.iload 10, 2) := by decide +kernel
theorem dL_law_226 : decode cL_law 226 = .ok (.bipush 16, 2) := by decide +kernel
theorem dL_law_228 : decode cL_law 228 = .ok (.if_icmp .ge 14, 3) := by decide +kernel
theorem dL_law_231 : decode cL_law 231 = .ok (.iload 21, 2) := by decide +kernel
theorem dL_law_233 : decode cL_law 233 = .ok (.bipush (-70), 2) := by decide +kernel
theorem dL_law_235 : decode cL_law 235 = .ok (.if_icmp .le 7, 3) := by decide +kernel
theorem dL_law_238 : decode cL_law 238 = .ok (.iconst 1, 1) := by decide +kernel
theorem dL_law_239 : decode cL_law 239 = .ok (.goto 4, 3) := by decide +kernel
theorem dL_law_242 : decode cL_law 242 = .ok (.iconst 0, 1) := by decide +kernel
theorem dL_law_243 : decode cL_law 243 = .ok (.istore 22, 2) := by decide +kernel
theorem dL_law_245 : decode cL_law 245 = .ok (.iload 10, 2) := by decide +kernel
theorem dL_law_247 : decode cL_law 247 = .ok (.bipush 43, 2) := by decide +kernel
theorem dL_law_249 : decode cL_law 249 = .ok (.if_icmp .le 7, 3) := by decide +kernel
theorem dL_law_252 : decode cL_law 252 = .ok (.iconst 1, 1) := by decide +kernel
theorem dL_law_253 : decode cL_law 253 = .ok (.goto 4, 3) := by decide +kernel
theorem dL_law_256 : decode cL_law 256 = .ok (.iconst 0, 1) := by decide +kernel
theorem dL_law_257 : decode cL_law 257 = .ok (.istore 23, 2) := by decide +kernel
theorem dL_law_259 : decode cL_law 259 = .ok (.iload 10, 2) := by decide +kernel
theorem dL_law_261 : decode cL_law 261 = .ok (.bipush 8, 2) := by decide +kernel
theorem dL_law_263 : decode cL_law 263 = .ok (.if_icmp .eq 10, 3) := by decide +kernel
theorem dL_law_266 : decode cL_law 266 = .ok (.iload 10, 2) := by decide +kernel
theorem dL_law_268 : decode cL_law 268 = .ok (.bipush 11, 2) := by decide +kernel
theorem dL_law_270 : decode cL_law 270 = .ok (.if_icmp .ne 14, 3) := by decide +kernel
theorem dL_law_273 : decode cL_law 273 = .ok (.iload 21, 2) := by decide +kernel
theorem dL_law_275 : decode cL_law 275 = .ok (.bipush (-70), 2) := by decide +kernel
theorem dL_law_277 : decode cL_law 277 = .ok (.if_icmp .le 7, 3) := by decide +kernel
theorem dL_law_280 : decode cL_law 280 = .ok (.iconst 1, 1) := by decide +kernel
theorem dL_law_281 : decode cL_law 281 = .ok (.goto 4, 3) := by decide +kernel
theorem dL_law_284 : decode cL_law 284 = .ok (.iconst 0, 1) := by decide +kernel
theorem dL_law_285 : decode cL_law 285 = .ok (.istore 24, 2) := by decide +kernel
theorem dL_law_287 : decode cL_law 287 = .ok (.iload 22, 2) := by decide +kernel
theorem dL_law_289 : decode cL_law 289 = .ok (.ifCond .eq 36, 3) := by decide +kernel
theorem dL_law_292 : decode cL_law 292 = .ok (.aload_n 1, 1) := by decide +kernel
theorem dL_law_293 : decode cL_law 293 = .ok (.invokevirtual 219, 3) := by decide +kernel
theorem dL_law_296 : decode cL_law 296 = .ok (.iload 15, 2) := by decide +kernel
theorem dL_law_298 : decode cL_law 298 = .ok (.if_icmp .ne 31, 3) := by decide +kernel
theorem dL_law_301 : decode cL_law 301 = .ok (.aload_n 1, 1) := by decide +kernel
theorem dL_law_302 : decode cL_law 302 = .ok (.invokevirtual 201, 3) := by decide +kernel
theorem dL_law_305 : decode cL_law 305 = .ok (.iload 16, 2) := by decide +kernel
theorem dL_law_307 : decode cL_law 307 = .ok (.iload 21, 2) := by decide +kernel
theorem dL_law_309 : decode cL_law 309 = .ok (.iadd, 1) := by decide +kernel
theorem dL_law_310 : decode cL_law 310 = .ok (.if_icmp .ne 19, 3) := by decide +kernel
theorem dL_law_313 : decode cL_law 313 = .ok (.aload_n 1, 1) := by decide +kernel
theorem dL_law_314 : decode cL_law 314 = .ok (.invokevirtual 192, 3) := by decide +kernel
theorem dL_law_317 : decode cL_law 317 = .ok (.iload 11, 2) := by decide +kernel
theorem dL_law_319 : decode cL_law 319 = .ok (.iload 21, 2) := by decide +kernel
theorem dL_law_321 : decode cL_law 321 = .ok (.isub, 1) := by decide +kernel
theorem dL_law_322 : decode cL_law 322 = .ok (.if_icmp .ne 7, 3) := by decide +kernel
theorem dL_law_325 : decode cL_law 325 = .ok (.iconst 1, 1) := by decide +kernel
theorem dL_law_326 : decode cL_law 326 = .ok (.goto 4, 3) := by decide +kernel
theorem dL_law_329 : decode cL_law 329 = .ok (.iconst 0, 1) := by decide +kernel
theorem dL_law_330 : decode cL_law 330 = .ok (.istore 25, 2) := by decide +kernel
theorem dL_law_332 : decode cL_law 332 = .ok (.iload 25, 2) := by decide +kernel
theorem dL_law_334 : decode cL_law 334 = .ok (.iload 23, 2) := by decide +kernel
theorem dL_law_336 : decode cL_law 336 = .ok (.ifCond .eq 81, 3) := by decide +kernel
theorem dL_law_339 : decode cL_law 339 = .ok (.iload 13, 2) := by decide +kernel
theorem dL_law_341 : decode cL_law 341 = .ok (.ifCond .ge 13, 3) := by decide +kernel
theorem dL_law_344 : decode cL_law 344 = .ok (.iload 21, 2) := by decide +kernel
theorem dL_law_346 : decode cL_law 346 = .ok (.bipush (-75), 2) := by decide +kernel
theorem dL_law_348 : decode cL_law 348 = .ok (.if_icmp .ne 73, 3) := by decide +kernel
theorem dL_law_351 : decode cL_law 351 = .ok (.goto 66, 3) := by decide +kernel
theorem dL_law_354 : decode cL_law 354 = .ok (.iload 13, 2) := by decide +kernel
theorem dL_law_356 : decode cL_law 356 = .ok (.iload 17, 2) := by decide +kernel
theorem dL_law_358 : decode cL_law 358 = .ok (.if_icmp .le 13, 3) := by decide +kernel
theorem dL_law_361 : decode cL_law 361 = .ok (.iload 21, 2) := by decide +kernel
theorem dL_law_363 : decode cL_law 363 = .ok (.bipush (-76), 2) := by decide +kernel
theorem dL_law_365 : decode cL_law 365 = .ok (.if_icmp .ne 56, 3) := by decide +kernel
theorem dL_law_368 : decode cL_law 368 = .ok (.goto 49, 3) := by decide +kernel
theorem dL_law_371 : decode cL_law 371 = .ok (.iload 21, 2) := by decide +kernel
theorem dL_law_373 : decode cL_law 373 = .ok (.iload 13, 2) := by decide +kernel
theorem dL_law_375 : decode cL_law 375 = .ok (.if_icmp .ne 46, 3) := by decide +kernel
theorem dL_law_378 : decode cL_law 378 = .ok (.aload_n 1, 1) := by decide +kernel
theorem dL_law_379 : decode cL_law 379 = .ok (.invokevirtual 204, 3) := by decide +kernel
theorem dL_law_382 : decode cL_law 382 = .ok (.iload 17, 2) := by decide +kernel
theorem dL_law_384 : decode cL_law 384 = .ok (.iload 13, 2) := by decide +kernel
theorem dL_law_386 : decode cL_law 386 = .ok (.isub, 1) := by decide +kernel
theorem dL_law_387 : decode cL_law 387 = .ok (.if_icmp .ne 34, 3) := by decide +kernel
theorem dL_law_390 : decode cL_law 390 = .ok (.aload_n 1, 1) := by decide +kernel
theorem dL_law_391 : decode cL_law 391 = .ok (.invokevirtual 192, 3) := by decide +kernel
theorem dL_law_394 : decode cL_law 394 = .ok (.iload 11, 2) := by decide +kernel
theorem dL_law_396 : decode cL_law 396 = .ok (.iconst 1, 1) := by decide +kernel
theorem dL_law_397 : decode cL_law 397 = .ok (.isub, 1) := by decide +kernel
theorem dL_law_398 : decode cL_law 398 = .ok (.if_icmp .ne 23, 3) := by decide +kernel
theorem dL_law_401 : decode cL_law 401 = .ok (.aload_n 1, 1) := by decide +kernel
theorem dL_law_402 : decode cL_law 402 = .ok (.iload 12, 2) := by decide +kernel
theorem dL_law_404 : decode cL_law 404 = .ok (.invokestatic 222, 3) := by decide +kernel
theorem dL_law_407 : decode cL_law 407 = .ok (.bipush (-75), 2) := by decide +kernel
theorem dL_law_409 : decode cL_law 409 = .ok (.if_icmp .ne 12, 3) := by decide +kernel
theorem dL_law_412 : decode cL_law 412 = .ok (.iload 20, 2) := by decide +kernel
theorem dL_law_414 : decode cL_law 414 = .ok (.ifCond .le 7, 3) := by decide +kernel
theorem dL_law_417 : decode cL_law 417 = .ok (.iconst 1, 1) := by decide +kernel
theorem dL_law_418 : decode cL_law 418 = .ok (.goto 4, 3) := by decide +kernel
theorem dL_law_421 : decode cL_law 421 = .ok (.iconst 0, 1) := by decide +kernel
theorem dL_law_422 : decode cL_law 422 = .ok (.iand, 1) := by decide +kernel
theorem dL_law_423 : decode cL_law 423 = .ok (.istore 25, 2) := by decide +kernel
theorem dL_law_425 : decode cL_law 425 = .ok (.iload 25, 2) := by decide +kernel
theorem dL_law_427 : decode cL_law 427 = .ok (.iload 24, 2) := by decide +kernel
theorem dL_law_429 : decode cL_law 429 = .ok (.ifCond .eq 30, 3) := by decide +kernel
theorem dL_law_432 : decode cL_law 432 = .ok (.iload 21, 2) := by decide +kernel
theorem dL_law_434 : decode cL_law 434 = .ok (.iload 18, 2) := by decide +kernel
theorem dL_law_436 : decode cL_law 436 = .ok (.if_icmp .ne 27, 3) := by decide +kernel
theorem dL_law_439 : decode cL_law 439 = .ok (.aload_n 1, 1) := by decide +kernel
theorem dL_law_440 : decode cL_law 440 = .ok (.iload 21, 2) := by decide +kernel
theorem dL_law_442 : decode cL_law 442 = .ok (.invokestatic 224, 3) := by decide +kernel
theorem dL_law_445 : decode cL_law 445 = .ok (.ifCond .ne 18, 3) := by decide +kernel
theorem dL_law_448 : decode cL_law 448 = .ok (.aload_n 1, 1) := by decide +kernel
theorem dL_law_449 : decode cL_law 449 = .ok (.invokevirtual 209, 3) := by decide +kernel
theorem dL_law_452 : decode cL_law 452 = .ok (.iload 19, 2) := by decide +kernel
theorem dL_law_454 : decode cL_law 454 = .ok (.iconst 1, 1) := by decide +kernel
theorem dL_law_455 : decode cL_law 455 = .ok (.isub, 1) := by decide +kernel
theorem dL_law_456 : decode cL_law 456 = .ok (.if_icmp .ne 7, 3) := by decide +kernel
theorem dL_law_459 : decode cL_law 459 = .ok (.iconst 1, 1) := by decide +kernel
theorem dL_law_460 : decode cL_law 460 = .ok (.goto 4, 3) := by decide +kernel
theorem dL_law_463 : decode cL_law 463 = .ok (.iconst 0, 1) := by decide +kernel
theorem dL_law_464 : decode cL_law 464 = .ok (.iand, 1) := by decide +kernel
theorem dL_law_465 : decode cL_law 465 = .ok (.istore 25, 2) := by decide +kernel
theorem dL_law_467 : decode cL_law 467 = .ok (.iload 5, 2) := by decide +kernel
theorem dL_law_469 : decode cL_law 469 = .ok (.iload 10, 2) := by decide +kernel
theorem dL_law_471 : decode cL_law 471 = .ok (.bipush 8, 2) := by decide +kernel
theorem dL_law_473 : decode cL_law 473 = .ok (.if_icmp .le 27, 3) := by decide +kernel
theorem dL_law_476 : decode cL_law 476 = .ok (.iload 10, 2) := by decide +kernel
theorem dL_law_478 : decode cL_law 478 = .ok (.bipush 11, 2) := by decide +kernel
theorem dL_law_480 : decode cL_law 480 = .ok (.if_icmp .ge 20, 3) := by decide +kernel
theorem dL_law_483 : decode cL_law 483 = .ok (.iload 21, 2) := by decide +kernel
theorem dL_law_485 : decode cL_law 485 = .ok (.bipush (-70), 2) := by decide +kernel
theorem dL_law_487 : decode cL_law 487 = .ok (.if_icmp .le 13, 3) := by decide +kernel
theorem dL_law_490 : decode cL_law 490 = .ok (.aload_n 1, 1) := by decide +kernel
theorem dL_law_491 : decode cL_law 491 = .ok (.invokevirtual 204, 3) := by decide +kernel
theorem dL_law_494 : decode cL_law 494 = .ok (.iload 17, 2) := by decide +kernel
theorem dL_law_496 : decode cL_law 496 = .ok (.isub, 1) := by decide +kernel
theorem dL_law_497 : decode cL_law 497 = .ok (.goto 4, 3) := by decide +kernel
theorem dL_law_500 : decode cL_law 500 = .ok (.iconst 0, 1) := by decide +kernel
theorem dL_law_501 : decode cL_law 501 = .ok (.iadd, 1) := by decide +kernel
theorem dL_law_502 : decode cL_law 502 = .ok (.istore 5, 2) := by decide +kernel
theorem dL_law_504 : decode cL_law 504 = .ok (.iinc 4 5, 3) := by decide +kernel
theorem dL_law_507 : decode cL_law 507 = .ok (.iload 25, 2) := by decide +kernel
theorem dL_law_509 : decode cL_law 509 = .ok (.ifCond .eq 40, 3) := by decide +kernel
theorem dL_law_512 : decode cL_law 512 = .ok (.aload_n 1, 1) := by decide +kernel
theorem dL_law_513 : decode cL_law 513 = .ok (.invokevirtual 204, 3) := by decide +kernel
theorem dL_law_516 : decode cL_law 516 = .ok (.aload_n 1, 1) := by decide +kernel
theorem dL_law_517 : decode cL_law 517 = .ok (.invokevirtual 226, 3) := by decide +kernel
theorem dL_law_520 : decode cL_law 520 = .ok (.iadd, 1) := by decide +kernel
theorem dL_law_521 : decode cL_law 521 = .ok (.iload 5, 2) := by decide +kernel
theorem dL_law_523 : decode cL_law 523 = .ok (.if_icmp .ne 26, 3) := by decide +kernel
theorem dL_law_526 : decode cL_law 526 = .ok (.aload_n 1, 1) := by decide +kernel
theorem dL_law_527 : decode cL_law 527 = .ok (.aload_n 0, 1) := by decide +kernel
theorem dL_law_528 : decode cL_law 528 = .ok (.iload 4, 2) := by decide +kernel
theorem dL_law_530 : decode cL_law 530 = .ok (.iload 6, 2) := by decide +kernel
theorem dL_law_532 : decode cL_law 532 = .ok (.iconst 4, 1) := by decide +kernel
theorem dL_law_533 : decode cL_law 533 = .ok (.irem, 1) := by decide +kernel
theorem dL_law_534 : decode cL_law 534 = .ok (.iconst 3, 1) := by decide +kernel
theorem dL_law_535 : decode cL_law 535 = .ok (.if_icmp .ne 7, 3) := by decide +kernel
theorem dL_law_538 : decode cL_law 538 = .ok (.iconst 1, 1) := by decide +kernel
theorem dL_law_539 : decode cL_law 539 = .ok (.goto 4, 3) := by decide +kernel
theorem dL_law_542 : decode cL_law 542 = .ok (.iconst 0, 1) := by decide +kernel
theorem dL_law_543 : decode cL_law 543 = .ok (.invokestatic 229, 3) := by decide +kernel
theorem dL_law_546 : decode cL_law 546 = .ok (.ifCond .ne 5, 3) := by decide +kernel
theorem dL_law_549 : decode cL_law 549 = .ok (.iconst 0, 1) := by decide +kernel
theorem dL_law_550 : decode cL_law 550 = .ok (.ireturn, 1) := by decide +kernel
theorem dL_law_551 : decode cL_law 551 = .ok (.iload 21, 2) := by decide +kernel
theorem dL_law_553 : decode cL_law 553 = .ok (.bipush (-74), 2) := by decide +kernel
theorem dL_law_555 : decode cL_law 555 = .ok (.if_icmp .gt 24, 3) := by decide +kernel
theorem dL_law_558 : decode cL_law 558 = .ok (.aload_n 1, 1) := by decide +kernel
theorem dL_law_559 : decode cL_law 559 = .ok (.invokestatic 181, 3) := by decide +kernel
theorem dL_law_562 : decode cL_law 562 = .ok (.lload 7, 2) := by decide +kernel
theorem dL_law_564 : decode cL_law 564 = .ok (.lcmp, 1) := by decide +kernel
theorem dL_law_565 : decode cL_law 565 = .ok (.ifCond .ne 12, 3) := by decide +kernel
theorem dL_law_568 : decode cL_law 568 = .ok (.aload_n 1, 1) := by decide +kernel
theorem dL_law_569 : decode cL_law 569 = .ok (.invokevirtual 185, 3) := by decide +kernel
theorem dL_law_572 : decode cL_law 572 = .ok (.iload 9, 2) := by decide +kernel
theorem dL_law_574 : decode cL_law 574 = .ok (.if_icmp .eq 15, 3) := by decide +kernel
theorem dL_law_577 : decode cL_law 577 = .ok (.iconst 0, 1) := by decide +kernel
theorem dL_law_578 : decode cL_law 578 = .ok (.ireturn, 1) := by decide +kernel
theorem dL_law_579 : decode cL_law 579 = .ok (.iinc 3 1, 3) := by decide +kernel
theorem dL_law_582 : decode cL_law 582 = .ok (.aload_n 2, 1) := by decide +kernel
theorem dL_law_583 : decode cL_law 583 = .ok (.iload_n 3, 1) := by decide +kernel
theorem dL_law_584 : decode cL_law 584 = .ok (.aload_n 1, 1) := by decide +kernel
theorem dL_law_585 : decode cL_law 585 = .ok (.invokestatic 181, 3) := by decide +kernel
theorem dL_law_588 : decode cL_law 588 = .ok (.lastore, 1) := by decide +kernel
theorem dL_law_589 : decode cL_law 589 = .ok (.iinc 6 1, 3) := by decide +kernel
theorem dL_law_592 : decode cL_law 592 = .ok (.goto (-561), 3) := by decide +kernel
theorem dL_law_595 : decode cL_law 595 = .ok (.aload_n 1, 1) := by decide +kernel
theorem dL_law_596 : decode cL_law 596 = .ok (.aload_n 2, 1) := by decide +kernel
theorem dL_law_597 : decode cL_law 597 = .ok (.iload_n 3, 1) := by decide +kernel
theorem dL_law_598 : decode cL_law 598 = .ok (.invokestatic 233, 3) := by decide +kernel
theorem dL_law_601 : decode cL_law 601 = .ok (.ireturn, 1) := by decide +kernel
