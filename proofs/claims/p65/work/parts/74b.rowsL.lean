/-! the law's code -/
theorem dL_law_0 : decode cL_law 0 = .ok (.new 14, 3) := by decide +kernel
theorem dL_law_3 : decode cL_law 3 = .ok (.dup, 1) := by decide +kernel
theorem dL_law_4 : decode cL_law 4 = .ok (.invokespecial 164, 3) := by decide +kernel
theorem dL_law_7 : decode cL_law 7 = .ok (.astore_n 1, 1) := by decide +kernel
theorem dL_law_8 : decode cL_law 8 = .ok (.aload_n 1, 1) := by decide +kernel
theorem dL_law_9 : decode cL_law 9 = .ok (.aload_n 0, 1) := by decide +kernel
theorem dL_law_10 : decode cL_law 10 = .ok (.invokestatic 165, 3) := by decide +kernel
theorem dL_law_13 : decode cL_law 13 = .ok (.iconst 0, 1) := by decide +kernel
theorem dL_law_14 : decode cL_law 14 = .ok (.istore_n 2, 1) := by decide +kernel
theorem dL_law_15 : decode cL_law 15 = .ok (.iload_n 2, 1) := by decide +kernel
theorem dL_law_16 : decode cL_law 16 = .ok (.iconst 3, 1) := by decide +kernel
theorem dL_law_17 : decode cL_law 17 = .ok (.if_icmp .ge 1340, 3) := by decide +kernel
theorem dL_law_20 : decode cL_law 20 = .ok (.aload_n 1, 1) := by decide +kernel
theorem dL_law_21 : decode cL_law 21 = .ok (.invokevirtual 99, 3) := by decide +kernel
theorem dL_law_24 : decode cL_law 24 = .ok (.istore_n 3, 1) := by decide +kernel
theorem dL_law_25 : decode cL_law 25 = .ok (.aload_n 1, 1) := by decide +kernel
theorem dL_law_26 : decode cL_law 26 = .ok (.invokevirtual 93, 3) := by decide +kernel
theorem dL_law_29 : decode cL_law 29 = .ok (.istore 4, 2) := by decide +kernel
theorem dL_law_31 : decode cL_law 31 = .ok (.iconst 0, 1) := by decide +kernel
theorem dL_law_32 : decode cL_law 32 = .ok (.istore 5, 2) := by decide +kernel
theorem dL_law_34 : decode cL_law 34 = .ok (.iconst 0, 1) := by decide +kernel
theorem dL_law_35 : decode cL_law 35 = .ok (.istore 6, 2) := by decide +kernel
theorem dL_law_37 : decode cL_law 37 = .ok (.aload_n 1, 1) := by decide +kernel
theorem dL_law_38 : decode cL_law 38 = .ok (.invokevirtual 169, 3) := by decide +kernel
theorem dL_law_41 : decode cL_law 41 = .ok (.istore 7, 2) := by decide +kernel
theorem dL_law_43 : decode cL_law 43 = .ok (.iconst 0, 1) := by decide +kernel
theorem dL_law_44 : decode cL_law 44 = .ok (.istore 8, 2) := by decide +kernel
theorem dL_law_46 : decode cL_law 46 = .ok (.iload 8, 2) := by decide +kernel
theorem dL_law_48 : decode cL_law 48 = .ok (.iload_n 3, 1) := by decide +kernel
theorem dL_law_49 : decode cL_law 49 = .ok (.if_icmp .ge 687, 3) := by decide +kernel
theorem dL_law_52 : decode cL_law 52 = .ok (.aload_n 1, 1) := by decide +kernel
theorem dL_law_53 : decode cL_law 53 = .ok (.iload 8, 2) := by decide +kernel
theorem dL_law_55 : decode cL_law 55 = .ok (.invokevirtual 70, 3) := by decide +kernel
theorem dL_law_58 : decode cL_law 58 = .ok (.istore 9, 2) := by decide +kernel
theorem dL_law_60 : decode cL_law 60 = .ok (.aload_n 1, 1) := by decide +kernel
theorem dL_law_61 : decode cL_law 61 = .ok (.iload 9, 2) := by decide +kernel
theorem dL_law_63 : decode cL_law 63 = .ok (.invokevirtual 172, 3) := by decide +kernel
theorem dL_law_66 : decode cL_law 66 = .ok (.istore 10, 2) := by decide +kernel
theorem dL_law_68 : decode cL_law 68 = .ok (.iconst 0, 1) := by decide +kernel
theorem dL_law_69 : decode cL_law 69 = .ok (.istore 11, 2) := by decide +kernel
theorem dL_law_71 : decode cL_law 71 = .ok (.iconst 0, 1) := by decide +kernel
theorem dL_law_72 : decode cL_law 72 = .ok (.istore 12, 2) := by decide +kernel
theorem dL_law_74 : decode cL_law 74 = .ok (.iconst 0, 1) := by decide +kernel
theorem dL_law_75 : decode cL_law 75 = .ok (.istore 13, 2) := by decide +kernel
theorem dL_law_77 : decode cL_law 77 = .ok (.iconst 0, 1) := by decide +kernel
theorem dL_law_78 : decode cL_law 78 = .ok (.istore 14, 2) := by decide +kernel
theorem dL_law_80 : decode cL_law 80 = .ok (.ldc 175, 2) := by decide +kernel
theorem dL_law_82 : decode cL_law 82 = .ok (.astore 15, 2) := by decide +kernel
theorem dL_law_84 : decode cL_law 84 = .ok (.iconst 0, 1) := by decide +kernel
theorem dL_law_85 : decode cL_law 85 = .ok (.istore 16, 2) := by decide +kernel
theorem dL_law_87 : decode cL_law 87 = .ok (.iload 16, 2) := by decide +kernel
theorem dL_law_89 : decode cL_law 89 = .ok (.iload 10, 2) := by decide +kernel
theorem dL_law_91 : decode cL_law 91 = .ok (.if_icmp .ge 445, 3) := by decide +kernel
theorem dL_law_94 : decode cL_law 94 = .ok (.aload_n 1, 1) := by decide +kernel
theorem dL_law_95 : decode cL_law 95 = .ok (.iload 9, 2) := by decide +kernel
theorem dL_law_97 : decode cL_law 97 = .ok (.iload 16, 2) := by decide +kernel
theorem dL_law_99 : decode cL_law 99 = .ok (.invokevirtual 63, 3) := by decide +kernel
theorem dL_law_102 : decode cL_law 102 = .ok (.istore 17, 2) := by decide +kernel
theorem dL_law_104 : decode cL_law 104 = .ok (.iload 16, 2) := by decide +kernel
theorem dL_law_106 : decode cL_law 106 = .ok (.ifCond .le 16, 3) := by decide +kernel
theorem dL_law_109 : decode cL_law 109 = .ok (.aload_n 1, 1) := by decide +kernel
theorem dL_law_110 : decode cL_law 110 = .ok (.iload 9, 2) := by decide +kernel
theorem dL_law_112 : decode cL_law 112 = .ok (.iload 16, 2) := by decide +kernel
theorem dL_law_114 : decode cL_law 114 = .ok (.iconst 1, 1) := by decide +kernel
theorem dL_law_115 : decode cL_law 115 = .ok (.isub, 1) := by decide +kernel
theorem dL_law_116 : decode cL_law 116 = .ok (.invokevirtual 63, 3) := by decide +kernel
theorem dL_law_119 : decode cL_law 119 = .ok (.goto 6, 3) := by decide +kernel
theorem dL_law_122 : decode cL_law 122 = .ok (.sipush (-30000), 3) := by decide +kernel
theorem dL_law_125 : decode cL_law 125 = .ok (.istore 18, 2) := by decide +kernel
theorem dL_law_127 : decode cL_law 127 = .ok (.iload 16, 2) := by decide +kernel
theorem dL_law_129 : decode cL_law 129 = .ok (.ifCond .le 14, 3) := by decide +kernel
theorem dL_law_132 : decode cL_law 132 = .ok (.aload_n 1, 1) := by decide +kernel
theorem dL_law_133 : decode cL_law 133 = .ok (.iload 18, 2) := by decide +kernel
theorem dL_law_135 : decode cL_law 135 = .ok (.iload 17, 2) := by decide +kernel
theorem dL_law_137 : decode cL_law 137 = .ok (.invokestatic 177, 3) := by decide +kernel
theorem dL_law_140 : decode cL_law 140 = .ok (.goto 4, 3) := by decide +kernel
theorem dL_law_143 : decode cL_law 143 = .ok (.iconst 0, 1) := by decide +kernel
theorem dL_law_144 : decode cL_law 144 = .ok (.istore 19, 2) := by decide +kernel
theorem dL_law_146 : decode cL_law 146 = .ok (.iload 16, 2) := by decide +kernel
theorem dL_law_148 : decode cL_law 148 = .ok (.ifCond .le 14, 3) := by decide +kernel
theorem dL_law_151 : decode cL_law 151 = .ok (.aload_n 1, 1) := by decide +kernel
theorem dL_law_152 : decode cL_law 152 = .ok (.iload 18, 2) := by decide +kernel
theorem dL_law_154 : decode cL_law 154 = .ok (.iload 17, 2) := by decide +kernel
theorem dL_law_156 : decode cL_law 156 = .ok (.invokestatic 136, 3) := by decide +kernel
theorem dL_law_159 : decode cL_law 159 = .ok (.goto 6, 3) := by decide +kernel
theorem dL_law_162 : decode cL_law 162 = .ok (.sipush (-30000), 3) := by decide +kernel
theorem dL_law_165 : decode cL_law 165 = .ok (.istore 20, 2) := by decide +kernel
theorem dL_law_167 : decode cL_law 167 = .ok (.aload_n 1, 1) := by decide +kernel
theorem dL_law_168 : decode cL_law 168 = .ok (.iload 17, 2) := by decide +kernel
theorem dL_law_170 : decode cL_law 170 = .ok (.invokevirtual 140, 3) := by decide +kernel
theorem dL_law_173 : decode cL_law 173 = .ok (.iload 9, 2) := by decide +kernel
theorem dL_law_175 : decode cL_law 175 = .ok (.if_icmp .ne 214, 3) := by decide +kernel
theorem dL_law_178 : decode cL_law 178 = .ok (.iload 16, 2) := by decide +kernel
theorem dL_law_180 : decode cL_law 180 = .ok (.ifCond .le 18, 3) := by decide +kernel
theorem dL_law_183 : decode cL_law 183 = .ok (.aload_n 1, 1) := by decide +kernel
theorem dL_law_184 : decode cL_law 184 = .ok (.iload 17, 2) := by decide +kernel
theorem dL_law_186 : decode cL_law 186 = .ok (.invokevirtual 180, 3) := by decide +kernel
theorem dL_law_189 : decode cL_law 189 = .ok (.aload_n 1, 1) := by decide +kernel
theorem dL_law_190 : decode cL_law 190 = .ok (.iload 18, 2) := by decide +kernel
theorem dL_law_192 : decode cL_law 192 = .ok (.invokevirtual 180, 3) := by decide +kernel
theorem dL_law_195 : decode cL_law 195 = .ok (.if_icmp .le 194, 3) := by decide +kernel
theorem dL_law_198 : decode cL_law 198 = .ok (.aload_n 1, 1) := by decide +kernel
theorem dL_law_199 : decode cL_law 199 = .ok (.iload 17, 2) := by decide +kernel
theorem dL_law_201 : decode cL_law 201 = .ok (.invokestatic 183, 3) := by decide +kernel
theorem dL_law_204 : decode cL_law 204 = .ok (.iload 18, 2) := by decide +kernel
theorem dL_law_206 : decode cL_law 206 = .ok (.if_icmp .ne 183, 3) := by decide +kernel
theorem dL_law_209 : decode cL_law 209 = .ok (.aload_n 1, 1) := by decide +kernel
theorem dL_law_210 : decode cL_law 210 = .ok (.iload 17, 2) := by decide +kernel
theorem dL_law_212 : decode cL_law 212 = .ok (.invokestatic 185, 3) := by decide +kernel
theorem dL_law_215 : decode cL_law 215 = .ok (.iload 16, 2) := by decide +kernel
theorem dL_law_217 : decode cL_law 217 = .ok (.iload 10, 2) := by decide +kernel
theorem dL_law_219 : decode cL_law 219 = .ok (.iconst 1, 1) := by decide +kernel
theorem dL_law_220 : decode cL_law 220 = .ok (.isub, 1) := by decide +kernel
theorem dL_law_221 : decode cL_law 221 = .ok (.if_icmp .ge 16, 3) := by decide +kernel
theorem dL_law_224 : decode cL_law 224 = .ok (.aload_n 1, 1) := by decide +kernel
theorem dL_law_225 : decode cL_law 225 = .ok (.iload 9, 2) := by decide +kernel
theorem dL_law_227 : decode cL_law 227 = .ok (.iload 16, 2) := by decide +kernel
theorem dL_law_229 : decode cL_law 229 = .ok (.iconst 1, 1) := by decide +kernel
theorem dL_law_230 : decode cL_law 230 = .ok (.iadd, 1) := by decide +kernel
theorem dL_law_231 : decode cL_law 231 = .ok (.invokevirtual 63, 3) := by decide +kernel
theorem dL_law_234 : decode cL_law 234 = .ok (.goto 6, 3) := by decide +kernel
theorem dL_law_237 : decode cL_law 237 = .ok (.sipush (-30000), 3) := by decide +kernel
theorem dL_law_240 : decode cL_law 240 = .ok (.if_icmp .ne 149, 3) := by decide +kernel
theorem dL_law_243 : decode cL_law 243 = .ok (.aload_n 1, 1) := by decide +kernel
theorem dL_law_244 : decode cL_law 244 = .ok (.iload 17, 2) := by decide +kernel
theorem dL_law_246 : decode cL_law 246 = .ok (.invokestatic 187, 3) := by decide +kernel
theorem dL_law_249 : decode cL_law 249 = .ok (.iload 20, 2) := by decide +kernel
theorem dL_law_251 : decode cL_law 251 = .ok (.if_icmp .ne 138, 3) := by decide +kernel
theorem dL_law_254 : decode cL_law 254 = .ok (.aload_n 1, 1) := by decide +kernel
theorem dL_law_255 : decode cL_law 255 = .ok (.iload 17, 2) := by decide +kernel
theorem dL_law_257 : decode cL_law 257 = .ok (.invokevirtual 189, 3) := by decide +kernel
theorem dL_law_260 : decode cL_law 260 = .ok (.iload 19, 2) := by decide +kernel
theorem dL_law_262 : decode cL_law 262 = .ok (.iconst 1, 1) := by decide +kernel
theorem dL_law_263 : decode cL_law 263 = .ok (.iand, 1) := by decide +kernel
theorem dL_law_264 : decode cL_law 264 = .ok (.ifCond .le 7, 3) := by decide +kernel
theorem dL_law_267 : decode cL_law 267 = .ok (.iconst 1, 1) := by decide +kernel
theorem dL_law_268 : decode cL_law 268 = .ok (.goto 4, 3) := by decide +kernel
theorem dL_law_271 : decode cL_law 271 = .ok (.iconst 0, 1) := by decide +kernel
theorem dL_law_272 : decode cL_law 272 = .ok (.if_icmp .ne 117, 3) := by decide +kernel
theorem dL_law_275 : decode cL_law 275 = .ok (.aload_n 1, 1) := by decide +kernel
theorem dL_law_276 : decode cL_law 276 = .ok (.iload 17, 2) := by decide +kernel
theorem dL_law_278 : decode cL_law 278 = .ok (.invokevirtual 192, 3) := by decide +kernel
theorem dL_law_281 : decode cL_law 281 = .ok (.iload 19, 2) := by decide +kernel
theorem dL_law_283 : decode cL_law 283 = .ok (.iconst 2, 1) := by decide +kernel
theorem dL_law_284 : decode cL_law 284 = .ok (.iand, 1) := by decide +kernel
theorem dL_law_285 : decode cL_law 285 = .ok (.ifCond .le 7, 3) := by decide +kernel
theorem dL_law_288 : decode cL_law 288 = .ok (.iconst 1, 1) := by decide +kernel
theorem dL_law_289 : decode cL_law 289 = .ok (.goto 4, 3) := by decide +kernel
theorem dL_law_292 : decode cL_law 292 = .ok (.iconst 0, 1) := by decide +kernel
theorem dL_law_293 : decode cL_law 293 = .ok (.if_icmp .ne 96, 3) := by decide +kernel
theorem dL_law_296 : decode cL_law 296 = .ok (.aload_n 1, 1) := by decide +kernel
theorem dL_law_297 : decode cL_law 297 = .ok (.iload 17, 2) := by decide +kernel
theorem dL_law_299 : decode cL_law 299 = .ok (.invokevirtual 195, 3) := by decide +kernel
theorem dL_law_302 : decode cL_law 302 = .ok (.iload 19, 2) := by decide +kernel
theorem dL_law_304 : decode cL_law 304 = .ok (.iconst 4, 1) := by decide +kernel
theorem dL_law_305 : decode cL_law 305 = .ok (.iand, 1) := by decide +kernel
theorem dL_law_306 : decode cL_law 306 = .ok (.ifCond .le 7, 3) := by decide +kernel
theorem dL_law_309 : decode cL_law 309 = .ok (.iconst 1, 1) := by decide +kernel
theorem dL_law_310 : decode cL_law 310 = .ok (.goto 4, 3) := by decide +kernel
theorem dL_law_313 : decode cL_law 313 = .ok (.iconst 0, 1) := by decide +kernel
theorem dL_law_314 : decode cL_law 314 = .ok (.if_icmp .ne 75, 3) := by decide +kernel
theorem dL_law_317 : decode cL_law 317 = .ok (.aload_n 1, 1) := by decide +kernel
theorem dL_law_318 : decode cL_law 318 = .ok (.iload 17, 2) := by decide +kernel
theorem dL_law_320 : decode cL_law 320 = .ok (.invokevirtual 116, 3) := by decide +kernel
theorem dL_law_323 : decode cL_law 323 = .ok (.iload 7, 2) := by decide +kernel
theorem dL_law_325 : decode cL_law 325 = .ok (.if_icmp .lt 64, 3) := by decide +kernel
theorem dL_law_328 : decode cL_law 328 = .ok (.aload_n 1, 1) := by decide +kernel
theorem dL_law_329 : decode cL_law 329 = .ok (.aload_n 1, 1) := by decide +kernel
theorem dL_law_330 : decode cL_law 330 = .ok (.iload 17, 2) := by decide +kernel
theorem dL_law_332 : decode cL_law 332 = .ok (.invokevirtual 116, 3) := by decide +kernel
theorem dL_law_335 : decode cL_law 335 = .ok (.aload_n 1, 1) := by decide +kernel
theorem dL_law_336 : decode cL_law 336 = .ok (.iload 17, 2) := by decide +kernel
theorem dL_law_338 : decode cL_law 338 = .ok (.invokevirtual 127, 3) := by decide +kernel
theorem dL_law_341 : decode cL_law 341 = .ok (.invokevirtual 76, 3) := by decide +kernel
theorem dL_law_344 : decode cL_law 344 = .ok (.iload 17, 2) := by decide +kernel
theorem dL_law_346 : decode cL_law 346 = .ok (.if_icmp .ne 43, 3) := by decide +kernel
theorem dL_law_349 : decode cL_law 349 = .ok (.aload_n 1, 1) := by decide +kernel
theorem dL_law_350 : decode cL_law 350 = .ok (.iload 17, 2) := by decide +kernel
theorem dL_law_352 : decode cL_law 352 = .ok (.invokevirtual 198, 3) := by decide +kernel
theorem dL_law_355 : decode cL_law 355 = .ok (.ifCond .lt 34, 3) := by decide +kernel
theorem dL_law_358 : decode cL_law 358 = .ok (.aload_n 1, 1) := by decide +kernel
theorem dL_law_359 : decode cL_law 359 = .ok (.iload 17, 2) := by decide +kernel
theorem dL_law_361 : decode cL_law 361 = .ok (.invokevirtual 198, 3) := by decide +kernel
theorem dL_law_364 : decode cL_law 364 = .ok (.iconst 3, 1) := by decide +kernel
theorem dL_law_365 : decode cL_law 365 = .ok (.if_icmp .gt 24, 3) := by decide +kernel
theorem dL_law_368 : decode cL_law 368 = .ok (.aload_n 1, 1) := by decide +kernel
theorem dL_law_369 : decode cL_law 369 = .ok (.iload 17, 2) := by decide +kernel
theorem dL_law_371 : decode cL_law 371 = .ok (.invokevirtual 201, 3) := by decide +kernel
theorem dL_law_374 : decode cL_law 374 = .ok (.dconst 1, 1) := by decide +kernel
theorem dL_law_375 : decode cL_law 375 = .ok (.dconst 1, 1) := by decide +kernel
theorem dL_law_376 : decode cL_law 376 = .ok (.aload_n 1, 1) := by decide +kernel
theorem dL_law_377 : decode cL_law 377 = .ok (.iload 17, 2) := by decide +kernel
theorem dL_law_379 : decode cL_law 379 = .ok (.invokevirtual 198, 3) := by decide +kernel
theorem dL_law_382 : decode cL_law 382 = .ok (.i2d, 1) := by decide +kernel
theorem dL_law_383 : decode cL_law 383 = .ok (.dadd, 1) := by decide +kernel
theorem dL_law_384 : decode cL_law 384 = .ok (.ddiv, 1) := by decide +kernel
theorem dL_law_385 : decode cL_law 385 = .ok (.dcmp .l, 1) := by decide +kernel
theorem dL_law_386 : decode cL_law 386 = .ok (.ifCond .eq 5, 3) := by decide +kernel
theorem dL_law_389 : decode cL_law 389 = .ok (.iconst 0, 1) := by decide +kernel
theorem dL_law_390 : decode cL_law 390 = .ok (.ireturn, 1) := by decide +kernel
theorem dL_law_391 : decode cL_law 391 = .ok (.new 205, 3) := by decide +kernel
theorem dL_law_394 : decode cL_law 394 = .ok (.dup, 1) := by decide +kernel
theorem dL_law_395 : decode cL_law 395 = .ok (.invokespecial 207, 3) := by decide +kernel
theorem dL_law_398 : decode cL_law 398 = .ok (.aload 15, 2) := by decide +kernel
theorem dL_law_400 : decode cL_law 400 = .ok (.invokevirtual 208, 3) := by decide +kernel
theorem dL_law_403 : decode cL_law 403 = .ok (.aload_n 1, 1) := by decide +kernel
theorem dL_law_404 : decode cL_law 404 = .ok (.iload 17, 2) := by decide +kernel
theorem dL_law_406 : decode cL_law 406 = .ok (.invokevirtual 146, 3) := by decide +kernel
theorem dL_law_409 : decode cL_law 409 = .ok (.ifCond .eq 8, 3) := by decide +kernel
theorem dL_law_412 : decode cL_law 412 = .ok (.ldc 212, 2) := by decide +kernel
theorem dL_law_414 : decode cL_law 414 = .ok (.goto 5, 3) := by decide +kernel
theorem dL_law_417 : decode cL_law 417 = .ok (.ldc 214, 2) := by decide +kernel
theorem dL_law_419 : decode cL_law 419 = .ok (.invokevirtual 208, 3) := by decide +kernel
theorem dL_law_422 : decode cL_law 422 = .ok (.aload_n 1, 1) := by decide +kernel
theorem dL_law_423 : decode cL_law 423 = .ok (.iload 17, 2) := by decide +kernel
theorem dL_law_425 : decode cL_law 425 = .ok (.invokevirtual 198, 3) := by decide +kernel
theorem dL_law_428 : decode cL_law 428 = .ok (.ifCond .le 8, 3) := by decide +kernel
theorem dL_law_431 : decode cL_law 431 = .ok (.ldc 216, 2) := by decide +kernel
theorem dL_law_433 : decode cL_law 433 = .ok (.goto 5, 3) := by decide +kernel
theorem dL_law_436 : decode cL_law 436 = .ok (.ldc 175, 2) := by decide +kernel
theorem dL_law_438 : decode cL_law 438 = .ok (.invokevirtual 208, 3) := by decide +kernel
theorem dL_law_441 : decode cL_law 441 = .ok (.iload 19, 2) := by decide +kernel
theorem dL_law_443 : decode cL_law 443 = .ok (.ifCond .le 8, 3) := by decide +kernel
theorem dL_law_446 : decode cL_law 446 = .ok (.ldc 218, 2) := by decide +kernel
theorem dL_law_448 : decode cL_law 448 = .ok (.goto 5, 3) := by decide +kernel
theorem dL_law_451 : decode cL_law 451 = .ok (.ldc 175, 2) := by decide +kernel
theorem dL_law_453 : decode cL_law 453 = .ok (.invokevirtual 208, 3) := by decide +kernel
theorem dL_law_456 : decode cL_law 456 = .ok (.invokevirtual 220, 3) := by decide +kernel
theorem dL_law_459 : decode cL_law 459 = .ok (.astore 15, 2) := by decide +kernel
theorem dL_law_461 : decode cL_law 461 = .ok (.iload 11, 2) := by decide +kernel
theorem dL_law_463 : decode cL_law 463 = .ok (.iconst 0, 1) := by decide +kernel
theorem dL_law_464 : decode cL_law 464 = .ok (.iload 20, 2) := by decide +kernel
theorem dL_law_466 : decode cL_law 466 = .ok (.invokestatic 124, 3) := by decide +kernel
theorem dL_law_469 : decode cL_law 469 = .ok (.iadd, 1) := by decide +kernel
theorem dL_law_470 : decode cL_law 470 = .ok (.istore 11, 2) := by decide +kernel
theorem dL_law_472 : decode cL_law 472 = .ok (.iload 12, 2) := by decide +kernel
theorem dL_law_474 : decode cL_law 474 = .ok (.iload 19, 2) := by decide +kernel
theorem dL_law_476 : decode cL_law 476 = .ok (.invokestatic 224, 3) := by decide +kernel
theorem dL_law_479 : decode cL_law 479 = .ok (.iadd, 1) := by decide +kernel
theorem dL_law_480 : decode cL_law 480 = .ok (.istore 12, 2) := by decide +kernel
theorem dL_law_482 : decode cL_law 482 = .ok (.iload 16, 2) := by decide +kernel
theorem dL_law_484 : decode cL_law 484 = .ok (.ifCond .ne 12, 3) := by decide +kernel
theorem dL_law_487 : decode cL_law 487 = .ok (.aload_n 1, 1) := by decide +kernel
theorem dL_law_488 : decode cL_law 488 = .ok (.iload 17, 2) := by decide +kernel
theorem dL_law_490 : decode cL_law 490 = .ok (.invokevirtual 180, 3) := by decide +kernel
theorem dL_law_493 : decode cL_law 493 = .ok (.goto 5, 3) := by decide +kernel
theorem dL_law_496 : decode cL_law 496 = .ok (.iload 13, 2) := by decide +kernel
theorem dL_law_498 : decode cL_law 498 = .ok (.istore 13, 2) := by decide +kernel
theorem dL_law_500 : decode cL_law 500 = .ok (.aload_n 1, 1) := by decide +kernel
theorem dL_law_501 : decode cL_law 501 = .ok (.iload 17, 2) := by decide +kernel
theorem dL_law_503 : decode cL_law 503 = .ok (.invokevirtual 180, 3) := by decide +kernel
theorem dL_law_506 : decode cL_law 506 = .ok (.istore 14, 2) := by decide +kernel
theorem dL_law_508 : decode cL_law 508 = .ok (.iload 6, 2) := by decide +kernel
theorem dL_law_510 : decode cL_law 510 = .ok (.aload_n 1, 1) := by decide +kernel
theorem dL_law_511 : decode cL_law 511 = .ok (.iload 17, 2) := by decide +kernel
theorem dL_law_513 : decode cL_law 513 = .ok (.invokevirtual 229, 3) := by decide +kernel
theorem dL_law_516 : decode cL_law 516 = .ok (.ifCond .eq 7, 3) := by decide +kernel
theorem dL_law_519 : decode cL_law 519 = .ok (.iconst 1, 1) := by decide +kernel
theorem dL_law_520 : decode cL_law 520 = .ok (.goto 4, 3) := by decide +kernel
theorem dL_law_523 : decode cL_law 523 = .ok (.iconst 0, 1) := by decide +kernel
theorem dL_law_524 : decode cL_law 524 = .ok (.iadd, 1) := by decide +kernel
theorem dL_law_525 : decode cL_law 525 = .ok (.istore 6, 2) := by decide +kernel
theorem dL_law_527 : decode cL_law 527 = .ok (.iinc 5 1, 3) := by decide +kernel
theorem dL_law_530 : decode cL_law 530 = .ok (.iinc 16 1, 3) := by decide +kernel
theorem dL_law_533 : decode cL_law 533 = .ok (.goto (-446), 3) := by decide +kernel
theorem dL_law_536 : decode cL_law 536 = .ok (.aload_n 1, 1) := by decide +kernel
theorem dL_law_537 : decode cL_law 537 = .ok (.iload 9, 2) := by decide +kernel
theorem dL_law_539 : decode cL_law 539 = .ok (.iload 10, 2) := by decide +kernel
theorem dL_law_541 : decode cL_law 541 = .ok (.invokestatic 232, 3) := by decide +kernel
theorem dL_law_544 : decode cL_law 544 = .ok (.sipush (-30000), 3) := by decide +kernel
theorem dL_law_547 : decode cL_law 547 = .ok (.if_icmp .ne 112, 3) := by decide +kernel
theorem dL_law_550 : decode cL_law 550 = .ok (.aload_n 1, 1) := by decide +kernel
theorem dL_law_551 : decode cL_law 551 = .ok (.iload 9, 2) := by decide +kernel
theorem dL_law_553 : decode cL_law 553 = .ok (.invokevirtual 234, 3) := by decide +kernel
theorem dL_law_556 : decode cL_law 556 = .ok (.iload 11, 2) := by decide +kernel
theorem dL_law_558 : decode cL_law 558 = .ok (.if_icmp .ne 101, 3) := by decide +kernel
theorem dL_law_561 : decode cL_law 561 = .ok (.aload_n 1, 1) := by decide +kernel
theorem dL_law_562 : decode cL_law 562 = .ok (.iload 9, 2) := by decide +kernel
theorem dL_law_564 : decode cL_law 564 = .ok (.invokevirtual 237, 3) := by decide +kernel
theorem dL_law_567 : decode cL_law 567 = .ok (.iload 11, 2) := by decide +kernel
theorem dL_law_569 : decode cL_law 569 = .ok (.if_icmp .ne 90, 3) := by decide +kernel
theorem dL_law_572 : decode cL_law 572 = .ok (.aload_n 1, 1) := by decide +kernel
theorem dL_law_573 : decode cL_law 573 = .ok (.iload 9, 2) := by decide +kernel
theorem dL_law_575 : decode cL_law 575 = .ok (.invokevirtual 240, 3) := by decide +kernel
theorem dL_law_578 : decode cL_law 578 = .ok (.iload 12, 2) := by decide +kernel
theorem dL_law_580 : decode cL_law 580 = .ok (.if_icmp .ne 79, 3) := by decide +kernel
theorem dL_law_583 : decode cL_law 583 = .ok (.aload_n 1, 1) := by decide +kernel
theorem dL_law_584 : decode cL_law 584 = .ok (.iload 9, 2) := by decide +kernel
theorem dL_law_586 : decode cL_law 586 = .ok (.invokevirtual 243, 3) := by decide +kernel
theorem dL_law_589 : decode cL_law 589 = .ok (.iload 12, 2) := by decide +kernel
theorem dL_law_591 : decode cL_law 591 = .ok (.if_icmp .ne 68, 3) := by decide +kernel
theorem dL_law_594 : decode cL_law 594 = .ok (.aload_n 1, 1) := by decide +kernel
theorem dL_law_595 : decode cL_law 595 = .ok (.iload 9, 2) := by decide +kernel
theorem dL_law_597 : decode cL_law 597 = .ok (.invokestatic 246, 3) := by decide +kernel
theorem dL_law_600 : decode cL_law 600 = .ok (.iload 10, 2) := by decide +kernel
theorem dL_law_602 : decode cL_law 602 = .ok (.ifCond .ne 9, 3) := by decide +kernel
theorem dL_law_605 : decode cL_law 605 = .ok (.sipush (-30000), 3) := by decide +kernel
theorem dL_law_608 : decode cL_law 608 = .ok (.goto 8, 3) := by decide +kernel
theorem dL_law_611 : decode cL_law 611 = .ok (.iload 14, 2) := by decide +kernel
theorem dL_law_613 : decode cL_law 613 = .ok (.iload 13, 2) := by decide +kernel
theorem dL_law_615 : decode cL_law 615 = .ok (.isub, 1) := by decide +kernel
theorem dL_law_616 : decode cL_law 616 = .ok (.if_icmp .ne 43, 3) := by decide +kernel
theorem dL_law_619 : decode cL_law 619 = .ok (.iload 10, 2) := by decide +kernel
theorem dL_law_621 : decode cL_law 621 = .ok (.iconst 1, 1) := by decide +kernel
theorem dL_law_622 : decode cL_law 622 = .ok (.if_icmp .le 22, 3) := by decide +kernel
theorem dL_law_625 : decode cL_law 625 = .ok (.aload_n 1, 1) := by decide +kernel
theorem dL_law_626 : decode cL_law 626 = .ok (.iload 9, 2) := by decide +kernel
theorem dL_law_628 : decode cL_law 628 = .ok (.invokevirtual 248, 3) := by decide +kernel
theorem dL_law_631 : decode cL_law 631 = .ok (.iload 11, 2) := by decide +kernel
theorem dL_law_633 : decode cL_law 633 = .ok (.i2d, 1) := by decide +kernel
theorem dL_law_634 : decode cL_law 634 = .ok (.iload 10, 2) := by decide +kernel
theorem dL_law_636 : decode cL_law 636 = .ok (.iconst 1, 1) := by decide +kernel
theorem dL_law_637 : decode cL_law 637 = .ok (.isub, 1) := by decide +kernel
theorem dL_law_638 : decode cL_law 638 = .ok (.i2d, 1) := by decide +kernel
theorem dL_law_639 : decode cL_law 639 = .ok (.ddiv, 1) := by decide +kernel
theorem dL_law_640 : decode cL_law 640 = .ok (.dcmp .l, 1) := by decide +kernel
theorem dL_law_641 : decode cL_law 641 = .ok (.ifCond .ne 18, 3) := by decide +kernel
theorem dL_law_644 : decode cL_law 644 = .ok (.aload_n 1, 1) := by decide +kernel
theorem dL_law_645 : decode cL_law 645 = .ok (.aload_n 1, 1) := by decide +kernel
theorem dL_law_646 : decode cL_law 646 = .ok (.iload 9, 2) := by decide +kernel
theorem dL_law_648 : decode cL_law 648 = .ok (.invokevirtual 251, 3) := by decide +kernel
theorem dL_law_651 : decode cL_law 651 = .ok (.aload 15, 2) := by decide +kernel
theorem dL_law_653 : decode cL_law 653 = .ok (.invokestatic 254, 3) := by decide +kernel
theorem dL_law_656 : decode cL_law 656 = .ok (.ifCond .ne 5, 3) := by decide +kernel
theorem dL_law_659 : decode cL_law 659 = .ok (.iconst 0, 1) := by decide +kernel
theorem dL_law_660 : decode cL_law 660 = .ok (.ireturn, 1) := by decide +kernel
theorem dL_law_661 : decode cL_law 661 = .ok (.iload 8, 2) := by decide +kernel
theorem dL_law_663 : decode cL_law 663 = .ok (.ifCond .ne 6, 3) := by decide +kernel
theorem dL_law_666 : decode cL_law 666 = .ok (.goto 64, 3) := by decide +kernel
theorem dL_law_669 : decode cL_law 669 = .ok (.aload_n 1, 1) := by decide +kernel
theorem dL_law_670 : decode cL_law 670 = .ok (.iload 8, 2) := by decide +kernel
theorem dL_law_672 : decode cL_law 672 = .ok (.iconst 1, 1) := by decide +kernel
theorem dL_law_673 : decode cL_law 673 = .ok (.isub, 1) := by decide +kernel
theorem dL_law_674 : decode cL_law 674 = .ok (.invokevirtual 70, 3) := by decide +kernel
theorem dL_law_677 : decode cL_law 677 = .ok (.istore 16, 2) := by decide +kernel
theorem dL_law_679 : decode cL_law 679 = .ok (.aload_n 1, 1) := by decide +kernel
theorem dL_law_680 : decode cL_law 680 = .ok (.iload 16, 2) := by decide +kernel
theorem dL_law_682 : decode cL_law 682 = .ok (.invokevirtual 240, 3) := by decide +kernel
theorem dL_law_685 : decode cL_law 685 = .ok (.iload 12, 2) := by decide +kernel
theorem dL_law_687 : decode cL_law 687 = .ok (.isub, 1) := by decide +kernel
theorem dL_law_688 : decode cL_law 688 = .ok (.istore 17, 2) := by decide +kernel
theorem dL_law_690 : decode cL_law 690 = .ok (.aload_n 1, 1) := by decide +kernel
theorem dL_law_691 : decode cL_law 691 = .ok (.iload 16, 2) := by decide +kernel
theorem dL_law_693 : decode cL_law 693 = .ok (.invokevirtual 172, 3) := by decide +kernel
theorem dL_law_696 : decode cL_law 696 = .ok (.iload 10, 2) := by decide +kernel
theorem dL_law_698 : decode cL_law 698 = .ok (.isub, 1) := by decide +kernel
theorem dL_law_699 : decode cL_law 699 = .ok (.istore 18, 2) := by decide +kernel
theorem dL_law_701 : decode cL_law 701 = .ok (.iload 17, 2) := by decide +kernel
theorem dL_law_703 : decode cL_law 703 = .ok (.ifCond .lt 25, 3) := by decide +kernel
theorem dL_law_706 : decode cL_law 706 = .ok (.iload 17, 2) := by decide +kernel
theorem dL_law_708 : decode cL_law 708 = .ok (.ifCond .ne 22, 3) := by decide +kernel
theorem dL_law_711 : decode cL_law 711 = .ok (.iload 18, 2) := by decide +kernel
theorem dL_law_713 : decode cL_law 713 = .ok (.ifCond .lt 15, 3) := by decide +kernel
theorem dL_law_716 : decode cL_law 716 = .ok (.iload 18, 2) := by decide +kernel
theorem dL_law_718 : decode cL_law 718 = .ok (.ifCond .ne 12, 3) := by decide +kernel
theorem dL_law_721 : decode cL_law 721 = .ok (.iload 16, 2) := by decide +kernel
theorem dL_law_723 : decode cL_law 723 = .ok (.iload 9, 2) := by decide +kernel
theorem dL_law_725 : decode cL_law 725 = .ok (.if_icmp .le 5, 3) := by decide +kernel
theorem dL_law_728 : decode cL_law 728 = .ok (.iconst 0, 1) := by decide +kernel
theorem dL_law_729 : decode cL_law 729 = .ok (.ireturn, 1) := by decide +kernel
theorem dL_law_730 : decode cL_law 730 = .ok (.iinc 8 1, 3) := by decide +kernel
theorem dL_law_733 : decode cL_law 733 = .ok (.goto (-687), 3) := by decide +kernel
theorem dL_law_736 : decode cL_law 736 = .ok (.iconst 0, 1) := by decide +kernel
theorem dL_law_737 : decode cL_law 737 = .ok (.istore 8, 2) := by decide +kernel
theorem dL_law_739 : decode cL_law 739 = .ok (.iconst 0, 1) := by decide +kernel
theorem dL_law_740 : decode cL_law 740 = .ok (.istore 9, 2) := by decide +kernel
theorem dL_law_742 : decode cL_law 742 = .ok (.iload 9, 2) := by decide +kernel
theorem dL_law_744 : decode cL_law 744 = .ok (.bipush 10, 2) := by decide +kernel
theorem dL_law_746 : decode cL_law 746 = .ok (.if_icmp .ge 177, 3) := by decide +kernel
theorem dL_law_749 : decode cL_law 749 = .ok (.ldc 175, 2) := by decide +kernel
theorem dL_law_751 : decode cL_law 751 = .ok (.astore 10, 2) := by decide +kernel
theorem dL_law_753 : decode cL_law 753 = .ok (.iconst 0, 1) := by decide +kernel
theorem dL_law_754 : decode cL_law 754 = .ok (.istore 11, 2) := by decide +kernel
theorem dL_law_756 : decode cL_law 756 = .ok (.iconst 0, 1) := by decide +kernel
theorem dL_law_757 : decode cL_law 757 = .ok (.istore 12, 2) := by decide +kernel
theorem dL_law_759 : decode cL_law 759 = .ok (.iload 12, 2) := by decide +kernel
theorem dL_law_761 : decode cL_law 761 = .ok (.bipush 20, 2) := by decide +kernel
theorem dL_law_763 : decode cL_law 763 = .ok (.if_icmp .ge 101, 3) := by decide +kernel
theorem dL_law_766 : decode cL_law 766 = .ok (.aload_n 1, 1) := by decide +kernel
theorem dL_law_767 : decode cL_law 767 = .ok (.iload 9, 2) := by decide +kernel
theorem dL_law_769 : decode cL_law 769 = .ok (.iload 12, 2) := by decide +kernel
theorem dL_law_771 : decode cL_law 771 = .ok (.invokestatic 258, 3) := by decide +kernel
theorem dL_law_774 : decode cL_law 774 = .ok (.istore 13, 2) := by decide +kernel
theorem dL_law_776 : decode cL_law 776 = .ok (.iload 11, 2) := by decide +kernel
theorem dL_law_778 : decode cL_law 778 = .ok (.iload 13, 2) := by decide +kernel
theorem dL_law_780 : decode cL_law 780 = .ok (.ifCond .lt 7, 3) := by decide +kernel
theorem dL_law_783 : decode cL_law 783 = .ok (.iconst 1, 1) := by decide +kernel
theorem dL_law_784 : decode cL_law 784 = .ok (.goto 4, 3) := by decide +kernel
theorem dL_law_787 : decode cL_law 787 = .ok (.iconst 0, 1) := by decide +kernel
theorem dL_law_788 : decode cL_law 788 = .ok (.iadd, 1) := by decide +kernel
theorem dL_law_789 : decode cL_law 789 = .ok (.istore 11, 2) := by decide +kernel
theorem dL_law_791 : decode cL_law 791 = .ok (.new 205, 3) := by decide +kernel
theorem dL_law_794 : decode cL_law 794 = .ok (.dup, 1) := by decide +kernel
theorem dL_law_795 : decode cL_law 795 = .ok (.invokespecial 207, 3) := by decide +kernel
theorem dL_law_798 : decode cL_law 798 = .ok (.aload 10, 2) := by decide +kernel
theorem dL_law_800 : decode cL_law 800 = .ok (.invokevirtual 208, 3) := by decide +kernel
theorem dL_law_803 : decode cL_law 803 = .ok (.iload 9, 2) := by decide +kernel
theorem dL_law_805 : decode cL_law 805 = .ok (.iload 7, 2) := by decide +kernel
theorem dL_law_807 : decode cL_law 807 = .ok (.if_icmp .ge 9, 3) := by decide +kernel
theorem dL_law_810 : decode cL_law 810 = .ok (.ldc_w 260, 3) := by decide +kernel
theorem dL_law_813 : decode cL_law 813 = .ok (.goto 37, 3) := by decide +kernel
theorem dL_law_816 : decode cL_law 816 = .ok (.iload 13, 2) := by decide +kernel
theorem dL_law_818 : decode cL_law 818 = .ok (.ifCond .ge 9, 3) := by decide +kernel
theorem dL_law_821 : decode cL_law 821 = .ok (.ldc_w 262, 3) := by decide +kernel
theorem dL_law_824 : decode cL_law 824 = .ok (.goto 26, 3) := by decide +kernel
theorem dL_law_827 : decode cL_law 827 = .ok (.new 205, 3) := by decide +kernel
theorem dL_law_830 : decode cL_law 830 = .ok (.dup, 1) := by decide +kernel
theorem dL_law_831 : decode cL_law 831 = .ok (.invokespecial 207, 3) := by decide +kernel
theorem dL_law_834 : decode cL_law 834 = .ok (.ldc 175, 2) := by decide +kernel
theorem dL_law_836 : decode cL_law 836 = .ok (.invokevirtual 208, 3) := by decide +kernel
theorem dL_law_839 : decode cL_law 839 = .ok (.iload 13, 2) := by decide +kernel
theorem dL_law_841 : decode cL_law 841 = .ok (.bipush 10, 2) := by decide +kernel
theorem dL_law_843 : decode cL_law 843 = .ok (.irem, 1) := by decide +kernel
theorem dL_law_844 : decode cL_law 844 = .ok (.invokevirtual 264, 3) := by decide +kernel
theorem dL_law_847 : decode cL_law 847 = .ok (.invokevirtual 220, 3) := by decide +kernel
theorem dL_law_850 : decode cL_law 850 = .ok (.invokevirtual 208, 3) := by decide +kernel
theorem dL_law_853 : decode cL_law 853 = .ok (.invokevirtual 220, 3) := by decide +kernel
theorem dL_law_856 : decode cL_law 856 = .ok (.astore 10, 2) := by decide +kernel
theorem dL_law_858 : decode cL_law 858 = .ok (.iinc 12 1, 3) := by decide +kernel
theorem dL_law_861 : decode cL_law 861 = .ok (.goto (-102), 3) := by decide +kernel
theorem dL_law_864 : decode cL_law 864 = .ok (.aload_n 1, 1) := by decide +kernel
theorem dL_law_865 : decode cL_law 865 = .ok (.iload 9, 2) := by decide +kernel
theorem dL_law_867 : decode cL_law 867 = .ok (.invokevirtual 267, 3) := by decide +kernel
theorem dL_law_870 : decode cL_law 870 = .ok (.iload 11, 2) := by decide +kernel
theorem dL_law_872 : decode cL_law 872 = .ok (.if_icmp .ne 36, 3) := by decide +kernel
theorem dL_law_875 : decode cL_law 875 = .ok (.iload 9, 2) := by decide +kernel
theorem dL_law_877 : decode cL_law 877 = .ok (.bipush 9, 2) := by decide +kernel
theorem dL_law_879 : decode cL_law 879 = .ok (.if_icmp .ge 14, 3) := by decide +kernel
theorem dL_law_882 : decode cL_law 882 = .ok (.aload_n 1, 1) := by decide +kernel
theorem dL_law_883 : decode cL_law 883 = .ok (.iload 9, 2) := by decide +kernel
theorem dL_law_885 : decode cL_law 885 = .ok (.invokevirtual 270, 3) := by decide +kernel
theorem dL_law_888 : decode cL_law 888 = .ok (.iload 8, 2) := by decide +kernel
theorem dL_law_890 : decode cL_law 890 = .ok (.if_icmp .ne 18, 3) := by decide +kernel
theorem dL_law_893 : decode cL_law 893 = .ok (.aload_n 1, 1) := by decide +kernel
theorem dL_law_894 : decode cL_law 894 = .ok (.aload_n 1, 1) := by decide +kernel
theorem dL_law_895 : decode cL_law 895 = .ok (.iload 9, 2) := by decide +kernel
theorem dL_law_897 : decode cL_law 897 = .ok (.invokevirtual 273, 3) := by decide +kernel
theorem dL_law_900 : decode cL_law 900 = .ok (.aload 10, 2) := by decide +kernel
theorem dL_law_902 : decode cL_law 902 = .ok (.invokestatic 254, 3) := by decide +kernel
theorem dL_law_905 : decode cL_law 905 = .ok (.ifCond .ne 5, 3) := by decide +kernel
theorem dL_law_908 : decode cL_law 908 = .ok (.iconst 0, 1) := by decide +kernel
theorem dL_law_909 : decode cL_law 909 = .ok (.ireturn, 1) := by decide +kernel
theorem dL_law_910 : decode cL_law 910 = .ok (.iload 8, 2) := by decide +kernel
theorem dL_law_912 : decode cL_law 912 = .ok (.iload 11, 2) := by decide +kernel
theorem dL_law_914 : decode cL_law 914 = .ok (.iadd, 1) := by decide +kernel
theorem dL_law_915 : decode cL_law 915 = .ok (.istore 8, 2) := by decide +kernel
theorem dL_law_917 : decode cL_law 917 = .ok (.iinc 9 1, 3) := by decide +kernel
theorem dL_law_920 : decode cL_law 920 = .ok (.goto (-178), 3) := by decide +kernel
theorem dL_law_923 : decode cL_law 923 = .ok (.iload 5, 2) := by decide +kernel
theorem dL_law_925 : decode cL_law 925 = .ok (.iload 4, 2) := by decide +kernel
theorem dL_law_927 : decode cL_law 927 = .ok (.if_icmp .ne 60, 3) := by decide +kernel
theorem dL_law_930 : decode cL_law 930 = .ok (.iload 8, 2) := by decide +kernel
theorem dL_law_932 : decode cL_law 932 = .ok (.iload 4, 2) := by decide +kernel
theorem dL_law_934 : decode cL_law 934 = .ok (.if_icmp .ne 53, 3) := by decide +kernel
theorem dL_law_937 : decode cL_law 937 = .ok (.iload 4, 2) := by decide +kernel
theorem dL_law_939 : decode cL_law 939 = .ok (.ifCond .le 18, 3) := by decide +kernel
theorem dL_law_942 : decode cL_law 942 = .ok (.aload_n 1, 1) := by decide +kernel
theorem dL_law_943 : decode cL_law 943 = .ok (.invokevirtual 276, 3) := by decide +kernel
theorem dL_law_946 : decode cL_law 946 = .ok (.iload 6, 2) := by decide +kernel
theorem dL_law_948 : decode cL_law 948 = .ok (.i2f, 1) := by decide +kernel
theorem dL_law_949 : decode cL_law 949 = .ok (.iload 4, 2) := by decide +kernel
theorem dL_law_951 : decode cL_law 951 = .ok (.i2f, 1) := by decide +kernel
theorem dL_law_952 : decode cL_law 952 = .ok (.fdiv, 1) := by decide +kernel
theorem dL_law_953 : decode cL_law 953 = .ok (.fcmp .l, 1) := by decide +kernel
theorem dL_law_954 : decode cL_law 954 = .ok (.ifCond .ne 33, 3) := by decide +kernel
theorem dL_law_957 : decode cL_law 957 = .ok (.aload_n 1, 1) := by decide +kernel
theorem dL_law_958 : decode cL_law 958 = .ok (.invokevirtual 280, 3) := by decide +kernel
theorem dL_law_961 : decode cL_law 961 = .ok (.ifCond .eq 26, 3) := by decide +kernel
theorem dL_law_964 : decode cL_law 964 = .ok (.aload_n 1, 1) := by decide +kernel
theorem dL_law_965 : decode cL_law 965 = .ok (.iload_n 3, 1) := by decide +kernel
theorem dL_law_966 : decode cL_law 966 = .ok (.invokestatic 284, 3) := by decide +kernel
theorem dL_law_969 : decode cL_law 969 = .ok (.sipush (-30000), 3) := by decide +kernel
theorem dL_law_972 : decode cL_law 972 = .ok (.if_icmp .ne 15, 3) := by decide +kernel
theorem dL_law_975 : decode cL_law 975 = .ok (.aload_n 1, 1) := by decide +kernel
theorem dL_law_976 : decode cL_law 976 = .ok (.iload 4, 2) := by decide +kernel
theorem dL_law_978 : decode cL_law 978 = .ok (.invokestatic 286, 3) := by decide +kernel
theorem dL_law_981 : decode cL_law 981 = .ok (.sipush (-30000), 3) := by decide +kernel
theorem dL_law_984 : decode cL_law 984 = .ok (.if_icmp .eq 5, 3) := by decide +kernel
theorem dL_law_987 : decode cL_law 987 = .ok (.iconst 0, 1) := by decide +kernel
theorem dL_law_988 : decode cL_law 988 = .ok (.ireturn, 1) := by decide +kernel
theorem dL_law_989 : decode cL_law 989 = .ok (.iconst 1, 1) := by decide +kernel
theorem dL_law_990 : decode cL_law 990 = .ok (.istore 9, 2) := by decide +kernel
theorem dL_law_992 : decode cL_law 992 = .ok (.iload 9, 2) := by decide +kernel
theorem dL_law_994 : decode cL_law 994 = .ok (.iload 4, 2) := by decide +kernel
theorem dL_law_996 : decode cL_law 996 = .ok (.if_icmp .ge 86, 3) := by decide +kernel
theorem dL_law_999 : decode cL_law 999 = .ok (.aload_n 1, 1) := by decide +kernel
theorem dL_law_1000 : decode cL_law 1000 = .ok (.iload 9, 2) := by decide +kernel
theorem dL_law_1002 : decode cL_law 1002 = .ok (.iconst 1, 1) := by decide +kernel
theorem dL_law_1003 : decode cL_law 1003 = .ok (.isub, 1) := by decide +kernel
theorem dL_law_1004 : decode cL_law 1004 = .ok (.invokevirtual 73, 3) := by decide +kernel
theorem dL_law_1007 : decode cL_law 1007 = .ok (.istore 10, 2) := by decide +kernel
theorem dL_law_1009 : decode cL_law 1009 = .ok (.aload_n 1, 1) := by decide +kernel
theorem dL_law_1010 : decode cL_law 1010 = .ok (.iload 9, 2) := by decide +kernel
theorem dL_law_1012 : decode cL_law 1012 = .ok (.invokevirtual 73, 3) := by decide +kernel
theorem dL_law_1015 : decode cL_law 1015 = .ok (.istore 11, 2) := by decide +kernel
theorem dL_law_1017 : decode cL_law 1017 = .ok (.aload_n 1, 1) := by decide +kernel
theorem dL_law_1018 : decode cL_law 1018 = .ok (.iload 10, 2) := by decide +kernel
theorem dL_law_1020 : decode cL_law 1020 = .ok (.invokevirtual 198, 3) := by decide +kernel
theorem dL_law_1023 : decode cL_law 1023 = .ok (.aload_n 1, 1) := by decide +kernel
theorem dL_law_1024 : decode cL_law 1024 = .ok (.iload 11, 2) := by decide +kernel
theorem dL_law_1026 : decode cL_law 1026 = .ok (.invokevirtual 198, 3) := by decide +kernel
theorem dL_law_1029 : decode cL_law 1029 = .ok (.isub, 1) := by decide +kernel
theorem dL_law_1030 : decode cL_law 1030 = .ok (.istore 12, 2) := by decide +kernel
theorem dL_law_1032 : decode cL_law 1032 = .ok (.aload_n 1, 1) := by decide +kernel
theorem dL_law_1033 : decode cL_law 1033 = .ok (.iload 11, 2) := by decide +kernel
theorem dL_law_1035 : decode cL_law 1035 = .ok (.invokevirtual 180, 3) := by decide +kernel
theorem dL_law_1038 : decode cL_law 1038 = .ok (.aload_n 1, 1) := by decide +kernel
theorem dL_law_1039 : decode cL_law 1039 = .ok (.iload 10, 2) := by decide +kernel
theorem dL_law_1041 : decode cL_law 1041 = .ok (.invokevirtual 180, 3) := by decide +kernel
theorem dL_law_1044 : decode cL_law 1044 = .ok (.isub, 1) := by decide +kernel
theorem dL_law_1045 : decode cL_law 1045 = .ok (.istore 13, 2) := by decide +kernel
theorem dL_law_1047 : decode cL_law 1047 = .ok (.iload 12, 2) := by decide +kernel
theorem dL_law_1049 : decode cL_law 1049 = .ok (.ifCond .lt 25, 3) := by decide +kernel
theorem dL_law_1052 : decode cL_law 1052 = .ok (.iload 12, 2) := by decide +kernel
theorem dL_law_1054 : decode cL_law 1054 = .ok (.ifCond .ne 22, 3) := by decide +kernel
theorem dL_law_1057 : decode cL_law 1057 = .ok (.iload 13, 2) := by decide +kernel
theorem dL_law_1059 : decode cL_law 1059 = .ok (.ifCond .lt 15, 3) := by decide +kernel
theorem dL_law_1062 : decode cL_law 1062 = .ok (.iload 13, 2) := by decide +kernel
theorem dL_law_1064 : decode cL_law 1064 = .ok (.ifCond .ne 12, 3) := by decide +kernel
theorem dL_law_1067 : decode cL_law 1067 = .ok (.iload 10, 2) := by decide +kernel
theorem dL_law_1069 : decode cL_law 1069 = .ok (.iload 11, 2) := by decide +kernel
theorem dL_law_1071 : decode cL_law 1071 = .ok (.if_icmp .le 5, 3) := by decide +kernel
theorem dL_law_1074 : decode cL_law 1074 = .ok (.iconst 0, 1) := by decide +kernel
theorem dL_law_1075 : decode cL_law 1075 = .ok (.ireturn, 1) := by decide +kernel
theorem dL_law_1076 : decode cL_law 1076 = .ok (.iinc 9 1, 3) := by decide +kernel
theorem dL_law_1079 : decode cL_law 1079 = .ok (.goto (-87), 3) := by decide +kernel
theorem dL_law_1082 : decode cL_law 1082 = .ok (.iload 4, 2) := by decide +kernel
theorem dL_law_1084 : decode cL_law 1084 = .ok (.ifCond .le 256, 3) := by decide +kernel
theorem dL_law_1087 : decode cL_law 1087 = .ok (.aload_n 1, 1) := by decide +kernel
theorem dL_law_1088 : decode cL_law 1088 = .ok (.aload_n 0, 1) := by decide +kernel
theorem dL_law_1089 : decode cL_law 1089 = .ok (.bipush 110, 2) := by decide +kernel
theorem dL_law_1091 : decode cL_law 1091 = .ok (.iload_n 2, 1) := by decide +kernel
theorem dL_law_1092 : decode cL_law 1092 = .ok (.iadd, 1) := by decide +kernel
theorem dL_law_1093 : decode cL_law 1093 = .ok (.bipush 60, 2) := by decide +kernel
theorem dL_law_1095 : decode cL_law 1095 = .ok (.invokestatic 79, 3) := by decide +kernel
theorem dL_law_1098 : decode cL_law 1098 = .ok (.invokestatic 96, 3) := by decide +kernel
theorem dL_law_1101 : decode cL_law 1101 = .ok (.istore 9, 2) := by decide +kernel
theorem dL_law_1103 : decode cL_law 1103 = .ok (.aload_n 1, 1) := by decide +kernel
theorem dL_law_1104 : decode cL_law 1104 = .ok (.iload 9, 2) := by decide +kernel
theorem dL_law_1106 : decode cL_law 1106 = .ok (.invokevirtual 116, 3) := by decide +kernel
theorem dL_law_1109 : decode cL_law 1109 = .ok (.istore 10, 2) := by decide +kernel
theorem dL_law_1111 : decode cL_law 1111 = .ok (.aload_n 1, 1) := by decide +kernel
theorem dL_law_1112 : decode cL_law 1112 = .ok (.iload 9, 2) := by decide +kernel
theorem dL_law_1114 : decode cL_law 1114 = .ok (.invokevirtual 127, 3) := by decide +kernel
theorem dL_law_1117 : decode cL_law 1117 = .ok (.istore 11, 2) := by decide +kernel
theorem dL_law_1119 : decode cL_law 1119 = .ok (.bipush 20, 2) := by decide +kernel
theorem dL_law_1121 : decode cL_law 1121 = .ok (.iload 10, 2) := by decide +kernel
theorem dL_law_1123 : decode cL_law 1123 = .ok (.imul, 1) := by decide +kernel
theorem dL_law_1124 : decode cL_law 1124 = .ok (.iload 11, 2) := by decide +kernel
theorem dL_law_1126 : decode cL_law 1126 = .ok (.iadd, 1) := by decide +kernel
theorem dL_law_1127 : decode cL_law 1127 = .ok (.istore 12, 2) := by decide +kernel
theorem dL_law_1129 : decode cL_law 1129 = .ok (.bipush 10, 2) := by decide +kernel
theorem dL_law_1131 : decode cL_law 1131 = .ok (.aload_n 1, 1) := by decide +kernel
theorem dL_law_1132 : decode cL_law 1132 = .ok (.aload_n 1, 1) := by decide +kernel
theorem dL_law_1133 : decode cL_law 1133 = .ok (.iload 9, 2) := by decide +kernel
theorem dL_law_1135 : decode cL_law 1135 = .ok (.invokevirtual 140, 3) := by decide +kernel
theorem dL_law_1138 : decode cL_law 1138 = .ok (.invokevirtual 240, 3) := by decide +kernel
theorem dL_law_1141 : decode cL_law 1141 = .ok (.imul, 1) := by decide +kernel
theorem dL_law_1142 : decode cL_law 1142 = .ok (.istore 13, 2) := by decide +kernel
theorem dL_law_1144 : decode cL_law 1144 = .ok (.iconst 0, 1) := by decide +kernel
theorem dL_law_1145 : decode cL_law 1145 = .ok (.iload 10, 2) := by decide +kernel
theorem dL_law_1147 : decode cL_law 1147 = .ok (.iconst 2, 1) := by decide +kernel
theorem dL_law_1148 : decode cL_law 1148 = .ok (.isub, 1) := by decide +kernel
theorem dL_law_1149 : decode cL_law 1149 = .ok (.invokestatic 124, 3) := by decide +kernel
theorem dL_law_1152 : decode cL_law 1152 = .ok (.istore 14, 2) := by decide +kernel
theorem dL_law_1154 : decode cL_law 1154 = .ok (.iload 14, 2) := by decide +kernel
theorem dL_law_1156 : decode cL_law 1156 = .ok (.bipush 10, 2) := by decide +kernel
theorem dL_law_1158 : decode cL_law 1158 = .ok (.iload 10, 2) := by decide +kernel
theorem dL_law_1160 : decode cL_law 1160 = .ok (.iconst 3, 1) := by decide +kernel
theorem dL_law_1161 : decode cL_law 1161 = .ok (.iadd, 1) := by decide +kernel
theorem dL_law_1162 : decode cL_law 1162 = .ok (.invokestatic 119, 3) := by decide +kernel
theorem dL_law_1165 : decode cL_law 1165 = .ok (.if_icmp .ge 162, 3) := by decide +kernel
theorem dL_law_1168 : decode cL_law 1168 = .ok (.iconst 0, 1) := by decide +kernel
theorem dL_law_1169 : decode cL_law 1169 = .ok (.iload 11, 2) := by decide +kernel
theorem dL_law_1171 : decode cL_law 1171 = .ok (.iconst 2, 1) := by decide +kernel
theorem dL_law_1172 : decode cL_law 1172 = .ok (.isub, 1) := by decide +kernel
theorem dL_law_1173 : decode cL_law 1173 = .ok (.invokestatic 124, 3) := by decide +kernel
theorem dL_law_1176 : decode cL_law 1176 = .ok (.istore 15, 2) := by decide +kernel
theorem dL_law_1178 : decode cL_law 1178 = .ok (.iload 15, 2) := by decide +kernel
theorem dL_law_1180 : decode cL_law 1180 = .ok (.bipush 20, 2) := by decide +kernel
theorem dL_law_1182 : decode cL_law 1182 = .ok (.iload 11, 2) := by decide +kernel
theorem dL_law_1184 : decode cL_law 1184 = .ok (.iconst 3, 1) := by decide +kernel
theorem dL_law_1185 : decode cL_law 1185 = .ok (.iadd, 1) := by decide +kernel
theorem dL_law_1186 : decode cL_law 1186 = .ok (.invokestatic 119, 3) := by decide +kernel
theorem dL_law_1189 : decode cL_law 1189 = .ok (.if_icmp .ge 132, 3) := by decide +kernel
theorem dL_law_1192 : decode cL_law 1192 = .ok (.iload 14, 2) := by decide +kernel
theorem dL_law_1194 : decode cL_law 1194 = .ok (.iload 10, 2) := by decide +kernel
theorem dL_law_1196 : decode cL_law 1196 = .ok (.isub, 1) := by decide +kernel
theorem dL_law_1197 : decode cL_law 1197 = .ok (.invokestatic 133, 3) := by decide +kernel
theorem dL_law_1200 : decode cL_law 1200 = .ok (.iload 15, 2) := by decide +kernel
theorem dL_law_1202 : decode cL_law 1202 = .ok (.iload 11, 2) := by decide +kernel
theorem dL_law_1204 : decode cL_law 1204 = .ok (.isub, 1) := by decide +kernel
theorem dL_law_1205 : decode cL_law 1205 = .ok (.invokestatic 133, 3) := by decide +kernel
theorem dL_law_1208 : decode cL_law 1208 = .ok (.iadd, 1) := by decide +kernel
theorem dL_law_1209 : decode cL_law 1209 = .ok (.istore 16, 2) := by decide +kernel
theorem dL_law_1211 : decode cL_law 1211 = .ok (.aload_n 1, 1) := by decide +kernel
theorem dL_law_1212 : decode cL_law 1212 = .ok (.iload 9, 2) := by decide +kernel
theorem dL_law_1214 : decode cL_law 1214 = .ok (.iload 14, 2) := by decide +kernel
theorem dL_law_1216 : decode cL_law 1216 = .ok (.iload 15, 2) := by decide +kernel
theorem dL_law_1218 : decode cL_law 1218 = .ok (.invokevirtual 288, 3) := by decide +kernel
theorem dL_law_1221 : decode cL_law 1221 = .ok (.iload 16, 2) := by decide +kernel
theorem dL_law_1223 : decode cL_law 1223 = .ok (.ifCond .le 31, 3) := by decide +kernel
theorem dL_law_1226 : decode cL_law 1226 = .ok (.iload 16, 2) := by decide +kernel
theorem dL_law_1228 : decode cL_law 1228 = .ok (.iconst 3, 1) := by decide +kernel
theorem dL_law_1229 : decode cL_law 1229 = .ok (.if_icmp .ge 25, 3) := by decide +kernel
theorem dL_law_1232 : decode cL_law 1232 = .ok (.iload 14, 2) := by decide +kernel
theorem dL_law_1234 : decode cL_law 1234 = .ok (.iload 7, 2) := by decide +kernel
theorem dL_law_1236 : decode cL_law 1236 = .ok (.if_icmp .lt 18, 3) := by decide +kernel
theorem dL_law_1239 : decode cL_law 1239 = .ok (.aload_n 1, 1) := by decide +kernel
theorem dL_law_1240 : decode cL_law 1240 = .ok (.iload 14, 2) := by decide +kernel
theorem dL_law_1242 : decode cL_law 1242 = .ok (.iload 15, 2) := by decide +kernel
theorem dL_law_1244 : decode cL_law 1244 = .ok (.invokestatic 258, 3) := by decide +kernel
theorem dL_law_1247 : decode cL_law 1247 = .ok (.ifCond .ge 7, 3) := by decide +kernel
theorem dL_law_1250 : decode cL_law 1250 = .ok (.iconst 1, 1) := by decide +kernel
theorem dL_law_1251 : decode cL_law 1251 = .ok (.goto 4, 3) := by decide +kernel
theorem dL_law_1254 : decode cL_law 1254 = .ok (.iconst 0, 1) := by decide +kernel
theorem dL_law_1255 : decode cL_law 1255 = .ok (.if_icmp .eq 5, 3) := by decide +kernel
theorem dL_law_1258 : decode cL_law 1258 = .ok (.iconst 0, 1) := by decide +kernel
theorem dL_law_1259 : decode cL_law 1259 = .ok (.ireturn, 1) := by decide +kernel
theorem dL_law_1260 : decode cL_law 1260 = .ok (.bipush 10, 2) := by decide +kernel
theorem dL_law_1262 : decode cL_law 1262 = .ok (.aload_n 1, 1) := by decide +kernel
theorem dL_law_1263 : decode cL_law 1263 = .ok (.iload 9, 2) := by decide +kernel
theorem dL_law_1265 : decode cL_law 1265 = .ok (.iload 14, 2) := by decide +kernel
theorem dL_law_1267 : decode cL_law 1267 = .ok (.iload 15, 2) := by decide +kernel
theorem dL_law_1269 : decode cL_law 1269 = .ok (.invokevirtual 292, 3) := by decide +kernel
theorem dL_law_1272 : decode cL_law 1272 = .ok (.imul, 1) := by decide +kernel
theorem dL_law_1273 : decode cL_law 1273 = .ok (.iload 16, 2) := by decide +kernel
theorem dL_law_1275 : decode cL_law 1275 = .ok (.iadd, 1) := by decide +kernel
theorem dL_law_1276 : decode cL_law 1276 = .ok (.istore 17, 2) := by decide +kernel
theorem dL_law_1278 : decode cL_law 1278 = .ok (.aload_n 1, 1) := by decide +kernel
theorem dL_law_1279 : decode cL_law 1279 = .ok (.iload 9, 2) := by decide +kernel
theorem dL_law_1281 : decode cL_law 1281 = .ok (.iload 14, 2) := by decide +kernel
theorem dL_law_1283 : decode cL_law 1283 = .ok (.iload 15, 2) := by decide +kernel
theorem dL_law_1285 : decode cL_law 1285 = .ok (.invokevirtual 288, 3) := by decide +kernel
theorem dL_law_1288 : decode cL_law 1288 = .ok (.ifCond .eq 27, 3) := by decide +kernel
theorem dL_law_1291 : decode cL_law 1291 = .ok (.iload 17, 2) := by decide +kernel
theorem dL_law_1293 : decode cL_law 1293 = .ok (.iload 13, 2) := by decide +kernel
theorem dL_law_1295 : decode cL_law 1295 = .ok (.if_icmp .lt 6, 3) := by decide +kernel
theorem dL_law_1298 : decode cL_law 1298 = .ok (.goto 17, 3) := by decide +kernel
theorem dL_law_1301 : decode cL_law 1301 = .ok (.iload 17, 2) := by decide +kernel
theorem dL_law_1303 : decode cL_law 1303 = .ok (.istore 13, 2) := by decide +kernel
theorem dL_law_1305 : decode cL_law 1305 = .ok (.bipush 20, 2) := by decide +kernel
theorem dL_law_1307 : decode cL_law 1307 = .ok (.iload 14, 2) := by decide +kernel
theorem dL_law_1309 : decode cL_law 1309 = .ok (.imul, 1) := by decide +kernel
theorem dL_law_1310 : decode cL_law 1310 = .ok (.iload 15, 2) := by decide +kernel
theorem dL_law_1312 : decode cL_law 1312 = .ok (.iadd, 1) := by decide +kernel
theorem dL_law_1313 : decode cL_law 1313 = .ok (.istore 12, 2) := by decide +kernel
theorem dL_law_1315 : decode cL_law 1315 = .ok (.iinc 15 1, 3) := by decide +kernel
theorem dL_law_1318 : decode cL_law 1318 = .ok (.goto (-140), 3) := by decide +kernel
theorem dL_law_1321 : decode cL_law 1321 = .ok (.iinc 14 1, 3) := by decide +kernel
theorem dL_law_1324 : decode cL_law 1324 = .ok (.goto (-170), 3) := by decide +kernel
theorem dL_law_1327 : decode cL_law 1327 = .ok (.aload_n 1, 1) := by decide +kernel
theorem dL_law_1328 : decode cL_law 1328 = .ok (.iload 9, 2) := by decide +kernel
theorem dL_law_1330 : decode cL_law 1330 = .ok (.invokevirtual 295, 3) := by decide +kernel
theorem dL_law_1333 : decode cL_law 1333 = .ok (.iload 12, 2) := by decide +kernel
theorem dL_law_1335 : decode cL_law 1335 = .ok (.if_icmp .eq 5, 3) := by decide +kernel
theorem dL_law_1338 : decode cL_law 1338 = .ok (.iconst 0, 1) := by decide +kernel
theorem dL_law_1339 : decode cL_law 1339 = .ok (.ireturn, 1) := by decide +kernel
theorem dL_law_1340 : decode cL_law 1340 = .ok (.aload_n 1, 1) := by decide +kernel
theorem dL_law_1341 : decode cL_law 1341 = .ok (.aload_n 0, 1) := by decide +kernel
theorem dL_law_1342 : decode cL_law 1342 = .ok (.bipush 115, 2) := by decide +kernel
theorem dL_law_1344 : decode cL_law 1344 = .ok (.iconst 4, 1) := by decide +kernel
theorem dL_law_1345 : decode cL_law 1345 = .ok (.iload_n 2, 1) := by decide +kernel
theorem dL_law_1346 : decode cL_law 1346 = .ok (.imul, 1) := by decide +kernel
theorem dL_law_1347 : decode cL_law 1347 = .ok (.iadd, 1) := by decide +kernel
theorem dL_law_1348 : decode cL_law 1348 = .ok (.invokestatic 89, 3) := by decide +kernel
theorem dL_law_1351 : decode cL_law 1351 = .ok (.iinc 2 1, 3) := by decide +kernel
theorem dL_law_1354 : decode cL_law 1354 = .ok (.goto (-1339), 3) := by decide +kernel
theorem dL_law_1357 : decode cL_law 1357 = .ok (.iconst 1, 1) := by decide +kernel
theorem dL_law_1358 : decode cL_law 1358 = .ok (.ireturn, 1) := by decide +kernel
