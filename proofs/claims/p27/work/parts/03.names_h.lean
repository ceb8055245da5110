theorem dL_law_66 : decode cL_law 66 = .ok (.aload_n 1, 1) := by decide +kernel
theorem dL_law_67 : decode cL_law 67 = .ok (.aload_n 0, 1) := by decide +kernel
theorem dL_law_68 : decode cL_law 68 = .ok (.bipush 7, 2) := by decide +kernel
theorem dL_law_70 : decode cL_law 70 = .ok (.bipush 6, 2) := by decide +kernel
theorem dL_law_72 : decode cL_law 72 = .ok (.aload_n 3, 1) := by decide +kernel
theorem dL_law_73 : decode cL_law 73 = .ok (.invokestatic 76, 3) := by decide +kernel
theorem dL_law_76 : decode cL_law 76 = .ok (.ifCond .eq 12, 3) := by decide +kernel
theorem dL_law_79 : decode cL_law 79 = .ok (.aload_n 1, 1) := by decide +kernel
theorem dL_law_80 : decode cL_law 80 = .ok (.aload_n 2, 1) := by decide +kernel
theorem dL_law_81 : decode cL_law 81 = .ok (.aload_n 3, 1) := by decide +kernel
theorem dL_law_82 : decode cL_law 82 = .ok (.invokestatic 80, 3) := by decide +kernel
theorem dL_law_85 : decode cL_law 85 = .ok (.ifCond .ne 5, 3) := by decide +kernel
theorem dL_law_88 : decode cL_law 88 = .ok (.iconst 0, 1) := by decide +kernel
theorem dL_law_89 : decode cL_law 89 = .ok (.ireturn, 1) := by decide +kernel
theorem dL_law_90 : decode cL_law 90 = .ok (.iconst 0, 1) := by decide +kernel
theorem dL_law_91 : decode cL_law 91 = .ok (.istore 6, 2) := by decide +kernel
theorem dL_law_93 : decode cL_law 93 = .ok (.iload 6, 2) := by decide +kernel
theorem dL_law_95 : decode cL_law 95 = .ok (.aload_n 3, 1) := by decide +kernel
theorem dL_law_96 : decode cL_law 96 = .ok (.bipush 20, 2) := by decide +kernel
theorem dL_law_98 : decode cL_law 98 = .ok (.iaload, 1) := by decide +kernel
theorem dL_law_99 : decode cL_law 99 = .ok (.if_icmp .ge 77, 3) := by decide +kernel
theorem dL_law_102 : decode cL_law 102 = .ok (.iconst 0, 1) := by decide +kernel
theorem dL_law_103 : decode cL_law 103 = .ok (.istore 7, 2) := by decide +kernel
theorem dL_law_105 : decode cL_law 105 = .ok (.iload 7, 2) := by decide +kernel
theorem dL_law_107 : decode cL_law 107 = .ok (.iconst 5, 1) := by decide +kernel
theorem dL_law_108 : decode cL_law 108 = .ok (.if_icmp .ge 62, 3) := by decide +kernel
theorem dL_law_111 : decode cL_law 111 = .ok (.aload_n 1, 1) := by decide +kernel
theorem dL_law_112 : decode cL_law 112 = .ok (.iload 6, 2) := by decide +kernel
theorem dL_law_114 : decode cL_law 114 = .ok (.iload 7, 2) := by decide +kernel
theorem dL_law_116 : decode cL_law 116 = .ok (.invokevirtual 84, 3) := by decide +kernel
theorem dL_law_119 : decode cL_law 119 = .ok (.iload 7, 2) := by decide +kernel
theorem dL_law_121 : decode cL_law 121 = .ok (.ifCond .eq 32, 3) := by decide +kernel
theorem dL_law_124 : decode cL_law 124 = .ok (.iload 7, 2) := by decide +kernel
theorem dL_law_126 : decode cL_law 126 = .ok (.aload_n 3, 1) := by decide +kernel
theorem dL_law_127 : decode cL_law 127 = .ok (.bipush 7, 2) := by decide +kernel
theorem dL_law_129 : decode cL_law 129 = .ok (.iload 6, 2) := by decide +kernel
theorem dL_law_131 : decode cL_law 131 = .ok (.iadd, 1) := by decide +kernel
theorem dL_law_132 : decode cL_law 132 = .ok (.iaload, 1) := by decide +kernel
theorem dL_law_133 : decode cL_law 133 = .ok (.if_icmp .eq 20, 3) := by decide +kernel
theorem dL_law_136 : decode cL_law 136 = .ok (.iload 7, 2) := by decide +kernel
theorem dL_law_138 : decode cL_law 138 = .ok (.iconst 1, 1) := by decide +kernel
theorem dL_law_139 : decode cL_law 139 = .ok (.if_icmp .ne 19, 3) := by decide +kernel
theorem dL_law_142 : decode cL_law 142 = .ok (.aload_n 3, 1) := by decide +kernel
theorem dL_law_143 : decode cL_law 143 = .ok (.bipush 7, 2) := by decide +kernel
theorem dL_law_145 : decode cL_law 145 = .ok (.iload 6, 2) := by decide +kernel
theorem dL_law_147 : decode cL_law 147 = .ok (.iadd, 1) := by decide +kernel
theorem dL_law_148 : decode cL_law 148 = .ok (.iaload, 1) := by decide +kernel
theorem dL_law_149 : decode cL_law 149 = .ok (.iconst 4, 1) := by decide +kernel
theorem dL_law_150 : decode cL_law 150 = .ok (.if_icmp .ne 8, 3) := by decide +kernel
theorem dL_law_153 : decode cL_law 153 = .ok (.iload 6, 2) := by decide +kernel
theorem dL_law_155 : decode cL_law 155 = .ok (.goto 4, 3) := by decide +kernel
theorem dL_law_158 : decode cL_law 158 = .ok (.iconst (-1), 1) := by decide +kernel
theorem dL_law_159 : decode cL_law 159 = .ok (.if_icmp .eq 5, 3) := by decide +kernel
theorem dL_law_162 : decode cL_law 162 = .ok (.iconst 0, 1) := by decide +kernel
theorem dL_law_163 : decode cL_law 163 = .ok (.ireturn, 1) := by decide +kernel
theorem dL_law_164 : decode cL_law 164 = .ok (.iinc 7 1, 3) := by decide +kernel
theorem dL_law_167 : decode cL_law 167 = .ok (.goto (-62), 3) := by decide +kernel
theorem dL_law_170 : decode cL_law 170 = .ok (.iinc 6 1, 3) := by decide +kernel
theorem dL_law_173 : decode cL_law 173 = .ok (.goto (-80), 3) := by decide +kernel
theorem dL_law_176 : decode cL_law 176 = .ok (.iconst 0, 1) := by decide +kernel
theorem dL_law_177 : decode cL_law 177 = .ok (.istore 6, 2) := by decide +kernel
theorem dL_law_179 : decode cL_law 179 = .ok (.iload 6, 2) := by decide +kernel
theorem dL_law_181 : decode cL_law 181 = .ok (.bipush 12, 2) := by decide +kernel
theorem dL_law_183 : decode cL_law 183 = .ok (.if_icmp .ge 592, 3) := by decide +kernel
theorem dL_law_186 : decode cL_law 186 = .ok (.aload_n 0, 1) := by decide +kernel
theorem dL_law_187 : decode cL_law 187 = .ok (.bipush 9, 2) := by decide +kernel
theorem dL_law_189 : decode cL_law 189 = .ok (.iload 6, 2) := by decide +kernel
theorem dL_law_191 : decode cL_law 191 = .ok (.iadd, 1) := by decide +kernel
theorem dL_law_192 : decode cL_law 192 = .ok (.invokestatic 8, 3) := by decide +kernel
theorem dL_law_195 : decode cL_law 195 = .ok (.istore 7, 2) := by decide +kernel
theorem dL_law_197 : decode cL_law 197 = .ok (.iload 7, 2) := by decide +kernel
theorem dL_law_199 : decode cL_law 199 = .ok (.bipush 8, 2) := by decide +kernel
theorem dL_law_201 : decode cL_law 201 = .ok (.invokestatic 14, 3) := by decide +kernel
theorem dL_law_204 : decode cL_law 204 = .ok (.istore 8, 2) := by decide +kernel
theorem dL_law_206 : decode cL_law 206 = .ok (.iload 7, 2) := by decide +kernel
theorem dL_law_208 : decode cL_law 208 = .ok (.iconst 3, 1) := by decide +kernel
theorem dL_law_209 : decode cL_law 209 = .ok (.ishr, 1) := by decide +kernel
theorem dL_law_210 : decode cL_law 210 = .ok (.aload_n 2, 1) := by decide +kernel
theorem dL_law_211 : decode cL_law 211 = .ok (.iconst 0, 1) := by decide +kernel
theorem dL_law_212 : decode cL_law 212 = .ok (.iaload, 1) := by decide +kernel
theorem dL_law_213 : decode cL_law 213 = .ok (.invokestatic 14, 3) := by decide +kernel
theorem dL_law_216 : decode cL_law 216 = .ok (.istore 9, 2) := by decide +kernel
theorem dL_law_218 : decode cL_law 218 = .ok (.aload_n 3, 1) := by decide +kernel
theorem dL_law_219 : decode cL_law 219 = .ok (.bipush 20, 2) := by decide +kernel
theorem dL_law_221 : decode cL_law 221 = .ok (.iaload, 1) := by decide +kernel
theorem dL_law_222 : decode cL_law 222 = .ok (.ifCond .ne 7, 3) := by decide +kernel
theorem dL_law_225 : decode cL_law 225 = .ok (.iconst 0, 1) := by decide +kernel
theorem dL_law_226 : decode cL_law 226 = .ok (.goto 15, 3) := by decide +kernel
theorem dL_law_229 : decode cL_law 229 = .ok (.iload 7, 2) := by decide +kernel
theorem dL_law_231 : decode cL_law 231 = .ok (.bipush 7, 2) := by decide +kernel
theorem dL_law_233 : decode cL_law 233 = .ok (.ishr, 1) := by decide +kernel
theorem dL_law_234 : decode cL_law 234 = .ok (.aload_n 3, 1) := by decide +kernel
theorem dL_law_235 : decode cL_law 235 = .ok (.bipush 20, 2) := by decide +kernel
theorem dL_law_237 : decode cL_law 237 = .ok (.iaload, 1) := by decide +kernel
theorem dL_law_238 : decode cL_law 238 = .ok (.invokestatic 14, 3) := by decide +kernel
theorem dL_law_241 : decode cL_law 241 = .ok (.istore 10, 2) := by decide +kernel
theorem dL_law_243 : decode cL_law 243 = .ok (.iload 8, 2) := by decide +kernel
theorem dL_law_245 : decode cL_law 245 = .ok (.iconst 2, 1) := by decide +kernel
theorem dL_law_246 : decode cL_law 246 = .ok (.if_icmp .ge 88, 3) := by decide +kernel
theorem dL_law_249 : decode cL_law 249 = .ok (.iload 7, 2) := by decide +kernel
theorem dL_law_251 : decode cL_law 251 = .ok (.bipush 10, 2) := by decide +kernel
theorem dL_law_253 : decode cL_law 253 = .ok (.ishr, 1) := by decide +kernel
theorem dL_law_254 : decode cL_law 254 = .ok (.iconst 2, 1) := by decide +kernel
theorem dL_law_255 : decode cL_law 255 = .ok (.invokestatic 14, 3) := by decide +kernel
theorem dL_law_258 : decode cL_law 258 = .ok (.ifCond .ne 7, 3) := by decide +kernel
theorem dL_law_261 : decode cL_law 261 = .ok (.iconst 1, 1) := by decide +kernel
theorem dL_law_262 : decode cL_law 262 = .ok (.goto 4, 3) := by decide +kernel
theorem dL_law_265 : decode cL_law 265 = .ok (.iconst 0, 1) := by decide +kernel
theorem dL_law_266 : decode cL_law 266 = .ok (.istore 11, 2) := by decide +kernel
theorem dL_law_268 : decode cL_law 268 = .ok (.aload_n 1, 1) := by decide +kernel
theorem dL_law_269 : decode cL_law 269 = .ok (.iload 9, 2) := by decide +kernel
theorem dL_law_271 : decode cL_law 271 = .ok (.iload 11, 2) := by decide +kernel
theorem dL_law_273 : decode cL_law 273 = .ok (.invokevirtual 87, 3) := by decide +kernel
theorem dL_law_276 : decode cL_law 276 = .ok (.aload_n 2, 1) := by decide +kernel
theorem dL_law_277 : decode cL_law 277 = .ok (.bipush 31, 2) := by decide +kernel
theorem dL_law_279 : decode cL_law 279 = .ok (.iload 9, 2) := by decide +kernel
theorem dL_law_281 : decode cL_law 281 = .ok (.iadd, 1) := by decide +kernel
theorem dL_law_282 : decode cL_law 282 = .ok (.iaload, 1) := by decide +kernel
theorem dL_law_283 : decode cL_law 283 = .ok (.ifCond .ne 8, 3) := by decide +kernel
theorem dL_law_286 : decode cL_law 286 = .ok (.bipush (-103), 2) := by decide +kernel
theorem dL_law_288 : decode cL_law 288 = .ok (.goto 10, 3) := by decide +kernel
theorem dL_law_291 : decode cL_law 291 = .ok (.aload_n 2, 1) := by decide +kernel
theorem dL_law_292 : decode cL_law 292 = .ok (.bipush 41, 2) := by decide +kernel
theorem dL_law_294 : decode cL_law 294 = .ok (.iload 9, 2) := by decide +kernel
theorem dL_law_296 : decode cL_law 296 = .ok (.iadd, 1) := by decide +kernel
theorem dL_law_297 : decode cL_law 297 = .ok (.iaload, 1) := by decide +kernel
theorem dL_law_298 : decode cL_law 298 = .ok (.if_icmp .eq 5, 3) := by decide +kernel
theorem dL_law_301 : decode cL_law 301 = .ok (.iconst 0, 1) := by decide +kernel
theorem dL_law_302 : decode cL_law 302 = .ok (.ireturn, 1) := by decide +kernel
theorem dL_law_303 : decode cL_law 303 = .ok (.aload_n 2, 1) := by decide +kernel
theorem dL_law_304 : decode cL_law 304 = .ok (.bipush 31, 2) := by decide +kernel
theorem dL_law_306 : decode cL_law 306 = .ok (.iload 9, 2) := by decide +kernel
theorem dL_law_308 : decode cL_law 308 = .ok (.iadd, 1) := by decide +kernel
theorem dL_law_309 : decode cL_law 309 = .ok (.iaload, 1) := by decide +kernel
theorem dL_law_310 : decode cL_law 310 = .ok (.iconst 1, 1) := by decide +kernel
theorem dL_law_311 : decode cL_law 311 = .ok (.if_icmp .ne 20, 3) := by decide +kernel
theorem dL_law_314 : decode cL_law 314 = .ok (.aload_n 2, 1) := by decide +kernel
theorem dL_law_315 : decode cL_law 315 = .ok (.bipush 41, 2) := by decide +kernel
theorem dL_law_317 : decode cL_law 317 = .ok (.iload 9, 2) := by decide +kernel
theorem dL_law_319 : decode cL_law 319 = .ok (.iadd, 1) := by decide +kernel
theorem dL_law_320 : decode cL_law 320 = .ok (.iload 11, 2) := by decide +kernel
theorem dL_law_322 : decode cL_law 322 = .ok (.ifCond .eq 7, 3) := by decide +kernel
theorem dL_law_325 : decode cL_law 325 = .ok (.iconst 1, 1) := by decide +kernel
theorem dL_law_326 : decode cL_law 326 = .ok (.goto 4, 3) := by decide +kernel
theorem dL_law_329 : decode cL_law 329 = .ok (.iconst 0, 1) := by decide +kernel
theorem dL_law_330 : decode cL_law 330 = .ok (.iastore, 1) := by decide +kernel
theorem dL_law_331 : decode cL_law 331 = .ok (.goto 427, 3) := by decide +kernel
theorem dL_law_334 : decode cL_law 334 = .ok (.iload 8, 2) := by decide +kernel
theorem dL_law_336 : decode cL_law 336 = .ok (.iconst 2, 1) := by decide +kernel
theorem dL_law_337 : decode cL_law 337 = .ok (.if_icmp .ne 58, 3) := by decide +kernel
theorem dL_law_340 : decode cL_law 340 = .ok (.iload 7, 2) := by decide +kernel
theorem dL_law_342 : decode cL_law 342 = .ok (.bipush 10, 2) := by decide +kernel
theorem dL_law_344 : decode cL_law 344 = .ok (.ishr, 1) := by decide +kernel
theorem dL_law_345 : decode cL_law 345 = .ok (.iconst 3, 1) := by decide +kernel
theorem dL_law_346 : decode cL_law 346 = .ok (.invokestatic 14, 3) := by decide +kernel
theorem dL_law_349 : decode cL_law 349 = .ok (.ifCond .ne 26, 3) := by decide +kernel
theorem dL_law_352 : decode cL_law 352 = .ok (.aload_n 2, 1) := by decide +kernel
theorem dL_law_353 : decode cL_law 353 = .ok (.bipush 51, 2) := by decide +kernel
theorem dL_law_355 : decode cL_law 355 = .ok (.iconst 1, 1) := by decide +kernel
theorem dL_law_356 : decode cL_law 356 = .ok (.aload_n 2, 1) := by decide +kernel
theorem dL_law_357 : decode cL_law 357 = .ok (.bipush 51, 2) := by decide +kernel
theorem dL_law_359 : decode cL_law 359 = .ok (.iaload, 1) := by decide +kernel
theorem dL_law_360 : decode cL_law 360 = .ok (.isub, 1) := by decide +kernel
theorem dL_law_361 : decode cL_law 361 = .ok (.iastore, 1) := by decide +kernel
theorem dL_law_362 : decode cL_law 362 = .ok (.aload_n 1, 1) := by decide +kernel
theorem dL_law_363 : decode cL_law 363 = .ok (.invokevirtual 91, 3) := by decide +kernel
theorem dL_law_366 : decode cL_law 366 = .ok (.aload_n 2, 1) := by decide +kernel
theorem dL_law_367 : decode cL_law 367 = .ok (.bipush 51, 2) := by decide +kernel
theorem dL_law_369 : decode cL_law 369 = .ok (.iaload, 1) := by decide +kernel
theorem dL_law_370 : decode cL_law 370 = .ok (.if_icmp .eq 5, 3) := by decide +kernel
theorem dL_law_373 : decode cL_law 373 = .ok (.iconst 0, 1) := by decide +kernel
theorem dL_law_374 : decode cL_law 374 = .ok (.ireturn, 1) := by decide +kernel
theorem dL_law_375 : decode cL_law 375 = .ok (.aload_n 1, 1) := by decide +kernel
theorem dL_law_376 : decode cL_law 376 = .ok (.aload_n 2, 1) := by decide +kernel
theorem dL_law_377 : decode cL_law 377 = .ok (.iload 7, 2) := by decide +kernel
theorem dL_law_379 : decode cL_law 379 = .ok (.bipush 12, 2) := by decide +kernel
theorem dL_law_381 : decode cL_law 381 = .ok (.ishr, 1) := by decide +kernel
theorem dL_law_382 : decode cL_law 382 = .ok (.bipush 7, 2) := by decide +kernel
theorem dL_law_384 : decode cL_law 384 = .ok (.invokestatic 14, 3) := by decide +kernel
theorem dL_law_387 : decode cL_law 387 = .ok (.invokestatic 94, 3) := by decide +kernel
theorem dL_law_390 : decode cL_law 390 = .ok (.ifCond .ne 368, 3) := by decide +kernel
theorem dL_law_393 : decode cL_law 393 = .ok (.iconst 0, 1) := by decide +kernel
theorem dL_law_394 : decode cL_law 394 = .ok (.ireturn, 1) := by decide +kernel
theorem dL_law_395 : decode cL_law 395 = .ok (.iload 8, 2) := by decide +kernel
theorem dL_law_397 : decode cL_law 397 = .ok (.iconst 5, 1) := by decide +kernel
theorem dL_law_398 : decode cL_law 398 = .ok (.if_icmp .ge 226, 3) := by decide +kernel
theorem dL_law_401 : decode cL_law 401 = .ok (.aload_n 3, 1) := by decide +kernel
theorem dL_law_402 : decode cL_law 402 = .ok (.bipush 20, 2) := by decide +kernel
theorem dL_law_404 : decode cL_law 404 = .ok (.iaload, 1) := by decide +kernel
theorem dL_law_405 : decode cL_law 405 = .ok (.ifCond .le 219, 3) := by decide +kernel
theorem dL_law_408 : decode cL_law 408 = .ok (.iconst 0, 1) := by decide +kernel
theorem dL_law_409 : decode cL_law 409 = .ok (.istore 11, 2) := by decide +kernel
theorem dL_law_411 : decode cL_law 411 = .ok (.iload 11, 2) := by decide +kernel
theorem dL_law_413 : decode cL_law 413 = .ok (.aload_n 2, 1) := by decide +kernel
theorem dL_law_414 : decode cL_law 414 = .ok (.iconst 0, 1) := by decide +kernel
theorem dL_law_415 : decode cL_law 415 = .ok (.iaload, 1) := by decide +kernel
theorem dL_law_416 : decode cL_law 416 = .ok (.if_icmp .ge 64, 3) := by decide +kernel
theorem dL_law_419 : decode cL_law 419 = .ok (.iload 7, 2) := by decide +kernel
theorem dL_law_421 : decode cL_law 421 = .ok (.bipush 10, 2) := by decide +kernel
theorem dL_law_423 : decode cL_law 423 = .ok (.ishr, 1) := by decide +kernel
theorem dL_law_424 : decode cL_law 424 = .ok (.iconst 4, 1) := by decide +kernel
theorem dL_law_425 : decode cL_law 425 = .ok (.invokestatic 14, 3) := by decide +kernel
theorem dL_law_428 : decode cL_law 428 = .ok (.ifCond .le 52, 3) := by decide +kernel
theorem dL_law_431 : decode cL_law 431 = .ok (.aload_n 2, 1) := by decide +kernel
theorem dL_law_432 : decode cL_law 432 = .ok (.iconst 1, 1) := by decide +kernel
theorem dL_law_433 : decode cL_law 433 = .ok (.iload 9, 2) := by decide +kernel
theorem dL_law_435 : decode cL_law 435 = .ok (.iadd, 1) := by decide +kernel
theorem dL_law_436 : decode cL_law 436 = .ok (.iaload, 1) := by decide +kernel
theorem dL_law_437 : decode cL_law 437 = .ok (.aload_n 3, 1) := by decide +kernel
theorem dL_law_438 : decode cL_law 438 = .ok (.bipush 13, 2) := by decide +kernel
theorem dL_law_440 : decode cL_law 440 = .ok (.iload 10, 2) := by decide +kernel
theorem dL_law_442 : decode cL_law 442 = .ok (.iadd, 1) := by decide +kernel
theorem dL_law_443 : decode cL_law 443 = .ok (.iaload, 1) := by decide +kernel
theorem dL_law_444 : decode cL_law 444 = .ok (.if_icmp .eq 36, 3) := by decide +kernel
theorem dL_law_447 : decode cL_law 447 = .ok (.aload_n 2, 1) := by decide +kernel
theorem dL_law_448 : decode cL_law 448 = .ok (.bipush 11, 2) := by decide +kernel
theorem dL_law_450 : decode cL_law 450 = .ok (.iload 9, 2) := by decide +kernel
theorem dL_law_452 : decode cL_law 452 = .ok (.iadd, 1) := by decide +kernel
theorem dL_law_453 : decode cL_law 453 = .ok (.iaload, 1) := by decide +kernel
theorem dL_law_454 : decode cL_law 454 = .ok (.aload_n 3, 1) := by decide +kernel
theorem dL_law_455 : decode cL_law 455 = .ok (.bipush 13, 2) := by decide +kernel
theorem dL_law_457 : decode cL_law 457 = .ok (.iload 10, 2) := by decide +kernel
theorem dL_law_459 : decode cL_law 459 = .ok (.iadd, 1) := by decide +kernel
theorem dL_law_460 : decode cL_law 460 = .ok (.iaload, 1) := by decide +kernel
theorem dL_law_461 : decode cL_law 461 = .ok (.if_icmp .eq 19, 3) := by decide +kernel
theorem dL_law_464 : decode cL_law 464 = .ok (.iload 9, 2) := by decide +kernel
theorem dL_law_466 : decode cL_law 466 = .ok (.iconst 1, 1) := by decide +kernel
theorem dL_law_467 : decode cL_law 467 = .ok (.iadd, 1) := by decide +kernel
theorem dL_law_468 : decode cL_law 468 = .ok (.aload_n 2, 1) := by decide +kernel
theorem dL_law_469 : decode cL_law 469 = .ok (.iconst 0, 1) := by decide +kernel
theorem dL_law_470 : decode cL_law 470 = .ok (.iaload, 1) := by decide +kernel
theorem dL_law_471 : decode cL_law 471 = .ok (.irem, 1) := by decide +kernel
theorem dL_law_472 : decode cL_law 472 = .ok (.istore 9, 2) := by decide +kernel
theorem dL_law_474 : decode cL_law 474 = .ok (.iinc 11 1, 3) := by decide +kernel
theorem dL_law_477 : decode cL_law 477 = .ok (.goto (-66), 3) := by decide +kernel
theorem dL_law_480 : decode cL_law 480 = .ok (.aload_n 2, 1) := by decide +kernel
theorem dL_law_481 : decode cL_law 481 = .ok (.iconst 1, 1) := by decide +kernel
theorem dL_law_482 : decode cL_law 482 = .ok (.iload 9, 2) := by decide +kernel
theorem dL_law_484 : decode cL_law 484 = .ok (.iadd, 1) := by decide +kernel
theorem dL_law_485 : decode cL_law 485 = .ok (.iaload, 1) := by decide +kernel
theorem dL_law_486 : decode cL_law 486 = .ok (.aload_n 3, 1) := by decide +kernel
theorem dL_law_487 : decode cL_law 487 = .ok (.bipush 13, 2) := by decide +kernel
theorem dL_law_489 : decode cL_law 489 = .ok (.iload 10, 2) := by decide +kernel
theorem dL_law_491 : decode cL_law 491 = .ok (.iadd, 1) := by decide +kernel
theorem dL_law_492 : decode cL_law 492 = .ok (.iaload, 1) := by decide +kernel
theorem dL_law_493 : decode cL_law 493 = .ok (.if_icmp .eq 20, 3) := by decide +kernel
theorem dL_law_496 : decode cL_law 496 = .ok (.aload_n 2, 1) := by decide +kernel
theorem dL_law_497 : decode cL_law 497 = .ok (.bipush 11, 2) := by decide +kernel
theorem dL_law_499 : decode cL_law 499 = .ok (.iload 9, 2) := by decide +kernel
theorem dL_law_501 : decode cL_law 501 = .ok (.iadd, 1) := by decide +kernel
theorem dL_law_502 : decode cL_law 502 = .ok (.iaload, 1) := by decide +kernel
theorem dL_law_503 : decode cL_law 503 = .ok (.aload_n 3, 1) := by decide +kernel
theorem dL_law_504 : decode cL_law 504 = .ok (.bipush 13, 2) := by decide +kernel
theorem dL_law_506 : decode cL_law 506 = .ok (.iload 10, 2) := by decide +kernel
theorem dL_law_508 : decode cL_law 508 = .ok (.iadd, 1) := by decide +kernel
theorem dL_law_509 : decode cL_law 509 = .ok (.iaload, 1) := by decide +kernel
theorem dL_law_510 : decode cL_law 510 = .ok (.if_icmp .ne 7, 3) := by decide +kernel
theorem dL_law_513 : decode cL_law 513 = .ok (.iconst 1, 1) := by decide +kernel
theorem dL_law_514 : decode cL_law 514 = .ok (.goto 4, 3) := by decide +kernel
theorem dL_law_517 : decode cL_law 517 = .ok (.iconst 0, 1) := by decide +kernel
theorem dL_law_518 : decode cL_law 518 = .ok (.istore 11, 2) := by decide +kernel
theorem dL_law_520 : decode cL_law 520 = .ok (.iload 11, 2) := by decide +kernel
theorem dL_law_522 : decode cL_law 522 = .ok (.ifCond .eq 41, 3) := by decide +kernel
theorem dL_law_525 : decode cL_law 525 = .ok (.aload_n 3, 1) := by decide +kernel
theorem dL_law_526 : decode cL_law 526 = .ok (.bipush 19, 2) := by decide +kernel
theorem dL_law_528 : decode cL_law 528 = .ok (.iaload, 1) := by decide +kernel
theorem dL_law_529 : decode cL_law 529 = .ok (.iload 10, 2) := by decide +kernel
theorem dL_law_531 : decode cL_law 531 = .ok (.ishr, 1) := by decide +kernel
theorem dL_law_532 : decode cL_law 532 = .ok (.iconst 1, 1) := by decide +kernel
theorem dL_law_533 : decode cL_law 533 = .ok (.iand, 1) := by decide +kernel
theorem dL_law_534 : decode cL_law 534 = .ok (.ifCond .ne 29, 3) := by decide +kernel
theorem dL_law_537 : decode cL_law 537 = .ok (.aload_n 2, 1) := by decide +kernel
theorem dL_law_538 : decode cL_law 538 = .ok (.bipush 41, 2) := by decide +kernel
theorem dL_law_540 : decode cL_law 540 = .ok (.iload 9, 2) := by decide +kernel
theorem dL_law_542 : decode cL_law 542 = .ok (.iadd, 1) := by decide +kernel
theorem dL_law_543 : decode cL_law 543 = .ok (.iaload, 1) := by decide +kernel
theorem dL_law_544 : decode cL_law 544 = .ok (.iconst 1, 1) := by decide +kernel
theorem dL_law_545 : decode cL_law 545 = .ok (.if_icmp .eq 14, 3) := by decide +kernel
theorem dL_law_548 : decode cL_law 548 = .ok (.aload_n 3, 1) := by decide +kernel
theorem dL_law_549 : decode cL_law 549 = .ok (.bipush 7, 2) := by decide +kernel
theorem dL_law_551 : decode cL_law 551 = .ok (.iload 10, 2) := by decide +kernel
theorem dL_law_553 : decode cL_law 553 = .ok (.iadd, 1) := by decide +kernel
theorem dL_law_554 : decode cL_law 554 = .ok (.iaload, 1) := by decide +kernel
theorem dL_law_555 : decode cL_law 555 = .ok (.iconst 3, 1) := by decide +kernel
theorem dL_law_556 : decode cL_law 556 = .ok (.if_icmp .ne 7, 3) := by decide +kernel
theorem dL_law_559 : decode cL_law 559 = .ok (.iconst 1, 1) := by decide +kernel
theorem dL_law_560 : decode cL_law 560 = .ok (.goto 4, 3) := by decide +kernel
theorem dL_law_563 : decode cL_law 563 = .ok (.iconst 0, 1) := by decide +kernel
theorem dL_law_564 : decode cL_law 564 = .ok (.istore 12, 2) := by decide +kernel
theorem dL_law_566 : decode cL_law 566 = .ok (.iload 12, 2) := by decide +kernel
theorem dL_law_568 : decode cL_law 568 = .ok (.ifCond .eq 23, 3) := by decide +kernel
theorem dL_law_571 : decode cL_law 571 = .ok (.aload_n 3, 1) := by decide +kernel
theorem dL_law_572 : decode cL_law 572 = .ok (.bipush 13, 2) := by decide +kernel
theorem dL_law_574 : decode cL_law 574 = .ok (.iload 10, 2) := by decide +kernel
theorem dL_law_576 : decode cL_law 576 = .ok (.iadd, 1) := by decide +kernel
theorem dL_law_577 : decode cL_law 577 = .ok (.aload_n 2, 1) := by decide +kernel
theorem dL_law_578 : decode cL_law 578 = .ok (.iload 9, 2) := by decide +kernel
theorem dL_law_580 : decode cL_law 580 = .ok (.aload_n 3, 1) := by decide +kernel
theorem dL_law_581 : decode cL_law 581 = .ok (.bipush 13, 2) := by decide +kernel
theorem dL_law_583 : decode cL_law 583 = .ok (.iload 10, 2) := by decide +kernel
theorem dL_law_585 : decode cL_law 585 = .ok (.iadd, 1) := by decide +kernel
theorem dL_law_586 : decode cL_law 586 = .ok (.iaload, 1) := by decide +kernel
theorem dL_law_587 : decode cL_law 587 = .ok (.invokestatic 97, 3) := by decide +kernel
theorem dL_law_590 : decode cL_law 590 = .ok (.iastore, 1) := by decide +kernel
theorem dL_law_591 : decode cL_law 591 = .ok (.aload_n 1, 1) := by decide +kernel
theorem dL_law_592 : decode cL_law 592 = .ok (.iload 10, 2) := by decide +kernel
theorem dL_law_594 : decode cL_law 594 = .ok (.iload 9, 2) := by decide +kernel
theorem dL_law_596 : decode cL_law 596 = .ok (.invokevirtual 101, 3) := by decide +kernel
theorem dL_law_599 : decode cL_law 599 = .ok (.iload 12, 2) := by decide +kernel
theorem dL_law_601 : decode cL_law 601 = .ok (.ifCond .eq 13, 3) := by decide +kernel
theorem dL_law_604 : decode cL_law 604 = .ok (.aload_n 3, 1) := by decide +kernel
theorem dL_law_605 : decode cL_law 605 = .ok (.bipush 13, 2) := by decide +kernel
theorem dL_law_607 : decode cL_law 607 = .ok (.iload 10, 2) := by decide +kernel
theorem dL_law_609 : decode cL_law 609 = .ok (.iadd, 1) := by decide +kernel
theorem dL_law_610 : decode cL_law 610 = .ok (.iaload, 1) := by decide +kernel
theorem dL_law_611 : decode cL_law 611 = .ok (.goto 5, 3) := by decide +kernel
theorem dL_law_614 : decode cL_law 614 = .ok (.bipush (-103), 2) := by decide +kernel
theorem dL_law_616 : decode cL_law 616 = .ok (.if_icmp .eq 5, 3) := by decide +kernel
theorem dL_law_619 : decode cL_law 619 = .ok (.iconst 0, 1) := by decide +kernel
theorem dL_law_620 : decode cL_law 620 = .ok (.ireturn, 1) := by decide +kernel
theorem dL_law_621 : decode cL_law 621 = .ok (.goto 137, 3) := by decide +kernel
theorem dL_law_624 : decode cL_law 624 = .ok (.iload 8, 2) := by decide +kernel
theorem dL_law_626 : decode cL_law 626 = .ok (.bipush 7, 2) := by decide +kernel
theorem dL_law_628 : decode cL_law 628 = .ok (.if_icmp .ge 95, 3) := by decide +kernel
theorem dL_law_631 : decode cL_law 631 = .ok (.iconst 1, 1) := by decide +kernel
theorem dL_law_632 : decode cL_law 632 = .ok (.iload 7, 2) := by decide +kernel
theorem dL_law_634 : decode cL_law 634 = .ok (.bipush 10, 2) := by decide +kernel
theorem dL_law_636 : decode cL_law 636 = .ok (.ishr, 1) := by decide +kernel
theorem dL_law_637 : decode cL_law 637 = .ok (.iload 7, 2) := by decide +kernel
theorem dL_law_639 : decode cL_law 639 = .ok (.bipush 16, 2) := by decide +kernel
theorem dL_law_641 : decode cL_law 641 = .ok (.ishr, 1) := by decide +kernel
theorem dL_law_642 : decode cL_law 642 = .ok (.iconst 5, 1) := by decide +kernel
theorem dL_law_643 : decode cL_law 643 = .ok (.invokestatic 14, 3) := by decide +kernel
theorem dL_law_646 : decode cL_law 646 = .ok (.ifCond .ne 8, 3) := by decide +kernel
theorem dL_law_649 : decode cL_law 649 = .ok (.bipush 60, 2) := by decide +kernel
theorem dL_law_651 : decode cL_law 651 = .ok (.goto 4, 3) := by decide +kernel
theorem dL_law_654 : decode cL_law 654 = .ok (.iconst 3, 1) := by decide +kernel
theorem dL_law_655 : decode cL_law 655 = .ok (.invokestatic 14, 3) := by decide +kernel
theorem dL_law_658 : decode cL_law 658 = .ok (.iadd, 1) := by decide +kernel
theorem dL_law_659 : decode cL_law 659 = .ok (.istore 11, 2) := by decide +kernel
theorem dL_law_661 : decode cL_law 661 = .ok (.iconst 0, 1) := by decide +kernel
theorem dL_law_662 : decode cL_law 662 = .ok (.istore 12, 2) := by decide +kernel
theorem dL_law_664 : decode cL_law 664 = .ok (.aload_n 2, 1) := by decide +kernel
theorem dL_law_665 : decode cL_law 665 = .ok (.invokestatic 44, 3) := by decide +kernel
theorem dL_law_668 : decode cL_law 668 = .ok (.astore 13, 2) := by decide +kernel
theorem dL_law_670 : decode cL_law 670 = .ok (.iconst 0, 1) := by decide +kernel
theorem dL_law_671 : decode cL_law 671 = .ok (.istore 14, 2) := by decide +kernel
theorem dL_law_673 : decode cL_law 673 = .ok (.iload 14, 2) := by decide +kernel
theorem dL_law_675 : decode cL_law 675 = .ok (.iload 11, 2) := by decide +kernel
theorem dL_law_677 : decode cL_law 677 = .ok (.if_icmp .ge 21, 3) := by decide +kernel
theorem dL_law_680 : decode cL_law 680 = .ok (.iload 12, 2) := by decide +kernel
theorem dL_law_682 : decode cL_law 682 = .ok (.aload_n 2, 1) := by decide +kernel
theorem dL_law_683 : decode cL_law 683 = .ok (.aload 13, 2) := by decide +kernel
theorem dL_law_685 : decode cL_law 685 = .ok (.aload_n 3, 1) := by decide +kernel
theorem dL_law_686 : decode cL_law 686 = .ok (.invokestatic 104, 3) := by decide +kernel
theorem dL_law_689 : decode cL_law 689 = .ok (.iadd, 1) := by decide +kernel
theorem dL_law_690 : decode cL_law 690 = .ok (.istore 12, 2) := by decide +kernel
theorem dL_law_692 : decode cL_law 692 = .ok (.iinc 14 1, 3) := by decide +kernel
theorem dL_law_695 : decode cL_law 695 = .ok (.goto (-22), 3) := by decide +kernel
theorem dL_law_698 : decode cL_law 698 = .ok (.aload_n 3, 1) := by decide +kernel
theorem dL_law_699 : decode cL_law 699 = .ok (.bipush 21, 2) := by decide +kernel
theorem dL_law_701 : decode cL_law 701 = .ok (.dup2, 1) := by decide +kernel
theorem dL_law_702 : decode cL_law 702 = .ok (.iaload, 1) := by decide +kernel
theorem dL_law_703 : decode cL_law 703 = .ok (.iload 11, 2) := by decide +kernel
theorem dL_law_705 : decode cL_law 705 = .ok (.iadd, 1) := by decide +kernel
theorem dL_law_706 : decode cL_law 706 = .ok (.iastore, 1) := by decide +kernel
theorem dL_law_707 : decode cL_law 707 = .ok (.aload_n 1, 1) := by decide +kernel
theorem dL_law_708 : decode cL_law 708 = .ok (.iload 11, 2) := by decide +kernel
theorem dL_law_710 : decode cL_law 710 = .ok (.invokevirtual 108, 3) := by decide +kernel
theorem dL_law_713 : decode cL_law 713 = .ok (.iload 12, 2) := by decide +kernel
theorem dL_law_715 : decode cL_law 715 = .ok (.if_icmp .eq 5, 3) := by decide +kernel
theorem dL_law_718 : decode cL_law 718 = .ok (.iconst 0, 1) := by decide +kernel
theorem dL_law_719 : decode cL_law 719 = .ok (.ireturn, 1) := by decide +kernel
theorem dL_law_720 : decode cL_law 720 = .ok (.goto 38, 3) := by decide +kernel
theorem dL_law_723 : decode cL_law 723 = .ok (.aload_n 1, 1) := by decide +kernel
theorem dL_law_724 : decode cL_law 724 = .ok (.aload_n 2, 1) := by decide +kernel
theorem dL_law_725 : decode cL_law 725 = .ok (.aload_n 3, 1) := by decide +kernel
theorem dL_law_726 : decode cL_law 726 = .ok (.iconst 1, 1) := by decide +kernel
theorem dL_law_727 : decode cL_law 727 = .ok (.iload 7, 2) := by decide +kernel
theorem dL_law_729 : decode cL_law 729 = .ok (.bipush 10, 2) := by decide +kernel
theorem dL_law_731 : decode cL_law 731 = .ok (.ishr, 1) := by decide +kernel
theorem dL_law_732 : decode cL_law 732 = .ok (.bipush 60, 2) := by decide +kernel
theorem dL_law_734 : decode cL_law 734 = .ok (.invokestatic 14, 3) := by decide +kernel
theorem dL_law_737 : decode cL_law 737 = .ok (.iadd, 1) := by decide +kernel
theorem dL_law_738 : decode cL_law 738 = .ok (.aload_n 0, 1) := by decide +kernel
theorem dL_law_739 : decode cL_law 739 = .ok (.bipush 21, 2) := by decide +kernel
theorem dL_law_741 : decode cL_law 741 = .ok (.iload 6, 2) := by decide +kernel
theorem dL_law_743 : decode cL_law 743 = .ok (.iadd, 1) := by decide +kernel
theorem dL_law_744 : decode cL_law 744 = .ok (.invokestatic 8, 3) := by decide +kernel
theorem dL_law_747 : decode cL_law 747 = .ok (.ldc 111, 2) := by decide +kernel
theorem dL_law_749 : decode cL_law 749 = .ok (.iand, 1) := by decide +kernel
theorem dL_law_750 : decode cL_law 750 = .ok (.invokestatic 112, 3) := by decide +kernel
theorem dL_law_753 : decode cL_law 753 = .ok (.ifCond .ne 5, 3) := by decide +kernel
theorem dL_law_756 : decode cL_law 756 = .ok (.iconst 0, 1) := by decide +kernel
theorem dL_law_757 : decode cL_law 757 = .ok (.ireturn, 1) := by decide +kernel
theorem dL_law_758 : decode cL_law 758 = .ok (.aload_n 1, 1) := by decide +kernel
theorem dL_law_759 : decode cL_law 759 = .ok (.aload_n 2, 1) := by decide +kernel
theorem dL_law_760 : decode cL_law 760 = .ok (.aload_n 3, 1) := by decide +kernel
theorem dL_law_761 : decode cL_law 761 = .ok (.invokestatic 80, 3) := by decide +kernel
theorem dL_law_764 : decode cL_law 764 = .ok (.ifCond .ne 5, 3) := by decide +kernel
theorem dL_law_767 : decode cL_law 767 = .ok (.iconst 0, 1) := by decide +kernel
theorem dL_law_768 : decode cL_law 768 = .ok (.ireturn, 1) := by decide +kernel
theorem dL_law_769 : decode cL_law 769 = .ok (.iinc 6 1, 3) := by decide +kernel
theorem dL_law_772 : decode cL_law 772 = .ok (.goto (-593), 3) := by decide +kernel
theorem dL_law_775 : decode cL_law 775 = .ok (.aload_n 2, 1) := by decide +kernel
theorem dL_law_776 : decode cL_law 776 = .ok (.iconst 0, 1) := by decide +kernel
theorem dL_law_777 : decode cL_law 777 = .ok (.iaload, 1) := by decide +kernel
theorem dL_law_778 : decode cL_law 778 = .ok (.istore 6, 2) := by decide +kernel
theorem dL_law_780 : decode cL_law 780 = .ok (.aload_n 3, 1) := by decide +kernel
theorem dL_law_781 : decode cL_law 781 = .ok (.bipush 20, 2) := by decide +kernel
theorem dL_law_783 : decode cL_law 783 = .ok (.iaload, 1) := by decide +kernel
theorem dL_law_784 : decode cL_law 784 = .ok (.istore 7, 2) := by decide +kernel
theorem dL_law_786 : decode cL_law 786 = .ok (.aload_n 1, 1) := by decide +kernel
theorem dL_law_787 : decode cL_law 787 = .ok (.iload 6, 2) := by decide +kernel
theorem dL_law_789 : decode cL_law 789 = .ok (.iconst 0, 1) := by decide +kernel
theorem dL_law_790 : decode cL_law 790 = .ok (.invokevirtual 48, 3) := by decide +kernel
theorem dL_law_793 : decode cL_law 793 = .ok (.bipush (-101), 2) := by decide +kernel
theorem dL_law_795 : decode cL_law 795 = .ok (.if_icmp .ne 261, 3) := by decide +kernel
theorem dL_law_798 : decode cL_law 798 = .ok (.aload_n 1, 1) := by decide +kernel
theorem dL_law_799 : decode cL_law 799 = .ok (.iconst 0, 1) := by decide +kernel
theorem dL_law_800 : decode cL_law 800 = .ok (.bipush 6, 2) := by decide +kernel
theorem dL_law_802 : decode cL_law 802 = .ok (.invokevirtual 48, 3) := by decide +kernel
theorem dL_law_805 : decode cL_law 805 = .ok (.bipush (-102), 2) := by decide +kernel
theorem dL_law_807 : decode cL_law 807 = .ok (.if_icmp .ne 249, 3) := by decide +kernel
theorem dL_law_810 : decode cL_law 810 = .ok (.aload_n 1, 1) := by decide +kernel
theorem dL_law_811 : decode cL_law 811 = .ok (.bipush 7, 2) := by decide +kernel
theorem dL_law_813 : decode cL_law 813 = .ok (.iconst 0, 1) := by decide +kernel
theorem dL_law_814 : decode cL_law 814 = .ok (.invokevirtual 51, 3) := by decide +kernel
theorem dL_law_817 : decode cL_law 817 = .ok (.bipush (-101), 2) := by decide +kernel
theorem dL_law_819 : decode cL_law 819 = .ok (.if_icmp .ne 237, 3) := by decide +kernel
theorem dL_law_822 : decode cL_law 822 = .ok (.aload_n 1, 1) := by decide +kernel
theorem dL_law_823 : decode cL_law 823 = .ok (.iconst 0, 1) := by decide +kernel
theorem dL_law_824 : decode cL_law 824 = .ok (.iconst 4, 1) := by decide +kernel
theorem dL_law_825 : decode cL_law 825 = .ok (.invokevirtual 51, 3) := by decide +kernel
theorem dL_law_828 : decode cL_law 828 = .ok (.bipush (-102), 2) := by decide +kernel
theorem dL_law_830 : decode cL_law 830 = .ok (.if_icmp .ne 226, 3) := by decide +kernel
theorem dL_law_833 : decode cL_law 833 = .ok (.aload_n 1, 1) := by decide +kernel
theorem dL_law_834 : decode cL_law 834 = .ok (.iload 6, 2) := by decide +kernel
theorem dL_law_836 : decode cL_law 836 = .ok (.iconst 1, 1) := by decide +kernel
theorem dL_law_837 : decode cL_law 837 = .ok (.invokevirtual 87, 3) := by decide +kernel
theorem dL_law_840 : decode cL_law 840 = .ok (.bipush (-101), 2) := by decide +kernel
theorem dL_law_842 : decode cL_law 842 = .ok (.if_icmp .ne 214, 3) := by decide +kernel
theorem dL_law_845 : decode cL_law 845 = .ok (.aload_n 1, 1) := by decide +kernel
theorem dL_law_846 : decode cL_law 846 = .ok (.iconst 5, 1) := by decide +kernel
theorem dL_law_847 : decode cL_law 847 = .ok (.iconst 0, 1) := by decide +kernel
theorem dL_law_848 : decode cL_law 848 = .ok (.invokevirtual 24, 3) := by decide +kernel
theorem dL_law_851 : decode cL_law 851 = .ok (.bipush (-102), 2) := by decide +kernel
theorem dL_law_853 : decode cL_law 853 = .ok (.if_icmp .ne 203, 3) := by decide +kernel
theorem dL_law_856 : decode cL_law 856 = .ok (.aload_n 1, 1) := by decide +kernel
theorem dL_law_857 : decode cL_law 857 = .ok (.iconst 0, 1) := by decide +kernel
theorem dL_law_858 : decode cL_law 858 = .ok (.bipush 7, 2) := by decide +kernel
theorem dL_law_860 : decode cL_law 860 = .ok (.invokevirtual 24, 3) := by decide +kernel
theorem dL_law_863 : decode cL_law 863 = .ok (.bipush (-101), 2) := by decide +kernel
theorem dL_law_865 : decode cL_law 865 = .ok (.if_icmp .ne 191, 3) := by decide +kernel
theorem dL_law_868 : decode cL_law 868 = .ok (.aload_n 1, 1) := by decide +kernel
theorem dL_law_869 : decode cL_law 869 = .ok (.iload 7, 2) := by decide +kernel
theorem dL_law_871 : decode cL_law 871 = .ok (.iconst 0, 1) := by decide +kernel
theorem dL_law_872 : decode cL_law 872 = .ok (.invokevirtual 54, 3) := by decide +kernel
theorem dL_law_875 : decode cL_law 875 = .ok (.bipush (-101), 2) := by decide +kernel
theorem dL_law_877 : decode cL_law 877 = .ok (.if_icmp .ne 179, 3) := by decide +kernel
theorem dL_law_880 : decode cL_law 880 = .ok (.aload_n 1, 1) := by decide +kernel
theorem dL_law_881 : decode cL_law 881 = .ok (.iload 7, 2) := by decide +kernel
theorem dL_law_883 : decode cL_law 883 = .ok (.iconst 0, 1) := by decide +kernel
theorem dL_law_884 : decode cL_law 884 = .ok (.invokevirtual 84, 3) := by decide +kernel
theorem dL_law_887 : decode cL_law 887 = .ok (.bipush (-101), 2) := by decide +kernel
theorem dL_law_889 : decode cL_law 889 = .ok (.if_icmp .ne 167, 3) := by decide +kernel
theorem dL_law_892 : decode cL_law 892 = .ok (.aload_n 1, 1) := by decide +kernel
theorem dL_law_893 : decode cL_law 893 = .ok (.iload 7, 2) := by decide +kernel
theorem dL_law_895 : decode cL_law 895 = .ok (.iconst 0, 1) := by decide +kernel
theorem dL_law_896 : decode cL_law 896 = .ok (.invokevirtual 101, 3) := by decide +kernel
theorem dL_law_899 : decode cL_law 899 = .ok (.bipush (-101), 2) := by decide +kernel
theorem dL_law_901 : decode cL_law 901 = .ok (.if_icmp .ne 155, 3) := by decide +kernel
theorem dL_law_904 : decode cL_law 904 = .ok (.iload 7, 2) := by decide +kernel
theorem dL_law_906 : decode cL_law 906 = .ok (.ifCond .eq 37, 3) := by decide +kernel
theorem dL_law_909 : decode cL_law 909 = .ok (.aload_n 1, 1) := by decide +kernel
theorem dL_law_910 : decode cL_law 910 = .ok (.iconst 0, 1) := by decide +kernel
theorem dL_law_911 : decode cL_law 911 = .ok (.iload 6, 2) := by decide +kernel
theorem dL_law_913 : decode cL_law 913 = .ok (.invokevirtual 101, 3) := by decide +kernel
theorem dL_law_916 : decode cL_law 916 = .ok (.bipush (-101), 2) := by decide +kernel
theorem dL_law_918 : decode cL_law 918 = .ok (.if_icmp .ne 138, 3) := by decide +kernel
theorem dL_law_921 : decode cL_law 921 = .ok (.aload_n 1, 1) := by decide +kernel
theorem dL_law_922 : decode cL_law 922 = .ok (.iconst 0, 1) := by decide +kernel
theorem dL_law_923 : decode cL_law 923 = .ok (.iconst 4, 1) := by decide +kernel
theorem dL_law_924 : decode cL_law 924 = .ok (.invokevirtual 54, 3) := by decide +kernel
theorem dL_law_927 : decode cL_law 927 = .ok (.bipush (-102), 2) := by decide +kernel
theorem dL_law_929 : decode cL_law 929 = .ok (.if_icmp .ne 127, 3) := by decide +kernel
theorem dL_law_932 : decode cL_law 932 = .ok (.aload_n 1, 1) := by decide +kernel
theorem dL_law_933 : decode cL_law 933 = .ok (.iconst 0, 1) := by decide +kernel
theorem dL_law_934 : decode cL_law 934 = .ok (.iconst 5, 1) := by decide +kernel
theorem dL_law_935 : decode cL_law 935 = .ok (.invokevirtual 84, 3) := by decide +kernel
theorem dL_law_938 : decode cL_law 938 = .ok (.bipush (-102), 2) := by decide +kernel
theorem dL_law_940 : decode cL_law 940 = .ok (.if_icmp .ne 116, 3) := by decide +kernel
theorem dL_law_943 : decode cL_law 943 = .ok (.aload_n 1, 1) := by decide +kernel
theorem dL_law_944 : decode cL_law 944 = .ok (.iconst 0, 1) := by decide +kernel
theorem dL_law_945 : decode cL_law 945 = .ok (.invokevirtual 108, 3) := by decide +kernel
theorem dL_law_948 : decode cL_law 948 = .ok (.bipush (-102), 2) := by decide +kernel
theorem dL_law_950 : decode cL_law 950 = .ok (.if_icmp .ne 106, 3) := by decide +kernel
theorem dL_law_953 : decode cL_law 953 = .ok (.aload_n 1, 1) := by decide +kernel
theorem dL_law_954 : decode cL_law 954 = .ok (.bipush 61, 2) := by decide +kernel
theorem dL_law_956 : decode cL_law 956 = .ok (.invokevirtual 108, 3) := by decide +kernel
theorem dL_law_959 : decode cL_law 959 = .ok (.bipush (-102), 2) := by decide +kernel
theorem dL_law_961 : decode cL_law 961 = .ok (.if_icmp .ne 95, 3) := by decide +kernel
theorem dL_law_964 : decode cL_law 964 = .ok (.aload_n 1, 1) := by decide +kernel
theorem dL_law_965 : decode cL_law 965 = .ok (.bipush 7, 2) := by decide +kernel
theorem dL_law_967 : decode cL_law 967 = .ok (.iconst 0, 1) := by decide +kernel
theorem dL_law_968 : decode cL_law 968 = .ok (.invokevirtual 116, 3) := by decide +kernel
theorem dL_law_971 : decode cL_law 971 = .ok (.bipush (-101), 2) := by decide +kernel
theorem dL_law_973 : decode cL_law 973 = .ok (.if_icmp .ne 83, 3) := by decide +kernel
theorem dL_law_976 : decode cL_law 976 = .ok (.aload_n 1, 1) := by decide +kernel
theorem dL_law_977 : decode cL_law 977 = .ok (.iconst 0, 1) := by decide +kernel
theorem dL_law_978 : decode cL_law 978 = .ok (.iconst (-1), 1) := by decide +kernel
theorem dL_law_979 : decode cL_law 979 = .ok (.invokevirtual 116, 3) := by decide +kernel
theorem dL_law_982 : decode cL_law 982 = .ok (.bipush (-101), 2) := by decide +kernel
theorem dL_law_984 : decode cL_law 984 = .ok (.if_icmp .ne 72, 3) := by decide +kernel
theorem dL_law_987 : decode cL_law 987 = .ok (.aload_n 1, 1) := by decide +kernel
theorem dL_law_988 : decode cL_law 988 = .ok (.bipush 7, 2) := by decide +kernel
theorem dL_law_990 : decode cL_law 990 = .ok (.invokevirtual 119, 3) := by decide +kernel
theorem dL_law_993 : decode cL_law 993 = .ok (.bipush (-101), 2) := by decide +kernel
theorem dL_law_995 : decode cL_law 995 = .ok (.if_icmp .ne 61, 3) := by decide +kernel
theorem dL_law_998 : decode cL_law 998 = .ok (.aload_n 1, 1) := by decide +kernel
theorem dL_law_999 : decode cL_law 999 = .ok (.iconst 0, 1) := by decide +kernel
theorem dL_law_1000 : decode cL_law 1000 = .ok (.iconst 0, 1) := by decide +kernel
theorem dL_law_1001 : decode cL_law 1001 = .ok (.iconst 0, 1) := by decide +kernel
theorem dL_law_1002 : decode cL_law 1002 = .ok (.invokevirtual 122, 3) := by decide +kernel
theorem dL_law_1005 : decode cL_law 1005 = .ok (.bipush (-102), 2) := by decide +kernel
theorem dL_law_1007 : decode cL_law 1007 = .ok (.if_icmp .ne 49, 3) := by decide +kernel
theorem dL_law_1010 : decode cL_law 1010 = .ok (.aload_n 1, 1) := by decide +kernel
theorem dL_law_1011 : decode cL_law 1011 = .ok (.iconst 1, 1) := by decide +kernel
theorem dL_law_1012 : decode cL_law 1012 = .ok (.iconst (-1), 1) := by decide +kernel
theorem dL_law_1013 : decode cL_law 1013 = .ok (.iconst 0, 1) := by decide +kernel
theorem dL_law_1014 : decode cL_law 1014 = .ok (.invokevirtual 122, 3) := by decide +kernel
theorem dL_law_1017 : decode cL_law 1017 = .ok (.bipush (-102), 2) := by decide +kernel
theorem dL_law_1019 : decode cL_law 1019 = .ok (.if_icmp .ne 37, 3) := by decide +kernel
theorem dL_law_1022 : decode cL_law 1022 = .ok (.aload_n 1, 1) := by decide +kernel
theorem dL_law_1023 : decode cL_law 1023 = .ok (.iconst 1, 1) := by decide +kernel
theorem dL_law_1024 : decode cL_law 1024 = .ok (.iconst 0, 1) := by decide +kernel
theorem dL_law_1025 : decode cL_law 1025 = .ok (.iconst 4, 1) := by decide +kernel
theorem dL_law_1026 : decode cL_law 1026 = .ok (.invokevirtual 122, 3) := by decide +kernel
theorem dL_law_1029 : decode cL_law 1029 = .ok (.bipush (-102), 2) := by decide +kernel
theorem dL_law_1031 : decode cL_law 1031 = .ok (.if_icmp .ne 25, 3) := by decide +kernel
theorem dL_law_1034 : decode cL_law 1034 = .ok (.iload 7, 2) := by decide +kernel
theorem dL_law_1036 : decode cL_law 1036 = .ok (.bipush 6, 2) := by decide +kernel
theorem dL_law_1038 : decode cL_law 1038 = .ok (.if_icmp .lt 14, 3) := by decide +kernel
theorem dL_law_1041 : decode cL_law 1041 = .ok (.aload_n 1, 1) := by decide +kernel
theorem dL_law_1042 : decode cL_law 1042 = .ok (.iconst 0, 1) := by decide +kernel
theorem dL_law_1043 : decode cL_law 1043 = .ok (.iconst 0, 1) := by decide +kernel
theorem dL_law_1044 : decode cL_law 1044 = .ok (.invokevirtual 24, 3) := by decide +kernel
theorem dL_law_1047 : decode cL_law 1047 = .ok (.bipush (-104), 2) := by decide +kernel
theorem dL_law_1049 : decode cL_law 1049 = .ok (.if_icmp .ne 7, 3) := by decide +kernel
theorem dL_law_1052 : decode cL_law 1052 = .ok (.iconst 1, 1) := by decide +kernel
theorem dL_law_1053 : decode cL_law 1053 = .ok (.goto 4, 3) := by decide +kernel
theorem dL_law_1056 : decode cL_law 1056 = .ok (.iconst 0, 1) := by decide +kernel
theorem dL_law_1057 : decode cL_law 1057 = .ok (.ireturn, 1) := by decide +kernel
set_option maxRecDepth 20000 in
theorem ggL_smoke_L_air : GoodIn wsL_smoke wsL_air := goodIn_r _ [5, 1, 6, 7, 4, 8, 9, 10, 11, 12, 13, 14] (by decide +kernel) (by decide +kernel)
set_option maxRecDepth 20000 in
theorem gL_smoke_L_air : GoodIn wsL_smoke (va_wsS RL 44 yL_air wsL_air) := goodIn_app (goodIn_of _ (by decide +kernel)) ggL_smoke_L_air
set_option maxRecDepth 20000 in
theorem ggL_smoke_L_other : GoodIn wsL_smoke wsL_other := goodIn_r _ [17] (by decide +kernel) (by decide +kernel)
set_option maxRecDepth 20000 in
theorem gL_smoke_L_other : GoodIn wsL_smoke (va_wsS RL 97 yL_other wsL_other) := goodIn_app (goodIn_of _ (by decide +kernel)) ggL_smoke_L_other
set_option maxRecDepth 20000 in
theorem ggL_smoke_X10_smelt : GoodIn wsL_smoke wsX10_smelt := goodIn_r _ [22, 23, 24, 25, 26, 27, 28, 29, 30, 31, 32, 21, 33, 34, 35, 36, 37, 38, 39, 40, 41, 42, 43, 44, 45, 73, 74, 75, 76, 77, 78, 79, 80, 81, 82, 83, 84, 85, 86, 87, 88, 89, 90, 91, 92, 93, 94, 95, 96] (by decide +kernel) (by decide +kernel)
set_option maxRecDepth 20000 in
theorem gL_smoke_X10_smelt : GoodIn wsL_smoke (wsV RL 116 RX10 yX10_smelt wsX10_smelt) := goodIn_app (goodIn_of _ (by decide +kernel)) ggL_smoke_X10_smelt
set_option maxRecDepth 20000 in
theorem ggL_smoke_X10_wayOut : GoodIn wsL_smoke wsX10_wayOut := goodIn_r _ [49, 23, 50, 25, 26, 27, 28, 29, 30, 31, 32, 21, 33, 51, 52, 53, 54, 55, 56, 57, 58, 59, 60, 61, 62, 63, 64, 65, 41, 42, 43, 44, 45, 66, 67, 68, 69, 70, 71, 72, 73, 74, 75, 76, 77, 78, 79, 80, 81, 82, 83, 84, 85, 86, 87, 88, 89, 90, 91, 92, 93, 94, 97, 98, 99, 100, 96] (by decide +kernel) (by decide +kernel)
set_option maxRecDepth 20000 in
theorem gL_smoke_X10_wayOut : GoodIn wsL_smoke (wsV RL 119 RX10 yX10_wayOut wsX10_wayOut) := goodIn_app (goodIn_of _ (by decide +kernel)) ggL_smoke_X10_wayOut
theorem dL_smoke_0 : decode cL_smoke 0 = .ok (.aload_n 1, 1) := by decide +kernel
theorem dL_smoke_1 : decode cL_smoke 1 = .ok (.invokestatic 44, 3) := by decide +kernel
theorem dL_smoke_4 : decode cL_smoke 4 = .ok (.astore_n 3, 1) := by decide +kernel
theorem dL_smoke_5 : decode cL_smoke 5 = .ok (.bipush 7, 2) := by decide +kernel
theorem dL_smoke_7 : decode cL_smoke 7 = .ok (.newarray .int, 2) := by decide +kernel
theorem dL_smoke_9 : decode cL_smoke 9 = .ok (.astore 4, 2) := by decide +kernel
theorem dL_smoke_11 : decode cL_smoke 11 = .ok (.iconst 0, 1) := by decide +kernel
theorem dL_smoke_12 : decode cL_smoke 12 = .ok (.istore 5, 2) := by decide +kernel
theorem dL_smoke_14 : decode cL_smoke 14 = .ok (.iload 5, 2) := by decide +kernel
theorem dL_smoke_16 : decode cL_smoke 16 = .ok (.bipush 7, 2) := by decide +kernel
theorem dL_smoke_18 : decode cL_smoke 18 = .ok (.if_icmp .ge 25, 3) := by decide +kernel
theorem dL_smoke_21 : decode cL_smoke 21 = .ok (.aload 4, 2) := by decide +kernel
theorem dL_smoke_23 : decode cL_smoke 23 = .ok (.iload 5, 2) := by decide +kernel
theorem dL_smoke_25 : decode cL_smoke 25 = .ok (.iload 5, 2) := by decide +kernel
theorem dL_smoke_27 : decode cL_smoke 27 = .ok (.iload_n 2, 1) := by decide +kernel
theorem dL_smoke_28 : decode cL_smoke 28 = .ok (.if_icmp .ne 7, 3) := by decide +kernel
theorem dL_smoke_31 : decode cL_smoke 31 = .ok (.iconst 0, 1) := by decide +kernel
theorem dL_smoke_32 : decode cL_smoke 32 = .ok (.goto 4, 3) := by decide +kernel
theorem dL_smoke_35 : decode cL_smoke 35 = .ok (.iconst (-1), 1) := by decide +kernel
theorem dL_smoke_36 : decode cL_smoke 36 = .ok (.iastore, 1) := by decide +kernel
theorem dL_smoke_37 : decode cL_smoke 37 = .ok (.iinc 5 1, 3) := by decide +kernel
theorem dL_smoke_40 : decode cL_smoke 40 = .ok (.goto (-26), 3) := by decide +kernel
theorem dL_smoke_43 : decode cL_smoke 43 = .ok (.iconst 1, 1) := by decide +kernel
theorem dL_smoke_44 : decode cL_smoke 44 = .ok (.istore 5, 2) := by decide +kernel
theorem dL_smoke_46 : decode cL_smoke 46 = .ok (.iload 5, 2) := by decide +kernel
theorem dL_smoke_48 : decode cL_smoke 48 = .ok (.bipush 60, 2) := by decide +kernel
theorem dL_smoke_50 : decode cL_smoke 50 = .ok (.if_icmp .ge 102, 3) := by decide +kernel
theorem dL_smoke_53 : decode cL_smoke 53 = .ok (.iconst 0, 1) := by decide +kernel
theorem dL_smoke_54 : decode cL_smoke 54 = .ok (.istore 6, 2) := by decide +kernel
theorem dL_smoke_56 : decode cL_smoke 56 = .ok (.iload 6, 2) := by decide +kernel
theorem dL_smoke_58 : decode cL_smoke 58 = .ok (.aload_n 1, 1) := by decide +kernel
theorem dL_smoke_59 : decode cL_smoke 59 = .ok (.iconst 0, 1) := by decide +kernel
theorem dL_smoke_60 : decode cL_smoke 60 = .ok (.iaload, 1) := by decide +kernel
theorem dL_smoke_61 : decode cL_smoke 61 = .ok (.if_icmp .ge 85, 3) := by decide +kernel
theorem dL_smoke_64 : decode cL_smoke 64 = .ok (.aload_n 3, 1) := by decide +kernel
theorem dL_smoke_65 : decode cL_smoke 65 = .ok (.iload 6, 2) := by decide +kernel
theorem dL_smoke_67 : decode cL_smoke 67 = .ok (.iaload, 1) := by decide +kernel
theorem dL_smoke_68 : decode cL_smoke 68 = .ok (.ifCond .lt 72, 3) := by decide +kernel
theorem dL_smoke_71 : decode cL_smoke 71 = .ok (.aload 4, 2) := by decide +kernel
theorem dL_smoke_73 : decode cL_smoke 73 = .ok (.aload_n 3, 1) := by decide +kernel
theorem dL_smoke_74 : decode cL_smoke 74 = .ok (.iload 6, 2) := by decide +kernel
theorem dL_smoke_76 : decode cL_smoke 76 = .ok (.iaload, 1) := by decide +kernel
theorem dL_smoke_77 : decode cL_smoke 77 = .ok (.iaload, 1) := by decide +kernel
theorem dL_smoke_78 : decode cL_smoke 78 = .ok (.ifCond .lt 18, 3) := by decide +kernel
theorem dL_smoke_81 : decode cL_smoke 81 = .ok (.aload 4, 2) := by decide +kernel
theorem dL_smoke_83 : decode cL_smoke 83 = .ok (.aload_n 3, 1) := by decide +kernel
theorem dL_smoke_84 : decode cL_smoke 84 = .ok (.iload 6, 2) := by decide +kernel
theorem dL_smoke_86 : decode cL_smoke 86 = .ok (.iaload, 1) := by decide +kernel
theorem dL_smoke_87 : decode cL_smoke 87 = .ok (.iaload, 1) := by decide +kernel
theorem dL_smoke_88 : decode cL_smoke 88 = .ok (.iload 5, 2) := by decide +kernel
theorem dL_smoke_90 : decode cL_smoke 90 = .ok (.if_icmp .ge 6, 3) := by decide +kernel
theorem dL_smoke_93 : decode cL_smoke 93 = .ok (.goto 47, 3) := by decide +kernel
theorem dL_smoke_96 : decode cL_smoke 96 = .ok (.aload 4, 2) := by decide +kernel
theorem dL_smoke_98 : decode cL_smoke 98 = .ok (.aload_n 1, 1) := by decide +kernel
theorem dL_smoke_99 : decode cL_smoke 99 = .ok (.iload 6, 2) := by decide +kernel
theorem dL_smoke_101 : decode cL_smoke 101 = .ok (.aload_n 3, 1) := by decide +kernel
theorem dL_smoke_102 : decode cL_smoke 102 = .ok (.iload 6, 2) := by decide +kernel
theorem dL_smoke_104 : decode cL_smoke 104 = .ok (.iaload, 1) := by decide +kernel
theorem dL_smoke_105 : decode cL_smoke 105 = .ok (.invokestatic 97, 3) := by decide +kernel
theorem dL_smoke_108 : decode cL_smoke 108 = .ok (.iaload, 1) := by decide +kernel
theorem dL_smoke_109 : decode cL_smoke 109 = .ok (.istore 7, 2) := by decide +kernel
theorem dL_smoke_111 : decode cL_smoke 111 = .ok (.iload 7, 2) := by decide +kernel
theorem dL_smoke_113 : decode cL_smoke 113 = .ok (.ifCond .lt 27, 3) := by decide +kernel
theorem dL_smoke_116 : decode cL_smoke 116 = .ok (.iload 7, 2) := by decide +kernel
theorem dL_smoke_118 : decode cL_smoke 118 = .ok (.aload_n 1, 1) := by decide +kernel
theorem dL_smoke_119 : decode cL_smoke 119 = .ok (.bipush 21, 2) := by decide +kernel
theorem dL_smoke_121 : decode cL_smoke 121 = .ok (.iload 6, 2) := by decide +kernel
theorem dL_smoke_123 : decode cL_smoke 123 = .ok (.iadd, 1) := by decide +kernel
theorem dL_smoke_124 : decode cL_smoke 124 = .ok (.iaload, 1) := by decide +kernel
theorem dL_smoke_125 : decode cL_smoke 125 = .ok (.iadd, 1) := by decide +kernel
theorem dL_smoke_126 : decode cL_smoke 126 = .ok (.iload 5, 2) := by decide +kernel
theorem dL_smoke_128 : decode cL_smoke 128 = .ok (.if_icmp .ne 12, 3) := by decide +kernel
theorem dL_smoke_131 : decode cL_smoke 131 = .ok (.aload 4, 2) := by decide +kernel
theorem dL_smoke_133 : decode cL_smoke 133 = .ok (.aload_n 3, 1) := by decide +kernel
theorem dL_smoke_134 : decode cL_smoke 134 = .ok (.iload 6, 2) := by decide +kernel
theorem dL_smoke_136 : decode cL_smoke 136 = .ok (.iaload, 1) := by decide +kernel
theorem dL_smoke_137 : decode cL_smoke 137 = .ok (.iload 5, 2) := by decide +kernel
theorem dL_smoke_139 : decode cL_smoke 139 = .ok (.iastore, 1) := by decide +kernel
theorem dL_smoke_140 : decode cL_smoke 140 = .ok (.iinc 6 1, 3) := by decide +kernel
theorem dL_smoke_143 : decode cL_smoke 143 = .ok (.goto (-87), 3) := by decide +kernel
theorem dL_smoke_146 : decode cL_smoke 146 = .ok (.iinc 5 1, 3) := by decide +kernel
theorem dL_smoke_149 : decode cL_smoke 149 = .ok (.goto (-103), 3) := by decide +kernel
theorem dL_smoke_152 : decode cL_smoke 152 = .ok (.iconst 0, 1) := by decide +kernel
theorem dL_smoke_153 : decode cL_smoke 153 = .ok (.istore 5, 2) := by decide +kernel
theorem dL_smoke_155 : decode cL_smoke 155 = .ok (.iload 5, 2) := by decide +kernel
theorem dL_smoke_157 : decode cL_smoke 157 = .ok (.bipush 7, 2) := by decide +kernel
theorem dL_smoke_159 : decode cL_smoke 159 = .ok (.if_icmp .ge 120, 3) := by decide +kernel
theorem dL_smoke_162 : decode cL_smoke 162 = .ok (.aload_n 0, 1) := by decide +kernel
theorem dL_smoke_163 : decode cL_smoke 163 = .ok (.iload_n 2, 1) := by decide +kernel
theorem dL_smoke_164 : decode cL_smoke 164 = .ok (.iload 5, 2) := by decide +kernel
theorem dL_smoke_166 : decode cL_smoke 166 = .ok (.invokevirtual 116, 3) := by decide +kernel
theorem dL_smoke_169 : decode cL_smoke 169 = .ok (.aload 4, 2) := by decide +kernel
theorem dL_smoke_171 : decode cL_smoke 171 = .ok (.iload 5, 2) := by decide +kernel
theorem dL_smoke_173 : decode cL_smoke 173 = .ok (.iaload, 1) := by decide +kernel
theorem dL_smoke_174 : decode cL_smoke 174 = .ok (.if_icmp .eq 5, 3) := by decide +kernel
theorem dL_smoke_177 : decode cL_smoke 177 = .ok (.iconst 0, 1) := by decide +kernel
theorem dL_smoke_178 : decode cL_smoke 178 = .ok (.ireturn, 1) := by decide +kernel
theorem dL_smoke_179 : decode cL_smoke 179 = .ok (.iload 5, 2) := by decide +kernel
theorem dL_smoke_181 : decode cL_smoke 181 = .ok (.istore 6, 2) := by decide +kernel
theorem dL_smoke_183 : decode cL_smoke 183 = .ok (.iconst 0, 1) := by decide +kernel
theorem dL_smoke_184 : decode cL_smoke 184 = .ok (.istore 7, 2) := by decide +kernel
theorem dL_smoke_186 : decode cL_smoke 186 = .ok (.iload 6, 2) := by decide +kernel
theorem dL_smoke_188 : decode cL_smoke 188 = .ok (.ifCond .lt 63, 3) := by decide +kernel
theorem dL_smoke_191 : decode cL_smoke 191 = .ok (.aload_n 1, 1) := by decide +kernel
theorem dL_smoke_192 : decode cL_smoke 192 = .ok (.bipush 52, 2) := by decide +kernel
theorem dL_smoke_194 : decode cL_smoke 194 = .ok (.iload 6, 2) := by decide +kernel
theorem dL_smoke_196 : decode cL_smoke 196 = .ok (.iadd, 1) := by decide +kernel
theorem dL_smoke_197 : decode cL_smoke 197 = .ok (.iaload, 1) := by decide +kernel
theorem dL_smoke_198 : decode cL_smoke 198 = .ok (.ifCond .ne 53, 3) := by decide +kernel
theorem dL_smoke_201 : decode cL_smoke 201 = .ok (.iconst (-1), 1) := by decide +kernel
theorem dL_smoke_202 : decode cL_smoke 202 = .ok (.istore 8, 2) := by decide +kernel
theorem dL_smoke_204 : decode cL_smoke 204 = .ok (.aload_n 1, 1) := by decide +kernel
theorem dL_smoke_205 : decode cL_smoke 205 = .ok (.iconst 0, 1) := by decide +kernel
theorem dL_smoke_206 : decode cL_smoke 206 = .ok (.iaload, 1) := by decide +kernel
theorem dL_smoke_207 : decode cL_smoke 207 = .ok (.iconst 1, 1) := by decide +kernel
theorem dL_smoke_208 : decode cL_smoke 208 = .ok (.isub, 1) := by decide +kernel
theorem dL_smoke_209 : decode cL_smoke 209 = .ok (.istore 9, 2) := by decide +kernel
theorem dL_smoke_211 : decode cL_smoke 211 = .ok (.iload 9, 2) := by decide +kernel
theorem dL_smoke_213 : decode cL_smoke 213 = .ok (.ifCond .lt 28, 3) := by decide +kernel
theorem dL_smoke_216 : decode cL_smoke 216 = .ok (.aload_n 3, 1) := by decide +kernel
theorem dL_smoke_217 : decode cL_smoke 217 = .ok (.iload 9, 2) := by decide +kernel
theorem dL_smoke_219 : decode cL_smoke 219 = .ok (.iaload, 1) := by decide +kernel
theorem dL_smoke_220 : decode cL_smoke 220 = .ok (.iload 6, 2) := by decide +kernel
theorem dL_smoke_222 : decode cL_smoke 222 = .ok (.if_icmp .ne 13, 3) := by decide +kernel
theorem dL_smoke_225 : decode cL_smoke 225 = .ok (.aload_n 1, 1) := by decide +kernel
theorem dL_smoke_226 : decode cL_smoke 226 = .ok (.iload 9, 2) := by decide +kernel
theorem dL_smoke_228 : decode cL_smoke 228 = .ok (.iload 6, 2) := by decide +kernel
theorem dL_smoke_230 : decode cL_smoke 230 = .ok (.invokestatic 97, 3) := by decide +kernel
theorem dL_smoke_233 : decode cL_smoke 233 = .ok (.istore 8, 2) := by decide +kernel
theorem dL_smoke_235 : decode cL_smoke 235 = .ok (.iinc 9 (-1), 3) := by decide +kernel
theorem dL_smoke_238 : decode cL_smoke 238 = .ok (.goto (-27), 3) := by decide +kernel
theorem dL_smoke_241 : decode cL_smoke 241 = .ok (.iload 8, 2) := by decide +kernel
theorem dL_smoke_243 : decode cL_smoke 243 = .ok (.istore 6, 2) := by decide +kernel
theorem dL_smoke_245 : decode cL_smoke 245 = .ok (.iinc 7 1, 3) := by decide +kernel
theorem dL_smoke_248 : decode cL_smoke 248 = .ok (.goto (-62), 3) := by decide +kernel
theorem dL_smoke_251 : decode cL_smoke 251 = .ok (.aload_n 0, 1) := by decide +kernel
theorem dL_smoke_252 : decode cL_smoke 252 = .ok (.iload 5, 2) := by decide +kernel
theorem dL_smoke_254 : decode cL_smoke 254 = .ok (.invokevirtual 119, 3) := by decide +kernel
theorem dL_smoke_257 : decode cL_smoke 257 = .ok (.iload 6, 2) := by decide +kernel
theorem dL_smoke_259 : decode cL_smoke 259 = .ok (.ifCond .ge 7, 3) := by decide +kernel
theorem dL_smoke_262 : decode cL_smoke 262 = .ok (.iconst (-1), 1) := by decide +kernel
theorem dL_smoke_263 : decode cL_smoke 263 = .ok (.goto 5, 3) := by decide +kernel
theorem dL_smoke_266 : decode cL_smoke 266 = .ok (.iload 7, 2) := by decide +kernel
theorem dL_smoke_268 : decode cL_smoke 268 = .ok (.if_icmp .eq 5, 3) := by decide +kernel
theorem dL_smoke_271 : decode cL_smoke 271 = .ok (.iconst 0, 1) := by decide +kernel
theorem dL_smoke_272 : decode cL_smoke 272 = .ok (.ireturn, 1) := by decide +kernel
theorem dL_smoke_273 : decode cL_smoke 273 = .ok (.iinc 5 1, 3) := by decide +kernel
theorem dL_smoke_276 : decode cL_smoke 276 = .ok (.goto (-121), 3) := by decide +kernel
theorem dL_smoke_279 : decode cL_smoke 279 = .ok (.iconst 1, 1) := by decide +kernel
theorem dL_smoke_280 : decode cL_smoke 280 = .ok (.ireturn, 1) := by decide +kernel
set_option maxRecDepth 20000 in
theorem ggL_walks_L_air : GoodIn wsL_walks wsL_air := goodIn_r _ [9, 1, 10, 11, 8, 12, 13, 14, 15, 16, 17, 18] (by decide +kernel) (by decide +kernel)
set_option maxRecDepth 20000 in
theorem gL_walks_L_air : GoodIn wsL_walks (va_wsS RL 44 yL_air wsL_air) := goodIn_app (goodIn_of _ (by decide +kernel)) ggL_walks_L_air
set_option maxRecDepth 20000 in
theorem ggL_walks_L_other : GoodIn wsL_walks wsL_other := goodIn_r _ [21] (by decide +kernel) (by decide +kernel)
set_option maxRecDepth 20000 in
theorem gL_walks_L_other : GoodIn wsL_walks (va_wsS RL 97 yL_other wsL_other) := goodIn_app (goodIn_of _ (by decide +kernel)) ggL_walks_L_other
set_option maxRecDepth 20000 in
theorem ggL_walks_L_minute : GoodIn wsL_walks wsL_minute := goodIn_r _ [24, 25, 26, 8, 27, 28, 29, 30] (by decide +kernel) (by decide +kernel)
set_option maxRecDepth 20000 in
theorem gL_walks_L_minute : GoodIn wsL_walks (va_wsS RL 104 yL_minute wsL_minute) := goodIn_app (goodIn_of _ (by decide +kernel)) ggL_walks_L_minute
set_option maxRecDepth 20000 in
theorem ggL_walks_X10_walks : GoodIn wsL_walks wsX10_walks := goodIn_r _ [35, 36, 37, 38, 39, 40, 41, 42, 43, 44, 45, 46, 47, 48, 49, 50, 51, 52, 53, 54, 55, 56, 57, 58, 59, 60, 61, 62, 63, 64, 65, 66, 67, 68, 69, 70, 71, 72, 73, 74, 75, 76, 34, 77, 78, 79, 80, 81, 82, 83, 84, 85, 86, 87, 88, 89, 90, 91, 92, 93, 94, 95, 96, 97, 98, 99, 100, 101, 102, 103, 104, 105, 106, 107, 108, 109, 110, 111, 112, 113, 114, 115, 116, 117, 118, 119, 120, 121, 122, 123, 124, 125, 126, 127, 128, 129, 130, 131, 132, 133, 134, 135, 136, 137, 138, 139, 140, 141, 142, 143, 144, 145, 146, 147, 148, 149, 150, 151, 152, 153, 154, 155, 156, 157, 158, 159, 160, 161, 162, 163, 164, 165, 166, 167, 168, 169, 170, 171, 172, 173, 174, 175, 176, 177, 178, 179, 180, 181, 182, 183, 184, 185, 186, 187, 188, 189] (by decide +kernel) (by decide +kernel)
set_option maxRecDepth 20000 in
theorem gL_walks_X10_walks : GoodIn wsL_walks (wsV RL 122 RX10 yX10_walks wsX10_walks) := goodIn_app (goodIn_of _ (by decide +kernel)) ggL_walks_X10_walks
theorem dL_walks_0 : decode cL_walks 0 = .ok (.bipush 22, 2) := by decide +kernel
theorem dL_walks_2 : decode cL_walks 2 = .ok (.newarray .int, 2) := by decide +kernel
theorem dL_walks_4 : decode cL_walks 4 = .ok (.astore 5, 2) := by decide +kernel
theorem dL_walks_6 : decode cL_walks 6 = .ok (.iconst 0, 1) := by decide +kernel
theorem dL_walks_7 : decode cL_walks 7 = .ok (.istore 6, 2) := by decide +kernel
theorem dL_walks_9 : decode cL_walks 9 = .ok (.iload 6, 2) := by decide +kernel
theorem dL_walks_11 : decode cL_walks 11 = .ok (.bipush 22, 2) := by decide +kernel
theorem dL_walks_13 : decode cL_walks 13 = .ok (.if_icmp .ge 18, 3) := by decide +kernel
theorem dL_walks_16 : decode cL_walks 16 = .ok (.aload 5, 2) := by decide +kernel
theorem dL_walks_18 : decode cL_walks 18 = .ok (.iload 6, 2) := by decide +kernel
theorem dL_walks_20 : decode cL_walks 20 = .ok (.aload_n 2, 1) := by decide +kernel
theorem dL_walks_21 : decode cL_walks 21 = .ok (.iload 6, 2) := by decide +kernel
theorem dL_walks_23 : decode cL_walks 23 = .ok (.iaload, 1) := by decide +kernel
theorem dL_walks_24 : decode cL_walks 24 = .ok (.iastore, 1) := by decide +kernel
theorem dL_walks_25 : decode cL_walks 25 = .ok (.iinc 6 1, 3) := by decide +kernel
theorem dL_walks_28 : decode cL_walks 28 = .ok (.goto (-19), 3) := by decide +kernel
theorem dL_walks_31 : decode cL_walks 31 = .ok (.aload_n 1, 1) := by decide +kernel
theorem dL_walks_32 : decode cL_walks 32 = .ok (.invokestatic 44, 3) := by decide +kernel
theorem dL_walks_35 : decode cL_walks 35 = .ok (.astore 6, 2) := by decide +kernel
theorem dL_walks_37 : decode cL_walks 37 = .ok (.iload 4, 2) := by decide +kernel
theorem dL_walks_39 : decode cL_walks 39 = .ok (.i2l, 1) := by decide +kernel
theorem dL_walks_40 : decode cL_walks 40 = .ok (.lstore 7, 2) := by decide +kernel
theorem dL_walks_42 : decode cL_walks 42 = .ok (.iconst 0, 1) := by decide +kernel
theorem dL_walks_43 : decode cL_walks 43 = .ok (.istore 9, 2) := by decide +kernel
theorem dL_walks_45 : decode cL_walks 45 = .ok (.iload 9, 2) := by decide +kernel
theorem dL_walks_47 : decode cL_walks 47 = .ok (.iload_n 3, 1) := by decide +kernel
theorem dL_walks_48 : decode cL_walks 48 = .ok (.if_icmp .ge 266, 3) := by decide +kernel
theorem dL_walks_51 : decode cL_walks 51 = .ok (.aload 5, 2) := by decide +kernel
theorem dL_walks_53 : decode cL_walks 53 = .ok (.bipush 20, 2) := by decide +kernel
theorem dL_walks_55 : decode cL_walks 55 = .ok (.iaload, 1) := by decide +kernel
theorem dL_walks_56 : decode cL_walks 56 = .ok (.ifCond .le 243, 3) := by decide +kernel
theorem dL_walks_59 : decode cL_walks 59 = .ok (.lload 7, 2) := by decide +kernel
theorem dL_walks_61 : decode cL_walks 61 = .ok (.ldc2_w 125, 3) := by decide +kernel
theorem dL_walks_64 : decode cL_walks 64 = .ok (.lmul, 1) := by decide +kernel
theorem dL_walks_65 : decode cL_walks 65 = .ok (.ldc2_w 127, 3) := by decide +kernel
theorem dL_walks_68 : decode cL_walks 68 = .ok (.ladd, 1) := by decide +kernel
theorem dL_walks_69 : decode cL_walks 69 = .ok (.ldc2_w 129, 3) := by decide +kernel
theorem dL_walks_72 : decode cL_walks 72 = .ok (.lrem, 1) := by decide +kernel
theorem dL_walks_73 : decode cL_walks 73 = .ok (.lstore 7, 2) := by decide +kernel
theorem dL_walks_75 : decode cL_walks 75 = .ok (.lload 7, 2) := by decide +kernel
theorem dL_walks_77 : decode cL_walks 77 = .ok (.ldc2_w 131, 3) := by decide +kernel
theorem dL_walks_80 : decode cL_walks 80 = .ok (.ldiv, 1) := by decide +kernel
theorem dL_walks_81 : decode cL_walks 81 = .ok (.aload 5, 2) := by decide +kernel
theorem dL_walks_83 : decode cL_walks 83 = .ok (.bipush 20, 2) := by decide +kernel
theorem dL_walks_85 : decode cL_walks 85 = .ok (.iaload, 1) := by decide +kernel
theorem dL_walks_86 : decode cL_walks 86 = .ok (.i2l, 1) := by decide +kernel
theorem dL_walks_87 : decode cL_walks 87 = .ok (.lrem, 1) := by decide +kernel
theorem dL_walks_88 : decode cL_walks 88 = .ok (.l2i, 1) := by decide +kernel
theorem dL_walks_89 : decode cL_walks 89 = .ok (.istore 10, 2) := by decide +kernel
theorem dL_walks_91 : decode cL_walks 91 = .ok (.iconst 0, 1) := by decide +kernel
theorem dL_walks_92 : decode cL_walks 92 = .ok (.istore 11, 2) := by decide +kernel
theorem dL_walks_94 : decode cL_walks 94 = .ok (.iconst 0, 1) := by decide +kernel
theorem dL_walks_95 : decode cL_walks 95 = .ok (.istore 12, 2) := by decide +kernel
theorem dL_walks_97 : decode cL_walks 97 = .ok (.iload 12, 2) := by decide +kernel
theorem dL_walks_99 : decode cL_walks 99 = .ok (.aload_n 1, 1) := by decide +kernel
theorem dL_walks_100 : decode cL_walks 100 = .ok (.iconst 0, 1) := by decide +kernel
theorem dL_walks_101 : decode cL_walks 101 = .ok (.iaload, 1) := by decide +kernel
theorem dL_walks_102 : decode cL_walks 102 = .ok (.if_icmp .ge 65, 3) := by decide +kernel
theorem dL_walks_105 : decode cL_walks 105 = .ok (.iload 11, 2) := by decide +kernel
theorem dL_walks_107 : decode cL_walks 107 = .ok (.aload_n 1, 1) := by decide +kernel
theorem dL_walks_108 : decode cL_walks 108 = .ok (.bipush 41, 2) := by decide +kernel
theorem dL_walks_110 : decode cL_walks 110 = .ok (.iload 12, 2) := by decide +kernel
theorem dL_walks_112 : decode cL_walks 112 = .ok (.iadd, 1) := by decide +kernel
theorem dL_walks_113 : decode cL_walks 113 = .ok (.iaload, 1) := by decide +kernel
theorem dL_walks_114 : decode cL_walks 114 = .ok (.iconst 1, 1) := by decide +kernel
theorem dL_walks_115 : decode cL_walks 115 = .ok (.if_icmp .ne 42, 3) := by decide +kernel
theorem dL_walks_118 : decode cL_walks 118 = .ok (.aload_n 1, 1) := by decide +kernel
theorem dL_walks_119 : decode cL_walks 119 = .ok (.iconst 1, 1) := by decide +kernel
theorem dL_walks_120 : decode cL_walks 120 = .ok (.iload 12, 2) := by decide +kernel
theorem dL_walks_122 : decode cL_walks 122 = .ok (.iadd, 1) := by decide +kernel
theorem dL_walks_123 : decode cL_walks 123 = .ok (.iaload, 1) := by decide +kernel
theorem dL_walks_124 : decode cL_walks 124 = .ok (.aload 5, 2) := by decide +kernel
theorem dL_walks_126 : decode cL_walks 126 = .ok (.bipush 13, 2) := by decide +kernel
theorem dL_walks_128 : decode cL_walks 128 = .ok (.iload 10, 2) := by decide +kernel
theorem dL_walks_130 : decode cL_walks 130 = .ok (.iadd, 1) := by decide +kernel
theorem dL_walks_131 : decode cL_walks 131 = .ok (.iaload, 1) := by decide +kernel
theorem dL_walks_132 : decode cL_walks 132 = .ok (.if_icmp .eq 21, 3) := by decide +kernel
theorem dL_walks_135 : decode cL_walks 135 = .ok (.aload_n 1, 1) := by decide +kernel
theorem dL_walks_136 : decode cL_walks 136 = .ok (.bipush 11, 2) := by decide +kernel
theorem dL_walks_138 : decode cL_walks 138 = .ok (.iload 12, 2) := by decide +kernel
theorem dL_walks_140 : decode cL_walks 140 = .ok (.iadd, 1) := by decide +kernel
theorem dL_walks_141 : decode cL_walks 141 = .ok (.iaload, 1) := by decide +kernel
theorem dL_walks_142 : decode cL_walks 142 = .ok (.aload 5, 2) := by decide +kernel
theorem dL_walks_144 : decode cL_walks 144 = .ok (.bipush 13, 2) := by decide +kernel
theorem dL_walks_146 : decode cL_walks 146 = .ok (.iload 10, 2) := by decide +kernel
theorem dL_walks_148 : decode cL_walks 148 = .ok (.iadd, 1) := by decide +kernel
theorem dL_walks_149 : decode cL_walks 149 = .ok (.iaload, 1) := by decide +kernel
theorem dL_walks_150 : decode cL_walks 150 = .ok (.if_icmp .ne 7, 3) := by decide +kernel
theorem dL_walks_153 : decode cL_walks 153 = .ok (.iconst 1, 1) := by decide +kernel
theorem dL_walks_154 : decode cL_walks 154 = .ok (.goto 4, 3) := by decide +kernel
theorem dL_walks_157 : decode cL_walks 157 = .ok (.iconst 0, 1) := by decide +kernel
theorem dL_walks_158 : decode cL_walks 158 = .ok (.iadd, 1) := by decide +kernel
theorem dL_walks_159 : decode cL_walks 159 = .ok (.istore 11, 2) := by decide +kernel
theorem dL_walks_161 : decode cL_walks 161 = .ok (.iinc 12 1, 3) := by decide +kernel
theorem dL_walks_164 : decode cL_walks 164 = .ok (.goto (-67), 3) := by decide +kernel
theorem dL_walks_167 : decode cL_walks 167 = .ok (.aload 5, 2) := by decide +kernel
theorem dL_walks_169 : decode cL_walks 169 = .ok (.bipush 19, 2) := by decide +kernel
theorem dL_walks_171 : decode cL_walks 171 = .ok (.iaload, 1) := by decide +kernel
theorem dL_walks_172 : decode cL_walks 172 = .ok (.iload 10, 2) := by decide +kernel
theorem dL_walks_174 : decode cL_walks 174 = .ok (.ishr, 1) := by decide +kernel
theorem dL_walks_175 : decode cL_walks 175 = .ok (.iconst 1, 1) := by decide +kernel
theorem dL_walks_176 : decode cL_walks 176 = .ok (.iand, 1) := by decide +kernel
theorem dL_walks_177 : decode cL_walks 177 = .ok (.ifCond .ne 122, 3) := by decide +kernel
theorem dL_walks_180 : decode cL_walks 180 = .ok (.iload 11, 2) := by decide +kernel
theorem dL_walks_182 : decode cL_walks 182 = .ok (.ifCond .le 117, 3) := by decide +kernel
theorem dL_walks_185 : decode cL_walks 185 = .ok (.lload 7, 2) := by decide +kernel
theorem dL_walks_187 : decode cL_walks 187 = .ok (.ldc2_w 125, 3) := by decide +kernel
theorem dL_walks_190 : decode cL_walks 190 = .ok (.lmul, 1) := by decide +kernel
theorem dL_walks_191 : decode cL_walks 191 = .ok (.ldc2_w 127, 3) := by decide +kernel
theorem dL_walks_194 : decode cL_walks 194 = .ok (.ladd, 1) := by decide +kernel
theorem dL_walks_195 : decode cL_walks 195 = .ok (.ldc2_w 129, 3) := by decide +kernel
theorem dL_walks_198 : decode cL_walks 198 = .ok (.lrem, 1) := by decide +kernel
theorem dL_walks_199 : decode cL_walks 199 = .ok (.lstore 7, 2) := by decide +kernel
theorem dL_walks_201 : decode cL_walks 201 = .ok (.lload 7, 2) := by decide +kernel
theorem dL_walks_203 : decode cL_walks 203 = .ok (.ldc2_w 131, 3) := by decide +kernel
theorem dL_walks_206 : decode cL_walks 206 = .ok (.ldiv, 1) := by decide +kernel
theorem dL_walks_207 : decode cL_walks 207 = .ok (.iload 11, 2) := by decide +kernel
theorem dL_walks_209 : decode cL_walks 209 = .ok (.i2l, 1) := by decide +kernel
theorem dL_walks_210 : decode cL_walks 210 = .ok (.lrem, 1) := by decide +kernel
theorem dL_walks_211 : decode cL_walks 211 = .ok (.l2i, 1) := by decide +kernel
theorem dL_walks_212 : decode cL_walks 212 = .ok (.istore 12, 2) := by decide +kernel
theorem dL_walks_214 : decode cL_walks 214 = .ok (.aload 5, 2) := by decide +kernel
theorem dL_walks_216 : decode cL_walks 216 = .ok (.bipush 13, 2) := by decide +kernel
theorem dL_walks_218 : decode cL_walks 218 = .ok (.iload 10, 2) := by decide +kernel
theorem dL_walks_220 : decode cL_walks 220 = .ok (.iadd, 1) := by decide +kernel
theorem dL_walks_221 : decode cL_walks 221 = .ok (.iaload, 1) := by decide +kernel
theorem dL_walks_222 : decode cL_walks 222 = .ok (.istore 13, 2) := by decide +kernel
theorem dL_walks_224 : decode cL_walks 224 = .ok (.iconst 0, 1) := by decide +kernel
theorem dL_walks_225 : decode cL_walks 225 = .ok (.istore 14, 2) := by decide +kernel
theorem dL_walks_227 : decode cL_walks 227 = .ok (.iload 14, 2) := by decide +kernel
theorem dL_walks_229 : decode cL_walks 229 = .ok (.aload_n 1, 1) := by decide +kernel
theorem dL_walks_230 : decode cL_walks 230 = .ok (.iconst 0, 1) := by decide +kernel
theorem dL_walks_231 : decode cL_walks 231 = .ok (.iaload, 1) := by decide +kernel
theorem dL_walks_232 : decode cL_walks 232 = .ok (.if_icmp .ge 67, 3) := by decide +kernel
theorem dL_walks_235 : decode cL_walks 235 = .ok (.aload_n 1, 1) := by decide +kernel
theorem dL_walks_236 : decode cL_walks 236 = .ok (.bipush 41, 2) := by decide +kernel
theorem dL_walks_238 : decode cL_walks 238 = .ok (.iload 14, 2) := by decide +kernel
theorem dL_walks_240 : decode cL_walks 240 = .ok (.iadd, 1) := by decide +kernel
theorem dL_walks_241 : decode cL_walks 241 = .ok (.iaload, 1) := by decide +kernel
theorem dL_walks_242 : decode cL_walks 242 = .ok (.iconst 1, 1) := by decide +kernel
theorem dL_walks_243 : decode cL_walks 243 = .ok (.if_icmp .ne 50, 3) := by decide +kernel
theorem dL_walks_246 : decode cL_walks 246 = .ok (.aload_n 1, 1) := by decide +kernel
theorem dL_walks_247 : decode cL_walks 247 = .ok (.iconst 1, 1) := by decide +kernel
theorem dL_walks_248 : decode cL_walks 248 = .ok (.iload 14, 2) := by decide +kernel
theorem dL_walks_250 : decode cL_walks 250 = .ok (.iadd, 1) := by decide +kernel
theorem dL_walks_251 : decode cL_walks 251 = .ok (.iaload, 1) := by decide +kernel
theorem dL_walks_252 : decode cL_walks 252 = .ok (.iload 13, 2) := by decide +kernel
theorem dL_walks_254 : decode cL_walks 254 = .ok (.if_icmp .eq 15, 3) := by decide +kernel
theorem dL_walks_257 : decode cL_walks 257 = .ok (.aload_n 1, 1) := by decide +kernel
theorem dL_walks_258 : decode cL_walks 258 = .ok (.bipush 11, 2) := by decide +kernel
theorem dL_walks_260 : decode cL_walks 260 = .ok (.iload 14, 2) := by decide +kernel
theorem dL_walks_262 : decode cL_walks 262 = .ok (.iadd, 1) := by decide +kernel
theorem dL_walks_263 : decode cL_walks 263 = .ok (.iaload, 1) := by decide +kernel
theorem dL_walks_264 : decode cL_walks 264 = .ok (.iload 13, 2) := by decide +kernel
theorem dL_walks_266 : decode cL_walks 266 = .ok (.if_icmp .ne 27, 3) := by decide +kernel
theorem dL_walks_269 : decode cL_walks 269 = .ok (.iload 12, 2) := by decide +kernel
theorem dL_walks_271 : decode cL_walks 271 = .ok (.iinc 12 (-1), 3) := by decide +kernel
theorem dL_walks_274 : decode cL_walks 274 = .ok (.ifCond .ne 19, 3) := by decide +kernel
theorem dL_walks_277 : decode cL_walks 277 = .ok (.aload 5, 2) := by decide +kernel
theorem dL_walks_279 : decode cL_walks 279 = .ok (.bipush 13, 2) := by decide +kernel
theorem dL_walks_281 : decode cL_walks 281 = .ok (.iload 10, 2) := by decide +kernel
theorem dL_walks_283 : decode cL_walks 283 = .ok (.iadd, 1) := by decide +kernel
theorem dL_walks_284 : decode cL_walks 284 = .ok (.aload_n 1, 1) := by decide +kernel
theorem dL_walks_285 : decode cL_walks 285 = .ok (.iload 14, 2) := by decide +kernel
theorem dL_walks_287 : decode cL_walks 287 = .ok (.iload 13, 2) := by decide +kernel
theorem dL_walks_289 : decode cL_walks 289 = .ok (.invokestatic 97, 3) := by decide +kernel
theorem dL_walks_292 : decode cL_walks 292 = .ok (.iastore, 1) := by decide +kernel
theorem dL_walks_293 : decode cL_walks 293 = .ok (.iinc 14 1, 3) := by decide +kernel
theorem dL_walks_296 : decode cL_walks 296 = .ok (.goto (-69), 3) := by decide +kernel
theorem dL_walks_299 : decode cL_walks 299 = .ok (.aload_n 1, 1) := by decide +kernel
theorem dL_walks_300 : decode cL_walks 300 = .ok (.aload 6, 2) := by decide +kernel
theorem dL_walks_302 : decode cL_walks 302 = .ok (.aload 5, 2) := by decide +kernel
theorem dL_walks_304 : decode cL_walks 304 = .ok (.invokestatic 104, 3) := by decide +kernel
theorem dL_walks_307 : decode cL_walks 307 = .ok (.pop, 1) := by decide +kernel
theorem dL_walks_308 : decode cL_walks 308 = .ok (.iinc 9 1, 3) := by decide +kernel
theorem dL_walks_311 : decode cL_walks 311 = .ok (.goto (-266), 3) := by decide +kernel
theorem dL_walks_314 : decode cL_walks 314 = .ok (.iconst 0, 1) := by decide +kernel
theorem dL_walks_315 : decode cL_walks 315 = .ok (.istore 9, 2) := by decide +kernel
theorem dL_walks_317 : decode cL_walks 317 = .ok (.iconst 0, 1) := by decide +kernel
theorem dL_walks_318 : decode cL_walks 318 = .ok (.istore 10, 2) := by decide +kernel
theorem dL_walks_320 : decode cL_walks 320 = .ok (.iconst 0, 1) := by decide +kernel
theorem dL_walks_321 : decode cL_walks 321 = .ok (.istore 11, 2) := by decide +kernel
theorem dL_walks_323 : decode cL_walks 323 = .ok (.iload 11, 2) := by decide +kernel
theorem dL_walks_325 : decode cL_walks 325 = .ok (.bipush 7, 2) := by decide +kernel
theorem dL_walks_327 : decode cL_walks 327 = .ok (.if_icmp .ge 34, 3) := by decide +kernel
theorem dL_walks_330 : decode cL_walks 330 = .ok (.iload 9, 2) := by decide +kernel
theorem dL_walks_332 : decode cL_walks 332 = .ok (.aload 5, 2) := by decide +kernel
theorem dL_walks_334 : decode cL_walks 334 = .ok (.bipush 19, 2) := by decide +kernel
theorem dL_walks_336 : decode cL_walks 336 = .ok (.iaload, 1) := by decide +kernel
theorem dL_walks_337 : decode cL_walks 337 = .ok (.iload 11, 2) := by decide +kernel
theorem dL_walks_339 : decode cL_walks 339 = .ok (.ishr, 1) := by decide +kernel
theorem dL_walks_340 : decode cL_walks 340 = .ok (.iconst 1, 1) := by decide +kernel
theorem dL_walks_341 : decode cL_walks 341 = .ok (.iand, 1) := by decide +kernel
theorem dL_walks_342 : decode cL_walks 342 = .ok (.iadd, 1) := by decide +kernel
theorem dL_walks_343 : decode cL_walks 343 = .ok (.istore 9, 2) := by decide +kernel
theorem dL_walks_345 : decode cL_walks 345 = .ok (.iload 10, 2) := by decide +kernel
theorem dL_walks_347 : decode cL_walks 347 = .ok (.aload 5, 2) := by decide +kernel
theorem dL_walks_349 : decode cL_walks 349 = .ok (.iload 11, 2) := by decide +kernel
theorem dL_walks_351 : decode cL_walks 351 = .ok (.iaload, 1) := by decide +kernel
theorem dL_walks_352 : decode cL_walks 352 = .ok (.iadd, 1) := by decide +kernel
theorem dL_walks_353 : decode cL_walks 353 = .ok (.istore 10, 2) := by decide +kernel
theorem dL_walks_355 : decode cL_walks 355 = .ok (.iinc 11 1, 3) := by decide +kernel
theorem dL_walks_358 : decode cL_walks 358 = .ok (.goto (-35), 3) := by decide +kernel
theorem dL_walks_361 : decode cL_walks 361 = .ok (.aload_n 0, 1) := by decide +kernel
theorem dL_walks_362 : decode cL_walks 362 = .ok (.iload_n 3, 1) := by decide +kernel
theorem dL_walks_363 : decode cL_walks 363 = .ok (.iload 4, 2) := by decide +kernel
theorem dL_walks_365 : decode cL_walks 365 = .ok (.iconst 0, 1) := by decide +kernel
theorem dL_walks_366 : decode cL_walks 366 = .ok (.invokevirtual 122, 3) := by decide +kernel
theorem dL_walks_369 : decode cL_walks 369 = .ok (.iload 9, 2) := by decide +kernel
theorem dL_walks_371 : decode cL_walks 371 = .ok (.if_icmp .ne 63, 3) := by decide +kernel
theorem dL_walks_374 : decode cL_walks 374 = .ok (.aload_n 0, 1) := by decide +kernel
theorem dL_walks_375 : decode cL_walks 375 = .ok (.iload_n 3, 1) := by decide +kernel
theorem dL_walks_376 : decode cL_walks 376 = .ok (.iload 4, 2) := by decide +kernel
theorem dL_walks_378 : decode cL_walks 378 = .ok (.iconst 1, 1) := by decide +kernel
theorem dL_walks_379 : decode cL_walks 379 = .ok (.invokevirtual 122, 3) := by decide +kernel
theorem dL_walks_382 : decode cL_walks 382 = .ok (.aload 5, 2) := by decide +kernel
theorem dL_walks_384 : decode cL_walks 384 = .ok (.bipush 20, 2) := by decide +kernel
theorem dL_walks_386 : decode cL_walks 386 = .ok (.iaload, 1) := by decide +kernel
theorem dL_walks_387 : decode cL_walks 387 = .ok (.ifCond .ne 7, 3) := by decide +kernel
theorem dL_walks_390 : decode cL_walks 390 = .ok (.iconst (-1), 1) := by decide +kernel
theorem dL_walks_391 : decode cL_walks 391 = .ok (.goto 8, 3) := by decide +kernel
theorem dL_walks_394 : decode cL_walks 394 = .ok (.aload 5, 2) := by decide +kernel
theorem dL_walks_396 : decode cL_walks 396 = .ok (.bipush 13, 2) := by decide +kernel
theorem dL_walks_398 : decode cL_walks 398 = .ok (.iaload, 1) := by decide +kernel
theorem dL_walks_399 : decode cL_walks 399 = .ok (.if_icmp .ne 35, 3) := by decide +kernel
theorem dL_walks_402 : decode cL_walks 402 = .ok (.aload_n 0, 1) := by decide +kernel
theorem dL_walks_403 : decode cL_walks 403 = .ok (.iload_n 3, 1) := by decide +kernel
theorem dL_walks_404 : decode cL_walks 404 = .ok (.iload 4, 2) := by decide +kernel
theorem dL_walks_406 : decode cL_walks 406 = .ok (.iconst 2, 1) := by decide +kernel
theorem dL_walks_407 : decode cL_walks 407 = .ok (.invokevirtual 122, 3) := by decide +kernel
theorem dL_walks_410 : decode cL_walks 410 = .ok (.iload 10, 2) := by decide +kernel
theorem dL_walks_412 : decode cL_walks 412 = .ok (.if_icmp .ne 22, 3) := by decide +kernel
theorem dL_walks_415 : decode cL_walks 415 = .ok (.aload_n 0, 1) := by decide +kernel
theorem dL_walks_416 : decode cL_walks 416 = .ok (.iload_n 3, 1) := by decide +kernel
theorem dL_walks_417 : decode cL_walks 417 = .ok (.iload 4, 2) := by decide +kernel
theorem dL_walks_419 : decode cL_walks 419 = .ok (.iconst 3, 1) := by decide +kernel
theorem dL_walks_420 : decode cL_walks 420 = .ok (.invokevirtual 122, 3) := by decide +kernel
theorem dL_walks_423 : decode cL_walks 423 = .ok (.i2l, 1) := by decide +kernel
theorem dL_walks_424 : decode cL_walks 424 = .ok (.lload 7, 2) := by decide +kernel
theorem dL_walks_426 : decode cL_walks 426 = .ok (.lcmp, 1) := by decide +kernel
theorem dL_walks_427 : decode cL_walks 427 = .ok (.ifCond .ne 7, 3) := by decide +kernel
theorem dL_walks_430 : decode cL_walks 430 = .ok (.iconst 1, 1) := by decide +kernel
theorem dL_walks_431 : decode cL_walks 431 = .ok (.goto 4, 3) := by decide +kernel
theorem dL_walks_434 : decode cL_walks 434 = .ok (.iconst 0, 1) := by decide +kernel
theorem dL_walks_435 : decode cL_walks 435 = .ok (.ireturn, 1) := by decide +kernel
