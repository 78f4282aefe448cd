/-! decode rows, 5 -/
theorem dL_spelled_67 : decode cL_spelled 67 = .ok (.if_icmp .ne 8, 3) := by decide +kernel
theorem dL_spelled_70 : decode cL_spelled 70 = .ok (.ldc 114, 2) := by decide +kernel
theorem dL_spelled_72 : decode cL_spelled 72 = .ok (.goto 5, 3) := by decide +kernel
theorem dL_spelled_75 : decode cL_spelled 75 = .ok (.ldc 76, 2) := by decide +kernel
theorem dL_spelled_77 : decode cL_spelled 77 = .ok (.astore_n 3, 1) := by decide +kernel
theorem dL_spelled_78 : decode cL_spelled 78 = .ok (.iconst 0, 1) := by decide +kernel
theorem dL_spelled_79 : decode cL_spelled 79 = .ok (.istore 4, 2) := by decide +kernel
theorem dL_spelled_81 : decode cL_spelled 81 = .ok (.iload 4, 2) := by decide +kernel
theorem dL_spelled_83 : decode cL_spelled 83 = .ok (.aload_n 2, 1) := by decide +kernel
theorem dL_spelled_84 : decode cL_spelled 84 = .ok (.iconst 5, 1) := by decide +kernel
theorem dL_spelled_85 : decode cL_spelled 85 = .ok (.iaload, 1) := by decide +kernel
theorem dL_spelled_86 : decode cL_spelled 86 = .ok (.if_icmp .ge 207, 3) := by decide +kernel
theorem dL_spelled_89 : decode cL_spelled 89 = .ok (.aload_n 0, 1) := by decide +kernel
theorem dL_spelled_90 : decode cL_spelled 90 = .ok (.aload_n 2, 1) := by decide +kernel
theorem dL_spelled_91 : decode cL_spelled 91 = .ok (.bipush 6, 2) := by decide +kernel
theorem dL_spelled_93 : decode cL_spelled 93 = .ok (.iload 4, 2) := by decide +kernel
theorem dL_spelled_95 : decode cL_spelled 95 = .ok (.iadd, 1) := by decide +kernel
theorem dL_spelled_96 : decode cL_spelled 96 = .ok (.iaload, 1) := by decide +kernel
theorem dL_spelled_97 : decode cL_spelled 97 = .ok (.aaload, 1) := by decide +kernel
theorem dL_spelled_98 : decode cL_spelled 98 = .ok (.iconst 0, 1) := by decide +kernel
theorem dL_spelled_99 : decode cL_spelled 99 = .ok (.iaload, 1) := by decide +kernel
theorem dL_spelled_100 : decode cL_spelled 100 = .ok (.istore 5, 2) := by decide +kernel
theorem dL_spelled_102 : decode cL_spelled 102 = .ok (.aload_n 2, 1) := by decide +kernel
theorem dL_spelled_103 : decode cL_spelled 103 = .ok (.iconst 0, 1) := by decide +kernel
theorem dL_spelled_104 : decode cL_spelled 104 = .ok (.iaload, 1) := by decide +kernel
theorem dL_spelled_105 : decode cL_spelled 105 = .ok (.iconst 5, 1) := by decide +kernel
theorem dL_spelled_106 : decode cL_spelled 106 = .ok (.if_icmp .ne 16, 3) := by decide +kernel
theorem dL_spelled_109 : decode cL_spelled 109 = .ok (.iload 5, 2) := by decide +kernel
theorem dL_spelled_111 : decode cL_spelled 111 = .ok (.iconst 2, 1) := by decide +kernel
theorem dL_spelled_112 : decode cL_spelled 112 = .ok (.if_icmp .le 10, 3) := by decide +kernel
theorem dL_spelled_115 : decode cL_spelled 115 = .ok (.iload 5, 2) := by decide +kernel
theorem dL_spelled_117 : decode cL_spelled 117 = .ok (.bipush 6, 2) := by decide +kernel
theorem dL_spelled_119 : decode cL_spelled 119 = .ok (.if_icmp .lt 35, 3) := by decide +kernel
theorem dL_spelled_122 : decode cL_spelled 122 = .ok (.aload_n 2, 1) := by decide +kernel
theorem dL_spelled_123 : decode cL_spelled 123 = .ok (.iconst 0, 1) := by decide +kernel
theorem dL_spelled_124 : decode cL_spelled 124 = .ok (.iaload, 1) := by decide +kernel
theorem dL_spelled_125 : decode cL_spelled 125 = .ok (.iconst 3, 1) := by decide +kernel
theorem dL_spelled_126 : decode cL_spelled 126 = .ok (.if_icmp .ne 15, 3) := by decide +kernel
theorem dL_spelled_129 : decode cL_spelled 129 = .ok (.iload 5, 2) := by decide +kernel
theorem dL_spelled_131 : decode cL_spelled 131 = .ok (.iconst 3, 1) := by decide +kernel
theorem dL_spelled_132 : decode cL_spelled 132 = .ok (.if_icmp .eq 22, 3) := by decide +kernel
theorem dL_spelled_135 : decode cL_spelled 135 = .ok (.iload 5, 2) := by decide +kernel
theorem dL_spelled_137 : decode cL_spelled 137 = .ok (.iconst 4, 1) := by decide +kernel
theorem dL_spelled_138 : decode cL_spelled 138 = .ok (.if_icmp .eq 16, 3) := by decide +kernel
theorem dL_spelled_141 : decode cL_spelled 141 = .ok (.aload_n 2, 1) := by decide +kernel
theorem dL_spelled_142 : decode cL_spelled 142 = .ok (.iconst 0, 1) := by decide +kernel
theorem dL_spelled_143 : decode cL_spelled 143 = .ok (.iaload, 1) := by decide +kernel
theorem dL_spelled_144 : decode cL_spelled 144 = .ok (.iconst 4, 1) := by decide +kernel
theorem dL_spelled_145 : decode cL_spelled 145 = .ok (.if_icmp .ne 13, 3) := by decide +kernel
theorem dL_spelled_148 : decode cL_spelled 148 = .ok (.iload 5, 2) := by decide +kernel
theorem dL_spelled_150 : decode cL_spelled 150 = .ok (.iconst 4, 1) := by decide +kernel
theorem dL_spelled_151 : decode cL_spelled 151 = .ok (.if_icmp .ne 7, 3) := by decide +kernel
theorem dL_spelled_154 : decode cL_spelled 154 = .ok (.iconst 1, 1) := by decide +kernel
theorem dL_spelled_155 : decode cL_spelled 155 = .ok (.goto 4, 3) := by decide +kernel
theorem dL_spelled_158 : decode cL_spelled 158 = .ok (.iconst 0, 1) := by decide +kernel
theorem dL_spelled_159 : decode cL_spelled 159 = .ok (.istore 6, 2) := by decide +kernel
theorem dL_spelled_161 : decode cL_spelled 161 = .ok (.new 78, 3) := by decide +kernel
theorem dL_spelled_164 : decode cL_spelled 164 = .ok (.dup, 1) := by decide +kernel
theorem dL_spelled_165 : decode cL_spelled 165 = .ok (.invokespecial 80, 3) := by decide +kernel
theorem dL_spelled_168 : decode cL_spelled 168 = .ok (.aload_n 3, 1) := by decide +kernel
theorem dL_spelled_169 : decode cL_spelled 169 = .ok (.invokevirtual 81, 3) := by decide +kernel
theorem dL_spelled_172 : decode cL_spelled 172 = .ok (.iload 4, 2) := by decide +kernel
theorem dL_spelled_174 : decode cL_spelled 174 = .ok (.ifCond .ne 8, 3) := by decide +kernel
theorem dL_spelled_177 : decode cL_spelled 177 = .ok (.ldc 76, 2) := by decide +kernel
theorem dL_spelled_179 : decode cL_spelled 179 = .ok (.goto 30, 3) := by decide +kernel
theorem dL_spelled_182 : decode cL_spelled 182 = .ok (.aload_n 2, 1) := by decide +kernel
theorem dL_spelled_183 : decode cL_spelled 183 = .ok (.iconst 0, 1) := by decide +kernel
theorem dL_spelled_184 : decode cL_spelled 184 = .ok (.iaload, 1) := by decide +kernel
theorem dL_spelled_185 : decode cL_spelled 185 = .ok (.iconst 4, 1) := by decide +kernel
theorem dL_spelled_186 : decode cL_spelled 186 = .ok (.if_icmp .ne 8, 3) := by decide +kernel
theorem dL_spelled_189 : decode cL_spelled 189 = .ok (.ldc 116, 2) := by decide +kernel
theorem dL_spelled_191 : decode cL_spelled 191 = .ok (.goto 18, 3) := by decide +kernel
theorem dL_spelled_194 : decode cL_spelled 194 = .ok (.aload_n 2, 1) := by decide +kernel
theorem dL_spelled_195 : decode cL_spelled 195 = .ok (.iconst 0, 1) := by decide +kernel
theorem dL_spelled_196 : decode cL_spelled 196 = .ok (.iaload, 1) := by decide +kernel
theorem dL_spelled_197 : decode cL_spelled 197 = .ok (.bipush 6, 2) := by decide +kernel
theorem dL_spelled_199 : decode cL_spelled 199 = .ok (.if_icmp .ne 8, 3) := by decide +kernel
theorem dL_spelled_202 : decode cL_spelled 202 = .ok (.ldc 118, 2) := by decide +kernel
theorem dL_spelled_204 : decode cL_spelled 204 = .ok (.goto 5, 3) := by decide +kernel
theorem dL_spelled_207 : decode cL_spelled 207 = .ok (.ldc 76, 2) := by decide +kernel
theorem dL_spelled_209 : decode cL_spelled 209 = .ok (.invokevirtual 81, 3) := by decide +kernel
theorem dL_spelled_212 : decode cL_spelled 212 = .ok (.invokevirtual 96, 3) := by decide +kernel
theorem dL_spelled_215 : decode cL_spelled 215 = .ok (.astore_n 3, 1) := by decide +kernel
theorem dL_spelled_216 : decode cL_spelled 216 = .ok (.new 78, 3) := by decide +kernel
theorem dL_spelled_219 : decode cL_spelled 219 = .ok (.dup, 1) := by decide +kernel
theorem dL_spelled_220 : decode cL_spelled 220 = .ok (.invokespecial 80, 3) := by decide +kernel
theorem dL_spelled_223 : decode cL_spelled 223 = .ok (.aload_n 3, 1) := by decide +kernel
theorem dL_spelled_224 : decode cL_spelled 224 = .ok (.invokevirtual 81, 3) := by decide +kernel
theorem dL_spelled_227 : decode cL_spelled 227 = .ok (.iload 6, 2) := by decide +kernel
theorem dL_spelled_229 : decode cL_spelled 229 = .ok (.ifCond .eq 40, 3) := by decide +kernel
theorem dL_spelled_232 : decode cL_spelled 232 = .ok (.new 78, 3) := by decide +kernel
theorem dL_spelled_235 : decode cL_spelled 235 = .ok (.dup, 1) := by decide +kernel
theorem dL_spelled_236 : decode cL_spelled 236 = .ok (.invokespecial 80, 3) := by decide +kernel
theorem dL_spelled_239 : decode cL_spelled 239 = .ok (.ldc 120, 2) := by decide +kernel
theorem dL_spelled_241 : decode cL_spelled 241 = .ok (.invokevirtual 81, 3) := by decide +kernel
theorem dL_spelled_244 : decode cL_spelled 244 = .ok (.aload_n 0, 1) := by decide +kernel
theorem dL_spelled_245 : decode cL_spelled 245 = .ok (.aload_n 2, 1) := by decide +kernel
theorem dL_spelled_246 : decode cL_spelled 246 = .ok (.bipush 6, 2) := by decide +kernel
theorem dL_spelled_248 : decode cL_spelled 248 = .ok (.iload 4, 2) := by decide +kernel
theorem dL_spelled_250 : decode cL_spelled 250 = .ok (.iadd, 1) := by decide +kernel
theorem dL_spelled_251 : decode cL_spelled 251 = .ok (.iaload, 1) := by decide +kernel
theorem dL_spelled_252 : decode cL_spelled 252 = .ok (.invokestatic 122, 3) := by decide +kernel
theorem dL_spelled_255 : decode cL_spelled 255 = .ok (.invokevirtual 81, 3) := by decide +kernel
theorem dL_spelled_258 : decode cL_spelled 258 = .ok (.ldc 126, 2) := by decide +kernel
theorem dL_spelled_260 : decode cL_spelled 260 = .ok (.invokevirtual 81, 3) := by decide +kernel
theorem dL_spelled_263 : decode cL_spelled 263 = .ok (.invokevirtual 96, 3) := by decide +kernel
theorem dL_spelled_266 : decode cL_spelled 266 = .ok (.goto 14, 3) := by decide +kernel
theorem dL_spelled_269 : decode cL_spelled 269 = .ok (.aload_n 0, 1) := by decide +kernel
theorem dL_spelled_270 : decode cL_spelled 270 = .ok (.aload_n 2, 1) := by decide +kernel
theorem dL_spelled_271 : decode cL_spelled 271 = .ok (.bipush 6, 2) := by decide +kernel
theorem dL_spelled_273 : decode cL_spelled 273 = .ok (.iload 4, 2) := by decide +kernel
theorem dL_spelled_275 : decode cL_spelled 275 = .ok (.iadd, 1) := by decide +kernel
theorem dL_spelled_276 : decode cL_spelled 276 = .ok (.iaload, 1) := by decide +kernel
theorem dL_spelled_277 : decode cL_spelled 277 = .ok (.invokestatic 122, 3) := by decide +kernel
theorem dL_spelled_280 : decode cL_spelled 280 = .ok (.invokevirtual 81, 3) := by decide +kernel
theorem dL_spelled_283 : decode cL_spelled 283 = .ok (.invokevirtual 96, 3) := by decide +kernel
theorem dL_spelled_286 : decode cL_spelled 286 = .ok (.astore_n 3, 1) := by decide +kernel
theorem dL_spelled_287 : decode cL_spelled 287 = .ok (.iinc 4 1, 3) := by decide +kernel
theorem dL_spelled_290 : decode cL_spelled 290 = .ok (.goto (-209), 3) := by decide +kernel
theorem dL_spelled_293 : decode cL_spelled 293 = .ok (.aload_n 2, 1) := by decide +kernel
theorem dL_spelled_294 : decode cL_spelled 294 = .ok (.iconst 0, 1) := by decide +kernel
theorem dL_spelled_295 : decode cL_spelled 295 = .ok (.iaload, 1) := by decide +kernel
theorem dL_spelled_296 : decode cL_spelled 296 = .ok (.iconst 5, 1) := by decide +kernel
theorem dL_spelled_297 : decode cL_spelled 297 = .ok (.if_icmp .ne 185, 3) := by decide +kernel
theorem dL_spelled_300 : decode cL_spelled 300 = .ok (.aload_n 2, 1) := by decide +kernel
theorem dL_spelled_301 : decode cL_spelled 301 = .ok (.iconst 2, 1) := by decide +kernel
theorem dL_spelled_302 : decode cL_spelled 302 = .ok (.iaload, 1) := by decide +kernel
theorem dL_spelled_303 : decode cL_spelled 303 = .ok (.istore 4, 2) := by decide +kernel
theorem dL_spelled_305 : decode cL_spelled 305 = .ok (.aload_n 2, 1) := by decide +kernel
theorem dL_spelled_306 : decode cL_spelled 306 = .ok (.iconst 3, 1) := by decide +kernel
theorem dL_spelled_307 : decode cL_spelled 307 = .ok (.iaload, 1) := by decide +kernel
theorem dL_spelled_308 : decode cL_spelled 308 = .ok (.istore 5, 2) := by decide +kernel
theorem dL_spelled_310 : decode cL_spelled 310 = .ok (.new 78, 3) := by decide +kernel
theorem dL_spelled_313 : decode cL_spelled 313 = .ok (.dup, 1) := by decide +kernel
theorem dL_spelled_314 : decode cL_spelled 314 = .ok (.invokespecial 80, 3) := by decide +kernel
theorem dL_spelled_317 : decode cL_spelled 317 = .ok (.aload_n 3, 1) := by decide +kernel
theorem dL_spelled_318 : decode cL_spelled 318 = .ok (.invokevirtual 81, 3) := by decide +kernel
theorem dL_spelled_321 : decode cL_spelled 321 = .ok (.iload 4, 2) := by decide +kernel
theorem dL_spelled_323 : decode cL_spelled 323 = .ok (.ifCond .ne 15, 3) := by decide +kernel
theorem dL_spelled_326 : decode cL_spelled 326 = .ok (.iload 5, 2) := by decide +kernel
theorem dL_spelled_328 : decode cL_spelled 328 = .ok (.bipush 100, 2) := by decide +kernel
theorem dL_spelled_330 : decode cL_spelled 330 = .ok (.if_icmp .ne 8, 3) := by decide +kernel
theorem dL_spelled_333 : decode cL_spelled 333 = .ok (.ldc 128, 2) := by decide +kernel
theorem dL_spelled_335 : decode cL_spelled 335 = .ok (.goto 109, 3) := by decide +kernel
theorem dL_spelled_338 : decode cL_spelled 338 = .ok (.iload 4, 2) := by decide +kernel
theorem dL_spelled_340 : decode cL_spelled 340 = .ok (.iconst 1, 1) := by decide +kernel
theorem dL_spelled_341 : decode cL_spelled 341 = .ok (.if_icmp .ne 15, 3) := by decide +kernel
theorem dL_spelled_344 : decode cL_spelled 344 = .ok (.iload 5, 2) := by decide +kernel
theorem dL_spelled_346 : decode cL_spelled 346 = .ok (.bipush 100, 2) := by decide +kernel
theorem dL_spelled_348 : decode cL_spelled 348 = .ok (.if_icmp .ne 8, 3) := by decide +kernel
theorem dL_spelled_351 : decode cL_spelled 351 = .ok (.ldc 130, 2) := by decide +kernel
theorem dL_spelled_353 : decode cL_spelled 353 = .ok (.goto 91, 3) := by decide +kernel
theorem dL_spelled_356 : decode cL_spelled 356 = .ok (.iload 4, 2) := by decide +kernel
theorem dL_spelled_358 : decode cL_spelled 358 = .ok (.ifCond .ne 14, 3) := by decide +kernel
theorem dL_spelled_361 : decode cL_spelled 361 = .ok (.iload 5, 2) := by decide +kernel
theorem dL_spelled_363 : decode cL_spelled 363 = .ok (.iconst 1, 1) := by decide +kernel
theorem dL_spelled_364 : decode cL_spelled 364 = .ok (.if_icmp .ne 8, 3) := by decide +kernel
theorem dL_spelled_367 : decode cL_spelled 367 = .ok (.ldc 132, 2) := by decide +kernel
theorem dL_spelled_369 : decode cL_spelled 369 = .ok (.goto 75, 3) := by decide +kernel
theorem dL_spelled_372 : decode cL_spelled 372 = .ok (.new 78, 3) := by decide +kernel
theorem dL_spelled_375 : decode cL_spelled 375 = .ok (.dup, 1) := by decide +kernel
theorem dL_spelled_376 : decode cL_spelled 376 = .ok (.invokespecial 80, 3) := by decide +kernel
theorem dL_spelled_379 : decode cL_spelled 379 = .ok (.ldc 134, 2) := by decide +kernel
theorem dL_spelled_381 : decode cL_spelled 381 = .ok (.invokevirtual 81, 3) := by decide +kernel
theorem dL_spelled_384 : decode cL_spelled 384 = .ok (.iload 4, 2) := by decide +kernel
theorem dL_spelled_386 : decode cL_spelled 386 = .ok (.invokevirtual 136, 3) := by decide +kernel
theorem dL_spelled_389 : decode cL_spelled 389 = .ok (.iload 5, 2) := by decide +kernel
theorem dL_spelled_391 : decode cL_spelled 391 = .ok (.iload 4, 2) := by decide +kernel
theorem dL_spelled_393 : decode cL_spelled 393 = .ok (.if_icmp .ne 8, 3) := by decide +kernel
theorem dL_spelled_396 : decode cL_spelled 396 = .ok (.ldc 76, 2) := by decide +kernel
theorem dL_spelled_398 : decode cL_spelled 398 = .ok (.goto 35, 3) := by decide +kernel
theorem dL_spelled_401 : decode cL_spelled 401 = .ok (.iload 5, 2) := by decide +kernel
theorem dL_spelled_403 : decode cL_spelled 403 = .ok (.bipush 100, 2) := by decide +kernel
theorem dL_spelled_405 : decode cL_spelled 405 = .ok (.if_icmp .ne 8, 3) := by decide +kernel
theorem dL_spelled_408 : decode cL_spelled 408 = .ok (.ldc 118, 2) := by decide +kernel
theorem dL_spelled_410 : decode cL_spelled 410 = .ok (.goto 23, 3) := by decide +kernel
theorem dL_spelled_413 : decode cL_spelled 413 = .ok (.new 78, 3) := by decide +kernel
theorem dL_spelled_416 : decode cL_spelled 416 = .ok (.dup, 1) := by decide +kernel
theorem dL_spelled_417 : decode cL_spelled 417 = .ok (.invokespecial 80, 3) := by decide +kernel
theorem dL_spelled_420 : decode cL_spelled 420 = .ok (.ldc 118, 2) := by decide +kernel
theorem dL_spelled_422 : decode cL_spelled 422 = .ok (.invokevirtual 81, 3) := by decide +kernel
theorem dL_spelled_425 : decode cL_spelled 425 = .ok (.iload 5, 2) := by decide +kernel
theorem dL_spelled_427 : decode cL_spelled 427 = .ok (.invokevirtual 136, 3) := by decide +kernel
theorem dL_spelled_430 : decode cL_spelled 430 = .ok (.invokevirtual 96, 3) := by decide +kernel
theorem dL_spelled_433 : decode cL_spelled 433 = .ok (.invokevirtual 81, 3) := by decide +kernel
theorem dL_spelled_436 : decode cL_spelled 436 = .ok (.ldc 139, 2) := by decide +kernel
theorem dL_spelled_438 : decode cL_spelled 438 = .ok (.invokevirtual 81, 3) := by decide +kernel
theorem dL_spelled_441 : decode cL_spelled 441 = .ok (.invokevirtual 96, 3) := by decide +kernel
theorem dL_spelled_444 : decode cL_spelled 444 = .ok (.invokevirtual 81, 3) := by decide +kernel
theorem dL_spelled_447 : decode cL_spelled 447 = .ok (.invokevirtual 96, 3) := by decide +kernel
theorem dL_spelled_450 : decode cL_spelled 450 = .ok (.astore_n 3, 1) := by decide +kernel
theorem dL_spelled_451 : decode cL_spelled 451 = .ok (.new 78, 3) := by decide +kernel
theorem dL_spelled_454 : decode cL_spelled 454 = .ok (.dup, 1) := by decide +kernel
theorem dL_spelled_455 : decode cL_spelled 455 = .ok (.invokespecial 80, 3) := by decide +kernel
theorem dL_spelled_458 : decode cL_spelled 458 = .ok (.aload_n 3, 1) := by decide +kernel
theorem dL_spelled_459 : decode cL_spelled 459 = .ok (.invokevirtual 81, 3) := by decide +kernel
theorem dL_spelled_462 : decode cL_spelled 462 = .ok (.aload_n 2, 1) := by decide +kernel
theorem dL_spelled_463 : decode cL_spelled 463 = .ok (.iconst 4, 1) := by decide +kernel
theorem dL_spelled_464 : decode cL_spelled 464 = .ok (.iaload, 1) := by decide +kernel
theorem dL_spelled_465 : decode cL_spelled 465 = .ok (.ifCond .ne 8, 3) := by decide +kernel
theorem dL_spelled_468 : decode cL_spelled 468 = .ok (.ldc 132, 2) := by decide +kernel
theorem dL_spelled_470 : decode cL_spelled 470 = .ok (.goto 5, 3) := by decide +kernel
theorem dL_spelled_473 : decode cL_spelled 473 = .ok (.ldc 76, 2) := by decide +kernel
theorem dL_spelled_475 : decode cL_spelled 475 = .ok (.invokevirtual 81, 3) := by decide +kernel
theorem dL_spelled_478 : decode cL_spelled 478 = .ok (.invokevirtual 96, 3) := by decide +kernel
theorem dL_spelled_481 : decode cL_spelled 481 = .ok (.astore_n 3, 1) := by decide +kernel
theorem dL_spelled_482 : decode cL_spelled 482 = .ok (.aload_n 2, 1) := by decide +kernel
theorem dL_spelled_483 : decode cL_spelled 483 = .ok (.iconst 0, 1) := by decide +kernel
theorem dL_spelled_484 : decode cL_spelled 484 = .ok (.iaload, 1) := by decide +kernel
theorem dL_spelled_485 : decode cL_spelled 485 = .ok (.bipush 6, 2) := by decide +kernel
theorem dL_spelled_487 : decode cL_spelled 487 = .ok (.if_icmp .ne 25, 3) := by decide +kernel
theorem dL_spelled_490 : decode cL_spelled 490 = .ok (.new 78, 3) := by decide +kernel
theorem dL_spelled_493 : decode cL_spelled 493 = .ok (.dup, 1) := by decide +kernel
theorem dL_spelled_494 : decode cL_spelled 494 = .ok (.invokespecial 80, 3) := by decide +kernel
theorem dL_spelled_497 : decode cL_spelled 497 = .ok (.aload_n 3, 1) := by decide +kernel
theorem dL_spelled_498 : decode cL_spelled 498 = .ok (.invokevirtual 81, 3) := by decide +kernel
theorem dL_spelled_501 : decode cL_spelled 501 = .ok (.ldc 126, 2) := by decide +kernel
theorem dL_spelled_503 : decode cL_spelled 503 = .ok (.invokevirtual 81, 3) := by decide +kernel
theorem dL_spelled_506 : decode cL_spelled 506 = .ok (.invokevirtual 96, 3) := by decide +kernel
theorem dL_spelled_509 : decode cL_spelled 509 = .ok (.goto 4, 3) := by decide +kernel
theorem dL_spelled_512 : decode cL_spelled 512 = .ok (.aload_n 3, 1) := by decide +kernel
theorem dL_spelled_513 : decode cL_spelled 513 = .ok (.areturn, 1) := by decide +kernel
theorem dL_pattern_0 : decode cL_pattern 0 = .ok (.iconst 0, 1) := by decide +kernel
theorem dL_pattern_1 : decode cL_pattern 1 = .ok (.istore_n 3, 1) := by decide +kernel
theorem dL_pattern_2 : decode cL_pattern 2 = .ok (.iload_n 3, 1) := by decide +kernel
theorem dL_pattern_3 : decode cL_pattern 3 = .ok (.bipush 9, 2) := by decide +kernel
theorem dL_pattern_5 : decode cL_pattern 5 = .ok (.if_icmp .ge 112, 3) := by decide +kernel
theorem dL_pattern_8 : decode cL_pattern 8 = .ok (.bipush 70, 2) := by decide +kernel
theorem dL_pattern_10 : decode cL_pattern 10 = .ok (.anewarray 15, 3) := by decide +kernel
theorem dL_pattern_13 : decode cL_pattern 13 = .ok (.astore 4, 2) := by decide +kernel
theorem dL_pattern_15 : decode cL_pattern 15 = .ok (.aload 4, 2) := by decide +kernel
theorem dL_pattern_17 : decode cL_pattern 17 = .ok (.bipush 69, 2) := by decide +kernel
theorem dL_pattern_19 : decode cL_pattern 19 = .ok (.iconst 1, 1) := by decide +kernel
theorem dL_pattern_20 : decode cL_pattern 20 = .ok (.newarray .int, 2) := by decide +kernel
theorem dL_pattern_22 : decode cL_pattern 22 = .ok (.aastore, 1) := by decide +kernel
theorem dL_pattern_23 : decode cL_pattern 23 = .ok (.aload_n 1, 1) := by decide +kernel
theorem dL_pattern_24 : decode cL_pattern 24 = .ok (.iload_n 2, 1) := by decide +kernel
theorem dL_pattern_25 : decode cL_pattern 25 = .ok (.sipush 977, 3) := by decide +kernel
theorem dL_pattern_28 : decode cL_pattern 28 = .ok (.iload_n 3, 1) := by decide +kernel
theorem dL_pattern_29 : decode cL_pattern 29 = .ok (.imul, 1) := by decide +kernel
theorem dL_pattern_30 : decode cL_pattern 30 = .ok (.iadd, 1) := by decide +kernel
theorem dL_pattern_31 : decode cL_pattern 31 = .ok (.aload 4, 2) := by decide +kernel
theorem dL_pattern_33 : decode cL_pattern 33 = .ok (.iconst 0, 1) := by decide +kernel
theorem dL_pattern_34 : decode cL_pattern 34 = .ok (.invokestatic 106, 3) := by decide +kernel
theorem dL_pattern_37 : decode cL_pattern 37 = .ok (.pop, 1) := by decide +kernel
theorem dL_pattern_38 : decode cL_pattern 38 = .ok (.aload 4, 2) := by decide +kernel
theorem dL_pattern_40 : decode cL_pattern 40 = .ok (.aload 4, 2) := by decide +kernel
theorem dL_pattern_42 : decode cL_pattern 42 = .ok (.bipush 69, 2) := by decide +kernel
theorem dL_pattern_44 : decode cL_pattern 44 = .ok (.aaload, 1) := by decide +kernel
theorem dL_pattern_45 : decode cL_pattern 45 = .ok (.iconst 0, 1) := by decide +kernel
theorem dL_pattern_46 : decode cL_pattern 46 = .ok (.iaload, 1) := by decide +kernel
theorem dL_pattern_47 : decode cL_pattern 47 = .ok (.iconst 1, 1) := by decide +kernel
theorem dL_pattern_48 : decode cL_pattern 48 = .ok (.isub, 1) := by decide +kernel
theorem dL_pattern_49 : decode cL_pattern 49 = .ok (.invokestatic 122, 3) := by decide +kernel
theorem dL_pattern_52 : decode cL_pattern 52 = .ok (.astore 5, 2) := by decide +kernel
theorem dL_pattern_54 : decode cL_pattern 54 = .ok (.aload 5, 2) := by decide +kernel
theorem dL_pattern_56 : decode cL_pattern 56 = .ok (.invokevirtual 27, 3) := by decide +kernel
theorem dL_pattern_59 : decode cL_pattern 59 = .ok (.bipush 60, 2) := by decide +kernel
theorem dL_pattern_61 : decode cL_pattern 61 = .ok (.if_icmp .ge 50, 3) := by decide +kernel
theorem dL_pattern_64 : decode cL_pattern 64 = .ok (.aload 5, 2) := by decide +kernel
theorem dL_pattern_66 : decode cL_pattern 66 = .ok (.invokevirtual 27, 3) := by decide +kernel
theorem dL_pattern_69 : decode cL_pattern 69 = .ok (.iconst 3, 1) := by decide +kernel
theorem dL_pattern_70 : decode cL_pattern 70 = .ok (.if_icmp .gt 8, 3) := by decide +kernel
theorem dL_pattern_73 : decode cL_pattern 73 = .ok (.iload_n 3, 1) := by decide +kernel
theorem dL_pattern_74 : decode cL_pattern 74 = .ok (.iconst 4, 1) := by decide +kernel
theorem dL_pattern_75 : decode cL_pattern 75 = .ok (.if_icmp .le 36, 3) := by decide +kernel
theorem dL_pattern_78 : decode cL_pattern 78 = .ok (.aload_n 0, 1) := by decide +kernel
theorem dL_pattern_79 : decode cL_pattern 79 = .ok (.aload 5, 2) := by decide +kernel
theorem dL_pattern_81 : decode cL_pattern 81 = .ok (.invokestatic 100, 3) := by decide +kernel
theorem dL_pattern_84 : decode cL_pattern 84 = .ok (.ifCond .eq 22, 3) := by decide +kernel
theorem dL_pattern_87 : decode cL_pattern 87 = .ok (.aload_n 0, 1) := by decide +kernel
theorem dL_pattern_88 : decode cL_pattern 88 = .ok (.invokevirtual 141, 3) := by decide +kernel
theorem dL_pattern_91 : decode cL_pattern 91 = .ok (.aload 4, 2) := by decide +kernel
theorem dL_pattern_93 : decode cL_pattern 93 = .ok (.bipush 69, 2) := by decide +kernel
theorem dL_pattern_95 : decode cL_pattern 95 = .ok (.aaload, 1) := by decide +kernel
theorem dL_pattern_96 : decode cL_pattern 96 = .ok (.iconst 0, 1) := by decide +kernel
theorem dL_pattern_97 : decode cL_pattern 97 = .ok (.iaload, 1) := by decide +kernel
theorem dL_pattern_98 : decode cL_pattern 98 = .ok (.if_icmp .ne 8, 3) := by decide +kernel
theorem dL_pattern_101 : decode cL_pattern 101 = .ok (.aload 4, 2) := by decide +kernel
theorem dL_pattern_103 : decode cL_pattern 103 = .ok (.goto 7, 3) := by decide +kernel
theorem dL_pattern_106 : decode cL_pattern 106 = .ok (.iconst 0, 1) := by decide +kernel
theorem dL_pattern_107 : decode cL_pattern 107 = .ok (.anewarray 15, 3) := by decide +kernel
theorem dL_pattern_110 : decode cL_pattern 110 = .ok (.areturn, 1) := by decide +kernel
theorem dL_pattern_111 : decode cL_pattern 111 = .ok (.iinc 3 1, 3) := by decide +kernel
theorem dL_pattern_114 : decode cL_pattern 114 = .ok (.goto (-112), 3) := by decide +kernel
theorem dL_pattern_117 : decode cL_pattern 117 = .ok (.bipush 70, 2) := by decide +kernel
theorem dL_pattern_119 : decode cL_pattern 119 = .ok (.anewarray 15, 3) := by decide +kernel
theorem dL_pattern_122 : decode cL_pattern 122 = .ok (.astore_n 3, 1) := by decide +kernel
theorem dL_pattern_123 : decode cL_pattern 123 = .ok (.aload_n 3, 1) := by decide +kernel
theorem dL_pattern_124 : decode cL_pattern 124 = .ok (.iconst 0, 1) := by decide +kernel
theorem dL_pattern_125 : decode cL_pattern 125 = .ok (.bipush 10, 2) := by decide +kernel
theorem dL_pattern_127 : decode cL_pattern 127 = .ok (.newarray .int, 2) := by decide +kernel
theorem dL_pattern_129 : decode cL_pattern 129 = .ok (.dup, 1) := by decide +kernel
theorem dL_pattern_130 : decode cL_pattern 130 = .ok (.iconst 0, 1) := by decide +kernel
theorem dL_pattern_131 : decode cL_pattern 131 = .ok (.iconst 0, 1) := by decide +kernel
theorem dL_pattern_132 : decode cL_pattern 132 = .ok (.iastore, 1) := by decide +kernel
theorem dL_pattern_133 : decode cL_pattern 133 = .ok (.dup, 1) := by decide +kernel
theorem dL_pattern_134 : decode cL_pattern 134 = .ok (.iconst 1, 1) := by decide +kernel
theorem dL_pattern_135 : decode cL_pattern 135 = .ok (.iconst 0, 1) := by decide +kernel
theorem dL_pattern_136 : decode cL_pattern 136 = .ok (.iastore, 1) := by decide +kernel
theorem dL_pattern_137 : decode cL_pattern 137 = .ok (.dup, 1) := by decide +kernel
theorem dL_pattern_138 : decode cL_pattern 138 = .ok (.iconst 2, 1) := by decide +kernel
theorem dL_pattern_139 : decode cL_pattern 139 = .ok (.bipush (-5), 2) := by decide +kernel
theorem dL_pattern_141 : decode cL_pattern 141 = .ok (.iastore, 1) := by decide +kernel
theorem dL_pattern_142 : decode cL_pattern 142 = .ok (.dup, 1) := by decide +kernel
theorem dL_pattern_143 : decode cL_pattern 143 = .ok (.iconst 3, 1) := by decide +kernel
theorem dL_pattern_144 : decode cL_pattern 144 = .ok (.bipush (-5), 2) := by decide +kernel
theorem dL_pattern_146 : decode cL_pattern 146 = .ok (.iastore, 1) := by decide +kernel
theorem dL_pattern_147 : decode cL_pattern 147 = .ok (.dup, 1) := by decide +kernel
theorem dL_pattern_148 : decode cL_pattern 148 = .ok (.iconst 4, 1) := by decide +kernel
theorem dL_pattern_149 : decode cL_pattern 149 = .ok (.bipush (-5), 2) := by decide +kernel
theorem dL_pattern_151 : decode cL_pattern 151 = .ok (.iastore, 1) := by decide +kernel
theorem dL_pattern_152 : decode cL_pattern 152 = .ok (.dup, 1) := by decide +kernel
theorem dL_pattern_153 : decode cL_pattern 153 = .ok (.iconst 5, 1) := by decide +kernel
theorem dL_pattern_154 : decode cL_pattern 154 = .ok (.iconst 0, 1) := by decide +kernel
theorem dL_pattern_155 : decode cL_pattern 155 = .ok (.iastore, 1) := by decide +kernel
theorem dL_pattern_156 : decode cL_pattern 156 = .ok (.dup, 1) := by decide +kernel
theorem dL_pattern_157 : decode cL_pattern 157 = .ok (.bipush 6, 2) := by decide +kernel
theorem dL_pattern_159 : decode cL_pattern 159 = .ok (.iconst (-1), 1) := by decide +kernel
theorem dL_pattern_160 : decode cL_pattern 160 = .ok (.iastore, 1) := by decide +kernel
theorem dL_pattern_161 : decode cL_pattern 161 = .ok (.dup, 1) := by decide +kernel
theorem dL_pattern_162 : decode cL_pattern 162 = .ok (.bipush 7, 2) := by decide +kernel
theorem dL_pattern_164 : decode cL_pattern 164 = .ok (.iconst (-1), 1) := by decide +kernel
theorem dL_pattern_165 : decode cL_pattern 165 = .ok (.iastore, 1) := by decide +kernel
theorem dL_pattern_166 : decode cL_pattern 166 = .ok (.dup, 1) := by decide +kernel
theorem dL_pattern_167 : decode cL_pattern 167 = .ok (.bipush 8, 2) := by decide +kernel
theorem dL_pattern_169 : decode cL_pattern 169 = .ok (.iconst (-1), 1) := by decide +kernel
theorem dL_pattern_170 : decode cL_pattern 170 = .ok (.iastore, 1) := by decide +kernel
theorem dL_pattern_171 : decode cL_pattern 171 = .ok (.dup, 1) := by decide +kernel
theorem dL_pattern_172 : decode cL_pattern 172 = .ok (.bipush 9, 2) := by decide +kernel
theorem dL_pattern_174 : decode cL_pattern 174 = .ok (.iconst (-1), 1) := by decide +kernel
theorem dL_pattern_175 : decode cL_pattern 175 = .ok (.iastore, 1) := by decide +kernel
theorem dL_pattern_176 : decode cL_pattern 176 = .ok (.aastore, 1) := by decide +kernel
theorem dL_pattern_177 : decode cL_pattern 177 = .ok (.aload_n 3, 1) := by decide +kernel
theorem dL_pattern_178 : decode cL_pattern 178 = .ok (.bipush 69, 2) := by decide +kernel
theorem dL_pattern_180 : decode cL_pattern 180 = .ok (.iconst 1, 1) := by decide +kernel
theorem dL_pattern_181 : decode cL_pattern 181 = .ok (.newarray .int, 2) := by decide +kernel
theorem dL_pattern_183 : decode cL_pattern 183 = .ok (.dup, 1) := by decide +kernel
theorem dL_pattern_184 : decode cL_pattern 184 = .ok (.iconst 0, 1) := by decide +kernel
theorem dL_pattern_185 : decode cL_pattern 185 = .ok (.iconst 1, 1) := by decide +kernel
theorem dL_pattern_186 : decode cL_pattern 186 = .ok (.iastore, 1) := by decide +kernel
theorem dL_pattern_187 : decode cL_pattern 187 = .ok (.aastore, 1) := by decide +kernel
theorem dL_pattern_188 : decode cL_pattern 188 = .ok (.aload_n 0, 1) := by decide +kernel
theorem dL_pattern_189 : decode cL_pattern 189 = .ok (.ldc 144, 2) := by decide +kernel
theorem dL_pattern_191 : decode cL_pattern 191 = .ok (.invokestatic 100, 3) := by decide +kernel
theorem dL_pattern_194 : decode cL_pattern 194 = .ok (.ifCond .eq 15, 3) := by decide +kernel
theorem dL_pattern_197 : decode cL_pattern 197 = .ok (.aload_n 0, 1) := by decide +kernel
theorem dL_pattern_198 : decode cL_pattern 198 = .ok (.invokevirtual 141, 3) := by decide +kernel
theorem dL_pattern_201 : decode cL_pattern 201 = .ok (.iconst 1, 1) := by decide +kernel
theorem dL_pattern_202 : decode cL_pattern 202 = .ok (.if_icmp .ne 7, 3) := by decide +kernel
theorem dL_pattern_205 : decode cL_pattern 205 = .ok (.aload_n 3, 1) := by decide +kernel
theorem dL_pattern_206 : decode cL_pattern 206 = .ok (.goto 7, 3) := by decide +kernel
theorem dL_pattern_209 : decode cL_pattern 209 = .ok (.iconst 0, 1) := by decide +kernel
theorem dL_pattern_210 : decode cL_pattern 210 = .ok (.anewarray 15, 3) := by decide +kernel
theorem dL_pattern_213 : decode cL_pattern 213 = .ok (.areturn, 1) := by decide +kernel
theorem dL_law_0 : decode cL_law 0 = .ok (.new 22, 3) := by decide +kernel
theorem dL_law_3 : decode cL_law 3 = .ok (.dup, 1) := by decide +kernel
theorem dL_law_4 : decode cL_law 4 = .ok (.invokespecial 146, 3) := by decide +kernel
theorem dL_law_7 : decode cL_law 7 = .ok (.astore_n 1, 1) := by decide +kernel
theorem dL_law_8 : decode cL_law 8 = .ok (.aload_n 0, 1) := by decide +kernel
theorem dL_law_9 : decode cL_law 9 = .ok (.iconst 0, 1) := by decide +kernel
theorem dL_law_10 : decode cL_law 10 = .ok (.bipush 8, 2) := by decide +kernel
theorem dL_law_12 : decode cL_law 12 = .ok (.invokestatic 17, 3) := by decide +kernel
theorem dL_law_15 : decode cL_law 15 = .ok (.istore_n 2, 1) := by decide +kernel
theorem dL_law_16 : decode cL_law 16 = .ok (.aload_n 0, 1) := by decide +kernel
theorem dL_law_17 : decode cL_law 17 = .ok (.iconst 1, 1) := by decide +kernel
theorem dL_law_18 : decode cL_law 18 = .ok (.iload_n 2, 1) := by decide +kernel
theorem dL_law_19 : decode cL_law 19 = .ok (.invokestatic 147, 3) := by decide +kernel
theorem dL_law_22 : decode cL_law 22 = .ok (.astore_n 3, 1) := by decide +kernel
theorem dL_law_23 : decode cL_law 23 = .ok (.aload_n 1, 1) := by decide +kernel
theorem dL_law_24 : decode cL_law 24 = .ok (.aload_n 0, 1) := by decide +kernel
theorem dL_law_25 : decode cL_law 25 = .ok (.bipush 40, 2) := by decide +kernel
theorem dL_law_27 : decode cL_law 27 = .ok (.invokestatic 151, 3) := by decide +kernel
theorem dL_law_30 : decode cL_law 30 = .ok (.astore 4, 2) := by decide +kernel
theorem dL_law_32 : decode cL_law 32 = .ok (.aload_n 1, 1) := by decide +kernel
theorem dL_law_33 : decode cL_law 33 = .ok (.aload_n 0, 1) := by decide +kernel
theorem dL_law_34 : decode cL_law 34 = .ok (.bipush 50, 2) := by decide +kernel
theorem dL_law_36 : decode cL_law 36 = .ok (.invokestatic 155, 3) := by decide +kernel
theorem dL_law_39 : decode cL_law 39 = .ok (.astore 5, 2) := by decide +kernel
theorem dL_law_41 : decode cL_law 41 = .ok (.aload 5, 2) := by decide +kernel
theorem dL_law_43 : decode cL_law 43 = .ok (.arraylength, 1) := by decide +kernel
theorem dL_law_44 : decode cL_law 44 = .ok (.ifCond .eq 11, 3) := by decide +kernel
theorem dL_law_47 : decode cL_law 47 = .ok (.aload_n 1, 1) := by decide +kernel
theorem dL_law_48 : decode cL_law 48 = .ok (.aload_n 3, 1) := by decide +kernel
theorem dL_law_49 : decode cL_law 49 = .ok (.invokestatic 158, 3) := by decide +kernel
theorem dL_law_52 : decode cL_law 52 = .ok (.ifCond .ne 5, 3) := by decide +kernel
theorem dL_law_55 : decode cL_law 55 = .ok (.iconst 0, 1) := by decide +kernel
theorem dL_law_56 : decode cL_law 56 = .ok (.ireturn, 1) := by decide +kernel
theorem dL_law_57 : decode cL_law 57 = .ok (.aload_n 1, 1) := by decide +kernel
theorem dL_law_58 : decode cL_law 58 = .ok (.sipush 800, 3) := by decide +kernel
theorem dL_law_61 : decode cL_law 61 = .ok (.invokevirtual 162, 3) := by decide +kernel
theorem dL_law_64 : decode cL_law 64 = .ok (.pop, 1) := by decide +kernel
theorem dL_law_65 : decode cL_law 65 = .ok (.iconst 0, 1) := by decide +kernel
theorem dL_law_66 : decode cL_law 66 = .ok (.istore 6, 2) := by decide +kernel
theorem dL_law_68 : decode cL_law 68 = .ok (.iload 6, 2) := by decide +kernel
theorem dL_law_70 : decode cL_law 70 = .ok (.iload_n 2, 1) := by decide +kernel
theorem dL_law_71 : decode cL_law 71 = .ok (.if_icmp .gt 403, 3) := by decide +kernel
theorem dL_law_74 : decode cL_law 74 = .ok (.aload_n 1, 1) := by decide +kernel
theorem dL_law_75 : decode cL_law 75 = .ok (.iload 6, 2) := by decide +kernel
theorem dL_law_77 : decode cL_law 77 = .ok (.invokevirtual 165, 3) := by decide +kernel
theorem dL_law_80 : decode cL_law 80 = .ok (.istore 7, 2) := by decide +kernel
theorem dL_law_82 : decode cL_law 82 = .ok (.aload_n 1, 1) := by decide +kernel
theorem dL_law_83 : decode cL_law 83 = .ok (.iload 6, 2) := by decide +kernel
theorem dL_law_85 : decode cL_law 85 = .ok (.invokevirtual 168, 3) := by decide +kernel
theorem dL_law_88 : decode cL_law 88 = .ok (.istore 8, 2) := by decide +kernel
theorem dL_law_90 : decode cL_law 90 = .ok (.aload_n 1, 1) := by decide +kernel
theorem dL_law_91 : decode cL_law 91 = .ok (.iload 6, 2) := by decide +kernel
theorem dL_law_93 : decode cL_law 93 = .ok (.iconst 0, 1) := by decide +kernel
theorem dL_law_94 : decode cL_law 94 = .ok (.invokevirtual 171, 3) := by decide +kernel
theorem dL_law_97 : decode cL_law 97 = .ok (.istore 9, 2) := by decide +kernel
theorem dL_law_99 : decode cL_law 99 = .ok (.aload_n 1, 1) := by decide +kernel
theorem dL_law_100 : decode cL_law 100 = .ok (.iload 6, 2) := by decide +kernel
theorem dL_law_102 : decode cL_law 102 = .ok (.iconst 1, 1) := by decide +kernel
theorem dL_law_103 : decode cL_law 103 = .ok (.invokevirtual 171, 3) := by decide +kernel
theorem dL_law_106 : decode cL_law 106 = .ok (.istore 10, 2) := by decide +kernel
theorem dL_law_108 : decode cL_law 108 = .ok (.bipush 40, 2) := by decide +kernel
theorem dL_law_110 : decode cL_law 110 = .ok (.newarray .int, 2) := by decide +kernel
theorem dL_law_112 : decode cL_law 112 = .ok (.astore 11, 2) := by decide +kernel
theorem dL_law_114 : decode cL_law 114 = .ok (.iload 7, 2) := by decide +kernel
theorem dL_law_116 : decode cL_law 116 = .ok (.ifCond .lt 127, 3) := by decide +kernel
theorem dL_law_119 : decode cL_law 119 = .ok (.iconst 0, 1) := by decide +kernel
theorem dL_law_120 : decode cL_law 120 = .ok (.istore 12, 2) := by decide +kernel
theorem dL_law_122 : decode cL_law 122 = .ok (.iload 12, 2) := by decide +kernel
theorem dL_law_124 : decode cL_law 124 = .ok (.iload 7, 2) := by decide +kernel
theorem dL_law_126 : decode cL_law 126 = .ok (.if_icmp .ge 65, 3) := by decide +kernel
theorem dL_law_129 : decode cL_law 129 = .ok (.aload 11, 2) := by decide +kernel
theorem dL_law_131 : decode cL_law 131 = .ok (.iload 6, 2) := by decide +kernel
theorem dL_law_133 : decode cL_law 133 = .ok (.iload 12, 2) := by decide +kernel
theorem dL_law_135 : decode cL_law 135 = .ok (.iadd, 1) := by decide +kernel
theorem dL_law_136 : decode cL_law 136 = .ok (.aload_n 1, 1) := by decide +kernel
theorem dL_law_137 : decode cL_law 137 = .ok (.iload 6, 2) := by decide +kernel
theorem dL_law_139 : decode cL_law 139 = .ok (.iload 12, 2) := by decide +kernel
theorem dL_law_141 : decode cL_law 141 = .ok (.invokevirtual 174, 3) := by decide +kernel
theorem dL_law_144 : decode cL_law 144 = .ok (.iastore, 1) := by decide +kernel
theorem dL_law_145 : decode cL_law 145 = .ok (.aload 11, 2) := by decide +kernel
theorem dL_law_147 : decode cL_law 147 = .ok (.iload 6, 2) := by decide +kernel
theorem dL_law_149 : decode cL_law 149 = .ok (.iload 12, 2) := by decide +kernel
theorem dL_law_151 : decode cL_law 151 = .ok (.iadd, 1) := by decide +kernel
theorem dL_law_152 : decode cL_law 152 = .ok (.iaload, 1) := by decide +kernel
theorem dL_law_153 : decode cL_law 153 = .ok (.ifCond .lt 30, 3) := by decide +kernel
theorem dL_law_156 : decode cL_law 156 = .ok (.aload 4, 2) := by decide +kernel
theorem dL_law_158 : decode cL_law 158 = .ok (.aload 11, 2) := by decide +kernel
theorem dL_law_160 : decode cL_law 160 = .ok (.iload 6, 2) := by decide +kernel
theorem dL_law_162 : decode cL_law 162 = .ok (.iload 12, 2) := by decide +kernel
theorem dL_law_164 : decode cL_law 164 = .ok (.iadd, 1) := by decide +kernel
theorem dL_law_165 : decode cL_law 165 = .ok (.iaload, 1) := by decide +kernel
theorem dL_law_166 : decode cL_law 166 = .ok (.iaload, 1) := by decide +kernel
theorem dL_law_167 : decode cL_law 167 = .ok (.aload_n 3, 1) := by decide +kernel
theorem dL_law_168 : decode cL_law 168 = .ok (.aload 11, 2) := by decide +kernel
theorem dL_law_170 : decode cL_law 170 = .ok (.iload 6, 2) := by decide +kernel
theorem dL_law_172 : decode cL_law 172 = .ok (.iload 6, 2) := by decide +kernel
theorem dL_law_174 : decode cL_law 174 = .ok (.iload 12, 2) := by decide +kernel
theorem dL_law_176 : decode cL_law 176 = .ok (.iadd, 1) := by decide +kernel
theorem dL_law_177 : decode cL_law 177 = .ok (.invokestatic 177, 3) := by decide +kernel
theorem dL_law_180 : decode cL_law 180 = .ok (.ifCond .ne 5, 3) := by decide +kernel
theorem dL_law_183 : decode cL_law 183 = .ok (.iconst 0, 1) := by decide +kernel
theorem dL_law_184 : decode cL_law 184 = .ok (.ireturn, 1) := by decide +kernel
theorem dL_law_185 : decode cL_law 185 = .ok (.iinc 12 1, 3) := by decide +kernel
theorem dL_law_188 : decode cL_law 188 = .ok (.goto (-66), 3) := by decide +kernel
theorem dL_law_191 : decode cL_law 191 = .ok (.aload_n 1, 1) := by decide +kernel
theorem dL_law_192 : decode cL_law 192 = .ok (.iload 6, 2) := by decide +kernel
theorem dL_law_194 : decode cL_law 194 = .ok (.iload 7, 2) := by decide +kernel
theorem dL_law_196 : decode cL_law 196 = .ok (.invokevirtual 174, 3) := by decide +kernel
theorem dL_law_199 : decode cL_law 199 = .ok (.bipush (-5), 2) := by decide +kernel
theorem dL_law_201 : decode cL_law 201 = .ok (.if_icmp .ne 40, 3) := by decide +kernel
theorem dL_law_204 : decode cL_law 204 = .ok (.aload_n 1, 1) := by decide +kernel
theorem dL_law_205 : decode cL_law 205 = .ok (.iload 6, 2) := by decide +kernel
theorem dL_law_207 : decode cL_law 207 = .ok (.iload 6, 2) := by decide +kernel
theorem dL_law_209 : decode cL_law 209 = .ok (.iload 7, 2) := by decide +kernel
theorem dL_law_211 : decode cL_law 211 = .ok (.iadd, 1) := by decide +kernel
theorem dL_law_212 : decode cL_law 212 = .ok (.invokevirtual 181, 3) := by decide +kernel
theorem dL_law_215 : decode cL_law 215 = .ok (.iconst 1, 1) := by decide +kernel
theorem dL_law_216 : decode cL_law 216 = .ok (.if_icmp .ne 25, 3) := by decide +kernel
theorem dL_law_219 : decode cL_law 219 = .ok (.aload_n 1, 1) := by decide +kernel
theorem dL_law_220 : decode cL_law 220 = .ok (.iload 6, 2) := by decide +kernel
theorem dL_law_222 : decode cL_law 222 = .ok (.invokevirtual 184, 3) := by decide +kernel
theorem dL_law_225 : decode cL_law 225 = .ok (.iconst 1, 1) := by decide +kernel
theorem dL_law_226 : decode cL_law 226 = .ok (.if_icmp .lt 15, 3) := by decide +kernel
theorem dL_law_229 : decode cL_law 229 = .ok (.aload_n 1, 1) := by decide +kernel
theorem dL_law_230 : decode cL_law 230 = .ok (.iload 6, 2) := by decide +kernel
theorem dL_law_232 : decode cL_law 232 = .ok (.invokevirtual 184, 3) := by decide +kernel
theorem dL_law_235 : decode cL_law 235 = .ok (.sipush 800, 3) := by decide +kernel
theorem dL_law_238 : decode cL_law 238 = .ok (.if_icmp .le 5, 3) := by decide +kernel
theorem dL_law_241 : decode cL_law 241 = .ok (.iconst 0, 1) := by decide +kernel
theorem dL_law_242 : decode cL_law 242 = .ok (.ireturn, 1) := by decide +kernel
theorem dL_law_243 : decode cL_law 243 = .ok (.iload 7, 2) := by decide +kernel
theorem dL_law_245 : decode cL_law 245 = .ok (.bipush (-5), 2) := by decide +kernel
theorem dL_law_247 : decode cL_law 247 = .ok (.if_icmp .ne 22, 3) := by decide +kernel
theorem dL_law_250 : decode cL_law 250 = .ok (.iload 8, 2) := by decide +kernel
theorem dL_law_252 : decode cL_law 252 = .ok (.ifCond .ne 42, 3) := by decide +kernel
theorem dL_law_255 : decode cL_law 255 = .ok (.iload 9, 2) := by decide +kernel
theorem dL_law_257 : decode cL_law 257 = .ok (.bipush (-5), 2) := by decide +kernel
theorem dL_law_259 : decode cL_law 259 = .ok (.if_icmp .ne 35, 3) := by decide +kernel
theorem dL_law_262 : decode cL_law 262 = .ok (.iload 10, 2) := by decide +kernel
theorem dL_law_264 : decode cL_law 264 = .ok (.bipush (-5), 2) := by decide +kernel
theorem dL_law_266 : decode cL_law 266 = .ok (.if_icmp .ne 28, 3) := by decide +kernel
theorem dL_law_269 : decode cL_law 269 = .ok (.iload 7, 2) := by decide +kernel
theorem dL_law_271 : decode cL_law 271 = .ok (.bipush (-7), 2) := by decide +kernel
theorem dL_law_273 : decode cL_law 273 = .ok (.if_icmp .ne 23, 3) := by decide +kernel
theorem dL_law_276 : decode cL_law 276 = .ok (.iload 8, 2) := by decide +kernel
theorem dL_law_278 : decode cL_law 278 = .ok (.bipush (-7), 2) := by decide +kernel
theorem dL_law_280 : decode cL_law 280 = .ok (.if_icmp .ne 14, 3) := by decide +kernel
theorem dL_law_283 : decode cL_law 283 = .ok (.aload_n 1, 1) := by decide +kernel
theorem dL_law_284 : decode cL_law 284 = .ok (.iload 6, 2) := by decide +kernel
theorem dL_law_286 : decode cL_law 286 = .ok (.invokevirtual 184, 3) := by decide +kernel
theorem dL_law_289 : decode cL_law 289 = .ok (.bipush (-7), 2) := by decide +kernel
theorem dL_law_291 : decode cL_law 291 = .ok (.if_icmp .eq 5, 3) := by decide +kernel
theorem dL_law_294 : decode cL_law 294 = .ok (.iconst 0, 1) := by decide +kernel
theorem dL_law_295 : decode cL_law 295 = .ok (.ireturn, 1) := by decide +kernel
theorem dL_law_296 : decode cL_law 296 = .ok (.iload 8, 2) := by decide +kernel
theorem dL_law_298 : decode cL_law 298 = .ok (.ifCond .lt 170, 3) := by decide +kernel
theorem dL_law_301 : decode cL_law 301 = .ok (.iload 8, 2) := by decide +kernel
theorem dL_law_303 : decode cL_law 303 = .ok (.ifCond .ne 7, 3) := by decide +kernel
theorem dL_law_306 : decode cL_law 306 = .ok (.iconst 1, 1) := by decide +kernel
theorem dL_law_307 : decode cL_law 307 = .ok (.goto 4, 3) := by decide +kernel
theorem dL_law_310 : decode cL_law 310 = .ok (.iconst 0, 1) := by decide +kernel
theorem dL_law_311 : decode cL_law 311 = .ok (.iload 7, 2) := by decide +kernel
theorem dL_law_313 : decode cL_law 313 = .ok (.bipush (-5), 2) := by decide +kernel
theorem dL_law_315 : decode cL_law 315 = .ok (.if_icmp .ne 7, 3) := by decide +kernel
theorem dL_law_318 : decode cL_law 318 = .ok (.iconst 1, 1) := by decide +kernel
theorem dL_law_319 : decode cL_law 319 = .ok (.goto 4, 3) := by decide +kernel
theorem dL_law_322 : decode cL_law 322 = .ok (.iconst 0, 1) := by decide +kernel
theorem dL_law_323 : decode cL_law 323 = .ok (.if_icmp .ne 36, 3) := by decide +kernel
theorem dL_law_326 : decode cL_law 326 = .ok (.iload 8, 2) := by decide +kernel
theorem dL_law_328 : decode cL_law 328 = .ok (.ifCond .le 33, 3) := by decide +kernel
theorem dL_law_331 : decode cL_law 331 = .ok (.iload 9, 2) := by decide +kernel
theorem dL_law_333 : decode cL_law 333 = .ok (.iload 7, 2) := by decide +kernel
theorem dL_law_335 : decode cL_law 335 = .ok (.if_icmp .gt 24, 3) := by decide +kernel
theorem dL_law_338 : decode cL_law 338 = .ok (.iload 7, 2) := by decide +kernel
theorem dL_law_340 : decode cL_law 340 = .ok (.iload 10, 2) := by decide +kernel
theorem dL_law_342 : decode cL_law 342 = .ok (.if_icmp .gt 17, 3) := by decide +kernel
theorem dL_law_345 : decode cL_law 345 = .ok (.iload 9, 2) := by decide +kernel
theorem dL_law_347 : decode cL_law 347 = .ok (.ifCond .lt 12, 3) := by decide +kernel
theorem dL_law_350 : decode cL_law 350 = .ok (.iload 6, 2) := by decide +kernel
theorem dL_law_352 : decode cL_law 352 = .ok (.iload 10, 2) := by decide +kernel
theorem dL_law_354 : decode cL_law 354 = .ok (.iadd, 1) := by decide +kernel
theorem dL_law_355 : decode cL_law 355 = .ok (.iload_n 2, 1) := by decide +kernel
theorem dL_law_356 : decode cL_law 356 = .ok (.if_icmp .le 5, 3) := by decide +kernel
theorem dL_law_359 : decode cL_law 359 = .ok (.iconst 0, 1) := by decide +kernel
theorem dL_law_360 : decode cL_law 360 = .ok (.ireturn, 1) := by decide +kernel
theorem dL_law_361 : decode cL_law 361 = .ok (.iload 6, 2) := by decide +kernel
theorem dL_law_363 : decode cL_law 363 = .ok (.istore 12, 2) := by decide +kernel
theorem dL_law_365 : decode cL_law 365 = .ok (.iload 12, 2) := by decide +kernel
theorem dL_law_367 : decode cL_law 367 = .ok (.iload_n 2, 1) := by decide +kernel
theorem dL_law_368 : decode cL_law 368 = .ok (.if_icmp .gt 100, 3) := by decide +kernel
theorem dL_law_371 : decode cL_law 371 = .ok (.aload_n 1, 1) := by decide +kernel
theorem dL_law_372 : decode cL_law 372 = .ok (.iload 6, 2) := by decide +kernel
theorem dL_law_374 : decode cL_law 374 = .ok (.iload 12, 2) := by decide +kernel
theorem dL_law_376 : decode cL_law 376 = .ok (.invokevirtual 181, 3) := by decide +kernel
theorem dL_law_379 : decode cL_law 379 = .ok (.istore 13, 2) := by decide +kernel
theorem dL_law_381 : decode cL_law 381 = .ok (.iload 12, 2) := by decide +kernel
theorem dL_law_383 : decode cL_law 383 = .ok (.iload 6, 2) := by decide +kernel
theorem dL_law_385 : decode cL_law 385 = .ok (.isub, 1) := by decide +kernel
theorem dL_law_386 : decode cL_law 386 = .ok (.iload 9, 2) := by decide +kernel
theorem dL_law_388 : decode cL_law 388 = .ok (.if_icmp .lt 13, 3) := by decide +kernel
theorem dL_law_391 : decode cL_law 391 = .ok (.iload 12, 2) := by decide +kernel
theorem dL_law_393 : decode cL_law 393 = .ok (.iload 6, 2) := by decide +kernel
theorem dL_law_395 : decode cL_law 395 = .ok (.isub, 1) := by decide +kernel
theorem dL_law_396 : decode cL_law 396 = .ok (.iload 10, 2) := by decide +kernel
theorem dL_law_398 : decode cL_law 398 = .ok (.if_icmp .le 7, 3) := by decide +kernel
theorem dL_law_401 : decode cL_law 401 = .ok (.iconst 1, 1) := by decide +kernel
theorem dL_law_402 : decode cL_law 402 = .ok (.goto 4, 3) := by decide +kernel
theorem dL_law_405 : decode cL_law 405 = .ok (.iconst 0, 1) := by decide +kernel
theorem dL_law_406 : decode cL_law 406 = .ok (.istore 14, 2) := by decide +kernel
theorem dL_law_408 : decode cL_law 408 = .ok (.iload 13, 2) := by decide +kernel
theorem dL_law_410 : decode cL_law 410 = .ok (.ifCond .lt 50, 3) := by decide +kernel
theorem dL_law_413 : decode cL_law 413 = .ok (.iload 13, 2) := by decide +kernel
theorem dL_law_415 : decode cL_law 415 = .ok (.iconst 1, 1) := by decide +kernel
theorem dL_law_416 : decode cL_law 416 = .ok (.if_icmp .ne 13, 3) := by decide +kernel
theorem dL_law_419 : decode cL_law 419 = .ok (.iload 8, 2) := by decide +kernel
theorem dL_law_421 : decode cL_law 421 = .ok (.ifCond .eq 39, 3) := by decide +kernel
theorem dL_law_424 : decode cL_law 424 = .ok (.iload 14, 2) := by decide +kernel
theorem dL_law_426 : decode cL_law 426 = .ok (.ifCond .ne 34, 3) := by decide +kernel
theorem dL_law_429 : decode cL_law 429 = .ok (.iload 8, 2) := by decide +kernel
theorem dL_law_431 : decode cL_law 431 = .ok (.ifCond .le 31, 3) := by decide +kernel
theorem dL_law_434 : decode cL_law 434 = .ok (.iload 12, 2) := by decide +kernel
theorem dL_law_436 : decode cL_law 436 = .ok (.iload 6, 2) := by decide +kernel
theorem dL_law_438 : decode cL_law 438 = .ok (.isub, 1) := by decide +kernel
theorem dL_law_439 : decode cL_law 439 = .ok (.iload 9, 2) := by decide +kernel
theorem dL_law_441 : decode cL_law 441 = .ok (.if_icmp .eq 13, 3) := by decide +kernel
theorem dL_law_444 : decode cL_law 444 = .ok (.iload 12, 2) := by decide +kernel
theorem dL_law_446 : decode cL_law 446 = .ok (.iload 6, 2) := by decide +kernel
theorem dL_law_448 : decode cL_law 448 = .ok (.isub, 1) := by decide +kernel
theorem dL_law_449 : decode cL_law 449 = .ok (.iload 10, 2) := by decide +kernel
theorem dL_law_451 : decode cL_law 451 = .ok (.if_icmp .ne 11, 3) := by decide +kernel
theorem dL_law_454 : decode cL_law 454 = .ok (.iload 13, 2) := by decide +kernel
theorem dL_law_456 : decode cL_law 456 = .ok (.iconst 1, 1) := by decide +kernel
theorem dL_law_457 : decode cL_law 457 = .ok (.if_icmp .eq 5, 3) := by decide +kernel
theorem dL_law_460 : decode cL_law 460 = .ok (.iconst 0, 1) := by decide +kernel
theorem dL_law_461 : decode cL_law 461 = .ok (.ireturn, 1) := by decide +kernel
theorem dL_law_462 : decode cL_law 462 = .ok (.iinc 12 1, 3) := by decide +kernel
theorem dL_law_465 : decode cL_law 465 = .ok (.goto (-100), 3) := by decide +kernel
theorem dL_law_468 : decode cL_law 468 = .ok (.iinc 6 1, 3) := by decide +kernel
theorem dL_law_471 : decode cL_law 471 = .ok (.goto (-403), 3) := by decide +kernel
theorem dL_law_474 : decode cL_law 474 = .ok (.aload_n 0, 1) := by decide +kernel
theorem dL_law_475 : decode cL_law 475 = .ok (.bipush 45, 2) := by decide +kernel
theorem dL_law_477 : decode cL_law 477 = .ok (.iconst 4, 1) := by decide +kernel
theorem dL_law_478 : decode cL_law 478 = .ok (.invokestatic 17, 3) := by decide +kernel
theorem dL_law_481 : decode cL_law 481 = .ok (.istore 6, 2) := by decide +kernel
theorem dL_law_483 : decode cL_law 483 = .ok (.aload_n 0, 1) := by decide +kernel
theorem dL_law_484 : decode cL_law 484 = .ok (.bipush 46, 2) := by decide +kernel
theorem dL_law_486 : decode cL_law 486 = .ok (.iconst 3, 1) := by decide +kernel
theorem dL_law_487 : decode cL_law 487 = .ok (.invokestatic 17, 3) := by decide +kernel
theorem dL_law_490 : decode cL_law 490 = .ok (.istore 7, 2) := by decide +kernel
theorem dL_law_492 : decode cL_law 492 = .ok (.aload_n 0, 1) := by decide +kernel
theorem dL_law_493 : decode cL_law 493 = .ok (.bipush 47, 2) := by decide +kernel
theorem dL_law_495 : decode cL_law 495 = .ok (.iconst 2, 1) := by decide +kernel
theorem dL_law_496 : decode cL_law 496 = .ok (.invokestatic 17, 3) := by decide +kernel
theorem dL_law_499 : decode cL_law 499 = .ok (.istore 8, 2) := by decide +kernel
theorem dL_law_501 : decode cL_law 501 = .ok (.aload_n 1, 1) := by decide +kernel
theorem dL_law_502 : decode cL_law 502 = .ok (.iload 6, 2) := by decide +kernel
theorem dL_law_504 : decode cL_law 504 = .ok (.iload 7, 2) := by decide +kernel
theorem dL_law_506 : decode cL_law 506 = .ok (.invokevirtual 187, 3) := by decide +kernel
theorem dL_law_509 : decode cL_law 509 = .ok (.pop, 1) := by decide +kernel
theorem dL_law_510 : decode cL_law 510 = .ok (.aload_n 1, 1) := by decide +kernel
theorem dL_law_511 : decode cL_law 511 = .ok (.iload 8, 2) := by decide +kernel
theorem dL_law_513 : decode cL_law 513 = .ok (.invokevirtual 190, 3) := by decide +kernel
theorem dL_law_516 : decode cL_law 516 = .ok (.pop, 1) := by decide +kernel
theorem dL_law_517 : decode cL_law 517 = .ok (.aload_n 1, 1) := by decide +kernel
theorem dL_law_518 : decode cL_law 518 = .ok (.invokevirtual 193, 3) := by decide +kernel
theorem dL_law_521 : decode cL_law 521 = .ok (.istore 9, 2) := by decide +kernel
theorem dL_law_523 : decode cL_law 523 = .ok (.iconst 0, 1) := by decide +kernel
theorem dL_law_524 : decode cL_law 524 = .ok (.istore 10, 2) := by decide +kernel
theorem dL_law_526 : decode cL_law 526 = .ok (.iconst 0, 1) := by decide +kernel
theorem dL_law_527 : decode cL_law 527 = .ok (.istore 11, 2) := by decide +kernel
theorem dL_law_529 : decode cL_law 529 = .ok (.iconst 0, 1) := by decide +kernel
theorem dL_law_530 : decode cL_law 530 = .ok (.istore 12, 2) := by decide +kernel
theorem dL_law_532 : decode cL_law 532 = .ok (.iload 12, 2) := by decide +kernel
theorem dL_law_534 : decode cL_law 534 = .ok (.iload 9, 2) := by decide +kernel
theorem dL_law_536 : decode cL_law 536 = .ok (.if_icmp .ge 355, 3) := by decide +kernel
theorem dL_law_539 : decode cL_law 539 = .ok (.aload_n 1, 1) := by decide +kernel
theorem dL_law_540 : decode cL_law 540 = .ok (.iload 12, 2) := by decide +kernel
theorem dL_law_542 : decode cL_law 542 = .ok (.iconst 0, 1) := by decide +kernel
theorem dL_law_543 : decode cL_law 543 = .ok (.invokevirtual 196, 3) := by decide +kernel
theorem dL_law_546 : decode cL_law 546 = .ok (.istore 13, 2) := by decide +kernel
theorem dL_law_548 : decode cL_law 548 = .ok (.aload_n 1, 1) := by decide +kernel
theorem dL_law_549 : decode cL_law 549 = .ok (.iload 12, 2) := by decide +kernel
theorem dL_law_551 : decode cL_law 551 = .ok (.iconst 1, 1) := by decide +kernel
theorem dL_law_552 : decode cL_law 552 = .ok (.invokevirtual 196, 3) := by decide +kernel
theorem dL_law_555 : decode cL_law 555 = .ok (.istore 14, 2) := by decide +kernel
theorem dL_law_557 : decode cL_law 557 = .ok (.iload 13, 2) := by decide +kernel
theorem dL_law_559 : decode cL_law 559 = .ok (.iload 10, 2) := by decide +kernel
theorem dL_law_561 : decode cL_law 561 = .ok (.if_icmp .lt 24, 3) := by decide +kernel
theorem dL_law_564 : decode cL_law 564 = .ok (.iload 14, 2) := by decide +kernel
theorem dL_law_566 : decode cL_law 566 = .ok (.aload_n 1, 1) := by decide +kernel
theorem dL_law_567 : decode cL_law 567 = .ok (.iload 13, 2) := by decide +kernel
theorem dL_law_569 : decode cL_law 569 = .ok (.invokevirtual 165, 3) := by decide +kernel
theorem dL_law_572 : decode cL_law 572 = .ok (.if_icmp .ne 13, 3) := by decide +kernel
theorem dL_law_575 : decode cL_law 575 = .ok (.iload 8, 2) := by decide +kernel
theorem dL_law_577 : decode cL_law 577 = .ok (.ifCond .ne 10, 3) := by decide +kernel
theorem dL_law_580 : decode cL_law 580 = .ok (.iload 14, 2) := by decide +kernel
theorem dL_law_582 : decode cL_law 582 = .ok (.ifCond .ne 5, 3) := by decide +kernel
theorem dL_law_585 : decode cL_law 585 = .ok (.iconst 0, 1) := by decide +kernel
theorem dL_law_586 : decode cL_law 586 = .ok (.ireturn, 1) := by decide +kernel
theorem dL_law_587 : decode cL_law 587 = .ok (.iload 10, 2) := by decide +kernel
theorem dL_law_589 : decode cL_law 589 = .ok (.istore 15, 2) := by decide +kernel
theorem dL_law_591 : decode cL_law 591 = .ok (.iload 15, 2) := by decide +kernel
theorem dL_law_593 : decode cL_law 593 = .ok (.iload 13, 2) := by decide +kernel
theorem dL_law_595 : decode cL_law 595 = .ok (.if_icmp .ge 42, 3) := by decide +kernel
theorem dL_law_598 : decode cL_law 598 = .ok (.aload_n 1, 1) := by decide +kernel
theorem dL_law_599 : decode cL_law 599 = .ok (.iload 15, 2) := by decide +kernel
theorem dL_law_601 : decode cL_law 601 = .ok (.invokevirtual 165, 3) := by decide +kernel
theorem dL_law_604 : decode cL_law 604 = .ok (.istore 16, 2) := by decide +kernel
theorem dL_law_606 : decode cL_law 606 = .ok (.iload 16, 2) := by decide +kernel
theorem dL_law_608 : decode cL_law 608 = .ok (.ifCond .gt 21, 3) := by decide +kernel
theorem dL_law_611 : decode cL_law 611 = .ok (.iload 16, 2) := by decide +kernel
theorem dL_law_613 : decode cL_law 613 = .ok (.ifCond .ne 9, 3) := by decide +kernel
theorem dL_law_616 : decode cL_law 616 = .ok (.iload 8, 2) := by decide +kernel
theorem dL_law_618 : decode cL_law 618 = .ok (.iconst 1, 1) := by decide +kernel
theorem dL_law_619 : decode cL_law 619 = .ok (.if_icmp .eq 10, 3) := by decide +kernel
theorem dL_law_622 : decode cL_law 622 = .ok (.iload 16, 2) := by decide +kernel
theorem dL_law_624 : decode cL_law 624 = .ok (.bipush (-7), 2) := by decide +kernel
theorem dL_law_626 : decode cL_law 626 = .ok (.if_icmp .ne 5, 3) := by decide +kernel
theorem dL_law_629 : decode cL_law 629 = .ok (.iconst 0, 1) := by decide +kernel
theorem dL_law_630 : decode cL_law 630 = .ok (.ireturn, 1) := by decide +kernel
theorem dL_law_631 : decode cL_law 631 = .ok (.iinc 15 1, 3) := by decide +kernel
theorem dL_law_634 : decode cL_law 634 = .ok (.goto (-43), 3) := by decide +kernel
theorem dL_law_637 : decode cL_law 637 = .ok (.iload 13, 2) := by decide +kernel
theorem dL_law_639 : decode cL_law 639 = .ok (.iconst 1, 1) := by decide +kernel
theorem dL_law_640 : decode cL_law 640 = .ok (.iadd, 1) := by decide +kernel
theorem dL_law_641 : decode cL_law 641 = .ok (.istore 15, 2) := by decide +kernel
theorem dL_law_643 : decode cL_law 643 = .ok (.iconst 0, 1) := by decide +kernel
theorem dL_law_644 : decode cL_law 644 = .ok (.istore 16, 2) := by decide +kernel
theorem dL_law_646 : decode cL_law 646 = .ok (.iload 16, 2) := by decide +kernel
theorem dL_law_648 : decode cL_law 648 = .ok (.iload 14, 2) := by decide +kernel
theorem dL_law_650 : decode cL_law 650 = .ok (.if_icmp .ge 118, 3) := by decide +kernel
theorem dL_law_653 : decode cL_law 653 = .ok (.aload_n 1, 1) := by decide +kernel
theorem dL_law_654 : decode cL_law 654 = .ok (.iload 12, 2) := by decide +kernel
theorem dL_law_656 : decode cL_law 656 = .ok (.iload 13, 2) := by decide +kernel
theorem dL_law_658 : decode cL_law 658 = .ok (.iload 16, 2) := by decide +kernel
theorem dL_law_660 : decode cL_law 660 = .ok (.iadd, 1) := by decide +kernel
theorem dL_law_661 : decode cL_law 661 = .ok (.invokevirtual 199, 3) := by decide +kernel
theorem dL_law_664 : decode cL_law 664 = .ok (.aload_n 1, 1) := by decide +kernel
theorem dL_law_665 : decode cL_law 665 = .ok (.iload 13, 2) := by decide +kernel
theorem dL_law_667 : decode cL_law 667 = .ok (.iload 16, 2) := by decide +kernel
theorem dL_law_669 : decode cL_law 669 = .ok (.invokevirtual 174, 3) := by decide +kernel
theorem dL_law_672 : decode cL_law 672 = .ok (.if_icmp .eq 5, 3) := by decide +kernel
theorem dL_law_675 : decode cL_law 675 = .ok (.iconst 0, 1) := by decide +kernel
theorem dL_law_676 : decode cL_law 676 = .ok (.ireturn, 1) := by decide +kernel
theorem dL_law_677 : decode cL_law 677 = .ok (.aload_n 1, 1) := by decide +kernel
theorem dL_law_678 : decode cL_law 678 = .ok (.iload 13, 2) := by decide +kernel
theorem dL_law_680 : decode cL_law 680 = .ok (.iload 16, 2) := by decide +kernel
theorem dL_law_682 : decode cL_law 682 = .ok (.invokevirtual 174, 3) := by decide +kernel
theorem dL_law_685 : decode cL_law 685 = .ok (.iload 7, 2) := by decide +kernel
theorem dL_law_687 : decode cL_law 687 = .ok (.if_icmp .ne 26, 3) := by decide +kernel
theorem dL_law_690 : decode cL_law 690 = .ok (.iload 6, 2) := by decide +kernel
theorem dL_law_692 : decode cL_law 692 = .ok (.iconst 3, 1) := by decide +kernel
theorem dL_law_693 : decode cL_law 693 = .ok (.if_icmp .eq 16, 3) := by decide +kernel
theorem dL_law_696 : decode cL_law 696 = .ok (.iload 6, 2) := by decide +kernel
theorem dL_law_698 : decode cL_law 698 = .ok (.iconst 2, 1) := by decide +kernel
theorem dL_law_699 : decode cL_law 699 = .ok (.if_icmp .ne 14, 3) := by decide +kernel
theorem dL_law_702 : decode cL_law 702 = .ok (.iload 11, 2) := by decide +kernel
theorem dL_law_704 : decode cL_law 704 = .ok (.iload 13, 2) := by decide +kernel
theorem dL_law_706 : decode cL_law 706 = .ok (.if_icmp .gt 7, 3) := by decide +kernel
theorem dL_law_709 : decode cL_law 709 = .ok (.iconst 1, 1) := by decide +kernel
theorem dL_law_710 : decode cL_law 710 = .ok (.goto 4, 3) := by decide +kernel
theorem dL_law_713 : decode cL_law 713 = .ok (.iconst 0, 1) := by decide +kernel
theorem dL_law_714 : decode cL_law 714 = .ok (.istore 17, 2) := by decide +kernel
theorem dL_law_716 : decode cL_law 716 = .ok (.iload 17, 2) := by decide +kernel
theorem dL_law_718 : decode cL_law 718 = .ok (.ifCond .eq 13, 3) := by decide +kernel
theorem dL_law_721 : decode cL_law 721 = .ok (.iload 13, 2) := by decide +kernel
theorem dL_law_723 : decode cL_law 723 = .ok (.iload 16, 2) := by decide +kernel
theorem dL_law_725 : decode cL_law 725 = .ok (.iadd, 1) := by decide +kernel
theorem dL_law_726 : decode cL_law 726 = .ok (.iconst 1, 1) := by decide +kernel
theorem dL_law_727 : decode cL_law 727 = .ok (.iadd, 1) := by decide +kernel
theorem dL_law_728 : decode cL_law 728 = .ok (.goto 5, 3) := by decide +kernel
theorem dL_law_731 : decode cL_law 731 = .ok (.iload 11, 2) := by decide +kernel
theorem dL_law_733 : decode cL_law 733 = .ok (.istore 11, 2) := by decide +kernel
theorem dL_law_735 : decode cL_law 735 = .ok (.iload 17, 2) := by decide +kernel
theorem dL_law_737 : decode cL_law 737 = .ok (.ifCond .eq 21, 3) := by decide +kernel
theorem dL_law_740 : decode cL_law 740 = .ok (.iload 13, 2) := by decide +kernel
theorem dL_law_742 : decode cL_law 742 = .ok (.iload 16, 2) := by decide +kernel
theorem dL_law_744 : decode cL_law 744 = .ok (.iadd, 1) := by decide +kernel
theorem dL_law_745 : decode cL_law 745 = .ok (.iload 15, 2) := by decide +kernel
theorem dL_law_747 : decode cL_law 747 = .ok (.if_icmp .le 11, 3) := by decide +kernel
theorem dL_law_750 : decode cL_law 750 = .ok (.iload 13, 2) := by decide +kernel
theorem dL_law_752 : decode cL_law 752 = .ok (.iload 16, 2) := by decide +kernel
theorem dL_law_754 : decode cL_law 754 = .ok (.iadd, 1) := by decide +kernel
theorem dL_law_755 : decode cL_law 755 = .ok (.goto 5, 3) := by decide +kernel
theorem dL_law_758 : decode cL_law 758 = .ok (.iload 15, 2) := by decide +kernel
theorem dL_law_760 : decode cL_law 760 = .ok (.istore 15, 2) := by decide +kernel
theorem dL_law_762 : decode cL_law 762 = .ok (.iinc 16 1, 3) := by decide +kernel
theorem dL_law_765 : decode cL_law 765 = .ok (.goto (-119), 3) := by decide +kernel
theorem dL_law_768 : decode cL_law 768 = .ok (.iconst 0, 1) := by decide +kernel
theorem dL_law_769 : decode cL_law 769 = .ok (.istore 11, 2) := by decide +kernel
theorem dL_law_771 : decode cL_law 771 = .ok (.iload 6, 2) := by decide +kernel
theorem dL_law_773 : decode cL_law 773 = .ok (.iconst 2, 1) := by decide +kernel
theorem dL_law_774 : decode cL_law 774 = .ok (.if_icmp .ne 69, 3) := by decide +kernel
theorem dL_law_777 : decode cL_law 777 = .ok (.iload 13, 2) := by decide +kernel
theorem dL_law_779 : decode cL_law 779 = .ok (.iconst 1, 1) := by decide +kernel
theorem dL_law_780 : decode cL_law 780 = .ok (.iadd, 1) := by decide +kernel
theorem dL_law_781 : decode cL_law 781 = .ok (.istore 15, 2) := by decide +kernel
theorem dL_law_783 : decode cL_law 783 = .ok (.iload 14, 2) := by decide +kernel
theorem dL_law_785 : decode cL_law 785 = .ok (.iconst 1, 1) := by decide +kernel
theorem dL_law_786 : decode cL_law 786 = .ok (.isub, 1) := by decide +kernel
theorem dL_law_787 : decode cL_law 787 = .ok (.istore 16, 2) := by decide +kernel
theorem dL_law_789 : decode cL_law 789 = .ok (.iload 16, 2) := by decide +kernel
theorem dL_law_791 : decode cL_law 791 = .ok (.ifCond .lt 34, 3) := by decide +kernel
theorem dL_law_794 : decode cL_law 794 = .ok (.aload_n 1, 1) := by decide +kernel
theorem dL_law_795 : decode cL_law 795 = .ok (.iload 13, 2) := by decide +kernel
theorem dL_law_797 : decode cL_law 797 = .ok (.iload 16, 2) := by decide +kernel
theorem dL_law_799 : decode cL_law 799 = .ok (.invokevirtual 174, 3) := by decide +kernel
theorem dL_law_802 : decode cL_law 802 = .ok (.iload 7, 2) := by decide +kernel
theorem dL_law_804 : decode cL_law 804 = .ok (.if_icmp .ne 11, 3) := by decide +kernel
theorem dL_law_807 : decode cL_law 807 = .ok (.iload 13, 2) := by decide +kernel
theorem dL_law_809 : decode cL_law 809 = .ok (.iload 16, 2) := by decide +kernel
theorem dL_law_811 : decode cL_law 811 = .ok (.iadd, 1) := by decide +kernel
theorem dL_law_812 : decode cL_law 812 = .ok (.goto 5, 3) := by decide +kernel
theorem dL_law_815 : decode cL_law 815 = .ok (.iload 15, 2) := by decide +kernel
theorem dL_law_817 : decode cL_law 817 = .ok (.istore 15, 2) := by decide +kernel
theorem dL_law_819 : decode cL_law 819 = .ok (.iinc 16 (-1), 3) := by decide +kernel
theorem dL_law_822 : decode cL_law 822 = .ok (.goto (-33), 3) := by decide +kernel
theorem dL_law_825 : decode cL_law 825 = .ok (.iload 15, 2) := by decide +kernel
theorem dL_law_827 : decode cL_law 827 = .ok (.iload 13, 2) := by decide +kernel
theorem dL_law_829 : decode cL_law 829 = .ok (.if_icmp .le 8, 3) := by decide +kernel
theorem dL_law_832 : decode cL_law 832 = .ok (.iload 15, 2) := by decide +kernel
theorem dL_law_834 : decode cL_law 834 = .ok (.goto 7, 3) := by decide +kernel
theorem dL_law_837 : decode cL_law 837 = .ok (.iload 13, 2) := by decide +kernel
theorem dL_law_839 : decode cL_law 839 = .ok (.iconst 1, 1) := by decide +kernel
theorem dL_law_840 : decode cL_law 840 = .ok (.iadd, 1) := by decide +kernel
theorem dL_law_841 : decode cL_law 841 = .ok (.istore 15, 2) := by decide +kernel
theorem dL_law_843 : decode cL_law 843 = .ok (.iload 6, 2) := by decide +kernel
theorem dL_law_845 : decode cL_law 845 = .ok (.ifCond .ne 23, 3) := by decide +kernel
theorem dL_law_848 : decode cL_law 848 = .ok (.iload 14, 2) := by decide +kernel
theorem dL_law_850 : decode cL_law 850 = .ok (.ifCond .ne 10, 3) := by decide +kernel
theorem dL_law_853 : decode cL_law 853 = .ok (.iload 13, 2) := by decide +kernel
theorem dL_law_855 : decode cL_law 855 = .ok (.iconst 1, 1) := by decide +kernel
theorem dL_law_856 : decode cL_law 856 = .ok (.iadd, 1) := by decide +kernel
theorem dL_law_857 : decode cL_law 857 = .ok (.goto 26, 3) := by decide +kernel
theorem dL_law_860 : decode cL_law 860 = .ok (.iload 13, 2) := by decide +kernel
theorem dL_law_862 : decode cL_law 862 = .ok (.iload 14, 2) := by decide +kernel
theorem dL_law_864 : decode cL_law 864 = .ok (.iadd, 1) := by decide +kernel
theorem dL_law_865 : decode cL_law 865 = .ok (.goto 18, 3) := by decide +kernel
theorem dL_law_868 : decode cL_law 868 = .ok (.iload 6, 2) := by decide +kernel
theorem dL_law_870 : decode cL_law 870 = .ok (.iconst 1, 1) := by decide +kernel
theorem dL_law_871 : decode cL_law 871 = .ok (.if_icmp .ne 10, 3) := by decide +kernel
theorem dL_law_874 : decode cL_law 874 = .ok (.iload 13, 2) := by decide +kernel
theorem dL_law_876 : decode cL_law 876 = .ok (.iconst 1, 1) := by decide +kernel
theorem dL_law_877 : decode cL_law 877 = .ok (.iadd, 1) := by decide +kernel
theorem dL_law_878 : decode cL_law 878 = .ok (.goto 5, 3) := by decide +kernel
theorem dL_law_881 : decode cL_law 881 = .ok (.iload 15, 2) := by decide +kernel
theorem dL_law_883 : decode cL_law 883 = .ok (.istore 10, 2) := by decide +kernel
theorem dL_law_885 : decode cL_law 885 = .ok (.iinc 12 1, 3) := by decide +kernel
theorem dL_law_888 : decode cL_law 888 = .ok (.goto (-356), 3) := by decide +kernel
theorem dL_law_891 : decode cL_law 891 = .ok (.iconst 0, 1) := by decide +kernel
theorem dL_law_892 : decode cL_law 892 = .ok (.istore 12, 2) := by decide +kernel
theorem dL_law_894 : decode cL_law 894 = .ok (.iconst 0, 1) := by decide +kernel
theorem dL_law_895 : decode cL_law 895 = .ok (.istore 13, 2) := by decide +kernel
theorem dL_law_897 : decode cL_law 897 = .ok (.iload 13, 2) := by decide +kernel
theorem dL_law_899 : decode cL_law 899 = .ok (.iload_n 2, 1) := by decide +kernel
theorem dL_law_900 : decode cL_law 900 = .ok (.if_icmp .ge 82, 3) := by decide +kernel
theorem dL_law_903 : decode cL_law 903 = .ok (.iload 9, 2) := by decide +kernel
theorem dL_law_905 : decode cL_law 905 = .ok (.ifCond .lt 77, 3) := by decide +kernel
theorem dL_law_908 : decode cL_law 908 = .ok (.iconst 0, 1) := by decide +kernel
theorem dL_law_909 : decode cL_law 909 = .ok (.istore 14, 2) := by decide +kernel
theorem dL_law_911 : decode cL_law 911 = .ok (.iconst 0, 1) := by decide +kernel
theorem dL_law_912 : decode cL_law 912 = .ok (.istore 15, 2) := by decide +kernel
theorem dL_law_914 : decode cL_law 914 = .ok (.iload 15, 2) := by decide +kernel
theorem dL_law_916 : decode cL_law 916 = .ok (.iload 9, 2) := by decide +kernel
theorem dL_law_918 : decode cL_law 918 = .ok (.if_icmp .ge 30, 3) := by decide +kernel
theorem dL_law_921 : decode cL_law 921 = .ok (.iload 14, 2) := by decide +kernel
theorem dL_law_923 : decode cL_law 923 = .ok (.aload_n 1, 1) := by decide +kernel
theorem dL_law_924 : decode cL_law 924 = .ok (.iload 15, 2) := by decide +kernel
theorem dL_law_926 : decode cL_law 926 = .ok (.iload 13, 2) := by decide +kernel
theorem dL_law_928 : decode cL_law 928 = .ok (.invokevirtual 199, 3) := by decide +kernel
theorem dL_law_931 : decode cL_law 931 = .ok (.ifCond .lt 7, 3) := by decide +kernel
theorem dL_law_934 : decode cL_law 934 = .ok (.iconst 1, 1) := by decide +kernel
theorem dL_law_935 : decode cL_law 935 = .ok (.goto 4, 3) := by decide +kernel
theorem dL_law_938 : decode cL_law 938 = .ok (.iconst 0, 1) := by decide +kernel
theorem dL_law_939 : decode cL_law 939 = .ok (.iadd, 1) := by decide +kernel
theorem dL_law_940 : decode cL_law 940 = .ok (.istore 14, 2) := by decide +kernel
theorem dL_law_942 : decode cL_law 942 = .ok (.iinc 15 1, 3) := by decide +kernel
theorem dL_law_945 : decode cL_law 945 = .ok (.goto (-31), 3) := by decide +kernel
theorem dL_law_948 : decode cL_law 948 = .ok (.iload 12, 2) := by decide +kernel
theorem dL_law_950 : decode cL_law 950 = .ok (.iload 14, 2) := by decide +kernel
theorem dL_law_952 : decode cL_law 952 = .ok (.ifCond .ne 7, 3) := by decide +kernel
theorem dL_law_955 : decode cL_law 955 = .ok (.iconst 1, 1) := by decide +kernel
theorem dL_law_956 : decode cL_law 956 = .ok (.goto 4, 3) := by decide +kernel
theorem dL_law_959 : decode cL_law 959 = .ok (.iconst 0, 1) := by decide +kernel
theorem dL_law_960 : decode cL_law 960 = .ok (.iadd, 1) := by decide +kernel
theorem dL_law_961 : decode cL_law 961 = .ok (.istore 12, 2) := by decide +kernel
theorem dL_law_963 : decode cL_law 963 = .ok (.aload_n 1, 1) := by decide +kernel
theorem dL_law_964 : decode cL_law 964 = .ok (.iload 13, 2) := by decide +kernel
theorem dL_law_966 : decode cL_law 966 = .ok (.invokevirtual 202, 3) := by decide +kernel
theorem dL_law_969 : decode cL_law 969 = .ok (.iload 14, 2) := by decide +kernel
theorem dL_law_971 : decode cL_law 971 = .ok (.if_icmp .eq 5, 3) := by decide +kernel
theorem dL_law_974 : decode cL_law 974 = .ok (.iconst 0, 1) := by decide +kernel
theorem dL_law_975 : decode cL_law 975 = .ok (.ireturn, 1) := by decide +kernel
theorem dL_law_976 : decode cL_law 976 = .ok (.iinc 13 1, 3) := by decide +kernel
theorem dL_law_979 : decode cL_law 979 = .ok (.goto (-82), 3) := by decide +kernel
theorem dL_law_982 : decode cL_law 982 = .ok (.iload 9, 2) := by decide +kernel
theorem dL_law_984 : decode cL_law 984 = .ok (.ifCond .ge 26, 3) := by decide +kernel
theorem dL_law_987 : decode cL_law 987 = .ok (.iload 9, 2) := by decide +kernel
theorem dL_law_989 : decode cL_law 989 = .ok (.bipush (-7), 2) := by decide +kernel
theorem dL_law_991 : decode cL_law 991 = .ok (.if_icmp .ne 15, 3) := by decide +kernel
theorem dL_law_994 : decode cL_law 994 = .ok (.aload_n 1, 1) := by decide +kernel
theorem dL_law_995 : decode cL_law 995 = .ok (.iconst 2, 1) := by decide +kernel
theorem dL_law_996 : decode cL_law 996 = .ok (.invokevirtual 205, 3) := by decide +kernel
theorem dL_law_999 : decode cL_law 999 = .ok (.ifCond .ne 7, 3) := by decide +kernel
theorem dL_law_1002 : decode cL_law 1002 = .ok (.iconst 1, 1) := by decide +kernel
theorem dL_law_1003 : decode cL_law 1003 = .ok (.goto 42, 3) := by decide +kernel
theorem dL_law_1006 : decode cL_law 1006 = .ok (.iconst 0, 1) := by decide +kernel
theorem dL_law_1007 : decode cL_law 1007 = .ok (.goto 38, 3) := by decide +kernel
theorem dL_law_1010 : decode cL_law 1010 = .ok (.aload_n 1, 1) := by decide +kernel
theorem dL_law_1011 : decode cL_law 1011 = .ok (.bipush 8, 2) := by decide +kernel
theorem dL_law_1013 : decode cL_law 1013 = .ok (.invokevirtual 205, 3) := by decide +kernel
theorem dL_law_1016 : decode cL_law 1016 = .ok (.iload 12, 2) := by decide +kernel
theorem dL_law_1018 : decode cL_law 1018 = .ok (.if_icmp .ne 26, 3) := by decide +kernel
theorem dL_law_1021 : decode cL_law 1021 = .ok (.aload_n 1, 1) := by decide +kernel
theorem dL_law_1022 : decode cL_law 1022 = .ok (.iconst 2, 1) := by decide +kernel
theorem dL_law_1023 : decode cL_law 1023 = .ok (.invokevirtual 205, 3) := by decide +kernel
theorem dL_law_1026 : decode cL_law 1026 = .ok (.iload 9, 2) := by decide +kernel
theorem dL_law_1028 : decode cL_law 1028 = .ok (.if_icmp .ne 16, 3) := by decide +kernel
theorem dL_law_1031 : decode cL_law 1031 = .ok (.aload_n 1, 1) := by decide +kernel
theorem dL_law_1032 : decode cL_law 1032 = .ok (.invokevirtual 193, 3) := by decide +kernel
theorem dL_law_1035 : decode cL_law 1035 = .ok (.iload 9, 2) := by decide +kernel
theorem dL_law_1037 : decode cL_law 1037 = .ok (.if_icmp .ne 7, 3) := by decide +kernel
theorem dL_law_1040 : decode cL_law 1040 = .ok (.iconst 1, 1) := by decide +kernel
theorem dL_law_1041 : decode cL_law 1041 = .ok (.goto 4, 3) := by decide +kernel
theorem dL_law_1044 : decode cL_law 1044 = .ok (.iconst 0, 1) := by decide +kernel
theorem dL_law_1045 : decode cL_law 1045 = .ok (.ireturn, 1) := by decide +kernel
