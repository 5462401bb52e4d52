theorem dL_act_60 : decode cL_act 60 = .ok (.bipush 9, 2) := by decide +kernel
theorem dL_act_62 : decode cL_act 62 = .ok (.ishr, 1) := by decide +kernel
theorem dL_act_63 : decode cL_act 63 = .ok (.bipush 6, 2) := by decide +kernel
theorem dL_act_65 : decode cL_act 65 = .ok (.invokestatic 140, 3) := by decide +kernel
theorem dL_act_68 : decode cL_act 68 = .ok (.iconst 1, 1) := by decide +kernel
theorem dL_act_69 : decode cL_act 69 = .ok (.isub, 1) := by decide +kernel
theorem dL_act_70 : decode cL_act 70 = .ok (.goto 11, 3) := by decide +kernel
theorem dL_act_73 : decode cL_act 73 = .ok (.iload_n 2, 1) := by decide +kernel
theorem dL_act_74 : decode cL_act 74 = .ok (.bipush 9, 2) := by decide +kernel
theorem dL_act_76 : decode cL_act 76 = .ok (.ishr, 1) := by decide +kernel
theorem dL_act_77 : decode cL_act 77 = .ok (.iconst 2, 1) := by decide +kernel
theorem dL_act_78 : decode cL_act 78 = .ok (.invokestatic 140, 3) := by decide +kernel
theorem dL_act_81 : decode cL_act 81 = .ok (.istore 6, 2) := by decide +kernel
theorem dL_act_83 : decode cL_act 83 = .ok (.iload_n 1, 1) := by decide +kernel
theorem dL_act_84 : decode cL_act 84 = .ok (.iload_n 2, 1) := by decide +kernel
theorem dL_act_85 : decode cL_act 85 = .ok (.bipush 8, 2) := by decide +kernel
theorem dL_act_87 : decode cL_act 87 = .ok (.ishr, 1) := by decide +kernel
theorem dL_act_88 : decode cL_act 88 = .ok (.bipush 60, 2) := by decide +kernel
theorem dL_act_90 : decode cL_act 90 = .ok (.invokestatic 140, 3) := by decide +kernel
theorem dL_act_93 : decode cL_act 93 = .ok (.iadd, 1) := by decide +kernel
theorem dL_act_94 : decode cL_act 94 = .ok (.bipush 20, 2) := by decide +kernel
theorem dL_act_96 : decode cL_act 96 = .ok (.isub, 1) := by decide +kernel
theorem dL_act_97 : decode cL_act 97 = .ok (.istore 7, 2) := by decide +kernel
theorem dL_act_99 : decode cL_act 99 = .ok (.iload_n 3, 1) := by decide +kernel
theorem dL_act_100 : decode cL_act 100 = .ok (.ifCond .eq 8, 3) := by decide +kernel
theorem dL_act_103 : decode cL_act 103 = .ok (.iload 7, 2) := by decide +kernel
theorem dL_act_105 : decode cL_act 105 = .ok (.goto 28, 3) := by decide +kernel
theorem dL_act_108 : decode cL_act 108 = .ok (.iload 7, 2) := by decide +kernel
theorem dL_act_110 : decode cL_act 110 = .ok (.ifCond .ge 7, 3) := by decide +kernel
theorem dL_act_113 : decode cL_act 113 = .ok (.iconst 0, 1) := by decide +kernel
theorem dL_act_114 : decode cL_act 114 = .ok (.goto 19, 3) := by decide +kernel
theorem dL_act_117 : decode cL_act 117 = .ok (.iload 7, 2) := by decide +kernel
theorem dL_act_119 : decode cL_act 119 = .ok (.sipush 9999, 3) := by decide +kernel
theorem dL_act_122 : decode cL_act 122 = .ok (.if_icmp .le 9, 3) := by decide +kernel
theorem dL_act_125 : decode cL_act 125 = .ok (.sipush 9999, 3) := by decide +kernel
theorem dL_act_128 : decode cL_act 128 = .ok (.goto 5, 3) := by decide +kernel
theorem dL_act_131 : decode cL_act 131 = .ok (.iload 7, 2) := by decide +kernel
theorem dL_act_133 : decode cL_act 133 = .ok (.istore 8, 2) := by decide +kernel
theorem dL_act_135 : decode cL_act 135 = .ok (.iload_n 3, 1) := by decide +kernel
theorem dL_act_136 : decode cL_act 136 = .ok (.ifCond .eq 15, 3) := by decide +kernel
theorem dL_act_139 : decode cL_act 139 = .ok (.iload_n 2, 1) := by decide +kernel
theorem dL_act_140 : decode cL_act 140 = .ok (.iconst 5, 1) := by decide +kernel
theorem dL_act_141 : decode cL_act 141 = .ok (.ishr, 1) := by decide +kernel
theorem dL_act_142 : decode cL_act 142 = .ok (.sipush 11000, 3) := by decide +kernel
theorem dL_act_145 : decode cL_act 145 = .ok (.invokestatic 140, 3) := by decide +kernel
theorem dL_act_148 : decode cL_act 148 = .ok (.goto 24, 3) := by decide +kernel
theorem dL_act_151 : decode cL_act 151 = .ok (.bipush 100, 2) := by decide +kernel
theorem dL_act_153 : decode cL_act 153 = .ok (.iload_n 2, 1) := by decide +kernel
theorem dL_act_154 : decode cL_act 154 = .ok (.iconst 5, 1) := by decide +kernel
theorem dL_act_155 : decode cL_act 155 = .ok (.ishr, 1) := by decide +kernel
theorem dL_act_156 : decode cL_act 156 = .ok (.bipush 40, 2) := by decide +kernel
theorem dL_act_158 : decode cL_act 158 = .ok (.invokestatic 140, 3) := by decide +kernel
theorem dL_act_161 : decode cL_act 161 = .ok (.imul, 1) := by decide +kernel
theorem dL_act_162 : decode cL_act 162 = .ok (.iload_n 2, 1) := by decide +kernel
theorem dL_act_163 : decode cL_act 163 = .ok (.bipush 7, 2) := by decide +kernel
theorem dL_act_165 : decode cL_act 165 = .ok (.ishr, 1) := by decide +kernel
theorem dL_act_166 : decode cL_act 166 = .ok (.bipush 40, 2) := by decide +kernel
theorem dL_act_168 : decode cL_act 168 = .ok (.invokestatic 140, 3) := by decide +kernel
theorem dL_act_171 : decode cL_act 171 = .ok (.iadd, 1) := by decide +kernel
theorem dL_act_172 : decode cL_act 172 = .ok (.istore 9, 2) := by decide +kernel
theorem dL_act_174 : decode cL_act 174 = .ok (.iload 4, 2) := by decide +kernel
theorem dL_act_176 : decode cL_act 176 = .ok (.bipush 30, 2) := by decide +kernel
theorem dL_act_178 : decode cL_act 178 = .ok (.if_icmp .ge 301, 3) := by decide +kernel
theorem dL_act_181 : decode cL_act 181 = .ok (.iload 4, 2) := by decide +kernel
theorem dL_act_183 : decode cL_act 183 = .ok (.ifCond .ne 59, 3) := by decide +kernel
theorem dL_act_186 : decode cL_act 186 = .ok (.aload_n 0, 1) := by decide +kernel
theorem dL_act_187 : decode cL_act 187 = .ok (.iconst 0, 1) := by decide +kernel
theorem dL_act_188 : decode cL_act 188 = .ok (.iload_n 3, 1) := by decide +kernel
theorem dL_act_189 : decode cL_act 189 = .ok (.ifCond .eq 17, 3) := by decide +kernel
theorem dL_act_192 : decode cL_act 192 = .ok (.iload_n 2, 1) := by decide +kernel
theorem dL_act_193 : decode cL_act 193 = .ok (.bipush 6, 2) := by decide +kernel
theorem dL_act_195 : decode cL_act 195 = .ok (.ishr, 1) := by decide +kernel
theorem dL_act_196 : decode cL_act 196 = .ok (.bipush 8, 2) := by decide +kernel
theorem dL_act_198 : decode cL_act 198 = .ok (.invokestatic 140, 3) := by decide +kernel
theorem dL_act_201 : decode cL_act 201 = .ok (.iconst 1, 1) := by decide +kernel
theorem dL_act_202 : decode cL_act 202 = .ok (.isub, 1) := by decide +kernel
theorem dL_act_203 : decode cL_act 203 = .ok (.goto 22, 3) := by decide +kernel
theorem dL_act_206 : decode cL_act 206 = .ok (.iload_n 2, 1) := by decide +kernel
theorem dL_act_207 : decode cL_act 207 = .ok (.iconst 1, 1) := by decide +kernel
theorem dL_act_208 : decode cL_act 208 = .ok (.iand, 1) := by decide +kernel
theorem dL_act_209 : decode cL_act 209 = .ok (.ifCond .ne 7, 3) := by decide +kernel
theorem dL_act_212 : decode cL_act 212 = .ok (.iconst 5, 1) := by decide +kernel
theorem dL_act_213 : decode cL_act 213 = .ok (.goto 12, 3) := by decide +kernel
theorem dL_act_216 : decode cL_act 216 = .ok (.iload_n 2, 1) := by decide +kernel
theorem dL_act_217 : decode cL_act 217 = .ok (.bipush 6, 2) := by decide +kernel
theorem dL_act_219 : decode cL_act 219 = .ok (.ishr, 1) := by decide +kernel
theorem dL_act_220 : decode cL_act 220 = .ok (.bipush 6, 2) := by decide +kernel
theorem dL_act_222 : decode cL_act 222 = .ok (.invokestatic 140, 3) := by decide +kernel
theorem dL_act_225 : decode cL_act 225 = .ok (.iload 9, 2) := by decide +kernel
theorem dL_act_227 : decode cL_act 227 = .ok (.bipush 100, 2) := by decide +kernel
theorem dL_act_229 : decode cL_act 229 = .ok (.idiv, 1) := by decide +kernel
theorem dL_act_230 : decode cL_act 230 = .ok (.iload 9, 2) := by decide +kernel
theorem dL_act_232 : decode cL_act 232 = .ok (.bipush 100, 2) := by decide +kernel
theorem dL_act_234 : decode cL_act 234 = .ok (.irem, 1) := by decide +kernel
theorem dL_act_235 : decode cL_act 235 = .ok (.lconst 0, 1) := by decide +kernel
theorem dL_act_236 : decode cL_act 236 = .ok (.invokestatic 145, 3) := by decide +kernel
theorem dL_act_239 : decode cL_act 239 = .ok (.goto 239, 3) := by decide +kernel
theorem dL_act_242 : decode cL_act 242 = .ok (.iload 4, 2) := by decide +kernel
theorem dL_act_244 : decode cL_act 244 = .ok (.iconst 4, 1) := by decide +kernel
theorem dL_act_245 : decode cL_act 245 = .ok (.if_icmp .ge 18, 3) := by decide +kernel
theorem dL_act_248 : decode cL_act 248 = .ok (.aload_n 0, 1) := by decide +kernel
theorem dL_act_249 : decode cL_act 249 = .ok (.iconst 1, 1) := by decide +kernel
theorem dL_act_250 : decode cL_act 250 = .ok (.iload 5, 2) := by decide +kernel
theorem dL_act_252 : decode cL_act 252 = .ok (.iload 9, 2) := by decide +kernel
theorem dL_act_254 : decode cL_act 254 = .ok (.iload 8, 2) := by decide +kernel
theorem dL_act_256 : decode cL_act 256 = .ok (.lconst 0, 1) := by decide +kernel
theorem dL_act_257 : decode cL_act 257 = .ok (.invokestatic 145, 3) := by decide +kernel
theorem dL_act_260 : decode cL_act 260 = .ok (.goto 218, 3) := by decide +kernel
theorem dL_act_263 : decode cL_act 263 = .ok (.iload 4, 2) := by decide +kernel
theorem dL_act_265 : decode cL_act 265 = .ok (.bipush 8, 2) := by decide +kernel
theorem dL_act_267 : decode cL_act 267 = .ok (.if_icmp .ge 35, 3) := by decide +kernel
theorem dL_act_270 : decode cL_act 270 = .ok (.aload_n 0, 1) := by decide +kernel
theorem dL_act_271 : decode cL_act 271 = .ok (.iconst 2, 1) := by decide +kernel
theorem dL_act_272 : decode cL_act 272 = .ok (.iload 5, 2) := by decide +kernel
theorem dL_act_274 : decode cL_act 274 = .ok (.iload_n 2, 1) := by decide +kernel
theorem dL_act_275 : decode cL_act 275 = .ok (.bipush 10, 2) := by decide +kernel
theorem dL_act_277 : decode cL_act 277 = .ok (.ishr, 1) := by decide +kernel
theorem dL_act_278 : decode cL_act 278 = .ok (.iload_n 3, 1) := by decide +kernel
theorem dL_act_279 : decode cL_act 279 = .ok (.ifCond .eq 8, 3) := by decide +kernel
theorem dL_act_282 : decode cL_act 282 = .ok (.bipush 12, 2) := by decide +kernel
theorem dL_act_284 : decode cL_act 284 = .ok (.goto 4, 3) := by decide +kernel
theorem dL_act_287 : decode cL_act 287 = .ok (.iconst 4, 1) := by decide +kernel
theorem dL_act_288 : decode cL_act 288 = .ok (.invokestatic 140, 3) := by decide +kernel
theorem dL_act_291 : decode cL_act 291 = .ok (.iconst 1, 1) := by decide +kernel
theorem dL_act_292 : decode cL_act 292 = .ok (.isub, 1) := by decide +kernel
theorem dL_act_293 : decode cL_act 293 = .ok (.iload 8, 2) := by decide +kernel
theorem dL_act_295 : decode cL_act 295 = .ok (.lconst 0, 1) := by decide +kernel
theorem dL_act_296 : decode cL_act 296 = .ok (.invokestatic 145, 3) := by decide +kernel
theorem dL_act_299 : decode cL_act 299 = .ok (.goto 179, 3) := by decide +kernel
theorem dL_act_302 : decode cL_act 302 = .ok (.iload 4, 2) := by decide +kernel
theorem dL_act_304 : decode cL_act 304 = .ok (.bipush 8, 2) := by decide +kernel
theorem dL_act_306 : decode cL_act 306 = .ok (.if_icmp .ne 26, 3) := by decide +kernel
theorem dL_act_309 : decode cL_act 309 = .ok (.aload_n 0, 1) := by decide +kernel
theorem dL_act_310 : decode cL_act 310 = .ok (.iconst 3, 1) := by decide +kernel
theorem dL_act_311 : decode cL_act 311 = .ok (.iload 5, 2) := by decide +kernel
theorem dL_act_313 : decode cL_act 313 = .ok (.iload_n 2, 1) := by decide +kernel
theorem dL_act_314 : decode cL_act 314 = .ok (.bipush 10, 2) := by decide +kernel
theorem dL_act_316 : decode cL_act 316 = .ok (.ishr, 1) := by decide +kernel
theorem dL_act_317 : decode cL_act 317 = .ok (.iconst 5, 1) := by decide +kernel
theorem dL_act_318 : decode cL_act 318 = .ok (.invokestatic 140, 3) := by decide +kernel
theorem dL_act_321 : decode cL_act 321 = .ok (.iconst 1, 1) := by decide +kernel
theorem dL_act_322 : decode cL_act 322 = .ok (.isub, 1) := by decide +kernel
theorem dL_act_323 : decode cL_act 323 = .ok (.iload 8, 2) := by decide +kernel
theorem dL_act_325 : decode cL_act 325 = .ok (.lconst 0, 1) := by decide +kernel
theorem dL_act_326 : decode cL_act 326 = .ok (.invokestatic 145, 3) := by decide +kernel
theorem dL_act_329 : decode cL_act 329 = .ok (.goto 149, 3) := by decide +kernel
theorem dL_act_332 : decode cL_act 332 = .ok (.iload 4, 2) := by decide +kernel
theorem dL_act_334 : decode cL_act 334 = .ok (.bipush 20, 2) := by decide +kernel
theorem dL_act_336 : decode cL_act 336 = .ok (.if_icmp .ge 24, 3) := by decide +kernel
theorem dL_act_339 : decode cL_act 339 = .ok (.aload_n 0, 1) := by decide +kernel
theorem dL_act_340 : decode cL_act 340 = .ok (.iconst 5, 1) := by decide +kernel
theorem dL_act_341 : decode cL_act 341 = .ok (.iload 5, 2) := by decide +kernel
theorem dL_act_343 : decode cL_act 343 = .ok (.iload 6, 2) := by decide +kernel
theorem dL_act_345 : decode cL_act 345 = .ok (.iload 8, 2) := by decide +kernel
theorem dL_act_347 : decode cL_act 347 = .ok (.iload_n 2, 1) := by decide +kernel
theorem dL_act_348 : decode cL_act 348 = .ok (.iconst 4, 1) := by decide +kernel
theorem dL_act_349 : decode cL_act 349 = .ok (.ishr, 1) := by decide +kernel
theorem dL_act_350 : decode cL_act 350 = .ok (.iload_n 3, 1) := by decide +kernel
theorem dL_act_351 : decode cL_act 351 = .ok (.invokestatic 148, 3) := by decide +kernel
theorem dL_act_354 : decode cL_act 354 = .ok (.invokestatic 145, 3) := by decide +kernel
theorem dL_act_357 : decode cL_act 357 = .ok (.goto 121, 3) := by decide +kernel
theorem dL_act_360 : decode cL_act 360 = .ok (.iload 4, 2) := by decide +kernel
theorem dL_act_362 : decode cL_act 362 = .ok (.bipush 27, 2) := by decide +kernel
theorem dL_act_364 : decode cL_act 364 = .ok (.if_icmp .ge 74, 3) := by decide +kernel
theorem dL_act_367 : decode cL_act 367 = .ok (.aload_n 0, 1) := by decide +kernel
theorem dL_act_368 : decode cL_act 368 = .ok (.bipush 6, 2) := by decide +kernel
theorem dL_act_370 : decode cL_act 370 = .ok (.iload 6, 2) := by decide +kernel
theorem dL_act_372 : decode cL_act 372 = .ok (.iload 8, 2) := by decide +kernel
theorem dL_act_374 : decode cL_act 374 = .ok (.iload_n 3, 1) := by decide +kernel
theorem dL_act_375 : decode cL_act 375 = .ok (.ifCond .eq 14, 3) := by decide +kernel
theorem dL_act_378 : decode cL_act 378 = .ok (.iload_n 2, 1) := by decide +kernel
theorem dL_act_379 : decode cL_act 379 = .ok (.iconst 4, 1) := by decide +kernel
theorem dL_act_380 : decode cL_act 380 = .ok (.ishr, 1) := by decide +kernel
theorem dL_act_381 : decode cL_act 381 = .ok (.ldc 152, 2) := by decide +kernel
theorem dL_act_383 : decode cL_act 383 = .ok (.invokestatic 140, 3) := by decide +kernel
theorem dL_act_386 : decode cL_act 386 = .ok (.goto 45, 3) := by decide +kernel
theorem dL_act_389 : decode cL_act 389 = .ok (.iconst 1, 1) := by decide +kernel
theorem dL_act_390 : decode cL_act 390 = .ok (.iload_n 2, 1) := by decide +kernel
theorem dL_act_391 : decode cL_act 391 = .ok (.bipush 6, 2) := by decide +kernel
theorem dL_act_393 : decode cL_act 393 = .ok (.ishr, 1) := by decide +kernel
theorem dL_act_394 : decode cL_act 394 = .ok (.iconst 4, 1) := by decide +kernel
theorem dL_act_395 : decode cL_act 395 = .ok (.invokestatic 140, 3) := by decide +kernel
theorem dL_act_398 : decode cL_act 398 = .ok (.iadd, 1) := by decide +kernel
theorem dL_act_399 : decode cL_act 399 = .ok (.bipush 100, 2) := by decide +kernel
theorem dL_act_401 : decode cL_act 401 = .ok (.iload_n 2, 1) := by decide +kernel
theorem dL_act_402 : decode cL_act 402 = .ok (.bipush 10, 2) := by decide +kernel
theorem dL_act_404 : decode cL_act 404 = .ok (.ishr, 1) := by decide +kernel
theorem dL_act_405 : decode cL_act 405 = .ok (.iconst 5, 1) := by decide +kernel
theorem dL_act_406 : decode cL_act 406 = .ok (.invokestatic 140, 3) := by decide +kernel
theorem dL_act_409 : decode cL_act 409 = .ok (.imul, 1) := by decide +kernel
theorem dL_act_410 : decode cL_act 410 = .ok (.iadd, 1) := by decide +kernel
theorem dL_act_411 : decode cL_act 411 = .ok (.sipush 10000, 3) := by decide +kernel
theorem dL_act_414 : decode cL_act 414 = .ok (.iload_n 2, 1) := by decide +kernel
theorem dL_act_415 : decode cL_act 415 = .ok (.bipush 13, 2) := by decide +kernel
theorem dL_act_417 : decode cL_act 417 = .ok (.ishr, 1) := by decide +kernel
theorem dL_act_418 : decode cL_act 418 = .ok (.iconst 1, 1) := by decide +kernel
theorem dL_act_419 : decode cL_act 419 = .ok (.iand, 1) := by decide +kernel
theorem dL_act_420 : decode cL_act 420 = .ok (.iload_n 2, 1) := by decide +kernel
theorem dL_act_421 : decode cL_act 421 = .ok (.bipush 10, 2) := by decide +kernel
theorem dL_act_423 : decode cL_act 423 = .ok (.ishr, 1) := by decide +kernel
theorem dL_act_424 : decode cL_act 424 = .ok (.iconst 5, 1) := by decide +kernel
theorem dL_act_425 : decode cL_act 425 = .ok (.invokestatic 140, 3) := by decide +kernel
theorem dL_act_428 : decode cL_act 428 = .ok (.imul, 1) := by decide +kernel
theorem dL_act_429 : decode cL_act 429 = .ok (.imul, 1) := by decide +kernel
theorem dL_act_430 : decode cL_act 430 = .ok (.iadd, 1) := by decide +kernel
theorem dL_act_431 : decode cL_act 431 = .ok (.lconst 0, 1) := by decide +kernel
theorem dL_act_432 : decode cL_act 432 = .ok (.invokestatic 145, 3) := by decide +kernel
theorem dL_act_435 : decode cL_act 435 = .ok (.goto 43, 3) := by decide +kernel
theorem dL_act_438 : decode cL_act 438 = .ok (.iload 4, 2) := by decide +kernel
theorem dL_act_440 : decode cL_act 440 = .ok (.bipush 29, 2) := by decide +kernel
theorem dL_act_442 : decode cL_act 442 = .ok (.if_icmp .ge 19, 3) := by decide +kernel
theorem dL_act_445 : decode cL_act 445 = .ok (.aload_n 0, 1) := by decide +kernel
theorem dL_act_446 : decode cL_act 446 = .ok (.bipush 7, 2) := by decide +kernel
theorem dL_act_448 : decode cL_act 448 = .ok (.iload 5, 2) := by decide +kernel
theorem dL_act_450 : decode cL_act 450 = .ok (.iload 6, 2) := by decide +kernel
theorem dL_act_452 : decode cL_act 452 = .ok (.iload 8, 2) := by decide +kernel
theorem dL_act_454 : decode cL_act 454 = .ok (.lconst 0, 1) := by decide +kernel
theorem dL_act_455 : decode cL_act 455 = .ok (.invokestatic 145, 3) := by decide +kernel
theorem dL_act_458 : decode cL_act 458 = .ok (.goto 20, 3) := by decide +kernel
theorem dL_act_461 : decode cL_act 461 = .ok (.aload_n 0, 1) := by decide +kernel
theorem dL_act_462 : decode cL_act 462 = .ok (.bipush 23, 2) := by decide +kernel
theorem dL_act_464 : decode cL_act 464 = .ok (.iconst 0, 1) := by decide +kernel
theorem dL_act_465 : decode cL_act 465 = .ok (.iload 9, 2) := by decide +kernel
theorem dL_act_467 : decode cL_act 467 = .ok (.iconst 0, 1) := by decide +kernel
theorem dL_act_468 : decode cL_act 468 = .ok (.iload_n 2, 1) := by decide +kernel
theorem dL_act_469 : decode cL_act 469 = .ok (.iconst 4, 1) := by decide +kernel
theorem dL_act_470 : decode cL_act 470 = .ok (.ishr, 1) := by decide +kernel
theorem dL_act_471 : decode cL_act 471 = .ok (.iload_n 3, 1) := by decide +kernel
theorem dL_act_472 : decode cL_act 472 = .ok (.invokestatic 148, 3) := by decide +kernel
theorem dL_act_475 : decode cL_act 475 = .ok (.invokestatic 145, 3) := by decide +kernel
theorem dL_act_478 : decode cL_act 478 = .ok (.lreturn, 1) := by decide +kernel
theorem dL_act_479 : decode cL_act 479 = .ok (.iload 4, 2) := by decide +kernel
theorem dL_act_481 : decode cL_act 481 = .ok (.bipush 52, 2) := by decide +kernel
theorem dL_act_483 : decode cL_act 483 = .ok (.if_icmp .ge 289, 3) := by decide +kernel
theorem dL_act_486 : decode cL_act 486 = .ok (.iload_n 3, 1) := by decide +kernel
theorem dL_act_487 : decode cL_act 487 = .ok (.ifCond .eq 17, 3) := by decide +kernel
theorem dL_act_490 : decode cL_act 490 = .ok (.iload_n 2, 1) := by decide +kernel
theorem dL_act_491 : decode cL_act 491 = .ok (.bipush 7, 2) := by decide +kernel
theorem dL_act_493 : decode cL_act 493 = .ok (.ishr, 1) := by decide +kernel
theorem dL_act_494 : decode cL_act 494 = .ok (.bipush 20, 2) := by decide +kernel
theorem dL_act_496 : decode cL_act 496 = .ok (.invokestatic 140, 3) := by decide +kernel
theorem dL_act_499 : decode cL_act 499 = .ok (.iconst 2, 1) := by decide +kernel
theorem dL_act_500 : decode cL_act 500 = .ok (.isub, 1) := by decide +kernel
theorem dL_act_501 : decode cL_act 501 = .ok (.goto 12, 3) := by decide +kernel
theorem dL_act_504 : decode cL_act 504 = .ok (.iload_n 2, 1) := by decide +kernel
theorem dL_act_505 : decode cL_act 505 = .ok (.bipush 7, 2) := by decide +kernel
theorem dL_act_507 : decode cL_act 507 = .ok (.ishr, 1) := by decide +kernel
theorem dL_act_508 : decode cL_act 508 = .ok (.bipush 6, 2) := by decide +kernel
theorem dL_act_510 : decode cL_act 510 = .ok (.invokestatic 140, 3) := by decide +kernel
theorem dL_act_513 : decode cL_act 513 = .ok (.istore 10, 2) := by decide +kernel
theorem dL_act_515 : decode cL_act 515 = .ok (.iload 4, 2) := by decide +kernel
theorem dL_act_517 : decode cL_act 517 = .ok (.bipush 33, 2) := by decide +kernel
theorem dL_act_519 : decode cL_act 519 = .ok (.if_icmp .ge 54, 3) := by decide +kernel
theorem dL_act_522 : decode cL_act 522 = .ok (.aload_n 0, 1) := by decide +kernel
theorem dL_act_523 : decode cL_act 523 = .ok (.bipush 9, 2) := by decide +kernel
theorem dL_act_525 : decode cL_act 525 = .ok (.iload 5, 2) := by decide +kernel
theorem dL_act_527 : decode cL_act 527 = .ok (.iload 6, 2) := by decide +kernel
theorem dL_act_529 : decode cL_act 529 = .ok (.iload_n 1, 1) := by decide +kernel
theorem dL_act_530 : decode cL_act 530 = .ok (.iload_n 3, 1) := by decide +kernel
theorem dL_act_531 : decode cL_act 531 = .ok (.ifCond .eq 7, 3) := by decide +kernel
theorem dL_act_534 : decode cL_act 534 = .ok (.iconst 0, 1) := by decide +kernel
theorem dL_act_535 : decode cL_act 535 = .ok (.goto 5, 3) := by decide +kernel
theorem dL_act_538 : decode cL_act 538 = .ok (.bipush 30, 2) := by decide +kernel
theorem dL_act_540 : decode cL_act 540 = .ok (.iadd, 1) := by decide +kernel
theorem dL_act_541 : decode cL_act 541 = .ok (.iload_n 2, 1) := by decide +kernel
theorem dL_act_542 : decode cL_act 542 = .ok (.bipush 8, 2) := by decide +kernel
theorem dL_act_544 : decode cL_act 544 = .ok (.ishr, 1) := by decide +kernel
theorem dL_act_545 : decode cL_act 545 = .ok (.iload_n 3, 1) := by decide +kernel
theorem dL_act_546 : decode cL_act 546 = .ok (.ifCond .eq 8, 3) := by decide +kernel
theorem dL_act_549 : decode cL_act 549 = .ok (.bipush 60, 2) := by decide +kernel
theorem dL_act_551 : decode cL_act 551 = .ok (.goto 5, 3) := by decide +kernel
theorem dL_act_554 : decode cL_act 554 = .ok (.bipush 10, 2) := by decide +kernel
theorem dL_act_556 : decode cL_act 556 = .ok (.invokestatic 140, 3) := by decide +kernel
theorem dL_act_559 : decode cL_act 559 = .ok (.iadd, 1) := by decide +kernel
theorem dL_act_560 : decode cL_act 560 = .ok (.iload_n 2, 1) := by decide +kernel
theorem dL_act_561 : decode cL_act 561 = .ok (.iconst 4, 1) := by decide +kernel
theorem dL_act_562 : decode cL_act 562 = .ok (.ishr, 1) := by decide +kernel
theorem dL_act_563 : decode cL_act 563 = .ok (.iload_n 3, 1) := by decide +kernel
theorem dL_act_564 : decode cL_act 564 = .ok (.invokestatic 148, 3) := by decide +kernel
theorem dL_act_567 : decode cL_act 567 = .ok (.invokestatic 145, 3) := by decide +kernel
theorem dL_act_570 : decode cL_act 570 = .ok (.goto 201, 3) := by decide +kernel
theorem dL_act_573 : decode cL_act 573 = .ok (.iload 4, 2) := by decide +kernel
theorem dL_act_575 : decode cL_act 575 = .ok (.bipush 42, 2) := by decide +kernel
theorem dL_act_577 : decode cL_act 577 = .ok (.if_icmp .ge 46, 3) := by decide +kernel
theorem dL_act_580 : decode cL_act 580 = .ok (.aload_n 0, 1) := by decide +kernel
theorem dL_act_581 : decode cL_act 581 = .ok (.bipush 10, 2) := by decide +kernel
theorem dL_act_583 : decode cL_act 583 = .ok (.iload 10, 2) := by decide +kernel
theorem dL_act_585 : decode cL_act 585 = .ok (.iload_n 2, 1) := by decide +kernel
theorem dL_act_586 : decode cL_act 586 = .ok (.bipush 10, 2) := by decide +kernel
theorem dL_act_588 : decode cL_act 588 = .ok (.ishr, 1) := by decide +kernel
theorem dL_act_589 : decode cL_act 589 = .ok (.iload_n 3, 1) := by decide +kernel
theorem dL_act_590 : decode cL_act 590 = .ok (.ifCond .eq 8, 3) := by decide +kernel
theorem dL_act_593 : decode cL_act 593 = .ok (.bipush 11, 2) := by decide +kernel
theorem dL_act_595 : decode cL_act 595 = .ok (.goto 5, 3) := by decide +kernel
theorem dL_act_598 : decode cL_act 598 = .ok (.bipush 9, 2) := by decide +kernel
theorem dL_act_600 : decode cL_act 600 = .ok (.invokestatic 140, 3) := by decide +kernel
theorem dL_act_603 : decode cL_act 603 = .ok (.iload_n 2, 1) := by decide +kernel
theorem dL_act_604 : decode cL_act 604 = .ok (.iconst 5, 1) := by decide +kernel
theorem dL_act_605 : decode cL_act 605 = .ok (.ishr, 1) := by decide +kernel
theorem dL_act_606 : decode cL_act 606 = .ok (.iconst 3, 1) := by decide +kernel
theorem dL_act_607 : decode cL_act 607 = .ok (.iand, 1) := by decide +kernel
theorem dL_act_608 : decode cL_act 608 = .ok (.ifCond .le 7, 3) := by decide +kernel
theorem dL_act_611 : decode cL_act 611 = .ok (.iconst 1, 1) := by decide +kernel
theorem dL_act_612 : decode cL_act 612 = .ok (.goto 4, 3) := by decide +kernel
theorem dL_act_615 : decode cL_act 615 = .ok (.iconst 0, 1) := by decide +kernel
theorem dL_act_616 : decode cL_act 616 = .ok (.lconst 0, 1) := by decide +kernel
theorem dL_act_617 : decode cL_act 617 = .ok (.invokestatic 145, 3) := by decide +kernel
theorem dL_act_620 : decode cL_act 620 = .ok (.goto 151, 3) := by decide +kernel
theorem dL_act_623 : decode cL_act 623 = .ok (.iload 4, 2) := by decide +kernel
theorem dL_act_625 : decode cL_act 625 = .ok (.bipush 42, 2) := by decide +kernel
theorem dL_act_627 : decode cL_act 627 = .ok (.if_icmp .ne 34, 3) := by decide +kernel
theorem dL_act_630 : decode cL_act 630 = .ok (.aload_n 0, 1) := by decide +kernel
theorem dL_act_631 : decode cL_act 631 = .ok (.bipush 11, 2) := by decide +kernel
theorem dL_act_633 : decode cL_act 633 = .ok (.iload 10, 2) := by decide +kernel
theorem dL_act_635 : decode cL_act 635 = .ok (.iload_n 2, 1) := by decide +kernel
theorem dL_act_636 : decode cL_act 636 = .ok (.bipush 10, 2) := by decide +kernel
theorem dL_act_638 : decode cL_act 638 = .ok (.ishr, 1) := by decide +kernel
theorem dL_act_639 : decode cL_act 639 = .ok (.iload_n 3, 1) := by decide +kernel
theorem dL_act_640 : decode cL_act 640 = .ok (.ifCond .eq 8, 3) := by decide +kernel
theorem dL_act_643 : decode cL_act 643 = .ok (.bipush 10, 2) := by decide +kernel
theorem dL_act_645 : decode cL_act 645 = .ok (.goto 5, 3) := by decide +kernel
theorem dL_act_648 : decode cL_act 648 = .ok (.bipush 8, 2) := by decide +kernel
theorem dL_act_650 : decode cL_act 650 = .ok (.invokestatic 140, 3) := by decide +kernel
theorem dL_act_653 : decode cL_act 653 = .ok (.iconst 0, 1) := by decide +kernel
theorem dL_act_654 : decode cL_act 654 = .ok (.lconst 0, 1) := by decide +kernel
theorem dL_act_655 : decode cL_act 655 = .ok (.invokestatic 145, 3) := by decide +kernel
theorem dL_act_658 : decode cL_act 658 = .ok (.goto 113, 3) := by decide +kernel
theorem dL_act_661 : decode cL_act 661 = .ok (.iload 4, 2) := by decide +kernel
theorem dL_act_663 : decode cL_act 663 = .ok (.bipush 48, 2) := by decide +kernel
theorem dL_act_665 : decode cL_act 665 = .ok (.if_icmp .ge 17, 3) := by decide +kernel
theorem dL_act_668 : decode cL_act 668 = .ok (.aload_n 0, 1) := by decide +kernel
theorem dL_act_669 : decode cL_act 669 = .ok (.bipush 12, 2) := by decide +kernel
theorem dL_act_671 : decode cL_act 671 = .ok (.iload 10, 2) := by decide +kernel
theorem dL_act_673 : decode cL_act 673 = .ok (.iconst 0, 1) := by decide +kernel
theorem dL_act_674 : decode cL_act 674 = .ok (.iconst 0, 1) := by decide +kernel
theorem dL_act_675 : decode cL_act 675 = .ok (.lconst 0, 1) := by decide +kernel
theorem dL_act_676 : decode cL_act 676 = .ok (.invokestatic 145, 3) := by decide +kernel
theorem dL_act_679 : decode cL_act 679 = .ok (.goto 92, 3) := by decide +kernel
theorem dL_act_682 : decode cL_act 682 = .ok (.iload 4, 2) := by decide +kernel
theorem dL_act_684 : decode cL_act 684 = .ok (.bipush 50, 2) := by decide +kernel
theorem dL_act_686 : decode cL_act 686 = .ok (.if_icmp .ge 17, 3) := by decide +kernel
theorem dL_act_689 : decode cL_act 689 = .ok (.aload_n 0, 1) := by decide +kernel
theorem dL_act_690 : decode cL_act 690 = .ok (.bipush 13, 2) := by decide +kernel
theorem dL_act_692 : decode cL_act 692 = .ok (.iload 10, 2) := by decide +kernel
theorem dL_act_694 : decode cL_act 694 = .ok (.iconst 0, 1) := by decide +kernel
theorem dL_act_695 : decode cL_act 695 = .ok (.iconst 0, 1) := by decide +kernel
theorem dL_act_696 : decode cL_act 696 = .ok (.lconst 0, 1) := by decide +kernel
theorem dL_act_697 : decode cL_act 697 = .ok (.invokestatic 145, 3) := by decide +kernel
theorem dL_act_700 : decode cL_act 700 = .ok (.goto 71, 3) := by decide +kernel
theorem dL_act_703 : decode cL_act 703 = .ok (.iload 4, 2) := by decide +kernel
theorem dL_act_705 : decode cL_act 705 = .ok (.bipush 50, 2) := by decide +kernel
theorem dL_act_707 : decode cL_act 707 = .ok (.if_icmp .ne 36, 3) := by decide +kernel
theorem dL_act_710 : decode cL_act 710 = .ok (.aload_n 0, 1) := by decide +kernel
theorem dL_act_711 : decode cL_act 711 = .ok (.bipush 15, 2) := by decide +kernel
theorem dL_act_713 : decode cL_act 713 = .ok (.iload 5, 2) := by decide +kernel
theorem dL_act_715 : decode cL_act 715 = .ok (.iload 6, 2) := by decide +kernel
theorem dL_act_717 : decode cL_act 717 = .ok (.iload_n 2, 1) := by decide +kernel
theorem dL_act_718 : decode cL_act 718 = .ok (.bipush 11, 2) := by decide +kernel
theorem dL_act_720 : decode cL_act 720 = .ok (.ishr, 1) := by decide +kernel
theorem dL_act_721 : decode cL_act 721 = .ok (.iload_n 3, 1) := by decide +kernel
theorem dL_act_722 : decode cL_act 722 = .ok (.ifCond .eq 9, 3) := by decide +kernel
theorem dL_act_725 : decode cL_act 725 = .ok (.sipush 140, 3) := by decide +kernel
theorem dL_act_728 : decode cL_act 728 = .ok (.goto 5, 3) := by decide +kernel
theorem dL_act_731 : decode cL_act 731 = .ok (.bipush 60, 2) := by decide +kernel
theorem dL_act_733 : decode cL_act 733 = .ok (.invokestatic 140, 3) := by decide +kernel
theorem dL_act_736 : decode cL_act 736 = .ok (.lconst 0, 1) := by decide +kernel
theorem dL_act_737 : decode cL_act 737 = .ok (.invokestatic 145, 3) := by decide +kernel
theorem dL_act_740 : decode cL_act 740 = .ok (.goto 31, 3) := by decide +kernel
theorem dL_act_743 : decode cL_act 743 = .ok (.aload_n 0, 1) := by decide +kernel
theorem dL_act_744 : decode cL_act 744 = .ok (.bipush 16, 2) := by decide +kernel
theorem dL_act_746 : decode cL_act 746 = .ok (.iload 5, 2) := by decide +kernel
theorem dL_act_748 : decode cL_act 748 = .ok (.iload 6, 2) := by decide +kernel
theorem dL_act_750 : decode cL_act 750 = .ok (.iload_n 2, 1) := by decide +kernel
theorem dL_act_751 : decode cL_act 751 = .ok (.bipush 11, 2) := by decide +kernel
theorem dL_act_753 : decode cL_act 753 = .ok (.ishr, 1) := by decide +kernel
theorem dL_act_754 : decode cL_act 754 = .ok (.iload_n 3, 1) := by decide +kernel
theorem dL_act_755 : decode cL_act 755 = .ok (.ifCond .eq 8, 3) := by decide +kernel
theorem dL_act_758 : decode cL_act 758 = .ok (.bipush 6, 2) := by decide +kernel
theorem dL_act_760 : decode cL_act 760 = .ok (.goto 4, 3) := by decide +kernel
theorem dL_act_763 : decode cL_act 763 = .ok (.iconst 4, 1) := by decide +kernel
theorem dL_act_764 : decode cL_act 764 = .ok (.invokestatic 140, 3) := by decide +kernel
theorem dL_act_767 : decode cL_act 767 = .ok (.lconst 0, 1) := by decide +kernel
theorem dL_act_768 : decode cL_act 768 = .ok (.invokestatic 145, 3) := by decide +kernel
theorem dL_act_771 : decode cL_act 771 = .ok (.lreturn, 1) := by decide +kernel
theorem dL_act_772 : decode cL_act 772 = .ok (.iload_n 3, 1) := by decide +kernel
theorem dL_act_773 : decode cL_act 773 = .ok (.ifCond .eq 17, 3) := by decide +kernel
theorem dL_act_776 : decode cL_act 776 = .ok (.iload_n 2, 1) := by decide +kernel
theorem dL_act_777 : decode cL_act 777 = .ok (.bipush 6, 2) := by decide +kernel
theorem dL_act_779 : decode cL_act 779 = .ok (.ishr, 1) := by decide +kernel
theorem dL_act_780 : decode cL_act 780 = .ok (.bipush 7, 2) := by decide +kernel
theorem dL_act_782 : decode cL_act 782 = .ok (.invokestatic 140, 3) := by decide +kernel
theorem dL_act_785 : decode cL_act 785 = .ok (.iconst 1, 1) := by decide +kernel
theorem dL_act_786 : decode cL_act 786 = .ok (.isub, 1) := by decide +kernel
theorem dL_act_787 : decode cL_act 787 = .ok (.goto 11, 3) := by decide +kernel
theorem dL_act_790 : decode cL_act 790 = .ok (.iload_n 2, 1) := by decide +kernel
theorem dL_act_791 : decode cL_act 791 = .ok (.bipush 6, 2) := by decide +kernel
theorem dL_act_793 : decode cL_act 793 = .ok (.ishr, 1) := by decide +kernel
theorem dL_act_794 : decode cL_act 794 = .ok (.iconst 4, 1) := by decide +kernel
theorem dL_act_795 : decode cL_act 795 = .ok (.invokestatic 140, 3) := by decide +kernel
theorem dL_act_798 : decode cL_act 798 = .ok (.istore 10, 2) := by decide +kernel
theorem dL_act_800 : decode cL_act 800 = .ok (.iload 4, 2) := by decide +kernel
theorem dL_act_802 : decode cL_act 802 = .ok (.bipush 54, 2) := by decide +kernel
theorem dL_act_804 : decode cL_act 804 = .ok (.if_icmp .ge 62, 3) := by decide +kernel
theorem dL_act_807 : decode cL_act 807 = .ok (.aload_n 0, 1) := by decide +kernel
theorem dL_act_808 : decode cL_act 808 = .ok (.bipush 19, 2) := by decide +kernel
theorem dL_act_810 : decode cL_act 810 = .ok (.iload 10, 2) := by decide +kernel
theorem dL_act_812 : decode cL_act 812 = .ok (.iload_n 3, 1) := by decide +kernel
theorem dL_act_813 : decode cL_act 813 = .ok (.ifCond .eq 7, 3) := by decide +kernel
theorem dL_act_816 : decode cL_act 816 = .ok (.iconst 0, 1) := by decide +kernel
theorem dL_act_817 : decode cL_act 817 = .ok (.goto 4, 3) := by decide +kernel
theorem dL_act_820 : decode cL_act 820 = .ok (.iconst 1, 1) := by decide +kernel
theorem dL_act_821 : decode cL_act 821 = .ok (.iload_n 2, 1) := by decide +kernel
theorem dL_act_822 : decode cL_act 822 = .ok (.bipush 9, 2) := by decide +kernel
theorem dL_act_824 : decode cL_act 824 = .ok (.ishr, 1) := by decide +kernel
theorem dL_act_825 : decode cL_act 825 = .ok (.iload_n 3, 1) := by decide +kernel
theorem dL_act_826 : decode cL_act 826 = .ok (.ifCond .eq 8, 3) := by decide +kernel
theorem dL_act_829 : decode cL_act 829 = .ok (.bipush 30, 2) := by decide +kernel
theorem dL_act_831 : decode cL_act 831 = .ok (.goto 4, 3) := by decide +kernel
theorem dL_act_834 : decode cL_act 834 = .ok (.iconst 5, 1) := by decide +kernel
theorem dL_act_835 : decode cL_act 835 = .ok (.invokestatic 140, 3) := by decide +kernel
theorem dL_act_838 : decode cL_act 838 = .ok (.iadd, 1) := by decide +kernel
theorem dL_act_839 : decode cL_act 839 = .ok (.iconst 1, 1) := by decide +kernel
theorem dL_act_840 : decode cL_act 840 = .ok (.iload_n 2, 1) := by decide +kernel
theorem dL_act_841 : decode cL_act 841 = .ok (.bipush 11, 2) := by decide +kernel
theorem dL_act_843 : decode cL_act 843 = .ok (.ishr, 1) := by decide +kernel
theorem dL_act_844 : decode cL_act 844 = .ok (.iload_n 3, 1) := by decide +kernel
theorem dL_act_845 : decode cL_act 845 = .ok (.ifCond .eq 8, 3) := by decide +kernel
theorem dL_act_848 : decode cL_act 848 = .ok (.bipush 30, 2) := by decide +kernel
theorem dL_act_850 : decode cL_act 850 = .ok (.goto 5, 3) := by decide +kernel
theorem dL_act_853 : decode cL_act 853 = .ok (.bipush 6, 2) := by decide +kernel
theorem dL_act_855 : decode cL_act 855 = .ok (.invokestatic 140, 3) := by decide +kernel
theorem dL_act_858 : decode cL_act 858 = .ok (.iadd, 1) := by decide +kernel
theorem dL_act_859 : decode cL_act 859 = .ok (.lconst 0, 1) := by decide +kernel
theorem dL_act_860 : decode cL_act 860 = .ok (.invokestatic 145, 3) := by decide +kernel
theorem dL_act_863 : decode cL_act 863 = .ok (.goto 167, 3) := by decide +kernel
theorem dL_act_866 : decode cL_act 866 = .ok (.iload 4, 2) := by decide +kernel
theorem dL_act_868 : decode cL_act 868 = .ok (.bipush 54, 2) := by decide +kernel
theorem dL_act_870 : decode cL_act 870 = .ok (.if_icmp .ne 29, 3) := by decide +kernel
theorem dL_act_873 : decode cL_act 873 = .ok (.aload_n 0, 1) := by decide +kernel
theorem dL_act_874 : decode cL_act 874 = .ok (.bipush 20, 2) := by decide +kernel
theorem dL_act_876 : decode cL_act 876 = .ok (.iload_n 2, 1) := by decide +kernel
theorem dL_act_877 : decode cL_act 877 = .ok (.iconst 5, 1) := by decide +kernel
theorem dL_act_878 : decode cL_act 878 = .ok (.ishr, 1) := by decide +kernel
theorem dL_act_879 : decode cL_act 879 = .ok (.iconst 1, 1) := by decide +kernel
theorem dL_act_880 : decode cL_act 880 = .ok (.iand, 1) := by decide +kernel
theorem dL_act_881 : decode cL_act 881 = .ok (.iadd, 1) := by decide +kernel
theorem dL_act_882 : decode cL_act 882 = .ok (.iload 10, 2) := by decide +kernel
theorem dL_act_884 : decode cL_act 884 = .ok (.iconst 0, 1) := by decide +kernel
theorem dL_act_885 : decode cL_act 885 = .ok (.iconst 0, 1) := by decide +kernel
theorem dL_act_886 : decode cL_act 886 = .ok (.iload_n 2, 1) := by decide +kernel
theorem dL_act_887 : decode cL_act 887 = .ok (.iconst 4, 1) := by decide +kernel
theorem dL_act_888 : decode cL_act 888 = .ok (.ishr, 1) := by decide +kernel
theorem dL_act_889 : decode cL_act 889 = .ok (.iload_n 3, 1) := by decide +kernel
theorem dL_act_890 : decode cL_act 890 = .ok (.invokestatic 148, 3) := by decide +kernel
theorem dL_act_893 : decode cL_act 893 = .ok (.invokestatic 145, 3) := by decide +kernel
theorem dL_act_896 : decode cL_act 896 = .ok (.goto 134, 3) := by decide +kernel
theorem dL_act_899 : decode cL_act 899 = .ok (.iload 4, 2) := by decide +kernel
theorem dL_act_901 : decode cL_act 901 = .ok (.bipush 55, 2) := by decide +kernel
theorem dL_act_903 : decode cL_act 903 = .ok (.if_icmp .ne 48, 3) := by decide +kernel
theorem dL_act_906 : decode cL_act 906 = .ok (.aload_n 0, 1) := by decide +kernel
theorem dL_act_907 : decode cL_act 907 = .ok (.bipush 25, 2) := by decide +kernel
theorem dL_act_909 : decode cL_act 909 = .ok (.iconst 0, 1) := by decide +kernel
theorem dL_act_910 : decode cL_act 910 = .ok (.iload 9, 2) := by decide +kernel
theorem dL_act_912 : decode cL_act 912 = .ok (.iload_n 3, 1) := by decide +kernel
theorem dL_act_913 : decode cL_act 913 = .ok (.ifCond .eq 17, 3) := by decide +kernel
theorem dL_act_916 : decode cL_act 916 = .ok (.iload_n 2, 1) := by decide +kernel
theorem dL_act_917 : decode cL_act 917 = .ok (.bipush 6, 2) := by decide +kernel
theorem dL_act_919 : decode cL_act 919 = .ok (.ishr, 1) := by decide +kernel
theorem dL_act_920 : decode cL_act 920 = .ok (.bipush 8, 2) := by decide +kernel
theorem dL_act_922 : decode cL_act 922 = .ok (.invokestatic 140, 3) := by decide +kernel
theorem dL_act_925 : decode cL_act 925 = .ok (.iconst 3, 1) := by decide +kernel
theorem dL_act_926 : decode cL_act 926 = .ok (.isub, 1) := by decide +kernel
theorem dL_act_927 : decode cL_act 927 = .ok (.goto 11, 3) := by decide +kernel
theorem dL_act_930 : decode cL_act 930 = .ok (.iload_n 2, 1) := by decide +kernel
theorem dL_act_931 : decode cL_act 931 = .ok (.bipush 12, 2) := by decide +kernel
theorem dL_act_933 : decode cL_act 933 = .ok (.ishr, 1) := by decide +kernel
theorem dL_act_934 : decode cL_act 934 = .ok (.iconst 3, 1) := by decide +kernel
theorem dL_act_935 : decode cL_act 935 = .ok (.invokestatic 140, 3) := by decide +kernel
theorem dL_act_938 : decode cL_act 938 = .ok (.iload_n 2, 1) := by decide +kernel
theorem dL_act_939 : decode cL_act 939 = .ok (.iconst 4, 1) := by decide +kernel
theorem dL_act_940 : decode cL_act 940 = .ok (.ishr, 1) := by decide +kernel
theorem dL_act_941 : decode cL_act 941 = .ok (.iload_n 3, 1) := by decide +kernel
theorem dL_act_942 : decode cL_act 942 = .ok (.invokestatic 148, 3) := by decide +kernel
theorem dL_act_945 : decode cL_act 945 = .ok (.invokestatic 145, 3) := by decide +kernel
theorem dL_act_948 : decode cL_act 948 = .ok (.goto 82, 3) := by decide +kernel
theorem dL_act_951 : decode cL_act 951 = .ok (.iload 4, 2) := by decide +kernel
theorem dL_act_953 : decode cL_act 953 = .ok (.bipush 58, 2) := by decide +kernel
theorem dL_act_955 : decode cL_act 955 = .ok (.if_icmp .ge 17, 3) := by decide +kernel
theorem dL_act_958 : decode cL_act 958 = .ok (.aload_n 0, 1) := by decide +kernel
theorem dL_act_959 : decode cL_act 959 = .ok (.bipush 26, 2) := by decide +kernel
theorem dL_act_961 : decode cL_act 961 = .ok (.iload 10, 2) := by decide +kernel
theorem dL_act_963 : decode cL_act 963 = .ok (.iconst 0, 1) := by decide +kernel
theorem dL_act_964 : decode cL_act 964 = .ok (.iconst 0, 1) := by decide +kernel
theorem dL_act_965 : decode cL_act 965 = .ok (.lconst 0, 1) := by decide +kernel
theorem dL_act_966 : decode cL_act 966 = .ok (.invokestatic 145, 3) := by decide +kernel
theorem dL_act_969 : decode cL_act 969 = .ok (.goto 61, 3) := by decide +kernel
theorem dL_act_972 : decode cL_act 972 = .ok (.iload 4, 2) := by decide +kernel
theorem dL_act_974 : decode cL_act 974 = .ok (.bipush 58, 2) := by decide +kernel
theorem dL_act_976 : decode cL_act 976 = .ok (.if_icmp .ne 17, 3) := by decide +kernel
theorem dL_act_979 : decode cL_act 979 = .ok (.aload_n 0, 1) := by decide +kernel
theorem dL_act_980 : decode cL_act 980 = .ok (.bipush 28, 2) := by decide +kernel
theorem dL_act_982 : decode cL_act 982 = .ok (.iload 5, 2) := by decide +kernel
theorem dL_act_984 : decode cL_act 984 = .ok (.iconst 0, 1) := by decide +kernel
theorem dL_act_985 : decode cL_act 985 = .ok (.iconst 0, 1) := by decide +kernel
theorem dL_act_986 : decode cL_act 986 = .ok (.lconst 0, 1) := by decide +kernel
theorem dL_act_987 : decode cL_act 987 = .ok (.invokestatic 145, 3) := by decide +kernel
theorem dL_act_990 : decode cL_act 990 = .ok (.goto 40, 3) := by decide +kernel
theorem dL_act_993 : decode cL_act 993 = .ok (.iload 4, 2) := by decide +kernel
theorem dL_act_995 : decode cL_act 995 = .ok (.bipush 59, 2) := by decide +kernel
theorem dL_act_997 : decode cL_act 997 = .ok (.if_icmp .ne 32, 3) := by decide +kernel
theorem dL_act_1000 : decode cL_act 1000 = .ok (.aload_n 0, 1) := by decide +kernel
theorem dL_act_1001 : decode cL_act 1001 = .ok (.bipush 29, 2) := by decide +kernel
theorem dL_act_1003 : decode cL_act 1003 = .ok (.iload_n 2, 1) := by decide +kernel
theorem dL_act_1004 : decode cL_act 1004 = .ok (.bipush 6, 2) := by decide +kernel
theorem dL_act_1006 : decode cL_act 1006 = .ok (.ishr, 1) := by decide +kernel
theorem dL_act_1007 : decode cL_act 1007 = .ok (.iload_n 3, 1) := by decide +kernel
theorem dL_act_1008 : decode cL_act 1008 = .ok (.ifCond .eq 8, 3) := by decide +kernel
theorem dL_act_1011 : decode cL_act 1011 = .ok (.bipush 16, 2) := by decide +kernel
theorem dL_act_1013 : decode cL_act 1013 = .ok (.goto 4, 3) := by decide +kernel
theorem dL_act_1016 : decode cL_act 1016 = .ok (.iconst 4, 1) := by decide +kernel
theorem dL_act_1017 : decode cL_act 1017 = .ok (.invokestatic 140, 3) := by decide +kernel
theorem dL_act_1020 : decode cL_act 1020 = .ok (.iconst 0, 1) := by decide +kernel
theorem dL_act_1021 : decode cL_act 1021 = .ok (.iconst 0, 1) := by decide +kernel
theorem dL_act_1022 : decode cL_act 1022 = .ok (.lconst 0, 1) := by decide +kernel
theorem dL_act_1023 : decode cL_act 1023 = .ok (.invokestatic 145, 3) := by decide +kernel
theorem dL_act_1026 : decode cL_act 1026 = .ok (.goto 4, 3) := by decide +kernel
theorem dL_act_1029 : decode cL_act 1029 = .ok (.lconst 0, 1) := by decide +kernel
theorem dL_act_1030 : decode cL_act 1030 = .ok (.lreturn, 1) := by decide +kernel
theorem dL_areAlike_0 : decode cL_areAlike 0 = .ok (.aload_n 0, 1) := by decide +kernel
theorem dL_areAlike_1 : decode cL_areAlike 1 = .ok (.invokevirtual 153, 3) := by decide +kernel
theorem dL_areAlike_4 : decode cL_areAlike 4 = .ok (.aload_n 1, 1) := by decide +kernel
theorem dL_areAlike_5 : decode cL_areAlike 5 = .ok (.invokevirtual 153, 3) := by decide +kernel
theorem dL_areAlike_8 : decode cL_areAlike 8 = .ok (.if_icmp .ne 18, 3) := by decide +kernel
theorem dL_areAlike_11 : decode cL_areAlike 11 = .ok (.aload_n 0, 1) := by decide +kernel
theorem dL_areAlike_12 : decode cL_areAlike 12 = .ok (.invokevirtual 157, 3) := by decide +kernel
theorem dL_areAlike_15 : decode cL_areAlike 15 = .ok (.aload_n 1, 1) := by decide +kernel
theorem dL_areAlike_16 : decode cL_areAlike 16 = .ok (.invokevirtual 157, 3) := by decide +kernel
theorem dL_areAlike_19 : decode cL_areAlike 19 = .ok (.if_icmp .ne 7, 3) := by decide +kernel
theorem dL_areAlike_22 : decode cL_areAlike 22 = .ok (.iconst 1, 1) := by decide +kernel
theorem dL_areAlike_23 : decode cL_areAlike 23 = .ok (.goto 4, 3) := by decide +kernel
theorem dL_areAlike_26 : decode cL_areAlike 26 = .ok (.iconst 0, 1) := by decide +kernel
theorem dL_areAlike_27 : decode cL_areAlike 27 = .ok (.istore 4, 2) := by decide +kernel
theorem dL_areAlike_29 : decode cL_areAlike 29 = .ok (.iconst 0, 1) := by decide +kernel
theorem dL_areAlike_30 : decode cL_areAlike 30 = .ok (.istore 5, 2) := by decide +kernel
theorem dL_areAlike_32 : decode cL_areAlike 32 = .ok (.iload 5, 2) := by decide +kernel
theorem dL_areAlike_34 : decode cL_areAlike 34 = .ok (.bipush 8, 2) := by decide +kernel
theorem dL_areAlike_36 : decode cL_areAlike 36 = .ok (.if_icmp .ge 343, 3) := by decide +kernel
theorem dL_areAlike_39 : decode cL_areAlike 39 = .ok (.iload 4, 2) := by decide +kernel
theorem dL_areAlike_41 : decode cL_areAlike 41 = .ok (.ifCond .eq 338, 3) := by decide +kernel
theorem dL_areAlike_44 : decode cL_areAlike 44 = .ok (.sipush 10000, 3) := by decide +kernel
theorem dL_areAlike_47 : decode cL_areAlike 47 = .ok (.iload_n 3, 1) := by decide +kernel
theorem dL_areAlike_48 : decode cL_areAlike 48 = .ok (.iload 5, 2) := by decide +kernel
theorem dL_areAlike_50 : decode cL_areAlike 50 = .ok (.ishr, 1) := by decide +kernel
theorem dL_areAlike_51 : decode cL_areAlike 51 = .ok (.bipush 100, 2) := by decide +kernel
theorem dL_areAlike_53 : decode cL_areAlike 53 = .ok (.invokestatic 140, 3) := by decide +kernel
theorem dL_areAlike_56 : decode cL_areAlike 56 = .ok (.imul, 1) := by decide +kernel
theorem dL_areAlike_57 : decode cL_areAlike 57 = .ok (.iload_n 3, 1) := by decide +kernel
theorem dL_areAlike_58 : decode cL_areAlike 58 = .ok (.iload 5, 2) := by decide +kernel
theorem dL_areAlike_60 : decode cL_areAlike 60 = .ok (.iconst 2, 1) := by decide +kernel
theorem dL_areAlike_61 : decode cL_areAlike 61 = .ok (.iadd, 1) := by decide +kernel
theorem dL_areAlike_62 : decode cL_areAlike 62 = .ok (.ishr, 1) := by decide +kernel
theorem dL_areAlike_63 : decode cL_areAlike 63 = .ok (.bipush 100, 2) := by decide +kernel
theorem dL_areAlike_65 : decode cL_areAlike 65 = .ok (.invokestatic 140, 3) := by decide +kernel
theorem dL_areAlike_68 : decode cL_areAlike 68 = .ok (.iadd, 1) := by decide +kernel
theorem dL_areAlike_69 : decode cL_areAlike 69 = .ok (.istore 6, 2) := by decide +kernel
theorem dL_areAlike_71 : decode cL_areAlike 71 = .ok (.aload_n 0, 1) := by decide +kernel
theorem dL_areAlike_72 : decode cL_areAlike 72 = .ok (.iconst 4, 1) := by decide +kernel
theorem dL_areAlike_73 : decode cL_areAlike 73 = .ok (.iload 5, 2) := by decide +kernel
theorem dL_areAlike_75 : decode cL_areAlike 75 = .ok (.iload 5, 2) := by decide +kernel
theorem dL_areAlike_77 : decode cL_areAlike 77 = .ok (.iconst 5, 1) := by decide +kernel
theorem dL_areAlike_78 : decode cL_areAlike 78 = .ok (.irem, 1) := by decide +kernel
theorem dL_areAlike_79 : decode cL_areAlike 79 = .ok (.iload 6, 2) := by decide +kernel
theorem dL_areAlike_81 : decode cL_areAlike 81 = .ok (.lconst 0, 1) := by decide +kernel
theorem dL_areAlike_82 : decode cL_areAlike 82 = .ok (.invokestatic 145, 3) := by decide +kernel
theorem dL_areAlike_85 : decode cL_areAlike 85 = .ok (.aload_n 1, 1) := by decide +kernel
theorem dL_areAlike_86 : decode cL_areAlike 86 = .ok (.iconst 4, 1) := by decide +kernel
theorem dL_areAlike_87 : decode cL_areAlike 87 = .ok (.iload 5, 2) := by decide +kernel
theorem dL_areAlike_89 : decode cL_areAlike 89 = .ok (.iload 5, 2) := by decide +kernel
theorem dL_areAlike_91 : decode cL_areAlike 91 = .ok (.iconst 5, 1) := by decide +kernel
theorem dL_areAlike_92 : decode cL_areAlike 92 = .ok (.irem, 1) := by decide +kernel
theorem dL_areAlike_93 : decode cL_areAlike 93 = .ok (.iload 6, 2) := by decide +kernel
theorem dL_areAlike_95 : decode cL_areAlike 95 = .ok (.lconst 0, 1) := by decide +kernel
theorem dL_areAlike_96 : decode cL_areAlike 96 = .ok (.invokestatic 145, 3) := by decide +kernel
theorem dL_areAlike_99 : decode cL_areAlike 99 = .ok (.lcmp, 1) := by decide +kernel
theorem dL_areAlike_100 : decode cL_areAlike 100 = .ok (.ifCond .ne 215, 3) := by decide +kernel
theorem dL_areAlike_103 : decode cL_areAlike 103 = .ok (.aload_n 0, 1) := by decide +kernel
theorem dL_areAlike_104 : decode cL_areAlike 104 = .ok (.bipush 8, 2) := by decide +kernel
theorem dL_areAlike_106 : decode cL_areAlike 106 = .ok (.iload 5, 2) := by decide +kernel
theorem dL_areAlike_108 : decode cL_areAlike 108 = .ok (.iload 5, 2) := by decide +kernel
theorem dL_areAlike_110 : decode cL_areAlike 110 = .ok (.iconst 2, 1) := by decide +kernel
theorem dL_areAlike_111 : decode cL_areAlike 111 = .ok (.irem, 1) := by decide +kernel
theorem dL_areAlike_112 : decode cL_areAlike 112 = .ok (.iload 6, 2) := by decide +kernel
theorem dL_areAlike_114 : decode cL_areAlike 114 = .ok (.lconst 0, 1) := by decide +kernel
theorem dL_areAlike_115 : decode cL_areAlike 115 = .ok (.invokestatic 145, 3) := by decide +kernel
theorem dL_areAlike_118 : decode cL_areAlike 118 = .ok (.aload_n 1, 1) := by decide +kernel
theorem dL_areAlike_119 : decode cL_areAlike 119 = .ok (.bipush 8, 2) := by decide +kernel
theorem dL_areAlike_121 : decode cL_areAlike 121 = .ok (.iload 5, 2) := by decide +kernel
theorem dL_areAlike_123 : decode cL_areAlike 123 = .ok (.iload 5, 2) := by decide +kernel
theorem dL_areAlike_125 : decode cL_areAlike 125 = .ok (.iconst 2, 1) := by decide +kernel
theorem dL_areAlike_126 : decode cL_areAlike 126 = .ok (.irem, 1) := by decide +kernel
theorem dL_areAlike_127 : decode cL_areAlike 127 = .ok (.iload 6, 2) := by decide +kernel
theorem dL_areAlike_129 : decode cL_areAlike 129 = .ok (.lconst 0, 1) := by decide +kernel
theorem dL_areAlike_130 : decode cL_areAlike 130 = .ok (.invokestatic 145, 3) := by decide +kernel
theorem dL_areAlike_133 : decode cL_areAlike 133 = .ok (.lcmp, 1) := by decide +kernel
theorem dL_areAlike_134 : decode cL_areAlike 134 = .ok (.ifCond .ne 181, 3) := by decide +kernel
theorem dL_areAlike_137 : decode cL_areAlike 137 = .ok (.aload_n 0, 1) := by decide +kernel
theorem dL_areAlike_138 : decode cL_areAlike 138 = .ok (.bipush 17, 2) := by decide +kernel
theorem dL_areAlike_140 : decode cL_areAlike 140 = .ok (.iload 5, 2) := by decide +kernel
theorem dL_areAlike_142 : decode cL_areAlike 142 = .ok (.iload_n 2, 1) := by decide +kernel
theorem dL_areAlike_143 : decode cL_areAlike 143 = .ok (.iconst 0, 1) := by decide +kernel
theorem dL_areAlike_144 : decode cL_areAlike 144 = .ok (.lconst 0, 1) := by decide +kernel
theorem dL_areAlike_145 : decode cL_areAlike 145 = .ok (.invokestatic 145, 3) := by decide +kernel
theorem dL_areAlike_148 : decode cL_areAlike 148 = .ok (.aload_n 1, 1) := by decide +kernel
theorem dL_areAlike_149 : decode cL_areAlike 149 = .ok (.bipush 17, 2) := by decide +kernel
theorem dL_areAlike_151 : decode cL_areAlike 151 = .ok (.iload 5, 2) := by decide +kernel
theorem dL_areAlike_153 : decode cL_areAlike 153 = .ok (.iload_n 2, 1) := by decide +kernel
theorem dL_areAlike_154 : decode cL_areAlike 154 = .ok (.iconst 0, 1) := by decide +kernel
theorem dL_areAlike_155 : decode cL_areAlike 155 = .ok (.lconst 0, 1) := by decide +kernel
theorem dL_areAlike_156 : decode cL_areAlike 156 = .ok (.invokestatic 145, 3) := by decide +kernel
theorem dL_areAlike_159 : decode cL_areAlike 159 = .ok (.lcmp, 1) := by decide +kernel
theorem dL_areAlike_160 : decode cL_areAlike 160 = .ok (.ifCond .ne 155, 3) := by decide +kernel
theorem dL_areAlike_163 : decode cL_areAlike 163 = .ok (.aload_n 0, 1) := by decide +kernel
theorem dL_areAlike_164 : decode cL_areAlike 164 = .ok (.bipush 18, 2) := by decide +kernel
theorem dL_areAlike_166 : decode cL_areAlike 166 = .ok (.iload 5, 2) := by decide +kernel
theorem dL_areAlike_168 : decode cL_areAlike 168 = .ok (.iconst 1, 1) := by decide +kernel
theorem dL_areAlike_169 : decode cL_areAlike 169 = .ok (.iconst 0, 1) := by decide +kernel
theorem dL_areAlike_170 : decode cL_areAlike 170 = .ok (.lconst 0, 1) := by decide +kernel
theorem dL_areAlike_171 : decode cL_areAlike 171 = .ok (.invokestatic 145, 3) := by decide +kernel
theorem dL_areAlike_174 : decode cL_areAlike 174 = .ok (.aload_n 1, 1) := by decide +kernel
theorem dL_areAlike_175 : decode cL_areAlike 175 = .ok (.bipush 18, 2) := by decide +kernel
theorem dL_areAlike_177 : decode cL_areAlike 177 = .ok (.iload 5, 2) := by decide +kernel
theorem dL_areAlike_179 : decode cL_areAlike 179 = .ok (.iconst 1, 1) := by decide +kernel
theorem dL_areAlike_180 : decode cL_areAlike 180 = .ok (.iconst 0, 1) := by decide +kernel
theorem dL_areAlike_181 : decode cL_areAlike 181 = .ok (.lconst 0, 1) := by decide +kernel
theorem dL_areAlike_182 : decode cL_areAlike 182 = .ok (.invokestatic 145, 3) := by decide +kernel
theorem dL_areAlike_185 : decode cL_areAlike 185 = .ok (.lcmp, 1) := by decide +kernel
theorem dL_areAlike_186 : decode cL_areAlike 186 = .ok (.ifCond .ne 129, 3) := by decide +kernel
theorem dL_areAlike_189 : decode cL_areAlike 189 = .ok (.aload_n 0, 1) := by decide +kernel
theorem dL_areAlike_190 : decode cL_areAlike 190 = .ok (.bipush 22, 2) := by decide +kernel
theorem dL_areAlike_192 : decode cL_areAlike 192 = .ok (.iload 5, 2) := by decide +kernel
theorem dL_areAlike_194 : decode cL_areAlike 194 = .ok (.iconst 0, 1) := by decide +kernel
theorem dL_areAlike_195 : decode cL_areAlike 195 = .ok (.iconst 0, 1) := by decide +kernel
theorem dL_areAlike_196 : decode cL_areAlike 196 = .ok (.lconst 0, 1) := by decide +kernel
theorem dL_areAlike_197 : decode cL_areAlike 197 = .ok (.invokestatic 145, 3) := by decide +kernel
theorem dL_areAlike_200 : decode cL_areAlike 200 = .ok (.aload_n 1, 1) := by decide +kernel
theorem dL_areAlike_201 : decode cL_areAlike 201 = .ok (.bipush 22, 2) := by decide +kernel
theorem dL_areAlike_203 : decode cL_areAlike 203 = .ok (.iload 5, 2) := by decide +kernel
theorem dL_areAlike_205 : decode cL_areAlike 205 = .ok (.iconst 0, 1) := by decide +kernel
theorem dL_areAlike_206 : decode cL_areAlike 206 = .ok (.iconst 0, 1) := by decide +kernel
theorem dL_areAlike_207 : decode cL_areAlike 207 = .ok (.lconst 0, 1) := by decide +kernel
theorem dL_areAlike_208 : decode cL_areAlike 208 = .ok (.invokestatic 145, 3) := by decide +kernel
theorem dL_areAlike_211 : decode cL_areAlike 211 = .ok (.lcmp, 1) := by decide +kernel
theorem dL_areAlike_212 : decode cL_areAlike 212 = .ok (.ifCond .ne 103, 3) := by decide +kernel
theorem dL_areAlike_215 : decode cL_areAlike 215 = .ok (.aload_n 0, 1) := by decide +kernel
theorem dL_areAlike_216 : decode cL_areAlike 216 = .ok (.bipush 24, 2) := by decide +kernel
theorem dL_areAlike_218 : decode cL_areAlike 218 = .ok (.iload 5, 2) := by decide +kernel
theorem dL_areAlike_220 : decode cL_areAlike 220 = .ok (.iconst 4, 1) := by decide +kernel
theorem dL_areAlike_221 : decode cL_areAlike 221 = .ok (.irem, 1) := by decide +kernel
theorem dL_areAlike_222 : decode cL_areAlike 222 = .ok (.iload 5, 2) := by decide +kernel
theorem dL_areAlike_224 : decode cL_areAlike 224 = .ok (.iconst 0, 1) := by decide +kernel
theorem dL_areAlike_225 : decode cL_areAlike 225 = .ok (.lconst 0, 1) := by decide +kernel
theorem dL_areAlike_226 : decode cL_areAlike 226 = .ok (.invokestatic 145, 3) := by decide +kernel
theorem dL_areAlike_229 : decode cL_areAlike 229 = .ok (.aload_n 1, 1) := by decide +kernel
theorem dL_areAlike_230 : decode cL_areAlike 230 = .ok (.bipush 24, 2) := by decide +kernel
theorem dL_areAlike_232 : decode cL_areAlike 232 = .ok (.iload 5, 2) := by decide +kernel
theorem dL_areAlike_234 : decode cL_areAlike 234 = .ok (.iconst 4, 1) := by decide +kernel
theorem dL_areAlike_235 : decode cL_areAlike 235 = .ok (.irem, 1) := by decide +kernel
theorem dL_areAlike_236 : decode cL_areAlike 236 = .ok (.iload 5, 2) := by decide +kernel
theorem dL_areAlike_238 : decode cL_areAlike 238 = .ok (.iconst 0, 1) := by decide +kernel
theorem dL_areAlike_239 : decode cL_areAlike 239 = .ok (.lconst 0, 1) := by decide +kernel
theorem dL_areAlike_240 : decode cL_areAlike 240 = .ok (.invokestatic 145, 3) := by decide +kernel
theorem dL_areAlike_243 : decode cL_areAlike 243 = .ok (.lcmp, 1) := by decide +kernel
theorem dL_areAlike_244 : decode cL_areAlike 244 = .ok (.ifCond .ne 71, 3) := by decide +kernel
theorem dL_areAlike_247 : decode cL_areAlike 247 = .ok (.aload_n 0, 1) := by decide +kernel
theorem dL_areAlike_248 : decode cL_areAlike 248 = .ok (.bipush 27, 2) := by decide +kernel
theorem dL_areAlike_250 : decode cL_areAlike 250 = .ok (.iload 5, 2) := by decide +kernel
theorem dL_areAlike_252 : decode cL_areAlike 252 = .ok (.iconst 4, 1) := by decide +kernel
theorem dL_areAlike_253 : decode cL_areAlike 253 = .ok (.irem, 1) := by decide +kernel
theorem dL_areAlike_254 : decode cL_areAlike 254 = .ok (.iload 5, 2) := by decide +kernel
theorem dL_areAlike_256 : decode cL_areAlike 256 = .ok (.iload 5, 2) := by decide +kernel
theorem dL_areAlike_258 : decode cL_areAlike 258 = .ok (.iconst 2, 1) := by decide +kernel
theorem dL_areAlike_259 : decode cL_areAlike 259 = .ok (.irem, 1) := by decide +kernel
theorem dL_areAlike_260 : decode cL_areAlike 260 = .ok (.lconst 0, 1) := by decide +kernel
theorem dL_areAlike_261 : decode cL_areAlike 261 = .ok (.invokestatic 145, 3) := by decide +kernel
theorem dL_areAlike_264 : decode cL_areAlike 264 = .ok (.aload_n 1, 1) := by decide +kernel
theorem dL_areAlike_265 : decode cL_areAlike 265 = .ok (.bipush 27, 2) := by decide +kernel
theorem dL_areAlike_267 : decode cL_areAlike 267 = .ok (.iload 5, 2) := by decide +kernel
theorem dL_areAlike_269 : decode cL_areAlike 269 = .ok (.iconst 4, 1) := by decide +kernel
theorem dL_areAlike_270 : decode cL_areAlike 270 = .ok (.irem, 1) := by decide +kernel
theorem dL_areAlike_271 : decode cL_areAlike 271 = .ok (.iload 5, 2) := by decide +kernel
theorem dL_areAlike_273 : decode cL_areAlike 273 = .ok (.iload 5, 2) := by decide +kernel
theorem dL_areAlike_275 : decode cL_areAlike 275 = .ok (.iconst 2, 1) := by decide +kernel
theorem dL_areAlike_276 : decode cL_areAlike 276 = .ok (.irem, 1) := by decide +kernel
theorem dL_areAlike_277 : decode cL_areAlike 277 = .ok (.lconst 0, 1) := by decide +kernel
theorem dL_areAlike_278 : decode cL_areAlike 278 = .ok (.invokestatic 145, 3) := by decide +kernel
theorem dL_areAlike_281 : decode cL_areAlike 281 = .ok (.lcmp, 1) := by decide +kernel
theorem dL_areAlike_282 : decode cL_areAlike 282 = .ok (.ifCond .ne 33, 3) := by decide +kernel
theorem dL_areAlike_285 : decode cL_areAlike 285 = .ok (.aload_n 0, 1) := by decide +kernel
theorem dL_areAlike_286 : decode cL_areAlike 286 = .ok (.bipush 30, 2) := by decide +kernel
theorem dL_areAlike_288 : decode cL_areAlike 288 = .ok (.iload 5, 2) := by decide +kernel
theorem dL_areAlike_290 : decode cL_areAlike 290 = .ok (.iconst 0, 1) := by decide +kernel
theorem dL_areAlike_291 : decode cL_areAlike 291 = .ok (.iconst 0, 1) := by decide +kernel
theorem dL_areAlike_292 : decode cL_areAlike 292 = .ok (.lconst 0, 1) := by decide +kernel
theorem dL_areAlike_293 : decode cL_areAlike 293 = .ok (.invokestatic 145, 3) := by decide +kernel
theorem dL_areAlike_296 : decode cL_areAlike 296 = .ok (.aload_n 1, 1) := by decide +kernel
theorem dL_areAlike_297 : decode cL_areAlike 297 = .ok (.bipush 30, 2) := by decide +kernel
theorem dL_areAlike_299 : decode cL_areAlike 299 = .ok (.iload 5, 2) := by decide +kernel
theorem dL_areAlike_301 : decode cL_areAlike 301 = .ok (.iconst 0, 1) := by decide +kernel
theorem dL_areAlike_302 : decode cL_areAlike 302 = .ok (.iconst 0, 1) := by decide +kernel
theorem dL_areAlike_303 : decode cL_areAlike 303 = .ok (.lconst 0, 1) := by decide +kernel
theorem dL_areAlike_304 : decode cL_areAlike 304 = .ok (.invokestatic 145, 3) := by decide +kernel
theorem dL_areAlike_307 : decode cL_areAlike 307 = .ok (.lcmp, 1) := by decide +kernel
theorem dL_areAlike_308 : decode cL_areAlike 308 = .ok (.ifCond .ne 7, 3) := by decide +kernel
theorem dL_areAlike_311 : decode cL_areAlike 311 = .ok (.iconst 1, 1) := by decide +kernel
theorem dL_areAlike_312 : decode cL_areAlike 312 = .ok (.goto 4, 3) := by decide +kernel
theorem dL_areAlike_315 : decode cL_areAlike 315 = .ok (.iconst 0, 1) := by decide +kernel
theorem dL_areAlike_316 : decode cL_areAlike 316 = .ok (.istore 4, 2) := by decide +kernel
theorem dL_areAlike_318 : decode cL_areAlike 318 = .ok (.iconst 0, 1) := by decide +kernel
theorem dL_areAlike_319 : decode cL_areAlike 319 = .ok (.istore 7, 2) := by decide +kernel
theorem dL_areAlike_321 : decode cL_areAlike 321 = .ok (.iload 7, 2) := by decide +kernel
theorem dL_areAlike_323 : decode cL_areAlike 323 = .ok (.iconst 5, 1) := by decide +kernel
theorem dL_areAlike_324 : decode cL_areAlike 324 = .ok (.if_icmp .ge 49, 3) := by decide +kernel
theorem dL_areAlike_327 : decode cL_areAlike 327 = .ok (.iload 4, 2) := by decide +kernel
theorem dL_areAlike_329 : decode cL_areAlike 329 = .ok (.ifCond .eq 44, 3) := by decide +kernel
theorem dL_areAlike_332 : decode cL_areAlike 332 = .ok (.aload_n 0, 1) := by decide +kernel
theorem dL_areAlike_333 : decode cL_areAlike 333 = .ok (.bipush 14, 2) := by decide +kernel
theorem dL_areAlike_335 : decode cL_areAlike 335 = .ok (.iload 5, 2) := by decide +kernel
theorem dL_areAlike_337 : decode cL_areAlike 337 = .ok (.iload 7, 2) := by decide +kernel
theorem dL_areAlike_339 : decode cL_areAlike 339 = .ok (.iconst 0, 1) := by decide +kernel
theorem dL_areAlike_340 : decode cL_areAlike 340 = .ok (.lconst 0, 1) := by decide +kernel
theorem dL_areAlike_341 : decode cL_areAlike 341 = .ok (.invokestatic 145, 3) := by decide +kernel
theorem dL_areAlike_344 : decode cL_areAlike 344 = .ok (.aload_n 1, 1) := by decide +kernel
theorem dL_areAlike_345 : decode cL_areAlike 345 = .ok (.bipush 14, 2) := by decide +kernel
theorem dL_areAlike_347 : decode cL_areAlike 347 = .ok (.iload 5, 2) := by decide +kernel
theorem dL_areAlike_349 : decode cL_areAlike 349 = .ok (.iload 7, 2) := by decide +kernel
theorem dL_areAlike_351 : decode cL_areAlike 351 = .ok (.iconst 0, 1) := by decide +kernel
theorem dL_areAlike_352 : decode cL_areAlike 352 = .ok (.lconst 0, 1) := by decide +kernel
theorem dL_areAlike_353 : decode cL_areAlike 353 = .ok (.invokestatic 145, 3) := by decide +kernel
theorem dL_areAlike_356 : decode cL_areAlike 356 = .ok (.lcmp, 1) := by decide +kernel
theorem dL_areAlike_357 : decode cL_areAlike 357 = .ok (.ifCond .ne 7, 3) := by decide +kernel
theorem dL_areAlike_360 : decode cL_areAlike 360 = .ok (.iconst 1, 1) := by decide +kernel
theorem dL_areAlike_361 : decode cL_areAlike 361 = .ok (.goto 4, 3) := by decide +kernel
theorem dL_areAlike_364 : decode cL_areAlike 364 = .ok (.iconst 0, 1) := by decide +kernel
theorem dL_areAlike_365 : decode cL_areAlike 365 = .ok (.istore 4, 2) := by decide +kernel
theorem dL_areAlike_367 : decode cL_areAlike 367 = .ok (.iinc 7 1, 3) := by decide +kernel
theorem dL_areAlike_370 : decode cL_areAlike 370 = .ok (.goto (-49), 3) := by decide +kernel
theorem dL_areAlike_373 : decode cL_areAlike 373 = .ok (.iinc 5 1, 3) := by decide +kernel
theorem dL_areAlike_376 : decode cL_areAlike 376 = .ok (.goto (-344), 3) := by decide +kernel
theorem dL_areAlike_379 : decode cL_areAlike 379 = .ok (.iload 4, 2) := by decide +kernel
theorem dL_areAlike_381 : decode cL_areAlike 381 = .ok (.ireturn, 1) := by decide +kernel
theorem dL_isWord_0 : decode cL_isWord 0 = .ok (.lload_n 0, 1) := by decide +kernel
theorem dL_isWord_1 : decode cL_isWord 1 = .ok (.lconst 0, 1) := by decide +kernel
theorem dL_isWord_2 : decode cL_isWord 2 = .ok (.lcmp, 1) := by decide +kernel
theorem dL_isWord_3 : decode cL_isWord 3 = .ok (.ifCond .lt 7, 3) := by decide +kernel
theorem dL_isWord_6 : decode cL_isWord 6 = .ok (.iconst 1, 1) := by decide +kernel
theorem dL_isWord_7 : decode cL_isWord 7 = .ok (.goto 4, 3) := by decide +kernel
theorem dL_isWord_10 : decode cL_isWord 10 = .ok (.iconst 0, 1) := by decide +kernel
theorem dL_isWord_11 : decode cL_isWord 11 = .ok (.istore_n 2, 1) := by decide +kernel
theorem dL_isWord_12 : decode cL_isWord 12 = .ok (.iconst 0, 1) := by decide +kernel
theorem dL_isWord_13 : decode cL_isWord 13 = .ok (.istore_n 3, 1) := by decide +kernel
theorem dL_isWord_14 : decode cL_isWord 14 = .ok (.lload_n 0, 1) := by decide +kernel
theorem dL_isWord_15 : decode cL_isWord 15 = .ok (.lstore 4, 2) := by decide +kernel
theorem dL_isWord_17 : decode cL_isWord 17 = .ok (.lload 4, 2) := by decide +kernel
theorem dL_isWord_19 : decode cL_isWord 19 = .ok (.lconst 0, 1) := by decide +kernel
theorem dL_isWord_20 : decode cL_isWord 20 = .ok (.lcmp, 1) := by decide +kernel
theorem dL_isWord_21 : decode cL_isWord 21 = .ok (.ifCond .le 38, 3) := by decide +kernel
theorem dL_isWord_24 : decode cL_isWord 24 = .ok (.iload_n 2, 1) := by decide +kernel
theorem dL_isWord_25 : decode cL_isWord 25 = .ok (.ifCond .eq 34, 3) := by decide +kernel
theorem dL_isWord_28 : decode cL_isWord 28 = .ok (.lload 4, 2) := by decide +kernel
theorem dL_isWord_30 : decode cL_isWord 30 = .ok (.ldc2_w 143, 3) := by decide +kernel
theorem dL_isWord_33 : decode cL_isWord 33 = .ok (.lrem, 1) := by decide +kernel
theorem dL_isWord_34 : decode cL_isWord 34 = .ok (.lconst 0, 1) := by decide +kernel
theorem dL_isWord_35 : decode cL_isWord 35 = .ok (.lcmp, 1) := by decide +kernel
theorem dL_isWord_36 : decode cL_isWord 36 = .ok (.ifCond .le 7, 3) := by decide +kernel
theorem dL_isWord_39 : decode cL_isWord 39 = .ok (.iconst 1, 1) := by decide +kernel
theorem dL_isWord_40 : decode cL_isWord 40 = .ok (.goto 4, 3) := by decide +kernel
theorem dL_isWord_43 : decode cL_isWord 43 = .ok (.iconst 0, 1) := by decide +kernel
theorem dL_isWord_44 : decode cL_isWord 44 = .ok (.istore_n 2, 1) := by decide +kernel
theorem dL_isWord_45 : decode cL_isWord 45 = .ok (.iinc 3 1, 3) := by decide +kernel
theorem dL_isWord_48 : decode cL_isWord 48 = .ok (.lload 4, 2) := by decide +kernel
theorem dL_isWord_50 : decode cL_isWord 50 = .ok (.ldc2_w 143, 3) := by decide +kernel
theorem dL_isWord_53 : decode cL_isWord 53 = .ok (.ldiv, 1) := by decide +kernel
theorem dL_isWord_54 : decode cL_isWord 54 = .ok (.lstore 4, 2) := by decide +kernel
theorem dL_isWord_56 : decode cL_isWord 56 = .ok (.goto (-39), 3) := by decide +kernel
theorem dL_isWord_59 : decode cL_isWord 59 = .ok (.iload_n 2, 1) := by decide +kernel
theorem dL_isWord_60 : decode cL_isWord 60 = .ok (.ifCond .eq 13, 3) := by decide +kernel
theorem dL_isWord_63 : decode cL_isWord 63 = .ok (.iload_n 3, 1) := by decide +kernel
theorem dL_isWord_64 : decode cL_isWord 64 = .ok (.bipush 12, 2) := by decide +kernel
theorem dL_isWord_66 : decode cL_isWord 66 = .ok (.if_icmp .gt 7, 3) := by decide +kernel
theorem dL_isWord_69 : decode cL_isWord 69 = .ok (.iconst 1, 1) := by decide +kernel
theorem dL_isWord_70 : decode cL_isWord 70 = .ok (.goto 4, 3) := by decide +kernel
theorem dL_isWord_73 : decode cL_isWord 73 = .ok (.iconst 0, 1) := by decide +kernel
theorem dL_isWord_74 : decode cL_isWord 74 = .ok (.ireturn, 1) := by decide +kernel
theorem dL_isInOrder_0 : decode cL_isInOrder 0 = .ok (.iconst 1, 1) := by decide +kernel
theorem dL_isInOrder_1 : decode cL_isInOrder 1 = .ok (.istore_n 3, 1) := by decide +kernel
theorem dL_isInOrder_2 : decode cL_isInOrder 2 = .ok (.iconst 0, 1) := by decide +kernel
theorem dL_isInOrder_3 : decode cL_isInOrder 3 = .ok (.istore 4, 2) := by decide +kernel
theorem dL_isInOrder_5 : decode cL_isInOrder 5 = .ok (.iload 4, 2) := by decide +kernel
theorem dL_isInOrder_7 : decode cL_isInOrder 7 = .ok (.bipush 8, 2) := by decide +kernel
theorem dL_isInOrder_9 : decode cL_isInOrder 9 = .ok (.if_icmp .ge 291, 3) := by decide +kernel
theorem dL_isInOrder_12 : decode cL_isInOrder 12 = .ok (.iload_n 3, 1) := by decide +kernel
theorem dL_isInOrder_13 : decode cL_isInOrder 13 = .ok (.ifCond .eq 287, 3) := by decide +kernel
theorem dL_isInOrder_16 : decode cL_isInOrder 16 = .ok (.iload_n 2, 1) := by decide +kernel
theorem dL_isInOrder_17 : decode cL_isInOrder 17 = .ok (.iload 4, 2) := by decide +kernel
theorem dL_isInOrder_19 : decode cL_isInOrder 19 = .ok (.ishr, 1) := by decide +kernel
theorem dL_isInOrder_20 : decode cL_isInOrder 20 = .ok (.iload_n 1, 1) := by decide +kernel
theorem dL_isInOrder_21 : decode cL_isInOrder 21 = .ok (.bipush 60, 2) := by decide +kernel
theorem dL_isInOrder_23 : decode cL_isInOrder 23 = .ok (.iadd, 1) := by decide +kernel
theorem dL_isInOrder_24 : decode cL_isInOrder 24 = .ok (.invokestatic 140, 3) := by decide +kernel
theorem dL_isInOrder_27 : decode cL_isInOrder 27 = .ok (.istore 5, 2) := by decide +kernel
theorem dL_isInOrder_29 : decode cL_isInOrder 29 = .ok (.iload_n 2, 1) := by decide +kernel
theorem dL_isInOrder_30 : decode cL_isInOrder 30 = .ok (.iload 4, 2) := by decide +kernel
theorem dL_isInOrder_32 : decode cL_isInOrder 32 = .ok (.iconst 3, 1) := by decide +kernel
theorem dL_isInOrder_33 : decode cL_isInOrder 33 = .ok (.iadd, 1) := by decide +kernel
theorem dL_isInOrder_34 : decode cL_isInOrder 34 = .ok (.ishr, 1) := by decide +kernel
theorem dL_isInOrder_35 : decode cL_isInOrder 35 = .ok (.iload_n 1, 1) := by decide +kernel
theorem dL_isInOrder_36 : decode cL_isInOrder 36 = .ok (.iconst 1, 1) := by decide +kernel
theorem dL_isInOrder_37 : decode cL_isInOrder 37 = .ok (.iadd, 1) := by decide +kernel
theorem dL_isInOrder_38 : decode cL_isInOrder 38 = .ok (.invokestatic 140, 3) := by decide +kernel
theorem dL_isInOrder_41 : decode cL_isInOrder 41 = .ok (.istore 6, 2) := by decide +kernel
theorem dL_isInOrder_43 : decode cL_isInOrder 43 = .ok (.aload_n 0, 1) := by decide +kernel
theorem dL_isInOrder_44 : decode cL_isInOrder 44 = .ok (.bipush 30, 2) := by decide +kernel
theorem dL_isInOrder_46 : decode cL_isInOrder 46 = .ok (.iload 4, 2) := by decide +kernel
theorem dL_isInOrder_48 : decode cL_isInOrder 48 = .ok (.iconst 0, 1) := by decide +kernel
theorem dL_isInOrder_49 : decode cL_isInOrder 49 = .ok (.iconst 0, 1) := by decide +kernel
theorem dL_isInOrder_50 : decode cL_isInOrder 50 = .ok (.lconst 0, 1) := by decide +kernel
theorem dL_isInOrder_51 : decode cL_isInOrder 51 = .ok (.invokestatic 145, 3) := by decide +kernel
theorem dL_isInOrder_54 : decode cL_isInOrder 54 = .ok (.ldc2_w 68, 3) := by decide +kernel
theorem dL_isInOrder_57 : decode cL_isInOrder 57 = .ok (.lcmp, 1) := by decide +kernel
theorem dL_isInOrder_58 : decode cL_isInOrder 58 = .ok (.ifCond .eq 236, 3) := by decide +kernel
theorem dL_isInOrder_61 : decode cL_isInOrder 61 = .ok (.aload_n 0, 1) := by decide +kernel
theorem dL_isInOrder_62 : decode cL_isInOrder 62 = .ok (.iload 4, 2) := by decide +kernel
theorem dL_isInOrder_64 : decode cL_isInOrder 64 = .ok (.iload_n 2, 1) := by decide +kernel
theorem dL_isInOrder_65 : decode cL_isInOrder 65 = .ok (.iconst 1, 1) := by decide +kernel
theorem dL_isInOrder_66 : decode cL_isInOrder 66 = .ok (.iand, 1) := by decide +kernel
theorem dL_isInOrder_67 : decode cL_isInOrder 67 = .ok (.iload 5, 2) := by decide +kernel
theorem dL_isInOrder_69 : decode cL_isInOrder 69 = .ok (.iload 6, 2) := by decide +kernel
theorem dL_isInOrder_71 : decode cL_isInOrder 71 = .ok (.invokevirtual 106, 3) := by decide +kernel
theorem dL_isInOrder_74 : decode cL_isInOrder 74 = .ok (.lstore 7, 2) := by decide +kernel
theorem dL_isInOrder_76 : decode cL_isInOrder 76 = .ok (.aload_n 0, 1) := by decide +kernel
theorem dL_isInOrder_77 : decode cL_isInOrder 77 = .ok (.iload 4, 2) := by decide +kernel
theorem dL_isInOrder_79 : decode cL_isInOrder 79 = .ok (.iload_n 1, 1) := by decide +kernel
theorem dL_isInOrder_80 : decode cL_isInOrder 80 = .ok (.invokevirtual 133, 3) := by decide +kernel
theorem dL_isInOrder_83 : decode cL_isInOrder 83 = .ok (.istore 9, 2) := by decide +kernel
theorem dL_isInOrder_85 : decode cL_isInOrder 85 = .ok (.lload 7, 2) := by decide +kernel
theorem dL_isInOrder_87 : decode cL_isInOrder 87 = .ok (.invokestatic 160, 3) := by decide +kernel
theorem dL_isInOrder_90 : decode cL_isInOrder 90 = .ok (.ifCond .eq 103, 3) := by decide +kernel
theorem dL_isInOrder_93 : decode cL_isInOrder 93 = .ok (.aload_n 0, 1) := by decide +kernel
theorem dL_isInOrder_94 : decode cL_isInOrder 94 = .ok (.iload 4, 2) := by decide +kernel
theorem dL_isInOrder_96 : decode cL_isInOrder 96 = .ok (.invokevirtual 59, 3) := by decide +kernel
theorem dL_isInOrder_99 : decode cL_isInOrder 99 = .ok (.invokestatic 160, 3) := by decide +kernel
theorem dL_isInOrder_102 : decode cL_isInOrder 102 = .ok (.ifCond .eq 91, 3) := by decide +kernel
theorem dL_isInOrder_105 : decode cL_isInOrder 105 = .ok (.aload_n 0, 1) := by decide +kernel
theorem dL_isInOrder_106 : decode cL_isInOrder 106 = .ok (.iload 4, 2) := by decide +kernel
theorem dL_isInOrder_108 : decode cL_isInOrder 108 = .ok (.iconst 0, 1) := by decide +kernel
theorem dL_isInOrder_109 : decode cL_isInOrder 109 = .ok (.iload 5, 2) := by decide +kernel
theorem dL_isInOrder_111 : decode cL_isInOrder 111 = .ok (.iload 6, 2) := by decide +kernel
theorem dL_isInOrder_113 : decode cL_isInOrder 113 = .ok (.invokevirtual 91, 3) := by decide +kernel
theorem dL_isInOrder_116 : decode cL_isInOrder 116 = .ok (.ifCond .eq 31, 3) := by decide +kernel
theorem dL_isInOrder_119 : decode cL_isInOrder 119 = .ok (.aload_n 0, 1) := by decide +kernel
theorem dL_isInOrder_120 : decode cL_isInOrder 120 = .ok (.iload 4, 2) := by decide +kernel
theorem dL_isInOrder_122 : decode cL_isInOrder 122 = .ok (.iconst 1, 1) := by decide +kernel
theorem dL_isInOrder_123 : decode cL_isInOrder 123 = .ok (.iload 5, 2) := by decide +kernel
theorem dL_isInOrder_125 : decode cL_isInOrder 125 = .ok (.iload 6, 2) := by decide +kernel
theorem dL_isInOrder_127 : decode cL_isInOrder 127 = .ok (.invokevirtual 91, 3) := by decide +kernel
theorem dL_isInOrder_130 : decode cL_isInOrder 130 = .ok (.ifCond .lt 63, 3) := by decide +kernel
theorem dL_isInOrder_133 : decode cL_isInOrder 133 = .ok (.aload_n 0, 1) := by decide +kernel
theorem dL_isInOrder_134 : decode cL_isInOrder 134 = .ok (.iload 4, 2) := by decide +kernel
theorem dL_isInOrder_136 : decode cL_isInOrder 136 = .ok (.iconst 2, 1) := by decide +kernel
theorem dL_isInOrder_137 : decode cL_isInOrder 137 = .ok (.iload 5, 2) := by decide +kernel
theorem dL_isInOrder_139 : decode cL_isInOrder 139 = .ok (.iload 6, 2) := by decide +kernel
theorem dL_isInOrder_141 : decode cL_isInOrder 141 = .ok (.invokevirtual 91, 3) := by decide +kernel
theorem dL_isInOrder_144 : decode cL_isInOrder 144 = .ok (.ifCond .lt 49, 3) := by decide +kernel
theorem dL_isInOrder_147 : decode cL_isInOrder 147 = .ok (.aload_n 0, 1) := by decide +kernel
theorem dL_isInOrder_148 : decode cL_isInOrder 148 = .ok (.iload 4, 2) := by decide +kernel
theorem dL_isInOrder_150 : decode cL_isInOrder 150 = .ok (.iconst 3, 1) := by decide +kernel
theorem dL_isInOrder_151 : decode cL_isInOrder 151 = .ok (.iload 5, 2) := by decide +kernel
theorem dL_isInOrder_153 : decode cL_isInOrder 153 = .ok (.iload 6, 2) := by decide +kernel
theorem dL_isInOrder_155 : decode cL_isInOrder 155 = .ok (.invokevirtual 91, 3) := by decide +kernel
theorem dL_isInOrder_158 : decode cL_isInOrder 158 = .ok (.iload 4, 2) := by decide +kernel
theorem dL_isInOrder_160 : decode cL_isInOrder 160 = .ok (.if_icmp .ge 33, 3) := by decide +kernel
theorem dL_isInOrder_163 : decode cL_isInOrder 163 = .ok (.aload_n 0, 1) := by decide +kernel
theorem dL_isInOrder_164 : decode cL_isInOrder 164 = .ok (.iload 4, 2) := by decide +kernel
theorem dL_isInOrder_166 : decode cL_isInOrder 166 = .ok (.iconst 0, 1) := by decide +kernel
theorem dL_isInOrder_167 : decode cL_isInOrder 167 = .ok (.iload 5, 2) := by decide +kernel
theorem dL_isInOrder_169 : decode cL_isInOrder 169 = .ok (.iload_n 1, 1) := by decide +kernel
theorem dL_isInOrder_170 : decode cL_isInOrder 170 = .ok (.invokevirtual 91, 3) := by decide +kernel
theorem dL_isInOrder_173 : decode cL_isInOrder 173 = .ok (.aload_n 0, 1) := by decide +kernel
theorem dL_isInOrder_174 : decode cL_isInOrder 174 = .ok (.iload 4, 2) := by decide +kernel
theorem dL_isInOrder_176 : decode cL_isInOrder 176 = .ok (.iconst 0, 1) := by decide +kernel
theorem dL_isInOrder_177 : decode cL_isInOrder 177 = .ok (.iload 5, 2) := by decide +kernel
theorem dL_isInOrder_179 : decode cL_isInOrder 179 = .ok (.iload_n 1, 1) := by decide +kernel
theorem dL_isInOrder_180 : decode cL_isInOrder 180 = .ok (.bipush 9, 2) := by decide +kernel
theorem dL_isInOrder_182 : decode cL_isInOrder 182 = .ok (.iadd, 1) := by decide +kernel
theorem dL_isInOrder_183 : decode cL_isInOrder 183 = .ok (.invokevirtual 91, 3) := by decide +kernel
theorem dL_isInOrder_186 : decode cL_isInOrder 186 = .ok (.if_icmp .gt 7, 3) := by decide +kernel
theorem dL_isInOrder_189 : decode cL_isInOrder 189 = .ok (.iconst 1, 1) := by decide +kernel
theorem dL_isInOrder_190 : decode cL_isInOrder 190 = .ok (.goto 4, 3) := by decide +kernel
theorem dL_isInOrder_193 : decode cL_isInOrder 193 = .ok (.iconst 0, 1) := by decide +kernel
theorem dL_isInOrder_194 : decode cL_isInOrder 194 = .ok (.istore_n 3, 1) := by decide +kernel
theorem dL_isInOrder_195 : decode cL_isInOrder 195 = .ok (.iconst 0, 1) := by decide +kernel
theorem dL_isInOrder_196 : decode cL_isInOrder 196 = .ok (.istore 10, 2) := by decide +kernel
theorem dL_isInOrder_198 : decode cL_isInOrder 198 = .ok (.iload 10, 2) := by decide +kernel
theorem dL_isInOrder_200 : decode cL_isInOrder 200 = .ok (.iconst 4, 1) := by decide +kernel
theorem dL_isInOrder_201 : decode cL_isInOrder 201 = .ok (.if_icmp .ge 93, 3) := by decide +kernel
theorem dL_isInOrder_204 : decode cL_isInOrder 204 = .ok (.iload_n 3, 1) := by decide +kernel
theorem dL_isInOrder_205 : decode cL_isInOrder 205 = .ok (.ifCond .eq 89, 3) := by decide +kernel
theorem dL_isInOrder_208 : decode cL_isInOrder 208 = .ok (.aload_n 0, 1) := by decide +kernel
theorem dL_isInOrder_209 : decode cL_isInOrder 209 = .ok (.iload 4, 2) := by decide +kernel
theorem dL_isInOrder_211 : decode cL_isInOrder 211 = .ok (.iload 10, 2) := by decide +kernel
theorem dL_isInOrder_213 : decode cL_isInOrder 213 = .ok (.iload_n 1, 1) := by decide +kernel
theorem dL_isInOrder_214 : decode cL_isInOrder 214 = .ok (.iload_n 1, 1) := by decide +kernel
theorem dL_isInOrder_215 : decode cL_isInOrder 215 = .ok (.invokevirtual 106, 3) := by decide +kernel
theorem dL_isInOrder_218 : decode cL_isInOrder 218 = .ok (.lstore 11, 2) := by decide +kernel
theorem dL_isInOrder_220 : decode cL_isInOrder 220 = .ok (.lload 11, 2) := by decide +kernel
theorem dL_isInOrder_222 : decode cL_isInOrder 222 = .ok (.invokestatic 160, 3) := by decide +kernel
theorem dL_isInOrder_225 : decode cL_isInOrder 225 = .ok (.ifCond .eq 61, 3) := by decide +kernel
theorem dL_isInOrder_228 : decode cL_isInOrder 228 = .ok (.iload 9, 2) := by decide +kernel
theorem dL_isInOrder_230 : decode cL_isInOrder 230 = .ok (.iload 10, 2) := by decide +kernel
theorem dL_isInOrder_232 : decode cL_isInOrder 232 = .ok (.ishr, 1) := by decide +kernel
theorem dL_isInOrder_233 : decode cL_isInOrder 233 = .ok (.iconst 1, 1) := by decide +kernel
theorem dL_isInOrder_234 : decode cL_isInOrder 234 = .ok (.iand, 1) := by decide +kernel
theorem dL_isInOrder_235 : decode cL_isInOrder 235 = .ok (.ifCond .eq 10, 3) := by decide +kernel
theorem dL_isInOrder_238 : decode cL_isInOrder 238 = .ok (.lload 11, 2) := by decide +kernel
theorem dL_isInOrder_240 : decode cL_isInOrder 240 = .ok (.lconst 0, 1) := by decide +kernel
theorem dL_isInOrder_241 : decode cL_isInOrder 241 = .ok (.lcmp, 1) := by decide +kernel
theorem dL_isInOrder_242 : decode cL_isInOrder 242 = .ok (.ifCond .le 44, 3) := by decide +kernel
theorem dL_isInOrder_245 : decode cL_isInOrder 245 = .ok (.lload 11, 2) := by decide +kernel
theorem dL_isInOrder_247 : decode cL_isInOrder 247 = .ok (.lconst 0, 1) := by decide +kernel
theorem dL_isInOrder_248 : decode cL_isInOrder 248 = .ok (.lcmp, 1) := by decide +kernel
theorem dL_isInOrder_249 : decode cL_isInOrder 249 = .ok (.ifCond .eq 8, 3) := by decide +kernel
theorem dL_isInOrder_252 : decode cL_isInOrder 252 = .ok (.iload 9, 2) := by decide +kernel
theorem dL_isInOrder_254 : decode cL_isInOrder 254 = .ok (.ifCond .le 32, 3) := by decide +kernel
theorem dL_isInOrder_257 : decode cL_isInOrder 257 = .ok (.lload 11, 2) := by decide +kernel
theorem dL_isInOrder_259 : decode cL_isInOrder 259 = .ok (.lconst 0, 1) := by decide +kernel
theorem dL_isInOrder_260 : decode cL_isInOrder 260 = .ok (.lcmp, 1) := by decide +kernel
theorem dL_isInOrder_261 : decode cL_isInOrder 261 = .ok (.ifCond .eq 21, 3) := by decide +kernel
theorem dL_isInOrder_264 : decode cL_isInOrder 264 = .ok (.iload 4, 2) := by decide +kernel
theorem dL_isInOrder_266 : decode cL_isInOrder 266 = .ok (.iconst 1, 1) := by decide +kernel
theorem dL_isInOrder_267 : decode cL_isInOrder 267 = .ok (.if_icmp .gt 15, 3) := by decide +kernel
theorem dL_isInOrder_270 : decode cL_isInOrder 270 = .ok (.aload_n 0, 1) := by decide +kernel
theorem dL_isInOrder_271 : decode cL_isInOrder 271 = .ok (.lload 11, 2) := by decide +kernel
theorem dL_isInOrder_273 : decode cL_isInOrder 273 = .ok (.iconst 0, 1) := by decide +kernel
theorem dL_isInOrder_274 : decode cL_isInOrder 274 = .ok (.iconst 0, 1) := by decide +kernel
theorem dL_isInOrder_275 : decode cL_isInOrder 275 = .ok (.iconst 0, 1) := by decide +kernel
theorem dL_isInOrder_276 : decode cL_isInOrder 276 = .ok (.invokevirtual 42, 3) := by decide +kernel
theorem dL_isInOrder_279 : decode cL_isInOrder 279 = .ok (.ifCond .lt 7, 3) := by decide +kernel
theorem dL_isInOrder_282 : decode cL_isInOrder 282 = .ok (.iconst 1, 1) := by decide +kernel
theorem dL_isInOrder_283 : decode cL_isInOrder 283 = .ok (.goto 4, 3) := by decide +kernel
theorem dL_isInOrder_286 : decode cL_isInOrder 286 = .ok (.iconst 0, 1) := by decide +kernel
theorem dL_isInOrder_287 : decode cL_isInOrder 287 = .ok (.istore_n 3, 1) := by decide +kernel
theorem dL_isInOrder_288 : decode cL_isInOrder 288 = .ok (.iinc 10 1, 3) := by decide +kernel
theorem dL_isInOrder_291 : decode cL_isInOrder 291 = .ok (.goto (-93), 3) := by decide +kernel
theorem dL_isInOrder_294 : decode cL_isInOrder 294 = .ok (.iinc 4 1, 3) := by decide +kernel
theorem dL_isInOrder_297 : decode cL_isInOrder 297 = .ok (.goto (-292), 3) := by decide +kernel
theorem dL_isInOrder_300 : decode cL_isInOrder 300 = .ok (.iconst 0, 1) := by decide +kernel
theorem dL_isInOrder_301 : decode cL_isInOrder 301 = .ok (.istore 4, 2) := by decide +kernel
theorem dL_isInOrder_303 : decode cL_isInOrder 303 = .ok (.iload 4, 2) := by decide +kernel
theorem dL_isInOrder_305 : decode cL_isInOrder 305 = .ok (.bipush 16, 2) := by decide +kernel
theorem dL_isInOrder_307 : decode cL_isInOrder 307 = .ok (.if_icmp .ge 162, 3) := by decide +kernel
theorem dL_isInOrder_310 : decode cL_isInOrder 310 = .ok (.iload_n 3, 1) := by decide +kernel
theorem dL_isInOrder_311 : decode cL_isInOrder 311 = .ok (.ifCond .eq 158, 3) := by decide +kernel
theorem dL_isInOrder_314 : decode cL_isInOrder 314 = .ok (.aload_n 0, 1) := by decide +kernel
theorem dL_isInOrder_315 : decode cL_isInOrder 315 = .ok (.bipush 14, 2) := by decide +kernel
theorem dL_isInOrder_317 : decode cL_isInOrder 317 = .ok (.iload 4, 2) := by decide +kernel
theorem dL_isInOrder_319 : decode cL_isInOrder 319 = .ok (.iconst 0, 1) := by decide +kernel
theorem dL_isInOrder_320 : decode cL_isInOrder 320 = .ok (.iconst 0, 1) := by decide +kernel
theorem dL_isInOrder_321 : decode cL_isInOrder 321 = .ok (.lconst 0, 1) := by decide +kernel
theorem dL_isInOrder_322 : decode cL_isInOrder 322 = .ok (.invokestatic 145, 3) := by decide +kernel
theorem dL_isInOrder_325 : decode cL_isInOrder 325 = .ok (.lstore 5, 2) := by decide +kernel
theorem dL_isInOrder_327 : decode cL_isInOrder 327 = .ok (.lload 5, 2) := by decide +kernel
theorem dL_isInOrder_329 : decode cL_isInOrder 329 = .ok (.ldc2_w 68, 3) := by decide +kernel
theorem dL_isInOrder_332 : decode cL_isInOrder 332 = .ok (.lcmp, 1) := by decide +kernel
theorem dL_isInOrder_333 : decode cL_isInOrder 333 = .ok (.ifCond .eq 130, 3) := by decide +kernel
theorem dL_isInOrder_336 : decode cL_isInOrder 336 = .ok (.aload_n 0, 1) := by decide +kernel
theorem dL_isInOrder_337 : decode cL_isInOrder 337 = .ok (.iload 4, 2) := by decide +kernel
theorem dL_isInOrder_339 : decode cL_isInOrder 339 = .ok (.iconst 4, 1) := by decide +kernel
theorem dL_isInOrder_340 : decode cL_isInOrder 340 = .ok (.invokevirtual 127, 3) := by decide +kernel
theorem dL_isInOrder_343 : decode cL_isInOrder 343 = .ok (.istore 7, 2) := by decide +kernel
theorem dL_isInOrder_345 : decode cL_isInOrder 345 = .ok (.aload_n 0, 1) := by decide +kernel
theorem dL_isInOrder_346 : decode cL_isInOrder 346 = .ok (.iload 4, 2) := by decide +kernel
theorem dL_isInOrder_348 : decode cL_isInOrder 348 = .ok (.iconst 1, 1) := by decide +kernel
theorem dL_isInOrder_349 : decode cL_isInOrder 349 = .ok (.invokevirtual 127, 3) := by decide +kernel
theorem dL_isInOrder_352 : decode cL_isInOrder 352 = .ok (.aload_n 0, 1) := by decide +kernel
theorem dL_isInOrder_353 : decode cL_isInOrder 353 = .ok (.iload 4, 2) := by decide +kernel
theorem dL_isInOrder_355 : decode cL_isInOrder 355 = .ok (.iconst 2, 1) := by decide +kernel
theorem dL_isInOrder_356 : decode cL_isInOrder 356 = .ok (.invokevirtual 127, 3) := by decide +kernel
theorem dL_isInOrder_359 : decode cL_isInOrder 359 = .ok (.iadd, 1) := by decide +kernel
theorem dL_isInOrder_360 : decode cL_isInOrder 360 = .ok (.istore 8, 2) := by decide +kernel
theorem dL_isInOrder_362 : decode cL_isInOrder 362 = .ok (.iload 8, 2) := by decide +kernel
theorem dL_isInOrder_364 : decode cL_isInOrder 364 = .ok (.bipush 9, 2) := by decide +kernel
theorem dL_isInOrder_366 : decode cL_isInOrder 366 = .ok (.if_icmp .gt 95, 3) := by decide +kernel
theorem dL_isInOrder_369 : decode cL_isInOrder 369 = .ok (.lload 5, 2) := by decide +kernel
theorem dL_isInOrder_371 : decode cL_isInOrder 371 = .ok (.lconst 0, 1) := by decide +kernel
theorem dL_isInOrder_372 : decode cL_isInOrder 372 = .ok (.lcmp, 1) := by decide +kernel
theorem dL_isInOrder_373 : decode cL_isInOrder 373 = .ok (.ifCond .ne 7, 3) := by decide +kernel
theorem dL_isInOrder_376 : decode cL_isInOrder 376 = .ok (.iconst 1, 1) := by decide +kernel
theorem dL_isInOrder_377 : decode cL_isInOrder 377 = .ok (.goto 4, 3) := by decide +kernel
theorem dL_isInOrder_380 : decode cL_isInOrder 380 = .ok (.iconst 0, 1) := by decide +kernel
theorem dL_isInOrder_381 : decode cL_isInOrder 381 = .ok (.iload 7, 2) := by decide +kernel
theorem dL_isInOrder_383 : decode cL_isInOrder 383 = .ok (.iconst (-1), 1) := by decide +kernel
theorem dL_isInOrder_384 : decode cL_isInOrder 384 = .ok (.if_icmp .ne 7, 3) := by decide +kernel
theorem dL_isInOrder_387 : decode cL_isInOrder 387 = .ok (.iconst 1, 1) := by decide +kernel
theorem dL_isInOrder_388 : decode cL_isInOrder 388 = .ok (.goto 4, 3) := by decide +kernel
theorem dL_isInOrder_391 : decode cL_isInOrder 391 = .ok (.iconst 0, 1) := by decide +kernel
theorem dL_isInOrder_392 : decode cL_isInOrder 392 = .ok (.if_icmp .ne 69, 3) := by decide +kernel
theorem dL_isInOrder_395 : decode cL_isInOrder 395 = .ok (.iload 7, 2) := by decide +kernel
theorem dL_isInOrder_397 : decode cL_isInOrder 397 = .ok (.iload_n 1, 1) := by decide +kernel
theorem dL_isInOrder_398 : decode cL_isInOrder 398 = .ok (.if_icmp .gt 63, 3) := by decide +kernel
theorem dL_isInOrder_401 : decode cL_isInOrder 401 = .ok (.lload 5, 2) := by decide +kernel
theorem dL_isInOrder_403 : decode cL_isInOrder 403 = .ok (.lconst 0, 1) := by decide +kernel
theorem dL_isInOrder_404 : decode cL_isInOrder 404 = .ok (.lcmp, 1) := by decide +kernel
theorem dL_isInOrder_405 : decode cL_isInOrder 405 = .ok (.ifCond .eq 19, 3) := by decide +kernel
theorem dL_isInOrder_408 : decode cL_isInOrder 408 = .ok (.iload 8, 2) := by decide +kernel
theorem dL_isInOrder_410 : decode cL_isInOrder 410 = .ok (.iconst 5, 1) := by decide +kernel
theorem dL_isInOrder_411 : decode cL_isInOrder 411 = .ok (.if_icmp .lt 50, 3) := by decide +kernel
theorem dL_isInOrder_414 : decode cL_isInOrder 414 = .ok (.aload_n 0, 1) := by decide +kernel
theorem dL_isInOrder_415 : decode cL_isInOrder 415 = .ok (.iload 4, 2) := by decide +kernel
theorem dL_isInOrder_417 : decode cL_isInOrder 417 = .ok (.iconst 3, 1) := by decide +kernel
theorem dL_isInOrder_418 : decode cL_isInOrder 418 = .ok (.invokevirtual 127, 3) := by decide +kernel
theorem dL_isInOrder_421 : decode cL_isInOrder 421 = .ok (.ifCond .ne 40, 3) := by decide +kernel
theorem dL_isInOrder_424 : decode cL_isInOrder 424 = .ok (.lload 5, 2) := by decide +kernel
theorem dL_isInOrder_426 : decode cL_isInOrder 426 = .ok (.lconst 1, 1) := by decide +kernel
theorem dL_isInOrder_427 : decode cL_isInOrder 427 = .ok (.lcmp, 1) := by decide +kernel
theorem dL_isInOrder_428 : decode cL_isInOrder 428 = .ok (.ifCond .eq 12, 3) := by decide +kernel
theorem dL_isInOrder_431 : decode cL_isInOrder 431 = .ok (.lload 5, 2) := by decide +kernel
theorem dL_isInOrder_433 : decode cL_isInOrder 433 = .ok (.ldc2_w 164, 3) := by decide +kernel
theorem dL_isInOrder_436 : decode cL_isInOrder 436 = .ok (.lcmp, 1) := by decide +kernel
theorem dL_isInOrder_437 : decode cL_isInOrder 437 = .ok (.ifCond .ne 20, 3) := by decide +kernel
theorem dL_isInOrder_440 : decode cL_isInOrder 440 = .ok (.aload_n 0, 1) := by decide +kernel
theorem dL_isInOrder_441 : decode cL_isInOrder 441 = .ok (.iload 4, 2) := by decide +kernel
theorem dL_isInOrder_443 : decode cL_isInOrder 443 = .ok (.iconst 1, 1) := by decide +kernel
theorem dL_isInOrder_444 : decode cL_isInOrder 444 = .ok (.invokevirtual 127, 3) := by decide +kernel
theorem dL_isInOrder_447 : decode cL_isInOrder 447 = .ok (.aload_n 0, 1) := by decide +kernel
theorem dL_isInOrder_448 : decode cL_isInOrder 448 = .ok (.iload 4, 2) := by decide +kernel
theorem dL_isInOrder_450 : decode cL_isInOrder 450 = .ok (.iconst 2, 1) := by decide +kernel
theorem dL_isInOrder_451 : decode cL_isInOrder 451 = .ok (.invokevirtual 127, 3) := by decide +kernel
theorem dL_isInOrder_454 : decode cL_isInOrder 454 = .ok (.if_icmp .le 7, 3) := by decide +kernel
theorem dL_isInOrder_457 : decode cL_isInOrder 457 = .ok (.iconst 1, 1) := by decide +kernel
theorem dL_isInOrder_458 : decode cL_isInOrder 458 = .ok (.goto 4, 3) := by decide +kernel
theorem dL_isInOrder_461 : decode cL_isInOrder 461 = .ok (.iconst 0, 1) := by decide +kernel
theorem dL_isInOrder_462 : decode cL_isInOrder 462 = .ok (.istore_n 3, 1) := by decide +kernel
theorem dL_isInOrder_463 : decode cL_isInOrder 463 = .ok (.iinc 4 1, 3) := by decide +kernel
theorem dL_isInOrder_466 : decode cL_isInOrder 466 = .ok (.goto (-163), 3) := by decide +kernel
theorem dL_isInOrder_469 : decode cL_isInOrder 469 = .ok (.iload_n 3, 1) := by decide +kernel
theorem dL_isInOrder_470 : decode cL_isInOrder 470 = .ok (.ifCond .eq 51, 3) := by decide +kernel
theorem dL_isInOrder_473 : decode cL_isInOrder 473 = .ok (.aload_n 0, 1) := by decide +kernel
theorem dL_isInOrder_474 : decode cL_isInOrder 474 = .ok (.invokevirtual 157, 3) := by decide +kernel
theorem dL_isInOrder_477 : decode cL_isInOrder 477 = .ok (.ifCond .ne 7, 3) := by decide +kernel
theorem dL_isInOrder_480 : decode cL_isInOrder 480 = .ok (.iconst 1, 1) := by decide +kernel
theorem dL_isInOrder_481 : decode cL_isInOrder 481 = .ok (.goto 4, 3) := by decide +kernel
theorem dL_isInOrder_484 : decode cL_isInOrder 484 = .ok (.iconst 0, 1) := by decide +kernel
theorem dL_isInOrder_485 : decode cL_isInOrder 485 = .ok (.aload_n 0, 1) := by decide +kernel
theorem dL_isInOrder_486 : decode cL_isInOrder 486 = .ok (.invokevirtual 153, 3) := by decide +kernel
theorem dL_isInOrder_489 : decode cL_isInOrder 489 = .ok (.iconst (-1), 1) := by decide +kernel
theorem dL_isInOrder_490 : decode cL_isInOrder 490 = .ok (.if_icmp .ne 7, 3) := by decide +kernel
theorem dL_isInOrder_493 : decode cL_isInOrder 493 = .ok (.iconst 1, 1) := by decide +kernel
theorem dL_isInOrder_494 : decode cL_isInOrder 494 = .ok (.goto 4, 3) := by decide +kernel
theorem dL_isInOrder_497 : decode cL_isInOrder 497 = .ok (.iconst 0, 1) := by decide +kernel
theorem dL_isInOrder_498 : decode cL_isInOrder 498 = .ok (.if_icmp .ne 23, 3) := by decide +kernel
theorem dL_isInOrder_501 : decode cL_isInOrder 501 = .ok (.aload_n 0, 1) := by decide +kernel
theorem dL_isInOrder_502 : decode cL_isInOrder 502 = .ok (.iconst 0, 1) := by decide +kernel
theorem dL_isInOrder_503 : decode cL_isInOrder 503 = .ok (.invokevirtual 46, 3) := by decide +kernel
theorem dL_isInOrder_506 : decode cL_isInOrder 506 = .ok (.ifCond .lt 15, 3) := by decide +kernel
theorem dL_isInOrder_509 : decode cL_isInOrder 509 = .ok (.aload_n 0, 1) := by decide +kernel
theorem dL_isInOrder_510 : decode cL_isInOrder 510 = .ok (.iconst 0, 1) := by decide +kernel
theorem dL_isInOrder_511 : decode cL_isInOrder 511 = .ok (.invokevirtual 46, 3) := by decide +kernel
theorem dL_isInOrder_514 : decode cL_isInOrder 514 = .ok (.ifCond .ne 7, 3) := by decide +kernel
theorem dL_isInOrder_517 : decode cL_isInOrder 517 = .ok (.iconst 1, 1) := by decide +kernel
theorem dL_isInOrder_518 : decode cL_isInOrder 518 = .ok (.goto 4, 3) := by decide +kernel
theorem dL_isInOrder_521 : decode cL_isInOrder 521 = .ok (.iconst 0, 1) := by decide +kernel
theorem dL_isInOrder_522 : decode cL_isInOrder 522 = .ok (.ireturn, 1) := by decide +kernel
theorem dL_law_0 : decode cL_law 0 = .ok (.new 18, 3) := by decide +kernel
theorem dL_law_3 : decode cL_law 3 = .ok (.dup, 1) := by decide +kernel
theorem dL_law_4 : decode cL_law 4 = .ok (.invokespecial 166, 3) := by decide +kernel
theorem dL_law_7 : decode cL_law 7 = .ok (.astore_n 1, 1) := by decide +kernel
theorem dL_law_8 : decode cL_law 8 = .ok (.new 18, 3) := by decide +kernel
theorem dL_law_11 : decode cL_law 11 = .ok (.dup, 1) := by decide +kernel
theorem dL_law_12 : decode cL_law 12 = .ok (.invokespecial 166, 3) := by decide +kernel
theorem dL_law_15 : decode cL_law 15 = .ok (.astore_n 2, 1) := by decide +kernel
theorem dL_law_16 : decode cL_law 16 = .ok (.iconst 1, 1) := by decide +kernel
theorem dL_law_17 : decode cL_law 17 = .ok (.istore_n 3, 1) := by decide +kernel
theorem dL_law_18 : decode cL_law 18 = .ok (.iconst 0, 1) := by decide +kernel
theorem dL_law_19 : decode cL_law 19 = .ok (.istore 4, 2) := by decide +kernel
theorem dL_law_21 : decode cL_law 21 = .ok (.iconst 0, 1) := by decide +kernel
theorem dL_law_22 : decode cL_law 22 = .ok (.istore 5, 2) := by decide +kernel
theorem dL_law_24 : decode cL_law 24 = .ok (.iload 5, 2) := by decide +kernel
theorem dL_law_26 : decode cL_law 26 = .ok (.iconst 5, 1) := by decide +kernel
theorem dL_law_27 : decode cL_law 27 = .ok (.if_icmp .ge 110, 3) := by decide +kernel
theorem dL_law_30 : decode cL_law 30 = .ok (.iload_n 3, 1) := by decide +kernel
theorem dL_law_31 : decode cL_law 31 = .ok (.ifCond .eq 106, 3) := by decide +kernel
theorem dL_law_34 : decode cL_law 34 = .ok (.aload_n 0, 1) := by decide +kernel
theorem dL_law_35 : decode cL_law 35 = .ok (.iload 5, 2) := by decide +kernel
theorem dL_law_37 : decode cL_law 37 = .ok (.invokestatic 167, 3) := by decide +kernel
theorem dL_law_40 : decode cL_law 40 = .ok (.iconst 3, 1) := by decide +kernel
theorem dL_law_41 : decode cL_law 41 = .ok (.ishr, 1) := by decide +kernel
theorem dL_law_42 : decode cL_law 42 = .ok (.istore 6, 2) := by decide +kernel
theorem dL_law_44 : decode cL_law 44 = .ok (.aload_n 1, 1) := by decide +kernel
theorem dL_law_45 : decode cL_law 45 = .ok (.iload 5, 2) := by decide +kernel
theorem dL_law_47 : decode cL_law 47 = .ok (.iconst 3, 1) := by decide +kernel
theorem dL_law_48 : decode cL_law 48 = .ok (.if_icmp .ge 7, 3) := by decide +kernel
theorem dL_law_51 : decode cL_law 51 = .ok (.iconst 5, 1) := by decide +kernel
theorem dL_law_52 : decode cL_law 52 = .ok (.goto 4, 3) := by decide +kernel
theorem dL_law_55 : decode cL_law 55 = .ok (.iconst 1, 1) := by decide +kernel
theorem dL_law_56 : decode cL_law 56 = .ok (.iload 5, 2) := by decide +kernel
theorem dL_law_58 : decode cL_law 58 = .ok (.bipush 9, 2) := by decide +kernel
theorem dL_law_60 : decode cL_law 60 = .ok (.iload 5, 2) := by decide +kernel
theorem dL_law_62 : decode cL_law 62 = .ok (.imul, 1) := by decide +kernel
theorem dL_law_63 : decode cL_law 63 = .ok (.invokevirtual 88, 3) := by decide +kernel
theorem dL_law_66 : decode cL_law 66 = .ok (.aload_n 2, 1) := by decide +kernel
theorem dL_law_67 : decode cL_law 67 = .ok (.iload 5, 2) := by decide +kernel
theorem dL_law_69 : decode cL_law 69 = .ok (.iconst 3, 1) := by decide +kernel
theorem dL_law_70 : decode cL_law 70 = .ok (.if_icmp .ge 7, 3) := by decide +kernel
theorem dL_law_73 : decode cL_law 73 = .ok (.iconst 5, 1) := by decide +kernel
theorem dL_law_74 : decode cL_law 74 = .ok (.goto 4, 3) := by decide +kernel
theorem dL_law_77 : decode cL_law 77 = .ok (.iconst 1, 1) := by decide +kernel
theorem dL_law_78 : decode cL_law 78 = .ok (.iload 5, 2) := by decide +kernel
theorem dL_law_80 : decode cL_law 80 = .ok (.bipush 9, 2) := by decide +kernel
theorem dL_law_82 : decode cL_law 82 = .ok (.iload 5, 2) := by decide +kernel
theorem dL_law_84 : decode cL_law 84 = .ok (.imul, 1) := by decide +kernel
theorem dL_law_85 : decode cL_law 85 = .ok (.invokevirtual 88, 3) := by decide +kernel
theorem dL_law_88 : decode cL_law 88 = .ok (.if_icmp .ne 41, 3) := by decide +kernel
theorem dL_law_91 : decode cL_law 91 = .ok (.aload_n 1, 1) := by decide +kernel
theorem dL_law_92 : decode cL_law 92 = .ok (.iconst 5, 1) := by decide +kernel
theorem dL_law_93 : decode cL_law 93 = .ok (.iload 5, 2) := by decide +kernel
theorem dL_law_95 : decode cL_law 95 = .ok (.iconst 0, 1) := by decide +kernel
theorem dL_law_96 : decode cL_law 96 = .ok (.iconst 0, 1) := by decide +kernel
theorem dL_law_97 : decode cL_law 97 = .ok (.iload 6, 2) := by decide +kernel
theorem dL_law_99 : decode cL_law 99 = .ok (.iconst 0, 1) := by decide +kernel
theorem dL_law_100 : decode cL_law 100 = .ok (.invokestatic 148, 3) := by decide +kernel
theorem dL_law_103 : decode cL_law 103 = .ok (.invokestatic 145, 3) := by decide +kernel
theorem dL_law_106 : decode cL_law 106 = .ok (.aload_n 2, 1) := by decide +kernel
theorem dL_law_107 : decode cL_law 107 = .ok (.iconst 5, 1) := by decide +kernel
theorem dL_law_108 : decode cL_law 108 = .ok (.iload 5, 2) := by decide +kernel
theorem dL_law_110 : decode cL_law 110 = .ok (.iconst 0, 1) := by decide +kernel
theorem dL_law_111 : decode cL_law 111 = .ok (.iconst 0, 1) := by decide +kernel
theorem dL_law_112 : decode cL_law 112 = .ok (.iload 6, 2) := by decide +kernel
theorem dL_law_114 : decode cL_law 114 = .ok (.iconst 0, 1) := by decide +kernel
theorem dL_law_115 : decode cL_law 115 = .ok (.invokestatic 148, 3) := by decide +kernel
theorem dL_law_118 : decode cL_law 118 = .ok (.invokestatic 145, 3) := by decide +kernel
theorem dL_law_121 : decode cL_law 121 = .ok (.lcmp, 1) := by decide +kernel
theorem dL_law_122 : decode cL_law 122 = .ok (.ifCond .ne 7, 3) := by decide +kernel
theorem dL_law_125 : decode cL_law 125 = .ok (.iconst 1, 1) := by decide +kernel
theorem dL_law_126 : decode cL_law 126 = .ok (.goto 4, 3) := by decide +kernel
theorem dL_law_129 : decode cL_law 129 = .ok (.iconst 0, 1) := by decide +kernel
theorem dL_law_130 : decode cL_law 130 = .ok (.istore_n 3, 1) := by decide +kernel
theorem dL_law_131 : decode cL_law 131 = .ok (.iinc 5 1, 3) := by decide +kernel
theorem dL_law_134 : decode cL_law 134 = .ok (.goto (-110), 3) := by decide +kernel
theorem dL_law_137 : decode cL_law 137 = .ok (.iconst 0, 1) := by decide +kernel
theorem dL_law_138 : decode cL_law 138 = .ok (.istore 5, 2) := by decide +kernel
theorem dL_law_140 : decode cL_law 140 = .ok (.iload 5, 2) := by decide +kernel
theorem dL_law_142 : decode cL_law 142 = .ok (.sipush 150, 3) := by decide +kernel
theorem dL_law_145 : decode cL_law 145 = .ok (.if_icmp .ge 216, 3) := by decide +kernel
theorem dL_law_148 : decode cL_law 148 = .ok (.iload_n 3, 1) := by decide +kernel
theorem dL_law_149 : decode cL_law 149 = .ok (.ifCond .eq 212, 3) := by decide +kernel
theorem dL_law_152 : decode cL_law 152 = .ok (.aload_n 0, 1) := by decide +kernel
theorem dL_law_153 : decode cL_law 153 = .ok (.iload 5, 2) := by decide +kernel
theorem dL_law_155 : decode cL_law 155 = .ok (.bipush 61, 2) := by decide +kernel
theorem dL_law_157 : decode cL_law 157 = .ok (.irem, 1) := by decide +kernel
theorem dL_law_158 : decode cL_law 158 = .ok (.invokestatic 167, 3) := by decide +kernel
theorem dL_law_161 : decode cL_law 161 = .ok (.sipush 1709, 3) := by decide +kernel
theorem dL_law_164 : decode cL_law 164 = .ok (.iload 5, 2) := by decide +kernel
theorem dL_law_166 : decode cL_law 166 = .ok (.bipush 61, 2) := by decide +kernel
theorem dL_law_168 : decode cL_law 168 = .ok (.idiv, 1) := by decide +kernel
theorem dL_law_169 : decode cL_law 169 = .ok (.imul, 1) := by decide +kernel
theorem dL_law_170 : decode cL_law 170 = .ok (.iadd, 1) := by decide +kernel
theorem dL_law_171 : decode cL_law 171 = .ok (.istore 6, 2) := by decide +kernel
theorem dL_law_173 : decode cL_law 173 = .ok (.iload 6, 2) := by decide +kernel
theorem dL_law_175 : decode cL_law 175 = .ok (.bipush 64, 2) := by decide +kernel
theorem dL_law_177 : decode cL_law 177 = .ok (.invokestatic 140, 3) := by decide +kernel
theorem dL_law_180 : decode cL_law 180 = .ok (.bipush 59, 2) := by decide +kernel
theorem dL_law_182 : decode cL_law 182 = .ok (.if_icmp .le 18, 3) := by decide +kernel
theorem dL_law_185 : decode cL_law 185 = .ok (.iconst 1, 1) := by decide +kernel
theorem dL_law_186 : decode cL_law 186 = .ok (.iload 6, 2) := by decide +kernel
theorem dL_law_188 : decode cL_law 188 = .ok (.bipush 6, 2) := by decide +kernel
theorem dL_law_190 : decode cL_law 190 = .ok (.ishr, 1) := by decide +kernel
theorem dL_law_191 : decode cL_law 191 = .ok (.bipush 25, 2) := by decide +kernel
theorem dL_law_193 : decode cL_law 193 = .ok (.invokestatic 140, 3) := by decide +kernel
theorem dL_law_196 : decode cL_law 196 = .ok (.iadd, 1) := by decide +kernel
theorem dL_law_197 : decode cL_law 197 = .ok (.goto 4, 3) := by decide +kernel
theorem dL_law_200 : decode cL_law 200 = .ok (.iconst 0, 1) := by decide +kernel
theorem dL_law_201 : decode cL_law 201 = .ok (.istore 7, 2) := by decide +kernel
theorem dL_law_203 : decode cL_law 203 = .ok (.iload 4, 2) := by decide +kernel
theorem dL_law_205 : decode cL_law 205 = .ok (.iload 7, 2) := by decide +kernel
theorem dL_law_207 : decode cL_law 207 = .ok (.iadd, 1) := by decide +kernel
theorem dL_law_208 : decode cL_law 208 = .ok (.istore 4, 2) := by decide +kernel
theorem dL_law_210 : decode cL_law 210 = .ok (.iload 7, 2) := by decide +kernel
theorem dL_law_212 : decode cL_law 212 = .ok (.ifCond .eq 25, 3) := by decide +kernel
theorem dL_law_215 : decode cL_law 215 = .ok (.aload_n 1, 1) := by decide +kernel
theorem dL_law_216 : decode cL_law 216 = .ok (.iload 7, 2) := by decide +kernel
theorem dL_law_218 : decode cL_law 218 = .ok (.invokevirtual 63, 3) := by decide +kernel
theorem dL_law_221 : decode cL_law 221 = .ok (.iload 4, 2) := by decide +kernel
theorem dL_law_223 : decode cL_law 223 = .ok (.if_icmp .ne 18, 3) := by decide +kernel
theorem dL_law_226 : decode cL_law 226 = .ok (.aload_n 2, 1) := by decide +kernel
theorem dL_law_227 : decode cL_law 227 = .ok (.iload 7, 2) := by decide +kernel
theorem dL_law_229 : decode cL_law 229 = .ok (.invokevirtual 63, 3) := by decide +kernel
theorem dL_law_232 : decode cL_law 232 = .ok (.iload 4, 2) := by decide +kernel
theorem dL_law_234 : decode cL_law 234 = .ok (.if_icmp .ne 7, 3) := by decide +kernel
theorem dL_law_237 : decode cL_law 237 = .ok (.iconst 1, 1) := by decide +kernel
theorem dL_law_238 : decode cL_law 238 = .ok (.goto 4, 3) := by decide +kernel
theorem dL_law_241 : decode cL_law 241 = .ok (.iconst 0, 1) := by decide +kernel
theorem dL_law_242 : decode cL_law 242 = .ok (.istore_n 3, 1) := by decide +kernel
theorem dL_law_243 : decode cL_law 243 = .ok (.aload_n 1, 1) := by decide +kernel
theorem dL_law_244 : decode cL_law 244 = .ok (.iload 4, 2) := by decide +kernel
theorem dL_law_246 : decode cL_law 246 = .ok (.iload 6, 2) := by decide +kernel
theorem dL_law_248 : decode cL_law 248 = .ok (.invokestatic 171, 3) := by decide +kernel
theorem dL_law_251 : decode cL_law 251 = .ok (.lstore 8, 2) := by decide +kernel
theorem dL_law_253 : decode cL_law 253 = .ok (.iload_n 3, 1) := by decide +kernel
theorem dL_law_254 : decode cL_law 254 = .ok (.ifCond .eq 54, 3) := by decide +kernel
theorem dL_law_257 : decode cL_law 257 = .ok (.lload 8, 2) := by decide +kernel
theorem dL_law_259 : decode cL_law 259 = .ok (.ldc2_w 68, 3) := by decide +kernel
theorem dL_law_262 : decode cL_law 262 = .ok (.lcmp, 1) := by decide +kernel
theorem dL_law_263 : decode cL_law 263 = .ok (.ifCond .eq 17, 3) := by decide +kernel
theorem dL_law_266 : decode cL_law 266 = .ok (.aload_n 2, 1) := by decide +kernel
theorem dL_law_267 : decode cL_law 267 = .ok (.iload 4, 2) := by decide +kernel
theorem dL_law_269 : decode cL_law 269 = .ok (.iload 6, 2) := by decide +kernel
theorem dL_law_271 : decode cL_law 271 = .ok (.invokestatic 171, 3) := by decide +kernel
theorem dL_law_274 : decode cL_law 274 = .ok (.lload 8, 2) := by decide +kernel
theorem dL_law_276 : decode cL_law 276 = .ok (.lcmp, 1) := by decide +kernel
theorem dL_law_277 : decode cL_law 277 = .ok (.ifCond .ne 31, 3) := by decide +kernel
theorem dL_law_280 : decode cL_law 280 = .ok (.iload 5, 2) := by decide +kernel
theorem dL_law_282 : decode cL_law 282 = .ok (.bipush 10, 2) := by decide +kernel
theorem dL_law_284 : decode cL_law 284 = .ok (.irem, 1) := by decide +kernel
theorem dL_law_285 : decode cL_law 285 = .ok (.bipush 9, 2) := by decide +kernel
theorem dL_law_287 : decode cL_law 287 = .ok (.if_icmp .ne 17, 3) := by decide +kernel
theorem dL_law_290 : decode cL_law 290 = .ok (.aload_n 1, 1) := by decide +kernel
theorem dL_law_291 : decode cL_law 291 = .ok (.aload_n 2, 1) := by decide +kernel
theorem dL_law_292 : decode cL_law 292 = .ok (.iload 4, 2) := by decide +kernel
theorem dL_law_294 : decode cL_law 294 = .ok (.iload 6, 2) := by decide +kernel
theorem dL_law_296 : decode cL_law 296 = .ok (.iconst 4, 1) := by decide +kernel
theorem dL_law_297 : decode cL_law 297 = .ok (.ishr, 1) := by decide +kernel
theorem dL_law_298 : decode cL_law 298 = .ok (.invokestatic 175, 3) := by decide +kernel
theorem dL_law_301 : decode cL_law 301 = .ok (.ifCond .eq 7, 3) := by decide +kernel
theorem dL_law_304 : decode cL_law 304 = .ok (.iconst 1, 1) := by decide +kernel
theorem dL_law_305 : decode cL_law 305 = .ok (.goto 4, 3) := by decide +kernel
theorem dL_law_308 : decode cL_law 308 = .ok (.iconst 0, 1) := by decide +kernel
theorem dL_law_309 : decode cL_law 309 = .ok (.istore_n 3, 1) := by decide +kernel
theorem dL_law_310 : decode cL_law 310 = .ok (.iload 5, 2) := by decide +kernel
theorem dL_law_312 : decode cL_law 312 = .ok (.bipush 9, 2) := by decide +kernel
theorem dL_law_314 : decode cL_law 314 = .ok (.irem, 1) := by decide +kernel
theorem dL_law_315 : decode cL_law 315 = .ok (.iconst 4, 1) := by decide +kernel
theorem dL_law_316 : decode cL_law 316 = .ok (.if_icmp .ne 39, 3) := by decide +kernel
theorem dL_law_319 : decode cL_law 319 = .ok (.iload_n 3, 1) := by decide +kernel
theorem dL_law_320 : decode cL_law 320 = .ok (.ifCond .eq 33, 3) := by decide +kernel
theorem dL_law_323 : decode cL_law 323 = .ok (.aload_n 1, 1) := by decide +kernel
theorem dL_law_324 : decode cL_law 324 = .ok (.iload 4, 2) := by decide +kernel
theorem dL_law_326 : decode cL_law 326 = .ok (.iload 6, 2) := by decide +kernel
theorem dL_law_328 : decode cL_law 328 = .ok (.iconst 5, 1) := by decide +kernel
theorem dL_law_329 : decode cL_law 329 = .ok (.ishr, 1) := by decide +kernel
theorem dL_law_330 : decode cL_law 330 = .ok (.invokestatic 179, 3) := by decide +kernel
theorem dL_law_333 : decode cL_law 333 = .ok (.ifCond .eq 20, 3) := by decide +kernel
theorem dL_law_336 : decode cL_law 336 = .ok (.aload_n 2, 1) := by decide +kernel
theorem dL_law_337 : decode cL_law 337 = .ok (.iload 4, 2) := by decide +kernel
theorem dL_law_339 : decode cL_law 339 = .ok (.iload 6, 2) := by decide +kernel
theorem dL_law_341 : decode cL_law 341 = .ok (.iconst 5, 1) := by decide +kernel
theorem dL_law_342 : decode cL_law 342 = .ok (.ishr, 1) := by decide +kernel
theorem dL_law_343 : decode cL_law 343 = .ok (.invokestatic 179, 3) := by decide +kernel
theorem dL_law_346 : decode cL_law 346 = .ok (.ifCond .eq 7, 3) := by decide +kernel
theorem dL_law_349 : decode cL_law 349 = .ok (.iconst 1, 1) := by decide +kernel
theorem dL_law_350 : decode cL_law 350 = .ok (.goto 4, 3) := by decide +kernel
theorem dL_law_353 : decode cL_law 353 = .ok (.iconst 0, 1) := by decide +kernel
theorem dL_law_354 : decode cL_law 354 = .ok (.istore_n 3, 1) := by decide +kernel
theorem dL_law_355 : decode cL_law 355 = .ok (.iinc 5 1, 3) := by decide +kernel
theorem dL_law_358 : decode cL_law 358 = .ok (.goto (-218), 3) := by decide +kernel
theorem dL_law_361 : decode cL_law 361 = .ok (.iload_n 3, 1) := by decide +kernel
theorem dL_law_362 : decode cL_law 362 = .ok (.ifCond .eq 30, 3) := by decide +kernel
theorem dL_law_365 : decode cL_law 365 = .ok (.aload_n 1, 1) := by decide +kernel
theorem dL_law_366 : decode cL_law 366 = .ok (.aload_n 2, 1) := by decide +kernel
theorem dL_law_367 : decode cL_law 367 = .ok (.iload 4, 2) := by decide +kernel
theorem dL_law_369 : decode cL_law 369 = .ok (.bipush 77, 2) := by decide +kernel
theorem dL_law_371 : decode cL_law 371 = .ok (.invokestatic 175, 3) := by decide +kernel
theorem dL_law_374 : decode cL_law 374 = .ok (.ifCond .eq 18, 3) := by decide +kernel
theorem dL_law_377 : decode cL_law 377 = .ok (.aload_n 1, 1) := by decide +kernel
theorem dL_law_378 : decode cL_law 378 = .ok (.iload 4, 2) := by decide +kernel
theorem dL_law_380 : decode cL_law 380 = .ok (.bipush 99, 2) := by decide +kernel
theorem dL_law_382 : decode cL_law 382 = .ok (.invokestatic 179, 3) := by decide +kernel
theorem dL_law_385 : decode cL_law 385 = .ok (.ifCond .eq 7, 3) := by decide +kernel
theorem dL_law_388 : decode cL_law 388 = .ok (.iconst 1, 1) := by decide +kernel
theorem dL_law_389 : decode cL_law 389 = .ok (.goto 4, 3) := by decide +kernel
theorem dL_law_392 : decode cL_law 392 = .ok (.iconst 0, 1) := by decide +kernel
theorem dL_law_393 : decode cL_law 393 = .ok (.ireturn, 1) := by decide +kernel
