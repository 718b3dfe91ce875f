/-! Printed by wip/whole/gen_lawdec.py: the law and its helpers, decoded. -/
theorem dl_0 : decode code 0 = .ok (.new 8, 3) := by decide +kernel
theorem dl_3 : decode code 3 = .ok (.dup, 1) := by decide +kernel
theorem dl_4 : decode code 4 = .ok (.invokespecial 39, 3) := by decide +kernel
theorem dl_7 : decode code 7 = .ok (.astore_n 1, 1) := by decide +kernel
theorem dl_8 : decode code 8 = .ok (.new 40, 3) := by decide +kernel
theorem dl_11 : decode code 11 = .ok (.dup, 1) := by decide +kernel
theorem dl_12 : decode code 12 = .ok (.invokespecial 42, 3) := by decide +kernel
theorem dl_15 : decode code 15 = .ok (.astore_n 2, 1) := by decide +kernel
theorem dl_16 : decode code 16 = .ok (.iconst (1), 1) := by decide +kernel
theorem dl_17 : decode code 17 = .ok (.newarray .long, 2) := by decide +kernel
theorem dl_19 : decode code 19 = .ok (.astore_n 3, 1) := by decide +kernel
theorem dl_20 : decode code 20 = .ok (.iconst (0), 1) := by decide +kernel
theorem dl_21 : decode code 21 = .ok (.istore 4, 2) := by decide +kernel
theorem dl_23 : decode code 23 = .ok (.iload 4, 2) := by decide +kernel
theorem dl_25 : decode code 25 = .ok (.aload_n 0, 1) := by decide +kernel
theorem dl_26 : decode code 26 = .ok (.arraylength, 1) := by decide +kernel
theorem dl_27 : decode code 27 = .ok (.iconst (3), 1) := by decide +kernel
theorem dl_28 : decode code 28 = .ok (.isub, 1) := by decide +kernel
theorem dl_29 : decode code 29 = .ok (.if_icmp .gt (600), 3) := by decide +kernel
theorem dl_32 : decode code 32 = .ok (.aload_n 0, 1) := by decide +kernel
theorem dl_33 : decode code 33 = .ok (.iload 4, 2) := by decide +kernel
theorem dl_35 : decode code 35 = .ok (.iaload, 1) := by decide +kernel
theorem dl_36 : decode code 36 = .ok (.bipush (15), 2) := by decide +kernel
theorem dl_38 : decode code 38 = .ok (.iand, 1) := by decide +kernel
theorem dl_39 : decode code 39 = .ok (.tableswitch (584) 0 10 #[57, 84, 140, 203, 251, 306, 354, 422, 478, 491, 558], 57) := by decide +kernel
theorem dl_96 : decode code 96 = .ok (.aload_n 1, 1) := by decide +kernel
theorem dl_97 : decode code 97 = .ok (.aload_n 0, 1) := by decide +kernel
theorem dl_98 : decode code 98 = .ok (.iload 4, 2) := by decide +kernel
theorem dl_100 : decode code 100 = .ok (.iconst (1), 1) := by decide +kernel
theorem dl_101 : decode code 101 = .ok (.iadd, 1) := by decide +kernel
theorem dl_102 : decode code 102 = .ok (.iaload, 1) := by decide +kernel
theorem dl_103 : decode code 103 = .ok (.i2c, 1) := by decide +kernel
theorem dl_104 : decode code 104 = .ok (.invokevirtual 43, 3) := by decide +kernel
theorem dl_107 : decode code 107 = .ok (.aload_n 2, 1) := by decide +kernel
theorem dl_108 : decode code 108 = .ok (.aload_n 0, 1) := by decide +kernel
theorem dl_109 : decode code 109 = .ok (.iload 4, 2) := by decide +kernel
theorem dl_111 : decode code 111 = .ok (.iconst (1), 1) := by decide +kernel
theorem dl_112 : decode code 112 = .ok (.iadd, 1) := by decide +kernel
theorem dl_113 : decode code 113 = .ok (.iaload, 1) := by decide +kernel
theorem dl_114 : decode code 114 = .ok (.i2c, 1) := by decide +kernel
theorem dl_115 : decode code 115 = .ok (.invokevirtual 47, 3) := by decide +kernel
theorem dl_118 : decode code 118 = .ok (.if_icmp .eq (505), 3) := by decide +kernel
theorem dl_121 : decode code 121 = .ok (.iconst (0), 1) := by decide +kernel
theorem dl_122 : decode code 122 = .ok (.ireturn, 1) := by decide +kernel
theorem dl_123 : decode code 123 = .ok (.aload_n 1, 1) := by decide +kernel
theorem dl_124 : decode code 124 = .ok (.aload_n 0, 1) := by decide +kernel
theorem dl_125 : decode code 125 = .ok (.iload 4, 2) := by decide +kernel
theorem dl_127 : decode code 127 = .ok (.iconst (1), 1) := by decide +kernel
theorem dl_128 : decode code 128 = .ok (.iadd, 1) := by decide +kernel
theorem dl_129 : decode code 129 = .ok (.iaload, 1) := by decide +kernel
theorem dl_130 : decode code 130 = .ok (.aload_n 3, 1) := by decide +kernel
theorem dl_131 : decode code 131 = .ok (.invokestatic 48, 3) := by decide +kernel
theorem dl_134 : decode code 134 = .ok (.istore 5, 2) := by decide +kernel
theorem dl_136 : decode code 136 = .ok (.aload_n 2, 1) := by decide +kernel
theorem dl_137 : decode code 137 = .ok (.aload_n 0, 1) := by decide +kernel
theorem dl_138 : decode code 138 = .ok (.iload 4, 2) := by decide +kernel
theorem dl_140 : decode code 140 = .ok (.iconst (1), 1) := by decide +kernel
theorem dl_141 : decode code 141 = .ok (.iadd, 1) := by decide +kernel
theorem dl_142 : decode code 142 = .ok (.iaload, 1) := by decide +kernel
theorem dl_143 : decode code 143 = .ok (.invokevirtual 53, 3) := by decide +kernel
theorem dl_146 : decode code 146 = .ok (.istore 6, 2) := by decide +kernel
theorem dl_148 : decode code 148 = .ok (.aload_n 2, 1) := by decide +kernel
theorem dl_149 : decode code 149 = .ok (.invokevirtual 54, 3) := by decide +kernel
theorem dl_152 : decode code 152 = .ok (.iload 5, 2) := by decide +kernel
theorem dl_154 : decode code 154 = .ok (.if_icmp .eq (5), 3) := by decide +kernel
theorem dl_157 : decode code 157 = .ok (.iconst (0), 1) := by decide +kernel
theorem dl_158 : decode code 158 = .ok (.ireturn, 1) := by decide +kernel
theorem dl_159 : decode code 159 = .ok (.iload 5, 2) := by decide +kernel
theorem dl_161 : decode code 161 = .ok (.ifCond .ne (15), 3) := by decide +kernel
theorem dl_164 : decode code 164 = .ok (.aload_n 3, 1) := by decide +kernel
theorem dl_165 : decode code 165 = .ok (.iconst (0), 1) := by decide +kernel
theorem dl_166 : decode code 166 = .ok (.laload, 1) := by decide +kernel
theorem dl_167 : decode code 167 = .ok (.iload 6, 2) := by decide +kernel
theorem dl_169 : decode code 169 = .ok (.i2l, 1) := by decide +kernel
theorem dl_170 : decode code 170 = .ok (.lcmp, 1) := by decide +kernel
theorem dl_171 : decode code 171 = .ok (.ifCond .eq (5), 3) := by decide +kernel
theorem dl_174 : decode code 174 = .ok (.iconst (0), 1) := by decide +kernel
theorem dl_175 : decode code 175 = .ok (.ireturn, 1) := by decide +kernel
theorem dl_176 : decode code 176 = .ok (.goto (447), 3) := by decide +kernel
theorem dl_179 : decode code 179 = .ok (.aload_n 1, 1) := by decide +kernel
theorem dl_180 : decode code 180 = .ok (.aload_n 0, 1) := by decide +kernel
theorem dl_181 : decode code 181 = .ok (.iload 4, 2) := by decide +kernel
theorem dl_183 : decode code 183 = .ok (.iconst (1), 1) := by decide +kernel
theorem dl_184 : decode code 184 = .ok (.iadd, 1) := by decide +kernel
theorem dl_185 : decode code 185 = .ok (.iaload, 1) := by decide +kernel
theorem dl_186 : decode code 186 = .ok (.aload_n 3, 1) := by decide +kernel
theorem dl_187 : decode code 187 = .ok (.invokestatic 58, 3) := by decide +kernel
theorem dl_190 : decode code 190 = .ok (.istore 5, 2) := by decide +kernel
theorem dl_192 : decode code 192 = .ok (.aload_n 2, 1) := by decide +kernel
theorem dl_193 : decode code 193 = .ok (.aload_n 0, 1) := by decide +kernel
theorem dl_194 : decode code 194 = .ok (.iload 4, 2) := by decide +kernel
theorem dl_196 : decode code 196 = .ok (.iconst (1), 1) := by decide +kernel
theorem dl_197 : decode code 197 = .ok (.iadd, 1) := by decide +kernel
theorem dl_198 : decode code 198 = .ok (.iaload, 1) := by decide +kernel
theorem dl_199 : decode code 199 = .ok (.invokevirtual 60, 3) := by decide +kernel
theorem dl_202 : decode code 202 = .ok (.istore 6, 2) := by decide +kernel
theorem dl_204 : decode code 204 = .ok (.aload_n 2, 1) := by decide +kernel
theorem dl_205 : decode code 205 = .ok (.invokevirtual 54, 3) := by decide +kernel
theorem dl_208 : decode code 208 = .ok (.iload 5, 2) := by decide +kernel
theorem dl_210 : decode code 210 = .ok (.if_icmp .eq (5), 3) := by decide +kernel
theorem dl_213 : decode code 213 = .ok (.iconst (0), 1) := by decide +kernel
theorem dl_214 : decode code 214 = .ok (.ireturn, 1) := by decide +kernel
theorem dl_215 : decode code 215 = .ok (.iload 5, 2) := by decide +kernel
theorem dl_217 : decode code 217 = .ok (.ifCond .ne (22), 3) := by decide +kernel
theorem dl_220 : decode code 220 = .ok (.aload_n 3, 1) := by decide +kernel
theorem dl_221 : decode code 221 = .ok (.iconst (0), 1) := by decide +kernel
theorem dl_222 : decode code 222 = .ok (.laload, 1) := by decide +kernel
theorem dl_223 : decode code 223 = .ok (.iload 6, 2) := by decide +kernel
theorem dl_225 : decode code 225 = .ok (.ifCond .eq (7), 3) := by decide +kernel
theorem dl_228 : decode code 228 = .ok (.lconst 1, 1) := by decide +kernel
theorem dl_229 : decode code 229 = .ok (.goto (4), 3) := by decide +kernel
theorem dl_232 : decode code 232 = .ok (.lconst 0, 1) := by decide +kernel
theorem dl_233 : decode code 233 = .ok (.lcmp, 1) := by decide +kernel
theorem dl_234 : decode code 234 = .ok (.ifCond .eq (5), 3) := by decide +kernel
theorem dl_237 : decode code 237 = .ok (.iconst (0), 1) := by decide +kernel
theorem dl_238 : decode code 238 = .ok (.ireturn, 1) := by decide +kernel
theorem dl_239 : decode code 239 = .ok (.goto (384), 3) := by decide +kernel
theorem dl_242 : decode code 242 = .ok (.aload_n 1, 1) := by decide +kernel
theorem dl_243 : decode code 243 = .ok (.aload_n 0, 1) := by decide +kernel
theorem dl_244 : decode code 244 = .ok (.iload 4, 2) := by decide +kernel
theorem dl_246 : decode code 246 = .ok (.iconst (1), 1) := by decide +kernel
theorem dl_247 : decode code 247 = .ok (.iadd, 1) := by decide +kernel
theorem dl_248 : decode code 248 = .ok (.iaload, 1) := by decide +kernel
theorem dl_249 : decode code 249 = .ok (.aload_n 0, 1) := by decide +kernel
theorem dl_250 : decode code 250 = .ok (.iload 4, 2) := by decide +kernel
theorem dl_252 : decode code 252 = .ok (.iconst (2), 1) := by decide +kernel
theorem dl_253 : decode code 253 = .ok (.iadd, 1) := by decide +kernel
theorem dl_254 : decode code 254 = .ok (.iaload, 1) := by decide +kernel
theorem dl_255 : decode code 255 = .ok (.invokestatic 61, 3) := by decide +kernel
theorem dl_258 : decode code 258 = .ok (.istore 5, 2) := by decide +kernel
theorem dl_260 : decode code 260 = .ok (.aload_n 2, 1) := by decide +kernel
theorem dl_261 : decode code 261 = .ok (.aload_n 0, 1) := by decide +kernel
theorem dl_262 : decode code 262 = .ok (.iload 4, 2) := by decide +kernel
theorem dl_264 : decode code 264 = .ok (.iconst (1), 1) := by decide +kernel
theorem dl_265 : decode code 265 = .ok (.iadd, 1) := by decide +kernel
theorem dl_266 : decode code 266 = .ok (.iaload, 1) := by decide +kernel
theorem dl_267 : decode code 267 = .ok (.aload_n 0, 1) := by decide +kernel
theorem dl_268 : decode code 268 = .ok (.iload 4, 2) := by decide +kernel
theorem dl_270 : decode code 270 = .ok (.iconst (2), 1) := by decide +kernel
theorem dl_271 : decode code 271 = .ok (.iadd, 1) := by decide +kernel
theorem dl_272 : decode code 272 = .ok (.iaload, 1) := by decide +kernel
theorem dl_273 : decode code 273 = .ok (.invokevirtual 64, 3) := by decide +kernel
theorem dl_276 : decode code 276 = .ok (.aload_n 2, 1) := by decide +kernel
theorem dl_277 : decode code 277 = .ok (.invokevirtual 54, 3) := by decide +kernel
theorem dl_280 : decode code 280 = .ok (.iload 5, 2) := by decide +kernel
theorem dl_282 : decode code 282 = .ok (.if_icmp .eq (5), 3) := by decide +kernel
theorem dl_285 : decode code 285 = .ok (.iconst (0), 1) := by decide +kernel
theorem dl_286 : decode code 286 = .ok (.ireturn, 1) := by decide +kernel
theorem dl_287 : decode code 287 = .ok (.goto (336), 3) := by decide +kernel
theorem dl_290 : decode code 290 = .ok (.aload_n 1, 1) := by decide +kernel
theorem dl_291 : decode code 291 = .ok (.aload_n 0, 1) := by decide +kernel
theorem dl_292 : decode code 292 = .ok (.iload 4, 2) := by decide +kernel
theorem dl_294 : decode code 294 = .ok (.iconst (1), 1) := by decide +kernel
theorem dl_295 : decode code 295 = .ok (.iadd, 1) := by decide +kernel
theorem dl_296 : decode code 296 = .ok (.iaload, 1) := by decide +kernel
theorem dl_297 : decode code 297 = .ok (.i2l, 1) := by decide +kernel
theorem dl_298 : decode code 298 = .ok (.bipush (32), 2) := by decide +kernel
theorem dl_300 : decode code 300 = .ok (.lshl, 1) := by decide +kernel
theorem dl_301 : decode code 301 = .ok (.aload_n 0, 1) := by decide +kernel
theorem dl_302 : decode code 302 = .ok (.iload 4, 2) := by decide +kernel
theorem dl_304 : decode code 304 = .ok (.iconst (2), 1) := by decide +kernel
theorem dl_305 : decode code 305 = .ok (.iadd, 1) := by decide +kernel
theorem dl_306 : decode code 306 = .ok (.iaload, 1) := by decide +kernel
theorem dl_307 : decode code 307 = .ok (.i2l, 1) := by decide +kernel
theorem dl_308 : decode code 308 = .ok (.ldc2_w 65, 3) := by decide +kernel
theorem dl_311 : decode code 311 = .ok (.land, 1) := by decide +kernel
theorem dl_312 : decode code 312 = .ok (.lor, 1) := by decide +kernel
theorem dl_313 : decode code 313 = .ok (.invokevirtual 67, 3) := by decide +kernel
theorem dl_316 : decode code 316 = .ok (.aload_n 2, 1) := by decide +kernel
theorem dl_317 : decode code 317 = .ok (.aload_n 0, 1) := by decide +kernel
theorem dl_318 : decode code 318 = .ok (.iload 4, 2) := by decide +kernel
theorem dl_320 : decode code 320 = .ok (.iconst (1), 1) := by decide +kernel
theorem dl_321 : decode code 321 = .ok (.iadd, 1) := by decide +kernel
theorem dl_322 : decode code 322 = .ok (.iaload, 1) := by decide +kernel
theorem dl_323 : decode code 323 = .ok (.i2l, 1) := by decide +kernel
theorem dl_324 : decode code 324 = .ok (.bipush (32), 2) := by decide +kernel
theorem dl_326 : decode code 326 = .ok (.lshl, 1) := by decide +kernel
theorem dl_327 : decode code 327 = .ok (.aload_n 0, 1) := by decide +kernel
theorem dl_328 : decode code 328 = .ok (.iload 4, 2) := by decide +kernel
theorem dl_330 : decode code 330 = .ok (.iconst (2), 1) := by decide +kernel
theorem dl_331 : decode code 331 = .ok (.iadd, 1) := by decide +kernel
theorem dl_332 : decode code 332 = .ok (.iaload, 1) := by decide +kernel
theorem dl_333 : decode code 333 = .ok (.i2l, 1) := by decide +kernel
theorem dl_334 : decode code 334 = .ok (.ldc2_w 65, 3) := by decide +kernel
theorem dl_337 : decode code 337 = .ok (.land, 1) := by decide +kernel
theorem dl_338 : decode code 338 = .ok (.lor, 1) := by decide +kernel
theorem dl_339 : decode code 339 = .ok (.invokevirtual 71, 3) := by decide +kernel
theorem dl_342 : decode code 342 = .ok (.goto (281), 3) := by decide +kernel
theorem dl_345 : decode code 345 = .ok (.aload_n 1, 1) := by decide +kernel
theorem dl_346 : decode code 346 = .ok (.aload_n 0, 1) := by decide +kernel
theorem dl_347 : decode code 347 = .ok (.iload 4, 2) := by decide +kernel
theorem dl_349 : decode code 349 = .ok (.iconst (1), 1) := by decide +kernel
theorem dl_350 : decode code 350 = .ok (.iadd, 1) := by decide +kernel
theorem dl_351 : decode code 351 = .ok (.iaload, 1) := by decide +kernel
theorem dl_352 : decode code 352 = .ok (.aload_n 0, 1) := by decide +kernel
theorem dl_353 : decode code 353 = .ok (.iload 4, 2) := by decide +kernel
theorem dl_355 : decode code 355 = .ok (.iconst (2), 1) := by decide +kernel
theorem dl_356 : decode code 356 = .ok (.iadd, 1) := by decide +kernel
theorem dl_357 : decode code 357 = .ok (.iaload, 1) := by decide +kernel
theorem dl_358 : decode code 358 = .ok (.invokestatic 72, 3) := by decide +kernel
theorem dl_361 : decode code 361 = .ok (.istore 5, 2) := by decide +kernel
theorem dl_363 : decode code 363 = .ok (.aload_n 2, 1) := by decide +kernel
theorem dl_364 : decode code 364 = .ok (.aload_n 0, 1) := by decide +kernel
theorem dl_365 : decode code 365 = .ok (.iload 4, 2) := by decide +kernel
theorem dl_367 : decode code 367 = .ok (.iconst (1), 1) := by decide +kernel
theorem dl_368 : decode code 368 = .ok (.iadd, 1) := by decide +kernel
theorem dl_369 : decode code 369 = .ok (.iaload, 1) := by decide +kernel
theorem dl_370 : decode code 370 = .ok (.aload_n 0, 1) := by decide +kernel
theorem dl_371 : decode code 371 = .ok (.iload 4, 2) := by decide +kernel
theorem dl_373 : decode code 373 = .ok (.iconst (2), 1) := by decide +kernel
theorem dl_374 : decode code 374 = .ok (.iadd, 1) := by decide +kernel
theorem dl_375 : decode code 375 = .ok (.iaload, 1) := by decide +kernel
theorem dl_376 : decode code 376 = .ok (.invokevirtual 74, 3) := by decide +kernel
theorem dl_379 : decode code 379 = .ok (.aload_n 2, 1) := by decide +kernel
theorem dl_380 : decode code 380 = .ok (.invokevirtual 54, 3) := by decide +kernel
theorem dl_383 : decode code 383 = .ok (.iload 5, 2) := by decide +kernel
theorem dl_385 : decode code 385 = .ok (.if_icmp .eq (5), 3) := by decide +kernel
theorem dl_388 : decode code 388 = .ok (.iconst (0), 1) := by decide +kernel
theorem dl_389 : decode code 389 = .ok (.ireturn, 1) := by decide +kernel
theorem dl_390 : decode code 390 = .ok (.goto (233), 3) := by decide +kernel
theorem dl_393 : decode code 393 = .ok (.aload_n 1, 1) := by decide +kernel
theorem dl_394 : decode code 394 = .ok (.aload_n 0, 1) := by decide +kernel
theorem dl_395 : decode code 395 = .ok (.iload 4, 2) := by decide +kernel
theorem dl_397 : decode code 397 = .ok (.iconst (1), 1) := by decide +kernel
theorem dl_398 : decode code 398 = .ok (.iadd, 1) := by decide +kernel
theorem dl_399 : decode code 399 = .ok (.iaload, 1) := by decide +kernel
theorem dl_400 : decode code 400 = .ok (.aload_n 0, 1) := by decide +kernel
theorem dl_401 : decode code 401 = .ok (.iload 4, 2) := by decide +kernel
theorem dl_403 : decode code 403 = .ok (.iconst (2), 1) := by decide +kernel
theorem dl_404 : decode code 404 = .ok (.iadd, 1) := by decide +kernel
theorem dl_405 : decode code 405 = .ok (.iaload, 1) := by decide +kernel
theorem dl_406 : decode code 406 = .ok (.aload_n 3, 1) := by decide +kernel
theorem dl_407 : decode code 407 = .ok (.invokestatic 75, 3) := by decide +kernel
theorem dl_410 : decode code 410 = .ok (.istore 5, 2) := by decide +kernel
theorem dl_412 : decode code 412 = .ok (.aload_n 2, 1) := by decide +kernel
theorem dl_413 : decode code 413 = .ok (.aload_n 0, 1) := by decide +kernel
theorem dl_414 : decode code 414 = .ok (.iload 4, 2) := by decide +kernel
theorem dl_416 : decode code 416 = .ok (.iconst (1), 1) := by decide +kernel
theorem dl_417 : decode code 417 = .ok (.iadd, 1) := by decide +kernel
theorem dl_418 : decode code 418 = .ok (.iaload, 1) := by decide +kernel
theorem dl_419 : decode code 419 = .ok (.aload_n 0, 1) := by decide +kernel
theorem dl_420 : decode code 420 = .ok (.iload 4, 2) := by decide +kernel
theorem dl_422 : decode code 422 = .ok (.iconst (2), 1) := by decide +kernel
theorem dl_423 : decode code 423 = .ok (.iadd, 1) := by decide +kernel
theorem dl_424 : decode code 424 = .ok (.iaload, 1) := by decide +kernel
theorem dl_425 : decode code 425 = .ok (.invokevirtual 78, 3) := by decide +kernel
theorem dl_428 : decode code 428 = .ok (.istore 6, 2) := by decide +kernel
theorem dl_430 : decode code 430 = .ok (.aload_n 2, 1) := by decide +kernel
theorem dl_431 : decode code 431 = .ok (.invokevirtual 54, 3) := by decide +kernel
theorem dl_434 : decode code 434 = .ok (.iload 5, 2) := by decide +kernel
theorem dl_436 : decode code 436 = .ok (.if_icmp .eq (5), 3) := by decide +kernel
theorem dl_439 : decode code 439 = .ok (.iconst (0), 1) := by decide +kernel
theorem dl_440 : decode code 440 = .ok (.ireturn, 1) := by decide +kernel
theorem dl_441 : decode code 441 = .ok (.iload 5, 2) := by decide +kernel
theorem dl_443 : decode code 443 = .ok (.ifCond .ne (15), 3) := by decide +kernel
theorem dl_446 : decode code 446 = .ok (.aload_n 3, 1) := by decide +kernel
theorem dl_447 : decode code 447 = .ok (.iconst (0), 1) := by decide +kernel
theorem dl_448 : decode code 448 = .ok (.laload, 1) := by decide +kernel
theorem dl_449 : decode code 449 = .ok (.iload 6, 2) := by decide +kernel
theorem dl_451 : decode code 451 = .ok (.i2l, 1) := by decide +kernel
theorem dl_452 : decode code 452 = .ok (.lcmp, 1) := by decide +kernel
theorem dl_453 : decode code 453 = .ok (.ifCond .eq (5), 3) := by decide +kernel
theorem dl_456 : decode code 456 = .ok (.iconst (0), 1) := by decide +kernel
theorem dl_457 : decode code 457 = .ok (.ireturn, 1) := by decide +kernel
theorem dl_458 : decode code 458 = .ok (.goto (165), 3) := by decide +kernel
theorem dl_461 : decode code 461 = .ok (.aload_n 1, 1) := by decide +kernel
theorem dl_462 : decode code 462 = .ok (.aload_n 0, 1) := by decide +kernel
theorem dl_463 : decode code 463 = .ok (.iload 4, 2) := by decide +kernel
theorem dl_465 : decode code 465 = .ok (.iconst (1), 1) := by decide +kernel
theorem dl_466 : decode code 466 = .ok (.iadd, 1) := by decide +kernel
theorem dl_467 : decode code 467 = .ok (.iaload, 1) := by decide +kernel
theorem dl_468 : decode code 468 = .ok (.aload_n 3, 1) := by decide +kernel
theorem dl_469 : decode code 469 = .ok (.invokestatic 79, 3) := by decide +kernel
theorem dl_472 : decode code 472 = .ok (.istore 5, 2) := by decide +kernel
theorem dl_474 : decode code 474 = .ok (.aload_n 2, 1) := by decide +kernel
theorem dl_475 : decode code 475 = .ok (.aload_n 0, 1) := by decide +kernel
theorem dl_476 : decode code 476 = .ok (.iload 4, 2) := by decide +kernel
theorem dl_478 : decode code 478 = .ok (.iconst (1), 1) := by decide +kernel
theorem dl_479 : decode code 479 = .ok (.iadd, 1) := by decide +kernel
theorem dl_480 : decode code 480 = .ok (.iaload, 1) := by decide +kernel
theorem dl_481 : decode code 481 = .ok (.invokevirtual 81, 3) := by decide +kernel
theorem dl_484 : decode code 484 = .ok (.istore 6, 2) := by decide +kernel
theorem dl_486 : decode code 486 = .ok (.aload_n 2, 1) := by decide +kernel
theorem dl_487 : decode code 487 = .ok (.invokevirtual 54, 3) := by decide +kernel
theorem dl_490 : decode code 490 = .ok (.iload 5, 2) := by decide +kernel
theorem dl_492 : decode code 492 = .ok (.if_icmp .eq (5), 3) := by decide +kernel
theorem dl_495 : decode code 495 = .ok (.iconst (0), 1) := by decide +kernel
theorem dl_496 : decode code 496 = .ok (.ireturn, 1) := by decide +kernel
theorem dl_497 : decode code 497 = .ok (.iload 5, 2) := by decide +kernel
theorem dl_499 : decode code 499 = .ok (.ifCond .ne (15), 3) := by decide +kernel
theorem dl_502 : decode code 502 = .ok (.aload_n 3, 1) := by decide +kernel
theorem dl_503 : decode code 503 = .ok (.iconst (0), 1) := by decide +kernel
theorem dl_504 : decode code 504 = .ok (.laload, 1) := by decide +kernel
theorem dl_505 : decode code 505 = .ok (.iload 6, 2) := by decide +kernel
theorem dl_507 : decode code 507 = .ok (.i2l, 1) := by decide +kernel
theorem dl_508 : decode code 508 = .ok (.lcmp, 1) := by decide +kernel
theorem dl_509 : decode code 509 = .ok (.ifCond .eq (5), 3) := by decide +kernel
theorem dl_512 : decode code 512 = .ok (.iconst (0), 1) := by decide +kernel
theorem dl_513 : decode code 513 = .ok (.ireturn, 1) := by decide +kernel
theorem dl_514 : decode code 514 = .ok (.goto (109), 3) := by decide +kernel
theorem dl_517 : decode code 517 = .ok (.aload_n 1, 1) := by decide +kernel
theorem dl_518 : decode code 518 = .ok (.invokevirtual 82, 3) := by decide +kernel
theorem dl_521 : decode code 521 = .ok (.aload_n 2, 1) := by decide +kernel
theorem dl_522 : decode code 522 = .ok (.invokevirtual 85, 3) := by decide +kernel
theorem dl_525 : decode code 525 = .ok (.if_icmp .eq (98), 3) := by decide +kernel
theorem dl_528 : decode code 528 = .ok (.iconst (0), 1) := by decide +kernel
theorem dl_529 : decode code 529 = .ok (.ireturn, 1) := by decide +kernel
theorem dl_530 : decode code 530 = .ok (.aload_n 1, 1) := by decide +kernel
theorem dl_531 : decode code 531 = .ok (.aload_n 0, 1) := by decide +kernel
theorem dl_532 : decode code 532 = .ok (.iload 4, 2) := by decide +kernel
theorem dl_534 : decode code 534 = .ok (.iconst (1), 1) := by decide +kernel
theorem dl_535 : decode code 535 = .ok (.iadd, 1) := by decide +kernel
theorem dl_536 : decode code 536 = .ok (.iaload, 1) := by decide +kernel
theorem dl_537 : decode code 537 = .ok (.aload_n 0, 1) := by decide +kernel
theorem dl_538 : decode code 538 = .ok (.iload 4, 2) := by decide +kernel
theorem dl_540 : decode code 540 = .ok (.iconst (2), 1) := by decide +kernel
theorem dl_541 : decode code 541 = .ok (.iadd, 1) := by decide +kernel
theorem dl_542 : decode code 542 = .ok (.iaload, 1) := by decide +kernel
theorem dl_543 : decode code 543 = .ok (.aload_n 3, 1) := by decide +kernel
theorem dl_544 : decode code 544 = .ok (.invokestatic 86, 3) := by decide +kernel
theorem dl_547 : decode code 547 = .ok (.istore 5, 2) := by decide +kernel
theorem dl_549 : decode code 549 = .ok (.aload_n 2, 1) := by decide +kernel
theorem dl_550 : decode code 550 = .ok (.aload_n 0, 1) := by decide +kernel
theorem dl_551 : decode code 551 = .ok (.iload 4, 2) := by decide +kernel
theorem dl_553 : decode code 553 = .ok (.iconst (1), 1) := by decide +kernel
theorem dl_554 : decode code 554 = .ok (.iadd, 1) := by decide +kernel
theorem dl_555 : decode code 555 = .ok (.iaload, 1) := by decide +kernel
theorem dl_556 : decode code 556 = .ok (.aload_n 0, 1) := by decide +kernel
theorem dl_557 : decode code 557 = .ok (.iload 4, 2) := by decide +kernel
theorem dl_559 : decode code 559 = .ok (.iconst (2), 1) := by decide +kernel
theorem dl_560 : decode code 560 = .ok (.iadd, 1) := by decide +kernel
theorem dl_561 : decode code 561 = .ok (.iaload, 1) := by decide +kernel
theorem dl_562 : decode code 562 = .ok (.invokevirtual 88, 3) := by decide +kernel
theorem dl_565 : decode code 565 = .ok (.lstore 6, 2) := by decide +kernel
theorem dl_567 : decode code 567 = .ok (.aload_n 2, 1) := by decide +kernel
theorem dl_568 : decode code 568 = .ok (.invokevirtual 54, 3) := by decide +kernel
theorem dl_571 : decode code 571 = .ok (.iload 5, 2) := by decide +kernel
theorem dl_573 : decode code 573 = .ok (.if_icmp .eq (5), 3) := by decide +kernel
theorem dl_576 : decode code 576 = .ok (.iconst (0), 1) := by decide +kernel
theorem dl_577 : decode code 577 = .ok (.ireturn, 1) := by decide +kernel
theorem dl_578 : decode code 578 = .ok (.iload 5, 2) := by decide +kernel
theorem dl_580 : decode code 580 = .ok (.ifCond .ne (14), 3) := by decide +kernel
theorem dl_583 : decode code 583 = .ok (.aload_n 3, 1) := by decide +kernel
theorem dl_584 : decode code 584 = .ok (.iconst (0), 1) := by decide +kernel
theorem dl_585 : decode code 585 = .ok (.laload, 1) := by decide +kernel
theorem dl_586 : decode code 586 = .ok (.lload 6, 2) := by decide +kernel
theorem dl_588 : decode code 588 = .ok (.lcmp, 1) := by decide +kernel
theorem dl_589 : decode code 589 = .ok (.ifCond .eq (5), 3) := by decide +kernel
theorem dl_592 : decode code 592 = .ok (.iconst (0), 1) := by decide +kernel
theorem dl_593 : decode code 593 = .ok (.ireturn, 1) := by decide +kernel
theorem dl_594 : decode code 594 = .ok (.goto (29), 3) := by decide +kernel
theorem dl_597 : decode code 597 = .ok (.aload_n 1, 1) := by decide +kernel
theorem dl_598 : decode code 598 = .ok (.aload_n 0, 1) := by decide +kernel
theorem dl_599 : decode code 599 = .ok (.iload 4, 2) := by decide +kernel
theorem dl_601 : decode code 601 = .ok (.iconst (1), 1) := by decide +kernel
theorem dl_602 : decode code 602 = .ok (.iadd, 1) := by decide +kernel
theorem dl_603 : decode code 603 = .ok (.iaload, 1) := by decide +kernel
theorem dl_604 : decode code 604 = .ok (.invokevirtual 89, 3) := by decide +kernel
theorem dl_607 : decode code 607 = .ok (.aload_n 2, 1) := by decide +kernel
theorem dl_608 : decode code 608 = .ok (.aload_n 0, 1) := by decide +kernel
theorem dl_609 : decode code 609 = .ok (.iload 4, 2) := by decide +kernel
theorem dl_611 : decode code 611 = .ok (.iconst (1), 1) := by decide +kernel
theorem dl_612 : decode code 612 = .ok (.iadd, 1) := by decide +kernel
theorem dl_613 : decode code 613 = .ok (.iaload, 1) := by decide +kernel
theorem dl_614 : decode code 614 = .ok (.invokevirtual 93, 3) := by decide +kernel
theorem dl_617 : decode code 617 = .ok (.lcmp, 1) := by decide +kernel
theorem dl_618 : decode code 618 = .ok (.ifCond .eq (5), 3) := by decide +kernel
theorem dl_621 : decode code 621 = .ok (.iconst (0), 1) := by decide +kernel
theorem dl_622 : decode code 622 = .ok (.ireturn, 1) := by decide +kernel
theorem dl_623 : decode code 623 = .ok (.iinc 4 (3), 3) := by decide +kernel
theorem dl_626 : decode code 626 = .ok (.goto (-603), 3) := by decide +kernel
theorem dl_629 : decode code 629 = .ok (.iconst (1), 1) := by decide +kernel
theorem dl_630 : decode code 630 = .ok (.ireturn, 1) := by decide +kernel
theorem dh_0_0 : decode (hl_b 0) 0 = .ok (.aload_n 2, 1) := by decide +kernel
theorem dh_0_1 : decode (hl_b 0) 1 = .ok (.iconst (0), 1) := by decide +kernel
theorem dh_0_2 : decode (hl_b 0) 2 = .ok (.aload_n 0, 1) := by decide +kernel
theorem dh_0_3 : decode (hl_b 0) 3 = .ok (.iload_n 1, 1) := by decide +kernel
theorem dh_0_4 : decode (hl_b 0) 4 = .ok (.invokevirtual 7, 3) := by decide +kernel
theorem dh_0_7 : decode (hl_b 0) 7 = .ok (.i2l, 1) := by decide +kernel
theorem dh_0_8 : decode (hl_b 0) 8 = .ok (.lastore, 1) := by decide +kernel
theorem dh_0_9 : decode (hl_b 0) 9 = .ok (.goto (6), 3) := by decide +kernel
theorem dh_0_12 : decode (hl_b 0) 12 = .ok (.astore_n 3, 1) := by decide +kernel
theorem dh_0_13 : decode (hl_b 0) 13 = .ok (.iconst (1), 1) := by decide +kernel
theorem dh_0_14 : decode (hl_b 0) 14 = .ok (.ireturn, 1) := by decide +kernel
theorem dh_0_15 : decode (hl_b 0) 15 = .ok (.iconst (0), 1) := by decide +kernel
theorem dh_0_16 : decode (hl_b 0) 16 = .ok (.ireturn, 1) := by decide +kernel
theorem dh_1_0 : decode (hl_b 1) 0 = .ok (.aload_n 2, 1) := by decide +kernel
theorem dh_1_1 : decode (hl_b 1) 1 = .ok (.iconst (0), 1) := by decide +kernel
theorem dh_1_2 : decode (hl_b 1) 2 = .ok (.aload_n 0, 1) := by decide +kernel
theorem dh_1_3 : decode (hl_b 1) 3 = .ok (.iload_n 1, 1) := by decide +kernel
theorem dh_1_4 : decode (hl_b 1) 4 = .ok (.invokevirtual 15, 3) := by decide +kernel
theorem dh_1_7 : decode (hl_b 1) 7 = .ok (.ifCond .eq (7), 3) := by decide +kernel
theorem dh_1_10 : decode (hl_b 1) 10 = .ok (.lconst 1, 1) := by decide +kernel
theorem dh_1_11 : decode (hl_b 1) 11 = .ok (.goto (4), 3) := by decide +kernel
theorem dh_1_14 : decode (hl_b 1) 14 = .ok (.lconst 0, 1) := by decide +kernel
theorem dh_1_15 : decode (hl_b 1) 15 = .ok (.lastore, 1) := by decide +kernel
theorem dh_1_16 : decode (hl_b 1) 16 = .ok (.goto (6), 3) := by decide +kernel
theorem dh_1_19 : decode (hl_b 1) 19 = .ok (.astore_n 3, 1) := by decide +kernel
theorem dh_1_20 : decode (hl_b 1) 20 = .ok (.iconst (1), 1) := by decide +kernel
theorem dh_1_21 : decode (hl_b 1) 21 = .ok (.ireturn, 1) := by decide +kernel
theorem dh_1_22 : decode (hl_b 1) 22 = .ok (.iconst (0), 1) := by decide +kernel
theorem dh_1_23 : decode (hl_b 1) 23 = .ok (.ireturn, 1) := by decide +kernel
theorem dh_2_0 : decode (hl_b 2) 0 = .ok (.aload_n 0, 1) := by decide +kernel
theorem dh_2_1 : decode (hl_b 2) 1 = .ok (.iload_n 1, 1) := by decide +kernel
theorem dh_2_2 : decode (hl_b 2) 2 = .ok (.iload_n 2, 1) := by decide +kernel
theorem dh_2_3 : decode (hl_b 2) 3 = .ok (.invokevirtual 19, 3) := by decide +kernel
theorem dh_2_6 : decode (hl_b 2) 6 = .ok (.goto (6), 3) := by decide +kernel
theorem dh_2_9 : decode (hl_b 2) 9 = .ok (.astore_n 3, 1) := by decide +kernel
theorem dh_2_10 : decode (hl_b 2) 10 = .ok (.iconst (1), 1) := by decide +kernel
theorem dh_2_11 : decode (hl_b 2) 11 = .ok (.ireturn, 1) := by decide +kernel
theorem dh_2_12 : decode (hl_b 2) 12 = .ok (.iconst (0), 1) := by decide +kernel
theorem dh_2_13 : decode (hl_b 2) 13 = .ok (.ireturn, 1) := by decide +kernel
theorem dh_3_0 : decode (hl_b 3) 0 = .ok (.aload_n 0, 1) := by decide +kernel
theorem dh_3_1 : decode (hl_b 3) 1 = .ok (.iload_n 1, 1) := by decide +kernel
theorem dh_3_2 : decode (hl_b 3) 2 = .ok (.iload_n 2, 1) := by decide +kernel
theorem dh_3_3 : decode (hl_b 3) 3 = .ok (.invokevirtual 23, 3) := by decide +kernel
theorem dh_3_6 : decode (hl_b 3) 6 = .ok (.goto (6), 3) := by decide +kernel
theorem dh_3_9 : decode (hl_b 3) 9 = .ok (.astore_n 3, 1) := by decide +kernel
theorem dh_3_10 : decode (hl_b 3) 10 = .ok (.iconst (1), 1) := by decide +kernel
theorem dh_3_11 : decode (hl_b 3) 11 = .ok (.ireturn, 1) := by decide +kernel
theorem dh_3_12 : decode (hl_b 3) 12 = .ok (.iconst (0), 1) := by decide +kernel
theorem dh_3_13 : decode (hl_b 3) 13 = .ok (.ireturn, 1) := by decide +kernel
theorem dh_4_0 : decode (hl_b 4) 0 = .ok (.aload_n 3, 1) := by decide +kernel
theorem dh_4_1 : decode (hl_b 4) 1 = .ok (.iconst (0), 1) := by decide +kernel
theorem dh_4_2 : decode (hl_b 4) 2 = .ok (.aload_n 0, 1) := by decide +kernel
theorem dh_4_3 : decode (hl_b 4) 3 = .ok (.iload_n 1, 1) := by decide +kernel
theorem dh_4_4 : decode (hl_b 4) 4 = .ok (.iload_n 2, 1) := by decide +kernel
theorem dh_4_5 : decode (hl_b 4) 5 = .ok (.invokevirtual 26, 3) := by decide +kernel
theorem dh_4_8 : decode (hl_b 4) 8 = .ok (.i2l, 1) := by decide +kernel
theorem dh_4_9 : decode (hl_b 4) 9 = .ok (.lastore, 1) := by decide +kernel
theorem dh_4_10 : decode (hl_b 4) 10 = .ok (.goto (11), 3) := by decide +kernel
theorem dh_4_13 : decode (hl_b 4) 13 = .ok (.astore 4, 2) := by decide +kernel
theorem dh_4_15 : decode (hl_b 4) 15 = .ok (.iconst (1), 1) := by decide +kernel
theorem dh_4_16 : decode (hl_b 4) 16 = .ok (.ireturn, 1) := by decide +kernel
theorem dh_4_17 : decode (hl_b 4) 17 = .ok (.astore 4, 2) := by decide +kernel
theorem dh_4_19 : decode (hl_b 4) 19 = .ok (.iconst (2), 1) := by decide +kernel
theorem dh_4_20 : decode (hl_b 4) 20 = .ok (.ireturn, 1) := by decide +kernel
theorem dh_4_21 : decode (hl_b 4) 21 = .ok (.iconst (0), 1) := by decide +kernel
theorem dh_4_22 : decode (hl_b 4) 22 = .ok (.ireturn, 1) := by decide +kernel
theorem dh_5_0 : decode (hl_b 5) 0 = .ok (.aload_n 2, 1) := by decide +kernel
theorem dh_5_1 : decode (hl_b 5) 1 = .ok (.iconst (0), 1) := by decide +kernel
theorem dh_5_2 : decode (hl_b 5) 2 = .ok (.aload_n 0, 1) := by decide +kernel
theorem dh_5_3 : decode (hl_b 5) 3 = .ok (.iload_n 1, 1) := by decide +kernel
theorem dh_5_4 : decode (hl_b 5) 4 = .ok (.invokevirtual 32, 3) := by decide +kernel
theorem dh_5_7 : decode (hl_b 5) 7 = .ok (.i2l, 1) := by decide +kernel
theorem dh_5_8 : decode (hl_b 5) 8 = .ok (.lastore, 1) := by decide +kernel
theorem dh_5_9 : decode (hl_b 5) 9 = .ok (.goto (9), 3) := by decide +kernel
theorem dh_5_12 : decode (hl_b 5) 12 = .ok (.astore_n 3, 1) := by decide +kernel
theorem dh_5_13 : decode (hl_b 5) 13 = .ok (.iconst (1), 1) := by decide +kernel
theorem dh_5_14 : decode (hl_b 5) 14 = .ok (.ireturn, 1) := by decide +kernel
theorem dh_5_15 : decode (hl_b 5) 15 = .ok (.astore_n 3, 1) := by decide +kernel
theorem dh_5_16 : decode (hl_b 5) 16 = .ok (.iconst (2), 1) := by decide +kernel
theorem dh_5_17 : decode (hl_b 5) 17 = .ok (.ireturn, 1) := by decide +kernel
theorem dh_5_18 : decode (hl_b 5) 18 = .ok (.iconst (0), 1) := by decide +kernel
theorem dh_5_19 : decode (hl_b 5) 19 = .ok (.ireturn, 1) := by decide +kernel
theorem dh_6_0 : decode (hl_b 6) 0 = .ok (.aload_n 3, 1) := by decide +kernel
theorem dh_6_1 : decode (hl_b 6) 1 = .ok (.iconst (0), 1) := by decide +kernel
theorem dh_6_2 : decode (hl_b 6) 2 = .ok (.aload_n 0, 1) := by decide +kernel
theorem dh_6_3 : decode (hl_b 6) 3 = .ok (.iload_n 1, 1) := by decide +kernel
theorem dh_6_4 : decode (hl_b 6) 4 = .ok (.iload_n 2, 1) := by decide +kernel
theorem dh_6_5 : decode (hl_b 6) 5 = .ok (.invokevirtual 35, 3) := by decide +kernel
theorem dh_6_8 : decode (hl_b 6) 8 = .ok (.lastore, 1) := by decide +kernel
theorem dh_6_9 : decode (hl_b 6) 9 = .ok (.goto (11), 3) := by decide +kernel
theorem dh_6_12 : decode (hl_b 6) 12 = .ok (.astore 4, 2) := by decide +kernel
theorem dh_6_14 : decode (hl_b 6) 14 = .ok (.iconst (1), 1) := by decide +kernel
theorem dh_6_15 : decode (hl_b 6) 15 = .ok (.ireturn, 1) := by decide +kernel
theorem dh_6_16 : decode (hl_b 6) 16 = .ok (.astore 4, 2) := by decide +kernel
theorem dh_6_18 : decode (hl_b 6) 18 = .ok (.iconst (2), 1) := by decide +kernel
theorem dh_6_19 : decode (hl_b 6) 19 = .ok (.ireturn, 1) := by decide +kernel
theorem dh_6_20 : decode (hl_b 6) 20 = .ok (.iconst (0), 1) := by decide +kernel
theorem dh_6_21 : decode (hl_b 6) 21 = .ok (.ireturn, 1) := by decide +kernel
