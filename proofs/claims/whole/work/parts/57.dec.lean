/-! Printed by wip/whole/gen_dec.py: methods read back. -/
-- ConditionDeskModel.enter(II)V
theorem L_122 : tb_mL 122 = 5 := by decide +kernel
theorem R_122 : tb_mr 122 = none := by decide +kernel
theorem dk_122_0 : decode (tb_mb 122) 0 = .ok (.aload_n 0, 1) := by decide +kernel
theorem dk_122_1 : decode (tb_mb 122) 1 = .ok (.getfield 76, 3) := by decide +kernel
theorem f_122_1 : ∃ b, tb_fr (tb_oc 122) 76 = some (9, 36, b) := ⟨_, rfl⟩
theorem dk_122_4 : decode (tb_mb 122) 4 = .ok (.iload_n 2, 1) := by decide +kernel
theorem dk_122_5 : decode (tb_mb 122) 5 = .ok (.iaload, 1) := by decide +kernel
theorem dk_122_6 : decode (tb_mb 122) 6 = .ok (.istore_n 3, 1) := by decide +kernel
theorem dk_122_7 : decode (tb_mb 122) 7 = .ok (.aload_n 0, 1) := by decide +kernel
theorem dk_122_8 : decode (tb_mb 122) 8 = .ok (.getfield 49, 3) := by decide +kernel
theorem f_122_8 : ∃ b, tb_fr (tb_oc 122) 49 = some (9, 15, b) := ⟨_, rfl⟩
theorem dk_122_11 : decode (tb_mb 122) 11 = .ok (.iload_n 3, 1) := by decide +kernel
theorem dk_122_12 : decode (tb_mb 122) 12 = .ok (.iaload, 1) := by decide +kernel
theorem dk_122_13 : decode (tb_mb 122) 13 = .ok (.istore 4, 2) := by decide +kernel
theorem dk_122_15 : decode (tb_mb 122) 15 = .ok (.iload 4, 2) := by decide +kernel
theorem dk_122_17 : decode (tb_mb 122) 17 = .ok (.bipush (30), 2) := by decide +kernel
theorem dk_122_19 : decode (tb_mb 122) 19 = .ok (.if_icmp .ne (44), 3) := by decide +kernel
theorem dk_122_63 : decode (tb_mb 122) 63 = .ok (.aload_n 0, 1) := by decide +kernel
theorem dk_122_64 : decode (tb_mb 122) 64 = .ok (.dup, 1) := by decide +kernel
theorem dk_122_65 : decode (tb_mb 122) 65 = .ok (.getfield 228, 3) := by decide +kernel
theorem f_122_65 : ∃ b, tb_fr (tb_oc 122) 228 = some (9, 33, b) := ⟨_, rfl⟩
theorem dk_122_68 : decode (tb_mb 122) 68 = .ok (.iconst (1), 1) := by decide +kernel
theorem dk_122_69 : decode (tb_mb 122) 69 = .ok (.iadd, 1) := by decide +kernel
theorem dk_122_70 : decode (tb_mb 122) 70 = .ok (.putfield 228, 3) := by decide +kernel
theorem f_122_70 : ∃ b, tb_fr (tb_oc 122) 228 = some (9, 33, b) ∧ xm_fin tb_cl (tb_ini 122) b 9 33 = true := ⟨_, rfl, rfl⟩
theorem dk_122_73 : decode (tb_mb 122) 73 = .ok (.aload_n 0, 1) := by decide +kernel
theorem dk_122_74 : decode (tb_mb 122) 74 = .ok (.getfield 82, 3) := by decide +kernel
theorem f_122_74 : ∃ b, tb_fr (tb_oc 122) 82 = some (9, 38, b) := ⟨_, rfl⟩
theorem dk_122_77 : decode (tb_mb 122) 77 = .ok (.iload_n 2, 1) := by decide +kernel
theorem dk_122_78 : decode (tb_mb 122) 78 = .ok (.aload_n 0, 1) := by decide +kernel
theorem dk_122_79 : decode (tb_mb 122) 79 = .ok (.iload_n 3, 1) := by decide +kernel
theorem dk_122_80 : decode (tb_mb 122) 80 = .ok (.aload_n 0, 1) := by decide +kernel
theorem dk_122_81 : decode (tb_mb 122) 81 = .ok (.getfield 79, 3) := by decide +kernel
theorem f_122_81 : ∃ b, tb_fr (tb_oc 122) 79 = some (9, 37, b) := ⟨_, rfl⟩
theorem dk_122_84 : decode (tb_mb 122) 84 = .ok (.iload_n 2, 1) := by decide +kernel
theorem dk_122_85 : decode (tb_mb 122) 85 = .ok (.iaload, 1) := by decide +kernel
theorem dk_122_86 : decode (tb_mb 122) 86 = .ok (.invokevirtual 231, 3) := by decide +kernel
theorem ck_122_86 : ∃ b, tb_cr (tb_oc 122) 231 = some (0, 123, b, 2) := ⟨_, rfl⟩
theorem dk_122_89 : decode (tb_mb 122) 89 = .ok (.iastore, 1) := by decide +kernel
theorem dk_122_90 : decode (tb_mb 122) 90 = .ok (.aload_n 0, 1) := by decide +kernel
theorem dk_122_91 : decode (tb_mb 122) 91 = .ok (.getfield 82, 3) := by decide +kernel
theorem f_122_91 : ∃ b, tb_fr (tb_oc 122) 82 = some (9, 38, b) := ⟨_, rfl⟩
theorem dk_122_94 : decode (tb_mb 122) 94 = .ok (.iload_n 2, 1) := by decide +kernel
theorem dk_122_95 : decode (tb_mb 122) 95 = .ok (.iaload, 1) := by decide +kernel
theorem dk_122_96 : decode (tb_mb 122) 96 = .ok (.ifCond .lt (22), 3) := by decide +kernel
theorem dk_122_118 : decode (tb_mb 122) 118 = .ok (.aload_n 0, 1) := by decide +kernel
theorem dk_122_119 : decode (tb_mb 122) 119 = .ok (.getfield 85, 3) := by decide +kernel
theorem f_122_119 : ∃ b, tb_fr (tb_oc 122) 85 = some (9, 39, b) := ⟨_, rfl⟩
theorem dk_122_122 : decode (tb_mb 122) 122 = .ok (.iload_n 2, 1) := by decide +kernel
theorem dk_122_123 : decode (tb_mb 122) 123 = .ok (.iconst (2), 1) := by decide +kernel
theorem dk_122_124 : decode (tb_mb 122) 124 = .ok (.iastore, 1) := by decide +kernel
theorem dk_122_125 : decode (tb_mb 122) 125 = .ok (.aload_n 0, 1) := by decide +kernel
theorem dk_122_126 : decode (tb_mb 122) 126 = .ok (.getfield 82, 3) := by decide +kernel
theorem f_122_126 : ∃ b, tb_fr (tb_oc 122) 82 = some (9, 38, b) := ⟨_, rfl⟩
theorem dk_122_129 : decode (tb_mb 122) 129 = .ok (.iload_n 2, 1) := by decide +kernel
theorem dk_122_130 : decode (tb_mb 122) 130 = .ok (.iload_n 3, 1) := by decide +kernel
theorem dk_122_131 : decode (tb_mb 122) 131 = .ok (.iastore, 1) := by decide +kernel
theorem dk_122_132 : decode (tb_mb 122) 132 = .ok (.iload 4, 2) := by decide +kernel
theorem dk_122_134 : decode (tb_mb 122) 134 = .ok (.tableswitch (290) 1 32 #[142, 155, 175, 190, 205, 290, 290, 250, 290, 290, 290, 290, 290, 290, 290, 290, 290, 290, 290, 290, 290, 290, 290, 216, 290, 290, 290, 216, 216, 290, 290, 232], 142) := by decide +kernel
theorem dk_122_276 : decode (tb_mb 122) 276 = .ok (.aload_n 0, 1) := by decide +kernel
theorem dk_122_277 : decode (tb_mb 122) 277 = .ok (.aload_n 0, 1) := by decide +kernel
theorem dk_122_278 : decode (tb_mb 122) 278 = .ok (.getfield 55, 3) := by decide +kernel
theorem f_122_278 : ∃ b, tb_fr (tb_oc 122) 55 = some (9, 17, b) := ⟨_, rfl⟩
theorem dk_122_281 : decode (tb_mb 122) 281 = .ok (.iload_n 3, 1) := by decide +kernel
theorem dk_122_282 : decode (tb_mb 122) 282 = .ok (.laload, 1) := by decide +kernel
theorem dk_122_283 : decode (tb_mb 122) 283 = .ok (.invokevirtual 235, 3) := by decide +kernel
theorem ck_122_283 : ∃ b, tb_cr (tb_oc 122) 235 = some (0, 125, b, 1) := ⟨_, rfl⟩
theorem dk_122_286 : decode (tb_mb 122) 286 = .ok (.goto (153), 3) := by decide +kernel
theorem dk_122_439 : decode (tb_mb 122) 439 = .ok (.return_, 1) := by decide +kernel
theorem dk_122_289 : decode (tb_mb 122) 289 = .ok (.aload_n 0, 1) := by decide +kernel
theorem dk_122_290 : decode (tb_mb 122) 290 = .ok (.aload_n 0, 1) := by decide +kernel
theorem dk_122_291 : decode (tb_mb 122) 291 = .ok (.getfield 13, 3) := by decide +kernel
theorem f_122_291 : ∃ b, tb_fr (tb_oc 122) 13 = some (9, 3, b) := ⟨_, rfl⟩
theorem dk_122_294 : decode (tb_mb 122) 294 = .ok (.aload_n 0, 1) := by decide +kernel
theorem dk_122_295 : decode (tb_mb 122) 295 = .ok (.getfield 55, 3) := by decide +kernel
theorem f_122_295 : ∃ b, tb_fr (tb_oc 122) 55 = some (9, 17, b) := ⟨_, rfl⟩
theorem dk_122_298 : decode (tb_mb 122) 298 = .ok (.iload_n 3, 1) := by decide +kernel
theorem dk_122_299 : decode (tb_mb 122) 299 = .ok (.laload, 1) := by decide +kernel
theorem dk_122_300 : decode (tb_mb 122) 300 = .ok (.l2i, 1) := by decide +kernel
theorem dk_122_301 : decode (tb_mb 122) 301 = .ok (.iaload, 1) := by decide +kernel
theorem dk_122_302 : decode (tb_mb 122) 302 = .ok (.i2l, 1) := by decide +kernel
theorem dk_122_303 : decode (tb_mb 122) 303 = .ok (.invokevirtual 235, 3) := by decide +kernel
theorem ck_122_303 : ∃ b, tb_cr (tb_oc 122) 235 = some (0, 125, b, 1) := ⟨_, rfl⟩
theorem dk_122_306 : decode (tb_mb 122) 306 = .ok (.goto (133), 3) := by decide +kernel
theorem dk_122_309 : decode (tb_mb 122) 309 = .ok (.aload_n 0, 1) := by decide +kernel
theorem dk_122_310 : decode (tb_mb 122) 310 = .ok (.aload_n 0, 1) := by decide +kernel
theorem dk_122_311 : decode (tb_mb 122) 311 = .ok (.getfield 13, 3) := by decide +kernel
theorem f_122_311 : ∃ b, tb_fr (tb_oc 122) 13 = some (9, 3, b) := ⟨_, rfl⟩
theorem dk_122_314 : decode (tb_mb 122) 314 = .ok (.bipush (32), 2) := by decide +kernel
theorem dk_122_316 : decode (tb_mb 122) 316 = .ok (.iaload, 1) := by decide +kernel
theorem dk_122_317 : decode (tb_mb 122) 317 = .ok (.i2l, 1) := by decide +kernel
theorem dk_122_318 : decode (tb_mb 122) 318 = .ok (.invokevirtual 235, 3) := by decide +kernel
theorem ck_122_318 : ∃ b, tb_cr (tb_oc 122) 235 = some (0, 125, b, 1) := ⟨_, rfl⟩
theorem dk_122_321 : decode (tb_mb 122) 321 = .ok (.goto (118), 3) := by decide +kernel
theorem dk_122_324 : decode (tb_mb 122) 324 = .ok (.aload_n 0, 1) := by decide +kernel
theorem dk_122_325 : decode (tb_mb 122) 325 = .ok (.aload_n 0, 1) := by decide +kernel
theorem dk_122_326 : decode (tb_mb 122) 326 = .ok (.getfield 13, 3) := by decide +kernel
theorem f_122_326 : ∃ b, tb_fr (tb_oc 122) 13 = some (9, 3, b) := ⟨_, rfl⟩
theorem dk_122_329 : decode (tb_mb 122) 329 = .ok (.bipush (33), 2) := by decide +kernel
theorem dk_122_331 : decode (tb_mb 122) 331 = .ok (.iaload, 1) := by decide +kernel
theorem dk_122_332 : decode (tb_mb 122) 332 = .ok (.i2l, 1) := by decide +kernel
theorem dk_122_333 : decode (tb_mb 122) 333 = .ok (.invokevirtual 235, 3) := by decide +kernel
theorem ck_122_333 : ∃ b, tb_cr (tb_oc 122) 235 = some (0, 125, b, 1) := ⟨_, rfl⟩
theorem dk_122_336 : decode (tb_mb 122) 336 = .ok (.goto (103), 3) := by decide +kernel
theorem dk_122_339 : decode (tb_mb 122) 339 = .ok (.aload_n 0, 1) := by decide +kernel
theorem dk_122_340 : decode (tb_mb 122) 340 = .ok (.aload_n 0, 1) := by decide +kernel
theorem dk_122_341 : decode (tb_mb 122) 341 = .ok (.getfield 198, 3) := by decide +kernel
theorem f_122_341 : ∃ b, tb_fr (tb_oc 122) 198 = some (9, 5, b) := ⟨_, rfl⟩
theorem dk_122_344 : decode (tb_mb 122) 344 = .ok (.invokevirtual 235, 3) := by decide +kernel
theorem ck_122_344 : ∃ b, tb_cr (tb_oc 122) 235 = some (0, 125, b, 1) := ⟨_, rfl⟩
theorem dk_122_347 : decode (tb_mb 122) 347 = .ok (.goto (92), 3) := by decide +kernel
theorem dk_122_384 : decode (tb_mb 122) 384 = .ok (.aload_n 0, 1) := by decide +kernel
theorem dk_122_385 : decode (tb_mb 122) 385 = .ok (.getfield 24, 3) := by decide +kernel
theorem f_122_385 : ∃ b, tb_fr (tb_oc 122) 24 = some (9, 7, b) := ⟨_, rfl⟩
theorem dk_122_388 : decode (tb_mb 122) 388 = .ok (.iload_n 1, 1) := by decide +kernel
theorem dk_122_389 : decode (tb_mb 122) 389 = .ok (.baload, 1) := by decide +kernel
theorem dk_122_390 : decode (tb_mb 122) 390 = .ok (.ifCond .eq (16), 3) := by decide +kernel
theorem dk_122_406 : decode (tb_mb 122) 406 = .ok (.aload_n 0, 1) := by decide +kernel
theorem dk_122_407 : decode (tb_mb 122) 407 = .ok (.iload_n 3, 1) := by decide +kernel
theorem dk_122_408 : decode (tb_mb 122) 408 = .ok (.iconst (2), 1) := by decide +kernel
theorem dk_122_409 : decode (tb_mb 122) 409 = .ok (.iadd, 1) := by decide +kernel
theorem dk_122_410 : decode (tb_mb 122) 410 = .ok (.aload_n 0, 1) := by decide +kernel
theorem dk_122_411 : decode (tb_mb 122) 411 = .ok (.getfield 79, 3) := by decide +kernel
theorem f_122_411 : ∃ b, tb_fr (tb_oc 122) 79 = some (9, 37, b) := ⟨_, rfl⟩
theorem dk_122_414 : decode (tb_mb 122) 414 = .ok (.iload_n 2, 1) := by decide +kernel
theorem dk_122_415 : decode (tb_mb 122) 415 = .ok (.iaload, 1) := by decide +kernel
theorem dk_122_416 : decode (tb_mb 122) 416 = .ok (.iconst (1), 1) := by decide +kernel
theorem dk_122_417 : decode (tb_mb 122) 417 = .ok (.isub, 1) := by decide +kernel
theorem dk_122_418 : decode (tb_mb 122) 418 = .ok (.invokevirtual 215, 3) := by decide +kernel
theorem ck_122_418 : ∃ b, tb_cr (tb_oc 122) 215 = some (0, 121, b, 2) := ⟨_, rfl⟩
theorem dk_122_421 : decode (tb_mb 122) 421 = .ok (.goto (18), 3) := by decide +kernel
theorem dk_122_393 : decode (tb_mb 122) 393 = .ok (.aload_n 0, 1) := by decide +kernel
theorem dk_122_394 : decode (tb_mb 122) 394 = .ok (.aload_n 0, 1) := by decide +kernel
theorem dk_122_395 : decode (tb_mb 122) 395 = .ok (.getfield 58, 3) := by decide +kernel
theorem f_122_395 : ∃ b, tb_fr (tb_oc 122) 58 = some (9, 18, b) := ⟨_, rfl⟩
theorem dk_122_398 : decode (tb_mb 122) 398 = .ok (.iload_n 3, 1) := by decide +kernel
theorem dk_122_399 : decode (tb_mb 122) 399 = .ok (.laload, 1) := by decide +kernel
theorem dk_122_400 : decode (tb_mb 122) 400 = .ok (.invokevirtual 235, 3) := by decide +kernel
theorem ck_122_400 : ∃ b, tb_cr (tb_oc 122) 235 = some (0, 125, b, 1) := ⟨_, rfl⟩
theorem dk_122_403 : decode (tb_mb 122) 403 = .ok (.goto (36), 3) := by decide +kernel
theorem dk_122_350 : decode (tb_mb 122) 350 = .ok (.aload_n 0, 1) := by decide +kernel
theorem dk_122_351 : decode (tb_mb 122) 351 = .ok (.iload_n 3, 1) := by decide +kernel
theorem dk_122_352 : decode (tb_mb 122) 352 = .ok (.iconst (1), 1) := by decide +kernel
theorem dk_122_353 : decode (tb_mb 122) 353 = .ok (.iadd, 1) := by decide +kernel
theorem dk_122_354 : decode (tb_mb 122) 354 = .ok (.aload_n 0, 1) := by decide +kernel
theorem dk_122_355 : decode (tb_mb 122) 355 = .ok (.getfield 79, 3) := by decide +kernel
theorem f_122_355 : ∃ b, tb_fr (tb_oc 122) 79 = some (9, 37, b) := ⟨_, rfl⟩
theorem dk_122_358 : decode (tb_mb 122) 358 = .ok (.iload_n 2, 1) := by decide +kernel
theorem dk_122_359 : decode (tb_mb 122) 359 = .ok (.iaload, 1) := by decide +kernel
theorem dk_122_360 : decode (tb_mb 122) 360 = .ok (.invokevirtual 215, 3) := by decide +kernel
theorem ck_122_360 : ∃ b, tb_cr (tb_oc 122) 215 = some (0, 121, b, 2) := ⟨_, rfl⟩
theorem dk_122_363 : decode (tb_mb 122) 363 = .ok (.goto (76), 3) := by decide +kernel
theorem dk_122_366 : decode (tb_mb 122) 366 = .ok (.aload_n 0, 1) := by decide +kernel
theorem dk_122_367 : decode (tb_mb 122) 367 = .ok (.iload_n 3, 1) := by decide +kernel
theorem dk_122_368 : decode (tb_mb 122) 368 = .ok (.iconst (1), 1) := by decide +kernel
theorem dk_122_369 : decode (tb_mb 122) 369 = .ok (.iadd, 1) := by decide +kernel
theorem dk_122_370 : decode (tb_mb 122) 370 = .ok (.aload_n 0, 1) := by decide +kernel
theorem dk_122_371 : decode (tb_mb 122) 371 = .ok (.getfield 79, 3) := by decide +kernel
theorem f_122_371 : ∃ b, tb_fr (tb_oc 122) 79 = some (9, 37, b) := ⟨_, rfl⟩
theorem dk_122_374 : decode (tb_mb 122) 374 = .ok (.iload_n 2, 1) := by decide +kernel
theorem dk_122_375 : decode (tb_mb 122) 375 = .ok (.iaload, 1) := by decide +kernel
theorem dk_122_376 : decode (tb_mb 122) 376 = .ok (.iconst (1), 1) := by decide +kernel
theorem dk_122_377 : decode (tb_mb 122) 377 = .ok (.isub, 1) := by decide +kernel
theorem dk_122_378 : decode (tb_mb 122) 378 = .ok (.invokevirtual 215, 3) := by decide +kernel
theorem ck_122_378 : ∃ b, tb_cr (tb_oc 122) 215 = some (0, 121, b, 2) := ⟨_, rfl⟩
theorem dk_122_381 : decode (tb_mb 122) 381 = .ok (.goto (58), 3) := by decide +kernel
theorem dk_122_424 : decode (tb_mb 122) 424 = .ok (.aload_n 0, 1) := by decide +kernel
theorem dk_122_425 : decode (tb_mb 122) 425 = .ok (.iload_n 3, 1) := by decide +kernel
theorem dk_122_426 : decode (tb_mb 122) 426 = .ok (.iconst (2), 1) := by decide +kernel
theorem dk_122_427 : decode (tb_mb 122) 427 = .ok (.iadd, 1) := by decide +kernel
theorem dk_122_428 : decode (tb_mb 122) 428 = .ok (.aload_n 0, 1) := by decide +kernel
theorem dk_122_429 : decode (tb_mb 122) 429 = .ok (.getfield 79, 3) := by decide +kernel
theorem f_122_429 : ∃ b, tb_fr (tb_oc 122) 79 = some (9, 37, b) := ⟨_, rfl⟩
theorem dk_122_432 : decode (tb_mb 122) 432 = .ok (.iload_n 2, 1) := by decide +kernel
theorem dk_122_433 : decode (tb_mb 122) 433 = .ok (.iaload, 1) := by decide +kernel
theorem dk_122_434 : decode (tb_mb 122) 434 = .ok (.iconst (1), 1) := by decide +kernel
theorem dk_122_435 : decode (tb_mb 122) 435 = .ok (.isub, 1) := by decide +kernel
theorem dk_122_436 : decode (tb_mb 122) 436 = .ok (.invokevirtual 215, 3) := by decide +kernel
theorem ck_122_436 : ∃ b, tb_cr (tb_oc 122) 215 = some (0, 121, b, 2) := ⟨_, rfl⟩
theorem dk_122_99 : decode (tb_mb 122) 99 = .ok (.aload_n 0, 1) := by decide +kernel
theorem dk_122_100 : decode (tb_mb 122) 100 = .ok (.getfield 85, 3) := by decide +kernel
theorem f_122_100 : ∃ b, tb_fr (tb_oc 122) 85 = some (9, 39, b) := ⟨_, rfl⟩
theorem dk_122_103 : decode (tb_mb 122) 103 = .ok (.iload_n 2, 1) := by decide +kernel
theorem dk_122_104 : decode (tb_mb 122) 104 = .ok (.iconst (1), 1) := by decide +kernel
theorem dk_122_105 : decode (tb_mb 122) 105 = .ok (.iastore, 1) := by decide +kernel
theorem dk_122_106 : decode (tb_mb 122) 106 = .ok (.aload_n 0, 1) := by decide +kernel
theorem dk_122_107 : decode (tb_mb 122) 107 = .ok (.iload_n 3, 1) := by decide +kernel
theorem dk_122_108 : decode (tb_mb 122) 108 = .ok (.aload_n 0, 1) := by decide +kernel
theorem dk_122_109 : decode (tb_mb 122) 109 = .ok (.getfield 82, 3) := by decide +kernel
theorem f_122_109 : ∃ b, tb_fr (tb_oc 122) 82 = some (9, 38, b) := ⟨_, rfl⟩
theorem dk_122_112 : decode (tb_mb 122) 112 = .ok (.iload_n 2, 1) := by decide +kernel
theorem dk_122_113 : decode (tb_mb 122) 113 = .ok (.iaload, 1) := by decide +kernel
theorem dk_122_114 : decode (tb_mb 122) 114 = .ok (.invokevirtual 215, 3) := by decide +kernel
theorem ck_122_114 : ∃ b, tb_cr (tb_oc 122) 215 = some (0, 121, b, 2) := ⟨_, rfl⟩
theorem dk_122_117 : decode (tb_mb 122) 117 = .ok (.return_, 1) := by decide +kernel
theorem dk_122_22 : decode (tb_mb 122) 22 = .ok (.aload_n 0, 1) := by decide +kernel
theorem dk_122_23 : decode (tb_mb 122) 23 = .ok (.getfield 52, 3) := by decide +kernel
theorem f_122_23 : ∃ b, tb_fr (tb_oc 122) 52 = some (9, 16, b) := ⟨_, rfl⟩
theorem dk_122_26 : decode (tb_mb 122) 26 = .ok (.iload_n 3, 1) := by decide +kernel
theorem dk_122_27 : decode (tb_mb 122) 27 = .ok (.iaload, 1) := by decide +kernel
theorem dk_122_28 : decode (tb_mb 122) 28 = .ok (.aload_n 0, 1) := by decide +kernel
theorem dk_122_29 : decode (tb_mb 122) 29 = .ok (.getfield 79, 3) := by decide +kernel
theorem f_122_29 : ∃ b, tb_fr (tb_oc 122) 79 = some (9, 37, b) := ⟨_, rfl⟩
theorem dk_122_32 : decode (tb_mb 122) 32 = .ok (.iload_n 2, 1) := by decide +kernel
theorem dk_122_33 : decode (tb_mb 122) 33 = .ok (.iaload, 1) := by decide +kernel
theorem dk_122_34 : decode (tb_mb 122) 34 = .ok (.iconst (1), 1) := by decide +kernel
theorem dk_122_35 : decode (tb_mb 122) 35 = .ok (.isub, 1) := by decide +kernel
theorem dk_122_36 : decode (tb_mb 122) 36 = .ok (.if_icmp .ne (27), 3) := by decide +kernel
theorem dk_122_39 : decode (tb_mb 122) 39 = .ok (.aload_n 0, 1) := by decide +kernel
theorem dk_122_40 : decode (tb_mb 122) 40 = .ok (.getfield 76, 3) := by decide +kernel
theorem f_122_40 : ∃ b, tb_fr (tb_oc 122) 76 = some (9, 36, b) := ⟨_, rfl⟩
theorem dk_122_43 : decode (tb_mb 122) 43 = .ok (.iload_n 2, 1) := by decide +kernel
theorem dk_122_44 : decode (tb_mb 122) 44 = .ok (.iload_n 3, 1) := by decide +kernel
theorem dk_122_45 : decode (tb_mb 122) 45 = .ok (.iconst (1), 1) := by decide +kernel
theorem dk_122_46 : decode (tb_mb 122) 46 = .ok (.iadd, 1) := by decide +kernel
theorem dk_122_47 : decode (tb_mb 122) 47 = .ok (.iastore, 1) := by decide +kernel
theorem dk_122_48 : decode (tb_mb 122) 48 = .ok (.aload_n 0, 1) := by decide +kernel
theorem dk_122_49 : decode (tb_mb 122) 49 = .ok (.getfield 79, 3) := by decide +kernel
theorem f_122_49 : ∃ b, tb_fr (tb_oc 122) 79 = some (9, 37, b) := ⟨_, rfl⟩
theorem dk_122_52 : decode (tb_mb 122) 52 = .ok (.iload_n 2, 1) := by decide +kernel
theorem dk_122_53 : decode (tb_mb 122) 53 = .ok (.aload_n 0, 1) := by decide +kernel
theorem dk_122_54 : decode (tb_mb 122) 54 = .ok (.getfield 79, 3) := by decide +kernel
theorem f_122_54 : ∃ b, tb_fr (tb_oc 122) 79 = some (9, 37, b) := ⟨_, rfl⟩
theorem dk_122_57 : decode (tb_mb 122) 57 = .ok (.iload_n 2, 1) := by decide +kernel
theorem dk_122_58 : decode (tb_mb 122) 58 = .ok (.iaload, 1) := by decide +kernel
theorem dk_122_59 : decode (tb_mb 122) 59 = .ok (.iconst (1), 1) := by decide +kernel
theorem dk_122_60 : decode (tb_mb 122) 60 = .ok (.isub, 1) := by decide +kernel
theorem dk_122_61 : decode (tb_mb 122) 61 = .ok (.iastore, 1) := by decide +kernel
theorem dk_122_62 : decode (tb_mb 122) 62 = .ok (.return_, 1) := by decide +kernel
def b_122_350 (x2 : Int32) (x3 : Int32) (I : dI) (J : dJ) : Option (dI × dJ) := if ¬ (x2 < 0 ∨ 130 ≤ Int32.toNatClampNeg x2) then ((m_121 (x3 + 1) (I 115 (Int32.toNatClampNeg x2)) I J).bind (fun r47 => some (r47.1, r47.2))) else none
theorem p_122_350 {Q : Nat → Option Nat} {D : Nat} (hD : 3 ≤ D) (x2 : Int32) (x3 : Int32) (I : dI) (J : dJ) (R : (dI × dJ)) (h : b_122_350 x2 x3 I J = some R) : Rn Q D 122 350 [(0, .ref 92), (2, .int x2), (3, .int x3)] [] I J (none) R.1 R.2 := by
  replace h : (if ¬ (x2 < 0 ∨ 130 ≤ Int32.toNatClampNeg x2) then ((m_121 (x3 + 1) (I 115 (Int32.toNatClampNeg x2)) I J).bind (fun r47 => some (r47.1, r47.2))) else none) = some R := h
  refine Rn.pu (st' := [.ref 92]) dk_122_350 L_122 rfl ?_
  refine Rn.pu (st' := [.int x3, .ref 92]) dk_122_351 L_122 rfl ?_
  refine Rn.ic dk_122_352 cic_1 ?_
  refine Rn.pu (st' := [.int (x3 + 1), .ref 92]) dk_122_353 L_122 rfl ?_
  refine Rn.pu (st' := [.ref 92, .int (x3 + 1), .ref 92]) dk_122_354 L_122 rfl ?_
  refine Rn.gR (r := 115) dk_122_355 f_122_355.choose_spec sk_92 rfl ?_
  refine Rn.pu (st' := [.int x2, .ref 115, .int (x3 + 1), .ref 92]) dk_122_358 L_122 rfl ?_
  obtain ⟨c46, h⟩ := xm_if h
  refine Rn.iald dk_122_359 sk_115 c46 ?_
  obtain ⟨r47, e48, h⟩ := bindS h
  refine Rn.cvV (p := 92) (As := [.int (x3 + 1), .int (I 115 (Int32.toNatClampNeg x2))]) (rest := []) dk_122_360 ck_122_360.choose_spec rfl sk_92 rfl (x_121 (Nat.le_trans (Nat.le_of_ble_eq_true rfl) hD) e48) ?_
  refine Rn.gt (t := 439) dk_122_363 rfl ?_
  cases h
  exact Rn.rv dk_122_439 R_122
def b_122_63 (x1 : Int32) (x2 : Int32) (x3 : Int32) (x4 : Int32) (I : dI) (J : dJ) : Option (dI × dJ) := lt_ (sI I 92 33 ((I 92 33) + 1)) (fun I4 => if ¬ (x2 < 0 ∨ 130 ≤ Int32.toNatClampNeg x2) then ((m_123 x3 (I4 115 (Int32.toNatClampNeg x2)) I4 J).bind (fun r6 => if ¬ (x2 < 0 ∨ 130 ≤ Int32.toNatClampNeg x2) then lt_ (sI I4 116 (Int32.toNatClampNeg x2) r6) (fun I9 => if ¬ (x2 < 0 ∨ 130 ≤ Int32.toNatClampNeg x2) then (if (I9 116 (Int32.toNatClampNeg x2)) < 0 then (if ¬ (x2 < 0 ∨ 130 ≤ Int32.toNatClampNeg x2) then lt_ (sI I9 117 (Int32.toNatClampNeg x2) 2) (fun I13 => if ¬ (x2 < 0 ∨ 130 ≤ Int32.toNatClampNeg x2) then lt_ (sI I13 116 (Int32.toNatClampNeg x2) x3) (fun I15 => if x4 = 1 then (if ¬ (x3 < 0 ∨ 960 ≤ Int32.toNatClampNeg x3) then ((m_125 (J 107 (Int32.toNatClampNeg x3)) I15 J).bind (fun r18 => some (r18.1, r18.2))) else none) else if x4 = 2 then (if ¬ (x3 < 0 ∨ 960 ≤ Int32.toNatClampNeg x3) then (if ¬ ((Int64.toInt32 (J 107 (Int32.toNatClampNeg x3))) < 0 ∨ 34 ≤ Int32.toNatClampNeg (Int64.toInt32 (J 107 (Int32.toNatClampNeg x3)))) then ((m_125 (Int32.toInt64 (I15 94 (Int32.toNatClampNeg (Int64.toInt32 (J 107 (Int32.toNatClampNeg x3)))))) I15 J).bind (fun r23 => some (r23.1, r23.2))) else none) else none) else if x4 = 3 then (if ¬ ((32 : Int32) < 0 ∨ 34 ≤ Int32.toNatClampNeg 32) then ((m_125 (Int32.toInt64 (I15 94 (Int32.toNatClampNeg 32))) I15 J).bind (fun r27 => some (r27.1, r27.2))) else none) else if x4 = 4 then (if ¬ ((33 : Int32) < 0 ∨ 34 ≤ Int32.toNatClampNeg 33) then ((m_125 (Int32.toInt64 (I15 94 (Int32.toNatClampNeg 33))) I15 J).bind (fun r31 => some (r31.1, r31.2))) else none) else if x4 = 5 then ((m_125 (J 92 5) I15 J).bind (fun r34 => some (r34.1, r34.2))) else if x4 = 8 then (if ¬ (x1 < 0 ∨ 8 ≤ Int32.toNatClampNeg x1) then (if (I15 97 (Int32.toNatClampNeg x1)) = 0 then (if ¬ (x2 < 0 ∨ 130 ≤ Int32.toNatClampNeg x2) then ((m_121 (x3 + 2) ((I15 115 (Int32.toNatClampNeg x2)) - 1) I15 J).bind (fun r40 => some (r40.1, r40.2))) else none) else (if ¬ (x3 < 0 ∨ 960 ≤ Int32.toNatClampNeg x3) then ((m_125 (J 108 (Int32.toNatClampNeg x3)) I15 J).bind (fun r43 => some (r43.1, r43.2))) else none)) else none) else if x4 = 24 then (b_122_350 x2 x3 I15 J) else if x4 = 28 then (b_122_350 x2 x3 I15 J) else if x4 = 29 then (b_122_350 x2 x3 I15 J) else if x4 = 32 then (if ¬ (x2 < 0 ∨ 130 ≤ Int32.toNatClampNeg x2) then ((m_121 (x3 + 1) ((I15 115 (Int32.toNatClampNeg x2)) - 1) I15 J).bind (fun r50 => some (r50.1, r50.2))) else none) else (if ¬ (x2 < 0 ∨ 130 ≤ Int32.toNatClampNeg x2) then ((m_121 (x3 + 2) ((I15 115 (Int32.toNatClampNeg x2)) - 1) I15 J).bind (fun r53 => some (r53.1, r53.2))) else none)) else none) else none) else (if ¬ (x2 < 0 ∨ 130 ≤ Int32.toNatClampNeg x2) then lt_ (sI I9 117 (Int32.toNatClampNeg x2) 1) (fun I78 => if ¬ (x2 < 0 ∨ 130 ≤ Int32.toNatClampNeg x2) then ((m_121 x3 (I78 116 (Int32.toNatClampNeg x2)) I78 J).bind (fun r80 => some (r80.1, r80.2))) else none) else none)) else none) else none)) else none)
theorem p_122_63 {Q : Nat → Option Nat} {D : Nat} (hD : 3 ≤ D) (x1 : Int32) (x2 : Int32) (x3 : Int32) (x4 : Int32) (I : dI) (J : dJ) (R : (dI × dJ)) (h : b_122_63 x1 x2 x3 x4 I J = some R) : Rn Q D 122 63 [(0, .ref 92), (1, .int x1), (2, .int x2), (3, .int x3), (4, .int x4)] [] I J (none) R.1 R.2 := by
  replace h : (lt_ (sI I 92 33 ((I 92 33) + 1)) (fun I4 => if ¬ (x2 < 0 ∨ 130 ≤ Int32.toNatClampNeg x2) then ((m_123 x3 (I4 115 (Int32.toNatClampNeg x2)) I4 J).bind (fun r6 => if ¬ (x2 < 0 ∨ 130 ≤ Int32.toNatClampNeg x2) then lt_ (sI I4 116 (Int32.toNatClampNeg x2) r6) (fun I9 => if ¬ (x2 < 0 ∨ 130 ≤ Int32.toNatClampNeg x2) then (if (I9 116 (Int32.toNatClampNeg x2)) < 0 then (if ¬ (x2 < 0 ∨ 130 ≤ Int32.toNatClampNeg x2) then lt_ (sI I9 117 (Int32.toNatClampNeg x2) 2) (fun I13 => if ¬ (x2 < 0 ∨ 130 ≤ Int32.toNatClampNeg x2) then lt_ (sI I13 116 (Int32.toNatClampNeg x2) x3) (fun I15 => if x4 = 1 then (if ¬ (x3 < 0 ∨ 960 ≤ Int32.toNatClampNeg x3) then ((m_125 (J 107 (Int32.toNatClampNeg x3)) I15 J).bind (fun r18 => some (r18.1, r18.2))) else none) else if x4 = 2 then (if ¬ (x3 < 0 ∨ 960 ≤ Int32.toNatClampNeg x3) then (if ¬ ((Int64.toInt32 (J 107 (Int32.toNatClampNeg x3))) < 0 ∨ 34 ≤ Int32.toNatClampNeg (Int64.toInt32 (J 107 (Int32.toNatClampNeg x3)))) then ((m_125 (Int32.toInt64 (I15 94 (Int32.toNatClampNeg (Int64.toInt32 (J 107 (Int32.toNatClampNeg x3)))))) I15 J).bind (fun r23 => some (r23.1, r23.2))) else none) else none) else if x4 = 3 then (if ¬ ((32 : Int32) < 0 ∨ 34 ≤ Int32.toNatClampNeg 32) then ((m_125 (Int32.toInt64 (I15 94 (Int32.toNatClampNeg 32))) I15 J).bind (fun r27 => some (r27.1, r27.2))) else none) else if x4 = 4 then (if ¬ ((33 : Int32) < 0 ∨ 34 ≤ Int32.toNatClampNeg 33) then ((m_125 (Int32.toInt64 (I15 94 (Int32.toNatClampNeg 33))) I15 J).bind (fun r31 => some (r31.1, r31.2))) else none) else if x4 = 5 then ((m_125 (J 92 5) I15 J).bind (fun r34 => some (r34.1, r34.2))) else if x4 = 8 then (if ¬ (x1 < 0 ∨ 8 ≤ Int32.toNatClampNeg x1) then (if (I15 97 (Int32.toNatClampNeg x1)) = 0 then (if ¬ (x2 < 0 ∨ 130 ≤ Int32.toNatClampNeg x2) then ((m_121 (x3 + 2) ((I15 115 (Int32.toNatClampNeg x2)) - 1) I15 J).bind (fun r40 => some (r40.1, r40.2))) else none) else (if ¬ (x3 < 0 ∨ 960 ≤ Int32.toNatClampNeg x3) then ((m_125 (J 108 (Int32.toNatClampNeg x3)) I15 J).bind (fun r43 => some (r43.1, r43.2))) else none)) else none) else if x4 = 24 then (b_122_350 x2 x3 I15 J) else if x4 = 28 then (b_122_350 x2 x3 I15 J) else if x4 = 29 then (b_122_350 x2 x3 I15 J) else if x4 = 32 then (if ¬ (x2 < 0 ∨ 130 ≤ Int32.toNatClampNeg x2) then ((m_121 (x3 + 1) ((I15 115 (Int32.toNatClampNeg x2)) - 1) I15 J).bind (fun r50 => some (r50.1, r50.2))) else none) else (if ¬ (x2 < 0 ∨ 130 ≤ Int32.toNatClampNeg x2) then ((m_121 (x3 + 2) ((I15 115 (Int32.toNatClampNeg x2)) - 1) I15 J).bind (fun r53 => some (r53.1, r53.2))) else none)) else none) else none) else (if ¬ (x2 < 0 ∨ 130 ≤ Int32.toNatClampNeg x2) then lt_ (sI I9 117 (Int32.toNatClampNeg x2) 1) (fun I78 => if ¬ (x2 < 0 ∨ 130 ≤ Int32.toNatClampNeg x2) then ((m_121 x3 (I78 116 (Int32.toNatClampNeg x2)) I78 J).bind (fun r80 => some (r80.1, r80.2))) else none) else none)) else none) else none)) else none)) = some R := h
  refine Rn.pu (st' := [.ref 92]) dk_122_63 L_122 rfl ?_
  refine Rn.pu (st' := [.ref 92, .ref 92]) dk_122_64 L_122 rfl ?_
  refine Rn.gI dk_122_65 f_122_65.choose_spec sk_92 rfl ?_
  refine Rn.ic dk_122_68 cic_1 ?_
  refine Rn.pu (st' := [.int ((I 92 33) + 1), .ref 92]) dk_122_69 L_122 rfl ?_
  obtain ⟨I4, eI4, h⟩ := letS h
  refine Rn.pI dk_122_70 f_122_70.choose_spec.1 sk_92 rfl f_122_70.choose_spec.2 rfl rfl ?_
  rw [← eI4]
  refine Rn.pu (st' := [.ref 92]) dk_122_73 L_122 rfl ?_
  refine Rn.gR (r := 116) dk_122_74 f_122_74.choose_spec sk_92 rfl ?_
  refine Rn.pu (st' := [.int x2, .ref 116]) dk_122_77 L_122 rfl ?_
  refine Rn.pu (st' := [.ref 92, .int x2, .ref 116]) dk_122_78 L_122 rfl ?_
  refine Rn.pu (st' := [.int x3, .ref 92, .int x2, .ref 116]) dk_122_79 L_122 rfl ?_
  refine Rn.pu (st' := [.ref 92, .int x3, .ref 92, .int x2, .ref 116]) dk_122_80 L_122 rfl ?_
  refine Rn.gR (r := 115) dk_122_81 f_122_81.choose_spec sk_92 rfl ?_
  refine Rn.pu (st' := [.int x2, .ref 115, .int x3, .ref 92, .int x2, .ref 116]) dk_122_84 L_122 rfl ?_
  obtain ⟨c5, h⟩ := xm_if h
  refine Rn.iald dk_122_85 sk_115 c5 ?_
  obtain ⟨r6, e7, h⟩ := bindS h
  refine Rn.cvI (p := 92) (As := [.int x3, .int (I4 115 (Int32.toNatClampNeg x2))]) (rest := [.int x2, .ref 116]) dk_122_86 ck_122_86.choose_spec rfl sk_92 rfl (x_123 (Nat.le_trans (Nat.le_of_ble_eq_true rfl) hD) e7) ?_
  obtain ⟨c8, h⟩ := xm_if h
  obtain ⟨I9, eI9, h⟩ := letS h
  refine Rn.iast dk_122_89 sk_116 c8 ?_
  rw [← eI9]
  refine Rn.pu (st' := [.ref 92]) dk_122_90 L_122 rfl ?_
  refine Rn.gR (r := 116) dk_122_91 f_122_91.choose_spec sk_92 rfl ?_
  refine Rn.pu (st' := [.int x2, .ref 116]) dk_122_94 L_122 rfl ?_
  obtain ⟨c10, h⟩ := xm_if h
  refine Rn.iald dk_122_95 sk_116 c10 ?_
  by_cases c11 : (I9 116 (Int32.toNatClampNeg x2)) < 0
  · rw [if_pos c11] at h
    refine Rn.i1t (t := 118) dk_122_96 rfl (decide_eq_true c11) ?_
    refine Rn.pu (st' := [.ref 92]) dk_122_118 L_122 rfl ?_
    refine Rn.gR (r := 117) dk_122_119 f_122_119.choose_spec sk_92 rfl ?_
    refine Rn.pu (st' := [.int x2, .ref 117]) dk_122_122 L_122 rfl ?_
    refine Rn.ic dk_122_123 cic_2 ?_
    obtain ⟨c12, h⟩ := xm_if h
    obtain ⟨I13, eI13, h⟩ := letS h
    refine Rn.iast dk_122_124 sk_117 c12 ?_
    rw [← eI13]
    refine Rn.pu (st' := [.ref 92]) dk_122_125 L_122 rfl ?_
    refine Rn.gR (r := 116) dk_122_126 f_122_126.choose_spec sk_92 rfl ?_
    refine Rn.pu (st' := [.int x2, .ref 116]) dk_122_129 L_122 rfl ?_
    refine Rn.pu (st' := [.int x3, .int x2, .ref 116]) dk_122_130 L_122 rfl ?_
    obtain ⟨c14, h⟩ := xm_if h
    obtain ⟨I15, eI15, h⟩ := letS h
    refine Rn.iast dk_122_131 sk_116 c14 ?_
    rw [← eI15]
    refine Rn.pu (st' := [.int x4]) dk_122_132 L_122 rfl ?_
    by_cases c16 : x4 = 1
    · rw [if_pos c16] at h
      refine Rn.sw (t := 276) (st' := []) dk_122_134 (fun _ _ => rfl) (by rw [c16]; rfl) ?_
      refine Rn.pu (st' := [.ref 92]) dk_122_276 L_122 rfl ?_
      refine Rn.pu (st' := [.ref 92, .ref 92]) dk_122_277 L_122 rfl ?_
      refine Rn.gR (r := 107) dk_122_278 f_122_278.choose_spec sk_92 rfl ?_
      refine Rn.pu (st' := [.int x3, .ref 107, .ref 92]) dk_122_281 L_122 rfl ?_
      obtain ⟨c17, h⟩ := xm_if h
      refine Rn.lald dk_122_282 sk_107 c17 ?_
      obtain ⟨r18, e19, h⟩ := bindS h
      refine Rn.cvV (p := 92) (As := [.long (J 107 (Int32.toNatClampNeg x3))]) (rest := []) dk_122_283 ck_122_283.choose_spec rfl sk_92 rfl (x_125 (Nat.le_trans (Nat.le_of_ble_eq_true rfl) hD) e19) ?_
      refine Rn.gt (t := 439) dk_122_286 rfl ?_
      cases h
      exact Rn.rv dk_122_439 R_122
    · rw [if_neg c16] at h
      by_cases c20 : x4 = 2
      · rw [if_pos c20] at h
        refine Rn.sw (t := 289) (st' := []) dk_122_134 (fun _ _ => rfl) (by rw [c20]; rfl) ?_
        refine Rn.pu (st' := [.ref 92]) dk_122_289 L_122 rfl ?_
        refine Rn.pu (st' := [.ref 92, .ref 92]) dk_122_290 L_122 rfl ?_
        refine Rn.gR (r := 94) dk_122_291 f_122_291.choose_spec sk_92 rfl ?_
        refine Rn.pu (st' := [.ref 92, .ref 94, .ref 92]) dk_122_294 L_122 rfl ?_
        refine Rn.gR (r := 107) dk_122_295 f_122_295.choose_spec sk_92 rfl ?_
        refine Rn.pu (st' := [.int x3, .ref 107, .ref 94, .ref 92]) dk_122_298 L_122 rfl ?_
        obtain ⟨c21, h⟩ := xm_if h
        refine Rn.lald dk_122_299 sk_107 c21 ?_
        refine Rn.pu (st' := [.int (Int64.toInt32 (J 107 (Int32.toNatClampNeg x3))), .ref 94, .ref 92]) dk_122_300 L_122 rfl ?_
        obtain ⟨c22, h⟩ := xm_if h
        refine Rn.iald dk_122_301 sk_94 c22 ?_
        refine Rn.pu (st' := [.long (Int32.toInt64 (I15 94 (Int32.toNatClampNeg (Int64.toInt32 (J 107 (Int32.toNatClampNeg x3)))))), .ref 92]) dk_122_302 L_122 rfl ?_
        obtain ⟨r23, e24, h⟩ := bindS h
        refine Rn.cvV (p := 92) (As := [.long (Int32.toInt64 (I15 94 (Int32.toNatClampNeg (Int64.toInt32 (J 107 (Int32.toNatClampNeg x3))))))]) (rest := []) dk_122_303 ck_122_303.choose_spec rfl sk_92 rfl (x_125 (Nat.le_trans (Nat.le_of_ble_eq_true rfl) hD) e24) ?_
        refine Rn.gt (t := 439) dk_122_306 rfl ?_
        cases h
        exact Rn.rv dk_122_439 R_122
      · rw [if_neg c20] at h
        by_cases c25 : x4 = 3
        · rw [if_pos c25] at h
          refine Rn.sw (t := 309) (st' := []) dk_122_134 (fun _ _ => rfl) (by rw [c25]; rfl) ?_
          refine Rn.pu (st' := [.ref 92]) dk_122_309 L_122 rfl ?_
          refine Rn.pu (st' := [.ref 92, .ref 92]) dk_122_310 L_122 rfl ?_
          refine Rn.gR (r := 94) dk_122_311 f_122_311.choose_spec sk_92 rfl ?_
          refine Rn.bp dk_122_314 cbp_32 ?_
          obtain ⟨c26, h⟩ := xm_if h
          refine Rn.iald dk_122_316 sk_94 c26 ?_
          refine Rn.pu (st' := [.long (Int32.toInt64 (I15 94 (Int32.toNatClampNeg 32))), .ref 92]) dk_122_317 L_122 rfl ?_
          obtain ⟨r27, e28, h⟩ := bindS h
          refine Rn.cvV (p := 92) (As := [.long (Int32.toInt64 (I15 94 (Int32.toNatClampNeg 32)))]) (rest := []) dk_122_318 ck_122_318.choose_spec rfl sk_92 rfl (x_125 (Nat.le_trans (Nat.le_of_ble_eq_true rfl) hD) e28) ?_
          refine Rn.gt (t := 439) dk_122_321 rfl ?_
          cases h
          exact Rn.rv dk_122_439 R_122
        · rw [if_neg c25] at h
          by_cases c29 : x4 = 4
          · rw [if_pos c29] at h
            refine Rn.sw (t := 324) (st' := []) dk_122_134 (fun _ _ => rfl) (by rw [c29]; rfl) ?_
            refine Rn.pu (st' := [.ref 92]) dk_122_324 L_122 rfl ?_
            refine Rn.pu (st' := [.ref 92, .ref 92]) dk_122_325 L_122 rfl ?_
            refine Rn.gR (r := 94) dk_122_326 f_122_326.choose_spec sk_92 rfl ?_
            refine Rn.bp dk_122_329 cbp_33 ?_
            obtain ⟨c30, h⟩ := xm_if h
            refine Rn.iald dk_122_331 sk_94 c30 ?_
            refine Rn.pu (st' := [.long (Int32.toInt64 (I15 94 (Int32.toNatClampNeg 33))), .ref 92]) dk_122_332 L_122 rfl ?_
            obtain ⟨r31, e32, h⟩ := bindS h
            refine Rn.cvV (p := 92) (As := [.long (Int32.toInt64 (I15 94 (Int32.toNatClampNeg 33)))]) (rest := []) dk_122_333 ck_122_333.choose_spec rfl sk_92 rfl (x_125 (Nat.le_trans (Nat.le_of_ble_eq_true rfl) hD) e32) ?_
            refine Rn.gt (t := 439) dk_122_336 rfl ?_
            cases h
            exact Rn.rv dk_122_439 R_122
          · rw [if_neg c29] at h
            by_cases c33 : x4 = 5
            · rw [if_pos c33] at h
              refine Rn.sw (t := 339) (st' := []) dk_122_134 (fun _ _ => rfl) (by rw [c33]; rfl) ?_
              refine Rn.pu (st' := [.ref 92]) dk_122_339 L_122 rfl ?_
              refine Rn.pu (st' := [.ref 92, .ref 92]) dk_122_340 L_122 rfl ?_
              refine Rn.gJ dk_122_341 f_122_341.choose_spec sk_92 rfl ?_
              obtain ⟨r34, e35, h⟩ := bindS h
              refine Rn.cvV (p := 92) (As := [.long (J 92 5)]) (rest := []) dk_122_344 ck_122_344.choose_spec rfl sk_92 rfl (x_125 (Nat.le_trans (Nat.le_of_ble_eq_true rfl) hD) e35) ?_
              refine Rn.gt (t := 439) dk_122_347 rfl ?_
              cases h
              exact Rn.rv dk_122_439 R_122
            · rw [if_neg c33] at h
              by_cases c36 : x4 = 8
              · rw [if_pos c36] at h
                refine Rn.sw (t := 384) (st' := []) dk_122_134 (fun _ _ => rfl) (by rw [c36]; rfl) ?_
                refine Rn.pu (st' := [.ref 92]) dk_122_384 L_122 rfl ?_
                refine Rn.gR (r := 97) dk_122_385 f_122_385.choose_spec sk_92 rfl ?_
                refine Rn.pu (st' := [.int x1, .ref 97]) dk_122_388 L_122 rfl ?_
                obtain ⟨c37, h⟩ := xm_if h
                refine Rn.bald dk_122_389 sk_97 c37 ?_
                by_cases c38 : (I15 97 (Int32.toNatClampNeg x1)) = 0
                · rw [if_pos c38] at h
                  refine Rn.i1t (t := 406) dk_122_390 rfl (decide_eq_true c38) ?_
                  refine Rn.pu (st' := [.ref 92]) dk_122_406 L_122 rfl ?_
                  refine Rn.pu (st' := [.int x3, .ref 92]) dk_122_407 L_122 rfl ?_
                  refine Rn.ic dk_122_408 cic_2 ?_
                  refine Rn.pu (st' := [.int (x3 + 2), .ref 92]) dk_122_409 L_122 rfl ?_
                  refine Rn.pu (st' := [.ref 92, .int (x3 + 2), .ref 92]) dk_122_410 L_122 rfl ?_
                  refine Rn.gR (r := 115) dk_122_411 f_122_411.choose_spec sk_92 rfl ?_
                  refine Rn.pu (st' := [.int x2, .ref 115, .int (x3 + 2), .ref 92]) dk_122_414 L_122 rfl ?_
                  obtain ⟨c39, h⟩ := xm_if h
                  refine Rn.iald dk_122_415 sk_115 c39 ?_
                  refine Rn.ic dk_122_416 cic_1 ?_
                  refine Rn.pu (st' := [.int ((I15 115 (Int32.toNatClampNeg x2)) - 1), .int (x3 + 2), .ref 92]) dk_122_417 L_122 rfl ?_
                  obtain ⟨r40, e41, h⟩ := bindS h
                  refine Rn.cvV (p := 92) (As := [.int (x3 + 2), .int ((I15 115 (Int32.toNatClampNeg x2)) - 1)]) (rest := []) dk_122_418 ck_122_418.choose_spec rfl sk_92 rfl (x_121 (Nat.le_trans (Nat.le_of_ble_eq_true rfl) hD) e41) ?_
                  refine Rn.gt (t := 439) dk_122_421 rfl ?_
                  cases h
                  exact Rn.rv dk_122_439 R_122
                · rw [if_neg c38] at h
                  refine Rn.i1f (t := 406) dk_122_390 rfl (decide_eq_false c38) ?_
                  refine Rn.pu (st' := [.ref 92]) dk_122_393 L_122 rfl ?_
                  refine Rn.pu (st' := [.ref 92, .ref 92]) dk_122_394 L_122 rfl ?_
                  refine Rn.gR (r := 108) dk_122_395 f_122_395.choose_spec sk_92 rfl ?_
                  refine Rn.pu (st' := [.int x3, .ref 108, .ref 92]) dk_122_398 L_122 rfl ?_
                  obtain ⟨c42, h⟩ := xm_if h
                  refine Rn.lald dk_122_399 sk_108 c42 ?_
                  obtain ⟨r43, e44, h⟩ := bindS h
                  refine Rn.cvV (p := 92) (As := [.long (J 108 (Int32.toNatClampNeg x3))]) (rest := []) dk_122_400 ck_122_400.choose_spec rfl sk_92 rfl (x_125 (Nat.le_trans (Nat.le_of_ble_eq_true rfl) hD) e44) ?_
                  refine Rn.gt (t := 439) dk_122_403 rfl ?_
                  cases h
                  exact Rn.rv dk_122_439 R_122
              · rw [if_neg c36] at h
                by_cases c45 : x4 = 24
                · rw [if_pos c45] at h
                  refine Rn.sw (t := 350) (st' := []) dk_122_134 (fun _ _ => rfl) (by rw [c45]; rfl) ?_
                  exact Rn.wk [0, 2, 3] rfl (p_122_350 hD _ _ _ _ _ h)
                · rw [if_neg c45] at h
                  by_cases c46 : x4 = 28
                  · rw [if_pos c46] at h
                    refine Rn.sw (t := 350) (st' := []) dk_122_134 (fun _ _ => rfl) (by rw [c46]; rfl) ?_
                    exact Rn.wk [0, 2, 3] rfl (p_122_350 hD _ _ _ _ _ h)
                  · rw [if_neg c46] at h
                    by_cases c47 : x4 = 29
                    · rw [if_pos c47] at h
                      refine Rn.sw (t := 350) (st' := []) dk_122_134 (fun _ _ => rfl) (by rw [c47]; rfl) ?_
                      exact Rn.wk [0, 2, 3] rfl (p_122_350 hD _ _ _ _ _ h)
                    · rw [if_neg c47] at h
                      by_cases c48 : x4 = 32
                      · rw [if_pos c48] at h
                        refine Rn.sw (t := 366) (st' := []) dk_122_134 (fun _ _ => rfl) (by rw [c48]; rfl) ?_
                        refine Rn.pu (st' := [.ref 92]) dk_122_366 L_122 rfl ?_
                        refine Rn.pu (st' := [.int x3, .ref 92]) dk_122_367 L_122 rfl ?_
                        refine Rn.ic dk_122_368 cic_1 ?_
                        refine Rn.pu (st' := [.int (x3 + 1), .ref 92]) dk_122_369 L_122 rfl ?_
                        refine Rn.pu (st' := [.ref 92, .int (x3 + 1), .ref 92]) dk_122_370 L_122 rfl ?_
                        refine Rn.gR (r := 115) dk_122_371 f_122_371.choose_spec sk_92 rfl ?_
                        refine Rn.pu (st' := [.int x2, .ref 115, .int (x3 + 1), .ref 92]) dk_122_374 L_122 rfl ?_
                        obtain ⟨c49, h⟩ := xm_if h
                        refine Rn.iald dk_122_375 sk_115 c49 ?_
                        refine Rn.ic dk_122_376 cic_1 ?_
                        refine Rn.pu (st' := [.int ((I15 115 (Int32.toNatClampNeg x2)) - 1), .int (x3 + 1), .ref 92]) dk_122_377 L_122 rfl ?_
                        obtain ⟨r50, e51, h⟩ := bindS h
                        refine Rn.cvV (p := 92) (As := [.int (x3 + 1), .int ((I15 115 (Int32.toNatClampNeg x2)) - 1)]) (rest := []) dk_122_378 ck_122_378.choose_spec rfl sk_92 rfl (x_121 (Nat.le_trans (Nat.le_of_ble_eq_true rfl) hD) e51) ?_
                        refine Rn.gt (t := 439) dk_122_381 rfl ?_
                        cases h
                        exact Rn.rv dk_122_439 R_122
                      · rw [if_neg c48] at h
                        have q0 : xm_br (.tableswitch (290) 1 32 #[142, 155, 175, 190, 205, 290, 290, 250, 290, 290, 290, 290, 290, 290, 290, 290, 290, 290, 290, 290, 290, 290, 290, 216, 290, 290, 290, 216, 216, 290, 290, 232]) 142 134 (.int x4 :: []) = some (true, 424, []) := by
                          by_cases c55 : x4 = 6
                          · rw [c55]; rfl
                          ·
                            by_cases c56 : x4 = 7
                            · rw [c56]; rfl
                            ·
                              by_cases c57 : x4 = 9
                              · rw [c57]; rfl
                              ·
                                by_cases c58 : x4 = 10
                                · rw [c58]; rfl
                                ·
                                  by_cases c59 : x4 = 11
                                  · rw [c59]; rfl
                                  ·
                                    by_cases c60 : x4 = 12
                                    · rw [c60]; rfl
                                    ·
                                      by_cases c61 : x4 = 13
                                      · rw [c61]; rfl
                                      ·
                                        by_cases c62 : x4 = 14
                                        · rw [c62]; rfl
                                        ·
                                          by_cases c63 : x4 = 15
                                          · rw [c63]; rfl
                                          ·
                                            by_cases c64 : x4 = 16
                                            · rw [c64]; rfl
                                            ·
                                              by_cases c65 : x4 = 17
                                              · rw [c65]; rfl
                                              ·
                                                by_cases c66 : x4 = 18
                                                · rw [c66]; rfl
                                                ·
                                                  by_cases c67 : x4 = 19
                                                  · rw [c67]; rfl
                                                  ·
                                                    by_cases c68 : x4 = 20
                                                    · rw [c68]; rfl
                                                    ·
                                                      by_cases c69 : x4 = 21
                                                      · rw [c69]; rfl
                                                      ·
                                                        by_cases c70 : x4 = 22
                                                        · rw [c70]; rfl
                                                        ·
                                                          by_cases c71 : x4 = 23
                                                          · rw [c71]; rfl
                                                          ·
                                                            by_cases c72 : x4 = 25
                                                            · rw [c72]; rfl
                                                            ·
                                                              by_cases c73 : x4 = 26
                                                              · rw [c73]; rfl
                                                              ·
                                                                by_cases c74 : x4 = 27
                                                                · rw [c74]; rfl
                                                                ·
                                                                  by_cases c75 : x4 = 30
                                                                  · rw [c75]; rfl
                                                                  ·
                                                                    by_cases c76 : x4 = 31
                                                                    · rw [c76]; rfl
                                                                    ·
                                                                      have q1 := i_ne c16 (z := 1) rfl
                                                                      have q2 := i_ne c20 (z := 2) rfl
                                                                      have q3 := i_ne c25 (z := 3) rfl
                                                                      have q4 := i_ne c29 (z := 4) rfl
                                                                      have q5 := i_ne c33 (z := 5) rfl
                                                                      have q6 := i_ne c36 (z := 8) rfl
                                                                      have q7 := i_ne c45 (z := 24) rfl
                                                                      have q8 := i_ne c46 (z := 28) rfl
                                                                      have q9 := i_ne c47 (z := 29) rfl
                                                                      have q10 := i_ne c48 (z := 32) rfl
                                                                      have q11 := i_ne c55 (z := 6) rfl
                                                                      have q12 := i_ne c56 (z := 7) rfl
                                                                      have q13 := i_ne c57 (z := 9) rfl
                                                                      have q14 := i_ne c58 (z := 10) rfl
                                                                      have q15 := i_ne c59 (z := 11) rfl
                                                                      have q16 := i_ne c60 (z := 12) rfl
                                                                      have q17 := i_ne c61 (z := 13) rfl
                                                                      have q18 := i_ne c62 (z := 14) rfl
                                                                      have q19 := i_ne c63 (z := 15) rfl
                                                                      have q20 := i_ne c64 (z := 16) rfl
                                                                      have q21 := i_ne c65 (z := 17) rfl
                                                                      have q22 := i_ne c66 (z := 18) rfl
                                                                      have q23 := i_ne c67 (z := 19) rfl
                                                                      have q24 := i_ne c68 (z := 20) rfl
                                                                      have q25 := i_ne c69 (z := 21) rfl
                                                                      have q26 := i_ne c70 (z := 22) rfl
                                                                      have q27 := i_ne c71 (z := 23) rfl
                                                                      have q28 := i_ne c72 (z := 25) rfl
                                                                      have q29 := i_ne c73 (z := 26) rfl
                                                                      have q30 := i_ne c74 (z := 27) rfl
                                                                      have q31 := i_ne c75 (z := 30) rfl
                                                                      have q32 := i_ne c76 (z := 31) rfl
                                                                      exact ts_def (by omega) rfl
                        refine Rn.sw dk_122_134 (fun _ _ => rfl) q0 ?_
                        refine Rn.pu (st' := [.ref 92]) dk_122_424 L_122 rfl ?_
                        refine Rn.pu (st' := [.int x3, .ref 92]) dk_122_425 L_122 rfl ?_
                        refine Rn.ic dk_122_426 cic_2 ?_
                        refine Rn.pu (st' := [.int (x3 + 2), .ref 92]) dk_122_427 L_122 rfl ?_
                        refine Rn.pu (st' := [.ref 92, .int (x3 + 2), .ref 92]) dk_122_428 L_122 rfl ?_
                        refine Rn.gR (r := 115) dk_122_429 f_122_429.choose_spec sk_92 rfl ?_
                        refine Rn.pu (st' := [.int x2, .ref 115, .int (x3 + 2), .ref 92]) dk_122_432 L_122 rfl ?_
                        obtain ⟨c52, h⟩ := xm_if h
                        refine Rn.iald dk_122_433 sk_115 c52 ?_
                        refine Rn.ic dk_122_434 cic_1 ?_
                        refine Rn.pu (st' := [.int ((I15 115 (Int32.toNatClampNeg x2)) - 1), .int (x3 + 2), .ref 92]) dk_122_435 L_122 rfl ?_
                        obtain ⟨r53, e54, h⟩ := bindS h
                        refine Rn.cvV (p := 92) (As := [.int (x3 + 2), .int ((I15 115 (Int32.toNatClampNeg x2)) - 1)]) (rest := []) dk_122_436 ck_122_436.choose_spec rfl sk_92 rfl (x_121 (Nat.le_trans (Nat.le_of_ble_eq_true rfl) hD) e54) ?_
                        cases h
                        exact Rn.rv dk_122_439 R_122
  · rw [if_neg c11] at h
    refine Rn.i1f (t := 118) dk_122_96 rfl (decide_eq_false c11) ?_
    refine Rn.pu (st' := [.ref 92]) dk_122_99 L_122 rfl ?_
    refine Rn.gR (r := 117) dk_122_100 f_122_100.choose_spec sk_92 rfl ?_
    refine Rn.pu (st' := [.int x2, .ref 117]) dk_122_103 L_122 rfl ?_
    refine Rn.ic dk_122_104 cic_1 ?_
    obtain ⟨c77, h⟩ := xm_if h
    obtain ⟨I78, eI78, h⟩ := letS h
    refine Rn.iast dk_122_105 sk_117 c77 ?_
    rw [← eI78]
    refine Rn.pu (st' := [.ref 92]) dk_122_106 L_122 rfl ?_
    refine Rn.pu (st' := [.int x3, .ref 92]) dk_122_107 L_122 rfl ?_
    refine Rn.pu (st' := [.ref 92, .int x3, .ref 92]) dk_122_108 L_122 rfl ?_
    refine Rn.gR (r := 116) dk_122_109 f_122_109.choose_spec sk_92 rfl ?_
    refine Rn.pu (st' := [.int x2, .ref 116, .int x3, .ref 92]) dk_122_112 L_122 rfl ?_
    obtain ⟨c79, h⟩ := xm_if h
    refine Rn.iald dk_122_113 sk_116 c79 ?_
    obtain ⟨r80, e81, h⟩ := bindS h
    refine Rn.cvV (p := 92) (As := [.int x3, .int (I78 116 (Int32.toNatClampNeg x2))]) (rest := []) dk_122_114 ck_122_114.choose_spec rfl sk_92 rfl (x_121 (Nat.le_trans (Nat.le_of_ble_eq_true rfl) hD) e81) ?_
    cases h
    exact Rn.rv dk_122_117 R_122
def b_122_0 (x1 : Int32) (x2 : Int32) (I : dI) (J : dJ) : Option (dI × dJ) := if ¬ (x2 < 0 ∨ 130 ≤ Int32.toNatClampNeg x2) then (if ¬ ((I 114 (Int32.toNatClampNeg x2)) < 0 ∨ 960 ≤ Int32.toNatClampNeg (I 114 (Int32.toNatClampNeg x2))) then (if ¬ (I 105 (Int32.toNatClampNeg (I 114 (Int32.toNatClampNeg x2)))) = 30 then (b_122_63 x1 x2 (I 114 (Int32.toNatClampNeg x2)) (I 105 (Int32.toNatClampNeg (I 114 (Int32.toNatClampNeg x2)))) I J) else (if ¬ ((I 114 (Int32.toNatClampNeg x2)) < 0 ∨ 960 ≤ Int32.toNatClampNeg (I 114 (Int32.toNatClampNeg x2))) then (if ¬ (x2 < 0 ∨ 130 ≤ Int32.toNatClampNeg x2) then (if ¬ (I 106 (Int32.toNatClampNeg (I 114 (Int32.toNatClampNeg x2)))) = ((I 115 (Int32.toNatClampNeg x2)) - 1) then (b_122_63 x1 x2 (I 114 (Int32.toNatClampNeg x2)) (I 105 (Int32.toNatClampNeg (I 114 (Int32.toNatClampNeg x2)))) I J) else (if ¬ (x2 < 0 ∨ 130 ≤ Int32.toNatClampNeg x2) then lt_ (sI I 114 (Int32.toNatClampNeg x2) ((I 114 (Int32.toNatClampNeg x2)) + 1)) (fun I8 => if ¬ (x2 < 0 ∨ 130 ≤ Int32.toNatClampNeg x2) then (if ¬ (x2 < 0 ∨ 130 ≤ Int32.toNatClampNeg x2) then lt_ (sI I8 115 (Int32.toNatClampNeg x2) ((I8 115 (Int32.toNatClampNeg x2)) - 1)) (fun I11 => some (I11, J)) else none) else none) else none)) else none) else none)) else none) else none
theorem p_122_0 {Q : Nat → Option Nat} {D : Nat} (hD : 3 ≤ D) (x1 : Int32) (x2 : Int32) (I : dI) (J : dJ) (R : (dI × dJ)) (h : b_122_0 x1 x2 I J = some R) : Rn Q D 122 0 [(0, .ref 92), (1, .int x1), (2, .int x2)] [] I J (none) R.1 R.2 := by
  replace h : (if ¬ (x2 < 0 ∨ 130 ≤ Int32.toNatClampNeg x2) then (if ¬ ((I 114 (Int32.toNatClampNeg x2)) < 0 ∨ 960 ≤ Int32.toNatClampNeg (I 114 (Int32.toNatClampNeg x2))) then (if ¬ (I 105 (Int32.toNatClampNeg (I 114 (Int32.toNatClampNeg x2)))) = 30 then (b_122_63 x1 x2 (I 114 (Int32.toNatClampNeg x2)) (I 105 (Int32.toNatClampNeg (I 114 (Int32.toNatClampNeg x2)))) I J) else (if ¬ ((I 114 (Int32.toNatClampNeg x2)) < 0 ∨ 960 ≤ Int32.toNatClampNeg (I 114 (Int32.toNatClampNeg x2))) then (if ¬ (x2 < 0 ∨ 130 ≤ Int32.toNatClampNeg x2) then (if ¬ (I 106 (Int32.toNatClampNeg (I 114 (Int32.toNatClampNeg x2)))) = ((I 115 (Int32.toNatClampNeg x2)) - 1) then (b_122_63 x1 x2 (I 114 (Int32.toNatClampNeg x2)) (I 105 (Int32.toNatClampNeg (I 114 (Int32.toNatClampNeg x2)))) I J) else (if ¬ (x2 < 0 ∨ 130 ≤ Int32.toNatClampNeg x2) then lt_ (sI I 114 (Int32.toNatClampNeg x2) ((I 114 (Int32.toNatClampNeg x2)) + 1)) (fun I8 => if ¬ (x2 < 0 ∨ 130 ≤ Int32.toNatClampNeg x2) then (if ¬ (x2 < 0 ∨ 130 ≤ Int32.toNatClampNeg x2) then lt_ (sI I8 115 (Int32.toNatClampNeg x2) ((I8 115 (Int32.toNatClampNeg x2)) - 1)) (fun I11 => some (I11, J)) else none) else none) else none)) else none) else none)) else none) else none) = some R := h
  refine Rn.pu (st' := [.ref 92]) dk_122_0 L_122 rfl ?_
  refine Rn.gR (r := 114) dk_122_1 f_122_1.choose_spec sk_92 rfl ?_
  refine Rn.pu (st' := [.int x2, .ref 114]) dk_122_4 L_122 rfl ?_
  obtain ⟨c1, h⟩ := xm_if h
  refine Rn.iald dk_122_5 sk_114 c1 ?_
  refine Rn.pu (ls' := [(3, .int (I 114 (Int32.toNatClampNeg x2))), (0, .ref 92), (1, .int x1), (2, .int x2)]) (st' := []) dk_122_6 L_122 rfl ?_
  refine Rn.pu (st' := [.ref 92]) dk_122_7 L_122 rfl ?_
  refine Rn.gR (r := 105) dk_122_8 f_122_8.choose_spec sk_92 rfl ?_
  refine Rn.pu (st' := [.int (I 114 (Int32.toNatClampNeg x2)), .ref 105]) dk_122_11 L_122 rfl ?_
  obtain ⟨c2, h⟩ := xm_if h
  refine Rn.iald dk_122_12 sk_105 c2 ?_
  refine Rn.pu (ls' := [(4, .int (I 105 (Int32.toNatClampNeg (I 114 (Int32.toNatClampNeg x2))))), (3, .int (I 114 (Int32.toNatClampNeg x2))), (0, .ref 92), (1, .int x1), (2, .int x2)]) (st' := []) dk_122_13 L_122 rfl ?_
  refine Rn.pu (st' := [.int (I 105 (Int32.toNatClampNeg (I 114 (Int32.toNatClampNeg x2))))]) dk_122_15 L_122 rfl ?_
  refine Rn.bp dk_122_17 cbp_30 ?_
  by_cases c3 : ¬ (I 105 (Int32.toNatClampNeg (I 114 (Int32.toNatClampNeg x2)))) = 30
  · rw [if_pos c3] at h
    refine Rn.i2t (t := 63) dk_122_19 rfl (decide_eq_true c3) ?_
    exact Rn.wk [2, 3, 4, 1, 0] rfl (p_122_63 hD _ _ _ _ _ _ _ h)
  · rw [if_neg c3] at h
    refine Rn.i2f (t := 63) dk_122_19 rfl (decide_eq_false c3) ?_
    refine Rn.pu (st' := [.ref 92]) dk_122_22 L_122 rfl ?_
    refine Rn.gR (r := 106) dk_122_23 f_122_23.choose_spec sk_92 rfl ?_
    refine Rn.pu (st' := [.int (I 114 (Int32.toNatClampNeg x2)), .ref 106]) dk_122_26 L_122 rfl ?_
    obtain ⟨c4, h⟩ := xm_if h
    refine Rn.iald dk_122_27 sk_106 c4 ?_
    refine Rn.pu (st' := [.ref 92, .int (I 106 (Int32.toNatClampNeg (I 114 (Int32.toNatClampNeg x2))))]) dk_122_28 L_122 rfl ?_
    refine Rn.gR (r := 115) dk_122_29 f_122_29.choose_spec sk_92 rfl ?_
    refine Rn.pu (st' := [.int x2, .ref 115, .int (I 106 (Int32.toNatClampNeg (I 114 (Int32.toNatClampNeg x2))))]) dk_122_32 L_122 rfl ?_
    obtain ⟨c5, h⟩ := xm_if h
    refine Rn.iald dk_122_33 sk_115 c5 ?_
    refine Rn.ic dk_122_34 cic_1 ?_
    refine Rn.pu (st' := [.int ((I 115 (Int32.toNatClampNeg x2)) - 1), .int (I 106 (Int32.toNatClampNeg (I 114 (Int32.toNatClampNeg x2))))]) dk_122_35 L_122 rfl ?_
    by_cases c6 : ¬ (I 106 (Int32.toNatClampNeg (I 114 (Int32.toNatClampNeg x2)))) = ((I 115 (Int32.toNatClampNeg x2)) - 1)
    · rw [if_pos c6] at h
      refine Rn.i2t (t := 63) dk_122_36 rfl (decide_eq_true c6) ?_
      exact Rn.wk [2, 3, 4, 1, 0] rfl (p_122_63 hD _ _ _ _ _ _ _ h)
    · rw [if_neg c6] at h
      refine Rn.i2f (t := 63) dk_122_36 rfl (decide_eq_false c6) ?_
      refine Rn.pu (st' := [.ref 92]) dk_122_39 L_122 rfl ?_
      refine Rn.gR (r := 114) dk_122_40 f_122_40.choose_spec sk_92 rfl ?_
      refine Rn.pu (st' := [.int x2, .ref 114]) dk_122_43 L_122 rfl ?_
      refine Rn.pu (st' := [.int (I 114 (Int32.toNatClampNeg x2)), .int x2, .ref 114]) dk_122_44 L_122 rfl ?_
      refine Rn.ic dk_122_45 cic_1 ?_
      refine Rn.pu (st' := [.int ((I 114 (Int32.toNatClampNeg x2)) + 1), .int x2, .ref 114]) dk_122_46 L_122 rfl ?_
      obtain ⟨c7, h⟩ := xm_if h
      obtain ⟨I8, eI8, h⟩ := letS h
      refine Rn.iast dk_122_47 sk_114 c7 ?_
      rw [← eI8]
      refine Rn.pu (st' := [.ref 92]) dk_122_48 L_122 rfl ?_
      refine Rn.gR (r := 115) dk_122_49 f_122_49.choose_spec sk_92 rfl ?_
      refine Rn.pu (st' := [.int x2, .ref 115]) dk_122_52 L_122 rfl ?_
      refine Rn.pu (st' := [.ref 92, .int x2, .ref 115]) dk_122_53 L_122 rfl ?_
      refine Rn.gR (r := 115) dk_122_54 f_122_54.choose_spec sk_92 rfl ?_
      refine Rn.pu (st' := [.int x2, .ref 115, .int x2, .ref 115]) dk_122_57 L_122 rfl ?_
      obtain ⟨c9, h⟩ := xm_if h
      refine Rn.iald dk_122_58 sk_115 c9 ?_
      refine Rn.ic dk_122_59 cic_1 ?_
      refine Rn.pu (st' := [.int ((I8 115 (Int32.toNatClampNeg x2)) - 1), .int x2, .ref 115]) dk_122_60 L_122 rfl ?_
      obtain ⟨c10, h⟩ := xm_if h
      obtain ⟨I11, eI11, h⟩ := letS h
      refine Rn.iast dk_122_61 sk_115 c10 ?_
      rw [← eI11]
      cases h
      exact Rn.rv dk_122_62 R_122
def m_122 (x1 : Int32) (x2 : Int32) (I : dI) (J : dJ) : Option (dI × dJ) := b_122_0 x1 x2 I J
theorem x_122 {Q : Nat → Option Nat} {D : Nat} (hD : 4 ≤ D) {x1 : Int32} {x2 : Int32} {I : dI} {J : dJ} {R : (dI × dJ)} (h : m_122 x1 x2 I J = some R) : Ex Q D 122 I J [.ref 92, .int x1, .int x2] (none) R.1 R.2 := by
  obtain ⟨D, rfl⟩ : ∃ D', D = D' + 1 := ⟨D - 1, by omega⟩
  exact Ex.of (by decide) (by rw [L_122]; exact Nat.le_of_ble_eq_true rfl) (show xm_sub [(0, .ref 92), (1, .int x1), (2, .int x2)] [(0, .ref 92), (1, .int x1), (2, .int x2)] from xm_sub_of [0, 1, 2] [0, 1, 2] rfl rfl (by decide)) (p_122_0 (Nat.le_of_succ_le_succ hD) _ _ _ _ _ h)
