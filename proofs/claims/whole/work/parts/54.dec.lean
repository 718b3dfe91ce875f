/-! Printed by wip/whole/gen_dec.py: methods read back. -/
-- ConditionDeskModel.read()I
theorem L_100 : tb_mL 100 = 6 := by decide +kernel
theorem R_100 : tb_mr 100 = some .int := by decide +kernel
theorem dk_100_0 : decode (tb_mb 100) 0 = .ok (.aload_n 0, 1) := by decide +kernel
theorem dk_100_1 : decode (tb_mb 100) 1 = .ok (.aload_n 0, 1) := by decide +kernel
theorem dk_100_2 : decode (tb_mb 100) 2 = .ok (.aload_n 0, 1) := by decide +kernel
theorem dk_100_3 : decode (tb_mb 100) 3 = .ok (.aload_n 0, 1) := by decide +kernel
theorem dk_100_4 : decode (tb_mb 100) 4 = .ok (.iconst (0), 1) := by decide +kernel
theorem dk_100_5 : decode (tb_mb 100) 5 = .ok (.dup_x1, 1) := by decide +kernel
theorem dk_100_6 : decode (tb_mb 100) 6 = .ok (.putfield 154, 3) := by decide +kernel
theorem f_100_6 : ∃ b, tb_fr (tb_oc 100) 154 = some (9, 26, b) ∧ xm_fin tb_cl (tb_ini 100) b 9 26 = true := ⟨_, rfl, rfl⟩
theorem dk_100_9 : decode (tb_mb 100) 9 = .ok (.dup_x1, 1) := by decide +kernel
theorem dk_100_10 : decode (tb_mb 100) 10 = .ok (.putfield 160, 3) := by decide +kernel
theorem f_100_10 : ∃ b, tb_fr (tb_oc 100) 160 = some (9, 25, b) ∧ xm_fin tb_cl (tb_ini 100) b 9 25 = true := ⟨_, rfl, rfl⟩
theorem dk_100_13 : decode (tb_mb 100) 13 = .ok (.dup_x1, 1) := by decide +kernel
theorem dk_100_14 : decode (tb_mb 100) 14 = .ok (.putfield 157, 3) := by decide +kernel
theorem f_100_14 : ∃ b, tb_fr (tb_oc 100) 157 = some (9, 24, b) ∧ xm_fin tb_cl (tb_ini 100) b 9 24 = true := ⟨_, rfl, rfl⟩
theorem dk_100_17 : decode (tb_mb 100) 17 = .ok (.putfield 102, 3) := by decide +kernel
theorem f_100_17 : ∃ b, tb_fr (tb_oc 100) 102 = some (9, 21, b) ∧ xm_fin tb_cl (tb_ini 100) b 9 21 = true := ⟨_, rfl, rfl⟩
theorem dk_100_20 : decode (tb_mb 100) 20 = .ok (.iconst (0), 1) := by decide +kernel
theorem dk_100_21 : decode (tb_mb 100) 21 = .ok (.istore_n 1, 1) := by decide +kernel
theorem dk_100_22 : decode (tb_mb 100) 22 = .ok (.iconst (0), 1) := by decide +kernel
theorem dk_100_23 : decode (tb_mb 100) 23 = .ok (.istore_n 2, 1) := by decide +kernel
theorem dk_100_24 : decode (tb_mb 100) 24 = .ok (.aload_n 0, 1) := by decide +kernel
theorem dk_100_25 : decode (tb_mb 100) 25 = .ok (.getfield 154, 3) := by decide +kernel
theorem f_100_25 : ∃ b, tb_fr (tb_oc 100) 154 = some (9, 26, b) := ⟨_, rfl⟩
theorem dk_100_28 : decode (tb_mb 100) 28 = .ok (.ifCond .ne (398), 3) := by decide +kernel
theorem dk_100_426 : decode (tb_mb 100) 426 = .ok (.iload_n 2, 1) := by decide +kernel
theorem dk_100_427 : decode (tb_mb 100) 427 = .ok (.iconst (1), 1) := by decide +kernel
theorem dk_100_428 : decode (tb_mb 100) 428 = .ok (.if_icmp .ne (10), 3) := by decide +kernel
theorem dk_100_438 : decode (tb_mb 100) 438 = .ok (.aload_n 0, 1) := by decide +kernel
theorem dk_100_439 : decode (tb_mb 100) 439 = .ok (.iconst (1), 1) := by decide +kernel
theorem dk_100_440 : decode (tb_mb 100) 440 = .ok (.aload_n 0, 1) := by decide +kernel
theorem dk_100_441 : decode (tb_mb 100) 441 = .ok (.getfield 95, 3) := by decide +kernel
theorem f_100_441 : ∃ b, tb_fr (tb_oc 100) 95 = some (9, 1, b) := ⟨_, rfl⟩
theorem dk_100_444 : decode (tb_mb 100) 444 = .ok (.invokevirtual 175, 3) := by decide +kernel
theorem ck_100_444 : ∃ b, tb_cr (tb_oc 100) 175 = some (0, 110, b, 2) := ⟨_, rfl⟩
theorem dk_100_447 : decode (tb_mb 100) 447 = .ok (.iload_n 1, 1) := by decide +kernel
theorem dk_100_448 : decode (tb_mb 100) 448 = .ok (.ireturn, 1) := by decide +kernel
theorem dk_100_431 : decode (tb_mb 100) 431 = .ok (.aload_n 0, 1) := by decide +kernel
theorem dk_100_432 : decode (tb_mb 100) 432 = .ok (.getfield 160, 3) := by decide +kernel
theorem f_100_432 : ∃ b, tb_fr (tb_oc 100) 160 = some (9, 25, b) := ⟨_, rfl⟩
theorem dk_100_435 : decode (tb_mb 100) 435 = .ok (.ifCond .le (12), 3) := by decide +kernel
theorem dk_100_31 : decode (tb_mb 100) 31 = .ok (.aload_n 0, 1) := by decide +kernel
theorem dk_100_32 : decode (tb_mb 100) 32 = .ok (.aload_n 0, 1) := by decide +kernel
theorem dk_100_33 : decode (tb_mb 100) 33 = .ok (.getfield 102, 3) := by decide +kernel
theorem f_100_33 : ∃ b, tb_fr (tb_oc 100) 102 = some (9, 21, b) := ⟨_, rfl⟩
theorem dk_100_36 : decode (tb_mb 100) 36 = .ok (.invokevirtual 105, 3) := by decide +kernel
theorem ck_100_36 : ∃ b, tb_cr (tb_oc 100) 105 = some (0, 101, b, 1) := ⟨_, rfl⟩
theorem dk_100_39 : decode (tb_mb 100) 39 = .ok (.bipush (32), 2) := by decide +kernel
theorem dk_100_41 : decode (tb_mb 100) 41 = .ok (.if_icmp .ne (16), 3) := by decide +kernel
theorem dk_100_57 : decode (tb_mb 100) 57 = .ok (.aload_n 0, 1) := by decide +kernel
theorem dk_100_58 : decode (tb_mb 100) 58 = .ok (.getfield 102, 3) := by decide +kernel
theorem f_100_58 : ∃ b, tb_fr (tb_oc 100) 102 = some (9, 21, b) := ⟨_, rfl⟩
theorem dk_100_61 : decode (tb_mb 100) 61 = .ok (.aload_n 0, 1) := by decide +kernel
theorem dk_100_62 : decode (tb_mb 100) 62 = .ok (.getfield 95, 3) := by decide +kernel
theorem f_100_62 : ∃ b, tb_fr (tb_oc 100) 95 = some (9, 1, b) := ⟨_, rfl⟩
theorem dk_100_65 : decode (tb_mb 100) 65 = .ok (.if_icmp .ne (6), 3) := by decide +kernel
theorem dk_100_71 : decode (tb_mb 100) 71 = .ok (.aload_n 0, 1) := by decide +kernel
theorem dk_100_72 : decode (tb_mb 100) 72 = .ok (.invokevirtual 166, 3) := by decide +kernel
theorem ck_100_72 : ∃ b, tb_cr (tb_oc 100) 166 = some (0, 102, b, 0) := ⟨_, rfl⟩
theorem dk_100_75 : decode (tb_mb 100) 75 = .ok (.iload_n 2, 1) := by decide +kernel
theorem dk_100_76 : decode (tb_mb 100) 76 = .ok (.iconst (1), 1) := by decide +kernel
theorem dk_100_77 : decode (tb_mb 100) 77 = .ok (.if_icmp .ne (49), 3) := by decide +kernel
theorem dk_100_126 : decode (tb_mb 100) 126 = .ok (.iconst (0), 1) := by decide +kernel
theorem dk_100_127 : decode (tb_mb 100) 127 = .ok (.istore_n 3, 1) := by decide +kernel
theorem dk_100_128 : decode (tb_mb 100) 128 = .ok (.aload_n 0, 1) := by decide +kernel
theorem dk_100_129 : decode (tb_mb 100) 129 = .ok (.getfield 121, 3) := by decide +kernel
theorem f_100_129 : ∃ b, tb_fr (tb_oc 100) 121 = some (9, 22, b) := ⟨_, rfl⟩
theorem dk_100_132 : decode (tb_mb 100) 132 = .ok (.bipush (34), 2) := by decide +kernel
theorem dk_100_134 : decode (tb_mb 100) 134 = .ok (.if_icmp .eq (65), 3) := by decide +kernel
theorem dk_100_199 : decode (tb_mb 100) 199 = .ok (.iconst (0), 1) := by decide +kernel
theorem dk_100_200 : decode (tb_mb 100) 200 = .ok (.istore 4, 2) := by decide +kernel
theorem dk_100_202 : decode (tb_mb 100) 202 = .ok (.aload_n 0, 1) := by decide +kernel
theorem dk_100_203 : decode (tb_mb 100) 203 = .ok (.getfield 121, 3) := by decide +kernel
theorem f_100_203 : ∃ b, tb_fr (tb_oc 100) 121 = some (9, 22, b) := ⟨_, rfl⟩
theorem dk_100_206 : decode (tb_mb 100) 206 = .ok (.bipush (30), 2) := by decide +kernel
theorem dk_100_208 : decode (tb_mb 100) 208 = .ok (.if_icmp .eq (12), 3) := by decide +kernel
theorem dk_100_220 : decode (tb_mb 100) 220 = .ok (.iconst (1), 1) := by decide +kernel
theorem dk_100_221 : decode (tb_mb 100) 221 = .ok (.goto (4), 3) := by decide +kernel
theorem dk_100_225 : decode (tb_mb 100) 225 = .ok (.istore 5, 2) := by decide +kernel
theorem dk_100_227 : decode (tb_mb 100) 227 = .ok (.iload 4, 2) := by decide +kernel
theorem dk_100_229 : decode (tb_mb 100) 229 = .ok (.ifCond .ne (15), 3) := by decide +kernel
theorem dk_100_244 : decode (tb_mb 100) 244 = .ok (.aload_n 0, 1) := by decide +kernel
theorem dk_100_245 : decode (tb_mb 100) 245 = .ok (.getfield 121, 3) := by decide +kernel
theorem f_100_245 : ∃ b, tb_fr (tb_oc 100) 121 = some (9, 22, b) := ⟨_, rfl⟩
theorem dk_100_248 : decode (tb_mb 100) 248 = .ok (.ifCond .ne (15), 3) := by decide +kernel
theorem dk_100_263 : decode (tb_mb 100) 263 = .ok (.iload_n 3, 1) := by decide +kernel
theorem dk_100_264 : decode (tb_mb 100) 264 = .ok (.ifCond .ne (21), 3) := by decide +kernel
theorem dk_100_285 : decode (tb_mb 100) 285 = .ok (.iload 5, 2) := by decide +kernel
theorem dk_100_287 : decode (tb_mb 100) 287 = .ok (.ifCond .eq (21), 3) := by decide +kernel
theorem dk_100_308 : decode (tb_mb 100) 308 = .ok (.aload_n 0, 1) := by decide +kernel
theorem dk_100_309 : decode (tb_mb 100) 309 = .ok (.getfield 154, 3) := by decide +kernel
theorem f_100_309 : ∃ b, tb_fr (tb_oc 100) 154 = some (9, 26, b) := ⟨_, rfl⟩
theorem dk_100_312 : decode (tb_mb 100) 312 = .ok (.ifCond .le (6), 3) := by decide +kernel
theorem dk_100_318 : decode (tb_mb 100) 318 = .ok (.iload_n 3, 1) := by decide +kernel
theorem dk_100_319 : decode (tb_mb 100) 319 = .ok (.ifCond .eq (10), 3) := by decide +kernel
theorem dk_100_329 : decode (tb_mb 100) 329 = .ok (.iinc 1 (1), 3) := by decide +kernel
theorem dk_100_332 : decode (tb_mb 100) 332 = .ok (.iload 5, 2) := by decide +kernel
theorem dk_100_334 : decode (tb_mb 100) 334 = .ok (.ifCond .eq (26), 3) := by decide +kernel
theorem dk_100_360 : decode (tb_mb 100) 360 = .ok (.aload_n 0, 1) := by decide +kernel
theorem dk_100_361 : decode (tb_mb 100) 361 = .ok (.invokevirtual 163, 3) := by decide +kernel
theorem ck_100_361 : ∃ b, tb_cr (tb_oc 100) 163 = some (0, 112, b, 0) := ⟨_, rfl⟩
theorem dk_100_364 : decode (tb_mb 100) 364 = .ok (.aload_n 0, 1) := by decide +kernel
theorem dk_100_365 : decode (tb_mb 100) 365 = .ok (.getfield 121, 3) := by decide +kernel
theorem f_100_365 : ∃ b, tb_fr (tb_oc 100) 121 = some (9, 22, b) := ⟨_, rfl⟩
theorem dk_100_368 : decode (tb_mb 100) 368 = .ok (.bipush (6), 2) := by decide +kernel
theorem dk_100_370 : decode (tb_mb 100) 370 = .ok (.if_icmp .eq (12), 3) := by decide +kernel
theorem dk_100_382 : decode (tb_mb 100) 382 = .ok (.iconst (2), 1) := by decide +kernel
theorem dk_100_383 : decode (tb_mb 100) 383 = .ok (.goto (39), 3) := by decide +kernel
theorem dk_100_422 : decode (tb_mb 100) 422 = .ok (.istore_n 2, 1) := by decide +kernel
theorem dk_100_423 : decode (tb_mb 100) 423 = .ok (.goto (-399), 3) := by decide +kernel
theorem dk_100_373 : decode (tb_mb 100) 373 = .ok (.aload_n 0, 1) := by decide +kernel
theorem dk_100_374 : decode (tb_mb 100) 374 = .ok (.getfield 121, 3) := by decide +kernel
theorem f_100_374 : ∃ b, tb_fr (tb_oc 100) 121 = some (9, 22, b) := ⟨_, rfl⟩
theorem dk_100_377 : decode (tb_mb 100) 377 = .ok (.bipush (7), 2) := by decide +kernel
theorem dk_100_379 : decode (tb_mb 100) 379 = .ok (.if_icmp .ne (7), 3) := by decide +kernel
theorem dk_100_386 : decode (tb_mb 100) 386 = .ok (.aload_n 0, 1) := by decide +kernel
theorem dk_100_387 : decode (tb_mb 100) 387 = .ok (.getfield 121, 3) := by decide +kernel
theorem f_100_387 : ∃ b, tb_fr (tb_oc 100) 121 = some (9, 22, b) := ⟨_, rfl⟩
theorem dk_100_390 : decode (tb_mb 100) 390 = .ok (.bipush (8), 2) := by decide +kernel
theorem dk_100_392 : decode (tb_mb 100) 392 = .ok (.if_icmp .eq (12), 3) := by decide +kernel
theorem dk_100_404 : decode (tb_mb 100) 404 = .ok (.iconst (3), 1) := by decide +kernel
theorem dk_100_405 : decode (tb_mb 100) 405 = .ok (.goto (17), 3) := by decide +kernel
theorem dk_100_395 : decode (tb_mb 100) 395 = .ok (.aload_n 0, 1) := by decide +kernel
theorem dk_100_396 : decode (tb_mb 100) 396 = .ok (.getfield 121, 3) := by decide +kernel
theorem f_100_396 : ∃ b, tb_fr (tb_oc 100) 121 = some (9, 22, b) := ⟨_, rfl⟩
theorem dk_100_399 : decode (tb_mb 100) 399 = .ok (.bipush (9), 2) := by decide +kernel
theorem dk_100_401 : decode (tb_mb 100) 401 = .ok (.if_icmp .ne (7), 3) := by decide +kernel
theorem dk_100_408 : decode (tb_mb 100) 408 = .ok (.aload_n 0, 1) := by decide +kernel
theorem dk_100_409 : decode (tb_mb 100) 409 = .ok (.getfield 121, 3) := by decide +kernel
theorem f_100_409 : ∃ b, tb_fr (tb_oc 100) 121 = some (9, 22, b) := ⟨_, rfl⟩
theorem dk_100_412 : decode (tb_mb 100) 412 = .ok (.bipush (6), 2) := by decide +kernel
theorem dk_100_414 : decode (tb_mb 100) 414 = .ok (.if_icmp .ge (7), 3) := by decide +kernel
theorem dk_100_421 : decode (tb_mb 100) 421 = .ok (.iconst (0), 1) := by decide +kernel
theorem dk_100_417 : decode (tb_mb 100) 417 = .ok (.iconst (1), 1) := by decide +kernel
theorem dk_100_418 : decode (tb_mb 100) 418 = .ok (.goto (4), 3) := by decide +kernel
theorem dk_100_337 : decode (tb_mb 100) 337 = .ok (.aload_n 0, 1) := by decide +kernel
theorem dk_100_338 : decode (tb_mb 100) 338 = .ok (.getfield 70, 3) := by decide +kernel
theorem f_100_338 : ∃ b, tb_fr (tb_oc 100) 70 = some (9, 30, b) := ⟨_, rfl⟩
theorem dk_100_341 : decode (tb_mb 100) 341 = .ok (.aload_n 0, 1) := by decide +kernel
theorem dk_100_342 : decode (tb_mb 100) 342 = .ok (.getfield 160, 3) := by decide +kernel
theorem f_100_342 : ∃ b, tb_fr (tb_oc 100) 160 = some (9, 25, b) := ⟨_, rfl⟩
theorem dk_100_345 : decode (tb_mb 100) 345 = .ok (.aload_n 0, 1) := by decide +kernel
theorem dk_100_346 : decode (tb_mb 100) 346 = .ok (.getfield 157, 3) := by decide +kernel
theorem f_100_346 : ∃ b, tb_fr (tb_oc 100) 157 = some (9, 24, b) := ⟨_, rfl⟩
theorem dk_100_349 : decode (tb_mb 100) 349 = .ok (.iastore, 1) := by decide +kernel
theorem dk_100_350 : decode (tb_mb 100) 350 = .ok (.aload_n 0, 1) := by decide +kernel
theorem dk_100_351 : decode (tb_mb 100) 351 = .ok (.dup, 1) := by decide +kernel
theorem dk_100_352 : decode (tb_mb 100) 352 = .ok (.getfield 160, 3) := by decide +kernel
theorem f_100_352 : ∃ b, tb_fr (tb_oc 100) 160 = some (9, 25, b) := ⟨_, rfl⟩
theorem dk_100_355 : decode (tb_mb 100) 355 = .ok (.iconst (1), 1) := by decide +kernel
theorem dk_100_356 : decode (tb_mb 100) 356 = .ok (.iadd, 1) := by decide +kernel
theorem dk_100_357 : decode (tb_mb 100) 357 = .ok (.putfield 160, 3) := by decide +kernel
theorem f_100_357 : ∃ b, tb_fr (tb_oc 100) 160 = some (9, 25, b) ∧ xm_fin tb_cl (tb_ini 100) b 9 25 = true := ⟨_, rfl, rfl⟩
theorem dk_100_322 : decode (tb_mb 100) 322 = .ok (.aload_n 0, 1) := by decide +kernel
theorem dk_100_323 : decode (tb_mb 100) 323 = .ok (.invokevirtual 179, 3) := by decide +kernel
theorem ck_100_323 : ∃ b, tb_cr (tb_oc 100) 179 = some (0, 111, b, 0) := ⟨_, rfl⟩
theorem dk_100_326 : decode (tb_mb 100) 326 = .ok (.goto (-302), 3) := by decide +kernel
theorem dk_100_315 : decode (tb_mb 100) 315 = .ok (.goto (111), 3) := by decide +kernel
theorem dk_100_290 : decode (tb_mb 100) 290 = .ok (.aload_n 0, 1) := by decide +kernel
theorem dk_100_291 : decode (tb_mb 100) 291 = .ok (.getfield 160, 3) := by decide +kernel
theorem f_100_291 : ∃ b, tb_fr (tb_oc 100) 160 = some (9, 25, b) := ⟨_, rfl⟩
theorem dk_100_294 : decode (tb_mb 100) 294 = .ok (.bipush (8), 2) := by decide +kernel
theorem dk_100_296 : decode (tb_mb 100) 296 = .ok (.if_icmp .ne (12), 3) := by decide +kernel
theorem dk_100_299 : decode (tb_mb 100) 299 = .ok (.aload_n 0, 1) := by decide +kernel
theorem dk_100_300 : decode (tb_mb 100) 300 = .ok (.iconst (4), 1) := by decide +kernel
theorem dk_100_301 : decode (tb_mb 100) 301 = .ok (.aload_n 0, 1) := by decide +kernel
theorem dk_100_302 : decode (tb_mb 100) 302 = .ok (.getfield 109, 3) := by decide +kernel
theorem f_100_302 : ∃ b, tb_fr (tb_oc 100) 109 = some (9, 23, b) := ⟨_, rfl⟩
theorem dk_100_305 : decode (tb_mb 100) 305 = .ok (.invokevirtual 175, 3) := by decide +kernel
theorem ck_100_305 : ∃ b, tb_cr (tb_oc 100) 175 = some (0, 110, b, 2) := ⟨_, rfl⟩
theorem dk_100_267 : decode (tb_mb 100) 267 = .ok (.iload_n 1, 1) := by decide +kernel
theorem dk_100_268 : decode (tb_mb 100) 268 = .ok (.bipush (40), 2) := by decide +kernel
theorem dk_100_270 : decode (tb_mb 100) 270 = .ok (.if_icmp .ne (15), 3) := by decide +kernel
theorem dk_100_273 : decode (tb_mb 100) 273 = .ok (.aload_n 0, 1) := by decide +kernel
theorem dk_100_274 : decode (tb_mb 100) 274 = .ok (.iconst (3), 1) := by decide +kernel
theorem dk_100_275 : decode (tb_mb 100) 275 = .ok (.aload_n 0, 1) := by decide +kernel
theorem dk_100_276 : decode (tb_mb 100) 276 = .ok (.getfield 109, 3) := by decide +kernel
theorem f_100_276 : ∃ b, tb_fr (tb_oc 100) 109 = some (9, 23, b) := ⟨_, rfl⟩
theorem dk_100_279 : decode (tb_mb 100) 279 = .ok (.invokevirtual 175, 3) := by decide +kernel
theorem ck_100_279 : ∃ b, tb_cr (tb_oc 100) 175 = some (0, 110, b, 2) := ⟨_, rfl⟩
theorem dk_100_282 : decode (tb_mb 100) 282 = .ok (.goto (26), 3) := by decide +kernel
theorem dk_100_251 : decode (tb_mb 100) 251 = .ok (.aload_n 0, 1) := by decide +kernel
theorem dk_100_252 : decode (tb_mb 100) 252 = .ok (.iconst (2), 1) := by decide +kernel
theorem dk_100_253 : decode (tb_mb 100) 253 = .ok (.aload_n 0, 1) := by decide +kernel
theorem dk_100_254 : decode (tb_mb 100) 254 = .ok (.getfield 109, 3) := by decide +kernel
theorem f_100_254 : ∃ b, tb_fr (tb_oc 100) 109 = some (9, 23, b) := ⟨_, rfl⟩
theorem dk_100_257 : decode (tb_mb 100) 257 = .ok (.invokevirtual 175, 3) := by decide +kernel
theorem ck_100_257 : ∃ b, tb_cr (tb_oc 100) 175 = some (0, 110, b, 2) := ⟨_, rfl⟩
theorem dk_100_260 : decode (tb_mb 100) 260 = .ok (.goto (48), 3) := by decide +kernel
theorem dk_100_232 : decode (tb_mb 100) 232 = .ok (.aload_n 0, 1) := by decide +kernel
theorem dk_100_233 : decode (tb_mb 100) 233 = .ok (.iconst (1), 1) := by decide +kernel
theorem dk_100_234 : decode (tb_mb 100) 234 = .ok (.aload_n 0, 1) := by decide +kernel
theorem dk_100_235 : decode (tb_mb 100) 235 = .ok (.getfield 109, 3) := by decide +kernel
theorem f_100_235 : ∃ b, tb_fr (tb_oc 100) 109 = some (9, 23, b) := ⟨_, rfl⟩
theorem dk_100_238 : decode (tb_mb 100) 238 = .ok (.invokevirtual 175, 3) := by decide +kernel
theorem ck_100_238 : ∃ b, tb_cr (tb_oc 100) 175 = some (0, 110, b, 2) := ⟨_, rfl⟩
theorem dk_100_241 : decode (tb_mb 100) 241 = .ok (.goto (67), 3) := by decide +kernel
theorem dk_100_211 : decode (tb_mb 100) 211 = .ok (.aload_n 0, 1) := by decide +kernel
theorem dk_100_212 : decode (tb_mb 100) 212 = .ok (.getfield 121, 3) := by decide +kernel
theorem f_100_212 : ∃ b, tb_fr (tb_oc 100) 121 = some (9, 22, b) := ⟨_, rfl⟩
theorem dk_100_215 : decode (tb_mb 100) 215 = .ok (.bipush (32), 2) := by decide +kernel
theorem dk_100_217 : decode (tb_mb 100) 217 = .ok (.if_icmp .ne (7), 3) := by decide +kernel
theorem dk_100_224 : decode (tb_mb 100) 224 = .ok (.iconst (0), 1) := by decide +kernel
theorem dk_100_137 : decode (tb_mb 100) 137 = .ok (.iload_n 2, 1) := by decide +kernel
theorem dk_100_138 : decode (tb_mb 100) 138 = .ok (.ifCond .ne (16), 3) := by decide +kernel
theorem dk_100_154 : decode (tb_mb 100) 154 = .ok (.iload_n 2, 1) := by decide +kernel
theorem dk_100_155 : decode (tb_mb 100) 155 = .ok (.iconst (1), 1) := by decide +kernel
theorem dk_100_156 : decode (tb_mb 100) 156 = .ok (.if_icmp .ne (20), 3) := by decide +kernel
theorem dk_100_176 : decode (tb_mb 100) 176 = .ok (.aload_n 0, 1) := by decide +kernel
theorem dk_100_177 : decode (tb_mb 100) 177 = .ok (.getfield 121, 3) := by decide +kernel
theorem f_100_177 : ∃ b, tb_fr (tb_oc 100) 121 = some (9, 22, b) := ⟨_, rfl⟩
theorem dk_100_180 : decode (tb_mb 100) 180 = .ok (.iload_n 2, 1) := by decide +kernel
theorem dk_100_181 : decode (tb_mb 100) 181 = .ok (.iconst (2), 1) := by decide +kernel
theorem dk_100_182 : decode (tb_mb 100) 182 = .ok (.if_icmp .ne (8), 3) := by decide +kernel
theorem dk_100_190 : decode (tb_mb 100) 190 = .ok (.bipush (30), 2) := by decide +kernel
theorem dk_100_192 : decode (tb_mb 100) 192 = .ok (.if_icmp .ne (7), 3) := by decide +kernel
theorem dk_100_195 : decode (tb_mb 100) 195 = .ok (.iconst (1), 1) := by decide +kernel
theorem dk_100_196 : decode (tb_mb 100) 196 = .ok (.goto (4), 3) := by decide +kernel
theorem dk_100_185 : decode (tb_mb 100) 185 = .ok (.bipush (32), 2) := by decide +kernel
theorem dk_100_187 : decode (tb_mb 100) 187 = .ok (.goto (5), 3) := by decide +kernel
theorem dk_100_159 : decode (tb_mb 100) 159 = .ok (.aload_n 0, 1) := by decide +kernel
theorem dk_100_160 : decode (tb_mb 100) 160 = .ok (.getfield 121, 3) := by decide +kernel
theorem f_100_160 : ∃ b, tb_fr (tb_oc 100) 121 = some (9, 22, b) := ⟨_, rfl⟩
theorem dk_100_163 : decode (tb_mb 100) 163 = .ok (.invokestatic 172, 3) := by decide +kernel
theorem ck_100_163 : ∃ b, tb_cr (tb_oc 100) 172 = some (1, 109, b, 1) := ⟨_, rfl⟩
theorem dk_100_166 : decode (tb_mb 100) 166 = .ok (.ifCond .ne (29), 3) := by decide +kernel
theorem dk_100_169 : decode (tb_mb 100) 169 = .ok (.iload_n 3, 1) := by decide +kernel
theorem dk_100_170 : decode (tb_mb 100) 170 = .ok (.ifCond .eq (29), 3) := by decide +kernel
theorem dk_100_173 : decode (tb_mb 100) 173 = .ok (.goto (22), 3) := by decide +kernel
theorem dk_100_141 : decode (tb_mb 100) 141 = .ok (.aload_n 0, 1) := by decide +kernel
theorem dk_100_142 : decode (tb_mb 100) 142 = .ok (.getfield 121, 3) := by decide +kernel
theorem f_100_142 : ∃ b, tb_fr (tb_oc 100) 121 = some (9, 22, b) := ⟨_, rfl⟩
theorem dk_100_145 : decode (tb_mb 100) 145 = .ok (.invokestatic 169, 3) := by decide +kernel
theorem ck_100_145 : ∃ b, tb_cr (tb_oc 100) 169 = some (1, 108, b, 1) := ⟨_, rfl⟩
theorem dk_100_148 : decode (tb_mb 100) 148 = .ok (.ifCond .eq (51), 3) := by decide +kernel
theorem dk_100_151 : decode (tb_mb 100) 151 = .ok (.goto (44), 3) := by decide +kernel
theorem dk_100_80 : decode (tb_mb 100) 80 = .ok (.aload_n 0, 1) := by decide +kernel
theorem dk_100_81 : decode (tb_mb 100) 81 = .ok (.getfield 160, 3) := by decide +kernel
theorem f_100_81 : ∃ b, tb_fr (tb_oc 100) 160 = some (9, 25, b) := ⟨_, rfl⟩
theorem dk_100_84 : decode (tb_mb 100) 84 = .ok (.ifCond .le (42), 3) := by decide +kernel
theorem dk_100_87 : decode (tb_mb 100) 87 = .ok (.aload_n 0, 1) := by decide +kernel
theorem dk_100_88 : decode (tb_mb 100) 88 = .ok (.getfield 121, 3) := by decide +kernel
theorem f_100_88 : ∃ b, tb_fr (tb_oc 100) 121 = some (9, 22, b) := ⟨_, rfl⟩
theorem dk_100_91 : decode (tb_mb 100) 91 = .ok (.aload_n 0, 1) := by decide +kernel
theorem dk_100_92 : decode (tb_mb 100) 92 = .ok (.getfield 64, 3) := by decide +kernel
theorem f_100_92 : ∃ b, tb_fr (tb_oc 100) 64 = some (9, 28, b) := ⟨_, rfl⟩
theorem dk_100_95 : decode (tb_mb 100) 95 = .ok (.aload_n 0, 1) := by decide +kernel
theorem dk_100_96 : decode (tb_mb 100) 96 = .ok (.getfield 70, 3) := by decide +kernel
theorem f_100_96 : ∃ b, tb_fr (tb_oc 100) 70 = some (9, 30, b) := ⟨_, rfl⟩
theorem dk_100_99 : decode (tb_mb 100) 99 = .ok (.aload_n 0, 1) := by decide +kernel
theorem dk_100_100 : decode (tb_mb 100) 100 = .ok (.getfield 160, 3) := by decide +kernel
theorem f_100_100 : ∃ b, tb_fr (tb_oc 100) 160 = some (9, 25, b) := ⟨_, rfl⟩
theorem dk_100_103 : decode (tb_mb 100) 103 = .ok (.iconst (1), 1) := by decide +kernel
theorem dk_100_104 : decode (tb_mb 100) 104 = .ok (.isub, 1) := by decide +kernel
theorem dk_100_105 : decode (tb_mb 100) 105 = .ok (.iaload, 1) := by decide +kernel
theorem dk_100_106 : decode (tb_mb 100) 106 = .ok (.iaload, 1) := by decide +kernel
theorem dk_100_107 : decode (tb_mb 100) 107 = .ok (.bipush (30), 2) := by decide +kernel
theorem dk_100_109 : decode (tb_mb 100) 109 = .ok (.if_icmp .ne (8), 3) := by decide +kernel
theorem dk_100_117 : decode (tb_mb 100) 117 = .ok (.bipush (33), 2) := by decide +kernel
theorem dk_100_119 : decode (tb_mb 100) 119 = .ok (.if_icmp .ne (7), 3) := by decide +kernel
theorem dk_100_122 : decode (tb_mb 100) 122 = .ok (.iconst (1), 1) := by decide +kernel
theorem dk_100_123 : decode (tb_mb 100) 123 = .ok (.goto (4), 3) := by decide +kernel
theorem dk_100_112 : decode (tb_mb 100) 112 = .ok (.bipush (31), 2) := by decide +kernel
theorem dk_100_114 : decode (tb_mb 100) 114 = .ok (.goto (5), 3) := by decide +kernel
theorem dk_100_68 : decode (tb_mb 100) 68 = .ok (.goto (358), 3) := by decide +kernel
theorem dk_100_44 : decode (tb_mb 100) 44 = .ok (.aload_n 0, 1) := by decide +kernel
theorem dk_100_45 : decode (tb_mb 100) 45 = .ok (.dup, 1) := by decide +kernel
theorem dk_100_46 : decode (tb_mb 100) 46 = .ok (.getfield 102, 3) := by decide +kernel
theorem f_100_46 : ∃ b, tb_fr (tb_oc 100) 102 = some (9, 21, b) := ⟨_, rfl⟩
theorem dk_100_49 : decode (tb_mb 100) 49 = .ok (.iconst (1), 1) := by decide +kernel
theorem dk_100_50 : decode (tb_mb 100) 50 = .ok (.iadd, 1) := by decide +kernel
theorem dk_100_51 : decode (tb_mb 100) 51 = .ok (.putfield 102, 3) := by decide +kernel
theorem f_100_51 : ∃ b, tb_fr (tb_oc 100) 102 = some (9, 21, b) ∧ xm_fin tb_cl (tb_ini 100) b 9 21 = true := ⟨_, rfl, rfl⟩
theorem dk_100_54 : decode (tb_mb 100) 54 = .ok (.goto (-23), 3) := by decide +kernel
def b_100_438 (x1 : Int32) (I : dI) (J : dJ) : Option (Int32 × dI × dJ) := (m_110 1 (I 92 1) I J).bind (fun r7 => some (x1, r7.1, r7.2))
theorem p_100_438 {Q : Nat → Option Nat} {D : Nat} (hD : 4 ≤ D) (x1 : Int32) (I : dI) (J : dJ) (R : (Int32 × dI × dJ)) (h : b_100_438 x1 I J = some R) : Rn Q D 100 438 [(0, .ref 92), (1, .int x1)] [] I J (some (.int R.1)) R.2.1 R.2.2 := by
  replace h : ((m_110 1 (I 92 1) I J).bind (fun r7 => some (x1, r7.1, r7.2))) = some R := h
  refine Rn.pu (st' := [.ref 92]) dk_100_438 L_100 rfl ?_
  refine Rn.ic dk_100_439 cic_1 ?_
  refine Rn.pu (st' := [.ref 92, .int 1, .ref 92]) dk_100_440 L_100 rfl ?_
  refine Rn.gI dk_100_441 f_100_441.choose_spec sk_92 rfl ?_
  obtain ⟨r7, e8, h⟩ := bindS h
  refine Rn.cvV (p := 92) (As := [.int 1, .int (I 92 1)]) (rest := []) dk_100_444 ck_100_444.choose_spec rfl sk_92 rfl (x_110 (Nat.le_trans (Nat.le_of_ble_eq_true rfl) hD) e8) ?_
  refine Rn.pu (st' := [.int x1]) dk_100_447 L_100 rfl ?_
  cases h
  exact Rn.ri dk_100_448 R_100 rfl
def b_100_426 (x1 : Int32) (x2 : Int32) (I : dI) (J : dJ) : Option (Int32 × dI × dJ) := if ¬ x2 = 1 then (b_100_438 x1 I J) else (if (I 92 25) ≤ 0 then (some (x1, I, J)) else (b_100_438 x1 I J))
theorem p_100_426 {Q : Nat → Option Nat} {D : Nat} (hD : 4 ≤ D) (x1 : Int32) (x2 : Int32) (I : dI) (J : dJ) (R : (Int32 × dI × dJ)) (h : b_100_426 x1 x2 I J = some R) : Rn Q D 100 426 [(0, .ref 92), (1, .int x1), (2, .int x2)] [] I J (some (.int R.1)) R.2.1 R.2.2 := by
  replace h : (if ¬ x2 = 1 then (b_100_438 x1 I J) else (if (I 92 25) ≤ 0 then (some (x1, I, J)) else (b_100_438 x1 I J))) = some R := h
  refine Rn.pu (st' := [.int x2]) dk_100_426 L_100 rfl ?_
  refine Rn.ic dk_100_427 cic_1 ?_
  by_cases c6 : ¬ x2 = 1
  · rw [if_pos c6] at h
    refine Rn.i2t (t := 438) dk_100_428 rfl (decide_eq_true c6) ?_
    exact Rn.wk [0, 1] rfl (p_100_438 hD _ _ _ _ h)
  · rw [if_neg c6] at h
    refine Rn.i2f (t := 438) dk_100_428 rfl (decide_eq_false c6) ?_
    refine Rn.pu (st' := [.ref 92]) dk_100_431 L_100 rfl ?_
    refine Rn.gI dk_100_432 f_100_432.choose_spec sk_92 rfl ?_
    by_cases c7 : (I 92 25) ≤ 0
    · rw [if_pos c7] at h
      refine Rn.i1t (t := 447) dk_100_435 rfl (decide_eq_true c7) ?_
      refine Rn.pu (st' := [.int x1]) dk_100_447 L_100 rfl ?_
      cases h
      exact Rn.ri dk_100_448 R_100 rfl
    · rw [if_neg c7] at h
      refine Rn.i1f (t := 447) dk_100_435 rfl (decide_eq_false c7) ?_
      exact Rn.wk [0, 1] rfl (p_100_438 hD _ _ _ _ h)
def b_100_422 (h24 : Int32 → Int32 → dI → dJ → Option (Int32 × dI × dJ)) (x1 : Int32) (s0 : Int32) (I : dI) (J : dJ) : Option (Int32 × dI × dJ) := h24 x1 s0 I J
theorem p_100_422 {Q : Nat → Option Nat} {D : Nat} (hD : 4 ≤ D) {h24 : Int32 → Int32 → dI → dJ → Option (Int32 × dI × dJ)} (H24 : ∀ (x1 : Int32) (x2 : Int32) (I : dI) (J : dJ) (R : (Int32 × dI × dJ)), h24 x1 x2 I J = some R → Rn Q D 100 24 [(0, .ref 92), (1, .int x1), (2, .int x2)] [] I J (some (.int R.1)) R.2.1 R.2.2) (x1 : Int32) (s0 : Int32) (I : dI) (J : dJ) (R : (Int32 × dI × dJ)) (h : b_100_422 h24 x1 s0 I J = some R) : Rn Q D 100 422 [(0, .ref 92), (1, .int x1)] [.int s0] I J (some (.int R.1)) R.2.1 R.2.2 := by
  replace h : (h24 x1 s0 I J) = some R := h
  refine Rn.pu (ls' := [(2, .int s0), (0, .ref 92), (1, .int x1)]) (st' := []) dk_100_422 L_100 rfl ?_
  refine Rn.gt (t := 24) dk_100_423 rfl ?_
  exact Rn.wk [1, 2, 0] rfl (H24 _ _ _ _ _ h)
def b_100_382 (h24 : Int32 → Int32 → dI → dJ → Option (Int32 × dI × dJ)) (x1 : Int32) (I : dI) (J : dJ) : Option (Int32 × dI × dJ) := b_100_422 h24 x1 2 I J
theorem p_100_382 {Q : Nat → Option Nat} {D : Nat} (hD : 4 ≤ D) {h24 : Int32 → Int32 → dI → dJ → Option (Int32 × dI × dJ)} (H24 : ∀ (x1 : Int32) (x2 : Int32) (I : dI) (J : dJ) (R : (Int32 × dI × dJ)), h24 x1 x2 I J = some R → Rn Q D 100 24 [(0, .ref 92), (1, .int x1), (2, .int x2)] [] I J (some (.int R.1)) R.2.1 R.2.2) (x1 : Int32) (I : dI) (J : dJ) (R : (Int32 × dI × dJ)) (h : b_100_382 h24 x1 I J = some R) : Rn Q D 100 382 [(0, .ref 92), (1, .int x1)] [] I J (some (.int R.1)) R.2.1 R.2.2 := by
  replace h : (b_100_422 h24 x1 2 I J) = some R := h
  refine Rn.ic dk_100_382 cic_2 ?_
  refine Rn.gt (t := 422) dk_100_383 rfl ?_
  exact Rn.wk [0, 1] rfl (p_100_422 hD H24 _ _ _ _ _ h)
def b_100_404 (h24 : Int32 → Int32 → dI → dJ → Option (Int32 × dI × dJ)) (x1 : Int32) (I : dI) (J : dJ) : Option (Int32 × dI × dJ) := b_100_422 h24 x1 3 I J
theorem p_100_404 {Q : Nat → Option Nat} {D : Nat} (hD : 4 ≤ D) {h24 : Int32 → Int32 → dI → dJ → Option (Int32 × dI × dJ)} (H24 : ∀ (x1 : Int32) (x2 : Int32) (I : dI) (J : dJ) (R : (Int32 × dI × dJ)), h24 x1 x2 I J = some R → Rn Q D 100 24 [(0, .ref 92), (1, .int x1), (2, .int x2)] [] I J (some (.int R.1)) R.2.1 R.2.2) (x1 : Int32) (I : dI) (J : dJ) (R : (Int32 × dI × dJ)) (h : b_100_404 h24 x1 I J = some R) : Rn Q D 100 404 [(0, .ref 92), (1, .int x1)] [] I J (some (.int R.1)) R.2.1 R.2.2 := by
  replace h : (b_100_422 h24 x1 3 I J) = some R := h
  refine Rn.ic dk_100_404 cic_3 ?_
  refine Rn.gt (t := 422) dk_100_405 rfl ?_
  exact Rn.wk [0, 1] rfl (p_100_422 hD H24 _ _ _ _ _ h)
def b_100_360 (h24 : Int32 → Int32 → dI → dJ → Option (Int32 × dI × dJ)) (x1 : Int32) (I : dI) (J : dJ) : Option (Int32 × dI × dJ) := (m_112 I J).bind (fun r24 => if (r24.1 92 22) = 6 then (b_100_382 h24 x1 r24.1 r24.2) else (if ¬ (r24.1 92 22) = 7 then (if (r24.1 92 22) = 8 then (b_100_404 h24 x1 r24.1 r24.2) else (if ¬ (r24.1 92 22) = 9 then (if 6 ≤ (r24.1 92 22) then (b_100_422 h24 x1 0 r24.1 r24.2) else (b_100_422 h24 x1 1 r24.1 r24.2)) else (b_100_404 h24 x1 r24.1 r24.2))) else (b_100_382 h24 x1 r24.1 r24.2)))
theorem p_100_360 {Q : Nat → Option Nat} {D : Nat} (hD : 4 ≤ D) {h24 : Int32 → Int32 → dI → dJ → Option (Int32 × dI × dJ)} (H24 : ∀ (x1 : Int32) (x2 : Int32) (I : dI) (J : dJ) (R : (Int32 × dI × dJ)), h24 x1 x2 I J = some R → Rn Q D 100 24 [(0, .ref 92), (1, .int x1), (2, .int x2)] [] I J (some (.int R.1)) R.2.1 R.2.2) (x1 : Int32) (I : dI) (J : dJ) (R : (Int32 × dI × dJ)) (h : b_100_360 h24 x1 I J = some R) : Rn Q D 100 360 [(0, .ref 92), (1, .int x1)] [] I J (some (.int R.1)) R.2.1 R.2.2 := by
  replace h : ((m_112 I J).bind (fun r24 => if (r24.1 92 22) = 6 then (b_100_382 h24 x1 r24.1 r24.2) else (if ¬ (r24.1 92 22) = 7 then (if (r24.1 92 22) = 8 then (b_100_404 h24 x1 r24.1 r24.2) else (if ¬ (r24.1 92 22) = 9 then (if 6 ≤ (r24.1 92 22) then (b_100_422 h24 x1 0 r24.1 r24.2) else (b_100_422 h24 x1 1 r24.1 r24.2)) else (b_100_404 h24 x1 r24.1 r24.2))) else (b_100_382 h24 x1 r24.1 r24.2)))) = some R := h
  refine Rn.pu (st' := [.ref 92]) dk_100_360 L_100 rfl ?_
  obtain ⟨r24, e25, h⟩ := bindS h
  refine Rn.cvV (p := 92) (As := []) (rest := []) dk_100_361 ck_100_361.choose_spec rfl sk_92 rfl (x_112 (Nat.le_trans (Nat.le_of_ble_eq_true rfl) hD) e25) ?_
  refine Rn.pu (st' := [.ref 92]) dk_100_364 L_100 rfl ?_
  refine Rn.gI dk_100_365 f_100_365.choose_spec sk_92 rfl ?_
  refine Rn.bp dk_100_368 cbp_6 ?_
  by_cases c26 : (r24.1 92 22) = 6
  · rw [if_pos c26] at h
    refine Rn.i2t (t := 382) dk_100_370 rfl (decide_eq_true c26) ?_
    exact Rn.wk [0, 1] rfl (p_100_382 hD H24 _ _ _ _ h)
  · rw [if_neg c26] at h
    refine Rn.i2f (t := 382) dk_100_370 rfl (decide_eq_false c26) ?_
    refine Rn.pu (st' := [.ref 92]) dk_100_373 L_100 rfl ?_
    refine Rn.gI dk_100_374 f_100_374.choose_spec sk_92 rfl ?_
    refine Rn.bp dk_100_377 cbp_7 ?_
    by_cases c27 : ¬ (r24.1 92 22) = 7
    · rw [if_pos c27] at h
      refine Rn.i2t (t := 386) dk_100_379 rfl (decide_eq_true c27) ?_
      refine Rn.pu (st' := [.ref 92]) dk_100_386 L_100 rfl ?_
      refine Rn.gI dk_100_387 f_100_387.choose_spec sk_92 rfl ?_
      refine Rn.bp dk_100_390 cbp_8 ?_
      by_cases c28 : (r24.1 92 22) = 8
      · rw [if_pos c28] at h
        refine Rn.i2t (t := 404) dk_100_392 rfl (decide_eq_true c28) ?_
        exact Rn.wk [0, 1] rfl (p_100_404 hD H24 _ _ _ _ h)
      · rw [if_neg c28] at h
        refine Rn.i2f (t := 404) dk_100_392 rfl (decide_eq_false c28) ?_
        refine Rn.pu (st' := [.ref 92]) dk_100_395 L_100 rfl ?_
        refine Rn.gI dk_100_396 f_100_396.choose_spec sk_92 rfl ?_
        refine Rn.bp dk_100_399 cbp_9 ?_
        by_cases c29 : ¬ (r24.1 92 22) = 9
        · rw [if_pos c29] at h
          refine Rn.i2t (t := 408) dk_100_401 rfl (decide_eq_true c29) ?_
          refine Rn.pu (st' := [.ref 92]) dk_100_408 L_100 rfl ?_
          refine Rn.gI dk_100_409 f_100_409.choose_spec sk_92 rfl ?_
          refine Rn.bp dk_100_412 cbp_6 ?_
          by_cases c30 : 6 ≤ (r24.1 92 22)
          · rw [if_pos c30] at h
            refine Rn.i2t (t := 421) dk_100_414 rfl (decide_eq_true c30) ?_
            refine Rn.ic dk_100_421 cic_0 ?_
            exact Rn.wk [0, 1] rfl (p_100_422 hD H24 _ _ _ _ _ h)
          · rw [if_neg c30] at h
            refine Rn.i2f (t := 421) dk_100_414 rfl (decide_eq_false c30) ?_
            refine Rn.ic dk_100_417 cic_1 ?_
            refine Rn.gt (t := 422) dk_100_418 rfl ?_
            exact Rn.wk [0, 1] rfl (p_100_422 hD H24 _ _ _ _ _ h)
        · rw [if_neg c29] at h
          refine Rn.i2f (t := 408) dk_100_401 rfl (decide_eq_false c29) ?_
          exact Rn.wk [0, 1] rfl (p_100_404 hD H24 _ _ _ _ h)
    · rw [if_neg c27] at h
      refine Rn.i2f (t := 386) dk_100_379 rfl (decide_eq_false c27) ?_
      exact Rn.wk [0, 1] rfl (p_100_382 hD H24 _ _ _ _ h)
def b_100_308 (h24 : Int32 → Int32 → dI → dJ → Option (Int32 × dI × dJ)) (x1 : Int32) (x2 : Int32) (x3 : Int32) (x5 : Int32) (I : dI) (J : dJ) : Option (Int32 × dI × dJ) := if (I 92 26) ≤ 0 then (if x3 = 0 then (if x5 = 0 then (b_100_360 h24 (x1 + 1) I J) else (if ¬ ((I 92 25) < 0 ∨ 10 ≤ Int32.toNatClampNeg (I 92 25)) then lt_ (sI I 112 (Int32.toNatClampNeg (I 92 25)) (I 92 24)) (fun I25 => lt_ (sI I25 92 25 ((I25 92 25) + 1)) (fun I26 => b_100_360 h24 (x1 + 1) I26 J)) else none)) else ((m_111 I J).bind (fun r27 => h24 x1 x2 r27.1 r27.2))) else (b_100_426 x1 x2 I J)
theorem p_100_308 {Q : Nat → Option Nat} {D : Nat} (hD : 4 ≤ D) {h24 : Int32 → Int32 → dI → dJ → Option (Int32 × dI × dJ)} (H24 : ∀ (x1 : Int32) (x2 : Int32) (I : dI) (J : dJ) (R : (Int32 × dI × dJ)), h24 x1 x2 I J = some R → Rn Q D 100 24 [(0, .ref 92), (1, .int x1), (2, .int x2)] [] I J (some (.int R.1)) R.2.1 R.2.2) (x1 : Int32) (x2 : Int32) (x3 : Int32) (x5 : Int32) (I : dI) (J : dJ) (R : (Int32 × dI × dJ)) (h : b_100_308 h24 x1 x2 x3 x5 I J = some R) : Rn Q D 100 308 [(0, .ref 92), (1, .int x1), (2, .int x2), (3, .int x3), (5, .int x5)] [] I J (some (.int R.1)) R.2.1 R.2.2 := by
  replace h : (if (I 92 26) ≤ 0 then (if x3 = 0 then (if x5 = 0 then (b_100_360 h24 (x1 + 1) I J) else (if ¬ ((I 92 25) < 0 ∨ 10 ≤ Int32.toNatClampNeg (I 92 25)) then lt_ (sI I 112 (Int32.toNatClampNeg (I 92 25)) (I 92 24)) (fun I25 => lt_ (sI I25 92 25 ((I25 92 25) + 1)) (fun I26 => b_100_360 h24 (x1 + 1) I26 J)) else none)) else ((m_111 I J).bind (fun r27 => h24 x1 x2 r27.1 r27.2))) else (b_100_426 x1 x2 I J)) = some R := h
  refine Rn.pu (st' := [.ref 92]) dk_100_308 L_100 rfl ?_
  refine Rn.gI dk_100_309 f_100_309.choose_spec sk_92 rfl ?_
  by_cases c21 : (I 92 26) ≤ 0
  · rw [if_pos c21] at h
    refine Rn.i1t (t := 318) dk_100_312 rfl (decide_eq_true c21) ?_
    refine Rn.pu (st' := [.int x3]) dk_100_318 L_100 rfl ?_
    by_cases c22 : x3 = 0
    · rw [if_pos c22] at h
      refine Rn.i1t (t := 329) dk_100_319 rfl (decide_eq_true c22) ?_
      refine Rn.inc (ls' := [(1, .int (x1 + 1)), (0, .ref 92), (2, .int x2), (3, .int x3), (5, .int x5)]) dk_100_329 L_100 (by decide) cic_1 rfl rfl ?_
      refine Rn.pu (st' := [.int x5]) dk_100_332 L_100 rfl ?_
      by_cases c23 : x5 = 0
      · rw [if_pos c23] at h
        refine Rn.i1t (t := 360) dk_100_334 rfl (decide_eq_true c23) ?_
        exact Rn.wk [1, 0] rfl (p_100_360 hD H24 _ _ _ _ h)
      · rw [if_neg c23] at h
        refine Rn.i1f (t := 360) dk_100_334 rfl (decide_eq_false c23) ?_
        refine Rn.pu (st' := [.ref 92]) dk_100_337 L_100 rfl ?_
        refine Rn.gR (r := 112) dk_100_338 f_100_338.choose_spec sk_92 rfl ?_
        refine Rn.pu (st' := [.ref 92, .ref 112]) dk_100_341 L_100 rfl ?_
        refine Rn.gI dk_100_342 f_100_342.choose_spec sk_92 rfl ?_
        refine Rn.pu (st' := [.ref 92, .int (I 92 25), .ref 112]) dk_100_345 L_100 rfl ?_
        refine Rn.gI dk_100_346 f_100_346.choose_spec sk_92 rfl ?_
        obtain ⟨c24, h⟩ := xm_if h
        obtain ⟨I25, eI25, h⟩ := letS h
        refine Rn.iast dk_100_349 sk_112 c24 ?_
        rw [← eI25]
        refine Rn.pu (st' := [.ref 92]) dk_100_350 L_100 rfl ?_
        refine Rn.pu (st' := [.ref 92, .ref 92]) dk_100_351 L_100 rfl ?_
        refine Rn.gI dk_100_352 f_100_352.choose_spec sk_92 rfl ?_
        refine Rn.ic dk_100_355 cic_1 ?_
        refine Rn.pu (st' := [.int ((I25 92 25) + 1), .ref 92]) dk_100_356 L_100 rfl ?_
        obtain ⟨I26, eI26, h⟩ := letS h
        refine Rn.pI dk_100_357 f_100_357.choose_spec.1 sk_92 rfl f_100_357.choose_spec.2 rfl rfl ?_
        rw [← eI26]
        exact Rn.wk [1, 0] rfl (p_100_360 hD H24 _ _ _ _ h)
    · rw [if_neg c22] at h
      refine Rn.i1f (t := 329) dk_100_319 rfl (decide_eq_false c22) ?_
      refine Rn.pu (st' := [.ref 92]) dk_100_322 L_100 rfl ?_
      obtain ⟨r27, e28, h⟩ := bindS h
      refine Rn.cvV (p := 92) (As := []) (rest := []) dk_100_323 ck_100_323.choose_spec rfl sk_92 rfl (x_111 (Nat.le_trans (Nat.le_of_ble_eq_true rfl) hD) e28) ?_
      refine Rn.gt (t := 24) dk_100_326 rfl ?_
      exact Rn.wk [0, 1, 2] rfl (H24 _ _ _ _ _ h)
  · rw [if_neg c21] at h
    refine Rn.i1f (t := 318) dk_100_312 rfl (decide_eq_false c21) ?_
    refine Rn.gt (t := 426) dk_100_315 rfl ?_
    exact Rn.wk [0, 1, 2] rfl (p_100_426 hD _ _ _ _ _ h)
def b_100_285 (h24 : Int32 → Int32 → dI → dJ → Option (Int32 × dI × dJ)) (x1 : Int32) (x2 : Int32) (x3 : Int32) (x5 : Int32) (I : dI) (J : dJ) : Option (Int32 × dI × dJ) := if x5 = 0 then (b_100_308 h24 x1 x2 x3 x5 I J) else (if ¬ (I 92 25) = 8 then (b_100_308 h24 x1 x2 x3 x5 I J) else ((m_110 4 (I 92 23) I J).bind (fun r22 => b_100_308 h24 x1 x2 x3 x5 r22.1 r22.2)))
theorem p_100_285 {Q : Nat → Option Nat} {D : Nat} (hD : 4 ≤ D) {h24 : Int32 → Int32 → dI → dJ → Option (Int32 × dI × dJ)} (H24 : ∀ (x1 : Int32) (x2 : Int32) (I : dI) (J : dJ) (R : (Int32 × dI × dJ)), h24 x1 x2 I J = some R → Rn Q D 100 24 [(0, .ref 92), (1, .int x1), (2, .int x2)] [] I J (some (.int R.1)) R.2.1 R.2.2) (x1 : Int32) (x2 : Int32) (x3 : Int32) (x5 : Int32) (I : dI) (J : dJ) (R : (Int32 × dI × dJ)) (h : b_100_285 h24 x1 x2 x3 x5 I J = some R) : Rn Q D 100 285 [(0, .ref 92), (1, .int x1), (2, .int x2), (3, .int x3), (5, .int x5)] [] I J (some (.int R.1)) R.2.1 R.2.2 := by
  replace h : (if x5 = 0 then (b_100_308 h24 x1 x2 x3 x5 I J) else (if ¬ (I 92 25) = 8 then (b_100_308 h24 x1 x2 x3 x5 I J) else ((m_110 4 (I 92 23) I J).bind (fun r22 => b_100_308 h24 x1 x2 x3 x5 r22.1 r22.2)))) = some R := h
  refine Rn.pu (st' := [.int x5]) dk_100_285 L_100 rfl ?_
  by_cases c20 : x5 = 0
  · rw [if_pos c20] at h
    refine Rn.i1t (t := 308) dk_100_287 rfl (decide_eq_true c20) ?_
    exact Rn.wk [0, 1, 2, 3, 4] rfl (p_100_308 hD H24 _ _ _ _ _ _ _ h)
  · rw [if_neg c20] at h
    refine Rn.i1f (t := 308) dk_100_287 rfl (decide_eq_false c20) ?_
    refine Rn.pu (st' := [.ref 92]) dk_100_290 L_100 rfl ?_
    refine Rn.gI dk_100_291 f_100_291.choose_spec sk_92 rfl ?_
    refine Rn.bp dk_100_294 cbp_8 ?_
    by_cases c21 : ¬ (I 92 25) = 8
    · rw [if_pos c21] at h
      refine Rn.i2t (t := 308) dk_100_296 rfl (decide_eq_true c21) ?_
      exact Rn.wk [0, 1, 2, 3, 4] rfl (p_100_308 hD H24 _ _ _ _ _ _ _ h)
    · rw [if_neg c21] at h
      refine Rn.i2f (t := 308) dk_100_296 rfl (decide_eq_false c21) ?_
      refine Rn.pu (st' := [.ref 92]) dk_100_299 L_100 rfl ?_
      refine Rn.ic dk_100_300 cic_4 ?_
      refine Rn.pu (st' := [.ref 92, .int 4, .ref 92]) dk_100_301 L_100 rfl ?_
      refine Rn.gI dk_100_302 f_100_302.choose_spec sk_92 rfl ?_
      obtain ⟨r22, e23, h⟩ := bindS h
      refine Rn.cvV (p := 92) (As := [.int 4, .int (I 92 23)]) (rest := []) dk_100_305 ck_100_305.choose_spec rfl sk_92 rfl (x_110 (Nat.le_trans (Nat.le_of_ble_eq_true rfl) hD) e23) ?_
      exact Rn.wk [0, 1, 2, 3, 4] rfl (p_100_308 hD H24 _ _ _ _ _ _ _ h)
def b_100_225 (h24 : Int32 → Int32 → dI → dJ → Option (Int32 × dI × dJ)) (x1 : Int32) (x2 : Int32) (x3 : Int32) (x4 : Int32) (s0 : Int32) (I : dI) (J : dJ) : Option (Int32 × dI × dJ) := if ¬ x4 = 0 then (if ¬ (I 92 22) = 0 then (if ¬ x3 = 0 then (b_100_285 h24 x1 x2 x3 s0 I J) else (if ¬ x1 = 40 then (b_100_285 h24 x1 x2 x3 s0 I J) else ((m_110 3 (I 92 23) I J).bind (fun r21 => b_100_308 h24 x1 x2 x3 s0 r21.1 r21.2)))) else ((m_110 2 (I 92 23) I J).bind (fun r23 => b_100_308 h24 x1 x2 x3 s0 r23.1 r23.2))) else ((m_110 1 (I 92 23) I J).bind (fun r25 => b_100_308 h24 x1 x2 x3 s0 r25.1 r25.2))
theorem p_100_225 {Q : Nat → Option Nat} {D : Nat} (hD : 4 ≤ D) {h24 : Int32 → Int32 → dI → dJ → Option (Int32 × dI × dJ)} (H24 : ∀ (x1 : Int32) (x2 : Int32) (I : dI) (J : dJ) (R : (Int32 × dI × dJ)), h24 x1 x2 I J = some R → Rn Q D 100 24 [(0, .ref 92), (1, .int x1), (2, .int x2)] [] I J (some (.int R.1)) R.2.1 R.2.2) (x1 : Int32) (x2 : Int32) (x3 : Int32) (x4 : Int32) (s0 : Int32) (I : dI) (J : dJ) (R : (Int32 × dI × dJ)) (h : b_100_225 h24 x1 x2 x3 x4 s0 I J = some R) : Rn Q D 100 225 [(0, .ref 92), (1, .int x1), (2, .int x2), (3, .int x3), (4, .int x4)] [.int s0] I J (some (.int R.1)) R.2.1 R.2.2 := by
  replace h : (if ¬ x4 = 0 then (if ¬ (I 92 22) = 0 then (if ¬ x3 = 0 then (b_100_285 h24 x1 x2 x3 s0 I J) else (if ¬ x1 = 40 then (b_100_285 h24 x1 x2 x3 s0 I J) else ((m_110 3 (I 92 23) I J).bind (fun r21 => b_100_308 h24 x1 x2 x3 s0 r21.1 r21.2)))) else ((m_110 2 (I 92 23) I J).bind (fun r23 => b_100_308 h24 x1 x2 x3 s0 r23.1 r23.2))) else ((m_110 1 (I 92 23) I J).bind (fun r25 => b_100_308 h24 x1 x2 x3 s0 r25.1 r25.2))) = some R := h
  refine Rn.pu (ls' := [(5, .int s0), (0, .ref 92), (1, .int x1), (2, .int x2), (3, .int x3), (4, .int x4)]) (st' := []) dk_100_225 L_100 rfl ?_
  refine Rn.pu (st' := [.int x4]) dk_100_227 L_100 rfl ?_
  by_cases c17 : ¬ x4 = 0
  · rw [if_pos c17] at h
    refine Rn.i1t (t := 244) dk_100_229 rfl (decide_eq_true c17) ?_
    refine Rn.pu (st' := [.ref 92]) dk_100_244 L_100 rfl ?_
    refine Rn.gI dk_100_245 f_100_245.choose_spec sk_92 rfl ?_
    by_cases c18 : ¬ (I 92 22) = 0
    · rw [if_pos c18] at h
      refine Rn.i1t (t := 263) dk_100_248 rfl (decide_eq_true c18) ?_
      refine Rn.pu (st' := [.int x3]) dk_100_263 L_100 rfl ?_
      by_cases c19 : ¬ x3 = 0
      · rw [if_pos c19] at h
        refine Rn.i1t (t := 285) dk_100_264 rfl (decide_eq_true c19) ?_
        exact Rn.wk [1, 2, 3, 4, 0] rfl (p_100_285 hD H24 _ _ _ _ _ _ _ h)
      · rw [if_neg c19] at h
        refine Rn.i1f (t := 285) dk_100_264 rfl (decide_eq_false c19) ?_
        refine Rn.pu (st' := [.int x1]) dk_100_267 L_100 rfl ?_
        refine Rn.bp dk_100_268 cbp_40 ?_
        by_cases c20 : ¬ x1 = 40
        · rw [if_pos c20] at h
          refine Rn.i2t (t := 285) dk_100_270 rfl (decide_eq_true c20) ?_
          exact Rn.wk [1, 2, 3, 4, 0] rfl (p_100_285 hD H24 _ _ _ _ _ _ _ h)
        · rw [if_neg c20] at h
          refine Rn.i2f (t := 285) dk_100_270 rfl (decide_eq_false c20) ?_
          refine Rn.pu (st' := [.ref 92]) dk_100_273 L_100 rfl ?_
          refine Rn.ic dk_100_274 cic_3 ?_
          refine Rn.pu (st' := [.ref 92, .int 3, .ref 92]) dk_100_275 L_100 rfl ?_
          refine Rn.gI dk_100_276 f_100_276.choose_spec sk_92 rfl ?_
          obtain ⟨r21, e22, h⟩ := bindS h
          refine Rn.cvV (p := 92) (As := [.int 3, .int (I 92 23)]) (rest := []) dk_100_279 ck_100_279.choose_spec rfl sk_92 rfl (x_110 (Nat.le_trans (Nat.le_of_ble_eq_true rfl) hD) e22) ?_
          refine Rn.gt (t := 308) dk_100_282 rfl ?_
          exact Rn.wk [1, 2, 3, 4, 0] rfl (p_100_308 hD H24 _ _ _ _ _ _ _ h)
    · rw [if_neg c18] at h
      refine Rn.i1f (t := 263) dk_100_248 rfl (decide_eq_false c18) ?_
      refine Rn.pu (st' := [.ref 92]) dk_100_251 L_100 rfl ?_
      refine Rn.ic dk_100_252 cic_2 ?_
      refine Rn.pu (st' := [.ref 92, .int 2, .ref 92]) dk_100_253 L_100 rfl ?_
      refine Rn.gI dk_100_254 f_100_254.choose_spec sk_92 rfl ?_
      obtain ⟨r23, e24, h⟩ := bindS h
      refine Rn.cvV (p := 92) (As := [.int 2, .int (I 92 23)]) (rest := []) dk_100_257 ck_100_257.choose_spec rfl sk_92 rfl (x_110 (Nat.le_trans (Nat.le_of_ble_eq_true rfl) hD) e24) ?_
      refine Rn.gt (t := 308) dk_100_260 rfl ?_
      exact Rn.wk [1, 2, 3, 4, 0] rfl (p_100_308 hD H24 _ _ _ _ _ _ _ h)
  · rw [if_neg c17] at h
    refine Rn.i1f (t := 244) dk_100_229 rfl (decide_eq_false c17) ?_
    refine Rn.pu (st' := [.ref 92]) dk_100_232 L_100 rfl ?_
    refine Rn.ic dk_100_233 cic_1 ?_
    refine Rn.pu (st' := [.ref 92, .int 1, .ref 92]) dk_100_234 L_100 rfl ?_
    refine Rn.gI dk_100_235 f_100_235.choose_spec sk_92 rfl ?_
    obtain ⟨r25, e26, h⟩ := bindS h
    refine Rn.cvV (p := 92) (As := [.int 1, .int (I 92 23)]) (rest := []) dk_100_238 ck_100_238.choose_spec rfl sk_92 rfl (x_110 (Nat.le_trans (Nat.le_of_ble_eq_true rfl) hD) e26) ?_
    refine Rn.gt (t := 308) dk_100_241 rfl ?_
    exact Rn.wk [1, 2, 3, 4, 0] rfl (p_100_308 hD H24 _ _ _ _ _ _ _ h)
def b_100_220 (h24 : Int32 → Int32 → dI → dJ → Option (Int32 × dI × dJ)) (x1 : Int32) (x2 : Int32) (x3 : Int32) (x4 : Int32) (I : dI) (J : dJ) : Option (Int32 × dI × dJ) := b_100_225 h24 x1 x2 x3 x4 1 I J
theorem p_100_220 {Q : Nat → Option Nat} {D : Nat} (hD : 4 ≤ D) {h24 : Int32 → Int32 → dI → dJ → Option (Int32 × dI × dJ)} (H24 : ∀ (x1 : Int32) (x2 : Int32) (I : dI) (J : dJ) (R : (Int32 × dI × dJ)), h24 x1 x2 I J = some R → Rn Q D 100 24 [(0, .ref 92), (1, .int x1), (2, .int x2)] [] I J (some (.int R.1)) R.2.1 R.2.2) (x1 : Int32) (x2 : Int32) (x3 : Int32) (x4 : Int32) (I : dI) (J : dJ) (R : (Int32 × dI × dJ)) (h : b_100_220 h24 x1 x2 x3 x4 I J = some R) : Rn Q D 100 220 [(0, .ref 92), (1, .int x1), (2, .int x2), (3, .int x3), (4, .int x4)] [] I J (some (.int R.1)) R.2.1 R.2.2 := by
  replace h : (b_100_225 h24 x1 x2 x3 x4 1 I J) = some R := h
  refine Rn.ic dk_100_220 cic_1 ?_
  refine Rn.gt (t := 225) dk_100_221 rfl ?_
  exact Rn.wk [0, 1, 2, 3, 4] rfl (p_100_225 hD H24 _ _ _ _ _ _ _ _ h)
def b_100_200 (h24 : Int32 → Int32 → dI → dJ → Option (Int32 × dI × dJ)) (x1 : Int32) (x2 : Int32) (x3 : Int32) (s0 : Int32) (I : dI) (J : dJ) : Option (Int32 × dI × dJ) := if (I 92 22) = 30 then (b_100_220 h24 x1 x2 x3 s0 I J) else (if ¬ (I 92 22) = 32 then (b_100_225 h24 x1 x2 x3 s0 0 I J) else (b_100_220 h24 x1 x2 x3 s0 I J))
theorem p_100_200 {Q : Nat → Option Nat} {D : Nat} (hD : 4 ≤ D) {h24 : Int32 → Int32 → dI → dJ → Option (Int32 × dI × dJ)} (H24 : ∀ (x1 : Int32) (x2 : Int32) (I : dI) (J : dJ) (R : (Int32 × dI × dJ)), h24 x1 x2 I J = some R → Rn Q D 100 24 [(0, .ref 92), (1, .int x1), (2, .int x2)] [] I J (some (.int R.1)) R.2.1 R.2.2) (x1 : Int32) (x2 : Int32) (x3 : Int32) (s0 : Int32) (I : dI) (J : dJ) (R : (Int32 × dI × dJ)) (h : b_100_200 h24 x1 x2 x3 s0 I J = some R) : Rn Q D 100 200 [(0, .ref 92), (1, .int x1), (2, .int x2), (3, .int x3)] [.int s0] I J (some (.int R.1)) R.2.1 R.2.2 := by
  replace h : (if (I 92 22) = 30 then (b_100_220 h24 x1 x2 x3 s0 I J) else (if ¬ (I 92 22) = 32 then (b_100_225 h24 x1 x2 x3 s0 0 I J) else (b_100_220 h24 x1 x2 x3 s0 I J))) = some R := h
  refine Rn.pu (ls' := [(4, .int s0), (0, .ref 92), (1, .int x1), (2, .int x2), (3, .int x3)]) (st' := []) dk_100_200 L_100 rfl ?_
  refine Rn.pu (st' := [.ref 92]) dk_100_202 L_100 rfl ?_
  refine Rn.gI dk_100_203 f_100_203.choose_spec sk_92 rfl ?_
  refine Rn.bp dk_100_206 cbp_30 ?_
  by_cases c16 : (I 92 22) = 30
  · rw [if_pos c16] at h
    refine Rn.i2t (t := 220) dk_100_208 rfl (decide_eq_true c16) ?_
    exact Rn.wk [1, 2, 3, 4, 0] rfl (p_100_220 hD H24 _ _ _ _ _ _ _ h)
  · rw [if_neg c16] at h
    refine Rn.i2f (t := 220) dk_100_208 rfl (decide_eq_false c16) ?_
    refine Rn.pu (st' := [.ref 92]) dk_100_211 L_100 rfl ?_
    refine Rn.gI dk_100_212 f_100_212.choose_spec sk_92 rfl ?_
    refine Rn.bp dk_100_215 cbp_32 ?_
    by_cases c17 : ¬ (I 92 22) = 32
    · rw [if_pos c17] at h
      refine Rn.i2t (t := 224) dk_100_217 rfl (decide_eq_true c17) ?_
      refine Rn.ic dk_100_224 cic_0 ?_
      exact Rn.wk [1, 2, 3, 4, 0] rfl (p_100_225 hD H24 _ _ _ _ _ _ _ _ h)
    · rw [if_neg c17] at h
      refine Rn.i2f (t := 224) dk_100_217 rfl (decide_eq_false c17) ?_
      exact Rn.wk [1, 2, 3, 4, 0] rfl (p_100_220 hD H24 _ _ _ _ _ _ _ h)
def b_100_199 (h24 : Int32 → Int32 → dI → dJ → Option (Int32 × dI × dJ)) (x1 : Int32) (x2 : Int32) (x3 : Int32) (I : dI) (J : dJ) : Option (Int32 × dI × dJ) := b_100_200 h24 x1 x2 x3 0 I J
theorem p_100_199 {Q : Nat → Option Nat} {D : Nat} (hD : 4 ≤ D) {h24 : Int32 → Int32 → dI → dJ → Option (Int32 × dI × dJ)} (H24 : ∀ (x1 : Int32) (x2 : Int32) (I : dI) (J : dJ) (R : (Int32 × dI × dJ)), h24 x1 x2 I J = some R → Rn Q D 100 24 [(0, .ref 92), (1, .int x1), (2, .int x2)] [] I J (some (.int R.1)) R.2.1 R.2.2) (x1 : Int32) (x2 : Int32) (x3 : Int32) (I : dI) (J : dJ) (R : (Int32 × dI × dJ)) (h : b_100_199 h24 x1 x2 x3 I J = some R) : Rn Q D 100 199 [(0, .ref 92), (1, .int x1), (2, .int x2), (3, .int x3)] [] I J (some (.int R.1)) R.2.1 R.2.2 := by
  replace h : (b_100_200 h24 x1 x2 x3 0 I J) = some R := h
  refine Rn.ic dk_100_199 cic_0 ?_
  exact Rn.wk [0, 1, 2, 3] rfl (p_100_200 hD H24 _ _ _ _ _ _ _ h)
def b_100_195 (h24 : Int32 → Int32 → dI → dJ → Option (Int32 × dI × dJ)) (x1 : Int32) (x2 : Int32) (x3 : Int32) (I : dI) (J : dJ) : Option (Int32 × dI × dJ) := b_100_200 h24 x1 x2 x3 1 I J
theorem p_100_195 {Q : Nat → Option Nat} {D : Nat} (hD : 4 ≤ D) {h24 : Int32 → Int32 → dI → dJ → Option (Int32 × dI × dJ)} (H24 : ∀ (x1 : Int32) (x2 : Int32) (I : dI) (J : dJ) (R : (Int32 × dI × dJ)), h24 x1 x2 I J = some R → Rn Q D 100 24 [(0, .ref 92), (1, .int x1), (2, .int x2)] [] I J (some (.int R.1)) R.2.1 R.2.2) (x1 : Int32) (x2 : Int32) (x3 : Int32) (I : dI) (J : dJ) (R : (Int32 × dI × dJ)) (h : b_100_195 h24 x1 x2 x3 I J = some R) : Rn Q D 100 195 [(0, .ref 92), (1, .int x1), (2, .int x2), (3, .int x3)] [] I J (some (.int R.1)) R.2.1 R.2.2 := by
  replace h : (b_100_200 h24 x1 x2 x3 1 I J) = some R := h
  refine Rn.ic dk_100_195 cic_1 ?_
  refine Rn.gt (t := 200) dk_100_196 rfl ?_
  exact Rn.wk [0, 1, 2, 3] rfl (p_100_200 hD H24 _ _ _ _ _ _ _ h)
def b_100_192 (h24 : Int32 → Int32 → dI → dJ → Option (Int32 × dI × dJ)) (x1 : Int32) (x2 : Int32) (x3 : Int32) (s0 : Int32) (s1 : Int32) (I : dI) (J : dJ) : Option (Int32 × dI × dJ) := if ¬ s1 = s0 then (b_100_199 h24 x1 x2 x3 I J) else (b_100_195 h24 x1 x2 x3 I J)
theorem p_100_192 {Q : Nat → Option Nat} {D : Nat} (hD : 4 ≤ D) {h24 : Int32 → Int32 → dI → dJ → Option (Int32 × dI × dJ)} (H24 : ∀ (x1 : Int32) (x2 : Int32) (I : dI) (J : dJ) (R : (Int32 × dI × dJ)), h24 x1 x2 I J = some R → Rn Q D 100 24 [(0, .ref 92), (1, .int x1), (2, .int x2)] [] I J (some (.int R.1)) R.2.1 R.2.2) (x1 : Int32) (x2 : Int32) (x3 : Int32) (s0 : Int32) (s1 : Int32) (I : dI) (J : dJ) (R : (Int32 × dI × dJ)) (h : b_100_192 h24 x1 x2 x3 s0 s1 I J = some R) : Rn Q D 100 192 [(0, .ref 92), (1, .int x1), (2, .int x2), (3, .int x3)] [.int s0, .int s1] I J (some (.int R.1)) R.2.1 R.2.2 := by
  replace h : (if ¬ s1 = s0 then (b_100_199 h24 x1 x2 x3 I J) else (b_100_195 h24 x1 x2 x3 I J)) = some R := h
  by_cases c19 : ¬ s1 = s0
  · rw [if_pos c19] at h
    refine Rn.i2t (t := 199) dk_100_192 rfl (decide_eq_true c19) ?_
    exact Rn.wk [0, 1, 2, 3] rfl (p_100_199 hD H24 _ _ _ _ _ _ h)
  · rw [if_neg c19] at h
    refine Rn.i2f (t := 199) dk_100_192 rfl (decide_eq_false c19) ?_
    exact Rn.wk [0, 1, 2, 3] rfl (p_100_195 hD H24 _ _ _ _ _ _ h)
def b_100_127 (h24 : Int32 → Int32 → dI → dJ → Option (Int32 × dI × dJ)) (x1 : Int32) (x2 : Int32) (s0 : Int32) (I : dI) (J : dJ) : Option (Int32 × dI × dJ) := if (I 92 22) = 34 then (b_100_199 h24 x1 x2 s0 I J) else (if ¬ x2 = 0 then (if ¬ x2 = 1 then (if ¬ x2 = 2 then (b_100_192 h24 x1 x2 s0 30 (I 92 22) I J) else (b_100_192 h24 x1 x2 s0 32 (I 92 22) I J)) else ((m_109 (I 92 22) I J).bind (fun r19 => if ¬ r19 = 0 then (b_100_195 h24 x1 x2 s0 I J) else (if s0 = 0 then (b_100_199 h24 x1 x2 s0 I J) else (b_100_195 h24 x1 x2 s0 I J))))) else ((m_108 (I 92 22) I J).bind (fun r23 => if r23 = 0 then (b_100_199 h24 x1 x2 s0 I J) else (b_100_195 h24 x1 x2 s0 I J))))
theorem p_100_127 {Q : Nat → Option Nat} {D : Nat} (hD : 4 ≤ D) {h24 : Int32 → Int32 → dI → dJ → Option (Int32 × dI × dJ)} (H24 : ∀ (x1 : Int32) (x2 : Int32) (I : dI) (J : dJ) (R : (Int32 × dI × dJ)), h24 x1 x2 I J = some R → Rn Q D 100 24 [(0, .ref 92), (1, .int x1), (2, .int x2)] [] I J (some (.int R.1)) R.2.1 R.2.2) (x1 : Int32) (x2 : Int32) (s0 : Int32) (I : dI) (J : dJ) (R : (Int32 × dI × dJ)) (h : b_100_127 h24 x1 x2 s0 I J = some R) : Rn Q D 100 127 [(0, .ref 92), (1, .int x1), (2, .int x2)] [.int s0] I J (some (.int R.1)) R.2.1 R.2.2 := by
  replace h : (if (I 92 22) = 34 then (b_100_199 h24 x1 x2 s0 I J) else (if ¬ x2 = 0 then (if ¬ x2 = 1 then (if ¬ x2 = 2 then (b_100_192 h24 x1 x2 s0 30 (I 92 22) I J) else (b_100_192 h24 x1 x2 s0 32 (I 92 22) I J)) else ((m_109 (I 92 22) I J).bind (fun r19 => if ¬ r19 = 0 then (b_100_195 h24 x1 x2 s0 I J) else (if s0 = 0 then (b_100_199 h24 x1 x2 s0 I J) else (b_100_195 h24 x1 x2 s0 I J))))) else ((m_108 (I 92 22) I J).bind (fun r23 => if r23 = 0 then (b_100_199 h24 x1 x2 s0 I J) else (b_100_195 h24 x1 x2 s0 I J))))) = some R := h
  refine Rn.pu (ls' := [(3, .int s0), (0, .ref 92), (1, .int x1), (2, .int x2)]) (st' := []) dk_100_127 L_100 rfl ?_
  refine Rn.pu (st' := [.ref 92]) dk_100_128 L_100 rfl ?_
  refine Rn.gI dk_100_129 f_100_129.choose_spec sk_92 rfl ?_
  refine Rn.bp dk_100_132 cbp_34 ?_
  by_cases c15 : (I 92 22) = 34
  · rw [if_pos c15] at h
    refine Rn.i2t (t := 199) dk_100_134 rfl (decide_eq_true c15) ?_
    exact Rn.wk [1, 2, 3, 0] rfl (p_100_199 hD H24 _ _ _ _ _ _ h)
  · rw [if_neg c15] at h
    refine Rn.i2f (t := 199) dk_100_134 rfl (decide_eq_false c15) ?_
    refine Rn.pu (st' := [.int x2]) dk_100_137 L_100 rfl ?_
    by_cases c16 : ¬ x2 = 0
    · rw [if_pos c16] at h
      refine Rn.i1t (t := 154) dk_100_138 rfl (decide_eq_true c16) ?_
      refine Rn.pu (st' := [.int x2]) dk_100_154 L_100 rfl ?_
      refine Rn.ic dk_100_155 cic_1 ?_
      by_cases c17 : ¬ x2 = 1
      · rw [if_pos c17] at h
        refine Rn.i2t (t := 176) dk_100_156 rfl (decide_eq_true c17) ?_
        refine Rn.pu (st' := [.ref 92]) dk_100_176 L_100 rfl ?_
        refine Rn.gI dk_100_177 f_100_177.choose_spec sk_92 rfl ?_
        refine Rn.pu (st' := [.int x2, .int (I 92 22)]) dk_100_180 L_100 rfl ?_
        refine Rn.ic dk_100_181 cic_2 ?_
        by_cases c18 : ¬ x2 = 2
        · rw [if_pos c18] at h
          refine Rn.i2t (t := 190) dk_100_182 rfl (decide_eq_true c18) ?_
          refine Rn.bp dk_100_190 cbp_30 ?_
          exact Rn.wk [1, 2, 3, 0] rfl (p_100_192 hD H24 _ _ _ _ _ _ _ _ h)
        · rw [if_neg c18] at h
          refine Rn.i2f (t := 190) dk_100_182 rfl (decide_eq_false c18) ?_
          refine Rn.bp dk_100_185 cbp_32 ?_
          refine Rn.gt (t := 192) dk_100_187 rfl ?_
          exact Rn.wk [1, 2, 3, 0] rfl (p_100_192 hD H24 _ _ _ _ _ _ _ _ h)
      · rw [if_neg c17] at h
        refine Rn.i2f (t := 176) dk_100_156 rfl (decide_eq_false c17) ?_
        refine Rn.pu (st' := [.ref 92]) dk_100_159 L_100 rfl ?_
        refine Rn.gI dk_100_160 f_100_160.choose_spec sk_92 rfl ?_
        obtain ⟨r19, e20, h⟩ := bindS h
        refine Rn.csI (As := [.int (I 92 22)]) (rest := []) dk_100_163 ck_100_163.choose_spec rfl (x_109 (Nat.le_trans (Nat.le_of_ble_eq_true rfl) hD) e20) ?_
        by_cases c21 : ¬ r19 = 0
        · rw [if_pos c21] at h
          refine Rn.i1t (t := 195) dk_100_166 rfl (decide_eq_true c21) ?_
          exact Rn.wk [1, 2, 3, 0] rfl (p_100_195 hD H24 _ _ _ _ _ _ h)
        · rw [if_neg c21] at h
          refine Rn.i1f (t := 195) dk_100_166 rfl (decide_eq_false c21) ?_
          refine Rn.pu (st' := [.int s0]) dk_100_169 L_100 rfl ?_
          by_cases c22 : s0 = 0
          · rw [if_pos c22] at h
            refine Rn.i1t (t := 199) dk_100_170 rfl (decide_eq_true c22) ?_
            exact Rn.wk [1, 2, 3, 0] rfl (p_100_199 hD H24 _ _ _ _ _ _ h)
          · rw [if_neg c22] at h
            refine Rn.i1f (t := 199) dk_100_170 rfl (decide_eq_false c22) ?_
            refine Rn.gt (t := 195) dk_100_173 rfl ?_
            exact Rn.wk [1, 2, 3, 0] rfl (p_100_195 hD H24 _ _ _ _ _ _ h)
    · rw [if_neg c16] at h
      refine Rn.i1f (t := 154) dk_100_138 rfl (decide_eq_false c16) ?_
      refine Rn.pu (st' := [.ref 92]) dk_100_141 L_100 rfl ?_
      refine Rn.gI dk_100_142 f_100_142.choose_spec sk_92 rfl ?_
      obtain ⟨r23, e24, h⟩ := bindS h
      refine Rn.csI (As := [.int (I 92 22)]) (rest := []) dk_100_145 ck_100_145.choose_spec rfl (x_108 (Nat.le_trans (Nat.le_of_ble_eq_true rfl) hD) e24) ?_
      by_cases c25 : r23 = 0
      · rw [if_pos c25] at h
        refine Rn.i1t (t := 199) dk_100_148 rfl (decide_eq_true c25) ?_
        exact Rn.wk [1, 2, 3, 0] rfl (p_100_199 hD H24 _ _ _ _ _ _ h)
      · rw [if_neg c25] at h
        refine Rn.i1f (t := 199) dk_100_148 rfl (decide_eq_false c25) ?_
        refine Rn.gt (t := 195) dk_100_151 rfl ?_
        exact Rn.wk [1, 2, 3, 0] rfl (p_100_195 hD H24 _ _ _ _ _ _ h)
def b_100_126 (h24 : Int32 → Int32 → dI → dJ → Option (Int32 × dI × dJ)) (x1 : Int32) (x2 : Int32) (I : dI) (J : dJ) : Option (Int32 × dI × dJ) := b_100_127 h24 x1 x2 0 I J
theorem p_100_126 {Q : Nat → Option Nat} {D : Nat} (hD : 4 ≤ D) {h24 : Int32 → Int32 → dI → dJ → Option (Int32 × dI × dJ)} (H24 : ∀ (x1 : Int32) (x2 : Int32) (I : dI) (J : dJ) (R : (Int32 × dI × dJ)), h24 x1 x2 I J = some R → Rn Q D 100 24 [(0, .ref 92), (1, .int x1), (2, .int x2)] [] I J (some (.int R.1)) R.2.1 R.2.2) (x1 : Int32) (x2 : Int32) (I : dI) (J : dJ) (R : (Int32 × dI × dJ)) (h : b_100_126 h24 x1 x2 I J = some R) : Rn Q D 100 126 [(0, .ref 92), (1, .int x1), (2, .int x2)] [] I J (some (.int R.1)) R.2.1 R.2.2 := by
  replace h : (b_100_127 h24 x1 x2 0 I J) = some R := h
  refine Rn.ic dk_100_126 cic_0 ?_
  exact Rn.wk [0, 1, 2] rfl (p_100_127 hD H24 _ _ _ _ _ _ h)
def b_100_119 (h24 : Int32 → Int32 → dI → dJ → Option (Int32 × dI × dJ)) (x1 : Int32) (x2 : Int32) (s0 : Int32) (s1 : Int32) (I : dI) (J : dJ) : Option (Int32 × dI × dJ) := if ¬ s1 = s0 then (b_100_126 h24 x1 x2 I J) else (b_100_127 h24 x1 x2 1 I J)
theorem p_100_119 {Q : Nat → Option Nat} {D : Nat} (hD : 4 ≤ D) {h24 : Int32 → Int32 → dI → dJ → Option (Int32 × dI × dJ)} (H24 : ∀ (x1 : Int32) (x2 : Int32) (I : dI) (J : dJ) (R : (Int32 × dI × dJ)), h24 x1 x2 I J = some R → Rn Q D 100 24 [(0, .ref 92), (1, .int x1), (2, .int x2)] [] I J (some (.int R.1)) R.2.1 R.2.2) (x1 : Int32) (x2 : Int32) (s0 : Int32) (s1 : Int32) (I : dI) (J : dJ) (R : (Int32 × dI × dJ)) (h : b_100_119 h24 x1 x2 s0 s1 I J = some R) : Rn Q D 100 119 [(0, .ref 92), (1, .int x1), (2, .int x2)] [.int s0, .int s1] I J (some (.int R.1)) R.2.1 R.2.2 := by
  replace h : (if ¬ s1 = s0 then (b_100_126 h24 x1 x2 I J) else (b_100_127 h24 x1 x2 1 I J)) = some R := h
  by_cases c19 : ¬ s1 = s0
  · rw [if_pos c19] at h
    refine Rn.i2t (t := 126) dk_100_119 rfl (decide_eq_true c19) ?_
    exact Rn.wk [0, 1, 2] rfl (p_100_126 hD H24 _ _ _ _ _ h)
  · rw [if_neg c19] at h
    refine Rn.i2f (t := 126) dk_100_119 rfl (decide_eq_false c19) ?_
    refine Rn.ic dk_100_122 cic_1 ?_
    refine Rn.gt (t := 127) dk_100_123 rfl ?_
    exact Rn.wk [0, 1, 2] rfl (p_100_127 hD H24 _ _ _ _ _ _ h)
def b_100_31 (h24 : Int32 → Int32 → dI → dJ → Option (Int32 × dI × dJ)) : Nat → Int32 → Int32 → dI → dJ → Option (Int32 × dI × dJ)
  | 0, _, _, _, _ => none
  | n + 1, x1, x2, I, J => (m_101 (I 92 21) I J).bind (fun r8 => if ¬ r8 = 32 then (if ¬ (I 92 21) = (I 92 1) then ((m_102 I J).bind (fun r12 => if ¬ x2 = 1 then (b_100_126 h24 x1 x2 r12.1 r12.2) else (if (r12.1 92 25) ≤ 0 then (b_100_126 h24 x1 x2 r12.1 r12.2) else (if ¬ (((r12.1 92 25) - 1) < 0 ∨ 10 ≤ Int32.toNatClampNeg ((r12.1 92 25) - 1)) then (if ¬ ((r12.1 112 (Int32.toNatClampNeg ((r12.1 92 25) - 1))) < 0 ∨ 120 ≤ Int32.toNatClampNeg (r12.1 112 (Int32.toNatClampNeg ((r12.1 92 25) - 1)))) then (if ¬ (r12.1 110 (Int32.toNatClampNeg (r12.1 112 (Int32.toNatClampNeg ((r12.1 92 25) - 1))))) = 30 then (b_100_119 h24 x1 x2 33 (r12.1 92 22) r12.1 r12.2) else (b_100_119 h24 x1 x2 31 (r12.1 92 22) r12.1 r12.2)) else none) else none)))) else (b_100_426 x1 x2 I J)) else (lt_ (sI I 92 21 ((I 92 21) + 1)) (fun I19 => (b_100_31 h24 n) x1 x2 I19 J)))
theorem p_100_31 {Q : Nat → Option Nat} {D : Nat} (hD : 4 ≤ D) {h24 : Int32 → Int32 → dI → dJ → Option (Int32 × dI × dJ)} (H24 : ∀ (x1 : Int32) (x2 : Int32) (I : dI) (J : dJ) (R : (Int32 × dI × dJ)), h24 x1 x2 I J = some R → Rn Q D 100 24 [(0, .ref 92), (1, .int x1), (2, .int x2)] [] I J (some (.int R.1)) R.2.1 R.2.2) : ∀ (n : Nat) (x1 : Int32) (x2 : Int32) (I : dI) (J : dJ) (R : (Int32 × dI × dJ)), b_100_31 h24 n x1 x2 I J = some R → Rn Q D 100 31 [(0, .ref 92), (1, .int x1), (2, .int x2)] [] I J (some (.int R.1)) R.2.1 R.2.2 := by
  intro n
  induction n with
  | zero => intro x1 x2 I J R h; exact absurd h (by simp [b_100_31])
  | succ n ih =>
    intro x1 x2 I J R h
    replace h : ((m_101 (I 92 21) I J).bind (fun r8 => if ¬ r8 = 32 then (if ¬ (I 92 21) = (I 92 1) then ((m_102 I J).bind (fun r12 => if ¬ x2 = 1 then (b_100_126 h24 x1 x2 r12.1 r12.2) else (if (r12.1 92 25) ≤ 0 then (b_100_126 h24 x1 x2 r12.1 r12.2) else (if ¬ (((r12.1 92 25) - 1) < 0 ∨ 10 ≤ Int32.toNatClampNeg ((r12.1 92 25) - 1)) then (if ¬ ((r12.1 112 (Int32.toNatClampNeg ((r12.1 92 25) - 1))) < 0 ∨ 120 ≤ Int32.toNatClampNeg (r12.1 112 (Int32.toNatClampNeg ((r12.1 92 25) - 1)))) then (if ¬ (r12.1 110 (Int32.toNatClampNeg (r12.1 112 (Int32.toNatClampNeg ((r12.1 92 25) - 1))))) = 30 then (b_100_119 h24 x1 x2 33 (r12.1 92 22) r12.1 r12.2) else (b_100_119 h24 x1 x2 31 (r12.1 92 22) r12.1 r12.2)) else none) else none)))) else (b_100_426 x1 x2 I J)) else (lt_ (sI I 92 21 ((I 92 21) + 1)) (fun I19 => (b_100_31 h24 n) x1 x2 I19 J)))) = some R := h
    refine Rn.pu (st' := [.ref 92]) dk_100_31 L_100 rfl ?_
    refine Rn.pu (st' := [.ref 92, .ref 92]) dk_100_32 L_100 rfl ?_
    refine Rn.gI dk_100_33 f_100_33.choose_spec sk_92 rfl ?_
    obtain ⟨r8, e9, h⟩ := bindS h
    refine Rn.cvI (p := 92) (As := [.int (I 92 21)]) (rest := []) dk_100_36 ck_100_36.choose_spec rfl sk_92 rfl (x_101 (Nat.le_trans (Nat.le_of_ble_eq_true rfl) hD) e9) ?_
    refine Rn.bp dk_100_39 cbp_32 ?_
    by_cases c10 : ¬ r8 = 32
    · rw [if_pos c10] at h
      refine Rn.i2t (t := 57) dk_100_41 rfl (decide_eq_true c10) ?_
      refine Rn.pu (st' := [.ref 92]) dk_100_57 L_100 rfl ?_
      refine Rn.gI dk_100_58 f_100_58.choose_spec sk_92 rfl ?_
      refine Rn.pu (st' := [.ref 92, .int (I 92 21)]) dk_100_61 L_100 rfl ?_
      refine Rn.gI dk_100_62 f_100_62.choose_spec sk_92 rfl ?_
      by_cases c11 : ¬ (I 92 21) = (I 92 1)
      · rw [if_pos c11] at h
        refine Rn.i2t (t := 71) dk_100_65 rfl (decide_eq_true c11) ?_
        refine Rn.pu (st' := [.ref 92]) dk_100_71 L_100 rfl ?_
        obtain ⟨r12, e13, h⟩ := bindS h
        refine Rn.cvV (p := 92) (As := []) (rest := []) dk_100_72 ck_100_72.choose_spec rfl sk_92 rfl (x_102 (Nat.le_trans (Nat.le_of_ble_eq_true rfl) hD) e13) ?_
        refine Rn.pu (st' := [.int x2]) dk_100_75 L_100 rfl ?_
        refine Rn.ic dk_100_76 cic_1 ?_
        by_cases c14 : ¬ x2 = 1
        · rw [if_pos c14] at h
          refine Rn.i2t (t := 126) dk_100_77 rfl (decide_eq_true c14) ?_
          exact Rn.wk [0, 1, 2] rfl (p_100_126 hD H24 _ _ _ _ _ h)
        · rw [if_neg c14] at h
          refine Rn.i2f (t := 126) dk_100_77 rfl (decide_eq_false c14) ?_
          refine Rn.pu (st' := [.ref 92]) dk_100_80 L_100 rfl ?_
          refine Rn.gI dk_100_81 f_100_81.choose_spec sk_92 rfl ?_
          by_cases c15 : (r12.1 92 25) ≤ 0
          · rw [if_pos c15] at h
            refine Rn.i1t (t := 126) dk_100_84 rfl (decide_eq_true c15) ?_
            exact Rn.wk [0, 1, 2] rfl (p_100_126 hD H24 _ _ _ _ _ h)
          · rw [if_neg c15] at h
            refine Rn.i1f (t := 126) dk_100_84 rfl (decide_eq_false c15) ?_
            refine Rn.pu (st' := [.ref 92]) dk_100_87 L_100 rfl ?_
            refine Rn.gI dk_100_88 f_100_88.choose_spec sk_92 rfl ?_
            refine Rn.pu (st' := [.ref 92, .int (r12.1 92 22)]) dk_100_91 L_100 rfl ?_
            refine Rn.gR (r := 110) dk_100_92 f_100_92.choose_spec sk_92 rfl ?_
            refine Rn.pu (st' := [.ref 92, .ref 110, .int (r12.1 92 22)]) dk_100_95 L_100 rfl ?_
            refine Rn.gR (r := 112) dk_100_96 f_100_96.choose_spec sk_92 rfl ?_
            refine Rn.pu (st' := [.ref 92, .ref 112, .ref 110, .int (r12.1 92 22)]) dk_100_99 L_100 rfl ?_
            refine Rn.gI dk_100_100 f_100_100.choose_spec sk_92 rfl ?_
            refine Rn.ic dk_100_103 cic_1 ?_
            refine Rn.pu (st' := [.int ((r12.1 92 25) - 1), .ref 112, .ref 110, .int (r12.1 92 22)]) dk_100_104 L_100 rfl ?_
            obtain ⟨c16, h⟩ := xm_if h
            refine Rn.iald dk_100_105 sk_112 c16 ?_
            obtain ⟨c17, h⟩ := xm_if h
            refine Rn.iald dk_100_106 sk_110 c17 ?_
            refine Rn.bp dk_100_107 cbp_30 ?_
            by_cases c18 : ¬ (r12.1 110 (Int32.toNatClampNeg (r12.1 112 (Int32.toNatClampNeg ((r12.1 92 25) - 1))))) = 30
            · rw [if_pos c18] at h
              refine Rn.i2t (t := 117) dk_100_109 rfl (decide_eq_true c18) ?_
              refine Rn.bp dk_100_117 cbp_33 ?_
              exact Rn.wk [0, 1, 2] rfl (p_100_119 hD H24 _ _ _ _ _ _ _ h)
            · rw [if_neg c18] at h
              refine Rn.i2f (t := 117) dk_100_109 rfl (decide_eq_false c18) ?_
              refine Rn.bp dk_100_112 cbp_31 ?_
              refine Rn.gt (t := 119) dk_100_114 rfl ?_
              exact Rn.wk [0, 1, 2] rfl (p_100_119 hD H24 _ _ _ _ _ _ _ h)
      · rw [if_neg c11] at h
        refine Rn.i2f (t := 71) dk_100_65 rfl (decide_eq_false c11) ?_
        refine Rn.gt (t := 426) dk_100_68 rfl ?_
        exact Rn.wk [0, 1, 2] rfl (p_100_426 hD _ _ _ _ _ h)
    · rw [if_neg c10] at h
      refine Rn.i2f (t := 57) dk_100_41 rfl (decide_eq_false c10) ?_
      refine Rn.pu (st' := [.ref 92]) dk_100_44 L_100 rfl ?_
      refine Rn.pu (st' := [.ref 92, .ref 92]) dk_100_45 L_100 rfl ?_
      refine Rn.gI dk_100_46 f_100_46.choose_spec sk_92 rfl ?_
      refine Rn.ic dk_100_49 cic_1 ?_
      refine Rn.pu (st' := [.int ((I 92 21) + 1), .ref 92]) dk_100_50 L_100 rfl ?_
      obtain ⟨I19, eI19, h⟩ := letS h
      refine Rn.pI dk_100_51 f_100_51.choose_spec.1 sk_92 rfl f_100_51.choose_spec.2 rfl rfl ?_
      rw [← eI19]
      refine Rn.gt (t := 31) dk_100_54 rfl ?_
      exact Rn.wk [0, 1, 2] rfl (ih _ _ _ _ _ h)
def b_100_24 : Nat → Int32 → Int32 → dI → dJ → Option (Int32 × dI × dJ)
  | 0, _, _, _, _ => none
  | n + 1, x1, x2, I, J => if ¬ (I 92 26) = 0 then (b_100_426 x1 x2 I J) else (b_100_31 (b_100_24 n) FU x1 x2 I J)
theorem p_100_24 {Q : Nat → Option Nat} {D : Nat} (hD : 4 ≤ D) : ∀ (n : Nat) (x1 : Int32) (x2 : Int32) (I : dI) (J : dJ) (R : (Int32 × dI × dJ)), b_100_24 n x1 x2 I J = some R → Rn Q D 100 24 [(0, .ref 92), (1, .int x1), (2, .int x2)] [] I J (some (.int R.1)) R.2.1 R.2.2 := by
  intro n
  induction n with
  | zero => intro x1 x2 I J R h; exact absurd h (by simp [b_100_24])
  | succ n ih =>
    intro x1 x2 I J R h
    replace h : (if ¬ (I 92 26) = 0 then (b_100_426 x1 x2 I J) else (b_100_31 (b_100_24 n) FU x1 x2 I J)) = some R := h
    refine Rn.pu (st' := [.ref 92]) dk_100_24 L_100 rfl ?_
    refine Rn.gI dk_100_25 f_100_25.choose_spec sk_92 rfl ?_
    by_cases c5 : ¬ (I 92 26) = 0
    · rw [if_pos c5] at h
      refine Rn.i1t (t := 426) dk_100_28 rfl (decide_eq_true c5) ?_
      exact Rn.wk [0, 1, 2] rfl (p_100_426 hD _ _ _ _ _ h)
    · rw [if_neg c5] at h
      refine Rn.i1f (t := 426) dk_100_28 rfl (decide_eq_false c5) ?_
      exact Rn.wk [0, 1, 2] rfl (p_100_31 hD ih FU _ _ _ _ _ h)
def b_100_0 (I : dI) (J : dJ) : Option (Int32 × dI × dJ) := lt_ (sI I 92 26 0) (fun I1 => lt_ (sI I1 92 25 0) (fun I2 => lt_ (sI I2 92 24 0) (fun I3 => lt_ (sI I3 92 21 0) (fun I4 => b_100_24 FU 0 0 I4 J))))
theorem p_100_0 {Q : Nat → Option Nat} {D : Nat} (hD : 4 ≤ D) (I : dI) (J : dJ) (R : (Int32 × dI × dJ)) (h : b_100_0 I J = some R) : Rn Q D 100 0 [(0, .ref 92)] [] I J (some (.int R.1)) R.2.1 R.2.2 := by
  replace h : (lt_ (sI I 92 26 0) (fun I1 => lt_ (sI I1 92 25 0) (fun I2 => lt_ (sI I2 92 24 0) (fun I3 => lt_ (sI I3 92 21 0) (fun I4 => b_100_24 FU 0 0 I4 J))))) = some R := h
  refine Rn.pu (st' := [.ref 92]) dk_100_0 L_100 rfl ?_
  refine Rn.pu (st' := [.ref 92, .ref 92]) dk_100_1 L_100 rfl ?_
  refine Rn.pu (st' := [.ref 92, .ref 92, .ref 92]) dk_100_2 L_100 rfl ?_
  refine Rn.pu (st' := [.ref 92, .ref 92, .ref 92, .ref 92]) dk_100_3 L_100 rfl ?_
  refine Rn.ic dk_100_4 cic_0 ?_
  refine Rn.pu (st' := [.int 0, .ref 92, .int 0, .ref 92, .ref 92, .ref 92]) dk_100_5 L_100 rfl ?_
  obtain ⟨I1, eI1, h⟩ := letS h
  refine Rn.pI dk_100_6 f_100_6.choose_spec.1 sk_92 rfl f_100_6.choose_spec.2 rfl rfl ?_
  rw [← eI1]
  refine Rn.pu (st' := [.int 0, .ref 92, .int 0, .ref 92, .ref 92]) dk_100_9 L_100 rfl ?_
  obtain ⟨I2, eI2, h⟩ := letS h
  refine Rn.pI dk_100_10 f_100_10.choose_spec.1 sk_92 rfl f_100_10.choose_spec.2 rfl rfl ?_
  rw [← eI2]
  refine Rn.pu (st' := [.int 0, .ref 92, .int 0, .ref 92]) dk_100_13 L_100 rfl ?_
  obtain ⟨I3, eI3, h⟩ := letS h
  refine Rn.pI dk_100_14 f_100_14.choose_spec.1 sk_92 rfl f_100_14.choose_spec.2 rfl rfl ?_
  rw [← eI3]
  obtain ⟨I4, eI4, h⟩ := letS h
  refine Rn.pI dk_100_17 f_100_17.choose_spec.1 sk_92 rfl f_100_17.choose_spec.2 rfl rfl ?_
  rw [← eI4]
  refine Rn.ic dk_100_20 cic_0 ?_
  refine Rn.pu (ls' := [(1, .int 0), (0, .ref 92)]) (st' := []) dk_100_21 L_100 rfl ?_
  refine Rn.ic dk_100_22 cic_0 ?_
  refine Rn.pu (ls' := [(2, .int 0), (1, .int 0), (0, .ref 92)]) (st' := []) dk_100_23 L_100 rfl ?_
  exact Rn.wk [2, 1, 0] rfl (p_100_24 hD FU _ _ _ _ _ h)
def m_100 (I : dI) (J : dJ) : Option (Int32 × dI × dJ) := b_100_0 I J
theorem x_100 {Q : Nat → Option Nat} {D : Nat} (hD : 5 ≤ D) {I : dI} {J : dJ} {R : (Int32 × dI × dJ)} (h : m_100 I J = some R) : Ex Q D 100 I J [.ref 92] (some (.int R.1)) R.2.1 R.2.2 := by
  obtain ⟨D, rfl⟩ : ∃ D', D = D' + 1 := ⟨D - 1, by omega⟩
  exact Ex.of (by decide) (by rw [L_100]; exact Nat.le_of_ble_eq_true rfl) (show xm_sub [(0, .ref 92)] [(0, .ref 92)] from xm_sub_of [0] [0] rfl rfl (by decide)) (p_100_0 (Nat.le_of_succ_le_succ hD) _ _ _ h)
