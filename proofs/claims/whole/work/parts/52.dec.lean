/-! Printed by wip/whole/gen_dec.py: methods read back. -/
-- ConditionDeskModel.scan()V
theorem L_102 : tb_mL 102 = 5 := by decide +kernel
theorem R_102 : tb_mr 102 = none := by decide +kernel
theorem dk_102_0 : decode (tb_mb 102) 0 = .ok (.aload_n 0, 1) := by decide +kernel
theorem dk_102_1 : decode (tb_mb 102) 1 = .ok (.aload_n 0, 1) := by decide +kernel
theorem dk_102_2 : decode (tb_mb 102) 2 = .ok (.getfield 102, 3) := by decide +kernel
theorem f_102_2 : ∃ b, tb_fr (tb_oc 102) 102 = some (9, 21, b) := ⟨_, rfl⟩
theorem dk_102_5 : decode (tb_mb 102) 5 = .ok (.invokevirtual 105, 3) := by decide +kernel
theorem ck_102_5 : ∃ b, tb_cr (tb_oc 102) 105 = some (0, 101, b, 1) := ⟨_, rfl⟩
theorem dk_102_8 : decode (tb_mb 102) 8 = .ok (.bipush (32), 2) := by decide +kernel
theorem dk_102_10 : decode (tb_mb 102) 10 = .ok (.if_icmp .ne (16), 3) := by decide +kernel
theorem dk_102_26 : decode (tb_mb 102) 26 = .ok (.aload_n 0, 1) := by decide +kernel
theorem dk_102_27 : decode (tb_mb 102) 27 = .ok (.aload_n 0, 1) := by decide +kernel
theorem dk_102_28 : decode (tb_mb 102) 28 = .ok (.getfield 102, 3) := by decide +kernel
theorem f_102_28 : ∃ b, tb_fr (tb_oc 102) 102 = some (9, 21, b) := ⟨_, rfl⟩
theorem dk_102_31 : decode (tb_mb 102) 31 = .ok (.putfield 109, 3) := by decide +kernel
theorem f_102_31 : ∃ b, tb_fr (tb_oc 102) 109 = some (9, 23, b) ∧ xm_fin tb_cl (tb_ini 102) b 9 23 = true := ⟨_, rfl, rfl⟩
theorem dk_102_34 : decode (tb_mb 102) 34 = .ok (.aload_n 0, 1) := by decide +kernel
theorem dk_102_35 : decode (tb_mb 102) 35 = .ok (.aload_n 0, 1) := by decide +kernel
theorem dk_102_36 : decode (tb_mb 102) 36 = .ok (.getfield 102, 3) := by decide +kernel
theorem f_102_36 : ∃ b, tb_fr (tb_oc 102) 102 = some (9, 21, b) := ⟨_, rfl⟩
theorem dk_102_39 : decode (tb_mb 102) 39 = .ok (.invokevirtual 105, 3) := by decide +kernel
theorem ck_102_39 : ∃ b, tb_cr (tb_oc 102) 105 = some (0, 101, b, 1) := ⟨_, rfl⟩
theorem dk_102_42 : decode (tb_mb 102) 42 = .ok (.istore_n 1, 1) := by decide +kernel
theorem dk_102_43 : decode (tb_mb 102) 43 = .ok (.iload_n 1, 1) := by decide +kernel
theorem dk_102_44 : decode (tb_mb 102) 44 = .ok (.invokestatic 112, 3) := by decide +kernel
theorem ck_102_44 : ∃ b, tb_cr (tb_oc 102) 112 = some (1, 103, b, 1) := ⟨_, rfl⟩
theorem dk_102_47 : decode (tb_mb 102) 47 = .ok (.ifCond .eq (49), 3) := by decide +kernel
theorem dk_102_96 : decode (tb_mb 102) 96 = .ok (.aload_n 0, 1) := by decide +kernel
theorem dk_102_97 : decode (tb_mb 102) 97 = .ok (.aload_n 0, 1) := by decide +kernel
theorem dk_102_98 : decode (tb_mb 102) 98 = .ok (.getfield 102, 3) := by decide +kernel
theorem f_102_98 : ∃ b, tb_fr (tb_oc 102) 102 = some (9, 21, b) := ⟨_, rfl⟩
theorem dk_102_101 : decode (tb_mb 102) 101 = .ok (.iconst (1), 1) := by decide +kernel
theorem dk_102_102 : decode (tb_mb 102) 102 = .ok (.iadd, 1) := by decide +kernel
theorem dk_102_103 : decode (tb_mb 102) 103 = .ok (.invokevirtual 105, 3) := by decide +kernel
theorem ck_102_103 : ∃ b, tb_cr (tb_oc 102) 105 = some (0, 101, b, 1) := ⟨_, rfl⟩
theorem dk_102_106 : decode (tb_mb 102) 106 = .ok (.istore_n 2, 1) := by decide +kernel
theorem dk_102_107 : decode (tb_mb 102) 107 = .ok (.iload_n 1, 1) := by decide +kernel
theorem dk_102_108 : decode (tb_mb 102) 108 = .ok (.bipush (124), 2) := by decide +kernel
theorem dk_102_110 : decode (tb_mb 102) 110 = .ok (.if_icmp .ne (14), 3) := by decide +kernel
theorem dk_102_124 : decode (tb_mb 102) 124 = .ok (.iload_n 1, 1) := by decide +kernel
theorem dk_102_125 : decode (tb_mb 102) 125 = .ok (.bipush (38), 2) := by decide +kernel
theorem dk_102_127 : decode (tb_mb 102) 127 = .ok (.if_icmp .ne (14), 3) := by decide +kernel
theorem dk_102_141 : decode (tb_mb 102) 141 = .ok (.iload_n 1, 1) := by decide +kernel
theorem dk_102_142 : decode (tb_mb 102) 142 = .ok (.bipush (61), 2) := by decide +kernel
theorem dk_102_144 : decode (tb_mb 102) 144 = .ok (.if_icmp .ne (14), 3) := by decide +kernel
theorem dk_102_158 : decode (tb_mb 102) 158 = .ok (.iload_n 1, 1) := by decide +kernel
theorem dk_102_159 : decode (tb_mb 102) 159 = .ok (.bipush (33), 2) := by decide +kernel
theorem dk_102_161 : decode (tb_mb 102) 161 = .ok (.if_icmp .ne (14), 3) := by decide +kernel
theorem dk_102_175 : decode (tb_mb 102) 175 = .ok (.iload_n 1, 1) := by decide +kernel
theorem dk_102_176 : decode (tb_mb 102) 176 = .ok (.bipush (60), 2) := by decide +kernel
theorem dk_102_178 : decode (tb_mb 102) 178 = .ok (.if_icmp .ne (14), 3) := by decide +kernel
theorem dk_102_192 : decode (tb_mb 102) 192 = .ok (.iload_n 1, 1) := by decide +kernel
theorem dk_102_193 : decode (tb_mb 102) 193 = .ok (.bipush (62), 2) := by decide +kernel
theorem dk_102_195 : decode (tb_mb 102) 195 = .ok (.if_icmp .ne (14), 3) := by decide +kernel
theorem dk_102_209 : decode (tb_mb 102) 209 = .ok (.iload_n 1, 1) := by decide +kernel
theorem dk_102_210 : decode (tb_mb 102) 210 = .ok (.bipush (60), 2) := by decide +kernel
theorem dk_102_212 : decode (tb_mb 102) 212 = .ok (.if_icmp .ne (14), 3) := by decide +kernel
theorem dk_102_226 : decode (tb_mb 102) 226 = .ok (.iload_n 1, 1) := by decide +kernel
theorem dk_102_227 : decode (tb_mb 102) 227 = .ok (.bipush (62), 2) := by decide +kernel
theorem dk_102_229 : decode (tb_mb 102) 229 = .ok (.if_icmp .ne (14), 3) := by decide +kernel
theorem dk_102_243 : decode (tb_mb 102) 243 = .ok (.iconst (0), 1) := by decide +kernel
theorem dk_102_244 : decode (tb_mb 102) 244 = .ok (.istore_n 3, 1) := by decide +kernel
theorem dk_102_245 : decode (tb_mb 102) 245 = .ok (.iload_n 1, 1) := by decide +kernel
theorem dk_102_246 : decode (tb_mb 102) 246 = .ok (.bipush (60), 2) := by decide +kernel
theorem dk_102_248 : decode (tb_mb 102) 248 = .ok (.if_icmp .ne (8), 3) := by decide +kernel
theorem dk_102_256 : decode (tb_mb 102) 256 = .ok (.iload_n 1, 1) := by decide +kernel
theorem dk_102_257 : decode (tb_mb 102) 257 = .ok (.bipush (62), 2) := by decide +kernel
theorem dk_102_259 : decode (tb_mb 102) 259 = .ok (.if_icmp .ne (8), 3) := by decide +kernel
theorem dk_102_267 : decode (tb_mb 102) 267 = .ok (.iload_n 1, 1) := by decide +kernel
theorem dk_102_268 : decode (tb_mb 102) 268 = .ok (.bipush (124), 2) := by decide +kernel
theorem dk_102_270 : decode (tb_mb 102) 270 = .ok (.if_icmp .ne (8), 3) := by decide +kernel
theorem dk_102_278 : decode (tb_mb 102) 278 = .ok (.iload_n 1, 1) := by decide +kernel
theorem dk_102_279 : decode (tb_mb 102) 279 = .ok (.bipush (94), 2) := by decide +kernel
theorem dk_102_281 : decode (tb_mb 102) 281 = .ok (.if_icmp .ne (8), 3) := by decide +kernel
theorem dk_102_289 : decode (tb_mb 102) 289 = .ok (.iload_n 1, 1) := by decide +kernel
theorem dk_102_290 : decode (tb_mb 102) 290 = .ok (.bipush (38), 2) := by decide +kernel
theorem dk_102_292 : decode (tb_mb 102) 292 = .ok (.if_icmp .ne (8), 3) := by decide +kernel
theorem dk_102_300 : decode (tb_mb 102) 300 = .ok (.iload_n 1, 1) := by decide +kernel
theorem dk_102_301 : decode (tb_mb 102) 301 = .ok (.bipush (43), 2) := by decide +kernel
theorem dk_102_303 : decode (tb_mb 102) 303 = .ok (.if_icmp .ne (8), 3) := by decide +kernel
theorem dk_102_311 : decode (tb_mb 102) 311 = .ok (.iload_n 1, 1) := by decide +kernel
theorem dk_102_312 : decode (tb_mb 102) 312 = .ok (.bipush (45), 2) := by decide +kernel
theorem dk_102_314 : decode (tb_mb 102) 314 = .ok (.if_icmp .ne (8), 3) := by decide +kernel
theorem dk_102_322 : decode (tb_mb 102) 322 = .ok (.iload_n 1, 1) := by decide +kernel
theorem dk_102_323 : decode (tb_mb 102) 323 = .ok (.bipush (42), 2) := by decide +kernel
theorem dk_102_325 : decode (tb_mb 102) 325 = .ok (.if_icmp .ne (8), 3) := by decide +kernel
theorem dk_102_333 : decode (tb_mb 102) 333 = .ok (.iload_n 1, 1) := by decide +kernel
theorem dk_102_334 : decode (tb_mb 102) 334 = .ok (.bipush (47), 2) := by decide +kernel
theorem dk_102_336 : decode (tb_mb 102) 336 = .ok (.if_icmp .ne (8), 3) := by decide +kernel
theorem dk_102_344 : decode (tb_mb 102) 344 = .ok (.iload_n 1, 1) := by decide +kernel
theorem dk_102_345 : decode (tb_mb 102) 345 = .ok (.bipush (37), 2) := by decide +kernel
theorem dk_102_347 : decode (tb_mb 102) 347 = .ok (.if_icmp .ne (8), 3) := by decide +kernel
theorem dk_102_355 : decode (tb_mb 102) 355 = .ok (.iload_n 1, 1) := by decide +kernel
theorem dk_102_356 : decode (tb_mb 102) 356 = .ok (.bipush (33), 2) := by decide +kernel
theorem dk_102_358 : decode (tb_mb 102) 358 = .ok (.if_icmp .ne (8), 3) := by decide +kernel
theorem dk_102_366 : decode (tb_mb 102) 366 = .ok (.iload_n 1, 1) := by decide +kernel
theorem dk_102_367 : decode (tb_mb 102) 367 = .ok (.bipush (126), 2) := by decide +kernel
theorem dk_102_369 : decode (tb_mb 102) 369 = .ok (.if_icmp .ne (8), 3) := by decide +kernel
theorem dk_102_377 : decode (tb_mb 102) 377 = .ok (.iload_n 1, 1) := by decide +kernel
theorem dk_102_378 : decode (tb_mb 102) 378 = .ok (.bipush (40), 2) := by decide +kernel
theorem dk_102_380 : decode (tb_mb 102) 380 = .ok (.if_icmp .ne (8), 3) := by decide +kernel
theorem dk_102_388 : decode (tb_mb 102) 388 = .ok (.iload_n 1, 1) := by decide +kernel
theorem dk_102_389 : decode (tb_mb 102) 389 = .ok (.bipush (41), 2) := by decide +kernel
theorem dk_102_391 : decode (tb_mb 102) 391 = .ok (.if_icmp .ne (8), 3) := by decide +kernel
theorem dk_102_399 : decode (tb_mb 102) 399 = .ok (.iload_n 1, 1) := by decide +kernel
theorem dk_102_400 : decode (tb_mb 102) 400 = .ok (.bipush (91), 2) := by decide +kernel
theorem dk_102_402 : decode (tb_mb 102) 402 = .ok (.if_icmp .ne (8), 3) := by decide +kernel
theorem dk_102_410 : decode (tb_mb 102) 410 = .ok (.iload_n 1, 1) := by decide +kernel
theorem dk_102_411 : decode (tb_mb 102) 411 = .ok (.bipush (93), 2) := by decide +kernel
theorem dk_102_413 : decode (tb_mb 102) 413 = .ok (.if_icmp .ne (8), 3) := by decide +kernel
theorem dk_102_421 : decode (tb_mb 102) 421 = .ok (.bipush (34), 2) := by decide +kernel
theorem dk_102_423 : decode (tb_mb 102) 423 = .ok (.istore 4, 2) := by decide +kernel
theorem dk_102_425 : decode (tb_mb 102) 425 = .ok (.aload_n 0, 1) := by decide +kernel
theorem dk_102_426 : decode (tb_mb 102) 426 = .ok (.iload_n 3, 1) := by decide +kernel
theorem dk_102_427 : decode (tb_mb 102) 427 = .ok (.ifCond .le (7), 3) := by decide +kernel
theorem dk_102_434 : decode (tb_mb 102) 434 = .ok (.iload 4, 2) := by decide +kernel
theorem dk_102_436 : decode (tb_mb 102) 436 = .ok (.putfield 121, 3) := by decide +kernel
theorem f_102_436 : ∃ b, tb_fr (tb_oc 102) 121 = some (9, 22, b) ∧ xm_fin tb_cl (tb_ini 102) b 9 22 = true := ⟨_, rfl, rfl⟩
theorem dk_102_439 : decode (tb_mb 102) 439 = .ok (.aload_n 0, 1) := by decide +kernel
theorem dk_102_440 : decode (tb_mb 102) 440 = .ok (.dup, 1) := by decide +kernel
theorem dk_102_441 : decode (tb_mb 102) 441 = .ok (.getfield 102, 3) := by decide +kernel
theorem f_102_441 : ∃ b, tb_fr (tb_oc 102) 102 = some (9, 21, b) := ⟨_, rfl⟩
theorem dk_102_444 : decode (tb_mb 102) 444 = .ok (.iload_n 3, 1) := by decide +kernel
theorem dk_102_445 : decode (tb_mb 102) 445 = .ok (.ifCond .le (7), 3) := by decide +kernel
theorem dk_102_452 : decode (tb_mb 102) 452 = .ok (.iconst (1), 1) := by decide +kernel
theorem dk_102_453 : decode (tb_mb 102) 453 = .ok (.iadd, 1) := by decide +kernel
theorem dk_102_454 : decode (tb_mb 102) 454 = .ok (.putfield 102, 3) := by decide +kernel
theorem f_102_454 : ∃ b, tb_fr (tb_oc 102) 102 = some (9, 21, b) ∧ xm_fin tb_cl (tb_ini 102) b 9 21 = true := ⟨_, rfl, rfl⟩
theorem dk_102_457 : decode (tb_mb 102) 457 = .ok (.return_, 1) := by decide +kernel
theorem dk_102_448 : decode (tb_mb 102) 448 = .ok (.iconst (2), 1) := by decide +kernel
theorem dk_102_449 : decode (tb_mb 102) 449 = .ok (.goto (4), 3) := by decide +kernel
theorem dk_102_430 : decode (tb_mb 102) 430 = .ok (.iload_n 3, 1) := by decide +kernel
theorem dk_102_431 : decode (tb_mb 102) 431 = .ok (.goto (5), 3) := by decide +kernel
theorem dk_102_416 : decode (tb_mb 102) 416 = .ok (.bipush (33), 2) := by decide +kernel
theorem dk_102_418 : decode (tb_mb 102) 418 = .ok (.goto (5), 3) := by decide +kernel
theorem dk_102_405 : decode (tb_mb 102) 405 = .ok (.bipush (32), 2) := by decide +kernel
theorem dk_102_407 : decode (tb_mb 102) 407 = .ok (.goto (16), 3) := by decide +kernel
theorem dk_102_394 : decode (tb_mb 102) 394 = .ok (.bipush (31), 2) := by decide +kernel
theorem dk_102_396 : decode (tb_mb 102) 396 = .ok (.goto (27), 3) := by decide +kernel
theorem dk_102_383 : decode (tb_mb 102) 383 = .ok (.bipush (30), 2) := by decide +kernel
theorem dk_102_385 : decode (tb_mb 102) 385 = .ok (.goto (38), 3) := by decide +kernel
theorem dk_102_372 : decode (tb_mb 102) 372 = .ok (.bipush (29), 2) := by decide +kernel
theorem dk_102_374 : decode (tb_mb 102) 374 = .ok (.goto (49), 3) := by decide +kernel
theorem dk_102_361 : decode (tb_mb 102) 361 = .ok (.bipush (28), 2) := by decide +kernel
theorem dk_102_363 : decode (tb_mb 102) 363 = .ok (.goto (60), 3) := by decide +kernel
theorem dk_102_350 : decode (tb_mb 102) 350 = .ok (.bipush (27), 2) := by decide +kernel
theorem dk_102_352 : decode (tb_mb 102) 352 = .ok (.goto (71), 3) := by decide +kernel
theorem dk_102_339 : decode (tb_mb 102) 339 = .ok (.bipush (26), 2) := by decide +kernel
theorem dk_102_341 : decode (tb_mb 102) 341 = .ok (.goto (82), 3) := by decide +kernel
theorem dk_102_328 : decode (tb_mb 102) 328 = .ok (.bipush (25), 2) := by decide +kernel
theorem dk_102_330 : decode (tb_mb 102) 330 = .ok (.goto (93), 3) := by decide +kernel
theorem dk_102_317 : decode (tb_mb 102) 317 = .ok (.bipush (24), 2) := by decide +kernel
theorem dk_102_319 : decode (tb_mb 102) 319 = .ok (.goto (104), 3) := by decide +kernel
theorem dk_102_306 : decode (tb_mb 102) 306 = .ok (.bipush (23), 2) := by decide +kernel
theorem dk_102_308 : decode (tb_mb 102) 308 = .ok (.goto (115), 3) := by decide +kernel
theorem dk_102_295 : decode (tb_mb 102) 295 = .ok (.bipush (20), 2) := by decide +kernel
theorem dk_102_297 : decode (tb_mb 102) 297 = .ok (.goto (126), 3) := by decide +kernel
theorem dk_102_284 : decode (tb_mb 102) 284 = .ok (.bipush (19), 2) := by decide +kernel
theorem dk_102_286 : decode (tb_mb 102) 286 = .ok (.goto (137), 3) := by decide +kernel
theorem dk_102_273 : decode (tb_mb 102) 273 = .ok (.bipush (18), 2) := by decide +kernel
theorem dk_102_275 : decode (tb_mb 102) 275 = .ok (.goto (148), 3) := by decide +kernel
theorem dk_102_262 : decode (tb_mb 102) 262 = .ok (.bipush (16), 2) := by decide +kernel
theorem dk_102_264 : decode (tb_mb 102) 264 = .ok (.goto (159), 3) := by decide +kernel
theorem dk_102_251 : decode (tb_mb 102) 251 = .ok (.bipush (14), 2) := by decide +kernel
theorem dk_102_253 : decode (tb_mb 102) 253 = .ok (.goto (170), 3) := by decide +kernel
theorem dk_102_232 : decode (tb_mb 102) 232 = .ok (.iload_n 2, 1) := by decide +kernel
theorem dk_102_233 : decode (tb_mb 102) 233 = .ok (.bipush (62), 2) := by decide +kernel
theorem dk_102_235 : decode (tb_mb 102) 235 = .ok (.if_icmp .ne (8), 3) := by decide +kernel
theorem dk_102_238 : decode (tb_mb 102) 238 = .ok (.bipush (22), 2) := by decide +kernel
theorem dk_102_240 : decode (tb_mb 102) 240 = .ok (.goto (4), 3) := by decide +kernel
theorem dk_102_215 : decode (tb_mb 102) 215 = .ok (.iload_n 2, 1) := by decide +kernel
theorem dk_102_216 : decode (tb_mb 102) 216 = .ok (.bipush (60), 2) := by decide +kernel
theorem dk_102_218 : decode (tb_mb 102) 218 = .ok (.if_icmp .ne (8), 3) := by decide +kernel
theorem dk_102_221 : decode (tb_mb 102) 221 = .ok (.bipush (21), 2) := by decide +kernel
theorem dk_102_223 : decode (tb_mb 102) 223 = .ok (.goto (21), 3) := by decide +kernel
theorem dk_102_198 : decode (tb_mb 102) 198 = .ok (.iload_n 2, 1) := by decide +kernel
theorem dk_102_199 : decode (tb_mb 102) 199 = .ok (.bipush (61), 2) := by decide +kernel
theorem dk_102_201 : decode (tb_mb 102) 201 = .ok (.if_icmp .ne (8), 3) := by decide +kernel
theorem dk_102_204 : decode (tb_mb 102) 204 = .ok (.bipush (17), 2) := by decide +kernel
theorem dk_102_206 : decode (tb_mb 102) 206 = .ok (.goto (38), 3) := by decide +kernel
theorem dk_102_181 : decode (tb_mb 102) 181 = .ok (.iload_n 2, 1) := by decide +kernel
theorem dk_102_182 : decode (tb_mb 102) 182 = .ok (.bipush (61), 2) := by decide +kernel
theorem dk_102_184 : decode (tb_mb 102) 184 = .ok (.if_icmp .ne (8), 3) := by decide +kernel
theorem dk_102_187 : decode (tb_mb 102) 187 = .ok (.bipush (15), 2) := by decide +kernel
theorem dk_102_189 : decode (tb_mb 102) 189 = .ok (.goto (55), 3) := by decide +kernel
theorem dk_102_164 : decode (tb_mb 102) 164 = .ok (.iload_n 2, 1) := by decide +kernel
theorem dk_102_165 : decode (tb_mb 102) 165 = .ok (.bipush (61), 2) := by decide +kernel
theorem dk_102_167 : decode (tb_mb 102) 167 = .ok (.if_icmp .ne (8), 3) := by decide +kernel
theorem dk_102_170 : decode (tb_mb 102) 170 = .ok (.bipush (13), 2) := by decide +kernel
theorem dk_102_172 : decode (tb_mb 102) 172 = .ok (.goto (72), 3) := by decide +kernel
theorem dk_102_147 : decode (tb_mb 102) 147 = .ok (.iload_n 2, 1) := by decide +kernel
theorem dk_102_148 : decode (tb_mb 102) 148 = .ok (.bipush (61), 2) := by decide +kernel
theorem dk_102_150 : decode (tb_mb 102) 150 = .ok (.if_icmp .ne (8), 3) := by decide +kernel
theorem dk_102_153 : decode (tb_mb 102) 153 = .ok (.bipush (12), 2) := by decide +kernel
theorem dk_102_155 : decode (tb_mb 102) 155 = .ok (.goto (89), 3) := by decide +kernel
theorem dk_102_130 : decode (tb_mb 102) 130 = .ok (.iload_n 2, 1) := by decide +kernel
theorem dk_102_131 : decode (tb_mb 102) 131 = .ok (.bipush (38), 2) := by decide +kernel
theorem dk_102_133 : decode (tb_mb 102) 133 = .ok (.if_icmp .ne (8), 3) := by decide +kernel
theorem dk_102_136 : decode (tb_mb 102) 136 = .ok (.bipush (11), 2) := by decide +kernel
theorem dk_102_138 : decode (tb_mb 102) 138 = .ok (.goto (106), 3) := by decide +kernel
theorem dk_102_113 : decode (tb_mb 102) 113 = .ok (.iload_n 2, 1) := by decide +kernel
theorem dk_102_114 : decode (tb_mb 102) 114 = .ok (.bipush (124), 2) := by decide +kernel
theorem dk_102_116 : decode (tb_mb 102) 116 = .ok (.if_icmp .ne (8), 3) := by decide +kernel
theorem dk_102_119 : decode (tb_mb 102) 119 = .ok (.bipush (10), 2) := by decide +kernel
theorem dk_102_121 : decode (tb_mb 102) 121 = .ok (.goto (123), 3) := by decide +kernel
theorem dk_102_50 : decode (tb_mb 102) 50 = .ok (.aload_n 0, 1) := by decide +kernel
theorem dk_102_51 : decode (tb_mb 102) 51 = .ok (.aload_n 0, 1) := by decide +kernel
theorem dk_102_52 : decode (tb_mb 102) 52 = .ok (.getfield 102, 3) := by decide +kernel
theorem f_102_52 : ∃ b, tb_fr (tb_oc 102) 102 = some (9, 21, b) := ⟨_, rfl⟩
theorem dk_102_55 : decode (tb_mb 102) 55 = .ok (.invokevirtual 105, 3) := by decide +kernel
theorem ck_102_55 : ∃ b, tb_cr (tb_oc 102) 105 = some (0, 101, b, 1) := ⟨_, rfl⟩
theorem dk_102_58 : decode (tb_mb 102) 58 = .ok (.invokestatic 112, 3) := by decide +kernel
theorem ck_102_58 : ∃ b, tb_cr (tb_oc 102) 112 = some (1, 103, b, 1) := ⟨_, rfl⟩
theorem dk_102_61 : decode (tb_mb 102) 61 = .ok (.ifCond .eq (16), 3) := by decide +kernel
theorem dk_102_77 : decode (tb_mb 102) 77 = .ok (.iload_n 1, 1) := by decide +kernel
theorem dk_102_78 : decode (tb_mb 102) 78 = .ok (.invokestatic 98, 3) := by decide +kernel
theorem ck_102_78 : ∃ b, tb_cr (tb_oc 102) 98 = some (1, 104, b, 1) := ⟨_, rfl⟩
theorem dk_102_81 : decode (tb_mb 102) 81 = .ok (.ifCond .eq (10), 3) := by decide +kernel
theorem dk_102_91 : decode (tb_mb 102) 91 = .ok (.aload_n 0, 1) := by decide +kernel
theorem dk_102_92 : decode (tb_mb 102) 92 = .ok (.invokevirtual 118, 3) := by decide +kernel
theorem ck_102_92 : ∃ b, tb_cr (tb_oc 102) 118 = some (0, 106, b, 0) := ⟨_, rfl⟩
theorem dk_102_95 : decode (tb_mb 102) 95 = .ok (.return_, 1) := by decide +kernel
theorem dk_102_84 : decode (tb_mb 102) 84 = .ok (.aload_n 0, 1) := by decide +kernel
theorem dk_102_85 : decode (tb_mb 102) 85 = .ok (.invokevirtual 115, 3) := by decide +kernel
theorem ck_102_85 : ∃ b, tb_cr (tb_oc 102) 115 = some (0, 105, b, 0) := ⟨_, rfl⟩
theorem dk_102_88 : decode (tb_mb 102) 88 = .ok (.goto (7), 3) := by decide +kernel
theorem dk_102_64 : decode (tb_mb 102) 64 = .ok (.aload_n 0, 1) := by decide +kernel
theorem dk_102_65 : decode (tb_mb 102) 65 = .ok (.dup, 1) := by decide +kernel
theorem dk_102_66 : decode (tb_mb 102) 66 = .ok (.getfield 102, 3) := by decide +kernel
theorem f_102_66 : ∃ b, tb_fr (tb_oc 102) 102 = some (9, 21, b) := ⟨_, rfl⟩
theorem dk_102_69 : decode (tb_mb 102) 69 = .ok (.iconst (1), 1) := by decide +kernel
theorem dk_102_70 : decode (tb_mb 102) 70 = .ok (.iadd, 1) := by decide +kernel
theorem dk_102_71 : decode (tb_mb 102) 71 = .ok (.putfield 102, 3) := by decide +kernel
theorem f_102_71 : ∃ b, tb_fr (tb_oc 102) 102 = some (9, 21, b) ∧ xm_fin tb_cl (tb_ini 102) b 9 21 = true := ⟨_, rfl, rfl⟩
theorem dk_102_74 : decode (tb_mb 102) 74 = .ok (.goto (-24), 3) := by decide +kernel
theorem dk_102_13 : decode (tb_mb 102) 13 = .ok (.aload_n 0, 1) := by decide +kernel
theorem dk_102_14 : decode (tb_mb 102) 14 = .ok (.dup, 1) := by decide +kernel
theorem dk_102_15 : decode (tb_mb 102) 15 = .ok (.getfield 102, 3) := by decide +kernel
theorem f_102_15 : ∃ b, tb_fr (tb_oc 102) 102 = some (9, 21, b) := ⟨_, rfl⟩
theorem dk_102_18 : decode (tb_mb 102) 18 = .ok (.iconst (1), 1) := by decide +kernel
theorem dk_102_19 : decode (tb_mb 102) 19 = .ok (.iadd, 1) := by decide +kernel
theorem dk_102_20 : decode (tb_mb 102) 20 = .ok (.putfield 102, 3) := by decide +kernel
theorem f_102_20 : ∃ b, tb_fr (tb_oc 102) 102 = some (9, 21, b) ∧ xm_fin tb_cl (tb_ini 102) b 9 21 = true := ⟨_, rfl, rfl⟩
theorem dk_102_23 : decode (tb_mb 102) 23 = .ok (.goto (-23), 3) := by decide +kernel
def b_102_453 (s0 : Int32) (s1 : Int32) (I : dI) (J : dJ) : Option (dI × dJ) := lt_ (sI I 92 21 (s1 + s0)) (fun I39 => some (I39, J))
theorem p_102_453 {Q : Nat → Option Nat} {D : Nat} (hD : 3 ≤ D) (s0 : Int32) (s1 : Int32) (I : dI) (J : dJ) (R : (dI × dJ)) (h : b_102_453 s0 s1 I J = some R) : Rn Q D 102 453 [] [.int s0, .int s1, .ref 92] I J (none) R.1 R.2 := by
  replace h : (lt_ (sI I 92 21 (s1 + s0)) (fun I39 => some (I39, J))) = some R := h
  refine Rn.pu (st' := [.int (s1 + s0), .ref 92]) dk_102_453 L_102 rfl ?_
  obtain ⟨I39, eI39, h⟩ := letS h
  refine Rn.pI dk_102_454 f_102_454.choose_spec.1 sk_92 rfl f_102_454.choose_spec.2 rfl rfl ?_
  rw [← eI39]
  cases h
  exact Rn.rv dk_102_457 R_102
def b_102_436 (x3 : Int32) (s0 : Int32) (I : dI) (J : dJ) : Option (dI × dJ) := lt_ (sI I 92 22 s0) (fun I37 => if x3 ≤ 0 then (b_102_453 1 (I37 92 21) I37 J) else (b_102_453 2 (I37 92 21) I37 J))
theorem p_102_436 {Q : Nat → Option Nat} {D : Nat} (hD : 3 ≤ D) (x3 : Int32) (s0 : Int32) (I : dI) (J : dJ) (R : (dI × dJ)) (h : b_102_436 x3 s0 I J = some R) : Rn Q D 102 436 [(0, .ref 92), (3, .int x3)] [.int s0, .ref 92] I J (none) R.1 R.2 := by
  replace h : (lt_ (sI I 92 22 s0) (fun I37 => if x3 ≤ 0 then (b_102_453 1 (I37 92 21) I37 J) else (b_102_453 2 (I37 92 21) I37 J))) = some R := h
  obtain ⟨I37, eI37, h⟩ := letS h
  refine Rn.pI dk_102_436 f_102_436.choose_spec.1 sk_92 rfl f_102_436.choose_spec.2 rfl rfl ?_
  rw [← eI37]
  refine Rn.pu (st' := [.ref 92]) dk_102_439 L_102 rfl ?_
  refine Rn.pu (st' := [.ref 92, .ref 92]) dk_102_440 L_102 rfl ?_
  refine Rn.gI dk_102_441 f_102_441.choose_spec sk_92 rfl ?_
  refine Rn.pu (st' := [.int x3, .int (I37 92 21), .ref 92]) dk_102_444 L_102 rfl ?_
  by_cases c38 : x3 ≤ 0
  · rw [if_pos c38] at h
    refine Rn.i1t (t := 452) dk_102_445 rfl (decide_eq_true c38) ?_
    refine Rn.ic dk_102_452 cic_1 ?_
    exact Rn.wk [] rfl (p_102_453 hD _ _ _ _ _ h)
  · rw [if_neg c38] at h
    refine Rn.i1f (t := 452) dk_102_445 rfl (decide_eq_false c38) ?_
    refine Rn.ic dk_102_448 cic_2 ?_
    refine Rn.gt (t := 453) dk_102_449 rfl ?_
    exact Rn.wk [] rfl (p_102_453 hD _ _ _ _ _ h)
def b_102_423 (x3 : Int32) (s0 : Int32) (I : dI) (J : dJ) : Option (dI × dJ) := if x3 ≤ 0 then (b_102_436 x3 s0 I J) else (b_102_436 x3 x3 I J)
theorem p_102_423 {Q : Nat → Option Nat} {D : Nat} (hD : 3 ≤ D) (x3 : Int32) (s0 : Int32) (I : dI) (J : dJ) (R : (dI × dJ)) (h : b_102_423 x3 s0 I J = some R) : Rn Q D 102 423 [(0, .ref 92), (3, .int x3)] [.int s0] I J (none) R.1 R.2 := by
  replace h : (if x3 ≤ 0 then (b_102_436 x3 s0 I J) else (b_102_436 x3 x3 I J)) = some R := h
  refine Rn.pu (ls' := [(4, .int s0), (0, .ref 92), (3, .int x3)]) (st' := []) dk_102_423 L_102 rfl ?_
  refine Rn.pu (st' := [.ref 92]) dk_102_425 L_102 rfl ?_
  refine Rn.pu (st' := [.int x3, .ref 92]) dk_102_426 L_102 rfl ?_
  by_cases c36 : x3 ≤ 0
  · rw [if_pos c36] at h
    refine Rn.i1t (t := 434) dk_102_427 rfl (decide_eq_true c36) ?_
    refine Rn.pu (st' := [.int s0, .ref 92]) dk_102_434 L_102 rfl ?_
    exact Rn.wk [1, 2] rfl (p_102_436 hD _ _ _ _ _ h)
  · rw [if_neg c36] at h
    refine Rn.i1f (t := 434) dk_102_427 rfl (decide_eq_false c36) ?_
    refine Rn.pu (st' := [.int x3, .ref 92]) dk_102_430 L_102 rfl ?_
    refine Rn.gt (t := 436) dk_102_431 rfl ?_
    exact Rn.wk [1, 2] rfl (p_102_436 hD _ _ _ _ _ h)
def b_102_244 (x1 : Int32) (s0 : Int32) (I : dI) (J : dJ) : Option (dI × dJ) := if ¬ x1 = 60 then (if ¬ x1 = 62 then (if ¬ x1 = 124 then (if ¬ x1 = 94 then (if ¬ x1 = 38 then (if ¬ x1 = 43 then (if ¬ x1 = 45 then (if ¬ x1 = 42 then (if ¬ x1 = 47 then (if ¬ x1 = 37 then (if ¬ x1 = 33 then (if ¬ x1 = 126 then (if ¬ x1 = 40 then (if ¬ x1 = 41 then (if ¬ x1 = 91 then (if ¬ x1 = 93 then (b_102_423 s0 34 I J) else (b_102_423 s0 33 I J)) else (b_102_423 s0 32 I J)) else (b_102_423 s0 31 I J)) else (b_102_423 s0 30 I J)) else (b_102_423 s0 29 I J)) else (b_102_423 s0 28 I J)) else (b_102_423 s0 27 I J)) else (b_102_423 s0 26 I J)) else (b_102_423 s0 25 I J)) else (b_102_423 s0 24 I J)) else (b_102_423 s0 23 I J)) else (b_102_423 s0 20 I J)) else (b_102_423 s0 19 I J)) else (b_102_423 s0 18 I J)) else (b_102_423 s0 16 I J)) else (b_102_423 s0 14 I J)
theorem p_102_244 {Q : Nat → Option Nat} {D : Nat} (hD : 3 ≤ D) (x1 : Int32) (s0 : Int32) (I : dI) (J : dJ) (R : (dI × dJ)) (h : b_102_244 x1 s0 I J = some R) : Rn Q D 102 244 [(0, .ref 92), (1, .int x1)] [.int s0] I J (none) R.1 R.2 := by
  replace h : (if ¬ x1 = 60 then (if ¬ x1 = 62 then (if ¬ x1 = 124 then (if ¬ x1 = 94 then (if ¬ x1 = 38 then (if ¬ x1 = 43 then (if ¬ x1 = 45 then (if ¬ x1 = 42 then (if ¬ x1 = 47 then (if ¬ x1 = 37 then (if ¬ x1 = 33 then (if ¬ x1 = 126 then (if ¬ x1 = 40 then (if ¬ x1 = 41 then (if ¬ x1 = 91 then (if ¬ x1 = 93 then (b_102_423 s0 34 I J) else (b_102_423 s0 33 I J)) else (b_102_423 s0 32 I J)) else (b_102_423 s0 31 I J)) else (b_102_423 s0 30 I J)) else (b_102_423 s0 29 I J)) else (b_102_423 s0 28 I J)) else (b_102_423 s0 27 I J)) else (b_102_423 s0 26 I J)) else (b_102_423 s0 25 I J)) else (b_102_423 s0 24 I J)) else (b_102_423 s0 23 I J)) else (b_102_423 s0 20 I J)) else (b_102_423 s0 19 I J)) else (b_102_423 s0 18 I J)) else (b_102_423 s0 16 I J)) else (b_102_423 s0 14 I J)) = some R := h
  refine Rn.pu (ls' := [(3, .int s0), (0, .ref 92), (1, .int x1)]) (st' := []) dk_102_244 L_102 rfl ?_
  refine Rn.pu (st' := [.int x1]) dk_102_245 L_102 rfl ?_
  refine Rn.bp dk_102_246 cbp_60 ?_
  by_cases c20 : ¬ x1 = 60
  · rw [if_pos c20] at h
    refine Rn.i2t (t := 256) dk_102_248 rfl (decide_eq_true c20) ?_
    refine Rn.pu (st' := [.int x1]) dk_102_256 L_102 rfl ?_
    refine Rn.bp dk_102_257 cbp_62 ?_
    by_cases c21 : ¬ x1 = 62
    · rw [if_pos c21] at h
      refine Rn.i2t (t := 267) dk_102_259 rfl (decide_eq_true c21) ?_
      refine Rn.pu (st' := [.int x1]) dk_102_267 L_102 rfl ?_
      refine Rn.bp dk_102_268 cbp_124 ?_
      by_cases c22 : ¬ x1 = 124
      · rw [if_pos c22] at h
        refine Rn.i2t (t := 278) dk_102_270 rfl (decide_eq_true c22) ?_
        refine Rn.pu (st' := [.int x1]) dk_102_278 L_102 rfl ?_
        refine Rn.bp dk_102_279 cbp_94 ?_
        by_cases c23 : ¬ x1 = 94
        · rw [if_pos c23] at h
          refine Rn.i2t (t := 289) dk_102_281 rfl (decide_eq_true c23) ?_
          refine Rn.pu (st' := [.int x1]) dk_102_289 L_102 rfl ?_
          refine Rn.bp dk_102_290 cbp_38 ?_
          by_cases c24 : ¬ x1 = 38
          · rw [if_pos c24] at h
            refine Rn.i2t (t := 300) dk_102_292 rfl (decide_eq_true c24) ?_
            refine Rn.pu (st' := [.int x1]) dk_102_300 L_102 rfl ?_
            refine Rn.bp dk_102_301 cbp_43 ?_
            by_cases c25 : ¬ x1 = 43
            · rw [if_pos c25] at h
              refine Rn.i2t (t := 311) dk_102_303 rfl (decide_eq_true c25) ?_
              refine Rn.pu (st' := [.int x1]) dk_102_311 L_102 rfl ?_
              refine Rn.bp dk_102_312 cbp_45 ?_
              by_cases c26 : ¬ x1 = 45
              · rw [if_pos c26] at h
                refine Rn.i2t (t := 322) dk_102_314 rfl (decide_eq_true c26) ?_
                refine Rn.pu (st' := [.int x1]) dk_102_322 L_102 rfl ?_
                refine Rn.bp dk_102_323 cbp_42 ?_
                by_cases c27 : ¬ x1 = 42
                · rw [if_pos c27] at h
                  refine Rn.i2t (t := 333) dk_102_325 rfl (decide_eq_true c27) ?_
                  refine Rn.pu (st' := [.int x1]) dk_102_333 L_102 rfl ?_
                  refine Rn.bp dk_102_334 cbp_47 ?_
                  by_cases c28 : ¬ x1 = 47
                  · rw [if_pos c28] at h
                    refine Rn.i2t (t := 344) dk_102_336 rfl (decide_eq_true c28) ?_
                    refine Rn.pu (st' := [.int x1]) dk_102_344 L_102 rfl ?_
                    refine Rn.bp dk_102_345 cbp_37 ?_
                    by_cases c29 : ¬ x1 = 37
                    · rw [if_pos c29] at h
                      refine Rn.i2t (t := 355) dk_102_347 rfl (decide_eq_true c29) ?_
                      refine Rn.pu (st' := [.int x1]) dk_102_355 L_102 rfl ?_
                      refine Rn.bp dk_102_356 cbp_33 ?_
                      by_cases c30 : ¬ x1 = 33
                      · rw [if_pos c30] at h
                        refine Rn.i2t (t := 366) dk_102_358 rfl (decide_eq_true c30) ?_
                        refine Rn.pu (st' := [.int x1]) dk_102_366 L_102 rfl ?_
                        refine Rn.bp dk_102_367 cbp_126 ?_
                        by_cases c31 : ¬ x1 = 126
                        · rw [if_pos c31] at h
                          refine Rn.i2t (t := 377) dk_102_369 rfl (decide_eq_true c31) ?_
                          refine Rn.pu (st' := [.int x1]) dk_102_377 L_102 rfl ?_
                          refine Rn.bp dk_102_378 cbp_40 ?_
                          by_cases c32 : ¬ x1 = 40
                          · rw [if_pos c32] at h
                            refine Rn.i2t (t := 388) dk_102_380 rfl (decide_eq_true c32) ?_
                            refine Rn.pu (st' := [.int x1]) dk_102_388 L_102 rfl ?_
                            refine Rn.bp dk_102_389 cbp_41 ?_
                            by_cases c33 : ¬ x1 = 41
                            · rw [if_pos c33] at h
                              refine Rn.i2t (t := 399) dk_102_391 rfl (decide_eq_true c33) ?_
                              refine Rn.pu (st' := [.int x1]) dk_102_399 L_102 rfl ?_
                              refine Rn.bp dk_102_400 cbp_91 ?_
                              by_cases c34 : ¬ x1 = 91
                              · rw [if_pos c34] at h
                                refine Rn.i2t (t := 410) dk_102_402 rfl (decide_eq_true c34) ?_
                                refine Rn.pu (st' := [.int x1]) dk_102_410 L_102 rfl ?_
                                refine Rn.bp dk_102_411 cbp_93 ?_
                                by_cases c35 : ¬ x1 = 93
                                · rw [if_pos c35] at h
                                  refine Rn.i2t (t := 421) dk_102_413 rfl (decide_eq_true c35) ?_
                                  refine Rn.bp dk_102_421 cbp_34 ?_
                                  exact Rn.wk [1, 0] rfl (p_102_423 hD _ _ _ _ _ h)
                                · rw [if_neg c35] at h
                                  refine Rn.i2f (t := 421) dk_102_413 rfl (decide_eq_false c35) ?_
                                  refine Rn.bp dk_102_416 cbp_33 ?_
                                  refine Rn.gt (t := 423) dk_102_418 rfl ?_
                                  exact Rn.wk [1, 0] rfl (p_102_423 hD _ _ _ _ _ h)
                              · rw [if_neg c34] at h
                                refine Rn.i2f (t := 410) dk_102_402 rfl (decide_eq_false c34) ?_
                                refine Rn.bp dk_102_405 cbp_32 ?_
                                refine Rn.gt (t := 423) dk_102_407 rfl ?_
                                exact Rn.wk [1, 0] rfl (p_102_423 hD _ _ _ _ _ h)
                            · rw [if_neg c33] at h
                              refine Rn.i2f (t := 399) dk_102_391 rfl (decide_eq_false c33) ?_
                              refine Rn.bp dk_102_394 cbp_31 ?_
                              refine Rn.gt (t := 423) dk_102_396 rfl ?_
                              exact Rn.wk [1, 0] rfl (p_102_423 hD _ _ _ _ _ h)
                          · rw [if_neg c32] at h
                            refine Rn.i2f (t := 388) dk_102_380 rfl (decide_eq_false c32) ?_
                            refine Rn.bp dk_102_383 cbp_30 ?_
                            refine Rn.gt (t := 423) dk_102_385 rfl ?_
                            exact Rn.wk [1, 0] rfl (p_102_423 hD _ _ _ _ _ h)
                        · rw [if_neg c31] at h
                          refine Rn.i2f (t := 377) dk_102_369 rfl (decide_eq_false c31) ?_
                          refine Rn.bp dk_102_372 cbp_29 ?_
                          refine Rn.gt (t := 423) dk_102_374 rfl ?_
                          exact Rn.wk [1, 0] rfl (p_102_423 hD _ _ _ _ _ h)
                      · rw [if_neg c30] at h
                        refine Rn.i2f (t := 366) dk_102_358 rfl (decide_eq_false c30) ?_
                        refine Rn.bp dk_102_361 cbp_28 ?_
                        refine Rn.gt (t := 423) dk_102_363 rfl ?_
                        exact Rn.wk [1, 0] rfl (p_102_423 hD _ _ _ _ _ h)
                    · rw [if_neg c29] at h
                      refine Rn.i2f (t := 355) dk_102_347 rfl (decide_eq_false c29) ?_
                      refine Rn.bp dk_102_350 cbp_27 ?_
                      refine Rn.gt (t := 423) dk_102_352 rfl ?_
                      exact Rn.wk [1, 0] rfl (p_102_423 hD _ _ _ _ _ h)
                  · rw [if_neg c28] at h
                    refine Rn.i2f (t := 344) dk_102_336 rfl (decide_eq_false c28) ?_
                    refine Rn.bp dk_102_339 cbp_26 ?_
                    refine Rn.gt (t := 423) dk_102_341 rfl ?_
                    exact Rn.wk [1, 0] rfl (p_102_423 hD _ _ _ _ _ h)
                · rw [if_neg c27] at h
                  refine Rn.i2f (t := 333) dk_102_325 rfl (decide_eq_false c27) ?_
                  refine Rn.bp dk_102_328 cbp_25 ?_
                  refine Rn.gt (t := 423) dk_102_330 rfl ?_
                  exact Rn.wk [1, 0] rfl (p_102_423 hD _ _ _ _ _ h)
              · rw [if_neg c26] at h
                refine Rn.i2f (t := 322) dk_102_314 rfl (decide_eq_false c26) ?_
                refine Rn.bp dk_102_317 cbp_24 ?_
                refine Rn.gt (t := 423) dk_102_319 rfl ?_
                exact Rn.wk [1, 0] rfl (p_102_423 hD _ _ _ _ _ h)
            · rw [if_neg c25] at h
              refine Rn.i2f (t := 311) dk_102_303 rfl (decide_eq_false c25) ?_
              refine Rn.bp dk_102_306 cbp_23 ?_
              refine Rn.gt (t := 423) dk_102_308 rfl ?_
              exact Rn.wk [1, 0] rfl (p_102_423 hD _ _ _ _ _ h)
          · rw [if_neg c24] at h
            refine Rn.i2f (t := 300) dk_102_292 rfl (decide_eq_false c24) ?_
            refine Rn.bp dk_102_295 cbp_20 ?_
            refine Rn.gt (t := 423) dk_102_297 rfl ?_
            exact Rn.wk [1, 0] rfl (p_102_423 hD _ _ _ _ _ h)
        · rw [if_neg c23] at h
          refine Rn.i2f (t := 289) dk_102_281 rfl (decide_eq_false c23) ?_
          refine Rn.bp dk_102_284 cbp_19 ?_
          refine Rn.gt (t := 423) dk_102_286 rfl ?_
          exact Rn.wk [1, 0] rfl (p_102_423 hD _ _ _ _ _ h)
      · rw [if_neg c22] at h
        refine Rn.i2f (t := 278) dk_102_270 rfl (decide_eq_false c22) ?_
        refine Rn.bp dk_102_273 cbp_18 ?_
        refine Rn.gt (t := 423) dk_102_275 rfl ?_
        exact Rn.wk [1, 0] rfl (p_102_423 hD _ _ _ _ _ h)
    · rw [if_neg c21] at h
      refine Rn.i2f (t := 267) dk_102_259 rfl (decide_eq_false c21) ?_
      refine Rn.bp dk_102_262 cbp_16 ?_
      refine Rn.gt (t := 423) dk_102_264 rfl ?_
      exact Rn.wk [1, 0] rfl (p_102_423 hD _ _ _ _ _ h)
  · rw [if_neg c20] at h
    refine Rn.i2f (t := 256) dk_102_248 rfl (decide_eq_false c20) ?_
    refine Rn.bp dk_102_251 cbp_14 ?_
    refine Rn.gt (t := 423) dk_102_253 rfl ?_
    exact Rn.wk [1, 0] rfl (p_102_423 hD _ _ _ _ _ h)
def b_102_243 (x1 : Int32) (I : dI) (J : dJ) : Option (dI × dJ) := b_102_244 x1 0 I J
theorem p_102_243 {Q : Nat → Option Nat} {D : Nat} (hD : 3 ≤ D) (x1 : Int32) (I : dI) (J : dJ) (R : (dI × dJ)) (h : b_102_243 x1 I J = some R) : Rn Q D 102 243 [(0, .ref 92), (1, .int x1)] [] I J (none) R.1 R.2 := by
  replace h : (b_102_244 x1 0 I J) = some R := h
  refine Rn.ic dk_102_243 cic_0 ?_
  exact Rn.wk [0, 1] rfl (p_102_244 hD _ _ _ _ _ h)
def b_102_226 (x1 : Int32) (x2 : Int32) (I : dI) (J : dJ) : Option (dI × dJ) := if ¬ x1 = 62 then (b_102_243 x1 I J) else (if ¬ x2 = 62 then (b_102_243 x1 I J) else (b_102_244 x1 22 I J))
theorem p_102_226 {Q : Nat → Option Nat} {D : Nat} (hD : 3 ≤ D) (x1 : Int32) (x2 : Int32) (I : dI) (J : dJ) (R : (dI × dJ)) (h : b_102_226 x1 x2 I J = some R) : Rn Q D 102 226 [(0, .ref 92), (1, .int x1), (2, .int x2)] [] I J (none) R.1 R.2 := by
  replace h : (if ¬ x1 = 62 then (b_102_243 x1 I J) else (if ¬ x2 = 62 then (b_102_243 x1 I J) else (b_102_244 x1 22 I J))) = some R := h
  refine Rn.pu (st' := [.int x1]) dk_102_226 L_102 rfl ?_
  refine Rn.bp dk_102_227 cbp_62 ?_
  by_cases c19 : ¬ x1 = 62
  · rw [if_pos c19] at h
    refine Rn.i2t (t := 243) dk_102_229 rfl (decide_eq_true c19) ?_
    exact Rn.wk [0, 1] rfl (p_102_243 hD _ _ _ _ h)
  · rw [if_neg c19] at h
    refine Rn.i2f (t := 243) dk_102_229 rfl (decide_eq_false c19) ?_
    refine Rn.pu (st' := [.int x2]) dk_102_232 L_102 rfl ?_
    refine Rn.bp dk_102_233 cbp_62 ?_
    by_cases c20 : ¬ x2 = 62
    · rw [if_pos c20] at h
      refine Rn.i2t (t := 243) dk_102_235 rfl (decide_eq_true c20) ?_
      exact Rn.wk [0, 1] rfl (p_102_243 hD _ _ _ _ h)
    · rw [if_neg c20] at h
      refine Rn.i2f (t := 243) dk_102_235 rfl (decide_eq_false c20) ?_
      refine Rn.bp dk_102_238 cbp_22 ?_
      refine Rn.gt (t := 244) dk_102_240 rfl ?_
      exact Rn.wk [0, 1] rfl (p_102_244 hD _ _ _ _ _ h)
def b_102_209 (x1 : Int32) (x2 : Int32) (I : dI) (J : dJ) : Option (dI × dJ) := if ¬ x1 = 60 then (b_102_226 x1 x2 I J) else (if ¬ x2 = 60 then (b_102_226 x1 x2 I J) else (b_102_244 x1 21 I J))
theorem p_102_209 {Q : Nat → Option Nat} {D : Nat} (hD : 3 ≤ D) (x1 : Int32) (x2 : Int32) (I : dI) (J : dJ) (R : (dI × dJ)) (h : b_102_209 x1 x2 I J = some R) : Rn Q D 102 209 [(0, .ref 92), (1, .int x1), (2, .int x2)] [] I J (none) R.1 R.2 := by
  replace h : (if ¬ x1 = 60 then (b_102_226 x1 x2 I J) else (if ¬ x2 = 60 then (b_102_226 x1 x2 I J) else (b_102_244 x1 21 I J))) = some R := h
  refine Rn.pu (st' := [.int x1]) dk_102_209 L_102 rfl ?_
  refine Rn.bp dk_102_210 cbp_60 ?_
  by_cases c18 : ¬ x1 = 60
  · rw [if_pos c18] at h
    refine Rn.i2t (t := 226) dk_102_212 rfl (decide_eq_true c18) ?_
    exact Rn.wk [0, 1, 2] rfl (p_102_226 hD _ _ _ _ _ h)
  · rw [if_neg c18] at h
    refine Rn.i2f (t := 226) dk_102_212 rfl (decide_eq_false c18) ?_
    refine Rn.pu (st' := [.int x2]) dk_102_215 L_102 rfl ?_
    refine Rn.bp dk_102_216 cbp_60 ?_
    by_cases c19 : ¬ x2 = 60
    · rw [if_pos c19] at h
      refine Rn.i2t (t := 226) dk_102_218 rfl (decide_eq_true c19) ?_
      exact Rn.wk [0, 1, 2] rfl (p_102_226 hD _ _ _ _ _ h)
    · rw [if_neg c19] at h
      refine Rn.i2f (t := 226) dk_102_218 rfl (decide_eq_false c19) ?_
      refine Rn.bp dk_102_221 cbp_21 ?_
      refine Rn.gt (t := 244) dk_102_223 rfl ?_
      exact Rn.wk [0, 1] rfl (p_102_244 hD _ _ _ _ _ h)
def b_102_192 (x1 : Int32) (x2 : Int32) (I : dI) (J : dJ) : Option (dI × dJ) := if ¬ x1 = 62 then (b_102_209 x1 x2 I J) else (if ¬ x2 = 61 then (b_102_209 x1 x2 I J) else (b_102_244 x1 17 I J))
theorem p_102_192 {Q : Nat → Option Nat} {D : Nat} (hD : 3 ≤ D) (x1 : Int32) (x2 : Int32) (I : dI) (J : dJ) (R : (dI × dJ)) (h : b_102_192 x1 x2 I J = some R) : Rn Q D 102 192 [(0, .ref 92), (1, .int x1), (2, .int x2)] [] I J (none) R.1 R.2 := by
  replace h : (if ¬ x1 = 62 then (b_102_209 x1 x2 I J) else (if ¬ x2 = 61 then (b_102_209 x1 x2 I J) else (b_102_244 x1 17 I J))) = some R := h
  refine Rn.pu (st' := [.int x1]) dk_102_192 L_102 rfl ?_
  refine Rn.bp dk_102_193 cbp_62 ?_
  by_cases c17 : ¬ x1 = 62
  · rw [if_pos c17] at h
    refine Rn.i2t (t := 209) dk_102_195 rfl (decide_eq_true c17) ?_
    exact Rn.wk [0, 1, 2] rfl (p_102_209 hD _ _ _ _ _ h)
  · rw [if_neg c17] at h
    refine Rn.i2f (t := 209) dk_102_195 rfl (decide_eq_false c17) ?_
    refine Rn.pu (st' := [.int x2]) dk_102_198 L_102 rfl ?_
    refine Rn.bp dk_102_199 cbp_61 ?_
    by_cases c18 : ¬ x2 = 61
    · rw [if_pos c18] at h
      refine Rn.i2t (t := 209) dk_102_201 rfl (decide_eq_true c18) ?_
      exact Rn.wk [0, 1, 2] rfl (p_102_209 hD _ _ _ _ _ h)
    · rw [if_neg c18] at h
      refine Rn.i2f (t := 209) dk_102_201 rfl (decide_eq_false c18) ?_
      refine Rn.bp dk_102_204 cbp_17 ?_
      refine Rn.gt (t := 244) dk_102_206 rfl ?_
      exact Rn.wk [0, 1] rfl (p_102_244 hD _ _ _ _ _ h)
def b_102_175 (x1 : Int32) (x2 : Int32) (I : dI) (J : dJ) : Option (dI × dJ) := if ¬ x1 = 60 then (b_102_192 x1 x2 I J) else (if ¬ x2 = 61 then (b_102_192 x1 x2 I J) else (b_102_244 x1 15 I J))
theorem p_102_175 {Q : Nat → Option Nat} {D : Nat} (hD : 3 ≤ D) (x1 : Int32) (x2 : Int32) (I : dI) (J : dJ) (R : (dI × dJ)) (h : b_102_175 x1 x2 I J = some R) : Rn Q D 102 175 [(0, .ref 92), (1, .int x1), (2, .int x2)] [] I J (none) R.1 R.2 := by
  replace h : (if ¬ x1 = 60 then (b_102_192 x1 x2 I J) else (if ¬ x2 = 61 then (b_102_192 x1 x2 I J) else (b_102_244 x1 15 I J))) = some R := h
  refine Rn.pu (st' := [.int x1]) dk_102_175 L_102 rfl ?_
  refine Rn.bp dk_102_176 cbp_60 ?_
  by_cases c16 : ¬ x1 = 60
  · rw [if_pos c16] at h
    refine Rn.i2t (t := 192) dk_102_178 rfl (decide_eq_true c16) ?_
    exact Rn.wk [0, 1, 2] rfl (p_102_192 hD _ _ _ _ _ h)
  · rw [if_neg c16] at h
    refine Rn.i2f (t := 192) dk_102_178 rfl (decide_eq_false c16) ?_
    refine Rn.pu (st' := [.int x2]) dk_102_181 L_102 rfl ?_
    refine Rn.bp dk_102_182 cbp_61 ?_
    by_cases c17 : ¬ x2 = 61
    · rw [if_pos c17] at h
      refine Rn.i2t (t := 192) dk_102_184 rfl (decide_eq_true c17) ?_
      exact Rn.wk [0, 1, 2] rfl (p_102_192 hD _ _ _ _ _ h)
    · rw [if_neg c17] at h
      refine Rn.i2f (t := 192) dk_102_184 rfl (decide_eq_false c17) ?_
      refine Rn.bp dk_102_187 cbp_15 ?_
      refine Rn.gt (t := 244) dk_102_189 rfl ?_
      exact Rn.wk [0, 1] rfl (p_102_244 hD _ _ _ _ _ h)
def b_102_158 (x1 : Int32) (x2 : Int32) (I : dI) (J : dJ) : Option (dI × dJ) := if ¬ x1 = 33 then (b_102_175 x1 x2 I J) else (if ¬ x2 = 61 then (b_102_175 x1 x2 I J) else (b_102_244 x1 13 I J))
theorem p_102_158 {Q : Nat → Option Nat} {D : Nat} (hD : 3 ≤ D) (x1 : Int32) (x2 : Int32) (I : dI) (J : dJ) (R : (dI × dJ)) (h : b_102_158 x1 x2 I J = some R) : Rn Q D 102 158 [(0, .ref 92), (1, .int x1), (2, .int x2)] [] I J (none) R.1 R.2 := by
  replace h : (if ¬ x1 = 33 then (b_102_175 x1 x2 I J) else (if ¬ x2 = 61 then (b_102_175 x1 x2 I J) else (b_102_244 x1 13 I J))) = some R := h
  refine Rn.pu (st' := [.int x1]) dk_102_158 L_102 rfl ?_
  refine Rn.bp dk_102_159 cbp_33 ?_
  by_cases c15 : ¬ x1 = 33
  · rw [if_pos c15] at h
    refine Rn.i2t (t := 175) dk_102_161 rfl (decide_eq_true c15) ?_
    exact Rn.wk [0, 1, 2] rfl (p_102_175 hD _ _ _ _ _ h)
  · rw [if_neg c15] at h
    refine Rn.i2f (t := 175) dk_102_161 rfl (decide_eq_false c15) ?_
    refine Rn.pu (st' := [.int x2]) dk_102_164 L_102 rfl ?_
    refine Rn.bp dk_102_165 cbp_61 ?_
    by_cases c16 : ¬ x2 = 61
    · rw [if_pos c16] at h
      refine Rn.i2t (t := 175) dk_102_167 rfl (decide_eq_true c16) ?_
      exact Rn.wk [0, 1, 2] rfl (p_102_175 hD _ _ _ _ _ h)
    · rw [if_neg c16] at h
      refine Rn.i2f (t := 175) dk_102_167 rfl (decide_eq_false c16) ?_
      refine Rn.bp dk_102_170 cbp_13 ?_
      refine Rn.gt (t := 244) dk_102_172 rfl ?_
      exact Rn.wk [0, 1] rfl (p_102_244 hD _ _ _ _ _ h)
def b_102_141 (x1 : Int32) (x2 : Int32) (I : dI) (J : dJ) : Option (dI × dJ) := if ¬ x1 = 61 then (b_102_158 x1 x2 I J) else (if ¬ x2 = 61 then (b_102_158 x1 x2 I J) else (b_102_244 x1 12 I J))
theorem p_102_141 {Q : Nat → Option Nat} {D : Nat} (hD : 3 ≤ D) (x1 : Int32) (x2 : Int32) (I : dI) (J : dJ) (R : (dI × dJ)) (h : b_102_141 x1 x2 I J = some R) : Rn Q D 102 141 [(0, .ref 92), (1, .int x1), (2, .int x2)] [] I J (none) R.1 R.2 := by
  replace h : (if ¬ x1 = 61 then (b_102_158 x1 x2 I J) else (if ¬ x2 = 61 then (b_102_158 x1 x2 I J) else (b_102_244 x1 12 I J))) = some R := h
  refine Rn.pu (st' := [.int x1]) dk_102_141 L_102 rfl ?_
  refine Rn.bp dk_102_142 cbp_61 ?_
  by_cases c14 : ¬ x1 = 61
  · rw [if_pos c14] at h
    refine Rn.i2t (t := 158) dk_102_144 rfl (decide_eq_true c14) ?_
    exact Rn.wk [0, 1, 2] rfl (p_102_158 hD _ _ _ _ _ h)
  · rw [if_neg c14] at h
    refine Rn.i2f (t := 158) dk_102_144 rfl (decide_eq_false c14) ?_
    refine Rn.pu (st' := [.int x2]) dk_102_147 L_102 rfl ?_
    refine Rn.bp dk_102_148 cbp_61 ?_
    by_cases c15 : ¬ x2 = 61
    · rw [if_pos c15] at h
      refine Rn.i2t (t := 158) dk_102_150 rfl (decide_eq_true c15) ?_
      exact Rn.wk [0, 1, 2] rfl (p_102_158 hD _ _ _ _ _ h)
    · rw [if_neg c15] at h
      refine Rn.i2f (t := 158) dk_102_150 rfl (decide_eq_false c15) ?_
      refine Rn.bp dk_102_153 cbp_12 ?_
      refine Rn.gt (t := 244) dk_102_155 rfl ?_
      exact Rn.wk [0, 1] rfl (p_102_244 hD _ _ _ _ _ h)
def b_102_124 (x1 : Int32) (x2 : Int32) (I : dI) (J : dJ) : Option (dI × dJ) := if ¬ x1 = 38 then (b_102_141 x1 x2 I J) else (if ¬ x2 = 38 then (b_102_141 x1 x2 I J) else (b_102_244 x1 11 I J))
theorem p_102_124 {Q : Nat → Option Nat} {D : Nat} (hD : 3 ≤ D) (x1 : Int32) (x2 : Int32) (I : dI) (J : dJ) (R : (dI × dJ)) (h : b_102_124 x1 x2 I J = some R) : Rn Q D 102 124 [(0, .ref 92), (1, .int x1), (2, .int x2)] [] I J (none) R.1 R.2 := by
  replace h : (if ¬ x1 = 38 then (b_102_141 x1 x2 I J) else (if ¬ x2 = 38 then (b_102_141 x1 x2 I J) else (b_102_244 x1 11 I J))) = some R := h
  refine Rn.pu (st' := [.int x1]) dk_102_124 L_102 rfl ?_
  refine Rn.bp dk_102_125 cbp_38 ?_
  by_cases c13 : ¬ x1 = 38
  · rw [if_pos c13] at h
    refine Rn.i2t (t := 141) dk_102_127 rfl (decide_eq_true c13) ?_
    exact Rn.wk [0, 1, 2] rfl (p_102_141 hD _ _ _ _ _ h)
  · rw [if_neg c13] at h
    refine Rn.i2f (t := 141) dk_102_127 rfl (decide_eq_false c13) ?_
    refine Rn.pu (st' := [.int x2]) dk_102_130 L_102 rfl ?_
    refine Rn.bp dk_102_131 cbp_38 ?_
    by_cases c14 : ¬ x2 = 38
    · rw [if_pos c14] at h
      refine Rn.i2t (t := 141) dk_102_133 rfl (decide_eq_true c14) ?_
      exact Rn.wk [0, 1, 2] rfl (p_102_141 hD _ _ _ _ _ h)
    · rw [if_neg c14] at h
      refine Rn.i2f (t := 141) dk_102_133 rfl (decide_eq_false c14) ?_
      refine Rn.bp dk_102_136 cbp_11 ?_
      refine Rn.gt (t := 244) dk_102_138 rfl ?_
      exact Rn.wk [0, 1] rfl (p_102_244 hD _ _ _ _ _ h)
def b_102_50 : Nat → Int32 → dI → dJ → Option (dI × dJ)
  | 0, _, _, _ => none
  | n + 1, x1, I, J => (m_101 (I 92 21) I J).bind (fun r16 => (m_103 r16 I J).bind (fun r18 => if r18 = 0 then ((m_104 x1 I J).bind (fun r21 => if r21 = 0 then ((m_106 I J).bind (fun r24 => some (r24.1, r24.2))) else ((m_105 I J).bind (fun r26 => some (r26.1, r26.2))))) else (lt_ (sI I 92 21 ((I 92 21) + 1)) (fun I28 => (b_102_50 n) x1 I28 J))))
theorem p_102_50 {Q : Nat → Option Nat} {D : Nat} (hD : 3 ≤ D) : ∀ (n : Nat) (x1 : Int32) (I : dI) (J : dJ) (R : (dI × dJ)), b_102_50 n x1 I J = some R → Rn Q D 102 50 [(0, .ref 92), (1, .int x1)] [] I J (none) R.1 R.2 := by
  intro n
  induction n with
  | zero => intro x1 I J R h; exact absurd h (by simp [b_102_50])
  | succ n ih =>
    intro x1 I J R h
    replace h : ((m_101 (I 92 21) I J).bind (fun r16 => (m_103 r16 I J).bind (fun r18 => if r18 = 0 then ((m_104 x1 I J).bind (fun r21 => if r21 = 0 then ((m_106 I J).bind (fun r24 => some (r24.1, r24.2))) else ((m_105 I J).bind (fun r26 => some (r26.1, r26.2))))) else (lt_ (sI I 92 21 ((I 92 21) + 1)) (fun I28 => (b_102_50 n) x1 I28 J))))) = some R := h
    refine Rn.pu (st' := [.ref 92]) dk_102_50 L_102 rfl ?_
    refine Rn.pu (st' := [.ref 92, .ref 92]) dk_102_51 L_102 rfl ?_
    refine Rn.gI dk_102_52 f_102_52.choose_spec sk_92 rfl ?_
    obtain ⟨r16, e17, h⟩ := bindS h
    refine Rn.cvI (p := 92) (As := [.int (I 92 21)]) (rest := []) dk_102_55 ck_102_55.choose_spec rfl sk_92 rfl (x_101 (Nat.le_trans (Nat.le_of_ble_eq_true rfl) hD) e17) ?_
    obtain ⟨r18, e19, h⟩ := bindS h
    refine Rn.csI (As := [.int r16]) (rest := []) dk_102_58 ck_102_58.choose_spec rfl (x_103 (Nat.le_trans (Nat.le_of_ble_eq_true rfl) hD) e19) ?_
    by_cases c20 : r18 = 0
    · rw [if_pos c20] at h
      refine Rn.i1t (t := 77) dk_102_61 rfl (decide_eq_true c20) ?_
      refine Rn.pu (st' := [.int x1]) dk_102_77 L_102 rfl ?_
      obtain ⟨r21, e22, h⟩ := bindS h
      refine Rn.csI (As := [.int x1]) (rest := []) dk_102_78 ck_102_78.choose_spec rfl (x_104 (Nat.le_trans (Nat.le_of_ble_eq_true rfl) hD) e22) ?_
      by_cases c23 : r21 = 0
      · rw [if_pos c23] at h
        refine Rn.i1t (t := 91) dk_102_81 rfl (decide_eq_true c23) ?_
        refine Rn.pu (st' := [.ref 92]) dk_102_91 L_102 rfl ?_
        obtain ⟨r24, e25, h⟩ := bindS h
        refine Rn.cvV (p := 92) (As := []) (rest := []) dk_102_92 ck_102_92.choose_spec rfl sk_92 rfl (x_106 (Nat.le_trans (Nat.le_of_ble_eq_true rfl) hD) e25) ?_
        cases h
        exact Rn.rv dk_102_95 R_102
      · rw [if_neg c23] at h
        refine Rn.i1f (t := 91) dk_102_81 rfl (decide_eq_false c23) ?_
        refine Rn.pu (st' := [.ref 92]) dk_102_84 L_102 rfl ?_
        obtain ⟨r26, e27, h⟩ := bindS h
        refine Rn.cvV (p := 92) (As := []) (rest := []) dk_102_85 ck_102_85.choose_spec rfl sk_92 rfl (x_105 (Nat.le_trans (Nat.le_of_ble_eq_true rfl) hD) e27) ?_
        refine Rn.gt (t := 95) dk_102_88 rfl ?_
        cases h
        exact Rn.rv dk_102_95 R_102
    · rw [if_neg c20] at h
      refine Rn.i1f (t := 77) dk_102_61 rfl (decide_eq_false c20) ?_
      refine Rn.pu (st' := [.ref 92]) dk_102_64 L_102 rfl ?_
      refine Rn.pu (st' := [.ref 92, .ref 92]) dk_102_65 L_102 rfl ?_
      refine Rn.gI dk_102_66 f_102_66.choose_spec sk_92 rfl ?_
      refine Rn.ic dk_102_69 cic_1 ?_
      refine Rn.pu (st' := [.int ((I 92 21) + 1), .ref 92]) dk_102_70 L_102 rfl ?_
      obtain ⟨I28, eI28, h⟩ := letS h
      refine Rn.pI dk_102_71 f_102_71.choose_spec.1 sk_92 rfl f_102_71.choose_spec.2 rfl rfl ?_
      rw [← eI28]
      refine Rn.gt (t := 50) dk_102_74 rfl ?_
      exact Rn.wk [0, 1] rfl (ih _ _ _ _ h)
def b_102_0 : Nat → dI → dJ → Option (dI × dJ)
  | 0, _, _ => none
  | n + 1, I, J => (m_101 (I 92 21) I J).bind (fun r1 => if ¬ r1 = 32 then (lt_ (sI I 92 23 (I 92 21)) (fun I4 => (m_101 (I4 92 21) I4 J).bind (fun r5 => (m_103 r5 I4 J).bind (fun r7 => if r7 = 0 then ((m_101 ((I4 92 21) + 1) I4 J).bind (fun r10 => if ¬ r5 = 124 then (b_102_124 r5 r10 I4 J) else (if ¬ r10 = 124 then (b_102_124 r5 r10 I4 J) else (b_102_244 r5 10 I4 J)))) else (b_102_50 FU r5 I4 J))))) else (lt_ (sI I 92 21 ((I 92 21) + 1)) (fun I14 => (b_102_0 n) I14 J)))
theorem p_102_0 {Q : Nat → Option Nat} {D : Nat} (hD : 3 ≤ D) : ∀ (n : Nat) (I : dI) (J : dJ) (R : (dI × dJ)), b_102_0 n I J = some R → Rn Q D 102 0 [(0, .ref 92)] [] I J (none) R.1 R.2 := by
  intro n
  induction n with
  | zero => intro I J R h; exact absurd h (by simp [b_102_0])
  | succ n ih =>
    intro I J R h
    replace h : ((m_101 (I 92 21) I J).bind (fun r1 => if ¬ r1 = 32 then (lt_ (sI I 92 23 (I 92 21)) (fun I4 => (m_101 (I4 92 21) I4 J).bind (fun r5 => (m_103 r5 I4 J).bind (fun r7 => if r7 = 0 then ((m_101 ((I4 92 21) + 1) I4 J).bind (fun r10 => if ¬ r5 = 124 then (b_102_124 r5 r10 I4 J) else (if ¬ r10 = 124 then (b_102_124 r5 r10 I4 J) else (b_102_244 r5 10 I4 J)))) else (b_102_50 FU r5 I4 J))))) else (lt_ (sI I 92 21 ((I 92 21) + 1)) (fun I14 => (b_102_0 n) I14 J)))) = some R := h
    refine Rn.pu (st' := [.ref 92]) dk_102_0 L_102 rfl ?_
    refine Rn.pu (st' := [.ref 92, .ref 92]) dk_102_1 L_102 rfl ?_
    refine Rn.gI dk_102_2 f_102_2.choose_spec sk_92 rfl ?_
    obtain ⟨r1, e2, h⟩ := bindS h
    refine Rn.cvI (p := 92) (As := [.int (I 92 21)]) (rest := []) dk_102_5 ck_102_5.choose_spec rfl sk_92 rfl (x_101 (Nat.le_trans (Nat.le_of_ble_eq_true rfl) hD) e2) ?_
    refine Rn.bp dk_102_8 cbp_32 ?_
    by_cases c3 : ¬ r1 = 32
    · rw [if_pos c3] at h
      refine Rn.i2t (t := 26) dk_102_10 rfl (decide_eq_true c3) ?_
      refine Rn.pu (st' := [.ref 92]) dk_102_26 L_102 rfl ?_
      refine Rn.pu (st' := [.ref 92, .ref 92]) dk_102_27 L_102 rfl ?_
      refine Rn.gI dk_102_28 f_102_28.choose_spec sk_92 rfl ?_
      obtain ⟨I4, eI4, h⟩ := letS h
      refine Rn.pI dk_102_31 f_102_31.choose_spec.1 sk_92 rfl f_102_31.choose_spec.2 rfl rfl ?_
      rw [← eI4]
      refine Rn.pu (st' := [.ref 92]) dk_102_34 L_102 rfl ?_
      refine Rn.pu (st' := [.ref 92, .ref 92]) dk_102_35 L_102 rfl ?_
      refine Rn.gI dk_102_36 f_102_36.choose_spec sk_92 rfl ?_
      obtain ⟨r5, e6, h⟩ := bindS h
      refine Rn.cvI (p := 92) (As := [.int (I4 92 21)]) (rest := []) dk_102_39 ck_102_39.choose_spec rfl sk_92 rfl (x_101 (Nat.le_trans (Nat.le_of_ble_eq_true rfl) hD) e6) ?_
      refine Rn.pu (ls' := [(1, .int r5), (0, .ref 92)]) (st' := []) dk_102_42 L_102 rfl ?_
      refine Rn.pu (st' := [.int r5]) dk_102_43 L_102 rfl ?_
      obtain ⟨r7, e8, h⟩ := bindS h
      refine Rn.csI (As := [.int r5]) (rest := []) dk_102_44 ck_102_44.choose_spec rfl (x_103 (Nat.le_trans (Nat.le_of_ble_eq_true rfl) hD) e8) ?_
      by_cases c9 : r7 = 0
      · rw [if_pos c9] at h
        refine Rn.i1t (t := 96) dk_102_47 rfl (decide_eq_true c9) ?_
        refine Rn.pu (st' := [.ref 92]) dk_102_96 L_102 rfl ?_
        refine Rn.pu (st' := [.ref 92, .ref 92]) dk_102_97 L_102 rfl ?_
        refine Rn.gI dk_102_98 f_102_98.choose_spec sk_92 rfl ?_
        refine Rn.ic dk_102_101 cic_1 ?_
        refine Rn.pu (st' := [.int ((I4 92 21) + 1), .ref 92]) dk_102_102 L_102 rfl ?_
        obtain ⟨r10, e11, h⟩ := bindS h
        refine Rn.cvI (p := 92) (As := [.int ((I4 92 21) + 1)]) (rest := []) dk_102_103 ck_102_103.choose_spec rfl sk_92 rfl (x_101 (Nat.le_trans (Nat.le_of_ble_eq_true rfl) hD) e11) ?_
        refine Rn.pu (ls' := [(2, .int r10), (1, .int r5), (0, .ref 92)]) (st' := []) dk_102_106 L_102 rfl ?_
        refine Rn.pu (st' := [.int r5]) dk_102_107 L_102 rfl ?_
        refine Rn.bp dk_102_108 cbp_124 ?_
        by_cases c12 : ¬ r5 = 124
        · rw [if_pos c12] at h
          refine Rn.i2t (t := 124) dk_102_110 rfl (decide_eq_true c12) ?_
          exact Rn.wk [2, 1, 0] rfl (p_102_124 hD _ _ _ _ _ h)
        · rw [if_neg c12] at h
          refine Rn.i2f (t := 124) dk_102_110 rfl (decide_eq_false c12) ?_
          refine Rn.pu (st' := [.int r10]) dk_102_113 L_102 rfl ?_
          refine Rn.bp dk_102_114 cbp_124 ?_
          by_cases c13 : ¬ r10 = 124
          · rw [if_pos c13] at h
            refine Rn.i2t (t := 124) dk_102_116 rfl (decide_eq_true c13) ?_
            exact Rn.wk [2, 1, 0] rfl (p_102_124 hD _ _ _ _ _ h)
          · rw [if_neg c13] at h
            refine Rn.i2f (t := 124) dk_102_116 rfl (decide_eq_false c13) ?_
            refine Rn.bp dk_102_119 cbp_10 ?_
            refine Rn.gt (t := 244) dk_102_121 rfl ?_
            exact Rn.wk [2, 1] rfl (p_102_244 hD _ _ _ _ _ h)
      · rw [if_neg c9] at h
        refine Rn.i1f (t := 96) dk_102_47 rfl (decide_eq_false c9) ?_
        exact Rn.wk [1, 0] rfl (p_102_50 hD FU _ _ _ _ h)
    · rw [if_neg c3] at h
      refine Rn.i2f (t := 26) dk_102_10 rfl (decide_eq_false c3) ?_
      refine Rn.pu (st' := [.ref 92]) dk_102_13 L_102 rfl ?_
      refine Rn.pu (st' := [.ref 92, .ref 92]) dk_102_14 L_102 rfl ?_
      refine Rn.gI dk_102_15 f_102_15.choose_spec sk_92 rfl ?_
      refine Rn.ic dk_102_18 cic_1 ?_
      refine Rn.pu (st' := [.int ((I 92 21) + 1), .ref 92]) dk_102_19 L_102 rfl ?_
      obtain ⟨I14, eI14, h⟩ := letS h
      refine Rn.pI dk_102_20 f_102_20.choose_spec.1 sk_92 rfl f_102_20.choose_spec.2 rfl rfl ?_
      rw [← eI14]
      refine Rn.gt (t := 0) dk_102_23 rfl ?_
      exact Rn.wk [0] rfl (ih _ _ _ h)
def m_102 (I : dI) (J : dJ) : Option (dI × dJ) := b_102_0 FU I J
theorem x_102 {Q : Nat → Option Nat} {D : Nat} (hD : 4 ≤ D) {I : dI} {J : dJ} {R : (dI × dJ)} (h : m_102 I J = some R) : Ex Q D 102 I J [.ref 92] (none) R.1 R.2 := by
  obtain ⟨D, rfl⟩ : ∃ D', D = D' + 1 := ⟨D - 1, by omega⟩
  exact Ex.of (by decide) (by rw [L_102]; exact Nat.le_of_ble_eq_true rfl) (show xm_sub [(0, .ref 92)] [(0, .ref 92)] from xm_sub_of [0] [0] rfl rfl (by decide)) (p_102_0 (Nat.le_of_succ_le_succ hD) FU _ _ _ h)
-- ConditionDeskModel.begins(I)Z
theorem L_108 : tb_mL 108 = 1 := by decide +kernel
theorem R_108 : tb_mr 108 = some .boolean := by decide +kernel
theorem dk_108_0 : decode (tb_mb 108) 0 = .ok (.iload_n 0, 1) := by decide +kernel
theorem dk_108_1 : decode (tb_mb 108) 1 = .ok (.bipush (10), 2) := by decide +kernel
theorem dk_108_3 : decode (tb_mb 108) 3 = .ok (.if_icmp .lt (33), 3) := by decide +kernel
theorem dk_108_36 : decode (tb_mb 108) 36 = .ok (.iconst (1), 1) := by decide +kernel
theorem dk_108_37 : decode (tb_mb 108) 37 = .ok (.goto (4), 3) := by decide +kernel
theorem dk_108_41 : decode (tb_mb 108) 41 = .ok (.ireturn, 1) := by decide +kernel
theorem dk_108_6 : decode (tb_mb 108) 6 = .ok (.iload_n 0, 1) := by decide +kernel
theorem dk_108_7 : decode (tb_mb 108) 7 = .ok (.bipush (24), 2) := by decide +kernel
theorem dk_108_9 : decode (tb_mb 108) 9 = .ok (.if_icmp .eq (27), 3) := by decide +kernel
theorem dk_108_12 : decode (tb_mb 108) 12 = .ok (.iload_n 0, 1) := by decide +kernel
theorem dk_108_13 : decode (tb_mb 108) 13 = .ok (.bipush (28), 2) := by decide +kernel
theorem dk_108_15 : decode (tb_mb 108) 15 = .ok (.if_icmp .eq (21), 3) := by decide +kernel
theorem dk_108_18 : decode (tb_mb 108) 18 = .ok (.iload_n 0, 1) := by decide +kernel
theorem dk_108_19 : decode (tb_mb 108) 19 = .ok (.bipush (29), 2) := by decide +kernel
theorem dk_108_21 : decode (tb_mb 108) 21 = .ok (.if_icmp .eq (15), 3) := by decide +kernel
theorem dk_108_24 : decode (tb_mb 108) 24 = .ok (.iload_n 0, 1) := by decide +kernel
theorem dk_108_25 : decode (tb_mb 108) 25 = .ok (.bipush (30), 2) := by decide +kernel
theorem dk_108_27 : decode (tb_mb 108) 27 = .ok (.if_icmp .eq (9), 3) := by decide +kernel
theorem dk_108_30 : decode (tb_mb 108) 30 = .ok (.iload_n 0, 1) := by decide +kernel
theorem dk_108_31 : decode (tb_mb 108) 31 = .ok (.bipush (32), 2) := by decide +kernel
theorem dk_108_33 : decode (tb_mb 108) 33 = .ok (.if_icmp .ne (7), 3) := by decide +kernel
theorem dk_108_40 : decode (tb_mb 108) 40 = .ok (.iconst (0), 1) := by decide +kernel
def b_108_0 (x0 : Int32) (I : dI) (J : dJ) : Option Int32 := if x0 < 10 then (some 1) else (if x0 = 24 then (some 1) else (if x0 = 28 then (some 1) else (if x0 = 29 then (some 1) else (if x0 = 30 then (some 1) else (if ¬ x0 = 32 then (some 0) else (some 1))))))
theorem p_108_0 {Q : Nat → Option Nat} {D : Nat} (hD : 1 ≤ D) (x0 : Int32) (I : dI) (J : dJ) (R : Int32) (h : b_108_0 x0 I J = some R) : Rn Q D 108 0 [(0, .int x0)] [] I J (some (.int R)) I J := by
  replace h : (if x0 < 10 then (some 1) else (if x0 = 24 then (some 1) else (if x0 = 28 then (some 1) else (if x0 = 29 then (some 1) else (if x0 = 30 then (some 1) else (if ¬ x0 = 32 then (some 0) else (some 1))))))) = some R := h
  refine Rn.pu (st' := [.int x0]) dk_108_0 L_108 rfl ?_
  refine Rn.bp dk_108_1 cbp_10 ?_
  by_cases c1 : x0 < 10
  · rw [if_pos c1] at h
    refine Rn.i2t (t := 36) dk_108_3 rfl (decide_eq_true c1) ?_
    refine Rn.ic dk_108_36 cic_1 ?_
    refine Rn.gt (t := 41) dk_108_37 rfl ?_
    cases h
    exact Rn.ri dk_108_41 R_108 rfl
  · rw [if_neg c1] at h
    refine Rn.i2f (t := 36) dk_108_3 rfl (decide_eq_false c1) ?_
    refine Rn.pu (st' := [.int x0]) dk_108_6 L_108 rfl ?_
    refine Rn.bp dk_108_7 cbp_24 ?_
    by_cases c2 : x0 = 24
    · rw [if_pos c2] at h
      refine Rn.i2t (t := 36) dk_108_9 rfl (decide_eq_true c2) ?_
      refine Rn.ic dk_108_36 cic_1 ?_
      refine Rn.gt (t := 41) dk_108_37 rfl ?_
      cases h
      exact Rn.ri dk_108_41 R_108 rfl
    · rw [if_neg c2] at h
      refine Rn.i2f (t := 36) dk_108_9 rfl (decide_eq_false c2) ?_
      refine Rn.pu (st' := [.int x0]) dk_108_12 L_108 rfl ?_
      refine Rn.bp dk_108_13 cbp_28 ?_
      by_cases c3 : x0 = 28
      · rw [if_pos c3] at h
        refine Rn.i2t (t := 36) dk_108_15 rfl (decide_eq_true c3) ?_
        refine Rn.ic dk_108_36 cic_1 ?_
        refine Rn.gt (t := 41) dk_108_37 rfl ?_
        cases h
        exact Rn.ri dk_108_41 R_108 rfl
      · rw [if_neg c3] at h
        refine Rn.i2f (t := 36) dk_108_15 rfl (decide_eq_false c3) ?_
        refine Rn.pu (st' := [.int x0]) dk_108_18 L_108 rfl ?_
        refine Rn.bp dk_108_19 cbp_29 ?_
        by_cases c4 : x0 = 29
        · rw [if_pos c4] at h
          refine Rn.i2t (t := 36) dk_108_21 rfl (decide_eq_true c4) ?_
          refine Rn.ic dk_108_36 cic_1 ?_
          refine Rn.gt (t := 41) dk_108_37 rfl ?_
          cases h
          exact Rn.ri dk_108_41 R_108 rfl
        · rw [if_neg c4] at h
          refine Rn.i2f (t := 36) dk_108_21 rfl (decide_eq_false c4) ?_
          refine Rn.pu (st' := [.int x0]) dk_108_24 L_108 rfl ?_
          refine Rn.bp dk_108_25 cbp_30 ?_
          by_cases c5 : x0 = 30
          · rw [if_pos c5] at h
            refine Rn.i2t (t := 36) dk_108_27 rfl (decide_eq_true c5) ?_
            refine Rn.ic dk_108_36 cic_1 ?_
            refine Rn.gt (t := 41) dk_108_37 rfl ?_
            cases h
            exact Rn.ri dk_108_41 R_108 rfl
          · rw [if_neg c5] at h
            refine Rn.i2f (t := 36) dk_108_27 rfl (decide_eq_false c5) ?_
            refine Rn.pu (st' := [.int x0]) dk_108_30 L_108 rfl ?_
            refine Rn.bp dk_108_31 cbp_32 ?_
            by_cases c6 : ¬ x0 = 32
            · rw [if_pos c6] at h
              refine Rn.i2t (t := 40) dk_108_33 rfl (decide_eq_true c6) ?_
              refine Rn.ic dk_108_40 cic_0 ?_
              cases h
              exact Rn.ri dk_108_41 R_108 rfl
            · rw [if_neg c6] at h
              refine Rn.i2f (t := 40) dk_108_33 rfl (decide_eq_false c6) ?_
              refine Rn.ic dk_108_36 cic_1 ?_
              refine Rn.gt (t := 41) dk_108_37 rfl ?_
              cases h
              exact Rn.ri dk_108_41 R_108 rfl
def m_108 (x0 : Int32) (I : dI) (J : dJ) : Option Int32 := b_108_0 x0 I J
theorem x_108 {Q : Nat → Option Nat} {D : Nat} (hD : 2 ≤ D) {x0 : Int32} {I : dI} {J : dJ} {R : Int32} (h : m_108 x0 I J = some R) : Ex Q D 108 I J [.int x0] (some (.int R)) I J := by
  obtain ⟨D, rfl⟩ : ∃ D', D = D' + 1 := ⟨D - 1, by omega⟩
  exact Ex.of (by decide) (by rw [L_108]; exact Nat.le_of_ble_eq_true rfl) (show xm_sub [(0, .int x0)] [(0, .int x0)] from xm_sub_of [0] [0] rfl rfl (by decide)) (p_108_0 (Nat.le_of_succ_le_succ hD) _ _ _ _ h)
-- ConditionDeskModel.isBetween(I)Z
theorem L_109 : tb_mL 109 = 1 := by decide +kernel
theorem R_109 : tb_mr 109 = some .boolean := by decide +kernel
theorem dk_109_0 : decode (tb_mb 109) 0 = .ok (.iload_n 0, 1) := by decide +kernel
theorem dk_109_1 : decode (tb_mb 109) 1 = .ok (.bipush (10), 2) := by decide +kernel
theorem dk_109_3 : decode (tb_mb 109) 3 = .ok (.if_icmp .lt (13), 3) := by decide +kernel
theorem dk_109_16 : decode (tb_mb 109) 16 = .ok (.iconst (0), 1) := by decide +kernel
theorem dk_109_17 : decode (tb_mb 109) 17 = .ok (.ireturn, 1) := by decide +kernel
theorem dk_109_6 : decode (tb_mb 109) 6 = .ok (.iload_n 0, 1) := by decide +kernel
theorem dk_109_7 : decode (tb_mb 109) 7 = .ok (.bipush (27), 2) := by decide +kernel
theorem dk_109_9 : decode (tb_mb 109) 9 = .ok (.if_icmp .gt (7), 3) := by decide +kernel
theorem dk_109_12 : decode (tb_mb 109) 12 = .ok (.iconst (1), 1) := by decide +kernel
theorem dk_109_13 : decode (tb_mb 109) 13 = .ok (.goto (4), 3) := by decide +kernel
def b_109_0 (x0 : Int32) (I : dI) (J : dJ) : Option Int32 := if x0 < 10 then (some 0) else (if 27 < x0 then (some 0) else (some 1))
theorem p_109_0 {Q : Nat → Option Nat} {D : Nat} (hD : 1 ≤ D) (x0 : Int32) (I : dI) (J : dJ) (R : Int32) (h : b_109_0 x0 I J = some R) : Rn Q D 109 0 [(0, .int x0)] [] I J (some (.int R)) I J := by
  replace h : (if x0 < 10 then (some 0) else (if 27 < x0 then (some 0) else (some 1))) = some R := h
  refine Rn.pu (st' := [.int x0]) dk_109_0 L_109 rfl ?_
  refine Rn.bp dk_109_1 cbp_10 ?_
  by_cases c1 : x0 < 10
  · rw [if_pos c1] at h
    refine Rn.i2t (t := 16) dk_109_3 rfl (decide_eq_true c1) ?_
    refine Rn.ic dk_109_16 cic_0 ?_
    cases h
    exact Rn.ri dk_109_17 R_109 rfl
  · rw [if_neg c1] at h
    refine Rn.i2f (t := 16) dk_109_3 rfl (decide_eq_false c1) ?_
    refine Rn.pu (st' := [.int x0]) dk_109_6 L_109 rfl ?_
    refine Rn.bp dk_109_7 cbp_27 ?_
    by_cases c2 : 27 < x0
    · rw [if_pos c2] at h
      refine Rn.i2t (t := 16) dk_109_9 rfl (decide_eq_true c2) ?_
      refine Rn.ic dk_109_16 cic_0 ?_
      cases h
      exact Rn.ri dk_109_17 R_109 rfl
    · rw [if_neg c2] at h
      refine Rn.i2f (t := 16) dk_109_9 rfl (decide_eq_false c2) ?_
      refine Rn.ic dk_109_12 cic_1 ?_
      refine Rn.gt (t := 17) dk_109_13 rfl ?_
      cases h
      exact Rn.ri dk_109_17 R_109 rfl
def m_109 (x0 : Int32) (I : dI) (J : dJ) : Option Int32 := b_109_0 x0 I J
theorem x_109 {Q : Nat → Option Nat} {D : Nat} (hD : 2 ≤ D) {x0 : Int32} {I : dI} {J : dJ} {R : Int32} (h : m_109 x0 I J = some R) : Ex Q D 109 I J [.int x0] (some (.int R)) I J := by
  obtain ⟨D, rfl⟩ : ∃ D', D = D' + 1 := ⟨D - 1, by omega⟩
  exact Ex.of (by decide) (by rw [L_109]; exact Nat.le_of_ble_eq_true rfl) (show xm_sub [(0, .int x0)] [(0, .int x0)] from xm_sub_of [0] [0] rfl rfl (by decide)) (p_109_0 (Nat.le_of_succ_le_succ hD) _ _ _ _ h)
-- ConditionDeskModel.meet(II)V
theorem L_110 : tb_mL 110 = 3 := by decide +kernel
theorem R_110 : tb_mr 110 = none := by decide +kernel
theorem dk_110_0 : decode (tb_mb 110) 0 = .ok (.aload_n 0, 1) := by decide +kernel
theorem dk_110_1 : decode (tb_mb 110) 1 = .ok (.getfield 154, 3) := by decide +kernel
theorem f_110_1 : ∃ b, tb_fr (tb_oc 110) 154 = some (9, 26, b) := ⟨_, rfl⟩
theorem dk_110_4 : decode (tb_mb 110) 4 = .ok (.ifCond .ne (13), 3) := by decide +kernel
theorem dk_110_17 : decode (tb_mb 110) 17 = .ok (.return_, 1) := by decide +kernel
theorem dk_110_7 : decode (tb_mb 110) 7 = .ok (.aload_n 0, 1) := by decide +kernel
theorem dk_110_8 : decode (tb_mb 110) 8 = .ok (.iload_n 1, 1) := by decide +kernel
theorem dk_110_9 : decode (tb_mb 110) 9 = .ok (.bipush (8), 2) := by decide +kernel
theorem dk_110_11 : decode (tb_mb 110) 11 = .ok (.iload_n 2, 1) := by decide +kernel
theorem dk_110_12 : decode (tb_mb 110) 12 = .ok (.imul, 1) := by decide +kernel
theorem dk_110_13 : decode (tb_mb 110) 13 = .ok (.iadd, 1) := by decide +kernel
theorem dk_110_14 : decode (tb_mb 110) 14 = .ok (.putfield 154, 3) := by decide +kernel
theorem f_110_14 : ∃ b, tb_fr (tb_oc 110) 154 = some (9, 26, b) ∧ xm_fin tb_cl (tb_ini 110) b 9 26 = true := ⟨_, rfl, rfl⟩
def b_110_0 (x1 : Int32) (x2 : Int32) (I : dI) (J : dJ) : Option (dI × dJ) := if ¬ (I 92 26) = 0 then (some (I, J)) else (lt_ (sI I 92 26 (x1 + (8 * x2))) (fun I2 => some (I2, J)))
theorem p_110_0 {Q : Nat → Option Nat} {D : Nat} (hD : 1 ≤ D) (x1 : Int32) (x2 : Int32) (I : dI) (J : dJ) (R : (dI × dJ)) (h : b_110_0 x1 x2 I J = some R) : Rn Q D 110 0 [(0, .ref 92), (1, .int x1), (2, .int x2)] [] I J (none) R.1 R.2 := by
  replace h : (if ¬ (I 92 26) = 0 then (some (I, J)) else (lt_ (sI I 92 26 (x1 + (8 * x2))) (fun I2 => some (I2, J)))) = some R := h
  refine Rn.pu (st' := [.ref 92]) dk_110_0 L_110 rfl ?_
  refine Rn.gI dk_110_1 f_110_1.choose_spec sk_92 rfl ?_
  by_cases c1 : ¬ (I 92 26) = 0
  · rw [if_pos c1] at h
    refine Rn.i1t (t := 17) dk_110_4 rfl (decide_eq_true c1) ?_
    cases h
    exact Rn.rv dk_110_17 R_110
  · rw [if_neg c1] at h
    refine Rn.i1f (t := 17) dk_110_4 rfl (decide_eq_false c1) ?_
    refine Rn.pu (st' := [.ref 92]) dk_110_7 L_110 rfl ?_
    refine Rn.pu (st' := [.int x1, .ref 92]) dk_110_8 L_110 rfl ?_
    refine Rn.bp dk_110_9 cbp_8 ?_
    refine Rn.pu (st' := [.int x2, .int 8, .int x1, .ref 92]) dk_110_11 L_110 rfl ?_
    refine Rn.pu (st' := [.int (8 * x2), .int x1, .ref 92]) dk_110_12 L_110 rfl ?_
    refine Rn.pu (st' := [.int (x1 + (8 * x2)), .ref 92]) dk_110_13 L_110 rfl ?_
    obtain ⟨I2, eI2, h⟩ := letS h
    refine Rn.pI dk_110_14 f_110_14.choose_spec.1 sk_92 rfl f_110_14.choose_spec.2 rfl rfl ?_
    rw [← eI2]
    cases h
    exact Rn.rv dk_110_17 R_110
def m_110 (x1 : Int32) (x2 : Int32) (I : dI) (J : dJ) : Option (dI × dJ) := b_110_0 x1 x2 I J
theorem x_110 {Q : Nat → Option Nat} {D : Nat} (hD : 2 ≤ D) {x1 : Int32} {x2 : Int32} {I : dI} {J : dJ} {R : (dI × dJ)} (h : m_110 x1 x2 I J = some R) : Ex Q D 110 I J [.ref 92, .int x1, .int x2] (none) R.1 R.2 := by
  obtain ⟨D, rfl⟩ : ∃ D', D = D' + 1 := ⟨D - 1, by omega⟩
  exact Ex.of (by decide) (by rw [L_110]; exact Nat.le_of_ble_eq_true rfl) (show xm_sub [(0, .ref 92), (1, .int x1), (2, .int x2)] [(0, .ref 92), (1, .int x1), (2, .int x2)] from xm_sub_of [0, 1, 2] [0, 1, 2] rfl rfl (by decide)) (p_110_0 (Nat.le_of_succ_le_succ hD) _ _ _ _ _ h)
