/-! every row of these methods is sound: by program -/
set_option maxRecDepth 100000
theorem d253_0 : decode (eb_b 253) 0 = .ok (.new 7, 3) := by decide +kernel
theorem wq_8_7 : Cond.classLink (eb_cN 8) 7 (eb_cN 5) ∈ eb_LT := eb_lt 91 (by decide +kernel)
theorem d253_3 : decode (eb_b 253) 3 = .ok (.dup, 1) := by decide +kernel
theorem d253_4 : decode (eb_b 253) 4 = .ok (.invokespecial 9, 3) := by decide +kernel
theorem wc_67 : Cond.code (eb_y 67) (eb_b 67) (eb_ml 67) (eb_rt 67) ∈ eb_LT := eb_lt 95 (by decide +kernel)
theorem cy_67 : (eb_y 67).cls ≠ "java/lang/invoke/MethodHandle" ∧ (eb_y 67).cls ≠ "java/lang/invoke/VarHandle" ∧ (parseMethodDescriptor (eb_y 67).desc).map (fun d => d.parameters.length) = some 0 := by decide +kernel
theorem wi_67 : Cond.instanceMethod (eb_y 67) ∈ eb_LT := eb_lt 94 (by decide +kernel)
theorem wn_67 : Cond.initialized (eb_y 67).cls ∈ eb_LT := eb_lt 77 (by decide +kernel)
theorem kI_67 {L q0 m pc : Nat} {lg : Nat → Bool} {ix : Nat} (hw : Cond.methodLink (eb_own m) ix (eb_y 67) ∈ eb_LT) (hd : decode (eb_b m) pc = .ok (.invokespecial ix, 3)) : eb_Snd L q0 m pc lg (op_callv 67 1 (pc + 3)) := sn_callI rfl (by decide) rfl ⟨⟨hw, wi_67, wn_67⟩, wc_67⟩ rfl cy_67 hd
theorem wm_8_9 : Cond.methodLink (eb_cN 8) 9 (eb_y 67) ∈ eb_LT := eb_lt 93 (by decide +kernel)
theorem d253_7 : decode (eb_b 253) 7 = .ok (.astore_n 1, 1) := by decide +kernel
theorem hn253_1 : 1 < eb_ml 253 := by decide
theorem d253_8 : decode (eb_b 253) 8 = .ok (.new 10, 3) := by decide +kernel
theorem wq_8_10 : Cond.classLink (eb_cN 8) 10 (eb_cN 6) ∈ eb_LT := eb_lt 946 (by decide +kernel)
theorem d253_11 : decode (eb_b 253) 11 = .ok (.dup, 1) := by decide +kernel
theorem d253_12 : decode (eb_b 253) 12 = .ok (.invokespecial 12, 3) := by decide +kernel
theorem wm_8_12 : Cond.methodLink (eb_cN 8) 12 (eb_y 144) ∈ eb_LT := eb_lt 948 (by decide +kernel)
theorem d253_15 : decode (eb_b 253) 15 = .ok (.astore_n 2, 1) := by decide +kernel
theorem hn253_2 : 2 < eb_ml 253 := by decide
theorem d253_16 : decode (eb_b 253) 16 = .ok (.iconst 0, 1) := by decide +kernel
theorem d253_17 : decode (eb_b 253) 17 = .ok (.istore_n 3, 1) := by decide +kernel
theorem hn253_3 : 3 < eb_ml 253 := by decide
theorem d253_18 : decode (eb_b 253) 18 = .ok (.iload_n 3, 1) := by decide +kernel
theorem d253_19 : decode (eb_b 253) 19 = .ok (.aload_n 0, 1) := by decide +kernel
theorem d253_20 : decode (eb_b 253) 20 = .ok (.arraylength, 1) := by decide +kernel
theorem d253_21 : decode (eb_b 253) 21 = .ok (.bipush 6, 2) := by decide +kernel
theorem d253_23 : decode (eb_b 253) 23 = .ok (.isub, 1) := by decide +kernel
theorem d253_24 : decode (eb_b 253) 24 = .ok (.if_icmp .gt 1930, 3) := by decide +kernel
theorem d253_27 : decode (eb_b 253) 27 = .ok (.aload_n 0, 1) := by decide +kernel
theorem d253_28 : decode (eb_b 253) 28 = .ok (.iload_n 3, 1) := by decide +kernel
theorem d253_29 : decode (eb_b 253) 29 = .ok (.iaload, 1) := by decide +kernel
theorem d253_30 : decode (eb_b 253) 30 = .ok (.bipush 63, 2) := by decide +kernel
theorem d253_32 : decode (eb_b 253) 32 = .ok (.iand, 1) := by decide +kernel
theorem d253_33 : decode (eb_b 253) 33 = .ok (.tableswitch 1915 0 56 #[243, 286, 359, 422, 456, 479, 512, 545, 588, 631, 674, 707, 730, 763, 786, 819, 842, 855, 868, 901, 934, 967, 1000, 1023, 1046, 1059, 1082, 1105, 1128, 1151, 1164, 1177, 1200, 1223, 1246, 1269, 1312, 1345, 1368, 1401, 1444, 1477, 1510, 1533, 1566, 1599, 1642, 1675, 1728, 1751, 1784, 1797, 1820, 1843, 1866, 1879, 1892], 243) := by decide +kernel
theorem d253_276 : decode (eb_b 253) 276 = .ok (.aload_n 1, 1) := by decide +kernel
theorem d253_277 : decode (eb_b 253) 277 = .ok (.aload_n 0, 1) := by decide +kernel
theorem d253_278 : decode (eb_b 253) 278 = .ok (.iload_n 3, 1) := by decide +kernel
theorem d253_279 : decode (eb_b 253) 279 = .ok (.iconst 1, 1) := by decide +kernel
theorem d253_280 : decode (eb_b 253) 280 = .ok (.iadd, 1) := by decide +kernel
theorem d253_281 : decode (eb_b 253) 281 = .ok (.iaload, 1) := by decide +kernel
theorem d253_282 : decode (eb_b 253) 282 = .ok (.aload_n 0, 1) := by decide +kernel
theorem d253_283 : decode (eb_b 253) 283 = .ok (.iload_n 3, 1) := by decide +kernel
theorem d253_284 : decode (eb_b 253) 284 = .ok (.iconst 2, 1) := by decide +kernel
theorem d253_285 : decode (eb_b 253) 285 = .ok (.iadd, 1) := by decide +kernel
theorem d253_286 : decode (eb_b 253) 286 = .ok (.iaload, 1) := by decide +kernel
theorem d253_287 : decode (eb_b 253) 287 = .ok (.aload_n 0, 1) := by decide +kernel
theorem d253_288 : decode (eb_b 253) 288 = .ok (.iload_n 3, 1) := by decide +kernel
theorem d253_289 : decode (eb_b 253) 289 = .ok (.iconst 3, 1) := by decide +kernel
theorem d253_290 : decode (eb_b 253) 290 = .ok (.iadd, 1) := by decide +kernel
theorem d253_291 : decode (eb_b 253) 291 = .ok (.iaload, 1) := by decide +kernel
theorem d253_292 : decode (eb_b 253) 292 = .ok (.invokevirtual 13, 3) := by decide +kernel
theorem wc_68 : Cond.code (eb_y 68) (eb_b 68) (eb_ml 68) (eb_rt 68) ∈ eb_LT := eb_lt 305 (by decide +kernel)
theorem cy_68 : (eb_y 68).cls = eb_cN (eb_rc 68) ∧ (eb_y 68).cls ≠ "java/lang/invoke/MethodHandle" ∧ (eb_y 68).cls ≠ "java/lang/invoke/VarHandle" ∧ (parseMethodDescriptor (eb_y 68).desc).map (fun d => d.parameters.length) = some 3 := by decide +kernel
theorem wi_68 : Cond.instanceMethod (eb_y 68) ∈ eb_LT := eb_lt 303 (by decide +kernel)
theorem wse_68 : Cond.selects (eb_cN (eb_rc 68)) (eb_y 68) (eb_y 68) ∈ eb_LT := eb_lt 304 (by decide +kernel)
theorem kV_68 {L q0 m pc : Nat} {lg : Nat → Bool} {ix : Nat} (hw : Cond.methodLink (eb_own m) ix (eb_y 68) ∈ eb_LT) (hd : decode (eb_b m) pc = .ok (.invokevirtual ix, 3)) : eb_Snd L q0 m pc lg (op_call 68 4 (pc + 3)) := sn_callV false rfl (Or.inr ⟨rfl, _, rfl⟩) (by decide) rfl (by decide) ⟨⟨hw, wi_68, wse_68⟩, wc_68⟩ cy_68 hd
theorem wm_8_13 : Cond.methodLink (eb_cN 8) 13 (eb_y 68) ∈ eb_LT := eb_lt 302 (by decide +kernel)
theorem d253_295 : decode (eb_b 253) 295 = .ok (.aload_n 2, 1) := by decide +kernel
theorem d253_296 : decode (eb_b 253) 296 = .ok (.aload_n 0, 1) := by decide +kernel
theorem d253_297 : decode (eb_b 253) 297 = .ok (.iload_n 3, 1) := by decide +kernel
theorem d253_298 : decode (eb_b 253) 298 = .ok (.iconst 1, 1) := by decide +kernel
theorem d253_299 : decode (eb_b 253) 299 = .ok (.iadd, 1) := by decide +kernel
theorem d253_300 : decode (eb_b 253) 300 = .ok (.iaload, 1) := by decide +kernel
theorem d253_301 : decode (eb_b 253) 301 = .ok (.aload_n 0, 1) := by decide +kernel
theorem d253_302 : decode (eb_b 253) 302 = .ok (.iload_n 3, 1) := by decide +kernel
theorem d253_303 : decode (eb_b 253) 303 = .ok (.iconst 2, 1) := by decide +kernel
theorem d253_304 : decode (eb_b 253) 304 = .ok (.iadd, 1) := by decide +kernel
theorem d253_305 : decode (eb_b 253) 305 = .ok (.iaload, 1) := by decide +kernel
theorem d253_306 : decode (eb_b 253) 306 = .ok (.aload_n 0, 1) := by decide +kernel
theorem d253_307 : decode (eb_b 253) 307 = .ok (.iload_n 3, 1) := by decide +kernel
theorem d253_308 : decode (eb_b 253) 308 = .ok (.iconst 3, 1) := by decide +kernel
theorem d253_309 : decode (eb_b 253) 309 = .ok (.iadd, 1) := by decide +kernel
theorem d253_310 : decode (eb_b 253) 310 = .ok (.iaload, 1) := by decide +kernel
theorem d253_311 : decode (eb_b 253) 311 = .ok (.invokevirtual 17, 3) := by decide +kernel
theorem wc_151 : Cond.code (eb_y 151) (eb_b 151) (eb_ml 151) (eb_rt 151) ∈ eb_LT := eb_lt 1062 (by decide +kernel)
theorem cy_151 : (eb_y 151).cls = eb_cN (eb_rc 151) ∧ (eb_y 151).cls ≠ "java/lang/invoke/MethodHandle" ∧ (eb_y 151).cls ≠ "java/lang/invoke/VarHandle" ∧ (parseMethodDescriptor (eb_y 151).desc).map (fun d => d.parameters.length) = some 3 := by decide +kernel
theorem wi_151 : Cond.instanceMethod (eb_y 151) ∈ eb_LT := eb_lt 1060 (by decide +kernel)
theorem wse_151 : Cond.selects (eb_cN (eb_rc 151)) (eb_y 151) (eb_y 151) ∈ eb_LT := eb_lt 1061 (by decide +kernel)
theorem kV_151 {L q0 m pc : Nat} {lg : Nat → Bool} {ix : Nat} (hw : Cond.methodLink (eb_own m) ix (eb_y 151) ∈ eb_LT) (hd : decode (eb_b m) pc = .ok (.invokevirtual ix, 3)) : eb_Snd L q0 m pc lg (op_call 151 4 (pc + 3)) := sn_callV false rfl (Or.inr ⟨rfl, _, rfl⟩) (by decide) rfl (by decide) ⟨⟨hw, wi_151, wse_151⟩, wc_151⟩ cy_151 hd
theorem wm_8_17 : Cond.methodLink (eb_cN 8) 17 (eb_y 151) ∈ eb_LT := eb_lt 1059 (by decide +kernel)
theorem d253_314 : decode (eb_b 253) 314 = .ok (.if_icmp .eq 1634, 3) := by decide +kernel
theorem d253_317 : decode (eb_b 253) 317 = .ok (.iconst 0, 1) := by decide +kernel
theorem d253_318 : decode (eb_b 253) 318 = .ok (.ireturn, 1) := by decide +kernel
theorem d253_319 : decode (eb_b 253) 319 = .ok (.aload_n 1, 1) := by decide +kernel
theorem d253_320 : decode (eb_b 253) 320 = .ok (.aload_n 0, 1) := by decide +kernel
theorem d253_321 : decode (eb_b 253) 321 = .ok (.iload_n 3, 1) := by decide +kernel
theorem d253_322 : decode (eb_b 253) 322 = .ok (.iconst 1, 1) := by decide +kernel
theorem d253_323 : decode (eb_b 253) 323 = .ok (.iadd, 1) := by decide +kernel
theorem d253_324 : decode (eb_b 253) 324 = .ok (.iaload, 1) := by decide +kernel
theorem d253_325 : decode (eb_b 253) 325 = .ok (.aload_n 0, 1) := by decide +kernel
theorem d253_326 : decode (eb_b 253) 326 = .ok (.iload_n 3, 1) := by decide +kernel
theorem d253_327 : decode (eb_b 253) 327 = .ok (.iconst 2, 1) := by decide +kernel
theorem d253_328 : decode (eb_b 253) 328 = .ok (.iadd, 1) := by decide +kernel
theorem d253_329 : decode (eb_b 253) 329 = .ok (.iaload, 1) := by decide +kernel
theorem d253_330 : decode (eb_b 253) 330 = .ok (.aload_n 0, 1) := by decide +kernel
theorem d253_331 : decode (eb_b 253) 331 = .ok (.iload_n 3, 1) := by decide +kernel
theorem d253_332 : decode (eb_b 253) 332 = .ok (.iconst 3, 1) := by decide +kernel
theorem d253_333 : decode (eb_b 253) 333 = .ok (.iadd, 1) := by decide +kernel
theorem d253_334 : decode (eb_b 253) 334 = .ok (.iaload, 1) := by decide +kernel
theorem d253_335 : decode (eb_b 253) 335 = .ok (.i2l, 1) := by decide +kernel
theorem d253_336 : decode (eb_b 253) 336 = .ok (.bipush 32, 2) := by decide +kernel
theorem d253_338 : decode (eb_b 253) 338 = .ok (.lshl, 1) := by decide +kernel
theorem d253_339 : decode (eb_b 253) 339 = .ok (.aload_n 0, 1) := by decide +kernel
theorem d253_340 : decode (eb_b 253) 340 = .ok (.iload_n 3, 1) := by decide +kernel
theorem d253_341 : decode (eb_b 253) 341 = .ok (.iconst 4, 1) := by decide +kernel
theorem d253_342 : decode (eb_b 253) 342 = .ok (.iadd, 1) := by decide +kernel
theorem d253_343 : decode (eb_b 253) 343 = .ok (.iaload, 1) := by decide +kernel
theorem d253_344 : decode (eb_b 253) 344 = .ok (.i2l, 1) := by decide +kernel
theorem d253_345 : decode (eb_b 253) 345 = .ok (.ldc2_w 18, 3) := by decide +kernel
theorem wl_8_18 : Cond.constantLong (eb_cN 8) 18 4294967295 ∈ eb_LT := eb_lt 1508 (by decide +kernel)
theorem d253_348 : decode (eb_b 253) 348 = .ok (.land, 1) := by decide +kernel
theorem d253_349 : decode (eb_b 253) 349 = .ok (.lor, 1) := by decide +kernel
theorem d253_350 : decode (eb_b 253) 350 = .ok (.invokevirtual 20, 3) := by decide +kernel
theorem wc_69 : Cond.code (eb_y 69) (eb_b 69) (eb_ml 69) (eb_rt 69) ∈ eb_LT := eb_lt 323 (by decide +kernel)
theorem cy_69 : (eb_y 69).cls = eb_cN (eb_rc 69) ∧ (eb_y 69).cls ≠ "java/lang/invoke/MethodHandle" ∧ (eb_y 69).cls ≠ "java/lang/invoke/VarHandle" ∧ (parseMethodDescriptor (eb_y 69).desc).map (fun d => d.parameters.length) = some 3 := by decide +kernel
theorem wi_69 : Cond.instanceMethod (eb_y 69) ∈ eb_LT := eb_lt 321 (by decide +kernel)
theorem wse_69 : Cond.selects (eb_cN (eb_rc 69)) (eb_y 69) (eb_y 69) ∈ eb_LT := eb_lt 322 (by decide +kernel)
theorem kV_69 {L q0 m pc : Nat} {lg : Nat → Bool} {ix : Nat} (hw : Cond.methodLink (eb_own m) ix (eb_y 69) ∈ eb_LT) (hd : decode (eb_b m) pc = .ok (.invokevirtual ix, 3)) : eb_Snd L q0 m pc lg (op_call 69 4 (pc + 3)) := sn_callV false rfl (Or.inr ⟨rfl, _, rfl⟩) (by decide) rfl (by decide) ⟨⟨hw, wi_69, wse_69⟩, wc_69⟩ cy_69 hd
theorem wm_8_20 : Cond.methodLink (eb_cN 8) 20 (eb_y 69) ∈ eb_LT := eb_lt 320 (by decide +kernel)
theorem d253_353 : decode (eb_b 253) 353 = .ok (.aload_n 2, 1) := by decide +kernel
theorem d253_354 : decode (eb_b 253) 354 = .ok (.aload_n 0, 1) := by decide +kernel
theorem d253_355 : decode (eb_b 253) 355 = .ok (.iload_n 3, 1) := by decide +kernel
theorem d253_356 : decode (eb_b 253) 356 = .ok (.iconst 1, 1) := by decide +kernel
theorem d253_357 : decode (eb_b 253) 357 = .ok (.iadd, 1) := by decide +kernel
theorem d253_358 : decode (eb_b 253) 358 = .ok (.iaload, 1) := by decide +kernel
theorem d253_359 : decode (eb_b 253) 359 = .ok (.aload_n 0, 1) := by decide +kernel
theorem d253_360 : decode (eb_b 253) 360 = .ok (.iload_n 3, 1) := by decide +kernel
theorem d253_361 : decode (eb_b 253) 361 = .ok (.iconst 2, 1) := by decide +kernel
theorem d253_362 : decode (eb_b 253) 362 = .ok (.iadd, 1) := by decide +kernel
theorem d253_363 : decode (eb_b 253) 363 = .ok (.iaload, 1) := by decide +kernel
theorem d253_364 : decode (eb_b 253) 364 = .ok (.aload_n 0, 1) := by decide +kernel
theorem d253_365 : decode (eb_b 253) 365 = .ok (.iload_n 3, 1) := by decide +kernel
theorem d253_366 : decode (eb_b 253) 366 = .ok (.iconst 3, 1) := by decide +kernel
theorem d253_367 : decode (eb_b 253) 367 = .ok (.iadd, 1) := by decide +kernel
theorem d253_368 : decode (eb_b 253) 368 = .ok (.iaload, 1) := by decide +kernel
theorem d253_369 : decode (eb_b 253) 369 = .ok (.i2l, 1) := by decide +kernel
theorem d253_370 : decode (eb_b 253) 370 = .ok (.bipush 32, 2) := by decide +kernel
theorem d253_372 : decode (eb_b 253) 372 = .ok (.lshl, 1) := by decide +kernel
theorem d253_373 : decode (eb_b 253) 373 = .ok (.aload_n 0, 1) := by decide +kernel
theorem d253_374 : decode (eb_b 253) 374 = .ok (.iload_n 3, 1) := by decide +kernel
theorem d253_375 : decode (eb_b 253) 375 = .ok (.iconst 4, 1) := by decide +kernel
theorem d253_376 : decode (eb_b 253) 376 = .ok (.iadd, 1) := by decide +kernel
theorem d253_377 : decode (eb_b 253) 377 = .ok (.iaload, 1) := by decide +kernel
theorem d253_378 : decode (eb_b 253) 378 = .ok (.i2l, 1) := by decide +kernel
theorem d253_379 : decode (eb_b 253) 379 = .ok (.ldc2_w 18, 3) := by decide +kernel
theorem d253_382 : decode (eb_b 253) 382 = .ok (.land, 1) := by decide +kernel
theorem d253_383 : decode (eb_b 253) 383 = .ok (.lor, 1) := by decide +kernel
theorem d253_384 : decode (eb_b 253) 384 = .ok (.invokevirtual 24, 3) := by decide +kernel
theorem wc_154 : Cond.code (eb_y 154) (eb_b 154) (eb_ml 154) (eb_rt 154) ∈ eb_LT := eb_lt 1076 (by decide +kernel)
theorem cy_154 : (eb_y 154).cls = eb_cN (eb_rc 154) ∧ (eb_y 154).cls ≠ "java/lang/invoke/MethodHandle" ∧ (eb_y 154).cls ≠ "java/lang/invoke/VarHandle" ∧ (parseMethodDescriptor (eb_y 154).desc).map (fun d => d.parameters.length) = some 3 := by decide +kernel
theorem wi_154 : Cond.instanceMethod (eb_y 154) ∈ eb_LT := eb_lt 1074 (by decide +kernel)
theorem wse_154 : Cond.selects (eb_cN (eb_rc 154)) (eb_y 154) (eb_y 154) ∈ eb_LT := eb_lt 1075 (by decide +kernel)
theorem kV_154 {L q0 m pc : Nat} {lg : Nat → Bool} {ix : Nat} (hw : Cond.methodLink (eb_own m) ix (eb_y 154) ∈ eb_LT) (hd : decode (eb_b m) pc = .ok (.invokevirtual ix, 3)) : eb_Snd L q0 m pc lg (op_call 154 4 (pc + 3)) := sn_callV false rfl (Or.inr ⟨rfl, _, rfl⟩) (by decide) rfl (by decide) ⟨⟨hw, wi_154, wse_154⟩, wc_154⟩ cy_154 hd
theorem wm_8_24 : Cond.methodLink (eb_cN 8) 24 (eb_y 154) ∈ eb_LT := eb_lt 1073 (by decide +kernel)
theorem d253_387 : decode (eb_b 253) 387 = .ok (.if_icmp .eq 1561, 3) := by decide +kernel
theorem d253_390 : decode (eb_b 253) 390 = .ok (.iconst 0, 1) := by decide +kernel
theorem d253_391 : decode (eb_b 253) 391 = .ok (.ireturn, 1) := by decide +kernel
theorem d253_392 : decode (eb_b 253) 392 = .ok (.aload_n 1, 1) := by decide +kernel
theorem d253_393 : decode (eb_b 253) 393 = .ok (.aload_n 0, 1) := by decide +kernel
theorem d253_394 : decode (eb_b 253) 394 = .ok (.iload_n 3, 1) := by decide +kernel
theorem d253_395 : decode (eb_b 253) 395 = .ok (.iconst 1, 1) := by decide +kernel
theorem d253_396 : decode (eb_b 253) 396 = .ok (.iadd, 1) := by decide +kernel
theorem d253_397 : decode (eb_b 253) 397 = .ok (.iaload, 1) := by decide +kernel
theorem d253_398 : decode (eb_b 253) 398 = .ok (.aload_n 0, 1) := by decide +kernel
theorem d253_399 : decode (eb_b 253) 399 = .ok (.iload_n 3, 1) := by decide +kernel
theorem d253_400 : decode (eb_b 253) 400 = .ok (.iconst 2, 1) := by decide +kernel
theorem d253_401 : decode (eb_b 253) 401 = .ok (.iadd, 1) := by decide +kernel
theorem d253_402 : decode (eb_b 253) 402 = .ok (.iaload, 1) := by decide +kernel
theorem d253_403 : decode (eb_b 253) 403 = .ok (.aload_n 0, 1) := by decide +kernel
theorem d253_404 : decode (eb_b 253) 404 = .ok (.iload_n 3, 1) := by decide +kernel
theorem d253_405 : decode (eb_b 253) 405 = .ok (.iconst 3, 1) := by decide +kernel
theorem d253_406 : decode (eb_b 253) 406 = .ok (.iadd, 1) := by decide +kernel
theorem d253_407 : decode (eb_b 253) 407 = .ok (.iaload, 1) := by decide +kernel
theorem d253_408 : decode (eb_b 253) 408 = .ok (.aload_n 0, 1) := by decide +kernel
theorem d253_409 : decode (eb_b 253) 409 = .ok (.iload_n 3, 1) := by decide +kernel
theorem d253_410 : decode (eb_b 253) 410 = .ok (.iconst 4, 1) := by decide +kernel
theorem d253_411 : decode (eb_b 253) 411 = .ok (.iadd, 1) := by decide +kernel
theorem d253_412 : decode (eb_b 253) 412 = .ok (.iaload, 1) := by decide +kernel
theorem d253_413 : decode (eb_b 253) 413 = .ok (.aload_n 0, 1) := by decide +kernel
theorem d253_414 : decode (eb_b 253) 414 = .ok (.iload_n 3, 1) := by decide +kernel
theorem d253_415 : decode (eb_b 253) 415 = .ok (.iconst 5, 1) := by decide +kernel
theorem d253_416 : decode (eb_b 253) 416 = .ok (.iadd, 1) := by decide +kernel
theorem d253_417 : decode (eb_b 253) 417 = .ok (.iaload, 1) := by decide +kernel
theorem d253_418 : decode (eb_b 253) 418 = .ok (.invokevirtual 25, 3) := by decide +kernel
theorem wc_70 : Cond.code (eb_y 70) (eb_b 70) (eb_ml 70) (eb_rt 70) ∈ eb_LT := eb_lt 348 (by decide +kernel)
theorem cy_70 : (eb_y 70).cls = eb_cN (eb_rc 70) ∧ (eb_y 70).cls ≠ "java/lang/invoke/MethodHandle" ∧ (eb_y 70).cls ≠ "java/lang/invoke/VarHandle" ∧ (parseMethodDescriptor (eb_y 70).desc).map (fun d => d.parameters.length) = some 5 := by decide +kernel
theorem wi_70 : Cond.instanceMethod (eb_y 70) ∈ eb_LT := eb_lt 346 (by decide +kernel)
theorem wse_70 : Cond.selects (eb_cN (eb_rc 70)) (eb_y 70) (eb_y 70) ∈ eb_LT := eb_lt 347 (by decide +kernel)
theorem kV_70 {L q0 m pc : Nat} {lg : Nat → Bool} {ix : Nat} (hw : Cond.methodLink (eb_own m) ix (eb_y 70) ∈ eb_LT) (hd : decode (eb_b m) pc = .ok (.invokevirtual ix, 3)) : eb_Snd L q0 m pc lg (op_call 70 6 (pc + 3)) := sn_callV false rfl (Or.inr ⟨rfl, _, rfl⟩) (by decide) rfl (by decide) ⟨⟨hw, wi_70, wse_70⟩, wc_70⟩ cy_70 hd
theorem wm_8_25 : Cond.methodLink (eb_cN 8) 25 (eb_y 70) ∈ eb_LT := eb_lt 345 (by decide +kernel)
theorem d253_421 : decode (eb_b 253) 421 = .ok (.aload_n 2, 1) := by decide +kernel
theorem d253_422 : decode (eb_b 253) 422 = .ok (.aload_n 0, 1) := by decide +kernel
theorem d253_423 : decode (eb_b 253) 423 = .ok (.iload_n 3, 1) := by decide +kernel
theorem d253_424 : decode (eb_b 253) 424 = .ok (.iconst 1, 1) := by decide +kernel
theorem d253_425 : decode (eb_b 253) 425 = .ok (.iadd, 1) := by decide +kernel
theorem d253_426 : decode (eb_b 253) 426 = .ok (.iaload, 1) := by decide +kernel
theorem d253_427 : decode (eb_b 253) 427 = .ok (.aload_n 0, 1) := by decide +kernel
theorem d253_428 : decode (eb_b 253) 428 = .ok (.iload_n 3, 1) := by decide +kernel
theorem d253_429 : decode (eb_b 253) 429 = .ok (.iconst 2, 1) := by decide +kernel
theorem d253_430 : decode (eb_b 253) 430 = .ok (.iadd, 1) := by decide +kernel
theorem d253_431 : decode (eb_b 253) 431 = .ok (.iaload, 1) := by decide +kernel
theorem d253_432 : decode (eb_b 253) 432 = .ok (.aload_n 0, 1) := by decide +kernel
theorem d253_433 : decode (eb_b 253) 433 = .ok (.iload_n 3, 1) := by decide +kernel
theorem d253_434 : decode (eb_b 253) 434 = .ok (.iconst 3, 1) := by decide +kernel
theorem d253_435 : decode (eb_b 253) 435 = .ok (.iadd, 1) := by decide +kernel
theorem d253_436 : decode (eb_b 253) 436 = .ok (.iaload, 1) := by decide +kernel
theorem d253_437 : decode (eb_b 253) 437 = .ok (.aload_n 0, 1) := by decide +kernel
theorem d253_438 : decode (eb_b 253) 438 = .ok (.iload_n 3, 1) := by decide +kernel
theorem d253_439 : decode (eb_b 253) 439 = .ok (.iconst 4, 1) := by decide +kernel
theorem d253_440 : decode (eb_b 253) 440 = .ok (.iadd, 1) := by decide +kernel
theorem d253_441 : decode (eb_b 253) 441 = .ok (.iaload, 1) := by decide +kernel
theorem d253_442 : decode (eb_b 253) 442 = .ok (.aload_n 0, 1) := by decide +kernel
theorem d253_443 : decode (eb_b 253) 443 = .ok (.iload_n 3, 1) := by decide +kernel
theorem d253_444 : decode (eb_b 253) 444 = .ok (.iconst 5, 1) := by decide +kernel
theorem d253_445 : decode (eb_b 253) 445 = .ok (.iadd, 1) := by decide +kernel
theorem d253_446 : decode (eb_b 253) 446 = .ok (.iaload, 1) := by decide +kernel
theorem d253_447 : decode (eb_b 253) 447 = .ok (.invokevirtual 29, 3) := by decide +kernel
theorem wc_155 : Cond.code (eb_y 155) (eb_b 155) (eb_ml 155) (eb_rt 155) ∈ eb_LT := eb_lt 1087 (by decide +kernel)
theorem cy_155 : (eb_y 155).cls = eb_cN (eb_rc 155) ∧ (eb_y 155).cls ≠ "java/lang/invoke/MethodHandle" ∧ (eb_y 155).cls ≠ "java/lang/invoke/VarHandle" ∧ (parseMethodDescriptor (eb_y 155).desc).map (fun d => d.parameters.length) = some 5 := by decide +kernel
theorem wi_155 : Cond.instanceMethod (eb_y 155) ∈ eb_LT := eb_lt 1085 (by decide +kernel)
theorem wse_155 : Cond.selects (eb_cN (eb_rc 155)) (eb_y 155) (eb_y 155) ∈ eb_LT := eb_lt 1086 (by decide +kernel)
theorem kV_155 {L q0 m pc : Nat} {lg : Nat → Bool} {ix : Nat} (hw : Cond.methodLink (eb_own m) ix (eb_y 155) ∈ eb_LT) (hd : decode (eb_b m) pc = .ok (.invokevirtual ix, 3)) : eb_Snd L q0 m pc lg (op_call 155 6 (pc + 3)) := sn_callV false rfl (Or.inr ⟨rfl, _, rfl⟩) (by decide) rfl (by decide) ⟨⟨hw, wi_155, wse_155⟩, wc_155⟩ cy_155 hd
theorem wm_8_29 : Cond.methodLink (eb_cN 8) 29 (eb_y 155) ∈ eb_LT := eb_lt 1084 (by decide +kernel)
theorem d253_450 : decode (eb_b 253) 450 = .ok (.if_icmp .eq 1498, 3) := by decide +kernel
theorem d253_453 : decode (eb_b 253) 453 = .ok (.iconst 0, 1) := by decide +kernel
theorem d253_454 : decode (eb_b 253) 454 = .ok (.ireturn, 1) := by decide +kernel
theorem d253_455 : decode (eb_b 253) 455 = .ok (.aload_n 1, 1) := by decide +kernel
theorem d253_456 : decode (eb_b 253) 456 = .ok (.aload_n 0, 1) := by decide +kernel
theorem d253_457 : decode (eb_b 253) 457 = .ok (.iload_n 3, 1) := by decide +kernel
theorem d253_458 : decode (eb_b 253) 458 = .ok (.iconst 1, 1) := by decide +kernel
theorem d253_459 : decode (eb_b 253) 459 = .ok (.iadd, 1) := by decide +kernel
theorem d253_460 : decode (eb_b 253) 460 = .ok (.iaload, 1) := by decide +kernel
theorem d253_461 : decode (eb_b 253) 461 = .ok (.aload_n 0, 1) := by decide +kernel
theorem d253_462 : decode (eb_b 253) 462 = .ok (.iload_n 3, 1) := by decide +kernel
theorem d253_463 : decode (eb_b 253) 463 = .ok (.iconst 2, 1) := by decide +kernel
theorem d253_464 : decode (eb_b 253) 464 = .ok (.iadd, 1) := by decide +kernel
theorem d253_465 : decode (eb_b 253) 465 = .ok (.iaload, 1) := by decide +kernel
theorem d253_466 : decode (eb_b 253) 466 = .ok (.invokevirtual 30, 3) := by decide +kernel
theorem wc_71 : Cond.code (eb_y 71) (eb_b 71) (eb_ml 71) (eb_rt 71) ∈ eb_LT := eb_lt 359 (by decide +kernel)
theorem cy_71 : (eb_y 71).cls = eb_cN (eb_rc 71) ∧ (eb_y 71).cls ≠ "java/lang/invoke/MethodHandle" ∧ (eb_y 71).cls ≠ "java/lang/invoke/VarHandle" ∧ (parseMethodDescriptor (eb_y 71).desc).map (fun d => d.parameters.length) = some 2 := by decide +kernel
theorem wi_71 : Cond.instanceMethod (eb_y 71) ∈ eb_LT := eb_lt 357 (by decide +kernel)
theorem wse_71 : Cond.selects (eb_cN (eb_rc 71)) (eb_y 71) (eb_y 71) ∈ eb_LT := eb_lt 358 (by decide +kernel)
theorem kV_71 {L q0 m pc : Nat} {lg : Nat → Bool} {ix : Nat} (hw : Cond.methodLink (eb_own m) ix (eb_y 71) ∈ eb_LT) (hd : decode (eb_b m) pc = .ok (.invokevirtual ix, 3)) : eb_Snd L q0 m pc lg (op_call 71 3 (pc + 3)) := sn_callV false rfl (Or.inr ⟨rfl, _, rfl⟩) (by decide) rfl (by decide) ⟨⟨hw, wi_71, wse_71⟩, wc_71⟩ cy_71 hd
theorem wm_8_30 : Cond.methodLink (eb_cN 8) 30 (eb_y 71) ∈ eb_LT := eb_lt 356 (by decide +kernel)
theorem d253_469 : decode (eb_b 253) 469 = .ok (.aload_n 2, 1) := by decide +kernel
theorem d253_470 : decode (eb_b 253) 470 = .ok (.aload_n 0, 1) := by decide +kernel
theorem d253_471 : decode (eb_b 253) 471 = .ok (.iload_n 3, 1) := by decide +kernel
theorem d253_472 : decode (eb_b 253) 472 = .ok (.iconst 1, 1) := by decide +kernel
theorem d253_473 : decode (eb_b 253) 473 = .ok (.iadd, 1) := by decide +kernel
theorem d253_474 : decode (eb_b 253) 474 = .ok (.iaload, 1) := by decide +kernel
theorem d253_475 : decode (eb_b 253) 475 = .ok (.aload_n 0, 1) := by decide +kernel
theorem d253_476 : decode (eb_b 253) 476 = .ok (.iload_n 3, 1) := by decide +kernel
theorem d253_477 : decode (eb_b 253) 477 = .ok (.iconst 2, 1) := by decide +kernel
theorem d253_478 : decode (eb_b 253) 478 = .ok (.iadd, 1) := by decide +kernel
theorem d253_479 : decode (eb_b 253) 479 = .ok (.iaload, 1) := by decide +kernel
theorem d253_480 : decode (eb_b 253) 480 = .ok (.invokevirtual 34, 3) := by decide +kernel
theorem wc_156 : Cond.code (eb_y 156) (eb_b 156) (eb_ml 156) (eb_rt 156) ∈ eb_LT := eb_lt 1091 (by decide +kernel)
theorem cy_156 : (eb_y 156).cls = eb_cN (eb_rc 156) ∧ (eb_y 156).cls ≠ "java/lang/invoke/MethodHandle" ∧ (eb_y 156).cls ≠ "java/lang/invoke/VarHandle" ∧ (parseMethodDescriptor (eb_y 156).desc).map (fun d => d.parameters.length) = some 2 := by decide +kernel
theorem wi_156 : Cond.instanceMethod (eb_y 156) ∈ eb_LT := eb_lt 1089 (by decide +kernel)
theorem wse_156 : Cond.selects (eb_cN (eb_rc 156)) (eb_y 156) (eb_y 156) ∈ eb_LT := eb_lt 1090 (by decide +kernel)
theorem kV_156 {L q0 m pc : Nat} {lg : Nat → Bool} {ix : Nat} (hw : Cond.methodLink (eb_own m) ix (eb_y 156) ∈ eb_LT) (hd : decode (eb_b m) pc = .ok (.invokevirtual ix, 3)) : eb_Snd L q0 m pc lg (op_call 156 3 (pc + 3)) := sn_callV false rfl (Or.inr ⟨rfl, _, rfl⟩) (by decide) rfl (by decide) ⟨⟨hw, wi_156, wse_156⟩, wc_156⟩ cy_156 hd
theorem wm_8_34 : Cond.methodLink (eb_cN 8) 34 (eb_y 156) ∈ eb_LT := eb_lt 1088 (by decide +kernel)
theorem d253_483 : decode (eb_b 253) 483 = .ok (.lcmp, 1) := by decide +kernel
theorem d253_484 : decode (eb_b 253) 484 = .ok (.ifCond .eq 1464, 3) := by decide +kernel
theorem d253_487 : decode (eb_b 253) 487 = .ok (.iconst 0, 1) := by decide +kernel
theorem d253_488 : decode (eb_b 253) 488 = .ok (.ireturn, 1) := by decide +kernel
theorem d253_489 : decode (eb_b 253) 489 = .ok (.aload_n 1, 1) := by decide +kernel
theorem d253_490 : decode (eb_b 253) 490 = .ok (.aload_n 0, 1) := by decide +kernel
theorem d253_491 : decode (eb_b 253) 491 = .ok (.iload_n 3, 1) := by decide +kernel
theorem d253_492 : decode (eb_b 253) 492 = .ok (.iconst 1, 1) := by decide +kernel
theorem d253_493 : decode (eb_b 253) 493 = .ok (.iadd, 1) := by decide +kernel
theorem d253_494 : decode (eb_b 253) 494 = .ok (.iaload, 1) := by decide +kernel
theorem d253_495 : decode (eb_b 253) 495 = .ok (.invokevirtual 35, 3) := by decide +kernel
theorem wc_72 : Cond.code (eb_y 72) (eb_b 72) (eb_ml 72) (eb_rt 72) ∈ eb_LT := eb_lt 363 (by decide +kernel)
theorem cy_72 : (eb_y 72).cls = eb_cN (eb_rc 72) ∧ (eb_y 72).cls ≠ "java/lang/invoke/MethodHandle" ∧ (eb_y 72).cls ≠ "java/lang/invoke/VarHandle" ∧ (parseMethodDescriptor (eb_y 72).desc).map (fun d => d.parameters.length) = some 1 := by decide +kernel
theorem wi_72 : Cond.instanceMethod (eb_y 72) ∈ eb_LT := eb_lt 361 (by decide +kernel)
theorem wse_72 : Cond.selects (eb_cN (eb_rc 72)) (eb_y 72) (eb_y 72) ∈ eb_LT := eb_lt 362 (by decide +kernel)
theorem kV_72 {L q0 m pc : Nat} {lg : Nat → Bool} {ix : Nat} (hw : Cond.methodLink (eb_own m) ix (eb_y 72) ∈ eb_LT) (hd : decode (eb_b m) pc = .ok (.invokevirtual ix, 3)) : eb_Snd L q0 m pc lg (op_call 72 2 (pc + 3)) := sn_callV false rfl (Or.inr ⟨rfl, _, rfl⟩) (by decide) rfl (by decide) ⟨⟨hw, wi_72, wse_72⟩, wc_72⟩ cy_72 hd
theorem wm_8_35 : Cond.methodLink (eb_cN 8) 35 (eb_y 72) ∈ eb_LT := eb_lt 360 (by decide +kernel)
theorem d253_498 : decode (eb_b 253) 498 = .ok (.aload_n 2, 1) := by decide +kernel
theorem d253_499 : decode (eb_b 253) 499 = .ok (.aload_n 0, 1) := by decide +kernel
theorem d253_500 : decode (eb_b 253) 500 = .ok (.iload_n 3, 1) := by decide +kernel
theorem d253_501 : decode (eb_b 253) 501 = .ok (.iconst 1, 1) := by decide +kernel
theorem d253_502 : decode (eb_b 253) 502 = .ok (.iadd, 1) := by decide +kernel
theorem d253_503 : decode (eb_b 253) 503 = .ok (.iaload, 1) := by decide +kernel
theorem d253_504 : decode (eb_b 253) 504 = .ok (.invokevirtual 39, 3) := by decide +kernel
theorem wc_157 : Cond.code (eb_y 157) (eb_b 157) (eb_ml 157) (eb_rt 157) ∈ eb_LT := eb_lt 1095 (by decide +kernel)
theorem cy_157 : (eb_y 157).cls = eb_cN (eb_rc 157) ∧ (eb_y 157).cls ≠ "java/lang/invoke/MethodHandle" ∧ (eb_y 157).cls ≠ "java/lang/invoke/VarHandle" ∧ (parseMethodDescriptor (eb_y 157).desc).map (fun d => d.parameters.length) = some 1 := by decide +kernel
theorem wi_157 : Cond.instanceMethod (eb_y 157) ∈ eb_LT := eb_lt 1093 (by decide +kernel)
theorem wse_157 : Cond.selects (eb_cN (eb_rc 157)) (eb_y 157) (eb_y 157) ∈ eb_LT := eb_lt 1094 (by decide +kernel)
theorem kV_157 {L q0 m pc : Nat} {lg : Nat → Bool} {ix : Nat} (hw : Cond.methodLink (eb_own m) ix (eb_y 157) ∈ eb_LT) (hd : decode (eb_b m) pc = .ok (.invokevirtual ix, 3)) : eb_Snd L q0 m pc lg (op_call 157 2 (pc + 3)) := sn_callV false rfl (Or.inr ⟨rfl, _, rfl⟩) (by decide) rfl (by decide) ⟨⟨hw, wi_157, wse_157⟩, wc_157⟩ cy_157 hd
theorem wm_8_39 : Cond.methodLink (eb_cN 8) 39 (eb_y 157) ∈ eb_LT := eb_lt 1092 (by decide +kernel)
theorem d253_507 : decode (eb_b 253) 507 = .ok (.if_icmp .eq 1441, 3) := by decide +kernel
theorem d253_510 : decode (eb_b 253) 510 = .ok (.iconst 0, 1) := by decide +kernel
theorem d253_511 : decode (eb_b 253) 511 = .ok (.ireturn, 1) := by decide +kernel
theorem d253_512 : decode (eb_b 253) 512 = .ok (.aload_n 1, 1) := by decide +kernel
theorem d253_513 : decode (eb_b 253) 513 = .ok (.aload_n 0, 1) := by decide +kernel
theorem d253_514 : decode (eb_b 253) 514 = .ok (.iload_n 3, 1) := by decide +kernel
theorem d253_515 : decode (eb_b 253) 515 = .ok (.iconst 1, 1) := by decide +kernel
theorem d253_516 : decode (eb_b 253) 516 = .ok (.iadd, 1) := by decide +kernel
theorem d253_517 : decode (eb_b 253) 517 = .ok (.iaload, 1) := by decide +kernel
theorem d253_518 : decode (eb_b 253) 518 = .ok (.aload_n 0, 1) := by decide +kernel
theorem d253_519 : decode (eb_b 253) 519 = .ok (.iload_n 3, 1) := by decide +kernel
theorem d253_520 : decode (eb_b 253) 520 = .ok (.iconst 2, 1) := by decide +kernel
theorem d253_521 : decode (eb_b 253) 521 = .ok (.iadd, 1) := by decide +kernel
theorem d253_522 : decode (eb_b 253) 522 = .ok (.iaload, 1) := by decide +kernel
theorem d253_523 : decode (eb_b 253) 523 = .ok (.invokevirtual 40, 3) := by decide +kernel
theorem wc_73 : Cond.code (eb_y 73) (eb_b 73) (eb_ml 73) (eb_rt 73) ∈ eb_LT := eb_lt 367 (by decide +kernel)
theorem cy_73 : (eb_y 73).cls = eb_cN (eb_rc 73) ∧ (eb_y 73).cls ≠ "java/lang/invoke/MethodHandle" ∧ (eb_y 73).cls ≠ "java/lang/invoke/VarHandle" ∧ (parseMethodDescriptor (eb_y 73).desc).map (fun d => d.parameters.length) = some 2 := by decide +kernel
theorem wi_73 : Cond.instanceMethod (eb_y 73) ∈ eb_LT := eb_lt 365 (by decide +kernel)
theorem wse_73 : Cond.selects (eb_cN (eb_rc 73)) (eb_y 73) (eb_y 73) ∈ eb_LT := eb_lt 366 (by decide +kernel)
theorem kV_73 {L q0 m pc : Nat} {lg : Nat → Bool} {ix : Nat} (hw : Cond.methodLink (eb_own m) ix (eb_y 73) ∈ eb_LT) (hd : decode (eb_b m) pc = .ok (.invokevirtual ix, 3)) : eb_Snd L q0 m pc lg (op_call 73 3 (pc + 3)) := sn_callV false rfl (Or.inr ⟨rfl, _, rfl⟩) (by decide) rfl (by decide) ⟨⟨hw, wi_73, wse_73⟩, wc_73⟩ cy_73 hd
theorem wm_8_40 : Cond.methodLink (eb_cN 8) 40 (eb_y 73) ∈ eb_LT := eb_lt 364 (by decide +kernel)
theorem d253_526 : decode (eb_b 253) 526 = .ok (.aload_n 2, 1) := by decide +kernel
theorem d253_527 : decode (eb_b 253) 527 = .ok (.aload_n 0, 1) := by decide +kernel
theorem d253_528 : decode (eb_b 253) 528 = .ok (.iload_n 3, 1) := by decide +kernel
theorem d253_529 : decode (eb_b 253) 529 = .ok (.iconst 1, 1) := by decide +kernel
theorem d253_530 : decode (eb_b 253) 530 = .ok (.iadd, 1) := by decide +kernel
theorem d253_531 : decode (eb_b 253) 531 = .ok (.iaload, 1) := by decide +kernel
theorem d253_532 : decode (eb_b 253) 532 = .ok (.aload_n 0, 1) := by decide +kernel
theorem d253_533 : decode (eb_b 253) 533 = .ok (.iload_n 3, 1) := by decide +kernel
theorem d253_534 : decode (eb_b 253) 534 = .ok (.iconst 2, 1) := by decide +kernel
theorem d253_535 : decode (eb_b 253) 535 = .ok (.iadd, 1) := by decide +kernel
theorem d253_536 : decode (eb_b 253) 536 = .ok (.iaload, 1) := by decide +kernel
theorem d253_537 : decode (eb_b 253) 537 = .ok (.invokevirtual 44, 3) := by decide +kernel
theorem wc_158 : Cond.code (eb_y 158) (eb_b 158) (eb_ml 158) (eb_rt 158) ∈ eb_LT := eb_lt 1099 (by decide +kernel)
theorem cy_158 : (eb_y 158).cls = eb_cN (eb_rc 158) ∧ (eb_y 158).cls ≠ "java/lang/invoke/MethodHandle" ∧ (eb_y 158).cls ≠ "java/lang/invoke/VarHandle" ∧ (parseMethodDescriptor (eb_y 158).desc).map (fun d => d.parameters.length) = some 2 := by decide +kernel
theorem wi_158 : Cond.instanceMethod (eb_y 158) ∈ eb_LT := eb_lt 1097 (by decide +kernel)
theorem wse_158 : Cond.selects (eb_cN (eb_rc 158)) (eb_y 158) (eb_y 158) ∈ eb_LT := eb_lt 1098 (by decide +kernel)
theorem kV_158 {L q0 m pc : Nat} {lg : Nat → Bool} {ix : Nat} (hw : Cond.methodLink (eb_own m) ix (eb_y 158) ∈ eb_LT) (hd : decode (eb_b m) pc = .ok (.invokevirtual ix, 3)) : eb_Snd L q0 m pc lg (op_call 158 3 (pc + 3)) := sn_callV false rfl (Or.inr ⟨rfl, _, rfl⟩) (by decide) rfl (by decide) ⟨⟨hw, wi_158, wse_158⟩, wc_158⟩ cy_158 hd
theorem wm_8_44 : Cond.methodLink (eb_cN 8) 44 (eb_y 158) ∈ eb_LT := eb_lt 1096 (by decide +kernel)
theorem d253_540 : decode (eb_b 253) 540 = .ok (.if_icmp .eq 1408, 3) := by decide +kernel
theorem d253_543 : decode (eb_b 253) 543 = .ok (.iconst 0, 1) := by decide +kernel
theorem d253_544 : decode (eb_b 253) 544 = .ok (.ireturn, 1) := by decide +kernel
theorem d253_545 : decode (eb_b 253) 545 = .ok (.aload_n 1, 1) := by decide +kernel
theorem d253_546 : decode (eb_b 253) 546 = .ok (.aload_n 0, 1) := by decide +kernel
theorem d253_547 : decode (eb_b 253) 547 = .ok (.iload_n 3, 1) := by decide +kernel
theorem d253_548 : decode (eb_b 253) 548 = .ok (.iconst 1, 1) := by decide +kernel
theorem d253_549 : decode (eb_b 253) 549 = .ok (.iadd, 1) := by decide +kernel
theorem d253_550 : decode (eb_b 253) 550 = .ok (.iaload, 1) := by decide +kernel
theorem d253_551 : decode (eb_b 253) 551 = .ok (.aload_n 0, 1) := by decide +kernel
theorem d253_552 : decode (eb_b 253) 552 = .ok (.iload_n 3, 1) := by decide +kernel
theorem d253_553 : decode (eb_b 253) 553 = .ok (.iconst 2, 1) := by decide +kernel
theorem d253_554 : decode (eb_b 253) 554 = .ok (.iadd, 1) := by decide +kernel
theorem d253_555 : decode (eb_b 253) 555 = .ok (.iaload, 1) := by decide +kernel
theorem d253_556 : decode (eb_b 253) 556 = .ok (.invokevirtual 45, 3) := by decide +kernel
theorem wc_74 : Cond.code (eb_y 74) (eb_b 74) (eb_ml 74) (eb_rt 74) ∈ eb_LT := eb_lt 379 (by decide +kernel)
theorem cy_74 : (eb_y 74).cls = eb_cN (eb_rc 74) ∧ (eb_y 74).cls ≠ "java/lang/invoke/MethodHandle" ∧ (eb_y 74).cls ≠ "java/lang/invoke/VarHandle" ∧ (parseMethodDescriptor (eb_y 74).desc).map (fun d => d.parameters.length) = some 2 := by decide +kernel
theorem wi_74 : Cond.instanceMethod (eb_y 74) ∈ eb_LT := eb_lt 377 (by decide +kernel)
theorem wse_74 : Cond.selects (eb_cN (eb_rc 74)) (eb_y 74) (eb_y 74) ∈ eb_LT := eb_lt 378 (by decide +kernel)
theorem kV_74 {L q0 m pc : Nat} {lg : Nat → Bool} {ix : Nat} (hw : Cond.methodLink (eb_own m) ix (eb_y 74) ∈ eb_LT) (hd : decode (eb_b m) pc = .ok (.invokevirtual ix, 3)) : eb_Snd L q0 m pc lg (op_call 74 3 (pc + 3)) := sn_callV false rfl (Or.inr ⟨rfl, _, rfl⟩) (by decide) rfl (by decide) ⟨⟨hw, wi_74, wse_74⟩, wc_74⟩ cy_74 hd
theorem wm_8_45 : Cond.methodLink (eb_cN 8) 45 (eb_y 74) ∈ eb_LT := eb_lt 376 (by decide +kernel)
theorem d253_559 : decode (eb_b 253) 559 = .ok (.aload_n 2, 1) := by decide +kernel
theorem d253_560 : decode (eb_b 253) 560 = .ok (.aload_n 0, 1) := by decide +kernel
theorem d253_561 : decode (eb_b 253) 561 = .ok (.iload_n 3, 1) := by decide +kernel
theorem d253_562 : decode (eb_b 253) 562 = .ok (.iconst 1, 1) := by decide +kernel
theorem d253_563 : decode (eb_b 253) 563 = .ok (.iadd, 1) := by decide +kernel
theorem d253_564 : decode (eb_b 253) 564 = .ok (.iaload, 1) := by decide +kernel
theorem d253_565 : decode (eb_b 253) 565 = .ok (.aload_n 0, 1) := by decide +kernel
theorem d253_566 : decode (eb_b 253) 566 = .ok (.iload_n 3, 1) := by decide +kernel
theorem d253_567 : decode (eb_b 253) 567 = .ok (.iconst 2, 1) := by decide +kernel
theorem d253_568 : decode (eb_b 253) 568 = .ok (.iadd, 1) := by decide +kernel
theorem d253_569 : decode (eb_b 253) 569 = .ok (.iaload, 1) := by decide +kernel
theorem d253_570 : decode (eb_b 253) 570 = .ok (.invokevirtual 48, 3) := by decide +kernel
theorem wc_160 : Cond.code (eb_y 160) (eb_b 160) (eb_ml 160) (eb_rt 160) ∈ eb_LT := eb_lt 1107 (by decide +kernel)
theorem cy_160 : (eb_y 160).cls = eb_cN (eb_rc 160) ∧ (eb_y 160).cls ≠ "java/lang/invoke/MethodHandle" ∧ (eb_y 160).cls ≠ "java/lang/invoke/VarHandle" ∧ (parseMethodDescriptor (eb_y 160).desc).map (fun d => d.parameters.length) = some 2 := by decide +kernel
theorem wi_160 : Cond.instanceMethod (eb_y 160) ∈ eb_LT := eb_lt 1105 (by decide +kernel)
theorem wse_160 : Cond.selects (eb_cN (eb_rc 160)) (eb_y 160) (eb_y 160) ∈ eb_LT := eb_lt 1106 (by decide +kernel)
theorem kV_160 {L q0 m pc : Nat} {lg : Nat → Bool} {ix : Nat} (hw : Cond.methodLink (eb_own m) ix (eb_y 160) ∈ eb_LT) (hd : decode (eb_b m) pc = .ok (.invokevirtual ix, 3)) : eb_Snd L q0 m pc lg (op_call 160 3 (pc + 3)) := sn_callV false rfl (Or.inr ⟨rfl, _, rfl⟩) (by decide) rfl (by decide) ⟨⟨hw, wi_160, wse_160⟩, wc_160⟩ cy_160 hd
theorem wm_8_48 : Cond.methodLink (eb_cN 8) 48 (eb_y 160) ∈ eb_LT := eb_lt 1104 (by decide +kernel)
theorem d253_573 : decode (eb_b 253) 573 = .ok (.if_icmp .eq 1375, 3) := by decide +kernel
theorem d253_576 : decode (eb_b 253) 576 = .ok (.iconst 0, 1) := by decide +kernel
theorem d253_577 : decode (eb_b 253) 577 = .ok (.ireturn, 1) := by decide +kernel
theorem d253_578 : decode (eb_b 253) 578 = .ok (.aload_n 1, 1) := by decide +kernel
theorem d253_579 : decode (eb_b 253) 579 = .ok (.aload_n 0, 1) := by decide +kernel
theorem d253_580 : decode (eb_b 253) 580 = .ok (.iload_n 3, 1) := by decide +kernel
theorem d253_581 : decode (eb_b 253) 581 = .ok (.iconst 1, 1) := by decide +kernel
theorem d253_582 : decode (eb_b 253) 582 = .ok (.iadd, 1) := by decide +kernel
theorem d253_583 : decode (eb_b 253) 583 = .ok (.iaload, 1) := by decide +kernel
theorem d253_584 : decode (eb_b 253) 584 = .ok (.aload_n 0, 1) := by decide +kernel
theorem d253_585 : decode (eb_b 253) 585 = .ok (.iload_n 3, 1) := by decide +kernel
theorem d253_586 : decode (eb_b 253) 586 = .ok (.iconst 2, 1) := by decide +kernel
theorem d253_587 : decode (eb_b 253) 587 = .ok (.iadd, 1) := by decide +kernel
theorem d253_588 : decode (eb_b 253) 588 = .ok (.iaload, 1) := by decide +kernel
theorem d253_589 : decode (eb_b 253) 589 = .ok (.aload_n 0, 1) := by decide +kernel
theorem d253_590 : decode (eb_b 253) 590 = .ok (.iload_n 3, 1) := by decide +kernel
theorem d253_591 : decode (eb_b 253) 591 = .ok (.iconst 3, 1) := by decide +kernel
theorem d253_592 : decode (eb_b 253) 592 = .ok (.iadd, 1) := by decide +kernel
theorem d253_593 : decode (eb_b 253) 593 = .ok (.iaload, 1) := by decide +kernel
theorem d253_594 : decode (eb_b 253) 594 = .ok (.invokevirtual 49, 3) := by decide +kernel
theorem wc_75 : Cond.code (eb_y 75) (eb_b 75) (eb_ml 75) (eb_rt 75) ∈ eb_LT := eb_lt 402 (by decide +kernel)
theorem cy_75 : (eb_y 75).cls = eb_cN (eb_rc 75) ∧ (eb_y 75).cls ≠ "java/lang/invoke/MethodHandle" ∧ (eb_y 75).cls ≠ "java/lang/invoke/VarHandle" ∧ (parseMethodDescriptor (eb_y 75).desc).map (fun d => d.parameters.length) = some 3 := by decide +kernel
theorem wi_75 : Cond.instanceMethod (eb_y 75) ∈ eb_LT := eb_lt 400 (by decide +kernel)
theorem wse_75 : Cond.selects (eb_cN (eb_rc 75)) (eb_y 75) (eb_y 75) ∈ eb_LT := eb_lt 401 (by decide +kernel)
theorem kV_75 {L q0 m pc : Nat} {lg : Nat → Bool} {ix : Nat} (hw : Cond.methodLink (eb_own m) ix (eb_y 75) ∈ eb_LT) (hd : decode (eb_b m) pc = .ok (.invokevirtual ix, 3)) : eb_Snd L q0 m pc lg (op_call 75 4 (pc + 3)) := sn_callV false rfl (Or.inr ⟨rfl, _, rfl⟩) (by decide) rfl (by decide) ⟨⟨hw, wi_75, wse_75⟩, wc_75⟩ cy_75 hd
theorem wm_8_49 : Cond.methodLink (eb_cN 8) 49 (eb_y 75) ∈ eb_LT := eb_lt 399 (by decide +kernel)
theorem d253_597 : decode (eb_b 253) 597 = .ok (.aload_n 2, 1) := by decide +kernel
theorem d253_598 : decode (eb_b 253) 598 = .ok (.aload_n 0, 1) := by decide +kernel
theorem d253_599 : decode (eb_b 253) 599 = .ok (.iload_n 3, 1) := by decide +kernel
theorem d253_600 : decode (eb_b 253) 600 = .ok (.iconst 1, 1) := by decide +kernel
theorem d253_601 : decode (eb_b 253) 601 = .ok (.iadd, 1) := by decide +kernel
theorem d253_602 : decode (eb_b 253) 602 = .ok (.iaload, 1) := by decide +kernel
theorem d253_603 : decode (eb_b 253) 603 = .ok (.aload_n 0, 1) := by decide +kernel
theorem d253_604 : decode (eb_b 253) 604 = .ok (.iload_n 3, 1) := by decide +kernel
theorem d253_605 : decode (eb_b 253) 605 = .ok (.iconst 2, 1) := by decide +kernel
theorem d253_606 : decode (eb_b 253) 606 = .ok (.iadd, 1) := by decide +kernel
theorem d253_607 : decode (eb_b 253) 607 = .ok (.iaload, 1) := by decide +kernel
theorem d253_608 : decode (eb_b 253) 608 = .ok (.aload_n 0, 1) := by decide +kernel
theorem d253_609 : decode (eb_b 253) 609 = .ok (.iload_n 3, 1) := by decide +kernel
theorem d253_610 : decode (eb_b 253) 610 = .ok (.iconst 3, 1) := by decide +kernel
theorem d253_611 : decode (eb_b 253) 611 = .ok (.iadd, 1) := by decide +kernel
theorem d253_612 : decode (eb_b 253) 612 = .ok (.iaload, 1) := by decide +kernel
theorem d253_613 : decode (eb_b 253) 613 = .ok (.invokevirtual 52, 3) := by decide +kernel
theorem wc_162 : Cond.code (eb_y 162) (eb_b 162) (eb_ml 162) (eb_rt 162) ∈ eb_LT := eb_lt 1131 (by decide +kernel)
theorem cy_162 : (eb_y 162).cls = eb_cN (eb_rc 162) ∧ (eb_y 162).cls ≠ "java/lang/invoke/MethodHandle" ∧ (eb_y 162).cls ≠ "java/lang/invoke/VarHandle" ∧ (parseMethodDescriptor (eb_y 162).desc).map (fun d => d.parameters.length) = some 3 := by decide +kernel
theorem wi_162 : Cond.instanceMethod (eb_y 162) ∈ eb_LT := eb_lt 1129 (by decide +kernel)
theorem wse_162 : Cond.selects (eb_cN (eb_rc 162)) (eb_y 162) (eb_y 162) ∈ eb_LT := eb_lt 1130 (by decide +kernel)
theorem kV_162 {L q0 m pc : Nat} {lg : Nat → Bool} {ix : Nat} (hw : Cond.methodLink (eb_own m) ix (eb_y 162) ∈ eb_LT) (hd : decode (eb_b m) pc = .ok (.invokevirtual ix, 3)) : eb_Snd L q0 m pc lg (op_call 162 4 (pc + 3)) := sn_callV false rfl (Or.inr ⟨rfl, _, rfl⟩) (by decide) rfl (by decide) ⟨⟨hw, wi_162, wse_162⟩, wc_162⟩ cy_162 hd
theorem wm_8_52 : Cond.methodLink (eb_cN 8) 52 (eb_y 162) ∈ eb_LT := eb_lt 1128 (by decide +kernel)
theorem d253_616 : decode (eb_b 253) 616 = .ok (.if_icmp .eq 1332, 3) := by decide +kernel
theorem d253_619 : decode (eb_b 253) 619 = .ok (.iconst 0, 1) := by decide +kernel
theorem d253_620 : decode (eb_b 253) 620 = .ok (.ireturn, 1) := by decide +kernel
theorem d253_621 : decode (eb_b 253) 621 = .ok (.aload_n 1, 1) := by decide +kernel
theorem d253_622 : decode (eb_b 253) 622 = .ok (.aload_n 0, 1) := by decide +kernel
theorem d253_623 : decode (eb_b 253) 623 = .ok (.iload_n 3, 1) := by decide +kernel
theorem d253_624 : decode (eb_b 253) 624 = .ok (.iconst 1, 1) := by decide +kernel
theorem d253_625 : decode (eb_b 253) 625 = .ok (.iadd, 1) := by decide +kernel
theorem d253_626 : decode (eb_b 253) 626 = .ok (.iaload, 1) := by decide +kernel
theorem d253_627 : decode (eb_b 253) 627 = .ok (.aload_n 0, 1) := by decide +kernel
theorem d253_628 : decode (eb_b 253) 628 = .ok (.iload_n 3, 1) := by decide +kernel
theorem d253_629 : decode (eb_b 253) 629 = .ok (.iconst 2, 1) := by decide +kernel
theorem d253_630 : decode (eb_b 253) 630 = .ok (.iadd, 1) := by decide +kernel
theorem d253_631 : decode (eb_b 253) 631 = .ok (.iaload, 1) := by decide +kernel
theorem d253_632 : decode (eb_b 253) 632 = .ok (.aload_n 0, 1) := by decide +kernel
theorem d253_633 : decode (eb_b 253) 633 = .ok (.iload_n 3, 1) := by decide +kernel
theorem d253_634 : decode (eb_b 253) 634 = .ok (.iconst 3, 1) := by decide +kernel
theorem d253_635 : decode (eb_b 253) 635 = .ok (.iadd, 1) := by decide +kernel
theorem d253_636 : decode (eb_b 253) 636 = .ok (.iaload, 1) := by decide +kernel
theorem d253_637 : decode (eb_b 253) 637 = .ok (.invokevirtual 53, 3) := by decide +kernel
theorem wc_76 : Cond.code (eb_y 76) (eb_b 76) (eb_ml 76) (eb_rt 76) ∈ eb_LT := eb_lt 417 (by decide +kernel)
theorem cy_76 : (eb_y 76).cls = eb_cN (eb_rc 76) ∧ (eb_y 76).cls ≠ "java/lang/invoke/MethodHandle" ∧ (eb_y 76).cls ≠ "java/lang/invoke/VarHandle" ∧ (parseMethodDescriptor (eb_y 76).desc).map (fun d => d.parameters.length) = some 3 := by decide +kernel
theorem wi_76 : Cond.instanceMethod (eb_y 76) ∈ eb_LT := eb_lt 415 (by decide +kernel)
theorem wse_76 : Cond.selects (eb_cN (eb_rc 76)) (eb_y 76) (eb_y 76) ∈ eb_LT := eb_lt 416 (by decide +kernel)
theorem kV_76 {L q0 m pc : Nat} {lg : Nat → Bool} {ix : Nat} (hw : Cond.methodLink (eb_own m) ix (eb_y 76) ∈ eb_LT) (hd : decode (eb_b m) pc = .ok (.invokevirtual ix, 3)) : eb_Snd L q0 m pc lg (op_call 76 4 (pc + 3)) := sn_callV false rfl (Or.inr ⟨rfl, _, rfl⟩) (by decide) rfl (by decide) ⟨⟨hw, wi_76, wse_76⟩, wc_76⟩ cy_76 hd
theorem wm_8_53 : Cond.methodLink (eb_cN 8) 53 (eb_y 76) ∈ eb_LT := eb_lt 414 (by decide +kernel)
theorem d253_640 : decode (eb_b 253) 640 = .ok (.aload_n 2, 1) := by decide +kernel
theorem d253_641 : decode (eb_b 253) 641 = .ok (.aload_n 0, 1) := by decide +kernel
theorem d253_642 : decode (eb_b 253) 642 = .ok (.iload_n 3, 1) := by decide +kernel
theorem d253_643 : decode (eb_b 253) 643 = .ok (.iconst 1, 1) := by decide +kernel
theorem d253_644 : decode (eb_b 253) 644 = .ok (.iadd, 1) := by decide +kernel
theorem d253_645 : decode (eb_b 253) 645 = .ok (.iaload, 1) := by decide +kernel
theorem d253_646 : decode (eb_b 253) 646 = .ok (.aload_n 0, 1) := by decide +kernel
theorem d253_647 : decode (eb_b 253) 647 = .ok (.iload_n 3, 1) := by decide +kernel
theorem d253_648 : decode (eb_b 253) 648 = .ok (.iconst 2, 1) := by decide +kernel
theorem d253_649 : decode (eb_b 253) 649 = .ok (.iadd, 1) := by decide +kernel
theorem d253_650 : decode (eb_b 253) 650 = .ok (.iaload, 1) := by decide +kernel
theorem d253_651 : decode (eb_b 253) 651 = .ok (.aload_n 0, 1) := by decide +kernel
theorem d253_652 : decode (eb_b 253) 652 = .ok (.iload_n 3, 1) := by decide +kernel
theorem d253_653 : decode (eb_b 253) 653 = .ok (.iconst 3, 1) := by decide +kernel
theorem d253_654 : decode (eb_b 253) 654 = .ok (.iadd, 1) := by decide +kernel
theorem d253_655 : decode (eb_b 253) 655 = .ok (.iaload, 1) := by decide +kernel
theorem d253_656 : decode (eb_b 253) 656 = .ok (.invokevirtual 56, 3) := by decide +kernel
theorem wm_8_56 : Cond.methodLink (eb_cN 8) 56 (eb_y 163) ∈ eb_LT := eb_lt 1139 (by decide +kernel)
theorem d253_659 : decode (eb_b 253) 659 = .ok (.if_icmp .eq 1289, 3) := by decide +kernel
theorem d253_662 : decode (eb_b 253) 662 = .ok (.iconst 0, 1) := by decide +kernel
theorem d253_663 : decode (eb_b 253) 663 = .ok (.ireturn, 1) := by decide +kernel
theorem d253_664 : decode (eb_b 253) 664 = .ok (.aload_n 1, 1) := by decide +kernel
theorem d253_665 : decode (eb_b 253) 665 = .ok (.aload_n 0, 1) := by decide +kernel
theorem d253_666 : decode (eb_b 253) 666 = .ok (.iload_n 3, 1) := by decide +kernel
theorem d253_667 : decode (eb_b 253) 667 = .ok (.iconst 1, 1) := by decide +kernel
theorem d253_668 : decode (eb_b 253) 668 = .ok (.iadd, 1) := by decide +kernel
theorem d253_669 : decode (eb_b 253) 669 = .ok (.iaload, 1) := by decide +kernel
theorem d253_670 : decode (eb_b 253) 670 = .ok (.aload_n 0, 1) := by decide +kernel
theorem d253_671 : decode (eb_b 253) 671 = .ok (.iload_n 3, 1) := by decide +kernel
theorem d253_672 : decode (eb_b 253) 672 = .ok (.iconst 2, 1) := by decide +kernel
theorem d253_673 : decode (eb_b 253) 673 = .ok (.iadd, 1) := by decide +kernel
theorem d253_674 : decode (eb_b 253) 674 = .ok (.iaload, 1) := by decide +kernel
theorem d253_675 : decode (eb_b 253) 675 = .ok (.aload_n 0, 1) := by decide +kernel
theorem d253_676 : decode (eb_b 253) 676 = .ok (.iload_n 3, 1) := by decide +kernel
theorem d253_677 : decode (eb_b 253) 677 = .ok (.iconst 3, 1) := by decide +kernel
theorem d253_678 : decode (eb_b 253) 678 = .ok (.iadd, 1) := by decide +kernel
theorem d253_679 : decode (eb_b 253) 679 = .ok (.iaload, 1) := by decide +kernel
theorem d253_680 : decode (eb_b 253) 680 = .ok (.invokevirtual 57, 3) := by decide +kernel
theorem wc_77 : Cond.code (eb_y 77) (eb_b 77) (eb_ml 77) (eb_rt 77) ∈ eb_LT := eb_lt 429 (by decide +kernel)
theorem cy_77 : (eb_y 77).cls = eb_cN (eb_rc 77) ∧ (eb_y 77).cls ≠ "java/lang/invoke/MethodHandle" ∧ (eb_y 77).cls ≠ "java/lang/invoke/VarHandle" ∧ (parseMethodDescriptor (eb_y 77).desc).map (fun d => d.parameters.length) = some 3 := by decide +kernel
theorem wi_77 : Cond.instanceMethod (eb_y 77) ∈ eb_LT := eb_lt 427 (by decide +kernel)
theorem wse_77 : Cond.selects (eb_cN (eb_rc 77)) (eb_y 77) (eb_y 77) ∈ eb_LT := eb_lt 428 (by decide +kernel)
theorem kV_77 {L q0 m pc : Nat} {lg : Nat → Bool} {ix : Nat} (hw : Cond.methodLink (eb_own m) ix (eb_y 77) ∈ eb_LT) (hd : decode (eb_b m) pc = .ok (.invokevirtual ix, 3)) : eb_Snd L q0 m pc lg (op_call 77 4 (pc + 3)) := sn_callV false rfl (Or.inr ⟨rfl, _, rfl⟩) (by decide) rfl (by decide) ⟨⟨hw, wi_77, wse_77⟩, wc_77⟩ cy_77 hd
theorem wm_8_57 : Cond.methodLink (eb_cN 8) 57 (eb_y 77) ∈ eb_LT := eb_lt 426 (by decide +kernel)
theorem d253_683 : decode (eb_b 253) 683 = .ok (.aload_n 2, 1) := by decide +kernel
theorem d253_684 : decode (eb_b 253) 684 = .ok (.aload_n 0, 1) := by decide +kernel
theorem d253_685 : decode (eb_b 253) 685 = .ok (.iload_n 3, 1) := by decide +kernel
theorem d253_686 : decode (eb_b 253) 686 = .ok (.iconst 1, 1) := by decide +kernel
theorem d253_687 : decode (eb_b 253) 687 = .ok (.iadd, 1) := by decide +kernel
theorem d253_688 : decode (eb_b 253) 688 = .ok (.iaload, 1) := by decide +kernel
theorem d253_689 : decode (eb_b 253) 689 = .ok (.aload_n 0, 1) := by decide +kernel
theorem d253_690 : decode (eb_b 253) 690 = .ok (.iload_n 3, 1) := by decide +kernel
theorem d253_691 : decode (eb_b 253) 691 = .ok (.iconst 2, 1) := by decide +kernel
theorem d253_692 : decode (eb_b 253) 692 = .ok (.iadd, 1) := by decide +kernel
theorem d253_693 : decode (eb_b 253) 693 = .ok (.iaload, 1) := by decide +kernel
theorem d253_694 : decode (eb_b 253) 694 = .ok (.aload_n 0, 1) := by decide +kernel
theorem d253_695 : decode (eb_b 253) 695 = .ok (.iload_n 3, 1) := by decide +kernel
theorem d253_696 : decode (eb_b 253) 696 = .ok (.iconst 3, 1) := by decide +kernel
theorem d253_697 : decode (eb_b 253) 697 = .ok (.iadd, 1) := by decide +kernel
theorem d253_698 : decode (eb_b 253) 698 = .ok (.iaload, 1) := by decide +kernel
theorem d253_699 : decode (eb_b 253) 699 = .ok (.invokevirtual 60, 3) := by decide +kernel
theorem wc_164 : Cond.code (eb_y 164) (eb_b 164) (eb_ml 164) (eb_rt 164) ∈ eb_LT := eb_lt 1147 (by decide +kernel)
theorem cy_164 : (eb_y 164).cls = eb_cN (eb_rc 164) ∧ (eb_y 164).cls ≠ "java/lang/invoke/MethodHandle" ∧ (eb_y 164).cls ≠ "java/lang/invoke/VarHandle" ∧ (parseMethodDescriptor (eb_y 164).desc).map (fun d => d.parameters.length) = some 3 := by decide +kernel
theorem wi_164 : Cond.instanceMethod (eb_y 164) ∈ eb_LT := eb_lt 1145 (by decide +kernel)
theorem wse_164 : Cond.selects (eb_cN (eb_rc 164)) (eb_y 164) (eb_y 164) ∈ eb_LT := eb_lt 1146 (by decide +kernel)
theorem kV_164 {L q0 m pc : Nat} {lg : Nat → Bool} {ix : Nat} (hw : Cond.methodLink (eb_own m) ix (eb_y 164) ∈ eb_LT) (hd : decode (eb_b m) pc = .ok (.invokevirtual ix, 3)) : eb_Snd L q0 m pc lg (op_call 164 4 (pc + 3)) := sn_callV false rfl (Or.inr ⟨rfl, _, rfl⟩) (by decide) rfl (by decide) ⟨⟨hw, wi_164, wse_164⟩, wc_164⟩ cy_164 hd
theorem wm_8_60 : Cond.methodLink (eb_cN 8) 60 (eb_y 164) ∈ eb_LT := eb_lt 1144 (by decide +kernel)
theorem d253_702 : decode (eb_b 253) 702 = .ok (.if_icmp .eq 1246, 3) := by decide +kernel
theorem d253_705 : decode (eb_b 253) 705 = .ok (.iconst 0, 1) := by decide +kernel
theorem d253_706 : decode (eb_b 253) 706 = .ok (.ireturn, 1) := by decide +kernel
theorem d253_707 : decode (eb_b 253) 707 = .ok (.aload_n 1, 1) := by decide +kernel
theorem d253_708 : decode (eb_b 253) 708 = .ok (.aload_n 0, 1) := by decide +kernel
theorem d253_709 : decode (eb_b 253) 709 = .ok (.iload_n 3, 1) := by decide +kernel
theorem d253_710 : decode (eb_b 253) 710 = .ok (.iconst 1, 1) := by decide +kernel
theorem d253_711 : decode (eb_b 253) 711 = .ok (.iadd, 1) := by decide +kernel
theorem d253_712 : decode (eb_b 253) 712 = .ok (.iaload, 1) := by decide +kernel
theorem d253_713 : decode (eb_b 253) 713 = .ok (.aload_n 0, 1) := by decide +kernel
theorem d253_714 : decode (eb_b 253) 714 = .ok (.iload_n 3, 1) := by decide +kernel
theorem d253_715 : decode (eb_b 253) 715 = .ok (.iconst 2, 1) := by decide +kernel
theorem d253_716 : decode (eb_b 253) 716 = .ok (.iadd, 1) := by decide +kernel
theorem d253_717 : decode (eb_b 253) 717 = .ok (.iaload, 1) := by decide +kernel
theorem d253_718 : decode (eb_b 253) 718 = .ok (.invokevirtual 61, 3) := by decide +kernel
theorem wc_78 : Cond.code (eb_y 78) (eb_b 78) (eb_ml 78) (eb_rt 78) ∈ eb_LT := eb_lt 437 (by decide +kernel)
theorem cy_78 : (eb_y 78).cls = eb_cN (eb_rc 78) ∧ (eb_y 78).cls ≠ "java/lang/invoke/MethodHandle" ∧ (eb_y 78).cls ≠ "java/lang/invoke/VarHandle" ∧ (parseMethodDescriptor (eb_y 78).desc).map (fun d => d.parameters.length) = some 2 := by decide +kernel
theorem wi_78 : Cond.instanceMethod (eb_y 78) ∈ eb_LT := eb_lt 435 (by decide +kernel)
theorem wse_78 : Cond.selects (eb_cN (eb_rc 78)) (eb_y 78) (eb_y 78) ∈ eb_LT := eb_lt 436 (by decide +kernel)
theorem kV_78 {L q0 m pc : Nat} {lg : Nat → Bool} {ix : Nat} (hw : Cond.methodLink (eb_own m) ix (eb_y 78) ∈ eb_LT) (hd : decode (eb_b m) pc = .ok (.invokevirtual ix, 3)) : eb_Snd L q0 m pc lg (op_call 78 3 (pc + 3)) := sn_callV false rfl (Or.inr ⟨rfl, _, rfl⟩) (by decide) rfl (by decide) ⟨⟨hw, wi_78, wse_78⟩, wc_78⟩ cy_78 hd
theorem wm_8_61 : Cond.methodLink (eb_cN 8) 61 (eb_y 78) ∈ eb_LT := eb_lt 434 (by decide +kernel)
theorem d253_721 : decode (eb_b 253) 721 = .ok (.aload_n 2, 1) := by decide +kernel
theorem d253_722 : decode (eb_b 253) 722 = .ok (.aload_n 0, 1) := by decide +kernel
theorem d253_723 : decode (eb_b 253) 723 = .ok (.iload_n 3, 1) := by decide +kernel
theorem d253_724 : decode (eb_b 253) 724 = .ok (.iconst 1, 1) := by decide +kernel
theorem d253_725 : decode (eb_b 253) 725 = .ok (.iadd, 1) := by decide +kernel
theorem d253_726 : decode (eb_b 253) 726 = .ok (.iaload, 1) := by decide +kernel
theorem d253_727 : decode (eb_b 253) 727 = .ok (.aload_n 0, 1) := by decide +kernel
theorem d253_728 : decode (eb_b 253) 728 = .ok (.iload_n 3, 1) := by decide +kernel
theorem d253_729 : decode (eb_b 253) 729 = .ok (.iconst 2, 1) := by decide +kernel
theorem d253_730 : decode (eb_b 253) 730 = .ok (.iadd, 1) := by decide +kernel
theorem d253_731 : decode (eb_b 253) 731 = .ok (.iaload, 1) := by decide +kernel
theorem d253_732 : decode (eb_b 253) 732 = .ok (.invokevirtual 64, 3) := by decide +kernel
theorem wc_165 : Cond.code (eb_y 165) (eb_b 165) (eb_ml 165) (eb_rt 165) ∈ eb_LT := eb_lt 1155 (by decide +kernel)
theorem cy_165 : (eb_y 165).cls = eb_cN (eb_rc 165) ∧ (eb_y 165).cls ≠ "java/lang/invoke/MethodHandle" ∧ (eb_y 165).cls ≠ "java/lang/invoke/VarHandle" ∧ (parseMethodDescriptor (eb_y 165).desc).map (fun d => d.parameters.length) = some 2 := by decide +kernel
theorem wi_165 : Cond.instanceMethod (eb_y 165) ∈ eb_LT := eb_lt 1153 (by decide +kernel)
theorem wse_165 : Cond.selects (eb_cN (eb_rc 165)) (eb_y 165) (eb_y 165) ∈ eb_LT := eb_lt 1154 (by decide +kernel)
theorem kV_165 {L q0 m pc : Nat} {lg : Nat → Bool} {ix : Nat} (hw : Cond.methodLink (eb_own m) ix (eb_y 165) ∈ eb_LT) (hd : decode (eb_b m) pc = .ok (.invokevirtual ix, 3)) : eb_Snd L q0 m pc lg (op_call 165 3 (pc + 3)) := sn_callV false rfl (Or.inr ⟨rfl, _, rfl⟩) (by decide) rfl (by decide) ⟨⟨hw, wi_165, wse_165⟩, wc_165⟩ cy_165 hd
theorem wm_8_64 : Cond.methodLink (eb_cN 8) 64 (eb_y 165) ∈ eb_LT := eb_lt 1152 (by decide +kernel)
theorem d253_735 : decode (eb_b 253) 735 = .ok (.if_icmp .eq 1213, 3) := by decide +kernel
theorem d253_738 : decode (eb_b 253) 738 = .ok (.iconst 0, 1) := by decide +kernel
theorem d253_739 : decode (eb_b 253) 739 = .ok (.ireturn, 1) := by decide +kernel
theorem d253_740 : decode (eb_b 253) 740 = .ok (.aload_n 1, 1) := by decide +kernel
theorem d253_741 : decode (eb_b 253) 741 = .ok (.aload_n 0, 1) := by decide +kernel
theorem d253_742 : decode (eb_b 253) 742 = .ok (.iload_n 3, 1) := by decide +kernel
theorem d253_743 : decode (eb_b 253) 743 = .ok (.iconst 1, 1) := by decide +kernel
theorem d253_744 : decode (eb_b 253) 744 = .ok (.iadd, 1) := by decide +kernel
theorem d253_745 : decode (eb_b 253) 745 = .ok (.iaload, 1) := by decide +kernel
theorem d253_746 : decode (eb_b 253) 746 = .ok (.invokevirtual 65, 3) := by decide +kernel
theorem wc_79 : Cond.code (eb_y 79) (eb_b 79) (eb_ml 79) (eb_rt 79) ∈ eb_LT := eb_lt 441 (by decide +kernel)
theorem cy_79 : (eb_y 79).cls = eb_cN (eb_rc 79) ∧ (eb_y 79).cls ≠ "java/lang/invoke/MethodHandle" ∧ (eb_y 79).cls ≠ "java/lang/invoke/VarHandle" ∧ (parseMethodDescriptor (eb_y 79).desc).map (fun d => d.parameters.length) = some 1 := by decide +kernel
theorem wi_79 : Cond.instanceMethod (eb_y 79) ∈ eb_LT := eb_lt 439 (by decide +kernel)
theorem wse_79 : Cond.selects (eb_cN (eb_rc 79)) (eb_y 79) (eb_y 79) ∈ eb_LT := eb_lt 440 (by decide +kernel)
theorem kV_79 {L q0 m pc : Nat} {lg : Nat → Bool} {ix : Nat} (hw : Cond.methodLink (eb_own m) ix (eb_y 79) ∈ eb_LT) (hd : decode (eb_b m) pc = .ok (.invokevirtual ix, 3)) : eb_Snd L q0 m pc lg (op_call 79 2 (pc + 3)) := sn_callV false rfl (Or.inr ⟨rfl, _, rfl⟩) (by decide) rfl (by decide) ⟨⟨hw, wi_79, wse_79⟩, wc_79⟩ cy_79 hd
theorem wm_8_65 : Cond.methodLink (eb_cN 8) 65 (eb_y 79) ∈ eb_LT := eb_lt 438 (by decide +kernel)
theorem d253_749 : decode (eb_b 253) 749 = .ok (.aload_n 2, 1) := by decide +kernel
theorem d253_750 : decode (eb_b 253) 750 = .ok (.aload_n 0, 1) := by decide +kernel
theorem d253_751 : decode (eb_b 253) 751 = .ok (.iload_n 3, 1) := by decide +kernel
theorem d253_752 : decode (eb_b 253) 752 = .ok (.iconst 1, 1) := by decide +kernel
theorem d253_753 : decode (eb_b 253) 753 = .ok (.iadd, 1) := by decide +kernel
theorem d253_754 : decode (eb_b 253) 754 = .ok (.iaload, 1) := by decide +kernel
theorem d253_755 : decode (eb_b 253) 755 = .ok (.invokevirtual 68, 3) := by decide +kernel
theorem wc_168 : Cond.code (eb_y 168) (eb_b 168) (eb_ml 168) (eb_rt 168) ∈ eb_LT := eb_lt 1160 (by decide +kernel)
theorem cy_168 : (eb_y 168).cls = eb_cN (eb_rc 168) ∧ (eb_y 168).cls ≠ "java/lang/invoke/MethodHandle" ∧ (eb_y 168).cls ≠ "java/lang/invoke/VarHandle" ∧ (parseMethodDescriptor (eb_y 168).desc).map (fun d => d.parameters.length) = some 1 := by decide +kernel
theorem wi_168 : Cond.instanceMethod (eb_y 168) ∈ eb_LT := eb_lt 1158 (by decide +kernel)
theorem wse_168 : Cond.selects (eb_cN (eb_rc 168)) (eb_y 168) (eb_y 168) ∈ eb_LT := eb_lt 1159 (by decide +kernel)
theorem kV_168 {L q0 m pc : Nat} {lg : Nat → Bool} {ix : Nat} (hw : Cond.methodLink (eb_own m) ix (eb_y 168) ∈ eb_LT) (hd : decode (eb_b m) pc = .ok (.invokevirtual ix, 3)) : eb_Snd L q0 m pc lg (op_call 168 2 (pc + 3)) := sn_callV false rfl (Or.inr ⟨rfl, _, rfl⟩) (by decide) rfl (by decide) ⟨⟨hw, wi_168, wse_168⟩, wc_168⟩ cy_168 hd
theorem wm_8_68 : Cond.methodLink (eb_cN 8) 68 (eb_y 168) ∈ eb_LT := eb_lt 1157 (by decide +kernel)
theorem d253_758 : decode (eb_b 253) 758 = .ok (.if_icmp .eq 1190, 3) := by decide +kernel
theorem d253_761 : decode (eb_b 253) 761 = .ok (.iconst 0, 1) := by decide +kernel
theorem d253_762 : decode (eb_b 253) 762 = .ok (.ireturn, 1) := by decide +kernel
theorem d253_763 : decode (eb_b 253) 763 = .ok (.aload_n 1, 1) := by decide +kernel
theorem d253_764 : decode (eb_b 253) 764 = .ok (.aload_n 0, 1) := by decide +kernel
theorem d253_765 : decode (eb_b 253) 765 = .ok (.iload_n 3, 1) := by decide +kernel
theorem d253_766 : decode (eb_b 253) 766 = .ok (.iconst 1, 1) := by decide +kernel
theorem d253_767 : decode (eb_b 253) 767 = .ok (.iadd, 1) := by decide +kernel
theorem d253_768 : decode (eb_b 253) 768 = .ok (.iaload, 1) := by decide +kernel
theorem d253_769 : decode (eb_b 253) 769 = .ok (.aload_n 0, 1) := by decide +kernel
theorem d253_770 : decode (eb_b 253) 770 = .ok (.iload_n 3, 1) := by decide +kernel
theorem d253_771 : decode (eb_b 253) 771 = .ok (.iconst 2, 1) := by decide +kernel
theorem d253_772 : decode (eb_b 253) 772 = .ok (.iadd, 1) := by decide +kernel
theorem d253_773 : decode (eb_b 253) 773 = .ok (.iaload, 1) := by decide +kernel
theorem d253_774 : decode (eb_b 253) 774 = .ok (.invokevirtual 69, 3) := by decide +kernel
theorem wc_80 : Cond.code (eb_y 80) (eb_b 80) (eb_ml 80) (eb_rt 80) ∈ eb_LT := eb_lt 453 (by decide +kernel)
theorem cy_80 : (eb_y 80).cls = eb_cN (eb_rc 80) ∧ (eb_y 80).cls ≠ "java/lang/invoke/MethodHandle" ∧ (eb_y 80).cls ≠ "java/lang/invoke/VarHandle" ∧ (parseMethodDescriptor (eb_y 80).desc).map (fun d => d.parameters.length) = some 2 := by decide +kernel
theorem wi_80 : Cond.instanceMethod (eb_y 80) ∈ eb_LT := eb_lt 451 (by decide +kernel)
theorem wse_80 : Cond.selects (eb_cN (eb_rc 80)) (eb_y 80) (eb_y 80) ∈ eb_LT := eb_lt 452 (by decide +kernel)
theorem kV_80 {L q0 m pc : Nat} {lg : Nat → Bool} {ix : Nat} (hw : Cond.methodLink (eb_own m) ix (eb_y 80) ∈ eb_LT) (hd : decode (eb_b m) pc = .ok (.invokevirtual ix, 3)) : eb_Snd L q0 m pc lg (op_call 80 3 (pc + 3)) := sn_callV false rfl (Or.inr ⟨rfl, _, rfl⟩) (by decide) rfl (by decide) ⟨⟨hw, wi_80, wse_80⟩, wc_80⟩ cy_80 hd
theorem wm_8_69 : Cond.methodLink (eb_cN 8) 69 (eb_y 80) ∈ eb_LT := eb_lt 450 (by decide +kernel)
theorem d253_777 : decode (eb_b 253) 777 = .ok (.aload_n 2, 1) := by decide +kernel
theorem d253_778 : decode (eb_b 253) 778 = .ok (.aload_n 0, 1) := by decide +kernel
theorem d253_779 : decode (eb_b 253) 779 = .ok (.iload_n 3, 1) := by decide +kernel
theorem d253_780 : decode (eb_b 253) 780 = .ok (.iconst 1, 1) := by decide +kernel
theorem d253_781 : decode (eb_b 253) 781 = .ok (.iadd, 1) := by decide +kernel
theorem d253_782 : decode (eb_b 253) 782 = .ok (.iaload, 1) := by decide +kernel
theorem d253_783 : decode (eb_b 253) 783 = .ok (.aload_n 0, 1) := by decide +kernel
theorem d253_784 : decode (eb_b 253) 784 = .ok (.iload_n 3, 1) := by decide +kernel
theorem d253_785 : decode (eb_b 253) 785 = .ok (.iconst 2, 1) := by decide +kernel
theorem d253_786 : decode (eb_b 253) 786 = .ok (.iadd, 1) := by decide +kernel
theorem d253_787 : decode (eb_b 253) 787 = .ok (.iaload, 1) := by decide +kernel
theorem d253_788 : decode (eb_b 253) 788 = .ok (.invokevirtual 72, 3) := by decide +kernel
theorem wc_170 : Cond.code (eb_y 170) (eb_b 170) (eb_ml 170) (eb_rt 170) ∈ eb_LT := eb_lt 1172 (by decide +kernel)
theorem cy_170 : (eb_y 170).cls = eb_cN (eb_rc 170) ∧ (eb_y 170).cls ≠ "java/lang/invoke/MethodHandle" ∧ (eb_y 170).cls ≠ "java/lang/invoke/VarHandle" ∧ (parseMethodDescriptor (eb_y 170).desc).map (fun d => d.parameters.length) = some 2 := by decide +kernel
theorem wi_170 : Cond.instanceMethod (eb_y 170) ∈ eb_LT := eb_lt 1170 (by decide +kernel)
theorem wse_170 : Cond.selects (eb_cN (eb_rc 170)) (eb_y 170) (eb_y 170) ∈ eb_LT := eb_lt 1171 (by decide +kernel)
theorem kV_170 {L q0 m pc : Nat} {lg : Nat → Bool} {ix : Nat} (hw : Cond.methodLink (eb_own m) ix (eb_y 170) ∈ eb_LT) (hd : decode (eb_b m) pc = .ok (.invokevirtual ix, 3)) : eb_Snd L q0 m pc lg (op_call 170 3 (pc + 3)) := sn_callV false rfl (Or.inr ⟨rfl, _, rfl⟩) (by decide) rfl (by decide) ⟨⟨hw, wi_170, wse_170⟩, wc_170⟩ cy_170 hd
theorem wm_8_72 : Cond.methodLink (eb_cN 8) 72 (eb_y 170) ∈ eb_LT := eb_lt 1169 (by decide +kernel)
theorem d253_791 : decode (eb_b 253) 791 = .ok (.if_icmp .eq 1157, 3) := by decide +kernel
theorem d253_794 : decode (eb_b 253) 794 = .ok (.iconst 0, 1) := by decide +kernel
theorem d253_795 : decode (eb_b 253) 795 = .ok (.ireturn, 1) := by decide +kernel
theorem d253_796 : decode (eb_b 253) 796 = .ok (.aload_n 1, 1) := by decide +kernel
theorem d253_797 : decode (eb_b 253) 797 = .ok (.aload_n 0, 1) := by decide +kernel
theorem d253_798 : decode (eb_b 253) 798 = .ok (.iload_n 3, 1) := by decide +kernel
theorem d253_799 : decode (eb_b 253) 799 = .ok (.iconst 1, 1) := by decide +kernel
theorem d253_800 : decode (eb_b 253) 800 = .ok (.iadd, 1) := by decide +kernel
theorem d253_801 : decode (eb_b 253) 801 = .ok (.iaload, 1) := by decide +kernel
theorem d253_802 : decode (eb_b 253) 802 = .ok (.invokevirtual 73, 3) := by decide +kernel
theorem wc_81 : Cond.code (eb_y 81) (eb_b 81) (eb_ml 81) (eb_rt 81) ∈ eb_LT := eb_lt 465 (by decide +kernel)
theorem cy_81 : (eb_y 81).cls = eb_cN (eb_rc 81) ∧ (eb_y 81).cls ≠ "java/lang/invoke/MethodHandle" ∧ (eb_y 81).cls ≠ "java/lang/invoke/VarHandle" ∧ (parseMethodDescriptor (eb_y 81).desc).map (fun d => d.parameters.length) = some 1 := by decide +kernel
theorem wi_81 : Cond.instanceMethod (eb_y 81) ∈ eb_LT := eb_lt 463 (by decide +kernel)
theorem wse_81 : Cond.selects (eb_cN (eb_rc 81)) (eb_y 81) (eb_y 81) ∈ eb_LT := eb_lt 464 (by decide +kernel)
theorem kV_81 {L q0 m pc : Nat} {lg : Nat → Bool} {ix : Nat} (hw : Cond.methodLink (eb_own m) ix (eb_y 81) ∈ eb_LT) (hd : decode (eb_b m) pc = .ok (.invokevirtual ix, 3)) : eb_Snd L q0 m pc lg (op_call 81 2 (pc + 3)) := sn_callV false rfl (Or.inr ⟨rfl, _, rfl⟩) (by decide) rfl (by decide) ⟨⟨hw, wi_81, wse_81⟩, wc_81⟩ cy_81 hd
theorem wm_8_73 : Cond.methodLink (eb_cN 8) 73 (eb_y 81) ∈ eb_LT := eb_lt 462 (by decide +kernel)
theorem d253_805 : decode (eb_b 253) 805 = .ok (.aload_n 2, 1) := by decide +kernel
theorem d253_806 : decode (eb_b 253) 806 = .ok (.aload_n 0, 1) := by decide +kernel
theorem d253_807 : decode (eb_b 253) 807 = .ok (.iload_n 3, 1) := by decide +kernel
theorem d253_808 : decode (eb_b 253) 808 = .ok (.iconst 1, 1) := by decide +kernel
theorem d253_809 : decode (eb_b 253) 809 = .ok (.iadd, 1) := by decide +kernel
theorem d253_810 : decode (eb_b 253) 810 = .ok (.iaload, 1) := by decide +kernel
theorem d253_811 : decode (eb_b 253) 811 = .ok (.invokevirtual 76, 3) := by decide +kernel
theorem wc_171 : Cond.code (eb_y 171) (eb_b 171) (eb_ml 171) (eb_rt 171) ∈ eb_LT := eb_lt 1180 (by decide +kernel)
theorem cy_171 : (eb_y 171).cls = eb_cN (eb_rc 171) ∧ (eb_y 171).cls ≠ "java/lang/invoke/MethodHandle" ∧ (eb_y 171).cls ≠ "java/lang/invoke/VarHandle" ∧ (parseMethodDescriptor (eb_y 171).desc).map (fun d => d.parameters.length) = some 1 := by decide +kernel
theorem wi_171 : Cond.instanceMethod (eb_y 171) ∈ eb_LT := eb_lt 1178 (by decide +kernel)
theorem wse_171 : Cond.selects (eb_cN (eb_rc 171)) (eb_y 171) (eb_y 171) ∈ eb_LT := eb_lt 1179 (by decide +kernel)
theorem kV_171 {L q0 m pc : Nat} {lg : Nat → Bool} {ix : Nat} (hw : Cond.methodLink (eb_own m) ix (eb_y 171) ∈ eb_LT) (hd : decode (eb_b m) pc = .ok (.invokevirtual ix, 3)) : eb_Snd L q0 m pc lg (op_call 171 2 (pc + 3)) := sn_callV false rfl (Or.inr ⟨rfl, _, rfl⟩) (by decide) rfl (by decide) ⟨⟨hw, wi_171, wse_171⟩, wc_171⟩ cy_171 hd
theorem wm_8_76 : Cond.methodLink (eb_cN 8) 76 (eb_y 171) ∈ eb_LT := eb_lt 1177 (by decide +kernel)
theorem d253_814 : decode (eb_b 253) 814 = .ok (.if_icmp .eq 1134, 3) := by decide +kernel
theorem d253_817 : decode (eb_b 253) 817 = .ok (.iconst 0, 1) := by decide +kernel
theorem d253_818 : decode (eb_b 253) 818 = .ok (.ireturn, 1) := by decide +kernel
theorem d253_819 : decode (eb_b 253) 819 = .ok (.aload_n 1, 1) := by decide +kernel
theorem d253_820 : decode (eb_b 253) 820 = .ok (.aload_n 0, 1) := by decide +kernel
theorem d253_821 : decode (eb_b 253) 821 = .ok (.iload_n 3, 1) := by decide +kernel
theorem d253_822 : decode (eb_b 253) 822 = .ok (.iconst 1, 1) := by decide +kernel
theorem d253_823 : decode (eb_b 253) 823 = .ok (.iadd, 1) := by decide +kernel
theorem d253_824 : decode (eb_b 253) 824 = .ok (.iaload, 1) := by decide +kernel
theorem d253_825 : decode (eb_b 253) 825 = .ok (.aload_n 0, 1) := by decide +kernel
theorem d253_826 : decode (eb_b 253) 826 = .ok (.iload_n 3, 1) := by decide +kernel
theorem d253_827 : decode (eb_b 253) 827 = .ok (.iconst 2, 1) := by decide +kernel
theorem d253_828 : decode (eb_b 253) 828 = .ok (.iadd, 1) := by decide +kernel
theorem d253_829 : decode (eb_b 253) 829 = .ok (.iaload, 1) := by decide +kernel
theorem d253_830 : decode (eb_b 253) 830 = .ok (.invokevirtual 77, 3) := by decide +kernel
theorem wc_82 : Cond.code (eb_y 82) (eb_b 82) (eb_ml 82) (eb_rt 82) ∈ eb_LT := eb_lt 469 (by decide +kernel)
theorem cy_82 : (eb_y 82).cls = eb_cN (eb_rc 82) ∧ (eb_y 82).cls ≠ "java/lang/invoke/MethodHandle" ∧ (eb_y 82).cls ≠ "java/lang/invoke/VarHandle" ∧ (parseMethodDescriptor (eb_y 82).desc).map (fun d => d.parameters.length) = some 2 := by decide +kernel
theorem wi_82 : Cond.instanceMethod (eb_y 82) ∈ eb_LT := eb_lt 467 (by decide +kernel)
theorem wse_82 : Cond.selects (eb_cN (eb_rc 82)) (eb_y 82) (eb_y 82) ∈ eb_LT := eb_lt 468 (by decide +kernel)
theorem kV_82 {L q0 m pc : Nat} {lg : Nat → Bool} {ix : Nat} (hw : Cond.methodLink (eb_own m) ix (eb_y 82) ∈ eb_LT) (hd : decode (eb_b m) pc = .ok (.invokevirtual ix, 3)) : eb_Snd L q0 m pc lg (op_call 82 3 (pc + 3)) := sn_callV false rfl (Or.inr ⟨rfl, _, rfl⟩) (by decide) rfl (by decide) ⟨⟨hw, wi_82, wse_82⟩, wc_82⟩ cy_82 hd
theorem wm_8_77 : Cond.methodLink (eb_cN 8) 77 (eb_y 82) ∈ eb_LT := eb_lt 466 (by decide +kernel)
theorem d253_833 : decode (eb_b 253) 833 = .ok (.aload_n 2, 1) := by decide +kernel
theorem d253_834 : decode (eb_b 253) 834 = .ok (.aload_n 0, 1) := by decide +kernel
theorem d253_835 : decode (eb_b 253) 835 = .ok (.iload_n 3, 1) := by decide +kernel
theorem d253_836 : decode (eb_b 253) 836 = .ok (.iconst 1, 1) := by decide +kernel
theorem d253_837 : decode (eb_b 253) 837 = .ok (.iadd, 1) := by decide +kernel
theorem d253_838 : decode (eb_b 253) 838 = .ok (.iaload, 1) := by decide +kernel
theorem d253_839 : decode (eb_b 253) 839 = .ok (.aload_n 0, 1) := by decide +kernel
theorem d253_840 : decode (eb_b 253) 840 = .ok (.iload_n 3, 1) := by decide +kernel
theorem d253_841 : decode (eb_b 253) 841 = .ok (.iconst 2, 1) := by decide +kernel
theorem d253_842 : decode (eb_b 253) 842 = .ok (.iadd, 1) := by decide +kernel
theorem d253_843 : decode (eb_b 253) 843 = .ok (.iaload, 1) := by decide +kernel
theorem d253_844 : decode (eb_b 253) 844 = .ok (.invokevirtual 80, 3) := by decide +kernel
theorem wc_172 : Cond.code (eb_y 172) (eb_b 172) (eb_ml 172) (eb_rt 172) ∈ eb_LT := eb_lt 1184 (by decide +kernel)
theorem cy_172 : (eb_y 172).cls = eb_cN (eb_rc 172) ∧ (eb_y 172).cls ≠ "java/lang/invoke/MethodHandle" ∧ (eb_y 172).cls ≠ "java/lang/invoke/VarHandle" ∧ (parseMethodDescriptor (eb_y 172).desc).map (fun d => d.parameters.length) = some 2 := by decide +kernel
theorem wi_172 : Cond.instanceMethod (eb_y 172) ∈ eb_LT := eb_lt 1182 (by decide +kernel)
theorem wse_172 : Cond.selects (eb_cN (eb_rc 172)) (eb_y 172) (eb_y 172) ∈ eb_LT := eb_lt 1183 (by decide +kernel)
theorem kV_172 {L q0 m pc : Nat} {lg : Nat → Bool} {ix : Nat} (hw : Cond.methodLink (eb_own m) ix (eb_y 172) ∈ eb_LT) (hd : decode (eb_b m) pc = .ok (.invokevirtual ix, 3)) : eb_Snd L q0 m pc lg (op_call 172 3 (pc + 3)) := sn_callV false rfl (Or.inr ⟨rfl, _, rfl⟩) (by decide) rfl (by decide) ⟨⟨hw, wi_172, wse_172⟩, wc_172⟩ cy_172 hd
theorem wm_8_80 : Cond.methodLink (eb_cN 8) 80 (eb_y 172) ∈ eb_LT := eb_lt 1181 (by decide +kernel)
theorem d253_847 : decode (eb_b 253) 847 = .ok (.if_icmp .eq 1101, 3) := by decide +kernel
theorem d253_850 : decode (eb_b 253) 850 = .ok (.iconst 0, 1) := by decide +kernel
theorem d253_851 : decode (eb_b 253) 851 = .ok (.ireturn, 1) := by decide +kernel
theorem d253_852 : decode (eb_b 253) 852 = .ok (.aload_n 1, 1) := by decide +kernel
theorem d253_853 : decode (eb_b 253) 853 = .ok (.aload_n 0, 1) := by decide +kernel
theorem d253_854 : decode (eb_b 253) 854 = .ok (.iload_n 3, 1) := by decide +kernel
theorem d253_855 : decode (eb_b 253) 855 = .ok (.iconst 1, 1) := by decide +kernel
theorem d253_856 : decode (eb_b 253) 856 = .ok (.iadd, 1) := by decide +kernel
theorem d253_857 : decode (eb_b 253) 857 = .ok (.iaload, 1) := by decide +kernel
theorem d253_858 : decode (eb_b 253) 858 = .ok (.invokevirtual 81, 3) := by decide +kernel
theorem wc_83 : Cond.code (eb_y 83) (eb_b 83) (eb_ml 83) (eb_rt 83) ∈ eb_LT := eb_lt 473 (by decide +kernel)
theorem cy_83 : (eb_y 83).cls = eb_cN (eb_rc 83) ∧ (eb_y 83).cls ≠ "java/lang/invoke/MethodHandle" ∧ (eb_y 83).cls ≠ "java/lang/invoke/VarHandle" ∧ (parseMethodDescriptor (eb_y 83).desc).map (fun d => d.parameters.length) = some 1 := by decide +kernel
theorem wi_83 : Cond.instanceMethod (eb_y 83) ∈ eb_LT := eb_lt 471 (by decide +kernel)
theorem wse_83 : Cond.selects (eb_cN (eb_rc 83)) (eb_y 83) (eb_y 83) ∈ eb_LT := eb_lt 472 (by decide +kernel)
theorem kV_83 {L q0 m pc : Nat} {lg : Nat → Bool} {ix : Nat} (hw : Cond.methodLink (eb_own m) ix (eb_y 83) ∈ eb_LT) (hd : decode (eb_b m) pc = .ok (.invokevirtual ix, 3)) : eb_Snd L q0 m pc lg (op_call 83 2 (pc + 3)) := sn_callV false rfl (Or.inr ⟨rfl, _, rfl⟩) (by decide) rfl (by decide) ⟨⟨hw, wi_83, wse_83⟩, wc_83⟩ cy_83 hd
theorem wm_8_81 : Cond.methodLink (eb_cN 8) 81 (eb_y 83) ∈ eb_LT := eb_lt 470 (by decide +kernel)
theorem d253_861 : decode (eb_b 253) 861 = .ok (.aload_n 2, 1) := by decide +kernel
theorem d253_862 : decode (eb_b 253) 862 = .ok (.aload_n 0, 1) := by decide +kernel
theorem d253_863 : decode (eb_b 253) 863 = .ok (.iload_n 3, 1) := by decide +kernel
theorem d253_864 : decode (eb_b 253) 864 = .ok (.iconst 1, 1) := by decide +kernel
theorem d253_865 : decode (eb_b 253) 865 = .ok (.iadd, 1) := by decide +kernel
theorem d253_866 : decode (eb_b 253) 866 = .ok (.iaload, 1) := by decide +kernel
theorem d253_867 : decode (eb_b 253) 867 = .ok (.invokevirtual 84, 3) := by decide +kernel
theorem wc_173 : Cond.code (eb_y 173) (eb_b 173) (eb_ml 173) (eb_rt 173) ∈ eb_LT := eb_lt 1188 (by decide +kernel)
theorem cy_173 : (eb_y 173).cls = eb_cN (eb_rc 173) ∧ (eb_y 173).cls ≠ "java/lang/invoke/MethodHandle" ∧ (eb_y 173).cls ≠ "java/lang/invoke/VarHandle" ∧ (parseMethodDescriptor (eb_y 173).desc).map (fun d => d.parameters.length) = some 1 := by decide +kernel
theorem wi_173 : Cond.instanceMethod (eb_y 173) ∈ eb_LT := eb_lt 1186 (by decide +kernel)
theorem wse_173 : Cond.selects (eb_cN (eb_rc 173)) (eb_y 173) (eb_y 173) ∈ eb_LT := eb_lt 1187 (by decide +kernel)
theorem kV_173 {L q0 m pc : Nat} {lg : Nat → Bool} {ix : Nat} (hw : Cond.methodLink (eb_own m) ix (eb_y 173) ∈ eb_LT) (hd : decode (eb_b m) pc = .ok (.invokevirtual ix, 3)) : eb_Snd L q0 m pc lg (op_call 173 2 (pc + 3)) := sn_callV false rfl (Or.inr ⟨rfl, _, rfl⟩) (by decide) rfl (by decide) ⟨⟨hw, wi_173, wse_173⟩, wc_173⟩ cy_173 hd
theorem wm_8_84 : Cond.methodLink (eb_cN 8) 84 (eb_y 173) ∈ eb_LT := eb_lt 1185 (by decide +kernel)
theorem d253_870 : decode (eb_b 253) 870 = .ok (.if_icmp .eq 1078, 3) := by decide +kernel
theorem d253_873 : decode (eb_b 253) 873 = .ok (.iconst 0, 1) := by decide +kernel
theorem d253_874 : decode (eb_b 253) 874 = .ok (.ireturn, 1) := by decide +kernel
theorem d253_875 : decode (eb_b 253) 875 = .ok (.aload_n 1, 1) := by decide +kernel
theorem d253_876 : decode (eb_b 253) 876 = .ok (.invokevirtual 85, 3) := by decide +kernel
theorem wc_84 : Cond.code (eb_y 84) (eb_b 84) (eb_ml 84) (eb_rt 84) ∈ eb_LT := eb_lt 481 (by decide +kernel)
theorem cy_84 : (eb_y 84).cls = eb_cN (eb_rc 84) ∧ (eb_y 84).cls ≠ "java/lang/invoke/MethodHandle" ∧ (eb_y 84).cls ≠ "java/lang/invoke/VarHandle" ∧ (parseMethodDescriptor (eb_y 84).desc).map (fun d => d.parameters.length) = some 0 := by decide +kernel
theorem wi_84 : Cond.instanceMethod (eb_y 84) ∈ eb_LT := eb_lt 479 (by decide +kernel)
theorem wse_84 : Cond.selects (eb_cN (eb_rc 84)) (eb_y 84) (eb_y 84) ∈ eb_LT := eb_lt 480 (by decide +kernel)
theorem kV_84 {L q0 m pc : Nat} {lg : Nat → Bool} {ix : Nat} (hw : Cond.methodLink (eb_own m) ix (eb_y 84) ∈ eb_LT) (hd : decode (eb_b m) pc = .ok (.invokevirtual ix, 3)) : eb_Snd L q0 m pc lg (op_call 84 1 (pc + 3)) := sn_callV false rfl (Or.inr ⟨rfl, _, rfl⟩) (by decide) rfl (by decide) ⟨⟨hw, wi_84, wse_84⟩, wc_84⟩ cy_84 hd
theorem wm_8_85 : Cond.methodLink (eb_cN 8) 85 (eb_y 84) ∈ eb_LT := eb_lt 478 (by decide +kernel)
theorem d253_879 : decode (eb_b 253) 879 = .ok (.aload_n 2, 1) := by decide +kernel
theorem d253_880 : decode (eb_b 253) 880 = .ok (.invokevirtual 89, 3) := by decide +kernel
theorem wc_174 : Cond.code (eb_y 174) (eb_b 174) (eb_ml 174) (eb_rt 174) ∈ eb_LT := eb_lt 1193 (by decide +kernel)
theorem cy_174 : (eb_y 174).cls = eb_cN (eb_rc 174) ∧ (eb_y 174).cls ≠ "java/lang/invoke/MethodHandle" ∧ (eb_y 174).cls ≠ "java/lang/invoke/VarHandle" ∧ (parseMethodDescriptor (eb_y 174).desc).map (fun d => d.parameters.length) = some 0 := by decide +kernel
theorem wi_174 : Cond.instanceMethod (eb_y 174) ∈ eb_LT := eb_lt 1191 (by decide +kernel)
theorem wse_174 : Cond.selects (eb_cN (eb_rc 174)) (eb_y 174) (eb_y 174) ∈ eb_LT := eb_lt 1192 (by decide +kernel)
theorem kV_174 {L q0 m pc : Nat} {lg : Nat → Bool} {ix : Nat} (hw : Cond.methodLink (eb_own m) ix (eb_y 174) ∈ eb_LT) (hd : decode (eb_b m) pc = .ok (.invokevirtual ix, 3)) : eb_Snd L q0 m pc lg (op_call 174 1 (pc + 3)) := sn_callV false rfl (Or.inr ⟨rfl, _, rfl⟩) (by decide) rfl (by decide) ⟨⟨hw, wi_174, wse_174⟩, wc_174⟩ cy_174 hd
theorem wm_8_89 : Cond.methodLink (eb_cN 8) 89 (eb_y 174) ∈ eb_LT := eb_lt 1190 (by decide +kernel)
theorem d253_883 : decode (eb_b 253) 883 = .ok (.if_icmp .eq 1065, 3) := by decide +kernel
theorem d253_886 : decode (eb_b 253) 886 = .ok (.iconst 0, 1) := by decide +kernel
theorem d253_887 : decode (eb_b 253) 887 = .ok (.ireturn, 1) := by decide +kernel
theorem d253_888 : decode (eb_b 253) 888 = .ok (.aload_n 1, 1) := by decide +kernel
theorem d253_889 : decode (eb_b 253) 889 = .ok (.invokevirtual 90, 3) := by decide +kernel
theorem wc_85 : Cond.code (eb_y 85) (eb_b 85) (eb_ml 85) (eb_rt 85) ∈ eb_LT := eb_lt 485 (by decide +kernel)
theorem cy_85 : (eb_y 85).cls = eb_cN (eb_rc 85) ∧ (eb_y 85).cls ≠ "java/lang/invoke/MethodHandle" ∧ (eb_y 85).cls ≠ "java/lang/invoke/VarHandle" ∧ (parseMethodDescriptor (eb_y 85).desc).map (fun d => d.parameters.length) = some 0 := by decide +kernel
theorem wi_85 : Cond.instanceMethod (eb_y 85) ∈ eb_LT := eb_lt 483 (by decide +kernel)
theorem wse_85 : Cond.selects (eb_cN (eb_rc 85)) (eb_y 85) (eb_y 85) ∈ eb_LT := eb_lt 484 (by decide +kernel)
theorem kV_85 {L q0 m pc : Nat} {lg : Nat → Bool} {ix : Nat} (hw : Cond.methodLink (eb_own m) ix (eb_y 85) ∈ eb_LT) (hd : decode (eb_b m) pc = .ok (.invokevirtual ix, 3)) : eb_Snd L q0 m pc lg (op_call 85 1 (pc + 3)) := sn_callV false rfl (Or.inr ⟨rfl, _, rfl⟩) (by decide) rfl (by decide) ⟨⟨hw, wi_85, wse_85⟩, wc_85⟩ cy_85 hd
theorem wm_8_90 : Cond.methodLink (eb_cN 8) 90 (eb_y 85) ∈ eb_LT := eb_lt 482 (by decide +kernel)
theorem d253_892 : decode (eb_b 253) 892 = .ok (.aload_n 2, 1) := by decide +kernel
theorem d253_893 : decode (eb_b 253) 893 = .ok (.invokevirtual 93, 3) := by decide +kernel
theorem wc_187 : Cond.code (eb_y 187) (eb_b 187) (eb_ml 187) (eb_rt 187) ∈ eb_LT := eb_lt 1197 (by decide +kernel)
theorem cy_187 : (eb_y 187).cls = eb_cN (eb_rc 187) ∧ (eb_y 187).cls ≠ "java/lang/invoke/MethodHandle" ∧ (eb_y 187).cls ≠ "java/lang/invoke/VarHandle" ∧ (parseMethodDescriptor (eb_y 187).desc).map (fun d => d.parameters.length) = some 0 := by decide +kernel
theorem wi_187 : Cond.instanceMethod (eb_y 187) ∈ eb_LT := eb_lt 1195 (by decide +kernel)
theorem wse_187 : Cond.selects (eb_cN (eb_rc 187)) (eb_y 187) (eb_y 187) ∈ eb_LT := eb_lt 1196 (by decide +kernel)
theorem kV_187 {L q0 m pc : Nat} {lg : Nat → Bool} {ix : Nat} (hw : Cond.methodLink (eb_own m) ix (eb_y 187) ∈ eb_LT) (hd : decode (eb_b m) pc = .ok (.invokevirtual ix, 3)) : eb_Snd L q0 m pc lg (op_call 187 1 (pc + 3)) := sn_callV false rfl (Or.inr ⟨rfl, _, rfl⟩) (by decide) rfl (by decide) ⟨⟨hw, wi_187, wse_187⟩, wc_187⟩ cy_187 hd
theorem wm_8_93 : Cond.methodLink (eb_cN 8) 93 (eb_y 187) ∈ eb_LT := eb_lt 1194 (by decide +kernel)
theorem d253_896 : decode (eb_b 253) 896 = .ok (.if_icmp .eq 1052, 3) := by decide +kernel
theorem d253_899 : decode (eb_b 253) 899 = .ok (.iconst 0, 1) := by decide +kernel
theorem d253_900 : decode (eb_b 253) 900 = .ok (.ireturn, 1) := by decide +kernel
theorem d253_901 : decode (eb_b 253) 901 = .ok (.aload_n 1, 1) := by decide +kernel
theorem d253_902 : decode (eb_b 253) 902 = .ok (.aload_n 0, 1) := by decide +kernel
theorem d253_903 : decode (eb_b 253) 903 = .ok (.iload_n 3, 1) := by decide +kernel
theorem d253_904 : decode (eb_b 253) 904 = .ok (.iconst 1, 1) := by decide +kernel
theorem d253_905 : decode (eb_b 253) 905 = .ok (.iadd, 1) := by decide +kernel
theorem d253_906 : decode (eb_b 253) 906 = .ok (.iaload, 1) := by decide +kernel
theorem d253_907 : decode (eb_b 253) 907 = .ok (.aload_n 0, 1) := by decide +kernel
theorem d253_908 : decode (eb_b 253) 908 = .ok (.iload_n 3, 1) := by decide +kernel
theorem d253_909 : decode (eb_b 253) 909 = .ok (.iconst 2, 1) := by decide +kernel
theorem d253_910 : decode (eb_b 253) 910 = .ok (.iadd, 1) := by decide +kernel
theorem d253_911 : decode (eb_b 253) 911 = .ok (.iaload, 1) := by decide +kernel
theorem d253_912 : decode (eb_b 253) 912 = .ok (.invokevirtual 94, 3) := by decide +kernel
theorem wc_86 : Cond.code (eb_y 86) (eb_b 86) (eb_ml 86) (eb_rt 86) ∈ eb_LT := eb_lt 614 (by decide +kernel)
theorem cy_86 : (eb_y 86).cls = eb_cN (eb_rc 86) ∧ (eb_y 86).cls ≠ "java/lang/invoke/MethodHandle" ∧ (eb_y 86).cls ≠ "java/lang/invoke/VarHandle" ∧ (parseMethodDescriptor (eb_y 86).desc).map (fun d => d.parameters.length) = some 2 := by decide +kernel
theorem wi_86 : Cond.instanceMethod (eb_y 86) ∈ eb_LT := eb_lt 612 (by decide +kernel)
theorem wse_86 : Cond.selects (eb_cN (eb_rc 86)) (eb_y 86) (eb_y 86) ∈ eb_LT := eb_lt 613 (by decide +kernel)
theorem kV_86 {L q0 m pc : Nat} {lg : Nat → Bool} {ix : Nat} (hw : Cond.methodLink (eb_own m) ix (eb_y 86) ∈ eb_LT) (hd : decode (eb_b m) pc = .ok (.invokevirtual ix, 3)) : eb_Snd L q0 m pc lg (op_call 86 3 (pc + 3)) := sn_callV false rfl (Or.inr ⟨rfl, _, rfl⟩) (by decide) rfl (by decide) ⟨⟨hw, wi_86, wse_86⟩, wc_86⟩ cy_86 hd
theorem wm_8_94 : Cond.methodLink (eb_cN 8) 94 (eb_y 86) ∈ eb_LT := eb_lt 611 (by decide +kernel)
theorem d253_915 : decode (eb_b 253) 915 = .ok (.aload_n 2, 1) := by decide +kernel
theorem d253_916 : decode (eb_b 253) 916 = .ok (.aload_n 0, 1) := by decide +kernel
theorem d253_917 : decode (eb_b 253) 917 = .ok (.iload_n 3, 1) := by decide +kernel
theorem d253_918 : decode (eb_b 253) 918 = .ok (.iconst 1, 1) := by decide +kernel
theorem d253_919 : decode (eb_b 253) 919 = .ok (.iadd, 1) := by decide +kernel
theorem d253_920 : decode (eb_b 253) 920 = .ok (.iaload, 1) := by decide +kernel
theorem d253_921 : decode (eb_b 253) 921 = .ok (.aload_n 0, 1) := by decide +kernel
theorem d253_922 : decode (eb_b 253) 922 = .ok (.iload_n 3, 1) := by decide +kernel
theorem d253_923 : decode (eb_b 253) 923 = .ok (.iconst 2, 1) := by decide +kernel
theorem d253_924 : decode (eb_b 253) 924 = .ok (.iadd, 1) := by decide +kernel
theorem d253_925 : decode (eb_b 253) 925 = .ok (.iaload, 1) := by decide +kernel
theorem d253_926 : decode (eb_b 253) 926 = .ok (.invokevirtual 97, 3) := by decide +kernel
theorem wc_188 : Cond.code (eb_y 188) (eb_b 188) (eb_ml 188) (eb_rt 188) ∈ eb_LT := eb_lt 1270 (by decide +kernel)
theorem cy_188 : (eb_y 188).cls = eb_cN (eb_rc 188) ∧ (eb_y 188).cls ≠ "java/lang/invoke/MethodHandle" ∧ (eb_y 188).cls ≠ "java/lang/invoke/VarHandle" ∧ (parseMethodDescriptor (eb_y 188).desc).map (fun d => d.parameters.length) = some 2 := by decide +kernel
theorem wi_188 : Cond.instanceMethod (eb_y 188) ∈ eb_LT := eb_lt 1268 (by decide +kernel)
theorem wse_188 : Cond.selects (eb_cN (eb_rc 188)) (eb_y 188) (eb_y 188) ∈ eb_LT := eb_lt 1269 (by decide +kernel)
theorem kV_188 {L q0 m pc : Nat} {lg : Nat → Bool} {ix : Nat} (hw : Cond.methodLink (eb_own m) ix (eb_y 188) ∈ eb_LT) (hd : decode (eb_b m) pc = .ok (.invokevirtual ix, 3)) : eb_Snd L q0 m pc lg (op_call 188 3 (pc + 3)) := sn_callV false rfl (Or.inr ⟨rfl, _, rfl⟩) (by decide) rfl (by decide) ⟨⟨hw, wi_188, wse_188⟩, wc_188⟩ cy_188 hd
theorem wm_8_97 : Cond.methodLink (eb_cN 8) 97 (eb_y 188) ∈ eb_LT := eb_lt 1267 (by decide +kernel)
theorem d253_929 : decode (eb_b 253) 929 = .ok (.if_icmp .eq 1019, 3) := by decide +kernel
theorem d253_932 : decode (eb_b 253) 932 = .ok (.iconst 0, 1) := by decide +kernel
theorem d253_933 : decode (eb_b 253) 933 = .ok (.ireturn, 1) := by decide +kernel
theorem d253_934 : decode (eb_b 253) 934 = .ok (.aload_n 1, 1) := by decide +kernel
theorem d253_935 : decode (eb_b 253) 935 = .ok (.aload_n 0, 1) := by decide +kernel
theorem d253_936 : decode (eb_b 253) 936 = .ok (.iload_n 3, 1) := by decide +kernel
theorem d253_937 : decode (eb_b 253) 937 = .ok (.iconst 1, 1) := by decide +kernel
theorem d253_938 : decode (eb_b 253) 938 = .ok (.iadd, 1) := by decide +kernel
theorem d253_939 : decode (eb_b 253) 939 = .ok (.iaload, 1) := by decide +kernel
theorem d253_940 : decode (eb_b 253) 940 = .ok (.aload_n 0, 1) := by decide +kernel
theorem d253_941 : decode (eb_b 253) 941 = .ok (.iload_n 3, 1) := by decide +kernel
theorem d253_942 : decode (eb_b 253) 942 = .ok (.iconst 2, 1) := by decide +kernel
theorem d253_943 : decode (eb_b 253) 943 = .ok (.iadd, 1) := by decide +kernel
theorem d253_944 : decode (eb_b 253) 944 = .ok (.iaload, 1) := by decide +kernel
theorem d253_945 : decode (eb_b 253) 945 = .ok (.invokevirtual 98, 3) := by decide +kernel
theorem wc_87 : Cond.code (eb_y 87) (eb_b 87) (eb_ml 87) (eb_rt 87) ∈ eb_LT := eb_lt 618 (by decide +kernel)
theorem cy_87 : (eb_y 87).cls = eb_cN (eb_rc 87) ∧ (eb_y 87).cls ≠ "java/lang/invoke/MethodHandle" ∧ (eb_y 87).cls ≠ "java/lang/invoke/VarHandle" ∧ (parseMethodDescriptor (eb_y 87).desc).map (fun d => d.parameters.length) = some 2 := by decide +kernel
theorem wi_87 : Cond.instanceMethod (eb_y 87) ∈ eb_LT := eb_lt 616 (by decide +kernel)
theorem wse_87 : Cond.selects (eb_cN (eb_rc 87)) (eb_y 87) (eb_y 87) ∈ eb_LT := eb_lt 617 (by decide +kernel)
theorem kV_87 {L q0 m pc : Nat} {lg : Nat → Bool} {ix : Nat} (hw : Cond.methodLink (eb_own m) ix (eb_y 87) ∈ eb_LT) (hd : decode (eb_b m) pc = .ok (.invokevirtual ix, 3)) : eb_Snd L q0 m pc lg (op_call 87 3 (pc + 3)) := sn_callV false rfl (Or.inr ⟨rfl, _, rfl⟩) (by decide) rfl (by decide) ⟨⟨hw, wi_87, wse_87⟩, wc_87⟩ cy_87 hd
theorem wm_8_98 : Cond.methodLink (eb_cN 8) 98 (eb_y 87) ∈ eb_LT := eb_lt 615 (by decide +kernel)
theorem d253_948 : decode (eb_b 253) 948 = .ok (.aload_n 2, 1) := by decide +kernel
theorem d253_949 : decode (eb_b 253) 949 = .ok (.aload_n 0, 1) := by decide +kernel
theorem d253_950 : decode (eb_b 253) 950 = .ok (.iload_n 3, 1) := by decide +kernel
theorem d253_951 : decode (eb_b 253) 951 = .ok (.iconst 1, 1) := by decide +kernel
theorem d253_952 : decode (eb_b 253) 952 = .ok (.iadd, 1) := by decide +kernel
theorem d253_953 : decode (eb_b 253) 953 = .ok (.iaload, 1) := by decide +kernel
theorem d253_954 : decode (eb_b 253) 954 = .ok (.aload_n 0, 1) := by decide +kernel
theorem d253_955 : decode (eb_b 253) 955 = .ok (.iload_n 3, 1) := by decide +kernel
theorem d253_956 : decode (eb_b 253) 956 = .ok (.iconst 2, 1) := by decide +kernel
theorem d253_957 : decode (eb_b 253) 957 = .ok (.iadd, 1) := by decide +kernel
theorem d253_958 : decode (eb_b 253) 958 = .ok (.iaload, 1) := by decide +kernel
theorem d253_959 : decode (eb_b 253) 959 = .ok (.invokevirtual 101, 3) := by decide +kernel
theorem wc_189 : Cond.code (eb_y 189) (eb_b 189) (eb_ml 189) (eb_rt 189) ∈ eb_LT := eb_lt 1275 (by decide +kernel)
theorem cy_189 : (eb_y 189).cls = eb_cN (eb_rc 189) ∧ (eb_y 189).cls ≠ "java/lang/invoke/MethodHandle" ∧ (eb_y 189).cls ≠ "java/lang/invoke/VarHandle" ∧ (parseMethodDescriptor (eb_y 189).desc).map (fun d => d.parameters.length) = some 2 := by decide +kernel
theorem wi_189 : Cond.instanceMethod (eb_y 189) ∈ eb_LT := eb_lt 1273 (by decide +kernel)
theorem wse_189 : Cond.selects (eb_cN (eb_rc 189)) (eb_y 189) (eb_y 189) ∈ eb_LT := eb_lt 1274 (by decide +kernel)
theorem kV_189 {L q0 m pc : Nat} {lg : Nat → Bool} {ix : Nat} (hw : Cond.methodLink (eb_own m) ix (eb_y 189) ∈ eb_LT) (hd : decode (eb_b m) pc = .ok (.invokevirtual ix, 3)) : eb_Snd L q0 m pc lg (op_call 189 3 (pc + 3)) := sn_callV false rfl (Or.inr ⟨rfl, _, rfl⟩) (by decide) rfl (by decide) ⟨⟨hw, wi_189, wse_189⟩, wc_189⟩ cy_189 hd
theorem wm_8_101 : Cond.methodLink (eb_cN 8) 101 (eb_y 189) ∈ eb_LT := eb_lt 1272 (by decide +kernel)
theorem d253_962 : decode (eb_b 253) 962 = .ok (.if_icmp .eq 986, 3) := by decide +kernel
theorem d253_965 : decode (eb_b 253) 965 = .ok (.iconst 0, 1) := by decide +kernel
theorem d253_966 : decode (eb_b 253) 966 = .ok (.ireturn, 1) := by decide +kernel
theorem d253_967 : decode (eb_b 253) 967 = .ok (.aload_n 1, 1) := by decide +kernel
theorem d253_968 : decode (eb_b 253) 968 = .ok (.aload_n 0, 1) := by decide +kernel
theorem d253_969 : decode (eb_b 253) 969 = .ok (.iload_n 3, 1) := by decide +kernel
theorem d253_970 : decode (eb_b 253) 970 = .ok (.iconst 1, 1) := by decide +kernel
theorem d253_971 : decode (eb_b 253) 971 = .ok (.iadd, 1) := by decide +kernel
theorem d253_972 : decode (eb_b 253) 972 = .ok (.iaload, 1) := by decide +kernel
theorem d253_973 : decode (eb_b 253) 973 = .ok (.aload_n 0, 1) := by decide +kernel
theorem d253_974 : decode (eb_b 253) 974 = .ok (.iload_n 3, 1) := by decide +kernel
theorem d253_975 : decode (eb_b 253) 975 = .ok (.iconst 2, 1) := by decide +kernel
theorem d253_976 : decode (eb_b 253) 976 = .ok (.iadd, 1) := by decide +kernel
theorem d253_977 : decode (eb_b 253) 977 = .ok (.iaload, 1) := by decide +kernel
theorem d253_978 : decode (eb_b 253) 978 = .ok (.invokevirtual 102, 3) := by decide +kernel
theorem wc_88 : Cond.code (eb_y 88) (eb_b 88) (eb_ml 88) (eb_rt 88) ∈ eb_LT := eb_lt 622 (by decide +kernel)
theorem cy_88 : (eb_y 88).cls = eb_cN (eb_rc 88) ∧ (eb_y 88).cls ≠ "java/lang/invoke/MethodHandle" ∧ (eb_y 88).cls ≠ "java/lang/invoke/VarHandle" ∧ (parseMethodDescriptor (eb_y 88).desc).map (fun d => d.parameters.length) = some 2 := by decide +kernel
theorem wi_88 : Cond.instanceMethod (eb_y 88) ∈ eb_LT := eb_lt 620 (by decide +kernel)
theorem wse_88 : Cond.selects (eb_cN (eb_rc 88)) (eb_y 88) (eb_y 88) ∈ eb_LT := eb_lt 621 (by decide +kernel)
theorem kV_88 {L q0 m pc : Nat} {lg : Nat → Bool} {ix : Nat} (hw : Cond.methodLink (eb_own m) ix (eb_y 88) ∈ eb_LT) (hd : decode (eb_b m) pc = .ok (.invokevirtual ix, 3)) : eb_Snd L q0 m pc lg (op_call 88 3 (pc + 3)) := sn_callV false rfl (Or.inr ⟨rfl, _, rfl⟩) (by decide) rfl (by decide) ⟨⟨hw, wi_88, wse_88⟩, wc_88⟩ cy_88 hd
theorem wm_8_102 : Cond.methodLink (eb_cN 8) 102 (eb_y 88) ∈ eb_LT := eb_lt 619 (by decide +kernel)
theorem d253_981 : decode (eb_b 253) 981 = .ok (.aload_n 2, 1) := by decide +kernel
theorem d253_982 : decode (eb_b 253) 982 = .ok (.aload_n 0, 1) := by decide +kernel
theorem d253_983 : decode (eb_b 253) 983 = .ok (.iload_n 3, 1) := by decide +kernel
theorem d253_984 : decode (eb_b 253) 984 = .ok (.iconst 1, 1) := by decide +kernel
theorem d253_985 : decode (eb_b 253) 985 = .ok (.iadd, 1) := by decide +kernel
theorem d253_986 : decode (eb_b 253) 986 = .ok (.iaload, 1) := by decide +kernel
theorem d253_987 : decode (eb_b 253) 987 = .ok (.aload_n 0, 1) := by decide +kernel
theorem d253_988 : decode (eb_b 253) 988 = .ok (.iload_n 3, 1) := by decide +kernel
theorem d253_989 : decode (eb_b 253) 989 = .ok (.iconst 2, 1) := by decide +kernel
theorem d253_990 : decode (eb_b 253) 990 = .ok (.iadd, 1) := by decide +kernel
theorem d253_991 : decode (eb_b 253) 991 = .ok (.iaload, 1) := by decide +kernel
theorem d253_992 : decode (eb_b 253) 992 = .ok (.invokevirtual 105, 3) := by decide +kernel
theorem wc_193 : Cond.code (eb_y 193) (eb_b 193) (eb_ml 193) (eb_rt 193) ∈ eb_LT := eb_lt 1280 (by decide +kernel)
theorem cy_193 : (eb_y 193).cls = eb_cN (eb_rc 193) ∧ (eb_y 193).cls ≠ "java/lang/invoke/MethodHandle" ∧ (eb_y 193).cls ≠ "java/lang/invoke/VarHandle" ∧ (parseMethodDescriptor (eb_y 193).desc).map (fun d => d.parameters.length) = some 2 := by decide +kernel
theorem wi_193 : Cond.instanceMethod (eb_y 193) ∈ eb_LT := eb_lt 1278 (by decide +kernel)
theorem wse_193 : Cond.selects (eb_cN (eb_rc 193)) (eb_y 193) (eb_y 193) ∈ eb_LT := eb_lt 1279 (by decide +kernel)
theorem kV_193 {L q0 m pc : Nat} {lg : Nat → Bool} {ix : Nat} (hw : Cond.methodLink (eb_own m) ix (eb_y 193) ∈ eb_LT) (hd : decode (eb_b m) pc = .ok (.invokevirtual ix, 3)) : eb_Snd L q0 m pc lg (op_call 193 3 (pc + 3)) := sn_callV false rfl (Or.inr ⟨rfl, _, rfl⟩) (by decide) rfl (by decide) ⟨⟨hw, wi_193, wse_193⟩, wc_193⟩ cy_193 hd
theorem wm_8_105 : Cond.methodLink (eb_cN 8) 105 (eb_y 193) ∈ eb_LT := eb_lt 1277 (by decide +kernel)
theorem d253_995 : decode (eb_b 253) 995 = .ok (.if_icmp .eq 953, 3) := by decide +kernel
theorem d253_998 : decode (eb_b 253) 998 = .ok (.iconst 0, 1) := by decide +kernel
theorem d253_999 : decode (eb_b 253) 999 = .ok (.ireturn, 1) := by decide +kernel
theorem d253_1000 : decode (eb_b 253) 1000 = .ok (.aload_n 1, 1) := by decide +kernel
theorem d253_1001 : decode (eb_b 253) 1001 = .ok (.aload_n 0, 1) := by decide +kernel
theorem d253_1002 : decode (eb_b 253) 1002 = .ok (.iload_n 3, 1) := by decide +kernel
theorem d253_1003 : decode (eb_b 253) 1003 = .ok (.iconst 1, 1) := by decide +kernel
theorem d253_1004 : decode (eb_b 253) 1004 = .ok (.iadd, 1) := by decide +kernel
theorem d253_1005 : decode (eb_b 253) 1005 = .ok (.iaload, 1) := by decide +kernel
theorem d253_1006 : decode (eb_b 253) 1006 = .ok (.aload_n 0, 1) := by decide +kernel
theorem d253_1007 : decode (eb_b 253) 1007 = .ok (.iload_n 3, 1) := by decide +kernel
theorem d253_1008 : decode (eb_b 253) 1008 = .ok (.iconst 2, 1) := by decide +kernel
theorem d253_1009 : decode (eb_b 253) 1009 = .ok (.iadd, 1) := by decide +kernel
theorem d253_1010 : decode (eb_b 253) 1010 = .ok (.iaload, 1) := by decide +kernel
theorem d253_1011 : decode (eb_b 253) 1011 = .ok (.invokevirtual 106, 3) := by decide +kernel
theorem wc_89 : Cond.code (eb_y 89) (eb_b 89) (eb_ml 89) (eb_rt 89) ∈ eb_LT := eb_lt 632 (by decide +kernel)
theorem cy_89 : (eb_y 89).cls = eb_cN (eb_rc 89) ∧ (eb_y 89).cls ≠ "java/lang/invoke/MethodHandle" ∧ (eb_y 89).cls ≠ "java/lang/invoke/VarHandle" ∧ (parseMethodDescriptor (eb_y 89).desc).map (fun d => d.parameters.length) = some 2 := by decide +kernel
theorem wi_89 : Cond.instanceMethod (eb_y 89) ∈ eb_LT := eb_lt 630 (by decide +kernel)
theorem wse_89 : Cond.selects (eb_cN (eb_rc 89)) (eb_y 89) (eb_y 89) ∈ eb_LT := eb_lt 631 (by decide +kernel)
theorem kV_89 {L q0 m pc : Nat} {lg : Nat → Bool} {ix : Nat} (hw : Cond.methodLink (eb_own m) ix (eb_y 89) ∈ eb_LT) (hd : decode (eb_b m) pc = .ok (.invokevirtual ix, 3)) : eb_Snd L q0 m pc lg (op_call 89 3 (pc + 3)) := sn_callV false rfl (Or.inr ⟨rfl, _, rfl⟩) (by decide) rfl (by decide) ⟨⟨hw, wi_89, wse_89⟩, wc_89⟩ cy_89 hd
theorem wm_8_106 : Cond.methodLink (eb_cN 8) 106 (eb_y 89) ∈ eb_LT := eb_lt 629 (by decide +kernel)
theorem d253_1014 : decode (eb_b 253) 1014 = .ok (.aload_n 2, 1) := by decide +kernel
theorem d253_1015 : decode (eb_b 253) 1015 = .ok (.aload_n 0, 1) := by decide +kernel
theorem d253_1016 : decode (eb_b 253) 1016 = .ok (.iload_n 3, 1) := by decide +kernel
theorem d253_1017 : decode (eb_b 253) 1017 = .ok (.iconst 1, 1) := by decide +kernel
theorem d253_1018 : decode (eb_b 253) 1018 = .ok (.iadd, 1) := by decide +kernel
theorem d253_1019 : decode (eb_b 253) 1019 = .ok (.iaload, 1) := by decide +kernel
theorem d253_1020 : decode (eb_b 253) 1020 = .ok (.aload_n 0, 1) := by decide +kernel
theorem d253_1021 : decode (eb_b 253) 1021 = .ok (.iload_n 3, 1) := by decide +kernel
theorem d253_1022 : decode (eb_b 253) 1022 = .ok (.iconst 2, 1) := by decide +kernel
theorem d253_1023 : decode (eb_b 253) 1023 = .ok (.iadd, 1) := by decide +kernel
theorem d253_1024 : decode (eb_b 253) 1024 = .ok (.iaload, 1) := by decide +kernel
theorem d253_1025 : decode (eb_b 253) 1025 = .ok (.invokevirtual 109, 3) := by decide +kernel
theorem wc_199 : Cond.code (eb_y 199) (eb_b 199) (eb_ml 199) (eb_rt 199) ∈ eb_LT := eb_lt 1285 (by decide +kernel)
theorem cy_199 : (eb_y 199).cls = eb_cN (eb_rc 199) ∧ (eb_y 199).cls ≠ "java/lang/invoke/MethodHandle" ∧ (eb_y 199).cls ≠ "java/lang/invoke/VarHandle" ∧ (parseMethodDescriptor (eb_y 199).desc).map (fun d => d.parameters.length) = some 2 := by decide +kernel
theorem wi_199 : Cond.instanceMethod (eb_y 199) ∈ eb_LT := eb_lt 1283 (by decide +kernel)
theorem wse_199 : Cond.selects (eb_cN (eb_rc 199)) (eb_y 199) (eb_y 199) ∈ eb_LT := eb_lt 1284 (by decide +kernel)
theorem kV_199 {L q0 m pc : Nat} {lg : Nat → Bool} {ix : Nat} (hw : Cond.methodLink (eb_own m) ix (eb_y 199) ∈ eb_LT) (hd : decode (eb_b m) pc = .ok (.invokevirtual ix, 3)) : eb_Snd L q0 m pc lg (op_call 199 3 (pc + 3)) := sn_callV false rfl (Or.inr ⟨rfl, _, rfl⟩) (by decide) rfl (by decide) ⟨⟨hw, wi_199, wse_199⟩, wc_199⟩ cy_199 hd
theorem wm_8_109 : Cond.methodLink (eb_cN 8) 109 (eb_y 199) ∈ eb_LT := eb_lt 1282 (by decide +kernel)
theorem d253_1028 : decode (eb_b 253) 1028 = .ok (.if_icmp .eq 920, 3) := by decide +kernel
theorem d253_1031 : decode (eb_b 253) 1031 = .ok (.iconst 0, 1) := by decide +kernel
theorem d253_1032 : decode (eb_b 253) 1032 = .ok (.ireturn, 1) := by decide +kernel
theorem d253_1033 : decode (eb_b 253) 1033 = .ok (.aload_n 1, 1) := by decide +kernel
theorem d253_1034 : decode (eb_b 253) 1034 = .ok (.aload_n 0, 1) := by decide +kernel
theorem d253_1035 : decode (eb_b 253) 1035 = .ok (.iload_n 3, 1) := by decide +kernel
theorem d253_1036 : decode (eb_b 253) 1036 = .ok (.iconst 1, 1) := by decide +kernel
theorem d253_1037 : decode (eb_b 253) 1037 = .ok (.iadd, 1) := by decide +kernel
theorem d253_1038 : decode (eb_b 253) 1038 = .ok (.iaload, 1) := by decide +kernel
theorem d253_1039 : decode (eb_b 253) 1039 = .ok (.invokevirtual 110, 3) := by decide +kernel
theorem wc_90 : Cond.code (eb_y 90) (eb_b 90) (eb_ml 90) (eb_rt 90) ∈ eb_LT := eb_lt 680 (by decide +kernel)
theorem cy_90 : (eb_y 90).cls = eb_cN (eb_rc 90) ∧ (eb_y 90).cls ≠ "java/lang/invoke/MethodHandle" ∧ (eb_y 90).cls ≠ "java/lang/invoke/VarHandle" ∧ (parseMethodDescriptor (eb_y 90).desc).map (fun d => d.parameters.length) = some 1 := by decide +kernel
theorem wi_90 : Cond.instanceMethod (eb_y 90) ∈ eb_LT := eb_lt 678 (by decide +kernel)
theorem wse_90 : Cond.selects (eb_cN (eb_rc 90)) (eb_y 90) (eb_y 90) ∈ eb_LT := eb_lt 679 (by decide +kernel)
theorem kV_90 {L q0 m pc : Nat} {lg : Nat → Bool} {ix : Nat} (hw : Cond.methodLink (eb_own m) ix (eb_y 90) ∈ eb_LT) (hd : decode (eb_b m) pc = .ok (.invokevirtual ix, 3)) : eb_Snd L q0 m pc lg (op_call 90 2 (pc + 3)) := sn_callV false rfl (Or.inr ⟨rfl, _, rfl⟩) (by decide) rfl (by decide) ⟨⟨hw, wi_90, wse_90⟩, wc_90⟩ cy_90 hd
theorem wm_8_110 : Cond.methodLink (eb_cN 8) 110 (eb_y 90) ∈ eb_LT := eb_lt 677 (by decide +kernel)
theorem d253_1042 : decode (eb_b 253) 1042 = .ok (.aload_n 2, 1) := by decide +kernel
theorem d253_1043 : decode (eb_b 253) 1043 = .ok (.aload_n 0, 1) := by decide +kernel
theorem d253_1044 : decode (eb_b 253) 1044 = .ok (.iload_n 3, 1) := by decide +kernel
theorem d253_1045 : decode (eb_b 253) 1045 = .ok (.iconst 1, 1) := by decide +kernel
theorem d253_1046 : decode (eb_b 253) 1046 = .ok (.iadd, 1) := by decide +kernel
theorem d253_1047 : decode (eb_b 253) 1047 = .ok (.iaload, 1) := by decide +kernel
theorem d253_1048 : decode (eb_b 253) 1048 = .ok (.invokevirtual 113, 3) := by decide +kernel
theorem wc_200 : Cond.code (eb_y 200) (eb_b 200) (eb_ml 200) (eb_rt 200) ∈ eb_LT := eb_lt 1301 (by decide +kernel)
theorem cy_200 : (eb_y 200).cls = eb_cN (eb_rc 200) ∧ (eb_y 200).cls ≠ "java/lang/invoke/MethodHandle" ∧ (eb_y 200).cls ≠ "java/lang/invoke/VarHandle" ∧ (parseMethodDescriptor (eb_y 200).desc).map (fun d => d.parameters.length) = some 1 := by decide +kernel
theorem wi_200 : Cond.instanceMethod (eb_y 200) ∈ eb_LT := eb_lt 1299 (by decide +kernel)
theorem wse_200 : Cond.selects (eb_cN (eb_rc 200)) (eb_y 200) (eb_y 200) ∈ eb_LT := eb_lt 1300 (by decide +kernel)
theorem kV_200 {L q0 m pc : Nat} {lg : Nat → Bool} {ix : Nat} (hw : Cond.methodLink (eb_own m) ix (eb_y 200) ∈ eb_LT) (hd : decode (eb_b m) pc = .ok (.invokevirtual ix, 3)) : eb_Snd L q0 m pc lg (op_call 200 2 (pc + 3)) := sn_callV false rfl (Or.inr ⟨rfl, _, rfl⟩) (by decide) rfl (by decide) ⟨⟨hw, wi_200, wse_200⟩, wc_200⟩ cy_200 hd
theorem wm_8_113 : Cond.methodLink (eb_cN 8) 113 (eb_y 200) ∈ eb_LT := eb_lt 1298 (by decide +kernel)
theorem d253_1051 : decode (eb_b 253) 1051 = .ok (.if_icmp .eq 897, 3) := by decide +kernel
theorem d253_1054 : decode (eb_b 253) 1054 = .ok (.iconst 0, 1) := by decide +kernel
theorem d253_1055 : decode (eb_b 253) 1055 = .ok (.ireturn, 1) := by decide +kernel
theorem d253_1056 : decode (eb_b 253) 1056 = .ok (.aload_n 1, 1) := by decide +kernel
theorem d253_1057 : decode (eb_b 253) 1057 = .ok (.aload_n 0, 1) := by decide +kernel
theorem d253_1058 : decode (eb_b 253) 1058 = .ok (.iload_n 3, 1) := by decide +kernel
theorem d253_1059 : decode (eb_b 253) 1059 = .ok (.iconst 1, 1) := by decide +kernel
theorem d253_1060 : decode (eb_b 253) 1060 = .ok (.iadd, 1) := by decide +kernel
theorem d253_1061 : decode (eb_b 253) 1061 = .ok (.iaload, 1) := by decide +kernel
theorem d253_1062 : decode (eb_b 253) 1062 = .ok (.invokevirtual 114, 3) := by decide +kernel
theorem wc_91 : Cond.code (eb_y 91) (eb_b 91) (eb_ml 91) (eb_rt 91) ∈ eb_LT := eb_lt 684 (by decide +kernel)
theorem cy_91 : (eb_y 91).cls = eb_cN (eb_rc 91) ∧ (eb_y 91).cls ≠ "java/lang/invoke/MethodHandle" ∧ (eb_y 91).cls ≠ "java/lang/invoke/VarHandle" ∧ (parseMethodDescriptor (eb_y 91).desc).map (fun d => d.parameters.length) = some 1 := by decide +kernel
theorem wi_91 : Cond.instanceMethod (eb_y 91) ∈ eb_LT := eb_lt 682 (by decide +kernel)
theorem wse_91 : Cond.selects (eb_cN (eb_rc 91)) (eb_y 91) (eb_y 91) ∈ eb_LT := eb_lt 683 (by decide +kernel)
theorem kV_91 {L q0 m pc : Nat} {lg : Nat → Bool} {ix : Nat} (hw : Cond.methodLink (eb_own m) ix (eb_y 91) ∈ eb_LT) (hd : decode (eb_b m) pc = .ok (.invokevirtual ix, 3)) : eb_Snd L q0 m pc lg (op_call 91 2 (pc + 3)) := sn_callV false rfl (Or.inr ⟨rfl, _, rfl⟩) (by decide) rfl (by decide) ⟨⟨hw, wi_91, wse_91⟩, wc_91⟩ cy_91 hd
theorem wm_8_114 : Cond.methodLink (eb_cN 8) 114 (eb_y 91) ∈ eb_LT := eb_lt 681 (by decide +kernel)
theorem d253_1065 : decode (eb_b 253) 1065 = .ok (.aload_n 2, 1) := by decide +kernel
theorem d253_1066 : decode (eb_b 253) 1066 = .ok (.aload_n 0, 1) := by decide +kernel
theorem d253_1067 : decode (eb_b 253) 1067 = .ok (.iload_n 3, 1) := by decide +kernel
theorem d253_1068 : decode (eb_b 253) 1068 = .ok (.iconst 1, 1) := by decide +kernel
theorem d253_1069 : decode (eb_b 253) 1069 = .ok (.iadd, 1) := by decide +kernel
theorem d253_1070 : decode (eb_b 253) 1070 = .ok (.iaload, 1) := by decide +kernel
theorem d253_1071 : decode (eb_b 253) 1071 = .ok (.invokevirtual 117, 3) := by decide +kernel
theorem wc_201 : Cond.code (eb_y 201) (eb_b 201) (eb_ml 201) (eb_rt 201) ∈ eb_LT := eb_lt 1309 (by decide +kernel)
theorem cy_201 : (eb_y 201).cls = eb_cN (eb_rc 201) ∧ (eb_y 201).cls ≠ "java/lang/invoke/MethodHandle" ∧ (eb_y 201).cls ≠ "java/lang/invoke/VarHandle" ∧ (parseMethodDescriptor (eb_y 201).desc).map (fun d => d.parameters.length) = some 1 := by decide +kernel
theorem wi_201 : Cond.instanceMethod (eb_y 201) ∈ eb_LT := eb_lt 1307 (by decide +kernel)
theorem wse_201 : Cond.selects (eb_cN (eb_rc 201)) (eb_y 201) (eb_y 201) ∈ eb_LT := eb_lt 1308 (by decide +kernel)
theorem kV_201 {L q0 m pc : Nat} {lg : Nat → Bool} {ix : Nat} (hw : Cond.methodLink (eb_own m) ix (eb_y 201) ∈ eb_LT) (hd : decode (eb_b m) pc = .ok (.invokevirtual ix, 3)) : eb_Snd L q0 m pc lg (op_call 201 2 (pc + 3)) := sn_callV false rfl (Or.inr ⟨rfl, _, rfl⟩) (by decide) rfl (by decide) ⟨⟨hw, wi_201, wse_201⟩, wc_201⟩ cy_201 hd
theorem wm_8_117 : Cond.methodLink (eb_cN 8) 117 (eb_y 201) ∈ eb_LT := eb_lt 1306 (by decide +kernel)
theorem d253_1074 : decode (eb_b 253) 1074 = .ok (.if_icmp .eq 874, 3) := by decide +kernel
theorem d253_1077 : decode (eb_b 253) 1077 = .ok (.iconst 0, 1) := by decide +kernel
theorem d253_1078 : decode (eb_b 253) 1078 = .ok (.ireturn, 1) := by decide +kernel
theorem d253_1079 : decode (eb_b 253) 1079 = .ok (.aload_n 1, 1) := by decide +kernel
theorem d253_1080 : decode (eb_b 253) 1080 = .ok (.invokevirtual 118, 3) := by decide +kernel
theorem wc_92 : Cond.code (eb_y 92) (eb_b 92) (eb_ml 92) (eb_rt 92) ∈ eb_LT := eb_lt 692 (by decide +kernel)
theorem cy_92 : (eb_y 92).cls = eb_cN (eb_rc 92) ∧ (eb_y 92).cls ≠ "java/lang/invoke/MethodHandle" ∧ (eb_y 92).cls ≠ "java/lang/invoke/VarHandle" ∧ (parseMethodDescriptor (eb_y 92).desc).map (fun d => d.parameters.length) = some 0 := by decide +kernel
theorem wi_92 : Cond.instanceMethod (eb_y 92) ∈ eb_LT := eb_lt 690 (by decide +kernel)
theorem wse_92 : Cond.selects (eb_cN (eb_rc 92)) (eb_y 92) (eb_y 92) ∈ eb_LT := eb_lt 691 (by decide +kernel)
theorem kV_92 {L q0 m pc : Nat} {lg : Nat → Bool} {ix : Nat} (hw : Cond.methodLink (eb_own m) ix (eb_y 92) ∈ eb_LT) (hd : decode (eb_b m) pc = .ok (.invokevirtual ix, 3)) : eb_Snd L q0 m pc lg (op_call 92 1 (pc + 3)) := sn_callV false rfl (Or.inr ⟨rfl, _, rfl⟩) (by decide) rfl (by decide) ⟨⟨hw, wi_92, wse_92⟩, wc_92⟩ cy_92 hd
theorem wm_8_118 : Cond.methodLink (eb_cN 8) 118 (eb_y 92) ∈ eb_LT := eb_lt 689 (by decide +kernel)
theorem d253_1083 : decode (eb_b 253) 1083 = .ok (.aload_n 2, 1) := by decide +kernel
theorem d253_1084 : decode (eb_b 253) 1084 = .ok (.invokevirtual 121, 3) := by decide +kernel
theorem wc_202 : Cond.code (eb_y 202) (eb_b 202) (eb_ml 202) (eb_rt 202) ∈ eb_LT := eb_lt 1313 (by decide +kernel)
theorem cy_202 : (eb_y 202).cls = eb_cN (eb_rc 202) ∧ (eb_y 202).cls ≠ "java/lang/invoke/MethodHandle" ∧ (eb_y 202).cls ≠ "java/lang/invoke/VarHandle" ∧ (parseMethodDescriptor (eb_y 202).desc).map (fun d => d.parameters.length) = some 0 := by decide +kernel
theorem wi_202 : Cond.instanceMethod (eb_y 202) ∈ eb_LT := eb_lt 1311 (by decide +kernel)
theorem wse_202 : Cond.selects (eb_cN (eb_rc 202)) (eb_y 202) (eb_y 202) ∈ eb_LT := eb_lt 1312 (by decide +kernel)
theorem kV_202 {L q0 m pc : Nat} {lg : Nat → Bool} {ix : Nat} (hw : Cond.methodLink (eb_own m) ix (eb_y 202) ∈ eb_LT) (hd : decode (eb_b m) pc = .ok (.invokevirtual ix, 3)) : eb_Snd L q0 m pc lg (op_call 202 1 (pc + 3)) := sn_callV false rfl (Or.inr ⟨rfl, _, rfl⟩) (by decide) rfl (by decide) ⟨⟨hw, wi_202, wse_202⟩, wc_202⟩ cy_202 hd
theorem wm_8_121 : Cond.methodLink (eb_cN 8) 121 (eb_y 202) ∈ eb_LT := eb_lt 1310 (by decide +kernel)
theorem d253_1087 : decode (eb_b 253) 1087 = .ok (.if_icmp .eq 861, 3) := by decide +kernel
theorem d253_1090 : decode (eb_b 253) 1090 = .ok (.iconst 0, 1) := by decide +kernel
theorem d253_1091 : decode (eb_b 253) 1091 = .ok (.ireturn, 1) := by decide +kernel
theorem d253_1092 : decode (eb_b 253) 1092 = .ok (.aload_n 1, 1) := by decide +kernel
theorem d253_1093 : decode (eb_b 253) 1093 = .ok (.aload_n 0, 1) := by decide +kernel
theorem d253_1094 : decode (eb_b 253) 1094 = .ok (.iload_n 3, 1) := by decide +kernel
theorem d253_1095 : decode (eb_b 253) 1095 = .ok (.iconst 1, 1) := by decide +kernel
theorem d253_1096 : decode (eb_b 253) 1096 = .ok (.iadd, 1) := by decide +kernel
theorem d253_1097 : decode (eb_b 253) 1097 = .ok (.iaload, 1) := by decide +kernel
theorem d253_1098 : decode (eb_b 253) 1098 = .ok (.invokevirtual 122, 3) := by decide +kernel
theorem wc_93 : Cond.code (eb_y 93) (eb_b 93) (eb_ml 93) (eb_rt 93) ∈ eb_LT := eb_lt 700 (by decide +kernel)
theorem cy_93 : (eb_y 93).cls = eb_cN (eb_rc 93) ∧ (eb_y 93).cls ≠ "java/lang/invoke/MethodHandle" ∧ (eb_y 93).cls ≠ "java/lang/invoke/VarHandle" ∧ (parseMethodDescriptor (eb_y 93).desc).map (fun d => d.parameters.length) = some 1 := by decide +kernel
theorem wi_93 : Cond.instanceMethod (eb_y 93) ∈ eb_LT := eb_lt 698 (by decide +kernel)
theorem wse_93 : Cond.selects (eb_cN (eb_rc 93)) (eb_y 93) (eb_y 93) ∈ eb_LT := eb_lt 699 (by decide +kernel)
theorem kV_93 {L q0 m pc : Nat} {lg : Nat → Bool} {ix : Nat} (hw : Cond.methodLink (eb_own m) ix (eb_y 93) ∈ eb_LT) (hd : decode (eb_b m) pc = .ok (.invokevirtual ix, 3)) : eb_Snd L q0 m pc lg (op_call 93 2 (pc + 3)) := sn_callV false rfl (Or.inr ⟨rfl, _, rfl⟩) (by decide) rfl (by decide) ⟨⟨hw, wi_93, wse_93⟩, wc_93⟩ cy_93 hd
theorem wm_8_122 : Cond.methodLink (eb_cN 8) 122 (eb_y 93) ∈ eb_LT := eb_lt 697 (by decide +kernel)
theorem d253_1101 : decode (eb_b 253) 1101 = .ok (.aload_n 2, 1) := by decide +kernel
theorem d253_1102 : decode (eb_b 253) 1102 = .ok (.aload_n 0, 1) := by decide +kernel
theorem d253_1103 : decode (eb_b 253) 1103 = .ok (.iload_n 3, 1) := by decide +kernel
theorem d253_1104 : decode (eb_b 253) 1104 = .ok (.iconst 1, 1) := by decide +kernel
theorem d253_1105 : decode (eb_b 253) 1105 = .ok (.iadd, 1) := by decide +kernel
theorem d253_1106 : decode (eb_b 253) 1106 = .ok (.iaload, 1) := by decide +kernel
theorem d253_1107 : decode (eb_b 253) 1107 = .ok (.invokevirtual 125, 3) := by decide +kernel
theorem wc_205 : Cond.code (eb_y 205) (eb_b 205) (eb_ml 205) (eb_rt 205) ∈ eb_LT := eb_lt 1317 (by decide +kernel)
theorem cy_205 : (eb_y 205).cls = eb_cN (eb_rc 205) ∧ (eb_y 205).cls ≠ "java/lang/invoke/MethodHandle" ∧ (eb_y 205).cls ≠ "java/lang/invoke/VarHandle" ∧ (parseMethodDescriptor (eb_y 205).desc).map (fun d => d.parameters.length) = some 1 := by decide +kernel
theorem wi_205 : Cond.instanceMethod (eb_y 205) ∈ eb_LT := eb_lt 1315 (by decide +kernel)
theorem wse_205 : Cond.selects (eb_cN (eb_rc 205)) (eb_y 205) (eb_y 205) ∈ eb_LT := eb_lt 1316 (by decide +kernel)
theorem kV_205 {L q0 m pc : Nat} {lg : Nat → Bool} {ix : Nat} (hw : Cond.methodLink (eb_own m) ix (eb_y 205) ∈ eb_LT) (hd : decode (eb_b m) pc = .ok (.invokevirtual ix, 3)) : eb_Snd L q0 m pc lg (op_call 205 2 (pc + 3)) := sn_callV false rfl (Or.inr ⟨rfl, _, rfl⟩) (by decide) rfl (by decide) ⟨⟨hw, wi_205, wse_205⟩, wc_205⟩ cy_205 hd
theorem wm_8_125 : Cond.methodLink (eb_cN 8) 125 (eb_y 205) ∈ eb_LT := eb_lt 1314 (by decide +kernel)
theorem d253_1110 : decode (eb_b 253) 1110 = .ok (.if_icmp .eq 838, 3) := by decide +kernel
theorem d253_1113 : decode (eb_b 253) 1113 = .ok (.iconst 0, 1) := by decide +kernel
theorem d253_1114 : decode (eb_b 253) 1114 = .ok (.ireturn, 1) := by decide +kernel
theorem d253_1115 : decode (eb_b 253) 1115 = .ok (.aload_n 1, 1) := by decide +kernel
theorem d253_1116 : decode (eb_b 253) 1116 = .ok (.aload_n 0, 1) := by decide +kernel
theorem d253_1117 : decode (eb_b 253) 1117 = .ok (.iload_n 3, 1) := by decide +kernel
theorem d253_1118 : decode (eb_b 253) 1118 = .ok (.iconst 1, 1) := by decide +kernel
theorem d253_1119 : decode (eb_b 253) 1119 = .ok (.iadd, 1) := by decide +kernel
theorem d253_1120 : decode (eb_b 253) 1120 = .ok (.iaload, 1) := by decide +kernel
theorem d253_1121 : decode (eb_b 253) 1121 = .ok (.invokevirtual 126, 3) := by decide +kernel
theorem wc_94 : Cond.code (eb_y 94) (eb_b 94) (eb_ml 94) (eb_rt 94) ∈ eb_LT := eb_lt 718 (by decide +kernel)
theorem cy_94 : (eb_y 94).cls = eb_cN (eb_rc 94) ∧ (eb_y 94).cls ≠ "java/lang/invoke/MethodHandle" ∧ (eb_y 94).cls ≠ "java/lang/invoke/VarHandle" ∧ (parseMethodDescriptor (eb_y 94).desc).map (fun d => d.parameters.length) = some 1 := by decide +kernel
theorem wi_94 : Cond.instanceMethod (eb_y 94) ∈ eb_LT := eb_lt 716 (by decide +kernel)
theorem wse_94 : Cond.selects (eb_cN (eb_rc 94)) (eb_y 94) (eb_y 94) ∈ eb_LT := eb_lt 717 (by decide +kernel)
theorem kV_94 {L q0 m pc : Nat} {lg : Nat → Bool} {ix : Nat} (hw : Cond.methodLink (eb_own m) ix (eb_y 94) ∈ eb_LT) (hd : decode (eb_b m) pc = .ok (.invokevirtual ix, 3)) : eb_Snd L q0 m pc lg (op_call 94 2 (pc + 3)) := sn_callV false rfl (Or.inr ⟨rfl, _, rfl⟩) (by decide) rfl (by decide) ⟨⟨hw, wi_94, wse_94⟩, wc_94⟩ cy_94 hd
theorem wm_8_126 : Cond.methodLink (eb_cN 8) 126 (eb_y 94) ∈ eb_LT := eb_lt 715 (by decide +kernel)
theorem d253_1124 : decode (eb_b 253) 1124 = .ok (.aload_n 2, 1) := by decide +kernel
theorem d253_1125 : decode (eb_b 253) 1125 = .ok (.aload_n 0, 1) := by decide +kernel
theorem d253_1126 : decode (eb_b 253) 1126 = .ok (.iload_n 3, 1) := by decide +kernel
theorem d253_1127 : decode (eb_b 253) 1127 = .ok (.iconst 1, 1) := by decide +kernel
theorem d253_1128 : decode (eb_b 253) 1128 = .ok (.iadd, 1) := by decide +kernel
theorem d253_1129 : decode (eb_b 253) 1129 = .ok (.iaload, 1) := by decide +kernel
theorem d253_1130 : decode (eb_b 253) 1130 = .ok (.invokevirtual 129, 3) := by decide +kernel
theorem wc_206 : Cond.code (eb_y 206) (eb_b 206) (eb_ml 206) (eb_rt 206) ∈ eb_LT := eb_lt 1329 (by decide +kernel)
theorem cy_206 : (eb_y 206).cls = eb_cN (eb_rc 206) ∧ (eb_y 206).cls ≠ "java/lang/invoke/MethodHandle" ∧ (eb_y 206).cls ≠ "java/lang/invoke/VarHandle" ∧ (parseMethodDescriptor (eb_y 206).desc).map (fun d => d.parameters.length) = some 1 := by decide +kernel
theorem wi_206 : Cond.instanceMethod (eb_y 206) ∈ eb_LT := eb_lt 1327 (by decide +kernel)
theorem wse_206 : Cond.selects (eb_cN (eb_rc 206)) (eb_y 206) (eb_y 206) ∈ eb_LT := eb_lt 1328 (by decide +kernel)
theorem kV_206 {L q0 m pc : Nat} {lg : Nat → Bool} {ix : Nat} (hw : Cond.methodLink (eb_own m) ix (eb_y 206) ∈ eb_LT) (hd : decode (eb_b m) pc = .ok (.invokevirtual ix, 3)) : eb_Snd L q0 m pc lg (op_call 206 2 (pc + 3)) := sn_callV false rfl (Or.inr ⟨rfl, _, rfl⟩) (by decide) rfl (by decide) ⟨⟨hw, wi_206, wse_206⟩, wc_206⟩ cy_206 hd
theorem wm_8_129 : Cond.methodLink (eb_cN 8) 129 (eb_y 206) ∈ eb_LT := eb_lt 1326 (by decide +kernel)
theorem d253_1133 : decode (eb_b 253) 1133 = .ok (.if_icmp .eq 815, 3) := by decide +kernel
theorem d253_1136 : decode (eb_b 253) 1136 = .ok (.iconst 0, 1) := by decide +kernel
theorem d253_1137 : decode (eb_b 253) 1137 = .ok (.ireturn, 1) := by decide +kernel
theorem d253_1138 : decode (eb_b 253) 1138 = .ok (.aload_n 1, 1) := by decide +kernel
theorem d253_1139 : decode (eb_b 253) 1139 = .ok (.aload_n 0, 1) := by decide +kernel
theorem d253_1140 : decode (eb_b 253) 1140 = .ok (.iload_n 3, 1) := by decide +kernel
theorem d253_1141 : decode (eb_b 253) 1141 = .ok (.iconst 1, 1) := by decide +kernel
theorem d253_1142 : decode (eb_b 253) 1142 = .ok (.iadd, 1) := by decide +kernel
theorem d253_1143 : decode (eb_b 253) 1143 = .ok (.iaload, 1) := by decide +kernel
theorem d253_1144 : decode (eb_b 253) 1144 = .ok (.invokevirtual 130, 3) := by decide +kernel
theorem wc_95 : Cond.code (eb_y 95) (eb_b 95) (eb_ml 95) (eb_rt 95) ∈ eb_LT := eb_lt 726 (by decide +kernel)
theorem cy_95 : (eb_y 95).cls = eb_cN (eb_rc 95) ∧ (eb_y 95).cls ≠ "java/lang/invoke/MethodHandle" ∧ (eb_y 95).cls ≠ "java/lang/invoke/VarHandle" ∧ (parseMethodDescriptor (eb_y 95).desc).map (fun d => d.parameters.length) = some 1 := by decide +kernel
theorem wi_95 : Cond.instanceMethod (eb_y 95) ∈ eb_LT := eb_lt 724 (by decide +kernel)
theorem wse_95 : Cond.selects (eb_cN (eb_rc 95)) (eb_y 95) (eb_y 95) ∈ eb_LT := eb_lt 725 (by decide +kernel)
theorem kV_95 {L q0 m pc : Nat} {lg : Nat → Bool} {ix : Nat} (hw : Cond.methodLink (eb_own m) ix (eb_y 95) ∈ eb_LT) (hd : decode (eb_b m) pc = .ok (.invokevirtual ix, 3)) : eb_Snd L q0 m pc lg (op_call 95 2 (pc + 3)) := sn_callV false rfl (Or.inr ⟨rfl, _, rfl⟩) (by decide) rfl (by decide) ⟨⟨hw, wi_95, wse_95⟩, wc_95⟩ cy_95 hd
theorem wm_8_130 : Cond.methodLink (eb_cN 8) 130 (eb_y 95) ∈ eb_LT := eb_lt 723 (by decide +kernel)
theorem d253_1147 : decode (eb_b 253) 1147 = .ok (.aload_n 2, 1) := by decide +kernel
theorem d253_1148 : decode (eb_b 253) 1148 = .ok (.aload_n 0, 1) := by decide +kernel
theorem d253_1149 : decode (eb_b 253) 1149 = .ok (.iload_n 3, 1) := by decide +kernel
theorem d253_1150 : decode (eb_b 253) 1150 = .ok (.iconst 1, 1) := by decide +kernel
theorem d253_1151 : decode (eb_b 253) 1151 = .ok (.iadd, 1) := by decide +kernel
theorem d253_1152 : decode (eb_b 253) 1152 = .ok (.iaload, 1) := by decide +kernel
theorem d253_1153 : decode (eb_b 253) 1153 = .ok (.invokevirtual 133, 3) := by decide +kernel
theorem wc_208 : Cond.code (eb_y 208) (eb_b 208) (eb_ml 208) (eb_rt 208) ∈ eb_LT := eb_lt 1333 (by decide +kernel)
theorem cy_208 : (eb_y 208).cls = eb_cN (eb_rc 208) ∧ (eb_y 208).cls ≠ "java/lang/invoke/MethodHandle" ∧ (eb_y 208).cls ≠ "java/lang/invoke/VarHandle" ∧ (parseMethodDescriptor (eb_y 208).desc).map (fun d => d.parameters.length) = some 1 := by decide +kernel
theorem wi_208 : Cond.instanceMethod (eb_y 208) ∈ eb_LT := eb_lt 1331 (by decide +kernel)
theorem wse_208 : Cond.selects (eb_cN (eb_rc 208)) (eb_y 208) (eb_y 208) ∈ eb_LT := eb_lt 1332 (by decide +kernel)
theorem kV_208 {L q0 m pc : Nat} {lg : Nat → Bool} {ix : Nat} (hw : Cond.methodLink (eb_own m) ix (eb_y 208) ∈ eb_LT) (hd : decode (eb_b m) pc = .ok (.invokevirtual ix, 3)) : eb_Snd L q0 m pc lg (op_call 208 2 (pc + 3)) := sn_callV false rfl (Or.inr ⟨rfl, _, rfl⟩) (by decide) rfl (by decide) ⟨⟨hw, wi_208, wse_208⟩, wc_208⟩ cy_208 hd
theorem wm_8_133 : Cond.methodLink (eb_cN 8) 133 (eb_y 208) ∈ eb_LT := eb_lt 1330 (by decide +kernel)
theorem d253_1156 : decode (eb_b 253) 1156 = .ok (.if_icmp .eq 792, 3) := by decide +kernel
theorem d253_1159 : decode (eb_b 253) 1159 = .ok (.iconst 0, 1) := by decide +kernel
theorem d253_1160 : decode (eb_b 253) 1160 = .ok (.ireturn, 1) := by decide +kernel
theorem d253_1161 : decode (eb_b 253) 1161 = .ok (.aload_n 1, 1) := by decide +kernel
theorem d253_1162 : decode (eb_b 253) 1162 = .ok (.aload_n 0, 1) := by decide +kernel
theorem d253_1163 : decode (eb_b 253) 1163 = .ok (.iload_n 3, 1) := by decide +kernel
theorem d253_1164 : decode (eb_b 253) 1164 = .ok (.iconst 1, 1) := by decide +kernel
theorem d253_1165 : decode (eb_b 253) 1165 = .ok (.iadd, 1) := by decide +kernel
theorem d253_1166 : decode (eb_b 253) 1166 = .ok (.iaload, 1) := by decide +kernel
theorem d253_1167 : decode (eb_b 253) 1167 = .ok (.invokevirtual 134, 3) := by decide +kernel
theorem wc_96 : Cond.code (eb_y 96) (eb_b 96) (eb_ml 96) (eb_rt 96) ∈ eb_LT := eb_lt 736 (by decide +kernel)
theorem cy_96 : (eb_y 96).cls = eb_cN (eb_rc 96) ∧ (eb_y 96).cls ≠ "java/lang/invoke/MethodHandle" ∧ (eb_y 96).cls ≠ "java/lang/invoke/VarHandle" ∧ (parseMethodDescriptor (eb_y 96).desc).map (fun d => d.parameters.length) = some 1 := by decide +kernel
theorem wi_96 : Cond.instanceMethod (eb_y 96) ∈ eb_LT := eb_lt 734 (by decide +kernel)
theorem wse_96 : Cond.selects (eb_cN (eb_rc 96)) (eb_y 96) (eb_y 96) ∈ eb_LT := eb_lt 735 (by decide +kernel)
theorem kV_96 {L q0 m pc : Nat} {lg : Nat → Bool} {ix : Nat} (hw : Cond.methodLink (eb_own m) ix (eb_y 96) ∈ eb_LT) (hd : decode (eb_b m) pc = .ok (.invokevirtual ix, 3)) : eb_Snd L q0 m pc lg (op_call 96 2 (pc + 3)) := sn_callV false rfl (Or.inr ⟨rfl, _, rfl⟩) (by decide) rfl (by decide) ⟨⟨hw, wi_96, wse_96⟩, wc_96⟩ cy_96 hd
theorem wm_8_134 : Cond.methodLink (eb_cN 8) 134 (eb_y 96) ∈ eb_LT := eb_lt 733 (by decide +kernel)
theorem d253_1170 : decode (eb_b 253) 1170 = .ok (.aload_n 2, 1) := by decide +kernel
theorem d253_1171 : decode (eb_b 253) 1171 = .ok (.aload_n 0, 1) := by decide +kernel
theorem d253_1172 : decode (eb_b 253) 1172 = .ok (.iload_n 3, 1) := by decide +kernel
theorem d253_1173 : decode (eb_b 253) 1173 = .ok (.iconst 1, 1) := by decide +kernel
theorem d253_1174 : decode (eb_b 253) 1174 = .ok (.iadd, 1) := by decide +kernel
theorem d253_1175 : decode (eb_b 253) 1175 = .ok (.iaload, 1) := by decide +kernel
theorem d253_1176 : decode (eb_b 253) 1176 = .ok (.invokevirtual 137, 3) := by decide +kernel
theorem wc_209 : Cond.code (eb_y 209) (eb_b 209) (eb_ml 209) (eb_rt 209) ∈ eb_LT := eb_lt 1341 (by decide +kernel)
theorem cy_209 : (eb_y 209).cls = eb_cN (eb_rc 209) ∧ (eb_y 209).cls ≠ "java/lang/invoke/MethodHandle" ∧ (eb_y 209).cls ≠ "java/lang/invoke/VarHandle" ∧ (parseMethodDescriptor (eb_y 209).desc).map (fun d => d.parameters.length) = some 1 := by decide +kernel
theorem wi_209 : Cond.instanceMethod (eb_y 209) ∈ eb_LT := eb_lt 1339 (by decide +kernel)
theorem wse_209 : Cond.selects (eb_cN (eb_rc 209)) (eb_y 209) (eb_y 209) ∈ eb_LT := eb_lt 1340 (by decide +kernel)
theorem kV_209 {L q0 m pc : Nat} {lg : Nat → Bool} {ix : Nat} (hw : Cond.methodLink (eb_own m) ix (eb_y 209) ∈ eb_LT) (hd : decode (eb_b m) pc = .ok (.invokevirtual ix, 3)) : eb_Snd L q0 m pc lg (op_call 209 2 (pc + 3)) := sn_callV false rfl (Or.inr ⟨rfl, _, rfl⟩) (by decide) rfl (by decide) ⟨⟨hw, wi_209, wse_209⟩, wc_209⟩ cy_209 hd
theorem wm_8_137 : Cond.methodLink (eb_cN 8) 137 (eb_y 209) ∈ eb_LT := eb_lt 1338 (by decide +kernel)
theorem d253_1179 : decode (eb_b 253) 1179 = .ok (.if_icmp .eq 769, 3) := by decide +kernel
theorem d253_1182 : decode (eb_b 253) 1182 = .ok (.iconst 0, 1) := by decide +kernel
theorem d253_1183 : decode (eb_b 253) 1183 = .ok (.ireturn, 1) := by decide +kernel
theorem d253_1184 : decode (eb_b 253) 1184 = .ok (.aload_n 1, 1) := by decide +kernel
theorem d253_1185 : decode (eb_b 253) 1185 = .ok (.invokevirtual 138, 3) := by decide +kernel
theorem wc_97 : Cond.code (eb_y 97) (eb_b 97) (eb_ml 97) (eb_rt 97) ∈ eb_LT := eb_lt 744 (by decide +kernel)
theorem cy_97 : (eb_y 97).cls = eb_cN (eb_rc 97) ∧ (eb_y 97).cls ≠ "java/lang/invoke/MethodHandle" ∧ (eb_y 97).cls ≠ "java/lang/invoke/VarHandle" ∧ (parseMethodDescriptor (eb_y 97).desc).map (fun d => d.parameters.length) = some 0 := by decide +kernel
theorem wi_97 : Cond.instanceMethod (eb_y 97) ∈ eb_LT := eb_lt 742 (by decide +kernel)
theorem wse_97 : Cond.selects (eb_cN (eb_rc 97)) (eb_y 97) (eb_y 97) ∈ eb_LT := eb_lt 743 (by decide +kernel)
theorem kV_97 {L q0 m pc : Nat} {lg : Nat → Bool} {ix : Nat} (hw : Cond.methodLink (eb_own m) ix (eb_y 97) ∈ eb_LT) (hd : decode (eb_b m) pc = .ok (.invokevirtual ix, 3)) : eb_Snd L q0 m pc lg (op_call 97 1 (pc + 3)) := sn_callV false rfl (Or.inr ⟨rfl, _, rfl⟩) (by decide) rfl (by decide) ⟨⟨hw, wi_97, wse_97⟩, wc_97⟩ cy_97 hd
theorem wm_8_138 : Cond.methodLink (eb_cN 8) 138 (eb_y 97) ∈ eb_LT := eb_lt 741 (by decide +kernel)
theorem d253_1188 : decode (eb_b 253) 1188 = .ok (.aload_n 2, 1) := by decide +kernel
theorem d253_1189 : decode (eb_b 253) 1189 = .ok (.invokevirtual 141, 3) := by decide +kernel
theorem wc_211 : Cond.code (eb_y 211) (eb_b 211) (eb_ml 211) (eb_rt 211) ∈ eb_LT := eb_lt 1345 (by decide +kernel)
theorem cy_211 : (eb_y 211).cls = eb_cN (eb_rc 211) ∧ (eb_y 211).cls ≠ "java/lang/invoke/MethodHandle" ∧ (eb_y 211).cls ≠ "java/lang/invoke/VarHandle" ∧ (parseMethodDescriptor (eb_y 211).desc).map (fun d => d.parameters.length) = some 0 := by decide +kernel
theorem wi_211 : Cond.instanceMethod (eb_y 211) ∈ eb_LT := eb_lt 1343 (by decide +kernel)
theorem wse_211 : Cond.selects (eb_cN (eb_rc 211)) (eb_y 211) (eb_y 211) ∈ eb_LT := eb_lt 1344 (by decide +kernel)
theorem kV_211 {L q0 m pc : Nat} {lg : Nat → Bool} {ix : Nat} (hw : Cond.methodLink (eb_own m) ix (eb_y 211) ∈ eb_LT) (hd : decode (eb_b m) pc = .ok (.invokevirtual ix, 3)) : eb_Snd L q0 m pc lg (op_call 211 1 (pc + 3)) := sn_callV false rfl (Or.inr ⟨rfl, _, rfl⟩) (by decide) rfl (by decide) ⟨⟨hw, wi_211, wse_211⟩, wc_211⟩ cy_211 hd
theorem wm_8_141 : Cond.methodLink (eb_cN 8) 141 (eb_y 211) ∈ eb_LT := eb_lt 1342 (by decide +kernel)
theorem d253_1192 : decode (eb_b 253) 1192 = .ok (.if_icmp .eq 756, 3) := by decide +kernel
theorem d253_1195 : decode (eb_b 253) 1195 = .ok (.iconst 0, 1) := by decide +kernel
theorem d253_1196 : decode (eb_b 253) 1196 = .ok (.ireturn, 1) := by decide +kernel
theorem d253_1197 : decode (eb_b 253) 1197 = .ok (.aload_n 1, 1) := by decide +kernel
theorem d253_1198 : decode (eb_b 253) 1198 = .ok (.invokevirtual 142, 3) := by decide +kernel
theorem wc_98 : Cond.code (eb_y 98) (eb_b 98) (eb_ml 98) (eb_rt 98) ∈ eb_LT := eb_lt 752 (by decide +kernel)
theorem cy_98 : (eb_y 98).cls = eb_cN (eb_rc 98) ∧ (eb_y 98).cls ≠ "java/lang/invoke/MethodHandle" ∧ (eb_y 98).cls ≠ "java/lang/invoke/VarHandle" ∧ (parseMethodDescriptor (eb_y 98).desc).map (fun d => d.parameters.length) = some 0 := by decide +kernel
theorem wi_98 : Cond.instanceMethod (eb_y 98) ∈ eb_LT := eb_lt 750 (by decide +kernel)
theorem wse_98 : Cond.selects (eb_cN (eb_rc 98)) (eb_y 98) (eb_y 98) ∈ eb_LT := eb_lt 751 (by decide +kernel)
theorem kV_98 {L q0 m pc : Nat} {lg : Nat → Bool} {ix : Nat} (hw : Cond.methodLink (eb_own m) ix (eb_y 98) ∈ eb_LT) (hd : decode (eb_b m) pc = .ok (.invokevirtual ix, 3)) : eb_Snd L q0 m pc lg (op_call 98 1 (pc + 3)) := sn_callV false rfl (Or.inr ⟨rfl, _, rfl⟩) (by decide) rfl (by decide) ⟨⟨hw, wi_98, wse_98⟩, wc_98⟩ cy_98 hd
theorem wm_8_142 : Cond.methodLink (eb_cN 8) 142 (eb_y 98) ∈ eb_LT := eb_lt 749 (by decide +kernel)
theorem d253_1201 : decode (eb_b 253) 1201 = .ok (.aload_n 2, 1) := by decide +kernel
theorem d253_1202 : decode (eb_b 253) 1202 = .ok (.invokevirtual 145, 3) := by decide +kernel
theorem wc_213 : Cond.code (eb_y 213) (eb_b 213) (eb_ml 213) (eb_rt 213) ∈ eb_LT := eb_lt 1353 (by decide +kernel)
theorem cy_213 : (eb_y 213).cls = eb_cN (eb_rc 213) ∧ (eb_y 213).cls ≠ "java/lang/invoke/MethodHandle" ∧ (eb_y 213).cls ≠ "java/lang/invoke/VarHandle" ∧ (parseMethodDescriptor (eb_y 213).desc).map (fun d => d.parameters.length) = some 0 := by decide +kernel
theorem wi_213 : Cond.instanceMethod (eb_y 213) ∈ eb_LT := eb_lt 1351 (by decide +kernel)
theorem wse_213 : Cond.selects (eb_cN (eb_rc 213)) (eb_y 213) (eb_y 213) ∈ eb_LT := eb_lt 1352 (by decide +kernel)
theorem kV_213 {L q0 m pc : Nat} {lg : Nat → Bool} {ix : Nat} (hw : Cond.methodLink (eb_own m) ix (eb_y 213) ∈ eb_LT) (hd : decode (eb_b m) pc = .ok (.invokevirtual ix, 3)) : eb_Snd L q0 m pc lg (op_call 213 1 (pc + 3)) := sn_callV false rfl (Or.inr ⟨rfl, _, rfl⟩) (by decide) rfl (by decide) ⟨⟨hw, wi_213, wse_213⟩, wc_213⟩ cy_213 hd
theorem wm_8_145 : Cond.methodLink (eb_cN 8) 145 (eb_y 213) ∈ eb_LT := eb_lt 1350 (by decide +kernel)
theorem d253_1205 : decode (eb_b 253) 1205 = .ok (.if_icmp .eq 743, 3) := by decide +kernel
theorem d253_1208 : decode (eb_b 253) 1208 = .ok (.iconst 0, 1) := by decide +kernel
theorem d253_1209 : decode (eb_b 253) 1209 = .ok (.ireturn, 1) := by decide +kernel
theorem d253_1210 : decode (eb_b 253) 1210 = .ok (.aload_n 1, 1) := by decide +kernel
theorem d253_1211 : decode (eb_b 253) 1211 = .ok (.aload_n 0, 1) := by decide +kernel
theorem d253_1212 : decode (eb_b 253) 1212 = .ok (.iload_n 3, 1) := by decide +kernel
theorem d253_1213 : decode (eb_b 253) 1213 = .ok (.iconst 1, 1) := by decide +kernel
theorem d253_1214 : decode (eb_b 253) 1214 = .ok (.iadd, 1) := by decide +kernel
theorem d253_1215 : decode (eb_b 253) 1215 = .ok (.iaload, 1) := by decide +kernel
theorem d253_1216 : decode (eb_b 253) 1216 = .ok (.invokevirtual 146, 3) := by decide +kernel
theorem wc_99 : Cond.code (eb_y 99) (eb_b 99) (eb_ml 99) (eb_rt 99) ∈ eb_LT := eb_lt 759 (by decide +kernel)
theorem cy_99 : (eb_y 99).cls = eb_cN (eb_rc 99) ∧ (eb_y 99).cls ≠ "java/lang/invoke/MethodHandle" ∧ (eb_y 99).cls ≠ "java/lang/invoke/VarHandle" ∧ (parseMethodDescriptor (eb_y 99).desc).map (fun d => d.parameters.length) = some 1 := by decide +kernel
theorem wi_99 : Cond.instanceMethod (eb_y 99) ∈ eb_LT := eb_lt 757 (by decide +kernel)
theorem wse_99 : Cond.selects (eb_cN (eb_rc 99)) (eb_y 99) (eb_y 99) ∈ eb_LT := eb_lt 758 (by decide +kernel)
theorem kV_99 {L q0 m pc : Nat} {lg : Nat → Bool} {ix : Nat} (hw : Cond.methodLink (eb_own m) ix (eb_y 99) ∈ eb_LT) (hd : decode (eb_b m) pc = .ok (.invokevirtual ix, 3)) : eb_Snd L q0 m pc lg (op_call 99 2 (pc + 3)) := sn_callV false rfl (Or.inr ⟨rfl, _, rfl⟩) (by decide) rfl (by decide) ⟨⟨hw, wi_99, wse_99⟩, wc_99⟩ cy_99 hd
theorem wm_8_146 : Cond.methodLink (eb_cN 8) 146 (eb_y 99) ∈ eb_LT := eb_lt 756 (by decide +kernel)
theorem d253_1219 : decode (eb_b 253) 1219 = .ok (.aload_n 2, 1) := by decide +kernel
theorem d253_1220 : decode (eb_b 253) 1220 = .ok (.aload_n 0, 1) := by decide +kernel
theorem d253_1221 : decode (eb_b 253) 1221 = .ok (.iload_n 3, 1) := by decide +kernel
theorem d253_1222 : decode (eb_b 253) 1222 = .ok (.iconst 1, 1) := by decide +kernel
theorem d253_1223 : decode (eb_b 253) 1223 = .ok (.iadd, 1) := by decide +kernel
theorem d253_1224 : decode (eb_b 253) 1224 = .ok (.iaload, 1) := by decide +kernel
theorem d253_1225 : decode (eb_b 253) 1225 = .ok (.invokevirtual 149, 3) := by decide +kernel
theorem wc_214 : Cond.code (eb_y 214) (eb_b 214) (eb_ml 214) (eb_rt 214) ∈ eb_LT := eb_lt 1361 (by decide +kernel)
theorem cy_214 : (eb_y 214).cls = eb_cN (eb_rc 214) ∧ (eb_y 214).cls ≠ "java/lang/invoke/MethodHandle" ∧ (eb_y 214).cls ≠ "java/lang/invoke/VarHandle" ∧ (parseMethodDescriptor (eb_y 214).desc).map (fun d => d.parameters.length) = some 1 := by decide +kernel
theorem wi_214 : Cond.instanceMethod (eb_y 214) ∈ eb_LT := eb_lt 1359 (by decide +kernel)
theorem wse_214 : Cond.selects (eb_cN (eb_rc 214)) (eb_y 214) (eb_y 214) ∈ eb_LT := eb_lt 1360 (by decide +kernel)
theorem kV_214 {L q0 m pc : Nat} {lg : Nat → Bool} {ix : Nat} (hw : Cond.methodLink (eb_own m) ix (eb_y 214) ∈ eb_LT) (hd : decode (eb_b m) pc = .ok (.invokevirtual ix, 3)) : eb_Snd L q0 m pc lg (op_call 214 2 (pc + 3)) := sn_callV false rfl (Or.inr ⟨rfl, _, rfl⟩) (by decide) rfl (by decide) ⟨⟨hw, wi_214, wse_214⟩, wc_214⟩ cy_214 hd
theorem wm_8_149 : Cond.methodLink (eb_cN 8) 149 (eb_y 214) ∈ eb_LT := eb_lt 1358 (by decide +kernel)
theorem d253_1228 : decode (eb_b 253) 1228 = .ok (.if_icmp .eq 720, 3) := by decide +kernel
theorem d253_1231 : decode (eb_b 253) 1231 = .ok (.iconst 0, 1) := by decide +kernel
theorem d253_1232 : decode (eb_b 253) 1232 = .ok (.ireturn, 1) := by decide +kernel
theorem d253_1233 : decode (eb_b 253) 1233 = .ok (.aload_n 1, 1) := by decide +kernel
theorem d253_1234 : decode (eb_b 253) 1234 = .ok (.aload_n 0, 1) := by decide +kernel
theorem d253_1235 : decode (eb_b 253) 1235 = .ok (.iload_n 3, 1) := by decide +kernel
theorem d253_1236 : decode (eb_b 253) 1236 = .ok (.iconst 1, 1) := by decide +kernel
theorem d253_1237 : decode (eb_b 253) 1237 = .ok (.iadd, 1) := by decide +kernel
theorem d253_1238 : decode (eb_b 253) 1238 = .ok (.iaload, 1) := by decide +kernel
theorem d253_1239 : decode (eb_b 253) 1239 = .ok (.invokevirtual 150, 3) := by decide +kernel
theorem wc_100 : Cond.code (eb_y 100) (eb_b 100) (eb_ml 100) (eb_rt 100) ∈ eb_LT := eb_lt 764 (by decide +kernel)
theorem cy_100 : (eb_y 100).cls = eb_cN (eb_rc 100) ∧ (eb_y 100).cls ≠ "java/lang/invoke/MethodHandle" ∧ (eb_y 100).cls ≠ "java/lang/invoke/VarHandle" ∧ (parseMethodDescriptor (eb_y 100).desc).map (fun d => d.parameters.length) = some 1 := by decide +kernel
theorem wi_100 : Cond.instanceMethod (eb_y 100) ∈ eb_LT := eb_lt 762 (by decide +kernel)
theorem wse_100 : Cond.selects (eb_cN (eb_rc 100)) (eb_y 100) (eb_y 100) ∈ eb_LT := eb_lt 763 (by decide +kernel)
theorem kV_100 {L q0 m pc : Nat} {lg : Nat → Bool} {ix : Nat} (hw : Cond.methodLink (eb_own m) ix (eb_y 100) ∈ eb_LT) (hd : decode (eb_b m) pc = .ok (.invokevirtual ix, 3)) : eb_Snd L q0 m pc lg (op_call 100 2 (pc + 3)) := sn_callV false rfl (Or.inr ⟨rfl, _, rfl⟩) (by decide) rfl (by decide) ⟨⟨hw, wi_100, wse_100⟩, wc_100⟩ cy_100 hd
theorem wm_8_150 : Cond.methodLink (eb_cN 8) 150 (eb_y 100) ∈ eb_LT := eb_lt 761 (by decide +kernel)
theorem d253_1242 : decode (eb_b 253) 1242 = .ok (.aload_n 2, 1) := by decide +kernel
theorem d253_1243 : decode (eb_b 253) 1243 = .ok (.aload_n 0, 1) := by decide +kernel
theorem d253_1244 : decode (eb_b 253) 1244 = .ok (.iload_n 3, 1) := by decide +kernel
theorem d253_1245 : decode (eb_b 253) 1245 = .ok (.iconst 1, 1) := by decide +kernel
theorem d253_1246 : decode (eb_b 253) 1246 = .ok (.iadd, 1) := by decide +kernel
theorem d253_1247 : decode (eb_b 253) 1247 = .ok (.iaload, 1) := by decide +kernel
theorem d253_1248 : decode (eb_b 253) 1248 = .ok (.invokevirtual 153, 3) := by decide +kernel
theorem wc_215 : Cond.code (eb_y 215) (eb_b 215) (eb_ml 215) (eb_rt 215) ∈ eb_LT := eb_lt 1365 (by decide +kernel)
theorem cy_215 : (eb_y 215).cls = eb_cN (eb_rc 215) ∧ (eb_y 215).cls ≠ "java/lang/invoke/MethodHandle" ∧ (eb_y 215).cls ≠ "java/lang/invoke/VarHandle" ∧ (parseMethodDescriptor (eb_y 215).desc).map (fun d => d.parameters.length) = some 1 := by decide +kernel
theorem wi_215 : Cond.instanceMethod (eb_y 215) ∈ eb_LT := eb_lt 1363 (by decide +kernel)
theorem wse_215 : Cond.selects (eb_cN (eb_rc 215)) (eb_y 215) (eb_y 215) ∈ eb_LT := eb_lt 1364 (by decide +kernel)
theorem kV_215 {L q0 m pc : Nat} {lg : Nat → Bool} {ix : Nat} (hw : Cond.methodLink (eb_own m) ix (eb_y 215) ∈ eb_LT) (hd : decode (eb_b m) pc = .ok (.invokevirtual ix, 3)) : eb_Snd L q0 m pc lg (op_call 215 2 (pc + 3)) := sn_callV false rfl (Or.inr ⟨rfl, _, rfl⟩) (by decide) rfl (by decide) ⟨⟨hw, wi_215, wse_215⟩, wc_215⟩ cy_215 hd
theorem wm_8_153 : Cond.methodLink (eb_cN 8) 153 (eb_y 215) ∈ eb_LT := eb_lt 1362 (by decide +kernel)
theorem d253_1251 : decode (eb_b 253) 1251 = .ok (.if_icmp .eq 697, 3) := by decide +kernel
theorem d253_1254 : decode (eb_b 253) 1254 = .ok (.iconst 0, 1) := by decide +kernel
theorem d253_1255 : decode (eb_b 253) 1255 = .ok (.ireturn, 1) := by decide +kernel
theorem d253_1256 : decode (eb_b 253) 1256 = .ok (.aload_n 1, 1) := by decide +kernel
theorem d253_1257 : decode (eb_b 253) 1257 = .ok (.aload_n 0, 1) := by decide +kernel
theorem d253_1258 : decode (eb_b 253) 1258 = .ok (.iload_n 3, 1) := by decide +kernel
theorem d253_1259 : decode (eb_b 253) 1259 = .ok (.iconst 1, 1) := by decide +kernel
theorem d253_1260 : decode (eb_b 253) 1260 = .ok (.iadd, 1) := by decide +kernel
theorem d253_1261 : decode (eb_b 253) 1261 = .ok (.iaload, 1) := by decide +kernel
theorem d253_1262 : decode (eb_b 253) 1262 = .ok (.invokevirtual 154, 3) := by decide +kernel
theorem wc_101 : Cond.code (eb_y 101) (eb_b 101) (eb_ml 101) (eb_rt 101) ∈ eb_LT := eb_lt 768 (by decide +kernel)
theorem cy_101 : (eb_y 101).cls = eb_cN (eb_rc 101) ∧ (eb_y 101).cls ≠ "java/lang/invoke/MethodHandle" ∧ (eb_y 101).cls ≠ "java/lang/invoke/VarHandle" ∧ (parseMethodDescriptor (eb_y 101).desc).map (fun d => d.parameters.length) = some 1 := by decide +kernel
theorem wi_101 : Cond.instanceMethod (eb_y 101) ∈ eb_LT := eb_lt 766 (by decide +kernel)
theorem wse_101 : Cond.selects (eb_cN (eb_rc 101)) (eb_y 101) (eb_y 101) ∈ eb_LT := eb_lt 767 (by decide +kernel)
theorem kV_101 {L q0 m pc : Nat} {lg : Nat → Bool} {ix : Nat} (hw : Cond.methodLink (eb_own m) ix (eb_y 101) ∈ eb_LT) (hd : decode (eb_b m) pc = .ok (.invokevirtual ix, 3)) : eb_Snd L q0 m pc lg (op_call 101 2 (pc + 3)) := sn_callV false rfl (Or.inr ⟨rfl, _, rfl⟩) (by decide) rfl (by decide) ⟨⟨hw, wi_101, wse_101⟩, wc_101⟩ cy_101 hd
theorem wm_8_154 : Cond.methodLink (eb_cN 8) 154 (eb_y 101) ∈ eb_LT := eb_lt 765 (by decide +kernel)
theorem d253_1265 : decode (eb_b 253) 1265 = .ok (.aload_n 2, 1) := by decide +kernel
theorem d253_1266 : decode (eb_b 253) 1266 = .ok (.aload_n 0, 1) := by decide +kernel
theorem d253_1267 : decode (eb_b 253) 1267 = .ok (.iload_n 3, 1) := by decide +kernel
theorem d253_1268 : decode (eb_b 253) 1268 = .ok (.iconst 1, 1) := by decide +kernel
theorem d253_1269 : decode (eb_b 253) 1269 = .ok (.iadd, 1) := by decide +kernel
theorem d253_1270 : decode (eb_b 253) 1270 = .ok (.iaload, 1) := by decide +kernel
theorem d253_1271 : decode (eb_b 253) 1271 = .ok (.invokevirtual 157, 3) := by decide +kernel
theorem wc_217 : Cond.code (eb_y 217) (eb_b 217) (eb_ml 217) (eb_rt 217) ∈ eb_LT := eb_lt 1369 (by decide +kernel)
theorem cy_217 : (eb_y 217).cls = eb_cN (eb_rc 217) ∧ (eb_y 217).cls ≠ "java/lang/invoke/MethodHandle" ∧ (eb_y 217).cls ≠ "java/lang/invoke/VarHandle" ∧ (parseMethodDescriptor (eb_y 217).desc).map (fun d => d.parameters.length) = some 1 := by decide +kernel
theorem wi_217 : Cond.instanceMethod (eb_y 217) ∈ eb_LT := eb_lt 1367 (by decide +kernel)
theorem wse_217 : Cond.selects (eb_cN (eb_rc 217)) (eb_y 217) (eb_y 217) ∈ eb_LT := eb_lt 1368 (by decide +kernel)
theorem kV_217 {L q0 m pc : Nat} {lg : Nat → Bool} {ix : Nat} (hw : Cond.methodLink (eb_own m) ix (eb_y 217) ∈ eb_LT) (hd : decode (eb_b m) pc = .ok (.invokevirtual ix, 3)) : eb_Snd L q0 m pc lg (op_call 217 2 (pc + 3)) := sn_callV false rfl (Or.inr ⟨rfl, _, rfl⟩) (by decide) rfl (by decide) ⟨⟨hw, wi_217, wse_217⟩, wc_217⟩ cy_217 hd
theorem wm_8_157 : Cond.methodLink (eb_cN 8) 157 (eb_y 217) ∈ eb_LT := eb_lt 1366 (by decide +kernel)
theorem d253_1274 : decode (eb_b 253) 1274 = .ok (.if_icmp .eq 674, 3) := by decide +kernel
theorem d253_1277 : decode (eb_b 253) 1277 = .ok (.iconst 0, 1) := by decide +kernel
theorem d253_1278 : decode (eb_b 253) 1278 = .ok (.ireturn, 1) := by decide +kernel
theorem d253_1279 : decode (eb_b 253) 1279 = .ok (.aload_n 1, 1) := by decide +kernel
theorem d253_1280 : decode (eb_b 253) 1280 = .ok (.aload_n 0, 1) := by decide +kernel
theorem d253_1281 : decode (eb_b 253) 1281 = .ok (.iload_n 3, 1) := by decide +kernel
theorem d253_1282 : decode (eb_b 253) 1282 = .ok (.iconst 1, 1) := by decide +kernel
theorem d253_1283 : decode (eb_b 253) 1283 = .ok (.iadd, 1) := by decide +kernel
theorem d253_1284 : decode (eb_b 253) 1284 = .ok (.iaload, 1) := by decide +kernel
theorem d253_1285 : decode (eb_b 253) 1285 = .ok (.invokevirtual 158, 3) := by decide +kernel
theorem wc_102 : Cond.code (eb_y 102) (eb_b 102) (eb_ml 102) (eb_rt 102) ∈ eb_LT := eb_lt 772 (by decide +kernel)
theorem cy_102 : (eb_y 102).cls = eb_cN (eb_rc 102) ∧ (eb_y 102).cls ≠ "java/lang/invoke/MethodHandle" ∧ (eb_y 102).cls ≠ "java/lang/invoke/VarHandle" ∧ (parseMethodDescriptor (eb_y 102).desc).map (fun d => d.parameters.length) = some 1 := by decide +kernel
theorem wi_102 : Cond.instanceMethod (eb_y 102) ∈ eb_LT := eb_lt 770 (by decide +kernel)
theorem wse_102 : Cond.selects (eb_cN (eb_rc 102)) (eb_y 102) (eb_y 102) ∈ eb_LT := eb_lt 771 (by decide +kernel)
theorem kV_102 {L q0 m pc : Nat} {lg : Nat → Bool} {ix : Nat} (hw : Cond.methodLink (eb_own m) ix (eb_y 102) ∈ eb_LT) (hd : decode (eb_b m) pc = .ok (.invokevirtual ix, 3)) : eb_Snd L q0 m pc lg (op_call 102 2 (pc + 3)) := sn_callV false rfl (Or.inr ⟨rfl, _, rfl⟩) (by decide) rfl (by decide) ⟨⟨hw, wi_102, wse_102⟩, wc_102⟩ cy_102 hd
theorem wm_8_158 : Cond.methodLink (eb_cN 8) 158 (eb_y 102) ∈ eb_LT := eb_lt 769 (by decide +kernel)
theorem d253_1288 : decode (eb_b 253) 1288 = .ok (.aload_n 2, 1) := by decide +kernel
theorem d253_1289 : decode (eb_b 253) 1289 = .ok (.aload_n 0, 1) := by decide +kernel
theorem d253_1290 : decode (eb_b 253) 1290 = .ok (.iload_n 3, 1) := by decide +kernel
theorem d253_1291 : decode (eb_b 253) 1291 = .ok (.iconst 1, 1) := by decide +kernel
theorem d253_1292 : decode (eb_b 253) 1292 = .ok (.iadd, 1) := by decide +kernel
theorem d253_1293 : decode (eb_b 253) 1293 = .ok (.iaload, 1) := by decide +kernel
theorem d253_1294 : decode (eb_b 253) 1294 = .ok (.invokevirtual 161, 3) := by decide +kernel
theorem wc_218 : Cond.code (eb_y 218) (eb_b 218) (eb_ml 218) (eb_rt 218) ∈ eb_LT := eb_lt 1377 (by decide +kernel)
theorem cy_218 : (eb_y 218).cls = eb_cN (eb_rc 218) ∧ (eb_y 218).cls ≠ "java/lang/invoke/MethodHandle" ∧ (eb_y 218).cls ≠ "java/lang/invoke/VarHandle" ∧ (parseMethodDescriptor (eb_y 218).desc).map (fun d => d.parameters.length) = some 1 := by decide +kernel
theorem wi_218 : Cond.instanceMethod (eb_y 218) ∈ eb_LT := eb_lt 1375 (by decide +kernel)
theorem wse_218 : Cond.selects (eb_cN (eb_rc 218)) (eb_y 218) (eb_y 218) ∈ eb_LT := eb_lt 1376 (by decide +kernel)
theorem kV_218 {L q0 m pc : Nat} {lg : Nat → Bool} {ix : Nat} (hw : Cond.methodLink (eb_own m) ix (eb_y 218) ∈ eb_LT) (hd : decode (eb_b m) pc = .ok (.invokevirtual ix, 3)) : eb_Snd L q0 m pc lg (op_call 218 2 (pc + 3)) := sn_callV false rfl (Or.inr ⟨rfl, _, rfl⟩) (by decide) rfl (by decide) ⟨⟨hw, wi_218, wse_218⟩, wc_218⟩ cy_218 hd
theorem wm_8_161 : Cond.methodLink (eb_cN 8) 161 (eb_y 218) ∈ eb_LT := eb_lt 1374 (by decide +kernel)
theorem d253_1297 : decode (eb_b 253) 1297 = .ok (.if_icmp .eq 651, 3) := by decide +kernel
theorem d253_1300 : decode (eb_b 253) 1300 = .ok (.iconst 0, 1) := by decide +kernel
theorem d253_1301 : decode (eb_b 253) 1301 = .ok (.ireturn, 1) := by decide +kernel
theorem d253_1302 : decode (eb_b 253) 1302 = .ok (.aload_n 1, 1) := by decide +kernel
theorem d253_1303 : decode (eb_b 253) 1303 = .ok (.aload_n 0, 1) := by decide +kernel
theorem d253_1304 : decode (eb_b 253) 1304 = .ok (.iload_n 3, 1) := by decide +kernel
theorem d253_1305 : decode (eb_b 253) 1305 = .ok (.iconst 1, 1) := by decide +kernel
theorem d253_1306 : decode (eb_b 253) 1306 = .ok (.iadd, 1) := by decide +kernel
theorem d253_1307 : decode (eb_b 253) 1307 = .ok (.iaload, 1) := by decide +kernel
theorem d253_1308 : decode (eb_b 253) 1308 = .ok (.aload_n 0, 1) := by decide +kernel
theorem d253_1309 : decode (eb_b 253) 1309 = .ok (.iload_n 3, 1) := by decide +kernel
theorem d253_1310 : decode (eb_b 253) 1310 = .ok (.iconst 2, 1) := by decide +kernel
theorem d253_1311 : decode (eb_b 253) 1311 = .ok (.iadd, 1) := by decide +kernel
theorem d253_1312 : decode (eb_b 253) 1312 = .ok (.iaload, 1) := by decide +kernel
theorem d253_1313 : decode (eb_b 253) 1313 = .ok (.aload_n 0, 1) := by decide +kernel
theorem d253_1314 : decode (eb_b 253) 1314 = .ok (.iload_n 3, 1) := by decide +kernel
theorem d253_1315 : decode (eb_b 253) 1315 = .ok (.iconst 3, 1) := by decide +kernel
theorem d253_1316 : decode (eb_b 253) 1316 = .ok (.iadd, 1) := by decide +kernel
theorem d253_1317 : decode (eb_b 253) 1317 = .ok (.iaload, 1) := by decide +kernel
theorem d253_1318 : decode (eb_b 253) 1318 = .ok (.invokevirtual 162, 3) := by decide +kernel
theorem wc_103 : Cond.code (eb_y 103) (eb_b 103) (eb_ml 103) (eb_rt 103) ∈ eb_LT := eb_lt 776 (by decide +kernel)
theorem cy_103 : (eb_y 103).cls = eb_cN (eb_rc 103) ∧ (eb_y 103).cls ≠ "java/lang/invoke/MethodHandle" ∧ (eb_y 103).cls ≠ "java/lang/invoke/VarHandle" ∧ (parseMethodDescriptor (eb_y 103).desc).map (fun d => d.parameters.length) = some 3 := by decide +kernel
theorem wi_103 : Cond.instanceMethod (eb_y 103) ∈ eb_LT := eb_lt 774 (by decide +kernel)
theorem wse_103 : Cond.selects (eb_cN (eb_rc 103)) (eb_y 103) (eb_y 103) ∈ eb_LT := eb_lt 775 (by decide +kernel)
theorem kV_103 {L q0 m pc : Nat} {lg : Nat → Bool} {ix : Nat} (hw : Cond.methodLink (eb_own m) ix (eb_y 103) ∈ eb_LT) (hd : decode (eb_b m) pc = .ok (.invokevirtual ix, 3)) : eb_Snd L q0 m pc lg (op_call 103 4 (pc + 3)) := sn_callV false rfl (Or.inr ⟨rfl, _, rfl⟩) (by decide) rfl (by decide) ⟨⟨hw, wi_103, wse_103⟩, wc_103⟩ cy_103 hd
theorem wm_8_162 : Cond.methodLink (eb_cN 8) 162 (eb_y 103) ∈ eb_LT := eb_lt 773 (by decide +kernel)
theorem d253_1321 : decode (eb_b 253) 1321 = .ok (.aload_n 2, 1) := by decide +kernel
theorem d253_1322 : decode (eb_b 253) 1322 = .ok (.aload_n 0, 1) := by decide +kernel
theorem d253_1323 : decode (eb_b 253) 1323 = .ok (.iload_n 3, 1) := by decide +kernel
theorem d253_1324 : decode (eb_b 253) 1324 = .ok (.iconst 1, 1) := by decide +kernel
theorem d253_1325 : decode (eb_b 253) 1325 = .ok (.iadd, 1) := by decide +kernel
theorem d253_1326 : decode (eb_b 253) 1326 = .ok (.iaload, 1) := by decide +kernel
theorem d253_1327 : decode (eb_b 253) 1327 = .ok (.aload_n 0, 1) := by decide +kernel
theorem d253_1328 : decode (eb_b 253) 1328 = .ok (.iload_n 3, 1) := by decide +kernel
theorem d253_1329 : decode (eb_b 253) 1329 = .ok (.iconst 2, 1) := by decide +kernel
theorem d253_1330 : decode (eb_b 253) 1330 = .ok (.iadd, 1) := by decide +kernel
theorem d253_1331 : decode (eb_b 253) 1331 = .ok (.iaload, 1) := by decide +kernel
theorem d253_1332 : decode (eb_b 253) 1332 = .ok (.aload_n 0, 1) := by decide +kernel
theorem d253_1333 : decode (eb_b 253) 1333 = .ok (.iload_n 3, 1) := by decide +kernel
theorem d253_1334 : decode (eb_b 253) 1334 = .ok (.iconst 3, 1) := by decide +kernel
theorem d253_1335 : decode (eb_b 253) 1335 = .ok (.iadd, 1) := by decide +kernel
theorem d253_1336 : decode (eb_b 253) 1336 = .ok (.iaload, 1) := by decide +kernel
theorem d253_1337 : decode (eb_b 253) 1337 = .ok (.invokevirtual 165, 3) := by decide +kernel
theorem wc_219 : Cond.code (eb_y 219) (eb_b 219) (eb_ml 219) (eb_rt 219) ∈ eb_LT := eb_lt 1381 (by decide +kernel)
theorem cy_219 : (eb_y 219).cls = eb_cN (eb_rc 219) ∧ (eb_y 219).cls ≠ "java/lang/invoke/MethodHandle" ∧ (eb_y 219).cls ≠ "java/lang/invoke/VarHandle" ∧ (parseMethodDescriptor (eb_y 219).desc).map (fun d => d.parameters.length) = some 3 := by decide +kernel
theorem wi_219 : Cond.instanceMethod (eb_y 219) ∈ eb_LT := eb_lt 1379 (by decide +kernel)
theorem wse_219 : Cond.selects (eb_cN (eb_rc 219)) (eb_y 219) (eb_y 219) ∈ eb_LT := eb_lt 1380 (by decide +kernel)
theorem kV_219 {L q0 m pc : Nat} {lg : Nat → Bool} {ix : Nat} (hw : Cond.methodLink (eb_own m) ix (eb_y 219) ∈ eb_LT) (hd : decode (eb_b m) pc = .ok (.invokevirtual ix, 3)) : eb_Snd L q0 m pc lg (op_call 219 4 (pc + 3)) := sn_callV false rfl (Or.inr ⟨rfl, _, rfl⟩) (by decide) rfl (by decide) ⟨⟨hw, wi_219, wse_219⟩, wc_219⟩ cy_219 hd
theorem wm_8_165 : Cond.methodLink (eb_cN 8) 165 (eb_y 219) ∈ eb_LT := eb_lt 1378 (by decide +kernel)
theorem d253_1340 : decode (eb_b 253) 1340 = .ok (.if_icmp .eq 608, 3) := by decide +kernel
theorem d253_1343 : decode (eb_b 253) 1343 = .ok (.iconst 0, 1) := by decide +kernel
theorem d253_1344 : decode (eb_b 253) 1344 = .ok (.ireturn, 1) := by decide +kernel
theorem d253_1345 : decode (eb_b 253) 1345 = .ok (.aload_n 1, 1) := by decide +kernel
theorem d253_1346 : decode (eb_b 253) 1346 = .ok (.aload_n 0, 1) := by decide +kernel
theorem d253_1347 : decode (eb_b 253) 1347 = .ok (.iload_n 3, 1) := by decide +kernel
theorem d253_1348 : decode (eb_b 253) 1348 = .ok (.iconst 1, 1) := by decide +kernel
theorem d253_1349 : decode (eb_b 253) 1349 = .ok (.iadd, 1) := by decide +kernel
theorem d253_1350 : decode (eb_b 253) 1350 = .ok (.iaload, 1) := by decide +kernel
theorem d253_1351 : decode (eb_b 253) 1351 = .ok (.aload_n 0, 1) := by decide +kernel
theorem d253_1352 : decode (eb_b 253) 1352 = .ok (.iload_n 3, 1) := by decide +kernel
theorem d253_1353 : decode (eb_b 253) 1353 = .ok (.iconst 2, 1) := by decide +kernel
theorem d253_1354 : decode (eb_b 253) 1354 = .ok (.iadd, 1) := by decide +kernel
theorem d253_1355 : decode (eb_b 253) 1355 = .ok (.iaload, 1) := by decide +kernel
theorem d253_1356 : decode (eb_b 253) 1356 = .ok (.invokevirtual 166, 3) := by decide +kernel
theorem wc_104 : Cond.code (eb_y 104) (eb_b 104) (eb_ml 104) (eb_rt 104) ∈ eb_LT := eb_lt 780 (by decide +kernel)
theorem cy_104 : (eb_y 104).cls = eb_cN (eb_rc 104) ∧ (eb_y 104).cls ≠ "java/lang/invoke/MethodHandle" ∧ (eb_y 104).cls ≠ "java/lang/invoke/VarHandle" ∧ (parseMethodDescriptor (eb_y 104).desc).map (fun d => d.parameters.length) = some 2 := by decide +kernel
theorem wi_104 : Cond.instanceMethod (eb_y 104) ∈ eb_LT := eb_lt 778 (by decide +kernel)
theorem wse_104 : Cond.selects (eb_cN (eb_rc 104)) (eb_y 104) (eb_y 104) ∈ eb_LT := eb_lt 779 (by decide +kernel)
theorem kV_104 {L q0 m pc : Nat} {lg : Nat → Bool} {ix : Nat} (hw : Cond.methodLink (eb_own m) ix (eb_y 104) ∈ eb_LT) (hd : decode (eb_b m) pc = .ok (.invokevirtual ix, 3)) : eb_Snd L q0 m pc lg (op_call 104 3 (pc + 3)) := sn_callV false rfl (Or.inr ⟨rfl, _, rfl⟩) (by decide) rfl (by decide) ⟨⟨hw, wi_104, wse_104⟩, wc_104⟩ cy_104 hd
theorem wm_8_166 : Cond.methodLink (eb_cN 8) 166 (eb_y 104) ∈ eb_LT := eb_lt 777 (by decide +kernel)
theorem d253_1359 : decode (eb_b 253) 1359 = .ok (.aload_n 2, 1) := by decide +kernel
theorem d253_1360 : decode (eb_b 253) 1360 = .ok (.aload_n 0, 1) := by decide +kernel
theorem d253_1361 : decode (eb_b 253) 1361 = .ok (.iload_n 3, 1) := by decide +kernel
theorem d253_1362 : decode (eb_b 253) 1362 = .ok (.iconst 1, 1) := by decide +kernel
theorem d253_1363 : decode (eb_b 253) 1363 = .ok (.iadd, 1) := by decide +kernel
theorem d253_1364 : decode (eb_b 253) 1364 = .ok (.iaload, 1) := by decide +kernel
theorem d253_1365 : decode (eb_b 253) 1365 = .ok (.aload_n 0, 1) := by decide +kernel
theorem d253_1366 : decode (eb_b 253) 1366 = .ok (.iload_n 3, 1) := by decide +kernel
theorem d253_1367 : decode (eb_b 253) 1367 = .ok (.iconst 2, 1) := by decide +kernel
theorem d253_1368 : decode (eb_b 253) 1368 = .ok (.iadd, 1) := by decide +kernel
theorem d253_1369 : decode (eb_b 253) 1369 = .ok (.iaload, 1) := by decide +kernel
theorem d253_1370 : decode (eb_b 253) 1370 = .ok (.invokevirtual 169, 3) := by decide +kernel
theorem wc_220 : Cond.code (eb_y 220) (eb_b 220) (eb_ml 220) (eb_rt 220) ∈ eb_LT := eb_lt 1385 (by decide +kernel)
theorem cy_220 : (eb_y 220).cls = eb_cN (eb_rc 220) ∧ (eb_y 220).cls ≠ "java/lang/invoke/MethodHandle" ∧ (eb_y 220).cls ≠ "java/lang/invoke/VarHandle" ∧ (parseMethodDescriptor (eb_y 220).desc).map (fun d => d.parameters.length) = some 2 := by decide +kernel
theorem wi_220 : Cond.instanceMethod (eb_y 220) ∈ eb_LT := eb_lt 1383 (by decide +kernel)
theorem wse_220 : Cond.selects (eb_cN (eb_rc 220)) (eb_y 220) (eb_y 220) ∈ eb_LT := eb_lt 1384 (by decide +kernel)
theorem kV_220 {L q0 m pc : Nat} {lg : Nat → Bool} {ix : Nat} (hw : Cond.methodLink (eb_own m) ix (eb_y 220) ∈ eb_LT) (hd : decode (eb_b m) pc = .ok (.invokevirtual ix, 3)) : eb_Snd L q0 m pc lg (op_call 220 3 (pc + 3)) := sn_callV false rfl (Or.inr ⟨rfl, _, rfl⟩) (by decide) rfl (by decide) ⟨⟨hw, wi_220, wse_220⟩, wc_220⟩ cy_220 hd
theorem wm_8_169 : Cond.methodLink (eb_cN 8) 169 (eb_y 220) ∈ eb_LT := eb_lt 1382 (by decide +kernel)
theorem d253_1373 : decode (eb_b 253) 1373 = .ok (.if_icmp .eq 575, 3) := by decide +kernel
theorem d253_1376 : decode (eb_b 253) 1376 = .ok (.iconst 0, 1) := by decide +kernel
theorem d253_1377 : decode (eb_b 253) 1377 = .ok (.ireturn, 1) := by decide +kernel
theorem d253_1378 : decode (eb_b 253) 1378 = .ok (.aload_n 1, 1) := by decide +kernel
theorem d253_1379 : decode (eb_b 253) 1379 = .ok (.aload_n 0, 1) := by decide +kernel
theorem d253_1380 : decode (eb_b 253) 1380 = .ok (.iload_n 3, 1) := by decide +kernel
theorem d253_1381 : decode (eb_b 253) 1381 = .ok (.iconst 1, 1) := by decide +kernel
theorem d253_1382 : decode (eb_b 253) 1382 = .ok (.iadd, 1) := by decide +kernel
theorem d253_1383 : decode (eb_b 253) 1383 = .ok (.iaload, 1) := by decide +kernel
theorem d253_1384 : decode (eb_b 253) 1384 = .ok (.invokevirtual 170, 3) := by decide +kernel
theorem wc_105 : Cond.code (eb_y 105) (eb_b 105) (eb_ml 105) (eb_rt 105) ∈ eb_LT := eb_lt 789 (by decide +kernel)
theorem cy_105 : (eb_y 105).cls = eb_cN (eb_rc 105) ∧ (eb_y 105).cls ≠ "java/lang/invoke/MethodHandle" ∧ (eb_y 105).cls ≠ "java/lang/invoke/VarHandle" ∧ (parseMethodDescriptor (eb_y 105).desc).map (fun d => d.parameters.length) = some 1 := by decide +kernel
theorem wi_105 : Cond.instanceMethod (eb_y 105) ∈ eb_LT := eb_lt 787 (by decide +kernel)
theorem wse_105 : Cond.selects (eb_cN (eb_rc 105)) (eb_y 105) (eb_y 105) ∈ eb_LT := eb_lt 788 (by decide +kernel)
theorem kV_105 {L q0 m pc : Nat} {lg : Nat → Bool} {ix : Nat} (hw : Cond.methodLink (eb_own m) ix (eb_y 105) ∈ eb_LT) (hd : decode (eb_b m) pc = .ok (.invokevirtual ix, 3)) : eb_Snd L q0 m pc lg (op_call 105 2 (pc + 3)) := sn_callV false rfl (Or.inr ⟨rfl, _, rfl⟩) (by decide) rfl (by decide) ⟨⟨hw, wi_105, wse_105⟩, wc_105⟩ cy_105 hd
theorem wm_8_170 : Cond.methodLink (eb_cN 8) 170 (eb_y 105) ∈ eb_LT := eb_lt 786 (by decide +kernel)
theorem d253_1387 : decode (eb_b 253) 1387 = .ok (.aload_n 2, 1) := by decide +kernel
theorem d253_1388 : decode (eb_b 253) 1388 = .ok (.aload_n 0, 1) := by decide +kernel
theorem d253_1389 : decode (eb_b 253) 1389 = .ok (.iload_n 3, 1) := by decide +kernel
theorem d253_1390 : decode (eb_b 253) 1390 = .ok (.iconst 1, 1) := by decide +kernel
theorem d253_1391 : decode (eb_b 253) 1391 = .ok (.iadd, 1) := by decide +kernel
theorem d253_1392 : decode (eb_b 253) 1392 = .ok (.iaload, 1) := by decide +kernel
theorem d253_1393 : decode (eb_b 253) 1393 = .ok (.invokevirtual 173, 3) := by decide +kernel
theorem wc_222 : Cond.code (eb_y 222) (eb_b 222) (eb_ml 222) (eb_rt 222) ∈ eb_LT := eb_lt 1393 (by decide +kernel)
theorem cy_222 : (eb_y 222).cls = eb_cN (eb_rc 222) ∧ (eb_y 222).cls ≠ "java/lang/invoke/MethodHandle" ∧ (eb_y 222).cls ≠ "java/lang/invoke/VarHandle" ∧ (parseMethodDescriptor (eb_y 222).desc).map (fun d => d.parameters.length) = some 1 := by decide +kernel
theorem wi_222 : Cond.instanceMethod (eb_y 222) ∈ eb_LT := eb_lt 1391 (by decide +kernel)
theorem wse_222 : Cond.selects (eb_cN (eb_rc 222)) (eb_y 222) (eb_y 222) ∈ eb_LT := eb_lt 1392 (by decide +kernel)
theorem kV_222 {L q0 m pc : Nat} {lg : Nat → Bool} {ix : Nat} (hw : Cond.methodLink (eb_own m) ix (eb_y 222) ∈ eb_LT) (hd : decode (eb_b m) pc = .ok (.invokevirtual ix, 3)) : eb_Snd L q0 m pc lg (op_call 222 2 (pc + 3)) := sn_callV false rfl (Or.inr ⟨rfl, _, rfl⟩) (by decide) rfl (by decide) ⟨⟨hw, wi_222, wse_222⟩, wc_222⟩ cy_222 hd
theorem wm_8_173 : Cond.methodLink (eb_cN 8) 173 (eb_y 222) ∈ eb_LT := eb_lt 1390 (by decide +kernel)
theorem d253_1396 : decode (eb_b 253) 1396 = .ok (.if_icmp .eq 552, 3) := by decide +kernel
theorem d253_1399 : decode (eb_b 253) 1399 = .ok (.iconst 0, 1) := by decide +kernel
theorem d253_1400 : decode (eb_b 253) 1400 = .ok (.ireturn, 1) := by decide +kernel
theorem d253_1401 : decode (eb_b 253) 1401 = .ok (.aload_n 1, 1) := by decide +kernel
theorem d253_1402 : decode (eb_b 253) 1402 = .ok (.aload_n 0, 1) := by decide +kernel
theorem d253_1403 : decode (eb_b 253) 1403 = .ok (.iload_n 3, 1) := by decide +kernel
theorem d253_1404 : decode (eb_b 253) 1404 = .ok (.iconst 1, 1) := by decide +kernel
theorem d253_1405 : decode (eb_b 253) 1405 = .ok (.iadd, 1) := by decide +kernel
theorem d253_1406 : decode (eb_b 253) 1406 = .ok (.iaload, 1) := by decide +kernel
theorem d253_1407 : decode (eb_b 253) 1407 = .ok (.aload_n 0, 1) := by decide +kernel
theorem d253_1408 : decode (eb_b 253) 1408 = .ok (.iload_n 3, 1) := by decide +kernel
theorem d253_1409 : decode (eb_b 253) 1409 = .ok (.iconst 2, 1) := by decide +kernel
theorem d253_1410 : decode (eb_b 253) 1410 = .ok (.iadd, 1) := by decide +kernel
theorem d253_1411 : decode (eb_b 253) 1411 = .ok (.iaload, 1) := by decide +kernel
theorem d253_1412 : decode (eb_b 253) 1412 = .ok (.invokevirtual 174, 3) := by decide +kernel
theorem wc_106 : Cond.code (eb_y 106) (eb_b 106) (eb_ml 106) (eb_rt 106) ∈ eb_LT := eb_lt 793 (by decide +kernel)
theorem cy_106 : (eb_y 106).cls = eb_cN (eb_rc 106) ∧ (eb_y 106).cls ≠ "java/lang/invoke/MethodHandle" ∧ (eb_y 106).cls ≠ "java/lang/invoke/VarHandle" ∧ (parseMethodDescriptor (eb_y 106).desc).map (fun d => d.parameters.length) = some 2 := by decide +kernel
theorem wi_106 : Cond.instanceMethod (eb_y 106) ∈ eb_LT := eb_lt 791 (by decide +kernel)
theorem wse_106 : Cond.selects (eb_cN (eb_rc 106)) (eb_y 106) (eb_y 106) ∈ eb_LT := eb_lt 792 (by decide +kernel)
theorem kV_106 {L q0 m pc : Nat} {lg : Nat → Bool} {ix : Nat} (hw : Cond.methodLink (eb_own m) ix (eb_y 106) ∈ eb_LT) (hd : decode (eb_b m) pc = .ok (.invokevirtual ix, 3)) : eb_Snd L q0 m pc lg (op_call 106 3 (pc + 3)) := sn_callV false rfl (Or.inr ⟨rfl, _, rfl⟩) (by decide) rfl (by decide) ⟨⟨hw, wi_106, wse_106⟩, wc_106⟩ cy_106 hd
theorem wm_8_174 : Cond.methodLink (eb_cN 8) 174 (eb_y 106) ∈ eb_LT := eb_lt 790 (by decide +kernel)
theorem d253_1415 : decode (eb_b 253) 1415 = .ok (.aload_n 2, 1) := by decide +kernel
theorem d253_1416 : decode (eb_b 253) 1416 = .ok (.aload_n 0, 1) := by decide +kernel
theorem d253_1417 : decode (eb_b 253) 1417 = .ok (.iload_n 3, 1) := by decide +kernel
theorem d253_1418 : decode (eb_b 253) 1418 = .ok (.iconst 1, 1) := by decide +kernel
theorem d253_1419 : decode (eb_b 253) 1419 = .ok (.iadd, 1) := by decide +kernel
theorem d253_1420 : decode (eb_b 253) 1420 = .ok (.iaload, 1) := by decide +kernel
theorem d253_1421 : decode (eb_b 253) 1421 = .ok (.aload_n 0, 1) := by decide +kernel
theorem d253_1422 : decode (eb_b 253) 1422 = .ok (.iload_n 3, 1) := by decide +kernel
theorem d253_1423 : decode (eb_b 253) 1423 = .ok (.iconst 2, 1) := by decide +kernel
theorem d253_1424 : decode (eb_b 253) 1424 = .ok (.iadd, 1) := by decide +kernel
theorem d253_1425 : decode (eb_b 253) 1425 = .ok (.iaload, 1) := by decide +kernel
theorem d253_1426 : decode (eb_b 253) 1426 = .ok (.invokevirtual 177, 3) := by decide +kernel
theorem wc_225 : Cond.code (eb_y 225) (eb_b 225) (eb_ml 225) (eb_rt 225) ∈ eb_LT := eb_lt 1397 (by decide +kernel)
theorem cy_225 : (eb_y 225).cls = eb_cN (eb_rc 225) ∧ (eb_y 225).cls ≠ "java/lang/invoke/MethodHandle" ∧ (eb_y 225).cls ≠ "java/lang/invoke/VarHandle" ∧ (parseMethodDescriptor (eb_y 225).desc).map (fun d => d.parameters.length) = some 2 := by decide +kernel
theorem wi_225 : Cond.instanceMethod (eb_y 225) ∈ eb_LT := eb_lt 1395 (by decide +kernel)
theorem wse_225 : Cond.selects (eb_cN (eb_rc 225)) (eb_y 225) (eb_y 225) ∈ eb_LT := eb_lt 1396 (by decide +kernel)
theorem kV_225 {L q0 m pc : Nat} {lg : Nat → Bool} {ix : Nat} (hw : Cond.methodLink (eb_own m) ix (eb_y 225) ∈ eb_LT) (hd : decode (eb_b m) pc = .ok (.invokevirtual ix, 3)) : eb_Snd L q0 m pc lg (op_call 225 3 (pc + 3)) := sn_callV false rfl (Or.inr ⟨rfl, _, rfl⟩) (by decide) rfl (by decide) ⟨⟨hw, wi_225, wse_225⟩, wc_225⟩ cy_225 hd
theorem wm_8_177 : Cond.methodLink (eb_cN 8) 177 (eb_y 225) ∈ eb_LT := eb_lt 1394 (by decide +kernel)
theorem d253_1429 : decode (eb_b 253) 1429 = .ok (.if_icmp .eq 519, 3) := by decide +kernel
theorem d253_1432 : decode (eb_b 253) 1432 = .ok (.iconst 0, 1) := by decide +kernel
theorem d253_1433 : decode (eb_b 253) 1433 = .ok (.ireturn, 1) := by decide +kernel
theorem d253_1434 : decode (eb_b 253) 1434 = .ok (.aload_n 1, 1) := by decide +kernel
theorem d253_1435 : decode (eb_b 253) 1435 = .ok (.aload_n 0, 1) := by decide +kernel
theorem d253_1436 : decode (eb_b 253) 1436 = .ok (.iload_n 3, 1) := by decide +kernel
theorem d253_1437 : decode (eb_b 253) 1437 = .ok (.iconst 1, 1) := by decide +kernel
theorem d253_1438 : decode (eb_b 253) 1438 = .ok (.iadd, 1) := by decide +kernel
theorem d253_1439 : decode (eb_b 253) 1439 = .ok (.iaload, 1) := by decide +kernel
theorem d253_1440 : decode (eb_b 253) 1440 = .ok (.aload_n 0, 1) := by decide +kernel
theorem d253_1441 : decode (eb_b 253) 1441 = .ok (.iload_n 3, 1) := by decide +kernel
theorem d253_1442 : decode (eb_b 253) 1442 = .ok (.iconst 2, 1) := by decide +kernel
theorem d253_1443 : decode (eb_b 253) 1443 = .ok (.iadd, 1) := by decide +kernel
theorem d253_1444 : decode (eb_b 253) 1444 = .ok (.iaload, 1) := by decide +kernel
theorem d253_1445 : decode (eb_b 253) 1445 = .ok (.aload_n 0, 1) := by decide +kernel
theorem d253_1446 : decode (eb_b 253) 1446 = .ok (.iload_n 3, 1) := by decide +kernel
theorem d253_1447 : decode (eb_b 253) 1447 = .ok (.iconst 3, 1) := by decide +kernel
theorem d253_1448 : decode (eb_b 253) 1448 = .ok (.iadd, 1) := by decide +kernel
theorem d253_1449 : decode (eb_b 253) 1449 = .ok (.iaload, 1) := by decide +kernel
theorem d253_1450 : decode (eb_b 253) 1450 = .ok (.invokevirtual 178, 3) := by decide +kernel
theorem wc_107 : Cond.code (eb_y 107) (eb_b 107) (eb_ml 107) (eb_rt 107) ∈ eb_LT := eb_lt 817 (by decide +kernel)
theorem cy_107 : (eb_y 107).cls = eb_cN (eb_rc 107) ∧ (eb_y 107).cls ≠ "java/lang/invoke/MethodHandle" ∧ (eb_y 107).cls ≠ "java/lang/invoke/VarHandle" ∧ (parseMethodDescriptor (eb_y 107).desc).map (fun d => d.parameters.length) = some 3 := by decide +kernel
theorem wi_107 : Cond.instanceMethod (eb_y 107) ∈ eb_LT := eb_lt 815 (by decide +kernel)
theorem wse_107 : Cond.selects (eb_cN (eb_rc 107)) (eb_y 107) (eb_y 107) ∈ eb_LT := eb_lt 816 (by decide +kernel)
theorem kV_107 {L q0 m pc : Nat} {lg : Nat → Bool} {ix : Nat} (hw : Cond.methodLink (eb_own m) ix (eb_y 107) ∈ eb_LT) (hd : decode (eb_b m) pc = .ok (.invokevirtual ix, 3)) : eb_Snd L q0 m pc lg (op_call 107 4 (pc + 3)) := sn_callV false rfl (Or.inr ⟨rfl, _, rfl⟩) (by decide) rfl (by decide) ⟨⟨hw, wi_107, wse_107⟩, wc_107⟩ cy_107 hd
theorem wm_8_178 : Cond.methodLink (eb_cN 8) 178 (eb_y 107) ∈ eb_LT := eb_lt 814 (by decide +kernel)
theorem d253_1453 : decode (eb_b 253) 1453 = .ok (.aload_n 2, 1) := by decide +kernel
theorem d253_1454 : decode (eb_b 253) 1454 = .ok (.aload_n 0, 1) := by decide +kernel
theorem d253_1455 : decode (eb_b 253) 1455 = .ok (.iload_n 3, 1) := by decide +kernel
theorem d253_1456 : decode (eb_b 253) 1456 = .ok (.iconst 1, 1) := by decide +kernel
theorem d253_1457 : decode (eb_b 253) 1457 = .ok (.iadd, 1) := by decide +kernel
theorem d253_1458 : decode (eb_b 253) 1458 = .ok (.iaload, 1) := by decide +kernel
theorem d253_1459 : decode (eb_b 253) 1459 = .ok (.aload_n 0, 1) := by decide +kernel
theorem d253_1460 : decode (eb_b 253) 1460 = .ok (.iload_n 3, 1) := by decide +kernel
theorem d253_1461 : decode (eb_b 253) 1461 = .ok (.iconst 2, 1) := by decide +kernel
theorem d253_1462 : decode (eb_b 253) 1462 = .ok (.iadd, 1) := by decide +kernel
theorem d253_1463 : decode (eb_b 253) 1463 = .ok (.iaload, 1) := by decide +kernel
theorem d253_1464 : decode (eb_b 253) 1464 = .ok (.aload_n 0, 1) := by decide +kernel
theorem d253_1465 : decode (eb_b 253) 1465 = .ok (.iload_n 3, 1) := by decide +kernel
theorem d253_1466 : decode (eb_b 253) 1466 = .ok (.iconst 3, 1) := by decide +kernel
theorem d253_1467 : decode (eb_b 253) 1467 = .ok (.iadd, 1) := by decide +kernel
theorem d253_1468 : decode (eb_b 253) 1468 = .ok (.iaload, 1) := by decide +kernel
theorem d253_1469 : decode (eb_b 253) 1469 = .ok (.invokevirtual 181, 3) := by decide +kernel
theorem wc_226 : Cond.code (eb_y 226) (eb_b 226) (eb_ml 226) (eb_rt 226) ∈ eb_LT := eb_lt 1416 (by decide +kernel)
theorem cy_226 : (eb_y 226).cls = eb_cN (eb_rc 226) ∧ (eb_y 226).cls ≠ "java/lang/invoke/MethodHandle" ∧ (eb_y 226).cls ≠ "java/lang/invoke/VarHandle" ∧ (parseMethodDescriptor (eb_y 226).desc).map (fun d => d.parameters.length) = some 3 := by decide +kernel
theorem wi_226 : Cond.instanceMethod (eb_y 226) ∈ eb_LT := eb_lt 1414 (by decide +kernel)
theorem wse_226 : Cond.selects (eb_cN (eb_rc 226)) (eb_y 226) (eb_y 226) ∈ eb_LT := eb_lt 1415 (by decide +kernel)
theorem kV_226 {L q0 m pc : Nat} {lg : Nat → Bool} {ix : Nat} (hw : Cond.methodLink (eb_own m) ix (eb_y 226) ∈ eb_LT) (hd : decode (eb_b m) pc = .ok (.invokevirtual ix, 3)) : eb_Snd L q0 m pc lg (op_call 226 4 (pc + 3)) := sn_callV false rfl (Or.inr ⟨rfl, _, rfl⟩) (by decide) rfl (by decide) ⟨⟨hw, wi_226, wse_226⟩, wc_226⟩ cy_226 hd
theorem wm_8_181 : Cond.methodLink (eb_cN 8) 181 (eb_y 226) ∈ eb_LT := eb_lt 1413 (by decide +kernel)
theorem d253_1472 : decode (eb_b 253) 1472 = .ok (.if_icmp .eq 476, 3) := by decide +kernel
theorem d253_1475 : decode (eb_b 253) 1475 = .ok (.iconst 0, 1) := by decide +kernel
theorem d253_1476 : decode (eb_b 253) 1476 = .ok (.ireturn, 1) := by decide +kernel
theorem d253_1477 : decode (eb_b 253) 1477 = .ok (.aload_n 1, 1) := by decide +kernel
theorem d253_1478 : decode (eb_b 253) 1478 = .ok (.aload_n 0, 1) := by decide +kernel
theorem d253_1479 : decode (eb_b 253) 1479 = .ok (.iload_n 3, 1) := by decide +kernel
theorem d253_1480 : decode (eb_b 253) 1480 = .ok (.iconst 1, 1) := by decide +kernel
theorem d253_1481 : decode (eb_b 253) 1481 = .ok (.iadd, 1) := by decide +kernel
theorem d253_1482 : decode (eb_b 253) 1482 = .ok (.iaload, 1) := by decide +kernel
theorem d253_1483 : decode (eb_b 253) 1483 = .ok (.aload_n 0, 1) := by decide +kernel
theorem d253_1484 : decode (eb_b 253) 1484 = .ok (.iload_n 3, 1) := by decide +kernel
theorem d253_1485 : decode (eb_b 253) 1485 = .ok (.iconst 2, 1) := by decide +kernel
theorem d253_1486 : decode (eb_b 253) 1486 = .ok (.iadd, 1) := by decide +kernel
theorem d253_1487 : decode (eb_b 253) 1487 = .ok (.iaload, 1) := by decide +kernel
theorem d253_1488 : decode (eb_b 253) 1488 = .ok (.invokevirtual 182, 3) := by decide +kernel
theorem wc_108 : Cond.code (eb_y 108) (eb_b 108) (eb_ml 108) (eb_rt 108) ∈ eb_LT := eb_lt 821 (by decide +kernel)
theorem cy_108 : (eb_y 108).cls = eb_cN (eb_rc 108) ∧ (eb_y 108).cls ≠ "java/lang/invoke/MethodHandle" ∧ (eb_y 108).cls ≠ "java/lang/invoke/VarHandle" ∧ (parseMethodDescriptor (eb_y 108).desc).map (fun d => d.parameters.length) = some 2 := by decide +kernel
theorem wi_108 : Cond.instanceMethod (eb_y 108) ∈ eb_LT := eb_lt 819 (by decide +kernel)
theorem wse_108 : Cond.selects (eb_cN (eb_rc 108)) (eb_y 108) (eb_y 108) ∈ eb_LT := eb_lt 820 (by decide +kernel)
theorem kV_108 {L q0 m pc : Nat} {lg : Nat → Bool} {ix : Nat} (hw : Cond.methodLink (eb_own m) ix (eb_y 108) ∈ eb_LT) (hd : decode (eb_b m) pc = .ok (.invokevirtual ix, 3)) : eb_Snd L q0 m pc lg (op_call 108 3 (pc + 3)) := sn_callV false rfl (Or.inr ⟨rfl, _, rfl⟩) (by decide) rfl (by decide) ⟨⟨hw, wi_108, wse_108⟩, wc_108⟩ cy_108 hd
theorem wm_8_182 : Cond.methodLink (eb_cN 8) 182 (eb_y 108) ∈ eb_LT := eb_lt 818 (by decide +kernel)
theorem d253_1491 : decode (eb_b 253) 1491 = .ok (.aload_n 2, 1) := by decide +kernel
theorem d253_1492 : decode (eb_b 253) 1492 = .ok (.aload_n 0, 1) := by decide +kernel
theorem d253_1493 : decode (eb_b 253) 1493 = .ok (.iload_n 3, 1) := by decide +kernel
theorem d253_1494 : decode (eb_b 253) 1494 = .ok (.iconst 1, 1) := by decide +kernel
theorem d253_1495 : decode (eb_b 253) 1495 = .ok (.iadd, 1) := by decide +kernel
theorem d253_1496 : decode (eb_b 253) 1496 = .ok (.iaload, 1) := by decide +kernel
theorem d253_1497 : decode (eb_b 253) 1497 = .ok (.aload_n 0, 1) := by decide +kernel
theorem d253_1498 : decode (eb_b 253) 1498 = .ok (.iload_n 3, 1) := by decide +kernel
theorem d253_1499 : decode (eb_b 253) 1499 = .ok (.iconst 2, 1) := by decide +kernel
theorem d253_1500 : decode (eb_b 253) 1500 = .ok (.iadd, 1) := by decide +kernel
theorem d253_1501 : decode (eb_b 253) 1501 = .ok (.iaload, 1) := by decide +kernel
theorem d253_1502 : decode (eb_b 253) 1502 = .ok (.invokevirtual 185, 3) := by decide +kernel
theorem wc_229 : Cond.code (eb_y 229) (eb_b 229) (eb_ml 229) (eb_rt 229) ∈ eb_LT := eb_lt 1420 (by decide +kernel)
theorem cy_229 : (eb_y 229).cls = eb_cN (eb_rc 229) ∧ (eb_y 229).cls ≠ "java/lang/invoke/MethodHandle" ∧ (eb_y 229).cls ≠ "java/lang/invoke/VarHandle" ∧ (parseMethodDescriptor (eb_y 229).desc).map (fun d => d.parameters.length) = some 2 := by decide +kernel
theorem wi_229 : Cond.instanceMethod (eb_y 229) ∈ eb_LT := eb_lt 1418 (by decide +kernel)
theorem wse_229 : Cond.selects (eb_cN (eb_rc 229)) (eb_y 229) (eb_y 229) ∈ eb_LT := eb_lt 1419 (by decide +kernel)
theorem kV_229 {L q0 m pc : Nat} {lg : Nat → Bool} {ix : Nat} (hw : Cond.methodLink (eb_own m) ix (eb_y 229) ∈ eb_LT) (hd : decode (eb_b m) pc = .ok (.invokevirtual ix, 3)) : eb_Snd L q0 m pc lg (op_call 229 3 (pc + 3)) := sn_callV false rfl (Or.inr ⟨rfl, _, rfl⟩) (by decide) rfl (by decide) ⟨⟨hw, wi_229, wse_229⟩, wc_229⟩ cy_229 hd
theorem wm_8_185 : Cond.methodLink (eb_cN 8) 185 (eb_y 229) ∈ eb_LT := eb_lt 1417 (by decide +kernel)
theorem d253_1505 : decode (eb_b 253) 1505 = .ok (.if_icmp .eq 443, 3) := by decide +kernel
theorem d253_1508 : decode (eb_b 253) 1508 = .ok (.iconst 0, 1) := by decide +kernel
theorem d253_1509 : decode (eb_b 253) 1509 = .ok (.ireturn, 1) := by decide +kernel
theorem d253_1510 : decode (eb_b 253) 1510 = .ok (.aload_n 1, 1) := by decide +kernel
theorem d253_1511 : decode (eb_b 253) 1511 = .ok (.aload_n 0, 1) := by decide +kernel
theorem d253_1512 : decode (eb_b 253) 1512 = .ok (.iload_n 3, 1) := by decide +kernel
theorem d253_1513 : decode (eb_b 253) 1513 = .ok (.iconst 1, 1) := by decide +kernel
theorem d253_1514 : decode (eb_b 253) 1514 = .ok (.iadd, 1) := by decide +kernel
theorem d253_1515 : decode (eb_b 253) 1515 = .ok (.iaload, 1) := by decide +kernel
theorem d253_1516 : decode (eb_b 253) 1516 = .ok (.aload_n 0, 1) := by decide +kernel
theorem d253_1517 : decode (eb_b 253) 1517 = .ok (.iload_n 3, 1) := by decide +kernel
theorem d253_1518 : decode (eb_b 253) 1518 = .ok (.iconst 2, 1) := by decide +kernel
theorem d253_1519 : decode (eb_b 253) 1519 = .ok (.iadd, 1) := by decide +kernel
theorem d253_1520 : decode (eb_b 253) 1520 = .ok (.iaload, 1) := by decide +kernel
theorem d253_1521 : decode (eb_b 253) 1521 = .ok (.invokevirtual 186, 3) := by decide +kernel
theorem wc_109 : Cond.code (eb_y 109) (eb_b 109) (eb_ml 109) (eb_rt 109) ∈ eb_LT := eb_lt 839 (by decide +kernel)
theorem cy_109 : (eb_y 109).cls = eb_cN (eb_rc 109) ∧ (eb_y 109).cls ≠ "java/lang/invoke/MethodHandle" ∧ (eb_y 109).cls ≠ "java/lang/invoke/VarHandle" ∧ (parseMethodDescriptor (eb_y 109).desc).map (fun d => d.parameters.length) = some 2 := by decide +kernel
theorem wi_109 : Cond.instanceMethod (eb_y 109) ∈ eb_LT := eb_lt 837 (by decide +kernel)
theorem wse_109 : Cond.selects (eb_cN (eb_rc 109)) (eb_y 109) (eb_y 109) ∈ eb_LT := eb_lt 838 (by decide +kernel)
theorem kV_109 {L q0 m pc : Nat} {lg : Nat → Bool} {ix : Nat} (hw : Cond.methodLink (eb_own m) ix (eb_y 109) ∈ eb_LT) (hd : decode (eb_b m) pc = .ok (.invokevirtual ix, 3)) : eb_Snd L q0 m pc lg (op_call 109 3 (pc + 3)) := sn_callV false rfl (Or.inr ⟨rfl, _, rfl⟩) (by decide) rfl (by decide) ⟨⟨hw, wi_109, wse_109⟩, wc_109⟩ cy_109 hd
theorem wm_8_186 : Cond.methodLink (eb_cN 8) 186 (eb_y 109) ∈ eb_LT := eb_lt 836 (by decide +kernel)
theorem d253_1524 : decode (eb_b 253) 1524 = .ok (.aload_n 2, 1) := by decide +kernel
theorem d253_1525 : decode (eb_b 253) 1525 = .ok (.aload_n 0, 1) := by decide +kernel
theorem d253_1526 : decode (eb_b 253) 1526 = .ok (.iload_n 3, 1) := by decide +kernel
theorem d253_1527 : decode (eb_b 253) 1527 = .ok (.iconst 1, 1) := by decide +kernel
theorem d253_1528 : decode (eb_b 253) 1528 = .ok (.iadd, 1) := by decide +kernel
theorem d253_1529 : decode (eb_b 253) 1529 = .ok (.iaload, 1) := by decide +kernel
theorem d253_1530 : decode (eb_b 253) 1530 = .ok (.aload_n 0, 1) := by decide +kernel
theorem d253_1531 : decode (eb_b 253) 1531 = .ok (.iload_n 3, 1) := by decide +kernel
theorem d253_1532 : decode (eb_b 253) 1532 = .ok (.iconst 2, 1) := by decide +kernel
theorem d253_1533 : decode (eb_b 253) 1533 = .ok (.iadd, 1) := by decide +kernel
theorem d253_1534 : decode (eb_b 253) 1534 = .ok (.iaload, 1) := by decide +kernel
theorem d253_1535 : decode (eb_b 253) 1535 = .ok (.invokevirtual 189, 3) := by decide +kernel
theorem wc_230 : Cond.code (eb_y 230) (eb_b 230) (eb_ml 230) (eb_rt 230) ∈ eb_LT := eb_lt 1432 (by decide +kernel)
theorem cy_230 : (eb_y 230).cls = eb_cN (eb_rc 230) ∧ (eb_y 230).cls ≠ "java/lang/invoke/MethodHandle" ∧ (eb_y 230).cls ≠ "java/lang/invoke/VarHandle" ∧ (parseMethodDescriptor (eb_y 230).desc).map (fun d => d.parameters.length) = some 2 := by decide +kernel
theorem wi_230 : Cond.instanceMethod (eb_y 230) ∈ eb_LT := eb_lt 1430 (by decide +kernel)
theorem wse_230 : Cond.selects (eb_cN (eb_rc 230)) (eb_y 230) (eb_y 230) ∈ eb_LT := eb_lt 1431 (by decide +kernel)
theorem kV_230 {L q0 m pc : Nat} {lg : Nat → Bool} {ix : Nat} (hw : Cond.methodLink (eb_own m) ix (eb_y 230) ∈ eb_LT) (hd : decode (eb_b m) pc = .ok (.invokevirtual ix, 3)) : eb_Snd L q0 m pc lg (op_call 230 3 (pc + 3)) := sn_callV false rfl (Or.inr ⟨rfl, _, rfl⟩) (by decide) rfl (by decide) ⟨⟨hw, wi_230, wse_230⟩, wc_230⟩ cy_230 hd
theorem wm_8_189 : Cond.methodLink (eb_cN 8) 189 (eb_y 230) ∈ eb_LT := eb_lt 1429 (by decide +kernel)
theorem d253_1538 : decode (eb_b 253) 1538 = .ok (.if_icmp .eq 410, 3) := by decide +kernel
theorem d253_1541 : decode (eb_b 253) 1541 = .ok (.iconst 0, 1) := by decide +kernel
theorem d253_1542 : decode (eb_b 253) 1542 = .ok (.ireturn, 1) := by decide +kernel
theorem d253_1543 : decode (eb_b 253) 1543 = .ok (.aload_n 1, 1) := by decide +kernel
theorem d253_1544 : decode (eb_b 253) 1544 = .ok (.aload_n 0, 1) := by decide +kernel
theorem d253_1545 : decode (eb_b 253) 1545 = .ok (.iload_n 3, 1) := by decide +kernel
theorem d253_1546 : decode (eb_b 253) 1546 = .ok (.iconst 1, 1) := by decide +kernel
theorem d253_1547 : decode (eb_b 253) 1547 = .ok (.iadd, 1) := by decide +kernel
theorem d253_1548 : decode (eb_b 253) 1548 = .ok (.iaload, 1) := by decide +kernel
theorem d253_1549 : decode (eb_b 253) 1549 = .ok (.invokevirtual 190, 3) := by decide +kernel
theorem wc_110 : Cond.code (eb_y 110) (eb_b 110) (eb_ml 110) (eb_rt 110) ∈ eb_LT := eb_lt 843 (by decide +kernel)
theorem cy_110 : (eb_y 110).cls = eb_cN (eb_rc 110) ∧ (eb_y 110).cls ≠ "java/lang/invoke/MethodHandle" ∧ (eb_y 110).cls ≠ "java/lang/invoke/VarHandle" ∧ (parseMethodDescriptor (eb_y 110).desc).map (fun d => d.parameters.length) = some 1 := by decide +kernel
theorem wi_110 : Cond.instanceMethod (eb_y 110) ∈ eb_LT := eb_lt 841 (by decide +kernel)
theorem wse_110 : Cond.selects (eb_cN (eb_rc 110)) (eb_y 110) (eb_y 110) ∈ eb_LT := eb_lt 842 (by decide +kernel)
theorem kV_110 {L q0 m pc : Nat} {lg : Nat → Bool} {ix : Nat} (hw : Cond.methodLink (eb_own m) ix (eb_y 110) ∈ eb_LT) (hd : decode (eb_b m) pc = .ok (.invokevirtual ix, 3)) : eb_Snd L q0 m pc lg (op_call 110 2 (pc + 3)) := sn_callV false rfl (Or.inr ⟨rfl, _, rfl⟩) (by decide) rfl (by decide) ⟨⟨hw, wi_110, wse_110⟩, wc_110⟩ cy_110 hd
theorem wm_8_190 : Cond.methodLink (eb_cN 8) 190 (eb_y 110) ∈ eb_LT := eb_lt 840 (by decide +kernel)
theorem d253_1552 : decode (eb_b 253) 1552 = .ok (.aload_n 2, 1) := by decide +kernel
theorem d253_1553 : decode (eb_b 253) 1553 = .ok (.aload_n 0, 1) := by decide +kernel
theorem d253_1554 : decode (eb_b 253) 1554 = .ok (.iload_n 3, 1) := by decide +kernel
theorem d253_1555 : decode (eb_b 253) 1555 = .ok (.iconst 1, 1) := by decide +kernel
theorem d253_1556 : decode (eb_b 253) 1556 = .ok (.iadd, 1) := by decide +kernel
theorem d253_1557 : decode (eb_b 253) 1557 = .ok (.iaload, 1) := by decide +kernel
theorem d253_1558 : decode (eb_b 253) 1558 = .ok (.invokevirtual 193, 3) := by decide +kernel
theorem wc_231 : Cond.code (eb_y 231) (eb_b 231) (eb_ml 231) (eb_rt 231) ∈ eb_LT := eb_lt 1436 (by decide +kernel)
theorem cy_231 : (eb_y 231).cls = eb_cN (eb_rc 231) ∧ (eb_y 231).cls ≠ "java/lang/invoke/MethodHandle" ∧ (eb_y 231).cls ≠ "java/lang/invoke/VarHandle" ∧ (parseMethodDescriptor (eb_y 231).desc).map (fun d => d.parameters.length) = some 1 := by decide +kernel
theorem wi_231 : Cond.instanceMethod (eb_y 231) ∈ eb_LT := eb_lt 1434 (by decide +kernel)
theorem wse_231 : Cond.selects (eb_cN (eb_rc 231)) (eb_y 231) (eb_y 231) ∈ eb_LT := eb_lt 1435 (by decide +kernel)
theorem kV_231 {L q0 m pc : Nat} {lg : Nat → Bool} {ix : Nat} (hw : Cond.methodLink (eb_own m) ix (eb_y 231) ∈ eb_LT) (hd : decode (eb_b m) pc = .ok (.invokevirtual ix, 3)) : eb_Snd L q0 m pc lg (op_call 231 2 (pc + 3)) := sn_callV false rfl (Or.inr ⟨rfl, _, rfl⟩) (by decide) rfl (by decide) ⟨⟨hw, wi_231, wse_231⟩, wc_231⟩ cy_231 hd
theorem wm_8_193 : Cond.methodLink (eb_cN 8) 193 (eb_y 231) ∈ eb_LT := eb_lt 1433 (by decide +kernel)
theorem d253_1561 : decode (eb_b 253) 1561 = .ok (.if_icmp .eq 387, 3) := by decide +kernel
theorem d253_1564 : decode (eb_b 253) 1564 = .ok (.iconst 0, 1) := by decide +kernel
theorem d253_1565 : decode (eb_b 253) 1565 = .ok (.ireturn, 1) := by decide +kernel
theorem d253_1566 : decode (eb_b 253) 1566 = .ok (.aload_n 1, 1) := by decide +kernel
theorem d253_1567 : decode (eb_b 253) 1567 = .ok (.aload_n 0, 1) := by decide +kernel
theorem d253_1568 : decode (eb_b 253) 1568 = .ok (.iload_n 3, 1) := by decide +kernel
theorem d253_1569 : decode (eb_b 253) 1569 = .ok (.iconst 1, 1) := by decide +kernel
theorem d253_1570 : decode (eb_b 253) 1570 = .ok (.iadd, 1) := by decide +kernel
theorem d253_1571 : decode (eb_b 253) 1571 = .ok (.iaload, 1) := by decide +kernel
theorem d253_1572 : decode (eb_b 253) 1572 = .ok (.aload_n 0, 1) := by decide +kernel
theorem d253_1573 : decode (eb_b 253) 1573 = .ok (.iload_n 3, 1) := by decide +kernel
theorem d253_1574 : decode (eb_b 253) 1574 = .ok (.iconst 2, 1) := by decide +kernel
theorem d253_1575 : decode (eb_b 253) 1575 = .ok (.iadd, 1) := by decide +kernel
theorem d253_1576 : decode (eb_b 253) 1576 = .ok (.iaload, 1) := by decide +kernel
theorem d253_1577 : decode (eb_b 253) 1577 = .ok (.invokevirtual 194, 3) := by decide +kernel
theorem wc_111 : Cond.code (eb_y 111) (eb_b 111) (eb_ml 111) (eb_rt 111) ∈ eb_LT := eb_lt 847 (by decide +kernel)
theorem cy_111 : (eb_y 111).cls = eb_cN (eb_rc 111) ∧ (eb_y 111).cls ≠ "java/lang/invoke/MethodHandle" ∧ (eb_y 111).cls ≠ "java/lang/invoke/VarHandle" ∧ (parseMethodDescriptor (eb_y 111).desc).map (fun d => d.parameters.length) = some 2 := by decide +kernel
theorem wi_111 : Cond.instanceMethod (eb_y 111) ∈ eb_LT := eb_lt 845 (by decide +kernel)
theorem wse_111 : Cond.selects (eb_cN (eb_rc 111)) (eb_y 111) (eb_y 111) ∈ eb_LT := eb_lt 846 (by decide +kernel)
theorem kV_111 {L q0 m pc : Nat} {lg : Nat → Bool} {ix : Nat} (hw : Cond.methodLink (eb_own m) ix (eb_y 111) ∈ eb_LT) (hd : decode (eb_b m) pc = .ok (.invokevirtual ix, 3)) : eb_Snd L q0 m pc lg (op_call 111 3 (pc + 3)) := sn_callV false rfl (Or.inr ⟨rfl, _, rfl⟩) (by decide) rfl (by decide) ⟨⟨hw, wi_111, wse_111⟩, wc_111⟩ cy_111 hd
theorem wm_8_194 : Cond.methodLink (eb_cN 8) 194 (eb_y 111) ∈ eb_LT := eb_lt 844 (by decide +kernel)
theorem d253_1580 : decode (eb_b 253) 1580 = .ok (.aload_n 2, 1) := by decide +kernel
theorem d253_1581 : decode (eb_b 253) 1581 = .ok (.aload_n 0, 1) := by decide +kernel
theorem d253_1582 : decode (eb_b 253) 1582 = .ok (.iload_n 3, 1) := by decide +kernel
theorem d253_1583 : decode (eb_b 253) 1583 = .ok (.iconst 1, 1) := by decide +kernel
theorem d253_1584 : decode (eb_b 253) 1584 = .ok (.iadd, 1) := by decide +kernel
theorem d253_1585 : decode (eb_b 253) 1585 = .ok (.iaload, 1) := by decide +kernel
theorem d253_1586 : decode (eb_b 253) 1586 = .ok (.aload_n 0, 1) := by decide +kernel
theorem d253_1587 : decode (eb_b 253) 1587 = .ok (.iload_n 3, 1) := by decide +kernel
theorem d253_1588 : decode (eb_b 253) 1588 = .ok (.iconst 2, 1) := by decide +kernel
theorem d253_1589 : decode (eb_b 253) 1589 = .ok (.iadd, 1) := by decide +kernel
theorem d253_1590 : decode (eb_b 253) 1590 = .ok (.iaload, 1) := by decide +kernel
theorem d253_1591 : decode (eb_b 253) 1591 = .ok (.invokevirtual 197, 3) := by decide +kernel
theorem wc_233 : Cond.code (eb_y 233) (eb_b 233) (eb_ml 233) (eb_rt 233) ∈ eb_LT := eb_lt 1440 (by decide +kernel)
theorem cy_233 : (eb_y 233).cls = eb_cN (eb_rc 233) ∧ (eb_y 233).cls ≠ "java/lang/invoke/MethodHandle" ∧ (eb_y 233).cls ≠ "java/lang/invoke/VarHandle" ∧ (parseMethodDescriptor (eb_y 233).desc).map (fun d => d.parameters.length) = some 2 := by decide +kernel
theorem wi_233 : Cond.instanceMethod (eb_y 233) ∈ eb_LT := eb_lt 1438 (by decide +kernel)
theorem wse_233 : Cond.selects (eb_cN (eb_rc 233)) (eb_y 233) (eb_y 233) ∈ eb_LT := eb_lt 1439 (by decide +kernel)
theorem kV_233 {L q0 m pc : Nat} {lg : Nat → Bool} {ix : Nat} (hw : Cond.methodLink (eb_own m) ix (eb_y 233) ∈ eb_LT) (hd : decode (eb_b m) pc = .ok (.invokevirtual ix, 3)) : eb_Snd L q0 m pc lg (op_call 233 3 (pc + 3)) := sn_callV false rfl (Or.inr ⟨rfl, _, rfl⟩) (by decide) rfl (by decide) ⟨⟨hw, wi_233, wse_233⟩, wc_233⟩ cy_233 hd
theorem wm_8_197 : Cond.methodLink (eb_cN 8) 197 (eb_y 233) ∈ eb_LT := eb_lt 1437 (by decide +kernel)
theorem d253_1594 : decode (eb_b 253) 1594 = .ok (.if_icmp .eq 354, 3) := by decide +kernel
theorem d253_1597 : decode (eb_b 253) 1597 = .ok (.iconst 0, 1) := by decide +kernel
theorem d253_1598 : decode (eb_b 253) 1598 = .ok (.ireturn, 1) := by decide +kernel
theorem d253_1599 : decode (eb_b 253) 1599 = .ok (.aload_n 1, 1) := by decide +kernel
theorem d253_1600 : decode (eb_b 253) 1600 = .ok (.aload_n 0, 1) := by decide +kernel
theorem d253_1601 : decode (eb_b 253) 1601 = .ok (.iload_n 3, 1) := by decide +kernel
theorem d253_1602 : decode (eb_b 253) 1602 = .ok (.iconst 1, 1) := by decide +kernel
theorem d253_1603 : decode (eb_b 253) 1603 = .ok (.iadd, 1) := by decide +kernel
theorem d253_1604 : decode (eb_b 253) 1604 = .ok (.iaload, 1) := by decide +kernel
theorem d253_1605 : decode (eb_b 253) 1605 = .ok (.aload_n 0, 1) := by decide +kernel
theorem d253_1606 : decode (eb_b 253) 1606 = .ok (.iload_n 3, 1) := by decide +kernel
theorem d253_1607 : decode (eb_b 253) 1607 = .ok (.iconst 2, 1) := by decide +kernel
theorem d253_1608 : decode (eb_b 253) 1608 = .ok (.iadd, 1) := by decide +kernel
theorem d253_1609 : decode (eb_b 253) 1609 = .ok (.iaload, 1) := by decide +kernel
theorem d253_1610 : decode (eb_b 253) 1610 = .ok (.invokevirtual 198, 3) := by decide +kernel
theorem wc_112 : Cond.code (eb_y 112) (eb_b 112) (eb_ml 112) (eb_rt 112) ∈ eb_LT := eb_lt 862 (by decide +kernel)
theorem cy_112 : (eb_y 112).cls = eb_cN (eb_rc 112) ∧ (eb_y 112).cls ≠ "java/lang/invoke/MethodHandle" ∧ (eb_y 112).cls ≠ "java/lang/invoke/VarHandle" ∧ (parseMethodDescriptor (eb_y 112).desc).map (fun d => d.parameters.length) = some 2 := by decide +kernel
theorem wi_112 : Cond.instanceMethod (eb_y 112) ∈ eb_LT := eb_lt 860 (by decide +kernel)
theorem wse_112 : Cond.selects (eb_cN (eb_rc 112)) (eb_y 112) (eb_y 112) ∈ eb_LT := eb_lt 861 (by decide +kernel)
theorem kV_112 {L q0 m pc : Nat} {lg : Nat → Bool} {ix : Nat} (hw : Cond.methodLink (eb_own m) ix (eb_y 112) ∈ eb_LT) (hd : decode (eb_b m) pc = .ok (.invokevirtual ix, 3)) : eb_Snd L q0 m pc lg (op_call 112 3 (pc + 3)) := sn_callV false rfl (Or.inr ⟨rfl, _, rfl⟩) (by decide) rfl (by decide) ⟨⟨hw, wi_112, wse_112⟩, wc_112⟩ cy_112 hd
theorem wm_8_198 : Cond.methodLink (eb_cN 8) 198 (eb_y 112) ∈ eb_LT := eb_lt 859 (by decide +kernel)
theorem d253_1613 : decode (eb_b 253) 1613 = .ok (.aload_n 2, 1) := by decide +kernel
theorem d253_1614 : decode (eb_b 253) 1614 = .ok (.aload_n 0, 1) := by decide +kernel
theorem d253_1615 : decode (eb_b 253) 1615 = .ok (.iload_n 3, 1) := by decide +kernel
theorem d253_1616 : decode (eb_b 253) 1616 = .ok (.iconst 1, 1) := by decide +kernel
theorem d253_1617 : decode (eb_b 253) 1617 = .ok (.iadd, 1) := by decide +kernel
theorem d253_1618 : decode (eb_b 253) 1618 = .ok (.iaload, 1) := by decide +kernel
theorem d253_1619 : decode (eb_b 253) 1619 = .ok (.aload_n 0, 1) := by decide +kernel
theorem d253_1620 : decode (eb_b 253) 1620 = .ok (.iload_n 3, 1) := by decide +kernel
theorem d253_1621 : decode (eb_b 253) 1621 = .ok (.iconst 2, 1) := by decide +kernel
theorem d253_1622 : decode (eb_b 253) 1622 = .ok (.iadd, 1) := by decide +kernel
theorem d253_1623 : decode (eb_b 253) 1623 = .ok (.iaload, 1) := by decide +kernel
theorem d253_1624 : decode (eb_b 253) 1624 = .ok (.invokevirtual 201, 3) := by decide +kernel
theorem wc_235 : Cond.code (eb_y 235) (eb_b 235) (eb_ml 235) (eb_rt 235) ∈ eb_LT := eb_lt 1449 (by decide +kernel)
theorem cy_235 : (eb_y 235).cls = eb_cN (eb_rc 235) ∧ (eb_y 235).cls ≠ "java/lang/invoke/MethodHandle" ∧ (eb_y 235).cls ≠ "java/lang/invoke/VarHandle" ∧ (parseMethodDescriptor (eb_y 235).desc).map (fun d => d.parameters.length) = some 2 := by decide +kernel
theorem wi_235 : Cond.instanceMethod (eb_y 235) ∈ eb_LT := eb_lt 1447 (by decide +kernel)
theorem wse_235 : Cond.selects (eb_cN (eb_rc 235)) (eb_y 235) (eb_y 235) ∈ eb_LT := eb_lt 1448 (by decide +kernel)
theorem kV_235 {L q0 m pc : Nat} {lg : Nat → Bool} {ix : Nat} (hw : Cond.methodLink (eb_own m) ix (eb_y 235) ∈ eb_LT) (hd : decode (eb_b m) pc = .ok (.invokevirtual ix, 3)) : eb_Snd L q0 m pc lg (op_call 235 3 (pc + 3)) := sn_callV false rfl (Or.inr ⟨rfl, _, rfl⟩) (by decide) rfl (by decide) ⟨⟨hw, wi_235, wse_235⟩, wc_235⟩ cy_235 hd
theorem wm_8_201 : Cond.methodLink (eb_cN 8) 201 (eb_y 235) ∈ eb_LT := eb_lt 1446 (by decide +kernel)
theorem d253_1627 : decode (eb_b 253) 1627 = .ok (.if_icmp .eq 321, 3) := by decide +kernel
theorem d253_1630 : decode (eb_b 253) 1630 = .ok (.iconst 0, 1) := by decide +kernel
theorem d253_1631 : decode (eb_b 253) 1631 = .ok (.ireturn, 1) := by decide +kernel
theorem d253_1632 : decode (eb_b 253) 1632 = .ok (.aload_n 1, 1) := by decide +kernel
theorem d253_1633 : decode (eb_b 253) 1633 = .ok (.aload_n 0, 1) := by decide +kernel
theorem d253_1634 : decode (eb_b 253) 1634 = .ok (.iload_n 3, 1) := by decide +kernel
theorem d253_1635 : decode (eb_b 253) 1635 = .ok (.iconst 1, 1) := by decide +kernel
theorem d253_1636 : decode (eb_b 253) 1636 = .ok (.iadd, 1) := by decide +kernel
theorem d253_1637 : decode (eb_b 253) 1637 = .ok (.iaload, 1) := by decide +kernel
theorem d253_1638 : decode (eb_b 253) 1638 = .ok (.aload_n 0, 1) := by decide +kernel
theorem d253_1639 : decode (eb_b 253) 1639 = .ok (.iload_n 3, 1) := by decide +kernel
theorem d253_1640 : decode (eb_b 253) 1640 = .ok (.iconst 2, 1) := by decide +kernel
theorem d253_1641 : decode (eb_b 253) 1641 = .ok (.iadd, 1) := by decide +kernel
theorem d253_1642 : decode (eb_b 253) 1642 = .ok (.iaload, 1) := by decide +kernel
theorem d253_1643 : decode (eb_b 253) 1643 = .ok (.aload_n 0, 1) := by decide +kernel
theorem d253_1644 : decode (eb_b 253) 1644 = .ok (.iload_n 3, 1) := by decide +kernel
theorem d253_1645 : decode (eb_b 253) 1645 = .ok (.iconst 3, 1) := by decide +kernel
theorem d253_1646 : decode (eb_b 253) 1646 = .ok (.iadd, 1) := by decide +kernel
theorem d253_1647 : decode (eb_b 253) 1647 = .ok (.iaload, 1) := by decide +kernel
theorem d253_1648 : decode (eb_b 253) 1648 = .ok (.invokevirtual 202, 3) := by decide +kernel
theorem wc_113 : Cond.code (eb_y 113) (eb_b 113) (eb_ml 113) (eb_rt 113) ∈ eb_LT := eb_lt 870 (by decide +kernel)
theorem cy_113 : (eb_y 113).cls = eb_cN (eb_rc 113) ∧ (eb_y 113).cls ≠ "java/lang/invoke/MethodHandle" ∧ (eb_y 113).cls ≠ "java/lang/invoke/VarHandle" ∧ (parseMethodDescriptor (eb_y 113).desc).map (fun d => d.parameters.length) = some 3 := by decide +kernel
theorem wi_113 : Cond.instanceMethod (eb_y 113) ∈ eb_LT := eb_lt 868 (by decide +kernel)
theorem wse_113 : Cond.selects (eb_cN (eb_rc 113)) (eb_y 113) (eb_y 113) ∈ eb_LT := eb_lt 869 (by decide +kernel)
theorem kV_113 {L q0 m pc : Nat} {lg : Nat → Bool} {ix : Nat} (hw : Cond.methodLink (eb_own m) ix (eb_y 113) ∈ eb_LT) (hd : decode (eb_b m) pc = .ok (.invokevirtual ix, 3)) : eb_Snd L q0 m pc lg (op_call 113 4 (pc + 3)) := sn_callV false rfl (Or.inr ⟨rfl, _, rfl⟩) (by decide) rfl (by decide) ⟨⟨hw, wi_113, wse_113⟩, wc_113⟩ cy_113 hd
theorem wm_8_202 : Cond.methodLink (eb_cN 8) 202 (eb_y 113) ∈ eb_LT := eb_lt 867 (by decide +kernel)
theorem d253_1651 : decode (eb_b 253) 1651 = .ok (.aload_n 2, 1) := by decide +kernel
theorem d253_1652 : decode (eb_b 253) 1652 = .ok (.aload_n 0, 1) := by decide +kernel
theorem d253_1653 : decode (eb_b 253) 1653 = .ok (.iload_n 3, 1) := by decide +kernel
theorem d253_1654 : decode (eb_b 253) 1654 = .ok (.iconst 1, 1) := by decide +kernel
theorem d253_1655 : decode (eb_b 253) 1655 = .ok (.iadd, 1) := by decide +kernel
theorem d253_1656 : decode (eb_b 253) 1656 = .ok (.iaload, 1) := by decide +kernel
theorem d253_1657 : decode (eb_b 253) 1657 = .ok (.aload_n 0, 1) := by decide +kernel
theorem d253_1658 : decode (eb_b 253) 1658 = .ok (.iload_n 3, 1) := by decide +kernel
theorem d253_1659 : decode (eb_b 253) 1659 = .ok (.iconst 2, 1) := by decide +kernel
theorem d253_1660 : decode (eb_b 253) 1660 = .ok (.iadd, 1) := by decide +kernel
theorem d253_1661 : decode (eb_b 253) 1661 = .ok (.iaload, 1) := by decide +kernel
theorem d253_1662 : decode (eb_b 253) 1662 = .ok (.aload_n 0, 1) := by decide +kernel
theorem d253_1663 : decode (eb_b 253) 1663 = .ok (.iload_n 3, 1) := by decide +kernel
theorem d253_1664 : decode (eb_b 253) 1664 = .ok (.iconst 3, 1) := by decide +kernel
theorem d253_1665 : decode (eb_b 253) 1665 = .ok (.iadd, 1) := by decide +kernel
theorem d253_1666 : decode (eb_b 253) 1666 = .ok (.iaload, 1) := by decide +kernel
theorem d253_1667 : decode (eb_b 253) 1667 = .ok (.invokevirtual 205, 3) := by decide +kernel
theorem wc_236 : Cond.code (eb_y 236) (eb_b 236) (eb_ml 236) (eb_rt 236) ∈ eb_LT := eb_lt 1457 (by decide +kernel)
theorem cy_236 : (eb_y 236).cls = eb_cN (eb_rc 236) ∧ (eb_y 236).cls ≠ "java/lang/invoke/MethodHandle" ∧ (eb_y 236).cls ≠ "java/lang/invoke/VarHandle" ∧ (parseMethodDescriptor (eb_y 236).desc).map (fun d => d.parameters.length) = some 3 := by decide +kernel
theorem wi_236 : Cond.instanceMethod (eb_y 236) ∈ eb_LT := eb_lt 1455 (by decide +kernel)
theorem wse_236 : Cond.selects (eb_cN (eb_rc 236)) (eb_y 236) (eb_y 236) ∈ eb_LT := eb_lt 1456 (by decide +kernel)
theorem kV_236 {L q0 m pc : Nat} {lg : Nat → Bool} {ix : Nat} (hw : Cond.methodLink (eb_own m) ix (eb_y 236) ∈ eb_LT) (hd : decode (eb_b m) pc = .ok (.invokevirtual ix, 3)) : eb_Snd L q0 m pc lg (op_call 236 4 (pc + 3)) := sn_callV false rfl (Or.inr ⟨rfl, _, rfl⟩) (by decide) rfl (by decide) ⟨⟨hw, wi_236, wse_236⟩, wc_236⟩ cy_236 hd
theorem wm_8_205 : Cond.methodLink (eb_cN 8) 205 (eb_y 236) ∈ eb_LT := eb_lt 1454 (by decide +kernel)
theorem d253_1670 : decode (eb_b 253) 1670 = .ok (.if_icmp .eq 278, 3) := by decide +kernel
theorem d253_1673 : decode (eb_b 253) 1673 = .ok (.iconst 0, 1) := by decide +kernel
theorem d253_1674 : decode (eb_b 253) 1674 = .ok (.ireturn, 1) := by decide +kernel
theorem d253_1675 : decode (eb_b 253) 1675 = .ok (.aload_n 1, 1) := by decide +kernel
theorem d253_1676 : decode (eb_b 253) 1676 = .ok (.aload_n 0, 1) := by decide +kernel
theorem d253_1677 : decode (eb_b 253) 1677 = .ok (.iload_n 3, 1) := by decide +kernel
theorem d253_1678 : decode (eb_b 253) 1678 = .ok (.iconst 1, 1) := by decide +kernel
theorem d253_1679 : decode (eb_b 253) 1679 = .ok (.iadd, 1) := by decide +kernel
theorem d253_1680 : decode (eb_b 253) 1680 = .ok (.iaload, 1) := by decide +kernel
theorem d253_1681 : decode (eb_b 253) 1681 = .ok (.aload_n 0, 1) := by decide +kernel
theorem d253_1682 : decode (eb_b 253) 1682 = .ok (.iload_n 3, 1) := by decide +kernel
theorem d253_1683 : decode (eb_b 253) 1683 = .ok (.iconst 2, 1) := by decide +kernel
theorem d253_1684 : decode (eb_b 253) 1684 = .ok (.iadd, 1) := by decide +kernel
theorem d253_1685 : decode (eb_b 253) 1685 = .ok (.iaload, 1) := by decide +kernel
theorem d253_1686 : decode (eb_b 253) 1686 = .ok (.invokevirtual 206, 3) := by decide +kernel
theorem wc_114 : Cond.code (eb_y 114) (eb_b 114) (eb_ml 114) (eb_rt 114) ∈ eb_LT := eb_lt 874 (by decide +kernel)
theorem cy_114 : (eb_y 114).cls = eb_cN (eb_rc 114) ∧ (eb_y 114).cls ≠ "java/lang/invoke/MethodHandle" ∧ (eb_y 114).cls ≠ "java/lang/invoke/VarHandle" ∧ (parseMethodDescriptor (eb_y 114).desc).map (fun d => d.parameters.length) = some 2 := by decide +kernel
theorem wi_114 : Cond.instanceMethod (eb_y 114) ∈ eb_LT := eb_lt 872 (by decide +kernel)
theorem wse_114 : Cond.selects (eb_cN (eb_rc 114)) (eb_y 114) (eb_y 114) ∈ eb_LT := eb_lt 873 (by decide +kernel)
theorem kV_114 {L q0 m pc : Nat} {lg : Nat → Bool} {ix : Nat} (hw : Cond.methodLink (eb_own m) ix (eb_y 114) ∈ eb_LT) (hd : decode (eb_b m) pc = .ok (.invokevirtual ix, 3)) : eb_Snd L q0 m pc lg (op_call 114 3 (pc + 3)) := sn_callV false rfl (Or.inr ⟨rfl, _, rfl⟩) (by decide) rfl (by decide) ⟨⟨hw, wi_114, wse_114⟩, wc_114⟩ cy_114 hd
theorem wm_8_206 : Cond.methodLink (eb_cN 8) 206 (eb_y 114) ∈ eb_LT := eb_lt 871 (by decide +kernel)
theorem d253_1689 : decode (eb_b 253) 1689 = .ok (.aload_n 2, 1) := by decide +kernel
theorem d253_1690 : decode (eb_b 253) 1690 = .ok (.aload_n 0, 1) := by decide +kernel
theorem d253_1691 : decode (eb_b 253) 1691 = .ok (.iload_n 3, 1) := by decide +kernel
theorem d253_1692 : decode (eb_b 253) 1692 = .ok (.iconst 1, 1) := by decide +kernel
theorem d253_1693 : decode (eb_b 253) 1693 = .ok (.iadd, 1) := by decide +kernel
theorem d253_1694 : decode (eb_b 253) 1694 = .ok (.iaload, 1) := by decide +kernel
theorem d253_1695 : decode (eb_b 253) 1695 = .ok (.aload_n 0, 1) := by decide +kernel
theorem d253_1696 : decode (eb_b 253) 1696 = .ok (.iload_n 3, 1) := by decide +kernel
theorem d253_1697 : decode (eb_b 253) 1697 = .ok (.iconst 2, 1) := by decide +kernel
theorem d253_1698 : decode (eb_b 253) 1698 = .ok (.iadd, 1) := by decide +kernel
theorem d253_1699 : decode (eb_b 253) 1699 = .ok (.iaload, 1) := by decide +kernel
theorem d253_1700 : decode (eb_b 253) 1700 = .ok (.invokevirtual 209, 3) := by decide +kernel
theorem wc_237 : Cond.code (eb_y 237) (eb_b 237) (eb_ml 237) (eb_rt 237) ∈ eb_LT := eb_lt 1461 (by decide +kernel)
theorem cy_237 : (eb_y 237).cls = eb_cN (eb_rc 237) ∧ (eb_y 237).cls ≠ "java/lang/invoke/MethodHandle" ∧ (eb_y 237).cls ≠ "java/lang/invoke/VarHandle" ∧ (parseMethodDescriptor (eb_y 237).desc).map (fun d => d.parameters.length) = some 2 := by decide +kernel
theorem wi_237 : Cond.instanceMethod (eb_y 237) ∈ eb_LT := eb_lt 1459 (by decide +kernel)
theorem wse_237 : Cond.selects (eb_cN (eb_rc 237)) (eb_y 237) (eb_y 237) ∈ eb_LT := eb_lt 1460 (by decide +kernel)
theorem kV_237 {L q0 m pc : Nat} {lg : Nat → Bool} {ix : Nat} (hw : Cond.methodLink (eb_own m) ix (eb_y 237) ∈ eb_LT) (hd : decode (eb_b m) pc = .ok (.invokevirtual ix, 3)) : eb_Snd L q0 m pc lg (op_call 237 3 (pc + 3)) := sn_callV false rfl (Or.inr ⟨rfl, _, rfl⟩) (by decide) rfl (by decide) ⟨⟨hw, wi_237, wse_237⟩, wc_237⟩ cy_237 hd
theorem wm_8_209 : Cond.methodLink (eb_cN 8) 209 (eb_y 237) ∈ eb_LT := eb_lt 1458 (by decide +kernel)
theorem d253_1703 : decode (eb_b 253) 1703 = .ok (.if_icmp .eq 245, 3) := by decide +kernel
theorem d253_1706 : decode (eb_b 253) 1706 = .ok (.iconst 0, 1) := by decide +kernel
theorem d253_1707 : decode (eb_b 253) 1707 = .ok (.ireturn, 1) := by decide +kernel
theorem d253_1708 : decode (eb_b 253) 1708 = .ok (.aload_n 1, 1) := by decide +kernel
theorem d253_1709 : decode (eb_b 253) 1709 = .ok (.aload_n 0, 1) := by decide +kernel
theorem d253_1710 : decode (eb_b 253) 1710 = .ok (.iload_n 3, 1) := by decide +kernel
theorem d253_1711 : decode (eb_b 253) 1711 = .ok (.iconst 1, 1) := by decide +kernel
theorem d253_1712 : decode (eb_b 253) 1712 = .ok (.iadd, 1) := by decide +kernel
theorem d253_1713 : decode (eb_b 253) 1713 = .ok (.iaload, 1) := by decide +kernel
theorem d253_1714 : decode (eb_b 253) 1714 = .ok (.aload_n 0, 1) := by decide +kernel
theorem d253_1715 : decode (eb_b 253) 1715 = .ok (.iload_n 3, 1) := by decide +kernel
theorem d253_1716 : decode (eb_b 253) 1716 = .ok (.iconst 2, 1) := by decide +kernel
theorem d253_1717 : decode (eb_b 253) 1717 = .ok (.iadd, 1) := by decide +kernel
theorem d253_1718 : decode (eb_b 253) 1718 = .ok (.iaload, 1) := by decide +kernel
theorem d253_1719 : decode (eb_b 253) 1719 = .ok (.aload_n 0, 1) := by decide +kernel
theorem d253_1720 : decode (eb_b 253) 1720 = .ok (.iload_n 3, 1) := by decide +kernel
theorem d253_1721 : decode (eb_b 253) 1721 = .ok (.iconst 3, 1) := by decide +kernel
theorem d253_1722 : decode (eb_b 253) 1722 = .ok (.iadd, 1) := by decide +kernel
theorem d253_1723 : decode (eb_b 253) 1723 = .ok (.iaload, 1) := by decide +kernel
theorem d253_1724 : decode (eb_b 253) 1724 = .ok (.aload_n 0, 1) := by decide +kernel
theorem d253_1725 : decode (eb_b 253) 1725 = .ok (.iload_n 3, 1) := by decide +kernel
theorem d253_1726 : decode (eb_b 253) 1726 = .ok (.iconst 4, 1) := by decide +kernel
theorem d253_1727 : decode (eb_b 253) 1727 = .ok (.iadd, 1) := by decide +kernel
theorem d253_1728 : decode (eb_b 253) 1728 = .ok (.iaload, 1) := by decide +kernel
theorem d253_1729 : decode (eb_b 253) 1729 = .ok (.invokevirtual 210, 3) := by decide +kernel
theorem wc_115 : Cond.code (eb_y 115) (eb_b 115) (eb_ml 115) (eb_rt 115) ∈ eb_LT := eb_lt 878 (by decide +kernel)
theorem cy_115 : (eb_y 115).cls = eb_cN (eb_rc 115) ∧ (eb_y 115).cls ≠ "java/lang/invoke/MethodHandle" ∧ (eb_y 115).cls ≠ "java/lang/invoke/VarHandle" ∧ (parseMethodDescriptor (eb_y 115).desc).map (fun d => d.parameters.length) = some 4 := by decide +kernel
theorem wi_115 : Cond.instanceMethod (eb_y 115) ∈ eb_LT := eb_lt 876 (by decide +kernel)
theorem wse_115 : Cond.selects (eb_cN (eb_rc 115)) (eb_y 115) (eb_y 115) ∈ eb_LT := eb_lt 877 (by decide +kernel)
theorem kV_115 {L q0 m pc : Nat} {lg : Nat → Bool} {ix : Nat} (hw : Cond.methodLink (eb_own m) ix (eb_y 115) ∈ eb_LT) (hd : decode (eb_b m) pc = .ok (.invokevirtual ix, 3)) : eb_Snd L q0 m pc lg (op_call 115 5 (pc + 3)) := sn_callV false rfl (Or.inr ⟨rfl, _, rfl⟩) (by decide) rfl (by decide) ⟨⟨hw, wi_115, wse_115⟩, wc_115⟩ cy_115 hd
theorem wm_8_210 : Cond.methodLink (eb_cN 8) 210 (eb_y 115) ∈ eb_LT := eb_lt 875 (by decide +kernel)
theorem d253_1732 : decode (eb_b 253) 1732 = .ok (.aload_n 2, 1) := by decide +kernel
theorem d253_1733 : decode (eb_b 253) 1733 = .ok (.aload_n 0, 1) := by decide +kernel
theorem d253_1734 : decode (eb_b 253) 1734 = .ok (.iload_n 3, 1) := by decide +kernel
theorem d253_1735 : decode (eb_b 253) 1735 = .ok (.iconst 1, 1) := by decide +kernel
theorem d253_1736 : decode (eb_b 253) 1736 = .ok (.iadd, 1) := by decide +kernel
theorem d253_1737 : decode (eb_b 253) 1737 = .ok (.iaload, 1) := by decide +kernel
theorem d253_1738 : decode (eb_b 253) 1738 = .ok (.aload_n 0, 1) := by decide +kernel
theorem d253_1739 : decode (eb_b 253) 1739 = .ok (.iload_n 3, 1) := by decide +kernel
theorem d253_1740 : decode (eb_b 253) 1740 = .ok (.iconst 2, 1) := by decide +kernel
theorem d253_1741 : decode (eb_b 253) 1741 = .ok (.iadd, 1) := by decide +kernel
theorem d253_1742 : decode (eb_b 253) 1742 = .ok (.iaload, 1) := by decide +kernel
theorem d253_1743 : decode (eb_b 253) 1743 = .ok (.aload_n 0, 1) := by decide +kernel
theorem d253_1744 : decode (eb_b 253) 1744 = .ok (.iload_n 3, 1) := by decide +kernel
theorem d253_1745 : decode (eb_b 253) 1745 = .ok (.iconst 3, 1) := by decide +kernel
theorem d253_1746 : decode (eb_b 253) 1746 = .ok (.iadd, 1) := by decide +kernel
theorem d253_1747 : decode (eb_b 253) 1747 = .ok (.iaload, 1) := by decide +kernel
theorem d253_1748 : decode (eb_b 253) 1748 = .ok (.aload_n 0, 1) := by decide +kernel
theorem d253_1749 : decode (eb_b 253) 1749 = .ok (.iload_n 3, 1) := by decide +kernel
theorem d253_1750 : decode (eb_b 253) 1750 = .ok (.iconst 4, 1) := by decide +kernel
theorem d253_1751 : decode (eb_b 253) 1751 = .ok (.iadd, 1) := by decide +kernel
theorem d253_1752 : decode (eb_b 253) 1752 = .ok (.iaload, 1) := by decide +kernel
theorem d253_1753 : decode (eb_b 253) 1753 = .ok (.invokevirtual 214, 3) := by decide +kernel
theorem wc_238 : Cond.code (eb_y 238) (eb_b 238) (eb_ml 238) (eb_rt 238) ∈ eb_LT := eb_lt 1465 (by decide +kernel)
theorem cy_238 : (eb_y 238).cls = eb_cN (eb_rc 238) ∧ (eb_y 238).cls ≠ "java/lang/invoke/MethodHandle" ∧ (eb_y 238).cls ≠ "java/lang/invoke/VarHandle" ∧ (parseMethodDescriptor (eb_y 238).desc).map (fun d => d.parameters.length) = some 4 := by decide +kernel
theorem wi_238 : Cond.instanceMethod (eb_y 238) ∈ eb_LT := eb_lt 1463 (by decide +kernel)
theorem wse_238 : Cond.selects (eb_cN (eb_rc 238)) (eb_y 238) (eb_y 238) ∈ eb_LT := eb_lt 1464 (by decide +kernel)
theorem kV_238 {L q0 m pc : Nat} {lg : Nat → Bool} {ix : Nat} (hw : Cond.methodLink (eb_own m) ix (eb_y 238) ∈ eb_LT) (hd : decode (eb_b m) pc = .ok (.invokevirtual ix, 3)) : eb_Snd L q0 m pc lg (op_call 238 5 (pc + 3)) := sn_callV false rfl (Or.inr ⟨rfl, _, rfl⟩) (by decide) rfl (by decide) ⟨⟨hw, wi_238, wse_238⟩, wc_238⟩ cy_238 hd
theorem wm_8_214 : Cond.methodLink (eb_cN 8) 214 (eb_y 238) ∈ eb_LT := eb_lt 1462 (by decide +kernel)
theorem d253_1756 : decode (eb_b 253) 1756 = .ok (.if_icmp .eq 192, 3) := by decide +kernel
theorem d253_1759 : decode (eb_b 253) 1759 = .ok (.iconst 0, 1) := by decide +kernel
theorem d253_1760 : decode (eb_b 253) 1760 = .ok (.ireturn, 1) := by decide +kernel
theorem d253_1761 : decode (eb_b 253) 1761 = .ok (.aload_n 1, 1) := by decide +kernel
theorem d253_1762 : decode (eb_b 253) 1762 = .ok (.aload_n 0, 1) := by decide +kernel
theorem d253_1763 : decode (eb_b 253) 1763 = .ok (.iload_n 3, 1) := by decide +kernel
theorem d253_1764 : decode (eb_b 253) 1764 = .ok (.iconst 1, 1) := by decide +kernel
theorem d253_1765 : decode (eb_b 253) 1765 = .ok (.iadd, 1) := by decide +kernel
theorem d253_1766 : decode (eb_b 253) 1766 = .ok (.iaload, 1) := by decide +kernel
theorem d253_1767 : decode (eb_b 253) 1767 = .ok (.invokevirtual 215, 3) := by decide +kernel
theorem wc_116 : Cond.code (eb_y 116) (eb_b 116) (eb_ml 116) (eb_rt 116) ∈ eb_LT := eb_lt 887 (by decide +kernel)
theorem cy_116 : (eb_y 116).cls = eb_cN (eb_rc 116) ∧ (eb_y 116).cls ≠ "java/lang/invoke/MethodHandle" ∧ (eb_y 116).cls ≠ "java/lang/invoke/VarHandle" ∧ (parseMethodDescriptor (eb_y 116).desc).map (fun d => d.parameters.length) = some 1 := by decide +kernel
theorem wi_116 : Cond.instanceMethod (eb_y 116) ∈ eb_LT := eb_lt 885 (by decide +kernel)
theorem wse_116 : Cond.selects (eb_cN (eb_rc 116)) (eb_y 116) (eb_y 116) ∈ eb_LT := eb_lt 886 (by decide +kernel)
theorem kV_116 {L q0 m pc : Nat} {lg : Nat → Bool} {ix : Nat} (hw : Cond.methodLink (eb_own m) ix (eb_y 116) ∈ eb_LT) (hd : decode (eb_b m) pc = .ok (.invokevirtual ix, 3)) : eb_Snd L q0 m pc lg (op_call 116 2 (pc + 3)) := sn_callV false rfl (Or.inr ⟨rfl, _, rfl⟩) (by decide) rfl (by decide) ⟨⟨hw, wi_116, wse_116⟩, wc_116⟩ cy_116 hd
theorem wm_8_215 : Cond.methodLink (eb_cN 8) 215 (eb_y 116) ∈ eb_LT := eb_lt 884 (by decide +kernel)
theorem d253_1770 : decode (eb_b 253) 1770 = .ok (.aload_n 2, 1) := by decide +kernel
theorem d253_1771 : decode (eb_b 253) 1771 = .ok (.aload_n 0, 1) := by decide +kernel
theorem d253_1772 : decode (eb_b 253) 1772 = .ok (.iload_n 3, 1) := by decide +kernel
theorem d253_1773 : decode (eb_b 253) 1773 = .ok (.iconst 1, 1) := by decide +kernel
theorem d253_1774 : decode (eb_b 253) 1774 = .ok (.iadd, 1) := by decide +kernel
theorem d253_1775 : decode (eb_b 253) 1775 = .ok (.iaload, 1) := by decide +kernel
theorem d253_1776 : decode (eb_b 253) 1776 = .ok (.invokevirtual 218, 3) := by decide +kernel
theorem wc_239 : Cond.code (eb_y 239) (eb_b 239) (eb_ml 239) (eb_rt 239) ∈ eb_LT := eb_lt 1469 (by decide +kernel)
theorem cy_239 : (eb_y 239).cls = eb_cN (eb_rc 239) ∧ (eb_y 239).cls ≠ "java/lang/invoke/MethodHandle" ∧ (eb_y 239).cls ≠ "java/lang/invoke/VarHandle" ∧ (parseMethodDescriptor (eb_y 239).desc).map (fun d => d.parameters.length) = some 1 := by decide +kernel
theorem wi_239 : Cond.instanceMethod (eb_y 239) ∈ eb_LT := eb_lt 1467 (by decide +kernel)
theorem wse_239 : Cond.selects (eb_cN (eb_rc 239)) (eb_y 239) (eb_y 239) ∈ eb_LT := eb_lt 1468 (by decide +kernel)
theorem kV_239 {L q0 m pc : Nat} {lg : Nat → Bool} {ix : Nat} (hw : Cond.methodLink (eb_own m) ix (eb_y 239) ∈ eb_LT) (hd : decode (eb_b m) pc = .ok (.invokevirtual ix, 3)) : eb_Snd L q0 m pc lg (op_call 239 2 (pc + 3)) := sn_callV false rfl (Or.inr ⟨rfl, _, rfl⟩) (by decide) rfl (by decide) ⟨⟨hw, wi_239, wse_239⟩, wc_239⟩ cy_239 hd
theorem wm_8_218 : Cond.methodLink (eb_cN 8) 218 (eb_y 239) ∈ eb_LT := eb_lt 1466 (by decide +kernel)
theorem d253_1779 : decode (eb_b 253) 1779 = .ok (.if_icmp .eq 169, 3) := by decide +kernel
theorem d253_1782 : decode (eb_b 253) 1782 = .ok (.iconst 0, 1) := by decide +kernel
theorem d253_1783 : decode (eb_b 253) 1783 = .ok (.ireturn, 1) := by decide +kernel
theorem d253_1784 : decode (eb_b 253) 1784 = .ok (.aload_n 1, 1) := by decide +kernel
theorem d253_1785 : decode (eb_b 253) 1785 = .ok (.aload_n 0, 1) := by decide +kernel
theorem d253_1786 : decode (eb_b 253) 1786 = .ok (.iload_n 3, 1) := by decide +kernel
theorem d253_1787 : decode (eb_b 253) 1787 = .ok (.iconst 1, 1) := by decide +kernel
theorem d253_1788 : decode (eb_b 253) 1788 = .ok (.iadd, 1) := by decide +kernel
theorem d253_1789 : decode (eb_b 253) 1789 = .ok (.iaload, 1) := by decide +kernel
theorem d253_1790 : decode (eb_b 253) 1790 = .ok (.aload_n 0, 1) := by decide +kernel
theorem d253_1791 : decode (eb_b 253) 1791 = .ok (.iload_n 3, 1) := by decide +kernel
theorem d253_1792 : decode (eb_b 253) 1792 = .ok (.iconst 2, 1) := by decide +kernel
theorem d253_1793 : decode (eb_b 253) 1793 = .ok (.iadd, 1) := by decide +kernel
theorem d253_1794 : decode (eb_b 253) 1794 = .ok (.iaload, 1) := by decide +kernel
theorem d253_1795 : decode (eb_b 253) 1795 = .ok (.invokevirtual 219, 3) := by decide +kernel
theorem wc_117 : Cond.code (eb_y 117) (eb_b 117) (eb_ml 117) (eb_rt 117) ∈ eb_LT := eb_lt 891 (by decide +kernel)
theorem cy_117 : (eb_y 117).cls = eb_cN (eb_rc 117) ∧ (eb_y 117).cls ≠ "java/lang/invoke/MethodHandle" ∧ (eb_y 117).cls ≠ "java/lang/invoke/VarHandle" ∧ (parseMethodDescriptor (eb_y 117).desc).map (fun d => d.parameters.length) = some 2 := by decide +kernel
theorem wi_117 : Cond.instanceMethod (eb_y 117) ∈ eb_LT := eb_lt 889 (by decide +kernel)
theorem wse_117 : Cond.selects (eb_cN (eb_rc 117)) (eb_y 117) (eb_y 117) ∈ eb_LT := eb_lt 890 (by decide +kernel)
theorem kV_117 {L q0 m pc : Nat} {lg : Nat → Bool} {ix : Nat} (hw : Cond.methodLink (eb_own m) ix (eb_y 117) ∈ eb_LT) (hd : decode (eb_b m) pc = .ok (.invokevirtual ix, 3)) : eb_Snd L q0 m pc lg (op_call 117 3 (pc + 3)) := sn_callV false rfl (Or.inr ⟨rfl, _, rfl⟩) (by decide) rfl (by decide) ⟨⟨hw, wi_117, wse_117⟩, wc_117⟩ cy_117 hd
theorem wm_8_219 : Cond.methodLink (eb_cN 8) 219 (eb_y 117) ∈ eb_LT := eb_lt 888 (by decide +kernel)
theorem d253_1798 : decode (eb_b 253) 1798 = .ok (.aload_n 2, 1) := by decide +kernel
theorem d253_1799 : decode (eb_b 253) 1799 = .ok (.aload_n 0, 1) := by decide +kernel
theorem d253_1800 : decode (eb_b 253) 1800 = .ok (.iload_n 3, 1) := by decide +kernel
theorem d253_1801 : decode (eb_b 253) 1801 = .ok (.iconst 1, 1) := by decide +kernel
theorem d253_1802 : decode (eb_b 253) 1802 = .ok (.iadd, 1) := by decide +kernel
theorem d253_1803 : decode (eb_b 253) 1803 = .ok (.iaload, 1) := by decide +kernel
theorem d253_1804 : decode (eb_b 253) 1804 = .ok (.aload_n 0, 1) := by decide +kernel
theorem d253_1805 : decode (eb_b 253) 1805 = .ok (.iload_n 3, 1) := by decide +kernel
theorem d253_1806 : decode (eb_b 253) 1806 = .ok (.iconst 2, 1) := by decide +kernel
theorem d253_1807 : decode (eb_b 253) 1807 = .ok (.iadd, 1) := by decide +kernel
theorem d253_1808 : decode (eb_b 253) 1808 = .ok (.iaload, 1) := by decide +kernel
theorem d253_1809 : decode (eb_b 253) 1809 = .ok (.invokevirtual 222, 3) := by decide +kernel
theorem wc_240 : Cond.code (eb_y 240) (eb_b 240) (eb_ml 240) (eb_rt 240) ∈ eb_LT := eb_lt 1473 (by decide +kernel)
theorem cy_240 : (eb_y 240).cls = eb_cN (eb_rc 240) ∧ (eb_y 240).cls ≠ "java/lang/invoke/MethodHandle" ∧ (eb_y 240).cls ≠ "java/lang/invoke/VarHandle" ∧ (parseMethodDescriptor (eb_y 240).desc).map (fun d => d.parameters.length) = some 2 := by decide +kernel
theorem wi_240 : Cond.instanceMethod (eb_y 240) ∈ eb_LT := eb_lt 1471 (by decide +kernel)
theorem wse_240 : Cond.selects (eb_cN (eb_rc 240)) (eb_y 240) (eb_y 240) ∈ eb_LT := eb_lt 1472 (by decide +kernel)
theorem kV_240 {L q0 m pc : Nat} {lg : Nat → Bool} {ix : Nat} (hw : Cond.methodLink (eb_own m) ix (eb_y 240) ∈ eb_LT) (hd : decode (eb_b m) pc = .ok (.invokevirtual ix, 3)) : eb_Snd L q0 m pc lg (op_call 240 3 (pc + 3)) := sn_callV false rfl (Or.inr ⟨rfl, _, rfl⟩) (by decide) rfl (by decide) ⟨⟨hw, wi_240, wse_240⟩, wc_240⟩ cy_240 hd
theorem wm_8_222 : Cond.methodLink (eb_cN 8) 222 (eb_y 240) ∈ eb_LT := eb_lt 1470 (by decide +kernel)
theorem d253_1812 : decode (eb_b 253) 1812 = .ok (.if_icmp .eq 136, 3) := by decide +kernel
theorem d253_1815 : decode (eb_b 253) 1815 = .ok (.iconst 0, 1) := by decide +kernel
theorem d253_1816 : decode (eb_b 253) 1816 = .ok (.ireturn, 1) := by decide +kernel
theorem d253_1817 : decode (eb_b 253) 1817 = .ok (.aload_n 1, 1) := by decide +kernel
theorem d253_1818 : decode (eb_b 253) 1818 = .ok (.invokevirtual 223, 3) := by decide +kernel
theorem wc_118 : Cond.code (eb_y 118) (eb_b 118) (eb_ml 118) (eb_rt 118) ∈ eb_LT := eb_lt 895 (by decide +kernel)
theorem cy_118 : (eb_y 118).cls = eb_cN (eb_rc 118) ∧ (eb_y 118).cls ≠ "java/lang/invoke/MethodHandle" ∧ (eb_y 118).cls ≠ "java/lang/invoke/VarHandle" ∧ (parseMethodDescriptor (eb_y 118).desc).map (fun d => d.parameters.length) = some 0 := by decide +kernel
theorem wi_118 : Cond.instanceMethod (eb_y 118) ∈ eb_LT := eb_lt 893 (by decide +kernel)
theorem wse_118 : Cond.selects (eb_cN (eb_rc 118)) (eb_y 118) (eb_y 118) ∈ eb_LT := eb_lt 894 (by decide +kernel)
theorem kV_118 {L q0 m pc : Nat} {lg : Nat → Bool} {ix : Nat} (hw : Cond.methodLink (eb_own m) ix (eb_y 118) ∈ eb_LT) (hd : decode (eb_b m) pc = .ok (.invokevirtual ix, 3)) : eb_Snd L q0 m pc lg (op_call 118 1 (pc + 3)) := sn_callV false rfl (Or.inr ⟨rfl, _, rfl⟩) (by decide) rfl (by decide) ⟨⟨hw, wi_118, wse_118⟩, wc_118⟩ cy_118 hd
theorem wm_8_223 : Cond.methodLink (eb_cN 8) 223 (eb_y 118) ∈ eb_LT := eb_lt 892 (by decide +kernel)
theorem d253_1821 : decode (eb_b 253) 1821 = .ok (.aload_n 2, 1) := by decide +kernel
theorem d253_1822 : decode (eb_b 253) 1822 = .ok (.invokevirtual 226, 3) := by decide +kernel
theorem wc_241 : Cond.code (eb_y 241) (eb_b 241) (eb_ml 241) (eb_rt 241) ∈ eb_LT := eb_lt 1477 (by decide +kernel)
theorem cy_241 : (eb_y 241).cls = eb_cN (eb_rc 241) ∧ (eb_y 241).cls ≠ "java/lang/invoke/MethodHandle" ∧ (eb_y 241).cls ≠ "java/lang/invoke/VarHandle" ∧ (parseMethodDescriptor (eb_y 241).desc).map (fun d => d.parameters.length) = some 0 := by decide +kernel
theorem wi_241 : Cond.instanceMethod (eb_y 241) ∈ eb_LT := eb_lt 1475 (by decide +kernel)
theorem wse_241 : Cond.selects (eb_cN (eb_rc 241)) (eb_y 241) (eb_y 241) ∈ eb_LT := eb_lt 1476 (by decide +kernel)
theorem kV_241 {L q0 m pc : Nat} {lg : Nat → Bool} {ix : Nat} (hw : Cond.methodLink (eb_own m) ix (eb_y 241) ∈ eb_LT) (hd : decode (eb_b m) pc = .ok (.invokevirtual ix, 3)) : eb_Snd L q0 m pc lg (op_call 241 1 (pc + 3)) := sn_callV false rfl (Or.inr ⟨rfl, _, rfl⟩) (by decide) rfl (by decide) ⟨⟨hw, wi_241, wse_241⟩, wc_241⟩ cy_241 hd
theorem wm_8_226 : Cond.methodLink (eb_cN 8) 226 (eb_y 241) ∈ eb_LT := eb_lt 1474 (by decide +kernel)
theorem d253_1825 : decode (eb_b 253) 1825 = .ok (.if_icmp .eq 123, 3) := by decide +kernel
theorem d253_1828 : decode (eb_b 253) 1828 = .ok (.iconst 0, 1) := by decide +kernel
theorem d253_1829 : decode (eb_b 253) 1829 = .ok (.ireturn, 1) := by decide +kernel
theorem d253_1830 : decode (eb_b 253) 1830 = .ok (.aload_n 1, 1) := by decide +kernel
theorem d253_1831 : decode (eb_b 253) 1831 = .ok (.aload_n 0, 1) := by decide +kernel
theorem d253_1832 : decode (eb_b 253) 1832 = .ok (.iload_n 3, 1) := by decide +kernel
theorem d253_1833 : decode (eb_b 253) 1833 = .ok (.iconst 1, 1) := by decide +kernel
theorem d253_1834 : decode (eb_b 253) 1834 = .ok (.iadd, 1) := by decide +kernel
theorem d253_1835 : decode (eb_b 253) 1835 = .ok (.iaload, 1) := by decide +kernel
theorem d253_1836 : decode (eb_b 253) 1836 = .ok (.invokevirtual 227, 3) := by decide +kernel
theorem wc_119 : Cond.code (eb_y 119) (eb_b 119) (eb_ml 119) (eb_rt 119) ∈ eb_LT := eb_lt 899 (by decide +kernel)
theorem cy_119 : (eb_y 119).cls = eb_cN (eb_rc 119) ∧ (eb_y 119).cls ≠ "java/lang/invoke/MethodHandle" ∧ (eb_y 119).cls ≠ "java/lang/invoke/VarHandle" ∧ (parseMethodDescriptor (eb_y 119).desc).map (fun d => d.parameters.length) = some 1 := by decide +kernel
theorem wi_119 : Cond.instanceMethod (eb_y 119) ∈ eb_LT := eb_lt 897 (by decide +kernel)
theorem wse_119 : Cond.selects (eb_cN (eb_rc 119)) (eb_y 119) (eb_y 119) ∈ eb_LT := eb_lt 898 (by decide +kernel)
theorem kV_119 {L q0 m pc : Nat} {lg : Nat → Bool} {ix : Nat} (hw : Cond.methodLink (eb_own m) ix (eb_y 119) ∈ eb_LT) (hd : decode (eb_b m) pc = .ok (.invokevirtual ix, 3)) : eb_Snd L q0 m pc lg (op_call 119 2 (pc + 3)) := sn_callV false rfl (Or.inr ⟨rfl, _, rfl⟩) (by decide) rfl (by decide) ⟨⟨hw, wi_119, wse_119⟩, wc_119⟩ cy_119 hd
theorem wm_8_227 : Cond.methodLink (eb_cN 8) 227 (eb_y 119) ∈ eb_LT := eb_lt 896 (by decide +kernel)
theorem d253_1839 : decode (eb_b 253) 1839 = .ok (.aload_n 2, 1) := by decide +kernel
theorem d253_1840 : decode (eb_b 253) 1840 = .ok (.aload_n 0, 1) := by decide +kernel
theorem d253_1841 : decode (eb_b 253) 1841 = .ok (.iload_n 3, 1) := by decide +kernel
theorem d253_1842 : decode (eb_b 253) 1842 = .ok (.iconst 1, 1) := by decide +kernel
theorem d253_1843 : decode (eb_b 253) 1843 = .ok (.iadd, 1) := by decide +kernel
theorem d253_1844 : decode (eb_b 253) 1844 = .ok (.iaload, 1) := by decide +kernel
theorem d253_1845 : decode (eb_b 253) 1845 = .ok (.invokevirtual 230, 3) := by decide +kernel
theorem wc_242 : Cond.code (eb_y 242) (eb_b 242) (eb_ml 242) (eb_rt 242) ∈ eb_LT := eb_lt 1481 (by decide +kernel)
theorem cy_242 : (eb_y 242).cls = eb_cN (eb_rc 242) ∧ (eb_y 242).cls ≠ "java/lang/invoke/MethodHandle" ∧ (eb_y 242).cls ≠ "java/lang/invoke/VarHandle" ∧ (parseMethodDescriptor (eb_y 242).desc).map (fun d => d.parameters.length) = some 1 := by decide +kernel
theorem wi_242 : Cond.instanceMethod (eb_y 242) ∈ eb_LT := eb_lt 1479 (by decide +kernel)
theorem wse_242 : Cond.selects (eb_cN (eb_rc 242)) (eb_y 242) (eb_y 242) ∈ eb_LT := eb_lt 1480 (by decide +kernel)
theorem kV_242 {L q0 m pc : Nat} {lg : Nat → Bool} {ix : Nat} (hw : Cond.methodLink (eb_own m) ix (eb_y 242) ∈ eb_LT) (hd : decode (eb_b m) pc = .ok (.invokevirtual ix, 3)) : eb_Snd L q0 m pc lg (op_call 242 2 (pc + 3)) := sn_callV false rfl (Or.inr ⟨rfl, _, rfl⟩) (by decide) rfl (by decide) ⟨⟨hw, wi_242, wse_242⟩, wc_242⟩ cy_242 hd
theorem wm_8_230 : Cond.methodLink (eb_cN 8) 230 (eb_y 242) ∈ eb_LT := eb_lt 1478 (by decide +kernel)
theorem d253_1848 : decode (eb_b 253) 1848 = .ok (.if_icmp .eq 100, 3) := by decide +kernel
theorem d253_1851 : decode (eb_b 253) 1851 = .ok (.iconst 0, 1) := by decide +kernel
theorem d253_1852 : decode (eb_b 253) 1852 = .ok (.ireturn, 1) := by decide +kernel
theorem d253_1853 : decode (eb_b 253) 1853 = .ok (.aload_n 1, 1) := by decide +kernel
theorem d253_1854 : decode (eb_b 253) 1854 = .ok (.aload_n 0, 1) := by decide +kernel
theorem d253_1855 : decode (eb_b 253) 1855 = .ok (.iload_n 3, 1) := by decide +kernel
theorem d253_1856 : decode (eb_b 253) 1856 = .ok (.iconst 1, 1) := by decide +kernel
theorem d253_1857 : decode (eb_b 253) 1857 = .ok (.iadd, 1) := by decide +kernel
theorem d253_1858 : decode (eb_b 253) 1858 = .ok (.iaload, 1) := by decide +kernel
theorem d253_1859 : decode (eb_b 253) 1859 = .ok (.invokevirtual 231, 3) := by decide +kernel
theorem wc_120 : Cond.code (eb_y 120) (eb_b 120) (eb_ml 120) (eb_rt 120) ∈ eb_LT := eb_lt 903 (by decide +kernel)
theorem cy_120 : (eb_y 120).cls = eb_cN (eb_rc 120) ∧ (eb_y 120).cls ≠ "java/lang/invoke/MethodHandle" ∧ (eb_y 120).cls ≠ "java/lang/invoke/VarHandle" ∧ (parseMethodDescriptor (eb_y 120).desc).map (fun d => d.parameters.length) = some 1 := by decide +kernel
theorem wi_120 : Cond.instanceMethod (eb_y 120) ∈ eb_LT := eb_lt 901 (by decide +kernel)
theorem wse_120 : Cond.selects (eb_cN (eb_rc 120)) (eb_y 120) (eb_y 120) ∈ eb_LT := eb_lt 902 (by decide +kernel)
theorem kV_120 {L q0 m pc : Nat} {lg : Nat → Bool} {ix : Nat} (hw : Cond.methodLink (eb_own m) ix (eb_y 120) ∈ eb_LT) (hd : decode (eb_b m) pc = .ok (.invokevirtual ix, 3)) : eb_Snd L q0 m pc lg (op_call 120 2 (pc + 3)) := sn_callV false rfl (Or.inr ⟨rfl, _, rfl⟩) (by decide) rfl (by decide) ⟨⟨hw, wi_120, wse_120⟩, wc_120⟩ cy_120 hd
theorem wm_8_231 : Cond.methodLink (eb_cN 8) 231 (eb_y 120) ∈ eb_LT := eb_lt 900 (by decide +kernel)
theorem d253_1862 : decode (eb_b 253) 1862 = .ok (.aload_n 2, 1) := by decide +kernel
theorem d253_1863 : decode (eb_b 253) 1863 = .ok (.aload_n 0, 1) := by decide +kernel
theorem d253_1864 : decode (eb_b 253) 1864 = .ok (.iload_n 3, 1) := by decide +kernel
theorem d253_1865 : decode (eb_b 253) 1865 = .ok (.iconst 1, 1) := by decide +kernel
theorem d253_1866 : decode (eb_b 253) 1866 = .ok (.iadd, 1) := by decide +kernel
theorem d253_1867 : decode (eb_b 253) 1867 = .ok (.iaload, 1) := by decide +kernel
theorem d253_1868 : decode (eb_b 253) 1868 = .ok (.invokevirtual 234, 3) := by decide +kernel
theorem wc_244 : Cond.code (eb_y 244) (eb_b 244) (eb_ml 244) (eb_rt 244) ∈ eb_LT := eb_lt 1485 (by decide +kernel)
theorem cy_244 : (eb_y 244).cls = eb_cN (eb_rc 244) ∧ (eb_y 244).cls ≠ "java/lang/invoke/MethodHandle" ∧ (eb_y 244).cls ≠ "java/lang/invoke/VarHandle" ∧ (parseMethodDescriptor (eb_y 244).desc).map (fun d => d.parameters.length) = some 1 := by decide +kernel
theorem wi_244 : Cond.instanceMethod (eb_y 244) ∈ eb_LT := eb_lt 1483 (by decide +kernel)
theorem wse_244 : Cond.selects (eb_cN (eb_rc 244)) (eb_y 244) (eb_y 244) ∈ eb_LT := eb_lt 1484 (by decide +kernel)
theorem kV_244 {L q0 m pc : Nat} {lg : Nat → Bool} {ix : Nat} (hw : Cond.methodLink (eb_own m) ix (eb_y 244) ∈ eb_LT) (hd : decode (eb_b m) pc = .ok (.invokevirtual ix, 3)) : eb_Snd L q0 m pc lg (op_call 244 2 (pc + 3)) := sn_callV false rfl (Or.inr ⟨rfl, _, rfl⟩) (by decide) rfl (by decide) ⟨⟨hw, wi_244, wse_244⟩, wc_244⟩ cy_244 hd
theorem wm_8_234 : Cond.methodLink (eb_cN 8) 234 (eb_y 244) ∈ eb_LT := eb_lt 1482 (by decide +kernel)
theorem d253_1871 : decode (eb_b 253) 1871 = .ok (.if_icmp .eq 77, 3) := by decide +kernel
theorem d253_1874 : decode (eb_b 253) 1874 = .ok (.iconst 0, 1) := by decide +kernel
theorem d253_1875 : decode (eb_b 253) 1875 = .ok (.ireturn, 1) := by decide +kernel
theorem d253_1876 : decode (eb_b 253) 1876 = .ok (.aload_n 1, 1) := by decide +kernel
theorem d253_1877 : decode (eb_b 253) 1877 = .ok (.aload_n 0, 1) := by decide +kernel
theorem d253_1878 : decode (eb_b 253) 1878 = .ok (.iload_n 3, 1) := by decide +kernel
theorem d253_1879 : decode (eb_b 253) 1879 = .ok (.iconst 1, 1) := by decide +kernel
theorem d253_1880 : decode (eb_b 253) 1880 = .ok (.iadd, 1) := by decide +kernel
theorem d253_1881 : decode (eb_b 253) 1881 = .ok (.iaload, 1) := by decide +kernel
theorem d253_1882 : decode (eb_b 253) 1882 = .ok (.invokevirtual 235, 3) := by decide +kernel
theorem wc_121 : Cond.code (eb_y 121) (eb_b 121) (eb_ml 121) (eb_rt 121) ∈ eb_LT := eb_lt 917 (by decide +kernel)
theorem cy_121 : (eb_y 121).cls = eb_cN (eb_rc 121) ∧ (eb_y 121).cls ≠ "java/lang/invoke/MethodHandle" ∧ (eb_y 121).cls ≠ "java/lang/invoke/VarHandle" ∧ (parseMethodDescriptor (eb_y 121).desc).map (fun d => d.parameters.length) = some 1 := by decide +kernel
theorem wi_121 : Cond.instanceMethod (eb_y 121) ∈ eb_LT := eb_lt 915 (by decide +kernel)
theorem wse_121 : Cond.selects (eb_cN (eb_rc 121)) (eb_y 121) (eb_y 121) ∈ eb_LT := eb_lt 916 (by decide +kernel)
theorem kV_121 {L q0 m pc : Nat} {lg : Nat → Bool} {ix : Nat} (hw : Cond.methodLink (eb_own m) ix (eb_y 121) ∈ eb_LT) (hd : decode (eb_b m) pc = .ok (.invokevirtual ix, 3)) : eb_Snd L q0 m pc lg (op_call 121 2 (pc + 3)) := sn_callV false rfl (Or.inr ⟨rfl, _, rfl⟩) (by decide) rfl (by decide) ⟨⟨hw, wi_121, wse_121⟩, wc_121⟩ cy_121 hd
theorem wm_8_235 : Cond.methodLink (eb_cN 8) 235 (eb_y 121) ∈ eb_LT := eb_lt 914 (by decide +kernel)
theorem d253_1885 : decode (eb_b 253) 1885 = .ok (.aload_n 2, 1) := by decide +kernel
theorem d253_1886 : decode (eb_b 253) 1886 = .ok (.aload_n 0, 1) := by decide +kernel
theorem d253_1887 : decode (eb_b 253) 1887 = .ok (.iload_n 3, 1) := by decide +kernel
theorem d253_1888 : decode (eb_b 253) 1888 = .ok (.iconst 1, 1) := by decide +kernel
theorem d253_1889 : decode (eb_b 253) 1889 = .ok (.iadd, 1) := by decide +kernel
theorem d253_1890 : decode (eb_b 253) 1890 = .ok (.iaload, 1) := by decide +kernel
theorem d253_1891 : decode (eb_b 253) 1891 = .ok (.invokevirtual 238, 3) := by decide +kernel
theorem wc_245 : Cond.code (eb_y 245) (eb_b 245) (eb_ml 245) (eb_rt 245) ∈ eb_LT := eb_lt 1494 (by decide +kernel)
theorem cy_245 : (eb_y 245).cls = eb_cN (eb_rc 245) ∧ (eb_y 245).cls ≠ "java/lang/invoke/MethodHandle" ∧ (eb_y 245).cls ≠ "java/lang/invoke/VarHandle" ∧ (parseMethodDescriptor (eb_y 245).desc).map (fun d => d.parameters.length) = some 1 := by decide +kernel
theorem wi_245 : Cond.instanceMethod (eb_y 245) ∈ eb_LT := eb_lt 1492 (by decide +kernel)
theorem wse_245 : Cond.selects (eb_cN (eb_rc 245)) (eb_y 245) (eb_y 245) ∈ eb_LT := eb_lt 1493 (by decide +kernel)
theorem kV_245 {L q0 m pc : Nat} {lg : Nat → Bool} {ix : Nat} (hw : Cond.methodLink (eb_own m) ix (eb_y 245) ∈ eb_LT) (hd : decode (eb_b m) pc = .ok (.invokevirtual ix, 3)) : eb_Snd L q0 m pc lg (op_call 245 2 (pc + 3)) := sn_callV false rfl (Or.inr ⟨rfl, _, rfl⟩) (by decide) rfl (by decide) ⟨⟨hw, wi_245, wse_245⟩, wc_245⟩ cy_245 hd
theorem wm_8_238 : Cond.methodLink (eb_cN 8) 238 (eb_y 245) ∈ eb_LT := eb_lt 1491 (by decide +kernel)
theorem d253_1894 : decode (eb_b 253) 1894 = .ok (.if_icmp .eq 54, 3) := by decide +kernel
theorem d253_1897 : decode (eb_b 253) 1897 = .ok (.iconst 0, 1) := by decide +kernel
theorem d253_1898 : decode (eb_b 253) 1898 = .ok (.ireturn, 1) := by decide +kernel
theorem d253_1899 : decode (eb_b 253) 1899 = .ok (.aload_n 1, 1) := by decide +kernel
theorem d253_1900 : decode (eb_b 253) 1900 = .ok (.invokevirtual 239, 3) := by decide +kernel
theorem wc_122 : Cond.code (eb_y 122) (eb_b 122) (eb_ml 122) (eb_rt 122) ∈ eb_LT := eb_lt 921 (by decide +kernel)
theorem cy_122 : (eb_y 122).cls = eb_cN (eb_rc 122) ∧ (eb_y 122).cls ≠ "java/lang/invoke/MethodHandle" ∧ (eb_y 122).cls ≠ "java/lang/invoke/VarHandle" ∧ (parseMethodDescriptor (eb_y 122).desc).map (fun d => d.parameters.length) = some 0 := by decide +kernel
theorem wi_122 : Cond.instanceMethod (eb_y 122) ∈ eb_LT := eb_lt 919 (by decide +kernel)
theorem wse_122 : Cond.selects (eb_cN (eb_rc 122)) (eb_y 122) (eb_y 122) ∈ eb_LT := eb_lt 920 (by decide +kernel)
theorem kV_122 {L q0 m pc : Nat} {lg : Nat → Bool} {ix : Nat} (hw : Cond.methodLink (eb_own m) ix (eb_y 122) ∈ eb_LT) (hd : decode (eb_b m) pc = .ok (.invokevirtual ix, 3)) : eb_Snd L q0 m pc lg (op_call 122 1 (pc + 3)) := sn_callV false rfl (Or.inr ⟨rfl, _, rfl⟩) (by decide) rfl (by decide) ⟨⟨hw, wi_122, wse_122⟩, wc_122⟩ cy_122 hd
theorem wm_8_239 : Cond.methodLink (eb_cN 8) 239 (eb_y 122) ∈ eb_LT := eb_lt 918 (by decide +kernel)
theorem d253_1903 : decode (eb_b 253) 1903 = .ok (.aload_n 2, 1) := by decide +kernel
theorem d253_1904 : decode (eb_b 253) 1904 = .ok (.invokevirtual 242, 3) := by decide +kernel
theorem wc_249 : Cond.code (eb_y 249) (eb_b 249) (eb_ml 249) (eb_rt 249) ∈ eb_LT := eb_lt 1498 (by decide +kernel)
theorem cy_249 : (eb_y 249).cls = eb_cN (eb_rc 249) ∧ (eb_y 249).cls ≠ "java/lang/invoke/MethodHandle" ∧ (eb_y 249).cls ≠ "java/lang/invoke/VarHandle" ∧ (parseMethodDescriptor (eb_y 249).desc).map (fun d => d.parameters.length) = some 0 := by decide +kernel
theorem wi_249 : Cond.instanceMethod (eb_y 249) ∈ eb_LT := eb_lt 1496 (by decide +kernel)
theorem wse_249 : Cond.selects (eb_cN (eb_rc 249)) (eb_y 249) (eb_y 249) ∈ eb_LT := eb_lt 1497 (by decide +kernel)
theorem kV_249 {L q0 m pc : Nat} {lg : Nat → Bool} {ix : Nat} (hw : Cond.methodLink (eb_own m) ix (eb_y 249) ∈ eb_LT) (hd : decode (eb_b m) pc = .ok (.invokevirtual ix, 3)) : eb_Snd L q0 m pc lg (op_call 249 1 (pc + 3)) := sn_callV false rfl (Or.inr ⟨rfl, _, rfl⟩) (by decide) rfl (by decide) ⟨⟨hw, wi_249, wse_249⟩, wc_249⟩ cy_249 hd
theorem wm_8_242 : Cond.methodLink (eb_cN 8) 242 (eb_y 249) ∈ eb_LT := eb_lt 1495 (by decide +kernel)
theorem d253_1907 : decode (eb_b 253) 1907 = .ok (.if_icmp .eq 41, 3) := by decide +kernel
theorem d253_1910 : decode (eb_b 253) 1910 = .ok (.iconst 0, 1) := by decide +kernel
theorem d253_1911 : decode (eb_b 253) 1911 = .ok (.ireturn, 1) := by decide +kernel
theorem d253_1912 : decode (eb_b 253) 1912 = .ok (.aload_n 1, 1) := by decide +kernel
theorem d253_1913 : decode (eb_b 253) 1913 = .ok (.invokevirtual 243, 3) := by decide +kernel
theorem wc_123 : Cond.code (eb_y 123) (eb_b 123) (eb_ml 123) (eb_rt 123) ∈ eb_LT := eb_lt 925 (by decide +kernel)
theorem cy_123 : (eb_y 123).cls = eb_cN (eb_rc 123) ∧ (eb_y 123).cls ≠ "java/lang/invoke/MethodHandle" ∧ (eb_y 123).cls ≠ "java/lang/invoke/VarHandle" ∧ (parseMethodDescriptor (eb_y 123).desc).map (fun d => d.parameters.length) = some 0 := by decide +kernel
theorem wi_123 : Cond.instanceMethod (eb_y 123) ∈ eb_LT := eb_lt 923 (by decide +kernel)
theorem wse_123 : Cond.selects (eb_cN (eb_rc 123)) (eb_y 123) (eb_y 123) ∈ eb_LT := eb_lt 924 (by decide +kernel)
theorem kV_123 {L q0 m pc : Nat} {lg : Nat → Bool} {ix : Nat} (hw : Cond.methodLink (eb_own m) ix (eb_y 123) ∈ eb_LT) (hd : decode (eb_b m) pc = .ok (.invokevirtual ix, 3)) : eb_Snd L q0 m pc lg (op_call 123 1 (pc + 3)) := sn_callV false rfl (Or.inr ⟨rfl, _, rfl⟩) (by decide) rfl (by decide) ⟨⟨hw, wi_123, wse_123⟩, wc_123⟩ cy_123 hd
theorem wm_8_243 : Cond.methodLink (eb_cN 8) 243 (eb_y 123) ∈ eb_LT := eb_lt 922 (by decide +kernel)
theorem d253_1916 : decode (eb_b 253) 1916 = .ok (.aload_n 2, 1) := by decide +kernel
theorem d253_1917 : decode (eb_b 253) 1917 = .ok (.invokevirtual 246, 3) := by decide +kernel
theorem wc_250 : Cond.code (eb_y 250) (eb_b 250) (eb_ml 250) (eb_rt 250) ∈ eb_LT := eb_lt 1502 (by decide +kernel)
theorem cy_250 : (eb_y 250).cls = eb_cN (eb_rc 250) ∧ (eb_y 250).cls ≠ "java/lang/invoke/MethodHandle" ∧ (eb_y 250).cls ≠ "java/lang/invoke/VarHandle" ∧ (parseMethodDescriptor (eb_y 250).desc).map (fun d => d.parameters.length) = some 0 := by decide +kernel
theorem wi_250 : Cond.instanceMethod (eb_y 250) ∈ eb_LT := eb_lt 1500 (by decide +kernel)
theorem wse_250 : Cond.selects (eb_cN (eb_rc 250)) (eb_y 250) (eb_y 250) ∈ eb_LT := eb_lt 1501 (by decide +kernel)
theorem kV_250 {L q0 m pc : Nat} {lg : Nat → Bool} {ix : Nat} (hw : Cond.methodLink (eb_own m) ix (eb_y 250) ∈ eb_LT) (hd : decode (eb_b m) pc = .ok (.invokevirtual ix, 3)) : eb_Snd L q0 m pc lg (op_call 250 1 (pc + 3)) := sn_callV false rfl (Or.inr ⟨rfl, _, rfl⟩) (by decide) rfl (by decide) ⟨⟨hw, wi_250, wse_250⟩, wc_250⟩ cy_250 hd
theorem wm_8_246 : Cond.methodLink (eb_cN 8) 246 (eb_y 250) ∈ eb_LT := eb_lt 1499 (by decide +kernel)
theorem d253_1920 : decode (eb_b 253) 1920 = .ok (.if_icmp .eq 28, 3) := by decide +kernel
theorem d253_1923 : decode (eb_b 253) 1923 = .ok (.iconst 0, 1) := by decide +kernel
theorem d253_1924 : decode (eb_b 253) 1924 = .ok (.ireturn, 1) := by decide +kernel
theorem d253_1925 : decode (eb_b 253) 1925 = .ok (.aload_n 1, 1) := by decide +kernel
theorem d253_1926 : decode (eb_b 253) 1926 = .ok (.aload_n 0, 1) := by decide +kernel
theorem d253_1927 : decode (eb_b 253) 1927 = .ok (.iload_n 3, 1) := by decide +kernel
theorem d253_1928 : decode (eb_b 253) 1928 = .ok (.iconst 1, 1) := by decide +kernel
theorem d253_1929 : decode (eb_b 253) 1929 = .ok (.iadd, 1) := by decide +kernel
theorem d253_1930 : decode (eb_b 253) 1930 = .ok (.iaload, 1) := by decide +kernel
theorem d253_1931 : decode (eb_b 253) 1931 = .ok (.invokevirtual 247, 3) := by decide +kernel
theorem wc_124 : Cond.code (eb_y 124) (eb_b 124) (eb_ml 124) (eb_rt 124) ∈ eb_LT := eb_lt 929 (by decide +kernel)
theorem cy_124 : (eb_y 124).cls = eb_cN (eb_rc 124) ∧ (eb_y 124).cls ≠ "java/lang/invoke/MethodHandle" ∧ (eb_y 124).cls ≠ "java/lang/invoke/VarHandle" ∧ (parseMethodDescriptor (eb_y 124).desc).map (fun d => d.parameters.length) = some 1 := by decide +kernel
theorem wi_124 : Cond.instanceMethod (eb_y 124) ∈ eb_LT := eb_lt 927 (by decide +kernel)
theorem wse_124 : Cond.selects (eb_cN (eb_rc 124)) (eb_y 124) (eb_y 124) ∈ eb_LT := eb_lt 928 (by decide +kernel)
theorem kV_124 {L q0 m pc : Nat} {lg : Nat → Bool} {ix : Nat} (hw : Cond.methodLink (eb_own m) ix (eb_y 124) ∈ eb_LT) (hd : decode (eb_b m) pc = .ok (.invokevirtual ix, 3)) : eb_Snd L q0 m pc lg (op_call 124 2 (pc + 3)) := sn_callV false rfl (Or.inr ⟨rfl, _, rfl⟩) (by decide) rfl (by decide) ⟨⟨hw, wi_124, wse_124⟩, wc_124⟩ cy_124 hd
theorem wm_8_247 : Cond.methodLink (eb_cN 8) 247 (eb_y 124) ∈ eb_LT := eb_lt 926 (by decide +kernel)
theorem d253_1934 : decode (eb_b 253) 1934 = .ok (.aload_n 2, 1) := by decide +kernel
theorem d253_1935 : decode (eb_b 253) 1935 = .ok (.aload_n 0, 1) := by decide +kernel
theorem d253_1936 : decode (eb_b 253) 1936 = .ok (.iload_n 3, 1) := by decide +kernel
theorem d253_1937 : decode (eb_b 253) 1937 = .ok (.iconst 1, 1) := by decide +kernel
theorem d253_1938 : decode (eb_b 253) 1938 = .ok (.iadd, 1) := by decide +kernel
theorem d253_1939 : decode (eb_b 253) 1939 = .ok (.iaload, 1) := by decide +kernel
theorem d253_1940 : decode (eb_b 253) 1940 = .ok (.invokevirtual 250, 3) := by decide +kernel
theorem wc_251 : Cond.code (eb_y 251) (eb_b 251) (eb_ml 251) (eb_rt 251) ∈ eb_LT := eb_lt 1506 (by decide +kernel)
theorem cy_251 : (eb_y 251).cls = eb_cN (eb_rc 251) ∧ (eb_y 251).cls ≠ "java/lang/invoke/MethodHandle" ∧ (eb_y 251).cls ≠ "java/lang/invoke/VarHandle" ∧ (parseMethodDescriptor (eb_y 251).desc).map (fun d => d.parameters.length) = some 1 := by decide +kernel
theorem wi_251 : Cond.instanceMethod (eb_y 251) ∈ eb_LT := eb_lt 1504 (by decide +kernel)
theorem wse_251 : Cond.selects (eb_cN (eb_rc 251)) (eb_y 251) (eb_y 251) ∈ eb_LT := eb_lt 1505 (by decide +kernel)
theorem kV_251 {L q0 m pc : Nat} {lg : Nat → Bool} {ix : Nat} (hw : Cond.methodLink (eb_own m) ix (eb_y 251) ∈ eb_LT) (hd : decode (eb_b m) pc = .ok (.invokevirtual ix, 3)) : eb_Snd L q0 m pc lg (op_call 251 2 (pc + 3)) := sn_callV false rfl (Or.inr ⟨rfl, _, rfl⟩) (by decide) rfl (by decide) ⟨⟨hw, wi_251, wse_251⟩, wc_251⟩ cy_251 hd
theorem wm_8_250 : Cond.methodLink (eb_cN 8) 250 (eb_y 251) ∈ eb_LT := eb_lt 1503 (by decide +kernel)
theorem d253_1943 : decode (eb_b 253) 1943 = .ok (.if_icmp .eq 5, 3) := by decide +kernel
theorem d253_1946 : decode (eb_b 253) 1946 = .ok (.iconst 0, 1) := by decide +kernel
theorem d253_1947 : decode (eb_b 253) 1947 = .ok (.ireturn, 1) := by decide +kernel
theorem d253_1948 : decode (eb_b 253) 1948 = .ok (.iinc 3 6, 3) := by decide +kernel
theorem d253_1951 : decode (eb_b 253) 1951 = .ok (.goto (-1933), 3) := by decide +kernel
theorem d253_1954 : decode (eb_b 253) 1954 = .ok (.iconst 1, 1) := by decide +kernel
theorem d253_1955 : decode (eb_b 253) 1955 = .ok (.ireturn, 1) := by decide +kernel
section
variable {L q0 : Nat}
theorem sl0 : eb_AS L q0 253 (eb_lg 253) (kl253_0 L) := ⟨sn_new (by decide) rfl wq_8_7 d253_0, sn_dup d253_3, kI_67 wm_8_9 d253_4, sn_astore_n (eb_hlg (Or.inl rfl)) hn253_1 d253_7 rfl, sn_new (by decide) rfl wq_8_10 d253_8, sn_dup d253_11, kI_144 wm_8_12 d253_12, sn_astore_n (eb_hlg (Or.inl rfl)) hn253_2 d253_15 rfl, sn_iconst d253_16 (by decide), sn_istore_n (eb_hlg (Or.inl rfl)) hn253_3 d253_17 rfl, sn_iload_n d253_18 rfl, sn_aload_n d253_19 rfl, sn_slen d253_20, sn_bipush d253_21 (by decide), sn_isub d253_23, sn_icgt d253_24 (by decide), sn_aload_n d253_27 rfl, sn_iload_n d253_28 rfl, sn_sald d253_29, sn_bipush d253_30 (by decide), sn_iand d253_32, sn_sw d253_33 (by decide) (by decide +kernel) (by decide), sn_aload_n d253_276 rfl, sn_aload_n d253_277 rfl, sn_iload_n d253_278 rfl, sn_iconst d253_279 (by decide), sn_iadd d253_280, sn_sald d253_281, sn_aload_n d253_282 rfl, sn_iload_n d253_283 rfl, sn_iconst d253_284 (by decide), sn_iadd d253_285, sn_sald d253_286, sn_aload_n d253_287 rfl, sn_iload_n d253_288 rfl, sn_iconst d253_289 (by decide), sn_iadd d253_290, sn_sald d253_291, kV_68 wm_8_13 d253_292, sn_aload_n d253_295 rfl, trivial⟩
theorem sl1 : eb_AS L q0 253 (eb_lg 253) (kl253_1 L) := ⟨sn_aload_n d253_296 rfl, sn_iload_n d253_297 rfl, sn_iconst d253_298 (by decide), sn_iadd d253_299, sn_sald d253_300, sn_aload_n d253_301 rfl, sn_iload_n d253_302 rfl, sn_iconst d253_303 (by decide), sn_iadd d253_304, sn_sald d253_305, sn_aload_n d253_306 rfl, sn_iload_n d253_307 rfl, sn_iconst d253_308 (by decide), sn_iadd d253_309, sn_sald d253_310, kV_151 wm_8_17 d253_311, sn_iceq d253_314 (by decide), sn_iconst d253_317 (by decide), sn_zret d253_318 rfl, sn_aload_n d253_319 rfl, sn_aload_n d253_320 rfl, sn_iload_n d253_321 rfl, sn_iconst d253_322 (by decide), sn_iadd d253_323, sn_sald d253_324, sn_aload_n d253_325 rfl, sn_iload_n d253_326 rfl, sn_iconst d253_327 (by decide), sn_iadd d253_328, sn_sald d253_329, sn_aload_n d253_330 rfl, sn_iload_n d253_331 rfl, sn_iconst d253_332 (by decide), sn_iadd d253_333, sn_sald d253_334, sn_i2l d253_335, sn_bipush d253_336 (by decide), sn_lshl d253_338, sn_aload_n d253_339 rfl, sn_iload_n d253_340 rfl, trivial⟩
theorem sl2 : eb_AS L q0 253 (eb_lg 253) (kl253_2 L) := ⟨sn_iconst d253_341 (by decide), sn_iadd d253_342, sn_sald d253_343, sn_i2l d253_344, sn_ldc2 d253_345 wl_8_18, sn_land d253_348, sn_lor d253_349, kV_69 wm_8_20 d253_350, sn_aload_n d253_353 rfl, sn_aload_n d253_354 rfl, sn_iload_n d253_355 rfl, sn_iconst d253_356 (by decide), sn_iadd d253_357, sn_sald d253_358, sn_aload_n d253_359 rfl, sn_iload_n d253_360 rfl, sn_iconst d253_361 (by decide), sn_iadd d253_362, sn_sald d253_363, sn_aload_n d253_364 rfl, sn_iload_n d253_365 rfl, sn_iconst d253_366 (by decide), sn_iadd d253_367, sn_sald d253_368, sn_i2l d253_369, sn_bipush d253_370 (by decide), sn_lshl d253_372, sn_aload_n d253_373 rfl, sn_iload_n d253_374 rfl, sn_iconst d253_375 (by decide), sn_iadd d253_376, sn_sald d253_377, sn_i2l d253_378, sn_ldc2 d253_379 wl_8_18, sn_land d253_382, sn_lor d253_383, kV_154 wm_8_24 d253_384, sn_iceq d253_387 (by decide), sn_iconst d253_390 (by decide), sn_zret d253_391 rfl, trivial⟩
theorem sl3 : eb_AS L q0 253 (eb_lg 253) (kl253_3 L) := ⟨sn_aload_n d253_392 rfl, sn_aload_n d253_393 rfl, sn_iload_n d253_394 rfl, sn_iconst d253_395 (by decide), sn_iadd d253_396, sn_sald d253_397, sn_aload_n d253_398 rfl, sn_iload_n d253_399 rfl, sn_iconst d253_400 (by decide), sn_iadd d253_401, sn_sald d253_402, sn_aload_n d253_403 rfl, sn_iload_n d253_404 rfl, sn_iconst d253_405 (by decide), sn_iadd d253_406, sn_sald d253_407, sn_aload_n d253_408 rfl, sn_iload_n d253_409 rfl, sn_iconst d253_410 (by decide), sn_iadd d253_411, sn_sald d253_412, sn_aload_n d253_413 rfl, sn_iload_n d253_414 rfl, sn_iconst d253_415 (by decide), sn_iadd d253_416, sn_sald d253_417, kV_70 wm_8_25 d253_418, sn_aload_n d253_421 rfl, sn_aload_n d253_422 rfl, sn_iload_n d253_423 rfl, sn_iconst d253_424 (by decide), sn_iadd d253_425, sn_sald d253_426, sn_aload_n d253_427 rfl, sn_iload_n d253_428 rfl, sn_iconst d253_429 (by decide), sn_iadd d253_430, sn_sald d253_431, sn_aload_n d253_432 rfl, sn_iload_n d253_433 rfl, trivial⟩
theorem sl4 : eb_AS L q0 253 (eb_lg 253) (kl253_4 L) := ⟨sn_iconst d253_434 (by decide), sn_iadd d253_435, sn_sald d253_436, sn_aload_n d253_437 rfl, sn_iload_n d253_438 rfl, sn_iconst d253_439 (by decide), sn_iadd d253_440, sn_sald d253_441, sn_aload_n d253_442 rfl, sn_iload_n d253_443 rfl, sn_iconst d253_444 (by decide), sn_iadd d253_445, sn_sald d253_446, kV_155 wm_8_29 d253_447, sn_iceq d253_450 (by decide), sn_iconst d253_453 (by decide), sn_zret d253_454 rfl, sn_aload_n d253_455 rfl, sn_aload_n d253_456 rfl, sn_iload_n d253_457 rfl, sn_iconst d253_458 (by decide), sn_iadd d253_459, sn_sald d253_460, sn_aload_n d253_461 rfl, sn_iload_n d253_462 rfl, sn_iconst d253_463 (by decide), sn_iadd d253_464, sn_sald d253_465, kV_71 wm_8_30 d253_466, sn_aload_n d253_469 rfl, sn_aload_n d253_470 rfl, sn_iload_n d253_471 rfl, sn_iconst d253_472 (by decide), sn_iadd d253_473, sn_sald d253_474, sn_aload_n d253_475 rfl, sn_iload_n d253_476 rfl, sn_iconst d253_477 (by decide), sn_iadd d253_478, sn_sald d253_479, trivial⟩
theorem sl5 : eb_AS L q0 253 (eb_lg 253) (kl253_5 L) := ⟨kV_156 wm_8_34 d253_480, sn_lcmp d253_483, sn_ifeq d253_484 (by decide), sn_iconst d253_487 (by decide), sn_zret d253_488 rfl, sn_aload_n d253_489 rfl, sn_aload_n d253_490 rfl, sn_iload_n d253_491 rfl, sn_iconst d253_492 (by decide), sn_iadd d253_493, sn_sald d253_494, kV_72 wm_8_35 d253_495, sn_aload_n d253_498 rfl, sn_aload_n d253_499 rfl, sn_iload_n d253_500 rfl, sn_iconst d253_501 (by decide), sn_iadd d253_502, sn_sald d253_503, kV_157 wm_8_39 d253_504, sn_iceq d253_507 (by decide), sn_iconst d253_510 (by decide), sn_zret d253_511 rfl, sn_aload_n d253_512 rfl, sn_aload_n d253_513 rfl, sn_iload_n d253_514 rfl, sn_iconst d253_515 (by decide), sn_iadd d253_516, sn_sald d253_517, sn_aload_n d253_518 rfl, sn_iload_n d253_519 rfl, sn_iconst d253_520 (by decide), sn_iadd d253_521, sn_sald d253_522, kV_73 wm_8_40 d253_523, sn_aload_n d253_526 rfl, sn_aload_n d253_527 rfl, sn_iload_n d253_528 rfl, sn_iconst d253_529 (by decide), sn_iadd d253_530, sn_sald d253_531, trivial⟩
theorem sl6 : eb_AS L q0 253 (eb_lg 253) (kl253_6 L) := ⟨sn_aload_n d253_532 rfl, sn_iload_n d253_533 rfl, sn_iconst d253_534 (by decide), sn_iadd d253_535, sn_sald d253_536, kV_158 wm_8_44 d253_537, sn_iceq d253_540 (by decide), sn_iconst d253_543 (by decide), sn_zret d253_544 rfl, sn_aload_n d253_545 rfl, sn_aload_n d253_546 rfl, sn_iload_n d253_547 rfl, sn_iconst d253_548 (by decide), sn_iadd d253_549, sn_sald d253_550, sn_aload_n d253_551 rfl, sn_iload_n d253_552 rfl, sn_iconst d253_553 (by decide), sn_iadd d253_554, sn_sald d253_555, kV_74 wm_8_45 d253_556, sn_aload_n d253_559 rfl, sn_aload_n d253_560 rfl, sn_iload_n d253_561 rfl, sn_iconst d253_562 (by decide), sn_iadd d253_563, sn_sald d253_564, sn_aload_n d253_565 rfl, sn_iload_n d253_566 rfl, sn_iconst d253_567 (by decide), sn_iadd d253_568, sn_sald d253_569, kV_160 wm_8_48 d253_570, sn_iceq d253_573 (by decide), sn_iconst d253_576 (by decide), sn_zret d253_577 rfl, sn_aload_n d253_578 rfl, sn_aload_n d253_579 rfl, sn_iload_n d253_580 rfl, sn_iconst d253_581 (by decide), trivial⟩
theorem sl7 : eb_AS L q0 253 (eb_lg 253) (kl253_7 L) := ⟨sn_iadd d253_582, sn_sald d253_583, sn_aload_n d253_584 rfl, sn_iload_n d253_585 rfl, sn_iconst d253_586 (by decide), sn_iadd d253_587, sn_sald d253_588, sn_aload_n d253_589 rfl, sn_iload_n d253_590 rfl, sn_iconst d253_591 (by decide), sn_iadd d253_592, sn_sald d253_593, kV_75 wm_8_49 d253_594, sn_aload_n d253_597 rfl, sn_aload_n d253_598 rfl, sn_iload_n d253_599 rfl, sn_iconst d253_600 (by decide), sn_iadd d253_601, sn_sald d253_602, sn_aload_n d253_603 rfl, sn_iload_n d253_604 rfl, sn_iconst d253_605 (by decide), sn_iadd d253_606, sn_sald d253_607, sn_aload_n d253_608 rfl, sn_iload_n d253_609 rfl, sn_iconst d253_610 (by decide), sn_iadd d253_611, sn_sald d253_612, kV_162 wm_8_52 d253_613, sn_iceq d253_616 (by decide), sn_iconst d253_619 (by decide), sn_zret d253_620 rfl, sn_aload_n d253_621 rfl, sn_aload_n d253_622 rfl, sn_iload_n d253_623 rfl, sn_iconst d253_624 (by decide), sn_iadd d253_625, sn_sald d253_626, sn_aload_n d253_627 rfl, trivial⟩
theorem sl8 : eb_AS L q0 253 (eb_lg 253) (kl253_8 L) := ⟨sn_iload_n d253_628 rfl, sn_iconst d253_629 (by decide), sn_iadd d253_630, sn_sald d253_631, sn_aload_n d253_632 rfl, sn_iload_n d253_633 rfl, sn_iconst d253_634 (by decide), sn_iadd d253_635, sn_sald d253_636, kV_76 wm_8_53 d253_637, sn_aload_n d253_640 rfl, sn_aload_n d253_641 rfl, sn_iload_n d253_642 rfl, sn_iconst d253_643 (by decide), sn_iadd d253_644, sn_sald d253_645, sn_aload_n d253_646 rfl, sn_iload_n d253_647 rfl, sn_iconst d253_648 (by decide), sn_iadd d253_649, sn_sald d253_650, sn_aload_n d253_651 rfl, sn_iload_n d253_652 rfl, sn_iconst d253_653 (by decide), sn_iadd d253_654, sn_sald d253_655, kV_163 wm_8_56 d253_656, sn_iceq d253_659 (by decide), sn_iconst d253_662 (by decide), sn_zret d253_663 rfl, sn_aload_n d253_664 rfl, sn_aload_n d253_665 rfl, sn_iload_n d253_666 rfl, sn_iconst d253_667 (by decide), sn_iadd d253_668, sn_sald d253_669, sn_aload_n d253_670 rfl, sn_iload_n d253_671 rfl, sn_iconst d253_672 (by decide), sn_iadd d253_673, trivial⟩
theorem sl9 : eb_AS L q0 253 (eb_lg 253) (kl253_9 L) := ⟨sn_sald d253_674, sn_aload_n d253_675 rfl, sn_iload_n d253_676 rfl, sn_iconst d253_677 (by decide), sn_iadd d253_678, sn_sald d253_679, kV_77 wm_8_57 d253_680, sn_aload_n d253_683 rfl, sn_aload_n d253_684 rfl, sn_iload_n d253_685 rfl, sn_iconst d253_686 (by decide), sn_iadd d253_687, sn_sald d253_688, sn_aload_n d253_689 rfl, sn_iload_n d253_690 rfl, sn_iconst d253_691 (by decide), sn_iadd d253_692, sn_sald d253_693, sn_aload_n d253_694 rfl, sn_iload_n d253_695 rfl, sn_iconst d253_696 (by decide), sn_iadd d253_697, sn_sald d253_698, kV_164 wm_8_60 d253_699, sn_iceq d253_702 (by decide), sn_iconst d253_705 (by decide), sn_zret d253_706 rfl, sn_aload_n d253_707 rfl, sn_aload_n d253_708 rfl, sn_iload_n d253_709 rfl, sn_iconst d253_710 (by decide), sn_iadd d253_711, sn_sald d253_712, sn_aload_n d253_713 rfl, sn_iload_n d253_714 rfl, sn_iconst d253_715 (by decide), sn_iadd d253_716, sn_sald d253_717, kV_78 wm_8_61 d253_718, sn_aload_n d253_721 rfl, trivial⟩
theorem sl10 : eb_AS L q0 253 (eb_lg 253) (kl253_10 L) := ⟨sn_aload_n d253_722 rfl, sn_iload_n d253_723 rfl, sn_iconst d253_724 (by decide), sn_iadd d253_725, sn_sald d253_726, sn_aload_n d253_727 rfl, sn_iload_n d253_728 rfl, sn_iconst d253_729 (by decide), sn_iadd d253_730, sn_sald d253_731, kV_165 wm_8_64 d253_732, sn_iceq d253_735 (by decide), sn_iconst d253_738 (by decide), sn_zret d253_739 rfl, sn_aload_n d253_740 rfl, sn_aload_n d253_741 rfl, sn_iload_n d253_742 rfl, sn_iconst d253_743 (by decide), sn_iadd d253_744, sn_sald d253_745, kV_79 wm_8_65 d253_746, sn_aload_n d253_749 rfl, sn_aload_n d253_750 rfl, sn_iload_n d253_751 rfl, sn_iconst d253_752 (by decide), sn_iadd d253_753, sn_sald d253_754, kV_168 wm_8_68 d253_755, sn_iceq d253_758 (by decide), sn_iconst d253_761 (by decide), sn_zret d253_762 rfl, sn_aload_n d253_763 rfl, sn_aload_n d253_764 rfl, sn_iload_n d253_765 rfl, sn_iconst d253_766 (by decide), sn_iadd d253_767, sn_sald d253_768, sn_aload_n d253_769 rfl, sn_iload_n d253_770 rfl, sn_iconst d253_771 (by decide), trivial⟩
theorem sl11 : eb_AS L q0 253 (eb_lg 253) (kl253_11 L) := ⟨sn_iadd d253_772, sn_sald d253_773, kV_80 wm_8_69 d253_774, sn_aload_n d253_777 rfl, sn_aload_n d253_778 rfl, sn_iload_n d253_779 rfl, sn_iconst d253_780 (by decide), sn_iadd d253_781, sn_sald d253_782, sn_aload_n d253_783 rfl, sn_iload_n d253_784 rfl, sn_iconst d253_785 (by decide), sn_iadd d253_786, sn_sald d253_787, kV_170 wm_8_72 d253_788, sn_iceq d253_791 (by decide), sn_iconst d253_794 (by decide), sn_zret d253_795 rfl, sn_aload_n d253_796 rfl, sn_aload_n d253_797 rfl, sn_iload_n d253_798 rfl, sn_iconst d253_799 (by decide), sn_iadd d253_800, sn_sald d253_801, kV_81 wm_8_73 d253_802, sn_aload_n d253_805 rfl, sn_aload_n d253_806 rfl, sn_iload_n d253_807 rfl, sn_iconst d253_808 (by decide), sn_iadd d253_809, sn_sald d253_810, kV_171 wm_8_76 d253_811, sn_iceq d253_814 (by decide), sn_iconst d253_817 (by decide), sn_zret d253_818 rfl, sn_aload_n d253_819 rfl, sn_aload_n d253_820 rfl, sn_iload_n d253_821 rfl, sn_iconst d253_822 (by decide), sn_iadd d253_823, trivial⟩
theorem sl12 : eb_AS L q0 253 (eb_lg 253) (kl253_12 L) := ⟨sn_sald d253_824, sn_aload_n d253_825 rfl, sn_iload_n d253_826 rfl, sn_iconst d253_827 (by decide), sn_iadd d253_828, sn_sald d253_829, kV_82 wm_8_77 d253_830, sn_aload_n d253_833 rfl, sn_aload_n d253_834 rfl, sn_iload_n d253_835 rfl, sn_iconst d253_836 (by decide), sn_iadd d253_837, sn_sald d253_838, sn_aload_n d253_839 rfl, sn_iload_n d253_840 rfl, sn_iconst d253_841 (by decide), sn_iadd d253_842, sn_sald d253_843, kV_172 wm_8_80 d253_844, sn_iceq d253_847 (by decide), sn_iconst d253_850 (by decide), sn_zret d253_851 rfl, sn_aload_n d253_852 rfl, sn_aload_n d253_853 rfl, sn_iload_n d253_854 rfl, sn_iconst d253_855 (by decide), sn_iadd d253_856, sn_sald d253_857, kV_83 wm_8_81 d253_858, sn_aload_n d253_861 rfl, sn_aload_n d253_862 rfl, sn_iload_n d253_863 rfl, sn_iconst d253_864 (by decide), sn_iadd d253_865, sn_sald d253_866, kV_173 wm_8_84 d253_867, sn_iceq d253_870 (by decide), sn_iconst d253_873 (by decide), sn_zret d253_874 rfl, sn_aload_n d253_875 rfl, trivial⟩
theorem sl13 : eb_AS L q0 253 (eb_lg 253) (kl253_13 L) := ⟨kV_84 wm_8_85 d253_876, sn_aload_n d253_879 rfl, kV_174 wm_8_89 d253_880, sn_iceq d253_883 (by decide), sn_iconst d253_886 (by decide), sn_zret d253_887 rfl, sn_aload_n d253_888 rfl, kV_85 wm_8_90 d253_889, sn_aload_n d253_892 rfl, kV_187 wm_8_93 d253_893, sn_iceq d253_896 (by decide), sn_iconst d253_899 (by decide), sn_zret d253_900 rfl, sn_aload_n d253_901 rfl, sn_aload_n d253_902 rfl, sn_iload_n d253_903 rfl, sn_iconst d253_904 (by decide), sn_iadd d253_905, sn_sald d253_906, sn_aload_n d253_907 rfl, sn_iload_n d253_908 rfl, sn_iconst d253_909 (by decide), sn_iadd d253_910, sn_sald d253_911, kV_86 wm_8_94 d253_912, sn_aload_n d253_915 rfl, sn_aload_n d253_916 rfl, sn_iload_n d253_917 rfl, sn_iconst d253_918 (by decide), sn_iadd d253_919, sn_sald d253_920, sn_aload_n d253_921 rfl, sn_iload_n d253_922 rfl, sn_iconst d253_923 (by decide), sn_iadd d253_924, sn_sald d253_925, kV_188 wm_8_97 d253_926, sn_iceq d253_929 (by decide), sn_iconst d253_932 (by decide), sn_zret d253_933 rfl, trivial⟩
theorem sl14 : eb_AS L q0 253 (eb_lg 253) (kl253_14 L) := ⟨sn_aload_n d253_934 rfl, sn_aload_n d253_935 rfl, sn_iload_n d253_936 rfl, sn_iconst d253_937 (by decide), sn_iadd d253_938, sn_sald d253_939, sn_aload_n d253_940 rfl, sn_iload_n d253_941 rfl, sn_iconst d253_942 (by decide), sn_iadd d253_943, sn_sald d253_944, kV_87 wm_8_98 d253_945, sn_aload_n d253_948 rfl, sn_aload_n d253_949 rfl, sn_iload_n d253_950 rfl, sn_iconst d253_951 (by decide), sn_iadd d253_952, sn_sald d253_953, sn_aload_n d253_954 rfl, sn_iload_n d253_955 rfl, sn_iconst d253_956 (by decide), sn_iadd d253_957, sn_sald d253_958, kV_189 wm_8_101 d253_959, sn_iceq d253_962 (by decide), sn_iconst d253_965 (by decide), sn_zret d253_966 rfl, sn_aload_n d253_967 rfl, sn_aload_n d253_968 rfl, sn_iload_n d253_969 rfl, sn_iconst d253_970 (by decide), sn_iadd d253_971, sn_sald d253_972, sn_aload_n d253_973 rfl, sn_iload_n d253_974 rfl, sn_iconst d253_975 (by decide), sn_iadd d253_976, sn_sald d253_977, kV_88 wm_8_102 d253_978, sn_aload_n d253_981 rfl, trivial⟩
theorem sl15 : eb_AS L q0 253 (eb_lg 253) (kl253_15 L) := ⟨sn_aload_n d253_982 rfl, sn_iload_n d253_983 rfl, sn_iconst d253_984 (by decide), sn_iadd d253_985, sn_sald d253_986, sn_aload_n d253_987 rfl, sn_iload_n d253_988 rfl, sn_iconst d253_989 (by decide), sn_iadd d253_990, sn_sald d253_991, kV_193 wm_8_105 d253_992, sn_iceq d253_995 (by decide), sn_iconst d253_998 (by decide), sn_zret d253_999 rfl, sn_aload_n d253_1000 rfl, sn_aload_n d253_1001 rfl, sn_iload_n d253_1002 rfl, sn_iconst d253_1003 (by decide), sn_iadd d253_1004, sn_sald d253_1005, sn_aload_n d253_1006 rfl, sn_iload_n d253_1007 rfl, sn_iconst d253_1008 (by decide), sn_iadd d253_1009, sn_sald d253_1010, kV_89 wm_8_106 d253_1011, sn_aload_n d253_1014 rfl, sn_aload_n d253_1015 rfl, sn_iload_n d253_1016 rfl, sn_iconst d253_1017 (by decide), sn_iadd d253_1018, sn_sald d253_1019, sn_aload_n d253_1020 rfl, sn_iload_n d253_1021 rfl, sn_iconst d253_1022 (by decide), sn_iadd d253_1023, sn_sald d253_1024, kV_199 wm_8_109 d253_1025, sn_iceq d253_1028 (by decide), sn_iconst d253_1031 (by decide), trivial⟩
theorem sl16 : eb_AS L q0 253 (eb_lg 253) (kl253_16 L) := ⟨sn_zret d253_1032 rfl, sn_aload_n d253_1033 rfl, sn_aload_n d253_1034 rfl, sn_iload_n d253_1035 rfl, sn_iconst d253_1036 (by decide), sn_iadd d253_1037, sn_sald d253_1038, kV_90 wm_8_110 d253_1039, sn_aload_n d253_1042 rfl, sn_aload_n d253_1043 rfl, sn_iload_n d253_1044 rfl, sn_iconst d253_1045 (by decide), sn_iadd d253_1046, sn_sald d253_1047, kV_200 wm_8_113 d253_1048, sn_iceq d253_1051 (by decide), sn_iconst d253_1054 (by decide), sn_zret d253_1055 rfl, sn_aload_n d253_1056 rfl, sn_aload_n d253_1057 rfl, sn_iload_n d253_1058 rfl, sn_iconst d253_1059 (by decide), sn_iadd d253_1060, sn_sald d253_1061, kV_91 wm_8_114 d253_1062, sn_aload_n d253_1065 rfl, sn_aload_n d253_1066 rfl, sn_iload_n d253_1067 rfl, sn_iconst d253_1068 (by decide), sn_iadd d253_1069, sn_sald d253_1070, kV_201 wm_8_117 d253_1071, sn_iceq d253_1074 (by decide), sn_iconst d253_1077 (by decide), sn_zret d253_1078 rfl, sn_aload_n d253_1079 rfl, kV_92 wm_8_118 d253_1080, sn_aload_n d253_1083 rfl, kV_202 wm_8_121 d253_1084, sn_iceq d253_1087 (by decide), trivial⟩
theorem sl17 : eb_AS L q0 253 (eb_lg 253) (kl253_17 L) := ⟨sn_iconst d253_1090 (by decide), sn_zret d253_1091 rfl, sn_aload_n d253_1092 rfl, sn_aload_n d253_1093 rfl, sn_iload_n d253_1094 rfl, sn_iconst d253_1095 (by decide), sn_iadd d253_1096, sn_sald d253_1097, kV_93 wm_8_122 d253_1098, sn_aload_n d253_1101 rfl, sn_aload_n d253_1102 rfl, sn_iload_n d253_1103 rfl, sn_iconst d253_1104 (by decide), sn_iadd d253_1105, sn_sald d253_1106, kV_205 wm_8_125 d253_1107, sn_iceq d253_1110 (by decide), sn_iconst d253_1113 (by decide), sn_zret d253_1114 rfl, sn_aload_n d253_1115 rfl, sn_aload_n d253_1116 rfl, sn_iload_n d253_1117 rfl, sn_iconst d253_1118 (by decide), sn_iadd d253_1119, sn_sald d253_1120, kV_94 wm_8_126 d253_1121, sn_aload_n d253_1124 rfl, sn_aload_n d253_1125 rfl, sn_iload_n d253_1126 rfl, sn_iconst d253_1127 (by decide), sn_iadd d253_1128, sn_sald d253_1129, kV_206 wm_8_129 d253_1130, sn_iceq d253_1133 (by decide), sn_iconst d253_1136 (by decide), sn_zret d253_1137 rfl, sn_aload_n d253_1138 rfl, sn_aload_n d253_1139 rfl, sn_iload_n d253_1140 rfl, sn_iconst d253_1141 (by decide), trivial⟩
theorem sl18 : eb_AS L q0 253 (eb_lg 253) (kl253_18 L) := ⟨sn_iadd d253_1142, sn_sald d253_1143, kV_95 wm_8_130 d253_1144, sn_aload_n d253_1147 rfl, sn_aload_n d253_1148 rfl, sn_iload_n d253_1149 rfl, sn_iconst d253_1150 (by decide), sn_iadd d253_1151, sn_sald d253_1152, kV_208 wm_8_133 d253_1153, sn_iceq d253_1156 (by decide), sn_iconst d253_1159 (by decide), sn_zret d253_1160 rfl, sn_aload_n d253_1161 rfl, sn_aload_n d253_1162 rfl, sn_iload_n d253_1163 rfl, sn_iconst d253_1164 (by decide), sn_iadd d253_1165, sn_sald d253_1166, kV_96 wm_8_134 d253_1167, sn_aload_n d253_1170 rfl, sn_aload_n d253_1171 rfl, sn_iload_n d253_1172 rfl, sn_iconst d253_1173 (by decide), sn_iadd d253_1174, sn_sald d253_1175, kV_209 wm_8_137 d253_1176, sn_iceq d253_1179 (by decide), sn_iconst d253_1182 (by decide), sn_zret d253_1183 rfl, sn_aload_n d253_1184 rfl, kV_97 wm_8_138 d253_1185, sn_aload_n d253_1188 rfl, kV_211 wm_8_141 d253_1189, sn_iceq d253_1192 (by decide), sn_iconst d253_1195 (by decide), sn_zret d253_1196 rfl, sn_aload_n d253_1197 rfl, kV_98 wm_8_142 d253_1198, sn_aload_n d253_1201 rfl, trivial⟩
theorem sl19 : eb_AS L q0 253 (eb_lg 253) (kl253_19 L) := ⟨kV_213 wm_8_145 d253_1202, sn_iceq d253_1205 (by decide), sn_iconst d253_1208 (by decide), sn_zret d253_1209 rfl, sn_aload_n d253_1210 rfl, sn_aload_n d253_1211 rfl, sn_iload_n d253_1212 rfl, sn_iconst d253_1213 (by decide), sn_iadd d253_1214, sn_sald d253_1215, kV_99 wm_8_146 d253_1216, sn_aload_n d253_1219 rfl, sn_aload_n d253_1220 rfl, sn_iload_n d253_1221 rfl, sn_iconst d253_1222 (by decide), sn_iadd d253_1223, sn_sald d253_1224, kV_214 wm_8_149 d253_1225, sn_iceq d253_1228 (by decide), sn_iconst d253_1231 (by decide), sn_zret d253_1232 rfl, sn_aload_n d253_1233 rfl, sn_aload_n d253_1234 rfl, sn_iload_n d253_1235 rfl, sn_iconst d253_1236 (by decide), sn_iadd d253_1237, sn_sald d253_1238, kV_100 wm_8_150 d253_1239, sn_aload_n d253_1242 rfl, sn_aload_n d253_1243 rfl, sn_iload_n d253_1244 rfl, sn_iconst d253_1245 (by decide), sn_iadd d253_1246, sn_sald d253_1247, kV_215 wm_8_153 d253_1248, sn_iceq d253_1251 (by decide), sn_iconst d253_1254 (by decide), sn_zret d253_1255 rfl, sn_aload_n d253_1256 rfl, sn_aload_n d253_1257 rfl, trivial⟩
theorem sl20 : eb_AS L q0 253 (eb_lg 253) (kl253_20 L) := ⟨sn_iload_n d253_1258 rfl, sn_iconst d253_1259 (by decide), sn_iadd d253_1260, sn_sald d253_1261, kV_101 wm_8_154 d253_1262, sn_aload_n d253_1265 rfl, sn_aload_n d253_1266 rfl, sn_iload_n d253_1267 rfl, sn_iconst d253_1268 (by decide), sn_iadd d253_1269, sn_sald d253_1270, kV_217 wm_8_157 d253_1271, sn_iceq d253_1274 (by decide), sn_iconst d253_1277 (by decide), sn_zret d253_1278 rfl, sn_aload_n d253_1279 rfl, sn_aload_n d253_1280 rfl, sn_iload_n d253_1281 rfl, sn_iconst d253_1282 (by decide), sn_iadd d253_1283, sn_sald d253_1284, kV_102 wm_8_158 d253_1285, sn_aload_n d253_1288 rfl, sn_aload_n d253_1289 rfl, sn_iload_n d253_1290 rfl, sn_iconst d253_1291 (by decide), sn_iadd d253_1292, sn_sald d253_1293, kV_218 wm_8_161 d253_1294, sn_iceq d253_1297 (by decide), sn_iconst d253_1300 (by decide), sn_zret d253_1301 rfl, sn_aload_n d253_1302 rfl, sn_aload_n d253_1303 rfl, sn_iload_n d253_1304 rfl, sn_iconst d253_1305 (by decide), sn_iadd d253_1306, sn_sald d253_1307, sn_aload_n d253_1308 rfl, sn_iload_n d253_1309 rfl, trivial⟩
theorem sl21 : eb_AS L q0 253 (eb_lg 253) (kl253_21 L) := ⟨sn_iconst d253_1310 (by decide), sn_iadd d253_1311, sn_sald d253_1312, sn_aload_n d253_1313 rfl, sn_iload_n d253_1314 rfl, sn_iconst d253_1315 (by decide), sn_iadd d253_1316, sn_sald d253_1317, kV_103 wm_8_162 d253_1318, sn_aload_n d253_1321 rfl, sn_aload_n d253_1322 rfl, sn_iload_n d253_1323 rfl, sn_iconst d253_1324 (by decide), sn_iadd d253_1325, sn_sald d253_1326, sn_aload_n d253_1327 rfl, sn_iload_n d253_1328 rfl, sn_iconst d253_1329 (by decide), sn_iadd d253_1330, sn_sald d253_1331, sn_aload_n d253_1332 rfl, sn_iload_n d253_1333 rfl, sn_iconst d253_1334 (by decide), sn_iadd d253_1335, sn_sald d253_1336, kV_219 wm_8_165 d253_1337, sn_iceq d253_1340 (by decide), sn_iconst d253_1343 (by decide), sn_zret d253_1344 rfl, sn_aload_n d253_1345 rfl, sn_aload_n d253_1346 rfl, sn_iload_n d253_1347 rfl, sn_iconst d253_1348 (by decide), sn_iadd d253_1349, sn_sald d253_1350, sn_aload_n d253_1351 rfl, sn_iload_n d253_1352 rfl, sn_iconst d253_1353 (by decide), sn_iadd d253_1354, sn_sald d253_1355, trivial⟩
theorem sl22 : eb_AS L q0 253 (eb_lg 253) (kl253_22 L) := ⟨kV_104 wm_8_166 d253_1356, sn_aload_n d253_1359 rfl, sn_aload_n d253_1360 rfl, sn_iload_n d253_1361 rfl, sn_iconst d253_1362 (by decide), sn_iadd d253_1363, sn_sald d253_1364, sn_aload_n d253_1365 rfl, sn_iload_n d253_1366 rfl, sn_iconst d253_1367 (by decide), sn_iadd d253_1368, sn_sald d253_1369, kV_220 wm_8_169 d253_1370, sn_iceq d253_1373 (by decide), sn_iconst d253_1376 (by decide), sn_zret d253_1377 rfl, sn_aload_n d253_1378 rfl, sn_aload_n d253_1379 rfl, sn_iload_n d253_1380 rfl, sn_iconst d253_1381 (by decide), sn_iadd d253_1382, sn_sald d253_1383, kV_105 wm_8_170 d253_1384, sn_aload_n d253_1387 rfl, sn_aload_n d253_1388 rfl, sn_iload_n d253_1389 rfl, sn_iconst d253_1390 (by decide), sn_iadd d253_1391, sn_sald d253_1392, kV_222 wm_8_173 d253_1393, sn_iceq d253_1396 (by decide), sn_iconst d253_1399 (by decide), sn_zret d253_1400 rfl, sn_aload_n d253_1401 rfl, sn_aload_n d253_1402 rfl, sn_iload_n d253_1403 rfl, sn_iconst d253_1404 (by decide), sn_iadd d253_1405, sn_sald d253_1406, sn_aload_n d253_1407 rfl, trivial⟩
theorem sl23 : eb_AS L q0 253 (eb_lg 253) (kl253_23 L) := ⟨sn_iload_n d253_1408 rfl, sn_iconst d253_1409 (by decide), sn_iadd d253_1410, sn_sald d253_1411, kV_106 wm_8_174 d253_1412, sn_aload_n d253_1415 rfl, sn_aload_n d253_1416 rfl, sn_iload_n d253_1417 rfl, sn_iconst d253_1418 (by decide), sn_iadd d253_1419, sn_sald d253_1420, sn_aload_n d253_1421 rfl, sn_iload_n d253_1422 rfl, sn_iconst d253_1423 (by decide), sn_iadd d253_1424, sn_sald d253_1425, kV_225 wm_8_177 d253_1426, sn_iceq d253_1429 (by decide), sn_iconst d253_1432 (by decide), sn_zret d253_1433 rfl, sn_aload_n d253_1434 rfl, sn_aload_n d253_1435 rfl, sn_iload_n d253_1436 rfl, sn_iconst d253_1437 (by decide), sn_iadd d253_1438, sn_sald d253_1439, sn_aload_n d253_1440 rfl, sn_iload_n d253_1441 rfl, sn_iconst d253_1442 (by decide), sn_iadd d253_1443, sn_sald d253_1444, sn_aload_n d253_1445 rfl, sn_iload_n d253_1446 rfl, sn_iconst d253_1447 (by decide), sn_iadd d253_1448, sn_sald d253_1449, kV_107 wm_8_178 d253_1450, sn_aload_n d253_1453 rfl, sn_aload_n d253_1454 rfl, sn_iload_n d253_1455 rfl, trivial⟩
theorem sl24 : eb_AS L q0 253 (eb_lg 253) (kl253_24 L) := ⟨sn_iconst d253_1456 (by decide), sn_iadd d253_1457, sn_sald d253_1458, sn_aload_n d253_1459 rfl, sn_iload_n d253_1460 rfl, sn_iconst d253_1461 (by decide), sn_iadd d253_1462, sn_sald d253_1463, sn_aload_n d253_1464 rfl, sn_iload_n d253_1465 rfl, sn_iconst d253_1466 (by decide), sn_iadd d253_1467, sn_sald d253_1468, kV_226 wm_8_181 d253_1469, sn_iceq d253_1472 (by decide), sn_iconst d253_1475 (by decide), sn_zret d253_1476 rfl, sn_aload_n d253_1477 rfl, sn_aload_n d253_1478 rfl, sn_iload_n d253_1479 rfl, sn_iconst d253_1480 (by decide), sn_iadd d253_1481, sn_sald d253_1482, sn_aload_n d253_1483 rfl, sn_iload_n d253_1484 rfl, sn_iconst d253_1485 (by decide), sn_iadd d253_1486, sn_sald d253_1487, kV_108 wm_8_182 d253_1488, sn_aload_n d253_1491 rfl, sn_aload_n d253_1492 rfl, sn_iload_n d253_1493 rfl, sn_iconst d253_1494 (by decide), sn_iadd d253_1495, sn_sald d253_1496, sn_aload_n d253_1497 rfl, sn_iload_n d253_1498 rfl, sn_iconst d253_1499 (by decide), sn_iadd d253_1500, sn_sald d253_1501, trivial⟩
theorem sl25 : eb_AS L q0 253 (eb_lg 253) (kl253_25 L) := ⟨kV_229 wm_8_185 d253_1502, sn_iceq d253_1505 (by decide), sn_iconst d253_1508 (by decide), sn_zret d253_1509 rfl, sn_aload_n d253_1510 rfl, sn_aload_n d253_1511 rfl, sn_iload_n d253_1512 rfl, sn_iconst d253_1513 (by decide), sn_iadd d253_1514, sn_sald d253_1515, sn_aload_n d253_1516 rfl, sn_iload_n d253_1517 rfl, sn_iconst d253_1518 (by decide), sn_iadd d253_1519, sn_sald d253_1520, kV_109 wm_8_186 d253_1521, sn_aload_n d253_1524 rfl, sn_aload_n d253_1525 rfl, sn_iload_n d253_1526 rfl, sn_iconst d253_1527 (by decide), sn_iadd d253_1528, sn_sald d253_1529, sn_aload_n d253_1530 rfl, sn_iload_n d253_1531 rfl, sn_iconst d253_1532 (by decide), sn_iadd d253_1533, sn_sald d253_1534, kV_230 wm_8_189 d253_1535, sn_iceq d253_1538 (by decide), sn_iconst d253_1541 (by decide), sn_zret d253_1542 rfl, sn_aload_n d253_1543 rfl, sn_aload_n d253_1544 rfl, sn_iload_n d253_1545 rfl, sn_iconst d253_1546 (by decide), sn_iadd d253_1547, sn_sald d253_1548, kV_110 wm_8_190 d253_1549, sn_aload_n d253_1552 rfl, sn_aload_n d253_1553 rfl, trivial⟩
theorem sl26 : eb_AS L q0 253 (eb_lg 253) (kl253_26 L) := ⟨sn_iload_n d253_1554 rfl, sn_iconst d253_1555 (by decide), sn_iadd d253_1556, sn_sald d253_1557, kV_231 wm_8_193 d253_1558, sn_iceq d253_1561 (by decide), sn_iconst d253_1564 (by decide), sn_zret d253_1565 rfl, sn_aload_n d253_1566 rfl, sn_aload_n d253_1567 rfl, sn_iload_n d253_1568 rfl, sn_iconst d253_1569 (by decide), sn_iadd d253_1570, sn_sald d253_1571, sn_aload_n d253_1572 rfl, sn_iload_n d253_1573 rfl, sn_iconst d253_1574 (by decide), sn_iadd d253_1575, sn_sald d253_1576, kV_111 wm_8_194 d253_1577, sn_aload_n d253_1580 rfl, sn_aload_n d253_1581 rfl, sn_iload_n d253_1582 rfl, sn_iconst d253_1583 (by decide), sn_iadd d253_1584, sn_sald d253_1585, sn_aload_n d253_1586 rfl, sn_iload_n d253_1587 rfl, sn_iconst d253_1588 (by decide), sn_iadd d253_1589, sn_sald d253_1590, kV_233 wm_8_197 d253_1591, sn_iceq d253_1594 (by decide), sn_iconst d253_1597 (by decide), sn_zret d253_1598 rfl, sn_aload_n d253_1599 rfl, sn_aload_n d253_1600 rfl, sn_iload_n d253_1601 rfl, sn_iconst d253_1602 (by decide), sn_iadd d253_1603, trivial⟩
theorem sl27 : eb_AS L q0 253 (eb_lg 253) (kl253_27 L) := ⟨sn_sald d253_1604, sn_aload_n d253_1605 rfl, sn_iload_n d253_1606 rfl, sn_iconst d253_1607 (by decide), sn_iadd d253_1608, sn_sald d253_1609, kV_112 wm_8_198 d253_1610, sn_aload_n d253_1613 rfl, sn_aload_n d253_1614 rfl, sn_iload_n d253_1615 rfl, sn_iconst d253_1616 (by decide), sn_iadd d253_1617, sn_sald d253_1618, sn_aload_n d253_1619 rfl, sn_iload_n d253_1620 rfl, sn_iconst d253_1621 (by decide), sn_iadd d253_1622, sn_sald d253_1623, kV_235 wm_8_201 d253_1624, sn_iceq d253_1627 (by decide), sn_iconst d253_1630 (by decide), sn_zret d253_1631 rfl, sn_aload_n d253_1632 rfl, sn_aload_n d253_1633 rfl, sn_iload_n d253_1634 rfl, sn_iconst d253_1635 (by decide), sn_iadd d253_1636, sn_sald d253_1637, sn_aload_n d253_1638 rfl, sn_iload_n d253_1639 rfl, sn_iconst d253_1640 (by decide), sn_iadd d253_1641, sn_sald d253_1642, sn_aload_n d253_1643 rfl, sn_iload_n d253_1644 rfl, sn_iconst d253_1645 (by decide), sn_iadd d253_1646, sn_sald d253_1647, kV_113 wm_8_202 d253_1648, sn_aload_n d253_1651 rfl, trivial⟩
theorem sl28 : eb_AS L q0 253 (eb_lg 253) (kl253_28 L) := ⟨sn_aload_n d253_1652 rfl, sn_iload_n d253_1653 rfl, sn_iconst d253_1654 (by decide), sn_iadd d253_1655, sn_sald d253_1656, sn_aload_n d253_1657 rfl, sn_iload_n d253_1658 rfl, sn_iconst d253_1659 (by decide), sn_iadd d253_1660, sn_sald d253_1661, sn_aload_n d253_1662 rfl, sn_iload_n d253_1663 rfl, sn_iconst d253_1664 (by decide), sn_iadd d253_1665, sn_sald d253_1666, kV_236 wm_8_205 d253_1667, sn_iceq d253_1670 (by decide), sn_iconst d253_1673 (by decide), sn_zret d253_1674 rfl, sn_aload_n d253_1675 rfl, sn_aload_n d253_1676 rfl, sn_iload_n d253_1677 rfl, sn_iconst d253_1678 (by decide), sn_iadd d253_1679, sn_sald d253_1680, sn_aload_n d253_1681 rfl, sn_iload_n d253_1682 rfl, sn_iconst d253_1683 (by decide), sn_iadd d253_1684, sn_sald d253_1685, kV_114 wm_8_206 d253_1686, sn_aload_n d253_1689 rfl, sn_aload_n d253_1690 rfl, sn_iload_n d253_1691 rfl, sn_iconst d253_1692 (by decide), sn_iadd d253_1693, sn_sald d253_1694, sn_aload_n d253_1695 rfl, sn_iload_n d253_1696 rfl, sn_iconst d253_1697 (by decide), trivial⟩
theorem sl29 : eb_AS L q0 253 (eb_lg 253) (kl253_29 L) := ⟨sn_iadd d253_1698, sn_sald d253_1699, kV_237 wm_8_209 d253_1700, sn_iceq d253_1703 (by decide), sn_iconst d253_1706 (by decide), sn_zret d253_1707 rfl, sn_aload_n d253_1708 rfl, sn_aload_n d253_1709 rfl, sn_iload_n d253_1710 rfl, sn_iconst d253_1711 (by decide), sn_iadd d253_1712, sn_sald d253_1713, sn_aload_n d253_1714 rfl, sn_iload_n d253_1715 rfl, sn_iconst d253_1716 (by decide), sn_iadd d253_1717, sn_sald d253_1718, sn_aload_n d253_1719 rfl, sn_iload_n d253_1720 rfl, sn_iconst d253_1721 (by decide), sn_iadd d253_1722, sn_sald d253_1723, sn_aload_n d253_1724 rfl, sn_iload_n d253_1725 rfl, sn_iconst d253_1726 (by decide), sn_iadd d253_1727, sn_sald d253_1728, kV_115 wm_8_210 d253_1729, sn_aload_n d253_1732 rfl, sn_aload_n d253_1733 rfl, sn_iload_n d253_1734 rfl, sn_iconst d253_1735 (by decide), sn_iadd d253_1736, sn_sald d253_1737, sn_aload_n d253_1738 rfl, sn_iload_n d253_1739 rfl, sn_iconst d253_1740 (by decide), sn_iadd d253_1741, sn_sald d253_1742, sn_aload_n d253_1743 rfl, trivial⟩
theorem sl30 : eb_AS L q0 253 (eb_lg 253) (kl253_30 L) := ⟨sn_iload_n d253_1744 rfl, sn_iconst d253_1745 (by decide), sn_iadd d253_1746, sn_sald d253_1747, sn_aload_n d253_1748 rfl, sn_iload_n d253_1749 rfl, sn_iconst d253_1750 (by decide), sn_iadd d253_1751, sn_sald d253_1752, kV_238 wm_8_214 d253_1753, sn_iceq d253_1756 (by decide), sn_iconst d253_1759 (by decide), sn_zret d253_1760 rfl, sn_aload_n d253_1761 rfl, sn_aload_n d253_1762 rfl, sn_iload_n d253_1763 rfl, sn_iconst d253_1764 (by decide), sn_iadd d253_1765, sn_sald d253_1766, kV_116 wm_8_215 d253_1767, sn_aload_n d253_1770 rfl, sn_aload_n d253_1771 rfl, sn_iload_n d253_1772 rfl, sn_iconst d253_1773 (by decide), sn_iadd d253_1774, sn_sald d253_1775, kV_239 wm_8_218 d253_1776, sn_iceq d253_1779 (by decide), sn_iconst d253_1782 (by decide), sn_zret d253_1783 rfl, sn_aload_n d253_1784 rfl, sn_aload_n d253_1785 rfl, sn_iload_n d253_1786 rfl, sn_iconst d253_1787 (by decide), sn_iadd d253_1788, sn_sald d253_1789, sn_aload_n d253_1790 rfl, sn_iload_n d253_1791 rfl, sn_iconst d253_1792 (by decide), sn_iadd d253_1793, trivial⟩
theorem sl31 : eb_AS L q0 253 (eb_lg 253) (kl253_31 L) := ⟨sn_sald d253_1794, kV_117 wm_8_219 d253_1795, sn_aload_n d253_1798 rfl, sn_aload_n d253_1799 rfl, sn_iload_n d253_1800 rfl, sn_iconst d253_1801 (by decide), sn_iadd d253_1802, sn_sald d253_1803, sn_aload_n d253_1804 rfl, sn_iload_n d253_1805 rfl, sn_iconst d253_1806 (by decide), sn_iadd d253_1807, sn_sald d253_1808, kV_240 wm_8_222 d253_1809, sn_iceq d253_1812 (by decide), sn_iconst d253_1815 (by decide), sn_zret d253_1816 rfl, sn_aload_n d253_1817 rfl, kV_118 wm_8_223 d253_1818, sn_aload_n d253_1821 rfl, kV_241 wm_8_226 d253_1822, sn_iceq d253_1825 (by decide), sn_iconst d253_1828 (by decide), sn_zret d253_1829 rfl, sn_aload_n d253_1830 rfl, sn_aload_n d253_1831 rfl, sn_iload_n d253_1832 rfl, sn_iconst d253_1833 (by decide), sn_iadd d253_1834, sn_sald d253_1835, kV_119 wm_8_227 d253_1836, sn_aload_n d253_1839 rfl, sn_aload_n d253_1840 rfl, sn_iload_n d253_1841 rfl, sn_iconst d253_1842 (by decide), sn_iadd d253_1843, sn_sald d253_1844, kV_242 wm_8_230 d253_1845, sn_iceq d253_1848 (by decide), sn_iconst d253_1851 (by decide), trivial⟩
theorem sl32 : eb_AS L q0 253 (eb_lg 253) (kl253_32 L) := ⟨sn_zret d253_1852 rfl, sn_aload_n d253_1853 rfl, sn_aload_n d253_1854 rfl, sn_iload_n d253_1855 rfl, sn_iconst d253_1856 (by decide), sn_iadd d253_1857, sn_sald d253_1858, kV_120 wm_8_231 d253_1859, sn_aload_n d253_1862 rfl, sn_aload_n d253_1863 rfl, sn_iload_n d253_1864 rfl, sn_iconst d253_1865 (by decide), sn_iadd d253_1866, sn_sald d253_1867, kV_244 wm_8_234 d253_1868, sn_iceq d253_1871 (by decide), sn_iconst d253_1874 (by decide), sn_zret d253_1875 rfl, sn_aload_n d253_1876 rfl, sn_aload_n d253_1877 rfl, sn_iload_n d253_1878 rfl, sn_iconst d253_1879 (by decide), sn_iadd d253_1880, sn_sald d253_1881, kV_121 wm_8_235 d253_1882, sn_aload_n d253_1885 rfl, sn_aload_n d253_1886 rfl, sn_iload_n d253_1887 rfl, sn_iconst d253_1888 (by decide), sn_iadd d253_1889, sn_sald d253_1890, kV_245 wm_8_238 d253_1891, sn_iceq d253_1894 (by decide), sn_iconst d253_1897 (by decide), sn_zret d253_1898 rfl, sn_aload_n d253_1899 rfl, kV_122 wm_8_239 d253_1900, sn_aload_n d253_1903 rfl, kV_249 wm_8_242 d253_1904, sn_iceq d253_1907 (by decide), trivial⟩
theorem sl33 : eb_AS L q0 253 (eb_lg 253) (kl253_33 L) := ⟨sn_iconst d253_1910 (by decide), sn_zret d253_1911 rfl, sn_aload_n d253_1912 rfl, kV_123 wm_8_243 d253_1913, sn_aload_n d253_1916 rfl, kV_250 wm_8_246 d253_1917, sn_iceq d253_1920 (by decide), sn_iconst d253_1923 (by decide), sn_zret d253_1924 rfl, sn_aload_n d253_1925 rfl, sn_aload_n d253_1926 rfl, sn_iload_n d253_1927 rfl, sn_iconst d253_1928 (by decide), sn_iadd d253_1929, sn_sald d253_1930, kV_124 wm_8_247 d253_1931, sn_aload_n d253_1934 rfl, sn_aload_n d253_1935 rfl, sn_iload_n d253_1936 rfl, sn_iconst d253_1937 (by decide), sn_iadd d253_1938, sn_sald d253_1939, kV_251 wm_8_250 d253_1940, sn_iceq d253_1943 (by decide), sn_iconst d253_1946 (by decide), sn_zret d253_1947 rfl, sn_iinc (eb_hlg (Or.inl rfl)) hn253_3 d253_1948 (by decide), sn_goto d253_1951 (by decide), sn_iconst d253_1954 (by decide), sn_zret d253_1955 rfl, trivial⟩
theorem ss33 : eb_AS L q0 253 (eb_lg 253) (ks253_33 L) := sl33
theorem ss32 : eb_AS L q0 253 (eb_lg 253) (ks253_32 L) := eb_AS_app sl32 ss33
theorem ss31 : eb_AS L q0 253 (eb_lg 253) (ks253_31 L) := eb_AS_app sl31 ss32
theorem ss30 : eb_AS L q0 253 (eb_lg 253) (ks253_30 L) := eb_AS_app sl30 ss31
theorem ss29 : eb_AS L q0 253 (eb_lg 253) (ks253_29 L) := eb_AS_app sl29 ss30
theorem ss28 : eb_AS L q0 253 (eb_lg 253) (ks253_28 L) := eb_AS_app sl28 ss29
theorem ss27 : eb_AS L q0 253 (eb_lg 253) (ks253_27 L) := eb_AS_app sl27 ss28
theorem ss26 : eb_AS L q0 253 (eb_lg 253) (ks253_26 L) := eb_AS_app sl26 ss27
theorem ss25 : eb_AS L q0 253 (eb_lg 253) (ks253_25 L) := eb_AS_app sl25 ss26
theorem ss24 : eb_AS L q0 253 (eb_lg 253) (ks253_24 L) := eb_AS_app sl24 ss25
theorem ss23 : eb_AS L q0 253 (eb_lg 253) (ks253_23 L) := eb_AS_app sl23 ss24
theorem ss22 : eb_AS L q0 253 (eb_lg 253) (ks253_22 L) := eb_AS_app sl22 ss23
theorem ss21 : eb_AS L q0 253 (eb_lg 253) (ks253_21 L) := eb_AS_app sl21 ss22
theorem ss20 : eb_AS L q0 253 (eb_lg 253) (ks253_20 L) := eb_AS_app sl20 ss21
theorem ss19 : eb_AS L q0 253 (eb_lg 253) (ks253_19 L) := eb_AS_app sl19 ss20
theorem ss18 : eb_AS L q0 253 (eb_lg 253) (ks253_18 L) := eb_AS_app sl18 ss19
theorem ss17 : eb_AS L q0 253 (eb_lg 253) (ks253_17 L) := eb_AS_app sl17 ss18
theorem ss16 : eb_AS L q0 253 (eb_lg 253) (ks253_16 L) := eb_AS_app sl16 ss17
theorem ss15 : eb_AS L q0 253 (eb_lg 253) (ks253_15 L) := eb_AS_app sl15 ss16
theorem ss14 : eb_AS L q0 253 (eb_lg 253) (ks253_14 L) := eb_AS_app sl14 ss15
theorem ss13 : eb_AS L q0 253 (eb_lg 253) (ks253_13 L) := eb_AS_app sl13 ss14
theorem ss12 : eb_AS L q0 253 (eb_lg 253) (ks253_12 L) := eb_AS_app sl12 ss13
theorem ss11 : eb_AS L q0 253 (eb_lg 253) (ks253_11 L) := eb_AS_app sl11 ss12
theorem ss10 : eb_AS L q0 253 (eb_lg 253) (ks253_10 L) := eb_AS_app sl10 ss11
theorem ss9 : eb_AS L q0 253 (eb_lg 253) (ks253_9 L) := eb_AS_app sl9 ss10
theorem ss8 : eb_AS L q0 253 (eb_lg 253) (ks253_8 L) := eb_AS_app sl8 ss9
theorem ss7 : eb_AS L q0 253 (eb_lg 253) (ks253_7 L) := eb_AS_app sl7 ss8
theorem ss6 : eb_AS L q0 253 (eb_lg 253) (ks253_6 L) := eb_AS_app sl6 ss7
theorem ss5 : eb_AS L q0 253 (eb_lg 253) (ks253_5 L) := eb_AS_app sl5 ss6
theorem ss4 : eb_AS L q0 253 (eb_lg 253) (ks253_4 L) := eb_AS_app sl4 ss5
theorem ss3 : eb_AS L q0 253 (eb_lg 253) (ks253_3 L) := eb_AS_app sl3 ss4
theorem ss2 : eb_AS L q0 253 (eb_lg 253) (ks253_2 L) := eb_AS_app sl2 ss3
theorem ss1 : eb_AS L q0 253 (eb_lg 253) (ks253_1 L) := eb_AS_app sl1 ss2
theorem ss0 : eb_AS L q0 253 (eb_lg 253) (ks253_0 L) := eb_AS_app sl0 ss1
theorem sd253 : ∀ pc, eb_Snd L q0 253 pc (eb_lg 253) (eb_cd L 253 pc) := eb_AS_all (hk253 (L := L)) (by rw [ks253_eq]; exact ss0)
theorem sa0 {m : Nat} (h : 0 ≤ m ∧ m < 16) : ∀ pc, eb_Snd L q0 m pc (eb_lg m) (eb_cd L m pc) := by
  rcases (show m = 0 ∨ m = 1 ∨ m = 2 ∨ m = 3 ∨ m = 4 ∨ m = 5 ∨ m = 6 ∨ m = 7 ∨ m = 8 ∨ m = 9 ∨ m = 10 ∨ m = 11 ∨ m = 12 ∨ m = 13 ∨ m = 14 ∨ m = 15 by omega) with rfl | rfl | rfl | rfl | rfl | rfl | rfl | rfl | rfl | rfl | rfl | rfl | rfl | rfl | rfl | rfl
  · exact sd0
  · exact sd1
  · exact sd2
  · exact sd3
  · exact sd4
  · exact sd5
  · exact sd6
  · exact sd7
  · exact sd8
  · exact sd9
  · exact sd10
  · exact sd11
  · exact sd12
  · exact sd13
  · exact sd14
  · exact sd15
theorem sa1 {m : Nat} (h : 16 ≤ m ∧ m < 32) : ∀ pc, eb_Snd L q0 m pc (eb_lg m) (eb_cd L m pc) := by
  rcases (show m = 16 ∨ m = 17 ∨ m = 18 ∨ m = 19 ∨ m = 20 ∨ m = 21 ∨ m = 22 ∨ m = 23 ∨ m = 24 ∨ m = 25 ∨ m = 26 ∨ m = 27 ∨ m = 28 ∨ m = 29 ∨ m = 30 ∨ m = 31 by omega) with rfl | rfl | rfl | rfl | rfl | rfl | rfl | rfl | rfl | rfl | rfl | rfl | rfl | rfl | rfl | rfl
  · exact sd16
  · exact sd17
  · exact sd18
  · exact sd19
  · exact sd20
  · exact sd21
  · exact sd22
  · exact sd23
  · exact sd24
  · exact sd25
  · exact sd26
  · exact sd27
  · exact sd28
  · exact sd29
  · exact sd30
  · exact sd31
theorem sa2 {m : Nat} (h : 32 ≤ m ∧ m < 48) : ∀ pc, eb_Snd L q0 m pc (eb_lg m) (eb_cd L m pc) := by
  rcases (show m = 32 ∨ m = 33 ∨ m = 34 ∨ m = 35 ∨ m = 36 ∨ m = 37 ∨ m = 38 ∨ m = 39 ∨ m = 40 ∨ m = 41 ∨ m = 42 ∨ m = 43 ∨ m = 44 ∨ m = 45 ∨ m = 46 ∨ m = 47 by omega) with rfl | rfl | rfl | rfl | rfl | rfl | rfl | rfl | rfl | rfl | rfl | rfl | rfl | rfl | rfl | rfl
  · exact sd32
  · exact sd33
  · exact sd34
  · exact sd35
  · exact sd36
  · exact sd37
  · exact sd38
  · exact sd39
  · exact sd40
  · exact sd41
  · exact sd42
  · exact sd43
  · exact sd44
  · exact sd45
  · exact sd46
  · exact sd47
theorem sa3 {m : Nat} (h : 48 ≤ m ∧ m < 64) : ∀ pc, eb_Snd L q0 m pc (eb_lg m) (eb_cd L m pc) := by
  rcases (show m = 48 ∨ m = 49 ∨ m = 50 ∨ m = 51 ∨ m = 52 ∨ m = 53 ∨ m = 54 ∨ m = 55 ∨ m = 56 ∨ m = 57 ∨ m = 58 ∨ m = 59 ∨ m = 60 ∨ m = 61 ∨ m = 62 ∨ m = 63 by omega) with rfl | rfl | rfl | rfl | rfl | rfl | rfl | rfl | rfl | rfl | rfl | rfl | rfl | rfl | rfl | rfl
  · exact sd48
  · exact sd49
  · exact sd50
  · exact sd51
  · exact sd52
  · exact sd53
  · exact sd54
  · exact sd55
  · exact sd56
  · exact sd57
  · exact sd58
  · exact sd59
  · exact sd60
  · exact sd61
  · exact sd62
  · exact sd63
theorem sa4 {m : Nat} (h : 64 ≤ m ∧ m < 80) : ∀ pc, eb_Snd L q0 m pc (eb_lg m) (eb_cd L m pc) := by
  rcases (show m = 64 ∨ m = 65 ∨ m = 66 ∨ m = 67 ∨ m = 68 ∨ m = 69 ∨ m = 70 ∨ m = 71 ∨ m = 72 ∨ m = 73 ∨ m = 74 ∨ m = 75 ∨ m = 76 ∨ m = 77 ∨ m = 78 ∨ m = 79 by omega) with rfl | rfl | rfl | rfl | rfl | rfl | rfl | rfl | rfl | rfl | rfl | rfl | rfl | rfl | rfl | rfl
  · exact sd64
  · exact sd65
  · exact sd66
  · exact sd67
  · exact sd68
  · exact sd69
  · exact sd70
  · exact sd71
  · exact sd72
  · exact sd73
  · exact sd74
  · exact sd75
  · exact sd76
  · exact sd77
  · exact sd78
  · exact sd79
theorem sa5 {m : Nat} (h : 80 ≤ m ∧ m < 96) : ∀ pc, eb_Snd L q0 m pc (eb_lg m) (eb_cd L m pc) := by
  rcases (show m = 80 ∨ m = 81 ∨ m = 82 ∨ m = 83 ∨ m = 84 ∨ m = 85 ∨ m = 86 ∨ m = 87 ∨ m = 88 ∨ m = 89 ∨ m = 90 ∨ m = 91 ∨ m = 92 ∨ m = 93 ∨ m = 94 ∨ m = 95 by omega) with rfl | rfl | rfl | rfl | rfl | rfl | rfl | rfl | rfl | rfl | rfl | rfl | rfl | rfl | rfl | rfl
  · exact sd80
  · exact sd81
  · exact sd82
  · exact sd83
  · exact sd84
  · exact sd85
  · exact sd86
  · exact sd87
  · exact sd88
  · exact sd89
  · exact sd90
  · exact sd91
  · exact sd92
  · exact sd93
  · exact sd94
  · exact sd95
theorem sa6 {m : Nat} (h : 96 ≤ m ∧ m < 112) : ∀ pc, eb_Snd L q0 m pc (eb_lg m) (eb_cd L m pc) := by
  rcases (show m = 96 ∨ m = 97 ∨ m = 98 ∨ m = 99 ∨ m = 100 ∨ m = 101 ∨ m = 102 ∨ m = 103 ∨ m = 104 ∨ m = 105 ∨ m = 106 ∨ m = 107 ∨ m = 108 ∨ m = 109 ∨ m = 110 ∨ m = 111 by omega) with rfl | rfl | rfl | rfl | rfl | rfl | rfl | rfl | rfl | rfl | rfl | rfl | rfl | rfl | rfl | rfl
  · exact sd96
  · exact sd97
  · exact sd98
  · exact sd99
  · exact sd100
  · exact sd101
  · exact sd102
  · exact sd103
  · exact sd104
  · exact sd105
  · exact sd106
  · exact sd107
  · exact sd108
  · exact sd109
  · exact sd110
  · exact sd111
theorem sa7 {m : Nat} (h : 112 ≤ m ∧ m < 128) : ∀ pc, eb_Snd L q0 m pc (eb_lg m) (eb_cd L m pc) := by
  rcases (show m = 112 ∨ m = 113 ∨ m = 114 ∨ m = 115 ∨ m = 116 ∨ m = 117 ∨ m = 118 ∨ m = 119 ∨ m = 120 ∨ m = 121 ∨ m = 122 ∨ m = 123 ∨ m = 124 ∨ m = 125 ∨ m = 126 ∨ m = 127 by omega) with rfl | rfl | rfl | rfl | rfl | rfl | rfl | rfl | rfl | rfl | rfl | rfl | rfl | rfl | rfl | rfl
  · exact sd112
  · exact sd113
  · exact sd114
  · exact sd115
  · exact sd116
  · exact sd117
  · exact sd118
  · exact sd119
  · exact sd120
  · exact sd121
  · exact sd122
  · exact sd123
  · exact sd124
  · exact sd125
  · exact sd126
  · exact sd127
theorem sa8 {m : Nat} (h : 128 ≤ m ∧ m < 144) : ∀ pc, eb_Snd L q0 m pc (eb_lg m) (eb_cd L m pc) := by
  rcases (show m = 128 ∨ m = 129 ∨ m = 130 ∨ m = 131 ∨ m = 132 ∨ m = 133 ∨ m = 134 ∨ m = 135 ∨ m = 136 ∨ m = 137 ∨ m = 138 ∨ m = 139 ∨ m = 140 ∨ m = 141 ∨ m = 142 ∨ m = 143 by omega) with rfl | rfl | rfl | rfl | rfl | rfl | rfl | rfl | rfl | rfl | rfl | rfl | rfl | rfl | rfl | rfl
  · exact sd128
  · exact sd129
  · exact sd130
  · exact sd131
  · exact sd132
  · exact sd133
  · exact sd134
  · exact sd135
  · exact sd136
  · exact sd137
  · exact sd138
  · exact sd139
  · exact sd140
  · exact sd141
  · exact sd142
  · exact sd143
theorem sa9 {m : Nat} (h : 144 ≤ m ∧ m < 160) : ∀ pc, eb_Snd L q0 m pc (eb_lg m) (eb_cd L m pc) := by
  rcases (show m = 144 ∨ m = 145 ∨ m = 146 ∨ m = 147 ∨ m = 148 ∨ m = 149 ∨ m = 150 ∨ m = 151 ∨ m = 152 ∨ m = 153 ∨ m = 154 ∨ m = 155 ∨ m = 156 ∨ m = 157 ∨ m = 158 ∨ m = 159 by omega) with rfl | rfl | rfl | rfl | rfl | rfl | rfl | rfl | rfl | rfl | rfl | rfl | rfl | rfl | rfl | rfl
  · exact sd144
  · exact sd145
  · exact sd146
  · exact sd147
  · exact sd148
  · exact sd149
  · exact sd150
  · exact sd151
  · exact sd152
  · exact sd153
  · exact sd154
  · exact sd155
  · exact sd156
  · exact sd157
  · exact sd158
  · exact sd159
theorem sa10 {m : Nat} (h : 160 ≤ m ∧ m < 176) : ∀ pc, eb_Snd L q0 m pc (eb_lg m) (eb_cd L m pc) := by
  rcases (show m = 160 ∨ m = 161 ∨ m = 162 ∨ m = 163 ∨ m = 164 ∨ m = 165 ∨ m = 166 ∨ m = 167 ∨ m = 168 ∨ m = 169 ∨ m = 170 ∨ m = 171 ∨ m = 172 ∨ m = 173 ∨ m = 174 ∨ m = 175 by omega) with rfl | rfl | rfl | rfl | rfl | rfl | rfl | rfl | rfl | rfl | rfl | rfl | rfl | rfl | rfl | rfl
  · exact sd160
  · exact sd161
  · exact sd162
  · exact sd163
  · exact sd164
  · exact sd165
  · exact sd166
  · exact sd167
  · exact sd168
  · exact sd169
  · exact sd170
  · exact sd171
  · exact sd172
  · exact sd173
  · exact sd174
  · exact sd175
theorem sa11 {m : Nat} (h : 176 ≤ m ∧ m < 192) : ∀ pc, eb_Snd L q0 m pc (eb_lg m) (eb_cd L m pc) := by
  rcases (show m = 176 ∨ m = 177 ∨ m = 178 ∨ m = 179 ∨ m = 180 ∨ m = 181 ∨ m = 182 ∨ m = 183 ∨ m = 184 ∨ m = 185 ∨ m = 186 ∨ m = 187 ∨ m = 188 ∨ m = 189 ∨ m = 190 ∨ m = 191 by omega) with rfl | rfl | rfl | rfl | rfl | rfl | rfl | rfl | rfl | rfl | rfl | rfl | rfl | rfl | rfl | rfl
  · exact sd176
  · exact sd177
  · exact sd178
  · exact sd179
  · exact sd180
  · exact sd181
  · exact sd182
  · exact sd183
  · exact sd184
  · exact sd185
  · exact sd186
  · exact sd187
  · exact sd188
  · exact sd189
  · exact sd190
  · exact sd191
theorem sa12 {m : Nat} (h : 192 ≤ m ∧ m < 208) : ∀ pc, eb_Snd L q0 m pc (eb_lg m) (eb_cd L m pc) := by
  rcases (show m = 192 ∨ m = 193 ∨ m = 194 ∨ m = 195 ∨ m = 196 ∨ m = 197 ∨ m = 198 ∨ m = 199 ∨ m = 200 ∨ m = 201 ∨ m = 202 ∨ m = 203 ∨ m = 204 ∨ m = 205 ∨ m = 206 ∨ m = 207 by omega) with rfl | rfl | rfl | rfl | rfl | rfl | rfl | rfl | rfl | rfl | rfl | rfl | rfl | rfl | rfl | rfl
  · exact sd192
  · exact sd193
  · exact sd194
  · exact sd195
  · exact sd196
  · exact sd197
  · exact sd198
  · exact sd199
  · exact sd200
  · exact sd201
  · exact sd202
  · exact sd203
  · exact sd204
  · exact sd205
  · exact sd206
  · exact sd207
theorem sa13 {m : Nat} (h : 208 ≤ m ∧ m < 224) : ∀ pc, eb_Snd L q0 m pc (eb_lg m) (eb_cd L m pc) := by
  rcases (show m = 208 ∨ m = 209 ∨ m = 210 ∨ m = 211 ∨ m = 212 ∨ m = 213 ∨ m = 214 ∨ m = 215 ∨ m = 216 ∨ m = 217 ∨ m = 218 ∨ m = 219 ∨ m = 220 ∨ m = 221 ∨ m = 222 ∨ m = 223 by omega) with rfl | rfl | rfl | rfl | rfl | rfl | rfl | rfl | rfl | rfl | rfl | rfl | rfl | rfl | rfl | rfl
  · exact sd208
  · exact sd209
  · exact sd210
  · exact sd211
  · exact sd212
  · exact sd213
  · exact sd214
  · exact sd215
  · exact sd216
  · exact sd217
  · exact sd218
  · exact sd219
  · exact sd220
  · exact sd221
  · exact sd222
  · exact sd223
theorem sa14 {m : Nat} (h : 224 ≤ m ∧ m < 240) : ∀ pc, eb_Snd L q0 m pc (eb_lg m) (eb_cd L m pc) := by
  rcases (show m = 224 ∨ m = 225 ∨ m = 226 ∨ m = 227 ∨ m = 228 ∨ m = 229 ∨ m = 230 ∨ m = 231 ∨ m = 232 ∨ m = 233 ∨ m = 234 ∨ m = 235 ∨ m = 236 ∨ m = 237 ∨ m = 238 ∨ m = 239 by omega) with rfl | rfl | rfl | rfl | rfl | rfl | rfl | rfl | rfl | rfl | rfl | rfl | rfl | rfl | rfl | rfl
  · exact sd224
  · exact sd225
  · exact sd226
  · exact sd227
  · exact sd228
  · exact sd229
  · exact sd230
  · exact sd231
  · exact sd232
  · exact sd233
  · exact sd234
  · exact sd235
  · exact sd236
  · exact sd237
  · exact sd238
  · exact sd239
theorem sa15 {m : Nat} (h : 240 ≤ m ∧ m < 254) : ∀ pc, eb_Snd L q0 m pc (eb_lg m) (eb_cd L m pc) := by
  rcases (show m = 240 ∨ m = 241 ∨ m = 242 ∨ m = 243 ∨ m = 244 ∨ m = 245 ∨ m = 246 ∨ m = 247 ∨ m = 248 ∨ m = 249 ∨ m = 250 ∨ m = 251 ∨ m = 252 ∨ m = 253 by omega) with rfl | rfl | rfl | rfl | rfl | rfl | rfl | rfl | rfl | rfl | rfl | rfl | rfl | rfl
  · exact sd240
  · exact sd241
  · exact sd242
  · exact sd243
  · exact sd244
  · exact sd245
  · exact sd246
  · exact sd247
  · exact sd248
  · exact sd249
  · exact sd250
  · exact sd251
  · exact sd252
  · exact sd253
theorem sd_all {m : Nat} (hm : m < 254) : ∀ pc, eb_Snd L q0 m pc (eb_lg m) (eb_cd L m pc) := by
  rcases (show (0 ≤ m ∧ m < 16) ∨ (16 ≤ m ∧ m < 32) ∨ (32 ≤ m ∧ m < 48) ∨ (48 ≤ m ∧ m < 64) ∨ (64 ≤ m ∧ m < 80) ∨ (80 ≤ m ∧ m < 96) ∨ (96 ≤ m ∧ m < 112) ∨ (112 ≤ m ∧ m < 128) ∨ (128 ≤ m ∧ m < 144) ∨ (144 ≤ m ∧ m < 160) ∨ (160 ≤ m ∧ m < 176) ∨ (176 ≤ m ∧ m < 192) ∨ (192 ≤ m ∧ m < 208) ∨ (208 ≤ m ∧ m < 224) ∨ (224 ≤ m ∧ m < 240) ∨ (240 ≤ m ∧ m < 254) by omega) with h | h | h | h | h | h | h | h | h | h | h | h | h | h | h | h
  · exact sa0 h
  · exact sa1 h
  · exact sa2 h
  · exact sa3 h
  · exact sa4 h
  · exact sa5 h
  · exact sa6 h
  · exact sa7 h
  · exact sa8 h
  · exact sa9 h
  · exact sa10 h
  · exact sa11 h
  · exact sa12 h
  · exact sa13 h
  · exact sa14 h
  · exact sa15 h
theorem sd_Sd {l : Launch} : ∀ d, eb_Sd L q0 l d
  | 0 => fun m as M r φ hm h => by cases h
  | d + 1 => eb_Sd_s (fun m hm => sd_all hm) (sd_Sd d)
end
