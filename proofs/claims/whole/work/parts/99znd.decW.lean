theorem dW_312 : decode code 312 = .ok (.aload_n 1, 1) := by decide +kernel
theorem dW_313 : decode code 313 = .ok (.aload_n 0, 1) := by decide +kernel
theorem dW_314 : decode code 314 = .ok (.iload 4, 2) := by decide +kernel
theorem dW_316 : decode code 316 = .ok (.iconst 1, 1) := by decide +kernel
theorem dW_317 : decode code 317 = .ok (.iadd, 1) := by decide +kernel
theorem dW_318 : decode code 318 = .ok (.iaload, 1) := by decide +kernel
theorem dW_319 : decode code 319 = .ok (.aload_n 3, 1) := by decide +kernel
theorem dW_320 : decode code 320 = .ok (.invokestatic 58, 3) := by decide +kernel
theorem dW_323 : decode code 323 = .ok (.istore 5, 2) := by decide +kernel
theorem dW_325 : decode code 325 = .ok (.aload_n 2, 1) := by decide +kernel
theorem dW_326 : decode code 326 = .ok (.aload_n 0, 1) := by decide +kernel
theorem dW_327 : decode code 327 = .ok (.iload 4, 2) := by decide +kernel
theorem dW_329 : decode code 329 = .ok (.iconst 1, 1) := by decide +kernel
theorem dW_330 : decode code 330 = .ok (.iadd, 1) := by decide +kernel
theorem dW_331 : decode code 331 = .ok (.iaload, 1) := by decide +kernel
theorem dW_332 : decode code 332 = .ok (.invokevirtual 60, 3) := by decide +kernel
theorem dW_335 : decode code 335 = .ok (.istore 6, 2) := by decide +kernel
theorem dW_337 : decode code 337 = .ok (.aload_n 2, 1) := by decide +kernel
theorem dW_338 : decode code 338 = .ok (.invokevirtual 47, 3) := by decide +kernel
theorem dW_341 : decode code 341 = .ok (.iload 5, 2) := by decide +kernel
theorem dW_343 : decode code 343 = .ok (.if_icmp .eq 5, 3) := by decide +kernel
theorem dW_346 : decode code 346 = .ok (.iconst 0, 1) := by decide +kernel
theorem dW_347 : decode code 347 = .ok (.ireturn, 1) := by decide +kernel
theorem dW_348 : decode code 348 = .ok (.iload 5, 2) := by decide +kernel
theorem dW_350 : decode code 350 = .ok (.ifCond .ne 15, 3) := by decide +kernel
theorem dW_353 : decode code 353 = .ok (.aload_n 3, 1) := by decide +kernel
theorem dW_354 : decode code 354 = .ok (.iconst 0, 1) := by decide +kernel
theorem dW_355 : decode code 355 = .ok (.laload, 1) := by decide +kernel
theorem dW_356 : decode code 356 = .ok (.iload 6, 2) := by decide +kernel
theorem dW_358 : decode code 358 = .ok (.i2l, 1) := by decide +kernel
theorem dW_359 : decode code 359 = .ok (.lcmp, 1) := by decide +kernel
theorem dW_360 : decode code 360 = .ok (.ifCond .eq 5, 3) := by decide +kernel
theorem dW_363 : decode code 363 = .ok (.iconst 0, 1) := by decide +kernel
theorem dW_364 : decode code 364 = .ok (.ireturn, 1) := by decide +kernel
theorem dW_365 : decode code 365 = .ok (.goto 485, 3) := by decide +kernel
theorem dW_368 : decode code 368 = .ok (.aload_n 1, 1) := by decide +kernel
theorem dW_369 : decode code 369 = .ok (.aload_n 0, 1) := by decide +kernel
theorem dW_370 : decode code 370 = .ok (.iload 4, 2) := by decide +kernel
theorem dW_372 : decode code 372 = .ok (.iconst 1, 1) := by decide +kernel
theorem dW_373 : decode code 373 = .ok (.iadd, 1) := by decide +kernel
theorem dW_374 : decode code 374 = .ok (.iaload, 1) := by decide +kernel
theorem dW_375 : decode code 375 = .ok (.aload_n 0, 1) := by decide +kernel
theorem dW_376 : decode code 376 = .ok (.iload 4, 2) := by decide +kernel
theorem dW_378 : decode code 378 = .ok (.iconst 2, 1) := by decide +kernel
theorem dW_379 : decode code 379 = .ok (.iadd, 1) := by decide +kernel
theorem dW_380 : decode code 380 = .ok (.iaload, 1) := by decide +kernel
theorem dW_381 : decode code 381 = .ok (.ifCond .eq 7, 3) := by decide +kernel
theorem dW_384 : decode code 384 = .ok (.iconst 1, 1) := by decide +kernel
theorem dW_385 : decode code 385 = .ok (.goto 4, 3) := by decide +kernel
theorem dW_388 : decode code 388 = .ok (.iconst 0, 1) := by decide +kernel
