theorem dW_389 : decode code 389 = .ok (.aload_n 3, 1) := by decide +kernel
theorem dW_390 : decode code 390 = .ok (.invokestatic 61, 3) := by decide +kernel
theorem dW_393 : decode code 393 = .ok (.istore 5, 2) := by decide +kernel
theorem dW_395 : decode code 395 = .ok (.aload_n 2, 1) := by decide +kernel
theorem dW_396 : decode code 396 = .ok (.aload_n 0, 1) := by decide +kernel
theorem dW_397 : decode code 397 = .ok (.iload 4, 2) := by decide +kernel
theorem dW_399 : decode code 399 = .ok (.iconst 1, 1) := by decide +kernel
theorem dW_400 : decode code 400 = .ok (.iadd, 1) := by decide +kernel
theorem dW_401 : decode code 401 = .ok (.iaload, 1) := by decide +kernel
theorem dW_402 : decode code 402 = .ok (.aload_n 0, 1) := by decide +kernel
theorem dW_403 : decode code 403 = .ok (.iload 4, 2) := by decide +kernel
theorem dW_405 : decode code 405 = .ok (.iconst 2, 1) := by decide +kernel
theorem dW_406 : decode code 406 = .ok (.iadd, 1) := by decide +kernel
theorem dW_407 : decode code 407 = .ok (.iaload, 1) := by decide +kernel
theorem dW_408 : decode code 408 = .ok (.ifCond .eq 7, 3) := by decide +kernel
theorem dW_411 : decode code 411 = .ok (.iconst 1, 1) := by decide +kernel
theorem dW_412 : decode code 412 = .ok (.goto 4, 3) := by decide +kernel
theorem dW_415 : decode code 415 = .ok (.iconst 0, 1) := by decide +kernel
theorem dW_416 : decode code 416 = .ok (.invokevirtual 64, 3) := by decide +kernel
theorem dW_419 : decode code 419 = .ok (.istore 6, 2) := by decide +kernel
theorem dW_421 : decode code 421 = .ok (.aload_n 2, 1) := by decide +kernel
theorem dW_422 : decode code 422 = .ok (.invokevirtual 47, 3) := by decide +kernel
theorem dW_425 : decode code 425 = .ok (.iload 5, 2) := by decide +kernel
theorem dW_427 : decode code 427 = .ok (.if_icmp .eq 5, 3) := by decide +kernel
theorem dW_430 : decode code 430 = .ok (.iconst 0, 1) := by decide +kernel
theorem dW_431 : decode code 431 = .ok (.ireturn, 1) := by decide +kernel
theorem dW_432 : decode code 432 = .ok (.iload 5, 2) := by decide +kernel
theorem dW_434 : decode code 434 = .ok (.ifCond .ne 15, 3) := by decide +kernel
theorem dW_437 : decode code 437 = .ok (.aload_n 3, 1) := by decide +kernel
theorem dW_438 : decode code 438 = .ok (.iconst 0, 1) := by decide +kernel
theorem dW_439 : decode code 439 = .ok (.laload, 1) := by decide +kernel
theorem dW_440 : decode code 440 = .ok (.iload 6, 2) := by decide +kernel
theorem dW_442 : decode code 442 = .ok (.i2l, 1) := by decide +kernel
theorem dW_443 : decode code 443 = .ok (.lcmp, 1) := by decide +kernel
theorem dW_444 : decode code 444 = .ok (.ifCond .eq 5, 3) := by decide +kernel
theorem dW_447 : decode code 447 = .ok (.iconst 0, 1) := by decide +kernel
theorem dW_448 : decode code 448 = .ok (.ireturn, 1) := by decide +kernel
theorem dW_449 : decode code 449 = .ok (.goto 401, 3) := by decide +kernel
theorem dW_452 : decode code 452 = .ok (.aload_n 1, 1) := by decide +kernel
theorem dW_453 : decode code 453 = .ok (.aload_n 0, 1) := by decide +kernel
theorem dW_454 : decode code 454 = .ok (.iload 4, 2) := by decide +kernel
theorem dW_456 : decode code 456 = .ok (.iconst 1, 1) := by decide +kernel
theorem dW_457 : decode code 457 = .ok (.iadd, 1) := by decide +kernel
theorem dW_458 : decode code 458 = .ok (.iaload, 1) := by decide +kernel
theorem dW_459 : decode code 459 = .ok (.aload_n 3, 1) := by decide +kernel
theorem dW_460 : decode code 460 = .ok (.invokestatic 65, 3) := by decide +kernel
theorem dW_463 : decode code 463 = .ok (.istore 5, 2) := by decide +kernel
theorem dW_465 : decode code 465 = .ok (.aload_n 2, 1) := by decide +kernel
theorem dW_466 : decode code 466 = .ok (.aload_n 0, 1) := by decide +kernel
theorem dW_467 : decode code 467 = .ok (.iload 4, 2) := by decide +kernel
