theorem dW_469 : decode code 469 = .ok (.iconst 1, 1) := by decide +kernel
theorem dW_470 : decode code 470 = .ok (.iadd, 1) := by decide +kernel
theorem dW_471 : decode code 471 = .ok (.iaload, 1) := by decide +kernel
theorem dW_472 : decode code 472 = .ok (.invokevirtual 67, 3) := by decide +kernel
theorem dW_475 : decode code 475 = .ok (.istore 6, 2) := by decide +kernel
theorem dW_477 : decode code 477 = .ok (.aload_n 2, 1) := by decide +kernel
theorem dW_478 : decode code 478 = .ok (.invokevirtual 47, 3) := by decide +kernel
theorem dW_481 : decode code 481 = .ok (.iload 5, 2) := by decide +kernel
theorem dW_483 : decode code 483 = .ok (.if_icmp .eq 5, 3) := by decide +kernel
theorem dW_486 : decode code 486 = .ok (.iconst 0, 1) := by decide +kernel
theorem dW_487 : decode code 487 = .ok (.ireturn, 1) := by decide +kernel
theorem dW_488 : decode code 488 = .ok (.iload 5, 2) := by decide +kernel
theorem dW_490 : decode code 490 = .ok (.ifCond .ne 15, 3) := by decide +kernel
theorem dW_493 : decode code 493 = .ok (.aload_n 3, 1) := by decide +kernel
theorem dW_494 : decode code 494 = .ok (.iconst 0, 1) := by decide +kernel
theorem dW_495 : decode code 495 = .ok (.laload, 1) := by decide +kernel
theorem dW_496 : decode code 496 = .ok (.iload 6, 2) := by decide +kernel
theorem dW_498 : decode code 498 = .ok (.i2l, 1) := by decide +kernel
theorem dW_499 : decode code 499 = .ok (.lcmp, 1) := by decide +kernel
theorem dW_500 : decode code 500 = .ok (.ifCond .eq 5, 3) := by decide +kernel
theorem dW_503 : decode code 503 = .ok (.iconst 0, 1) := by decide +kernel
theorem dW_504 : decode code 504 = .ok (.ireturn, 1) := by decide +kernel
theorem dW_505 : decode code 505 = .ok (.goto 345, 3) := by decide +kernel
theorem dW_508 : decode code 508 = .ok (.aload_n 1, 1) := by decide +kernel
theorem dW_509 : decode code 509 = .ok (.aload_n 0, 1) := by decide +kernel
theorem dW_510 : decode code 510 = .ok (.iload 4, 2) := by decide +kernel
theorem dW_512 : decode code 512 = .ok (.iconst 1, 1) := by decide +kernel
theorem dW_513 : decode code 513 = .ok (.iadd, 1) := by decide +kernel
theorem dW_514 : decode code 514 = .ok (.iaload, 1) := by decide +kernel
theorem dW_515 : decode code 515 = .ok (.aload_n 3, 1) := by decide +kernel
theorem dW_516 : decode code 516 = .ok (.invokestatic 68, 3) := by decide +kernel
theorem dW_519 : decode code 519 = .ok (.istore 5, 2) := by decide +kernel
theorem dW_521 : decode code 521 = .ok (.aload_n 2, 1) := by decide +kernel
theorem dW_522 : decode code 522 = .ok (.aload_n 0, 1) := by decide +kernel
theorem dW_523 : decode code 523 = .ok (.iload 4, 2) := by decide +kernel
theorem dW_525 : decode code 525 = .ok (.iconst 1, 1) := by decide +kernel
theorem dW_526 : decode code 526 = .ok (.iadd, 1) := by decide +kernel
theorem dW_527 : decode code 527 = .ok (.iaload, 1) := by decide +kernel
theorem dW_528 : decode code 528 = .ok (.invokevirtual 70, 3) := by decide +kernel
theorem dW_531 : decode code 531 = .ok (.istore 6, 2) := by decide +kernel
theorem dW_533 : decode code 533 = .ok (.aload_n 2, 1) := by decide +kernel
theorem dW_534 : decode code 534 = .ok (.invokevirtual 47, 3) := by decide +kernel
theorem dW_537 : decode code 537 = .ok (.iload 5, 2) := by decide +kernel
theorem dW_539 : decode code 539 = .ok (.if_icmp .eq 5, 3) := by decide +kernel
theorem dW_542 : decode code 542 = .ok (.iconst 0, 1) := by decide +kernel
theorem dW_543 : decode code 543 = .ok (.ireturn, 1) := by decide +kernel
theorem dW_544 : decode code 544 = .ok (.iload 5, 2) := by decide +kernel
theorem dW_546 : decode code 546 = .ok (.ifCond .ne 15, 3) := by decide +kernel
theorem dW_549 : decode code 549 = .ok (.aload_n 3, 1) := by decide +kernel
theorem dW_550 : decode code 550 = .ok (.iconst 0, 1) := by decide +kernel
