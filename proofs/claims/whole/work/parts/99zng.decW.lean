theorem dW_551 : decode code 551 = .ok (.laload, 1) := by decide +kernel
theorem dW_552 : decode code 552 = .ok (.iload 6, 2) := by decide +kernel
theorem dW_554 : decode code 554 = .ok (.i2l, 1) := by decide +kernel
theorem dW_555 : decode code 555 = .ok (.lcmp, 1) := by decide +kernel
theorem dW_556 : decode code 556 = .ok (.ifCond .eq 5, 3) := by decide +kernel
theorem dW_559 : decode code 559 = .ok (.iconst 0, 1) := by decide +kernel
theorem dW_560 : decode code 560 = .ok (.ireturn, 1) := by decide +kernel
theorem dW_561 : decode code 561 = .ok (.goto 289, 3) := by decide +kernel
theorem dW_564 : decode code 564 = .ok (.aload_n 1, 1) := by decide +kernel
theorem dW_565 : decode code 565 = .ok (.aload_n 0, 1) := by decide +kernel
theorem dW_566 : decode code 566 = .ok (.iload 4, 2) := by decide +kernel
theorem dW_568 : decode code 568 = .ok (.iconst 1, 1) := by decide +kernel
theorem dW_569 : decode code 569 = .ok (.iadd, 1) := by decide +kernel
theorem dW_570 : decode code 570 = .ok (.iaload, 1) := by decide +kernel
theorem dW_571 : decode code 571 = .ok (.aload_n 0, 1) := by decide +kernel
theorem dW_572 : decode code 572 = .ok (.iload 4, 2) := by decide +kernel
theorem dW_574 : decode code 574 = .ok (.iconst 2, 1) := by decide +kernel
theorem dW_575 : decode code 575 = .ok (.iadd, 1) := by decide +kernel
theorem dW_576 : decode code 576 = .ok (.iaload, 1) := by decide +kernel
theorem dW_577 : decode code 577 = .ok (.invokevirtual 71, 3) := by decide +kernel
theorem dW_580 : decode code 580 = .ok (.aload_n 2, 1) := by decide +kernel
theorem dW_581 : decode code 581 = .ok (.aload_n 0, 1) := by decide +kernel
theorem dW_582 : decode code 582 = .ok (.iload 4, 2) := by decide +kernel
theorem dW_584 : decode code 584 = .ok (.iconst 1, 1) := by decide +kernel
theorem dW_585 : decode code 585 = .ok (.iadd, 1) := by decide +kernel
theorem dW_586 : decode code 586 = .ok (.iaload, 1) := by decide +kernel
theorem dW_587 : decode code 587 = .ok (.aload_n 0, 1) := by decide +kernel
theorem dW_588 : decode code 588 = .ok (.iload 4, 2) := by decide +kernel
theorem dW_590 : decode code 590 = .ok (.iconst 2, 1) := by decide +kernel
theorem dW_591 : decode code 591 = .ok (.iadd, 1) := by decide +kernel
theorem dW_592 : decode code 592 = .ok (.iaload, 1) := by decide +kernel
theorem dW_593 : decode code 593 = .ok (.invokevirtual 74, 3) := by decide +kernel
theorem dW_596 : decode code 596 = .ok (.if_icmp .eq 254, 3) := by decide +kernel
theorem dW_599 : decode code 599 = .ok (.iconst 0, 1) := by decide +kernel
theorem dW_600 : decode code 600 = .ok (.ireturn, 1) := by decide +kernel
theorem dW_601 : decode code 601 = .ok (.aload_n 1, 1) := by decide +kernel
theorem dW_602 : decode code 602 = .ok (.aload_n 0, 1) := by decide +kernel
theorem dW_603 : decode code 603 = .ok (.iload 4, 2) := by decide +kernel
theorem dW_605 : decode code 605 = .ok (.iconst 1, 1) := by decide +kernel
theorem dW_606 : decode code 606 = .ok (.iadd, 1) := by decide +kernel
theorem dW_607 : decode code 607 = .ok (.iaload, 1) := by decide +kernel
theorem dW_608 : decode code 608 = .ok (.aload_n 0, 1) := by decide +kernel
theorem dW_609 : decode code 609 = .ok (.iload 4, 2) := by decide +kernel
theorem dW_611 : decode code 611 = .ok (.iconst 2, 1) := by decide +kernel
theorem dW_612 : decode code 612 = .ok (.iadd, 1) := by decide +kernel
theorem dW_613 : decode code 613 = .ok (.iaload, 1) := by decide +kernel
theorem dW_614 : decode code 614 = .ok (.invokevirtual 75, 3) := by decide +kernel
theorem dW_617 : decode code 617 = .ok (.aload_n 2, 1) := by decide +kernel
theorem dW_618 : decode code 618 = .ok (.aload_n 0, 1) := by decide +kernel
theorem dW_619 : decode code 619 = .ok (.iload 4, 2) := by decide +kernel
