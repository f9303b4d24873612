theorem dW_621 : decode code 621 = .ok (.iconst 1, 1) := by decide +kernel
theorem dW_622 : decode code 622 = .ok (.iadd, 1) := by decide +kernel
theorem dW_623 : decode code 623 = .ok (.iaload, 1) := by decide +kernel
theorem dW_624 : decode code 624 = .ok (.aload_n 0, 1) := by decide +kernel
theorem dW_625 : decode code 625 = .ok (.iload 4, 2) := by decide +kernel
theorem dW_627 : decode code 627 = .ok (.iconst 2, 1) := by decide +kernel
theorem dW_628 : decode code 628 = .ok (.iadd, 1) := by decide +kernel
theorem dW_629 : decode code 629 = .ok (.iaload, 1) := by decide +kernel
theorem dW_630 : decode code 630 = .ok (.invokevirtual 79, 3) := by decide +kernel
theorem dW_633 : decode code 633 = .ok (.if_icmp .eq 217, 3) := by decide +kernel
theorem dW_636 : decode code 636 = .ok (.iconst 0, 1) := by decide +kernel
theorem dW_637 : decode code 637 = .ok (.ireturn, 1) := by decide +kernel
theorem dW_638 : decode code 638 = .ok (.aload_n 1, 1) := by decide +kernel
theorem dW_639 : decode code 639 = .ok (.aload_n 0, 1) := by decide +kernel
theorem dW_640 : decode code 640 = .ok (.iload 4, 2) := by decide +kernel
theorem dW_642 : decode code 642 = .ok (.iconst 1, 1) := by decide +kernel
theorem dW_643 : decode code 643 = .ok (.iadd, 1) := by decide +kernel
theorem dW_644 : decode code 644 = .ok (.iaload, 1) := by decide +kernel
theorem dW_645 : decode code 645 = .ok (.invokevirtual 80, 3) := by decide +kernel
theorem dW_648 : decode code 648 = .ok (.aload_n 2, 1) := by decide +kernel
theorem dW_649 : decode code 649 = .ok (.aload_n 0, 1) := by decide +kernel
theorem dW_650 : decode code 650 = .ok (.iload 4, 2) := by decide +kernel
theorem dW_652 : decode code 652 = .ok (.iconst 1, 1) := by decide +kernel
theorem dW_653 : decode code 653 = .ok (.iadd, 1) := by decide +kernel
theorem dW_654 : decode code 654 = .ok (.iaload, 1) := by decide +kernel
theorem dW_655 : decode code 655 = .ok (.invokevirtual 84, 3) := by decide +kernel
theorem dW_658 : decode code 658 = .ok (.if_icmp .eq 192, 3) := by decide +kernel
theorem dW_661 : decode code 661 = .ok (.iconst 0, 1) := by decide +kernel
theorem dW_662 : decode code 662 = .ok (.ireturn, 1) := by decide +kernel
theorem dW_663 : decode code 663 = .ok (.aload_n 1, 1) := by decide +kernel
theorem dW_664 : decode code 664 = .ok (.aload_n 0, 1) := by decide +kernel
theorem dW_665 : decode code 665 = .ok (.iload 4, 2) := by decide +kernel
theorem dW_667 : decode code 667 = .ok (.iconst 1, 1) := by decide +kernel
theorem dW_668 : decode code 668 = .ok (.iadd, 1) := by decide +kernel
theorem dW_669 : decode code 669 = .ok (.iaload, 1) := by decide +kernel
theorem dW_670 : decode code 670 = .ok (.aload_n 0, 1) := by decide +kernel
theorem dW_671 : decode code 671 = .ok (.iload 4, 2) := by decide +kernel
theorem dW_673 : decode code 673 = .ok (.iconst 2, 1) := by decide +kernel
theorem dW_674 : decode code 674 = .ok (.iadd, 1) := by decide +kernel
theorem dW_675 : decode code 675 = .ok (.iaload, 1) := by decide +kernel
theorem dW_676 : decode code 676 = .ok (.aload_n 0, 1) := by decide +kernel
theorem dW_677 : decode code 677 = .ok (.iload 4, 2) := by decide +kernel
theorem dW_679 : decode code 679 = .ok (.iconst 3, 1) := by decide +kernel
theorem dW_680 : decode code 680 = .ok (.iadd, 1) := by decide +kernel
theorem dW_681 : decode code 681 = .ok (.iaload, 1) := by decide +kernel
theorem dW_682 : decode code 682 = .ok (.invokevirtual 85, 3) := by decide +kernel
theorem dW_685 : decode code 685 = .ok (.aload_n 2, 1) := by decide +kernel
theorem dW_686 : decode code 686 = .ok (.aload_n 0, 1) := by decide +kernel
theorem dW_687 : decode code 687 = .ok (.iload 4, 2) := by decide +kernel
theorem dW_689 : decode code 689 = .ok (.iconst 1, 1) := by decide +kernel
