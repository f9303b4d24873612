theorem dW_690 : decode code 690 = .ok (.iadd, 1) := by decide +kernel
theorem dW_691 : decode code 691 = .ok (.iaload, 1) := by decide +kernel
theorem dW_692 : decode code 692 = .ok (.aload_n 0, 1) := by decide +kernel
theorem dW_693 : decode code 693 = .ok (.iload 4, 2) := by decide +kernel
theorem dW_695 : decode code 695 = .ok (.iconst 2, 1) := by decide +kernel
theorem dW_696 : decode code 696 = .ok (.iadd, 1) := by decide +kernel
theorem dW_697 : decode code 697 = .ok (.iaload, 1) := by decide +kernel
theorem dW_698 : decode code 698 = .ok (.aload_n 0, 1) := by decide +kernel
theorem dW_699 : decode code 699 = .ok (.iload 4, 2) := by decide +kernel
theorem dW_701 : decode code 701 = .ok (.iconst 3, 1) := by decide +kernel
theorem dW_702 : decode code 702 = .ok (.iadd, 1) := by decide +kernel
theorem dW_703 : decode code 703 = .ok (.iaload, 1) := by decide +kernel
theorem dW_704 : decode code 704 = .ok (.invokevirtual 89, 3) := by decide +kernel
theorem dW_707 : decode code 707 = .ok (.if_icmp .eq 143, 3) := by decide +kernel
theorem dW_710 : decode code 710 = .ok (.iconst 0, 1) := by decide +kernel
theorem dW_711 : decode code 711 = .ok (.ireturn, 1) := by decide +kernel
theorem dW_712 : decode code 712 = .ok (.aload_n 1, 1) := by decide +kernel
theorem dW_713 : decode code 713 = .ok (.aload_n 0, 1) := by decide +kernel
theorem dW_714 : decode code 714 = .ok (.iload 4, 2) := by decide +kernel
theorem dW_716 : decode code 716 = .ok (.iconst 1, 1) := by decide +kernel
theorem dW_717 : decode code 717 = .ok (.iadd, 1) := by decide +kernel
theorem dW_718 : decode code 718 = .ok (.iaload, 1) := by decide +kernel
theorem dW_719 : decode code 719 = .ok (.aload_n 0, 1) := by decide +kernel
theorem dW_720 : decode code 720 = .ok (.iload 4, 2) := by decide +kernel
theorem dW_722 : decode code 722 = .ok (.iconst 2, 1) := by decide +kernel
theorem dW_723 : decode code 723 = .ok (.iadd, 1) := by decide +kernel
theorem dW_724 : decode code 724 = .ok (.iaload, 1) := by decide +kernel
theorem dW_725 : decode code 725 = .ok (.invokevirtual 90, 3) := by decide +kernel
theorem dW_728 : decode code 728 = .ok (.aload_n 2, 1) := by decide +kernel
theorem dW_729 : decode code 729 = .ok (.aload_n 0, 1) := by decide +kernel
theorem dW_730 : decode code 730 = .ok (.iload 4, 2) := by decide +kernel
theorem dW_732 : decode code 732 = .ok (.iconst 1, 1) := by decide +kernel
theorem dW_733 : decode code 733 = .ok (.iadd, 1) := by decide +kernel
theorem dW_734 : decode code 734 = .ok (.iaload, 1) := by decide +kernel
theorem dW_735 : decode code 735 = .ok (.aload_n 0, 1) := by decide +kernel
theorem dW_736 : decode code 736 = .ok (.iload 4, 2) := by decide +kernel
theorem dW_738 : decode code 738 = .ok (.iconst 2, 1) := by decide +kernel
theorem dW_739 : decode code 739 = .ok (.iadd, 1) := by decide +kernel
theorem dW_740 : decode code 740 = .ok (.iaload, 1) := by decide +kernel
theorem dW_741 : decode code 741 = .ok (.invokevirtual 93, 3) := by decide +kernel
theorem dW_744 : decode code 744 = .ok (.if_icmp .eq 106, 3) := by decide +kernel
theorem dW_747 : decode code 747 = .ok (.iconst 0, 1) := by decide +kernel
theorem dW_748 : decode code 748 = .ok (.ireturn, 1) := by decide +kernel
theorem dW_749 : decode code 749 = .ok (.aload_n 1, 1) := by decide +kernel
theorem dW_750 : decode code 750 = .ok (.invokevirtual 94, 3) := by decide +kernel
theorem dW_753 : decode code 753 = .ok (.aload_n 2, 1) := by decide +kernel
theorem dW_754 : decode code 754 = .ok (.invokevirtual 97, 3) := by decide +kernel
theorem dW_757 : decode code 757 = .ok (.if_icmp .eq 93, 3) := by decide +kernel
theorem dW_760 : decode code 760 = .ok (.iconst 0, 1) := by decide +kernel
theorem dW_761 : decode code 761 = .ok (.ireturn, 1) := by decide +kernel
