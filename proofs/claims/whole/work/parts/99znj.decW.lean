theorem dW_762 : decode code 762 = .ok (.aload_n 1, 1) := by decide +kernel
theorem dW_763 : decode code 763 = .ok (.invokevirtual 98, 3) := by decide +kernel
theorem dW_766 : decode code 766 = .ok (.aload_n 2, 1) := by decide +kernel
theorem dW_767 : decode code 767 = .ok (.invokevirtual 101, 3) := by decide +kernel
theorem dW_770 : decode code 770 = .ok (.if_icmp .eq 80, 3) := by decide +kernel
theorem dW_773 : decode code 773 = .ok (.iconst 0, 1) := by decide +kernel
theorem dW_774 : decode code 774 = .ok (.ireturn, 1) := by decide +kernel
theorem dW_775 : decode code 775 = .ok (.aload_n 1, 1) := by decide +kernel
theorem dW_776 : decode code 776 = .ok (.aload_n 0, 1) := by decide +kernel
theorem dW_777 : decode code 777 = .ok (.iload 4, 2) := by decide +kernel
theorem dW_779 : decode code 779 = .ok (.iconst 1, 1) := by decide +kernel
theorem dW_780 : decode code 780 = .ok (.iadd, 1) := by decide +kernel
theorem dW_781 : decode code 781 = .ok (.iaload, 1) := by decide +kernel
theorem dW_782 : decode code 782 = .ok (.invokevirtual 102, 3) := by decide +kernel
theorem dW_785 : decode code 785 = .ok (.aload_n 2, 1) := by decide +kernel
theorem dW_786 : decode code 786 = .ok (.aload_n 0, 1) := by decide +kernel
theorem dW_787 : decode code 787 = .ok (.iload 4, 2) := by decide +kernel
theorem dW_789 : decode code 789 = .ok (.iconst 1, 1) := by decide +kernel
theorem dW_790 : decode code 790 = .ok (.iadd, 1) := by decide +kernel
theorem dW_791 : decode code 791 = .ok (.iaload, 1) := by decide +kernel
theorem dW_792 : decode code 792 = .ok (.invokevirtual 105, 3) := by decide +kernel
theorem dW_795 : decode code 795 = .ok (.if_icmp .eq 55, 3) := by decide +kernel
theorem dW_798 : decode code 798 = .ok (.iconst 0, 1) := by decide +kernel
theorem dW_799 : decode code 799 = .ok (.ireturn, 1) := by decide +kernel
theorem dW_800 : decode code 800 = .ok (.aload_n 1, 1) := by decide +kernel
theorem dW_801 : decode code 801 = .ok (.aload_n 0, 1) := by decide +kernel
theorem dW_802 : decode code 802 = .ok (.iload 4, 2) := by decide +kernel
theorem dW_804 : decode code 804 = .ok (.iconst 1, 1) := by decide +kernel
theorem dW_805 : decode code 805 = .ok (.iadd, 1) := by decide +kernel
theorem dW_806 : decode code 806 = .ok (.iaload, 1) := by decide +kernel
theorem dW_807 : decode code 807 = .ok (.aload_n 0, 1) := by decide +kernel
theorem dW_808 : decode code 808 = .ok (.iload 4, 2) := by decide +kernel
theorem dW_810 : decode code 810 = .ok (.iconst 2, 1) := by decide +kernel
theorem dW_811 : decode code 811 = .ok (.iadd, 1) := by decide +kernel
theorem dW_812 : decode code 812 = .ok (.iaload, 1) := by decide +kernel
theorem dW_813 : decode code 813 = .ok (.invokevirtual 106, 3) := by decide +kernel
theorem dW_816 : decode code 816 = .ok (.aload_n 2, 1) := by decide +kernel
theorem dW_817 : decode code 817 = .ok (.aload_n 0, 1) := by decide +kernel
theorem dW_818 : decode code 818 = .ok (.iload 4, 2) := by decide +kernel
theorem dW_820 : decode code 820 = .ok (.iconst 1, 1) := by decide +kernel
theorem dW_821 : decode code 821 = .ok (.iadd, 1) := by decide +kernel
theorem dW_822 : decode code 822 = .ok (.iaload, 1) := by decide +kernel
theorem dW_823 : decode code 823 = .ok (.aload_n 0, 1) := by decide +kernel
theorem dW_824 : decode code 824 = .ok (.iload 4, 2) := by decide +kernel
theorem dW_826 : decode code 826 = .ok (.iconst 2, 1) := by decide +kernel
theorem dW_827 : decode code 827 = .ok (.iadd, 1) := by decide +kernel
theorem dW_828 : decode code 828 = .ok (.iaload, 1) := by decide +kernel
theorem dW_829 : decode code 829 = .ok (.invokevirtual 109, 3) := by decide +kernel
theorem dW_832 : decode code 832 = .ok (.if_icmp .eq 18, 3) := by decide +kernel
theorem dW_835 : decode code 835 = .ok (.iconst 0, 1) := by decide +kernel
