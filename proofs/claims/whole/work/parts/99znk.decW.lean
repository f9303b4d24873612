theorem dW_836 : decode code 836 = .ok (.ireturn, 1) := by decide +kernel
theorem dW_837 : decode code 837 = .ok (.aload_n 1, 1) := by decide +kernel
theorem dW_838 : decode code 838 = .ok (.invokevirtual 110, 3) := by decide +kernel
theorem dW_841 : decode code 841 = .ok (.aload_n 2, 1) := by decide +kernel
theorem dW_842 : decode code 842 = .ok (.invokevirtual 113, 3) := by decide +kernel
theorem dW_845 : decode code 845 = .ok (.if_icmp .eq 5, 3) := by decide +kernel
theorem dW_848 : decode code 848 = .ok (.iconst 0, 1) := by decide +kernel
theorem dW_849 : decode code 849 = .ok (.ireturn, 1) := by decide +kernel
theorem dW_850 : decode code 850 = .ok (.iinc 4 4, 3) := by decide +kernel
theorem dW_853 : decode code 853 = .ok (.goto (-830), 3) := by decide +kernel
theorem dW_856 : decode code 856 = .ok (.iconst 1, 1) := by decide +kernel
theorem dW_857 : decode code 857 = .ok (.ireturn, 1) := by decide +kernel
