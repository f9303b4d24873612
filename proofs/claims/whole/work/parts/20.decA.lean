theorem dA_fill_0 : decode prog_19_method_103_code 0 = .ok (.iconst 0, 1) := by decide +kernel
theorem dA_fill_1 : decode prog_19_method_103_code 1 = .ok (.istore_n 2, 1) := by decide +kernel
theorem dA_fill_2 : decode prog_19_method_103_code 2 = .ok (.aload_n 0, 1) := by decide +kernel
theorem dA_fill_3 : decode prog_19_method_103_code 3 = .ok (.arraylength, 1) := by decide +kernel
theorem dA_fill_4 : decode prog_19_method_103_code 4 = .ok (.istore_n 3, 1) := by decide +kernel
theorem dA_fill_5 : decode prog_19_method_103_code 5 = .ok (.iload_n 2, 1) := by decide +kernel
theorem dA_fill_6 : decode prog_19_method_103_code 6 = .ok (.iload_n 3, 1) := by decide +kernel
theorem dA_fill_7 : decode prog_19_method_103_code 7 = .ok (.if_icmp .ge 13, 3) := by decide +kernel
theorem dA_fill_10 : decode prog_19_method_103_code 10 = .ok (.aload_n 0, 1) := by decide +kernel
theorem dA_fill_11 : decode prog_19_method_103_code 11 = .ok (.iload_n 2, 1) := by decide +kernel
theorem dA_fill_12 : decode prog_19_method_103_code 12 = .ok (.iload_n 1, 1) := by decide +kernel
theorem dA_fill_13 : decode prog_19_method_103_code 13 = .ok (.iastore, 1) := by decide +kernel
theorem dA_fill_14 : decode prog_19_method_103_code 14 = .ok (.iinc 2 1, 3) := by decide +kernel
theorem dA_fill_17 : decode prog_19_method_103_code 17 = .ok (.goto (-12), 3) := by decide +kernel
theorem dA_fill_20 : decode prog_19_method_103_code 20 = .ok (.return_, 1) := by decide +kernel
theorem dA_copyOf0_0 : decode prog_19_method_121_code 0 = .ok (.iload_n 1, 1) := by decide +kernel
theorem dA_copyOf0_1 : decode prog_19_method_121_code 1 = .ok (.aload_n 0, 1) := by decide +kernel
theorem dA_copyOf0_2 : decode prog_19_method_121_code 2 = .ok (.arraylength, 1) := by decide +kernel
theorem dA_copyOf0_3 : decode prog_19_method_121_code 3 = .ok (.if_icmp .ne 11, 3) := by decide +kernel
theorem dA_copyOf0_6 : decode prog_19_method_121_code 6 = .ok (.aload_n 0, 1) := by decide +kernel
theorem dA_copyOf0_7 : decode prog_19_method_121_code 7 = .ok (.invokevirtual 310, 3) := by decide +kernel
theorem dA_copyOf0_10 : decode prog_19_method_121_code 10 = .ok (.checkcast 311, 3) := by decide +kernel
theorem dA_copyOf0_13 : decode prog_19_method_121_code 13 = .ok (.areturn, 1) := by decide +kernel
theorem dA_copyOf0_14 : decode prog_19_method_121_code 14 = .ok (.iload_n 1, 1) := by decide +kernel
theorem dA_copyOf0_15 : decode prog_19_method_121_code 15 = .ok (.newarray .byte, 2) := by decide +kernel
theorem dA_copyOf0_17 : decode prog_19_method_121_code 17 = .ok (.astore_n 2, 1) := by decide +kernel
theorem dA_copyOf0_18 : decode prog_19_method_121_code 18 = .ok (.aload_n 0, 1) := by decide +kernel
theorem dA_copyOf0_19 : decode prog_19_method_121_code 19 = .ok (.iconst 0, 1) := by decide +kernel
theorem dA_copyOf0_20 : decode prog_19_method_121_code 20 = .ok (.aload_n 2, 1) := by decide +kernel
theorem dA_copyOf0_21 : decode prog_19_method_121_code 21 = .ok (.iconst 0, 1) := by decide +kernel
theorem dA_copyOf0_22 : decode prog_19_method_121_code 22 = .ok (.aload_n 0, 1) := by decide +kernel
theorem dA_copyOf0_23 : decode prog_19_method_121_code 23 = .ok (.arraylength, 1) := by decide +kernel
theorem dA_copyOf0_24 : decode prog_19_method_121_code 24 = .ok (.iload_n 1, 1) := by decide +kernel
theorem dA_copyOf0_25 : decode prog_19_method_121_code 25 = .ok (.invokestatic 304, 3) := by decide +kernel
theorem dA_copyOf0_28 : decode prog_19_method_121_code 28 = .ok (.invokestatic 150, 3) := by decide +kernel
theorem dA_copyOf0_31 : decode prog_19_method_121_code 31 = .ok (.aload_n 2, 1) := by decide +kernel
theorem dA_copyOf0_32 : decode prog_19_method_121_code 32 = .ok (.areturn, 1) := by decide +kernel
theorem dA_copyOf1_0 : decode prog_19_method_123_code 0 = .ok (.iload_n 1, 1) := by decide +kernel
theorem dA_copyOf1_1 : decode prog_19_method_123_code 1 = .ok (.aload_n 0, 1) := by decide +kernel
theorem dA_copyOf1_2 : decode prog_19_method_123_code 2 = .ok (.arraylength, 1) := by decide +kernel
theorem dA_copyOf1_3 : decode prog_19_method_123_code 3 = .ok (.if_icmp .ne 11, 3) := by decide +kernel
theorem dA_copyOf1_6 : decode prog_19_method_123_code 6 = .ok (.aload_n 0, 1) := by decide +kernel
theorem dA_copyOf1_7 : decode prog_19_method_123_code 7 = .ok (.invokevirtual 316, 3) := by decide +kernel
theorem dA_copyOf1_10 : decode prog_19_method_123_code 10 = .ok (.checkcast 317, 3) := by decide +kernel
theorem dA_copyOf1_13 : decode prog_19_method_123_code 13 = .ok (.areturn, 1) := by decide +kernel
theorem dA_copyOf1_14 : decode prog_19_method_123_code 14 = .ok (.iload_n 1, 1) := by decide +kernel
theorem dA_copyOf1_15 : decode prog_19_method_123_code 15 = .ok (.newarray .int, 2) := by decide +kernel
theorem dA_copyOf1_17 : decode prog_19_method_123_code 17 = .ok (.astore_n 2, 1) := by decide +kernel
theorem dA_copyOf1_18 : decode prog_19_method_123_code 18 = .ok (.aload_n 0, 1) := by decide +kernel
theorem dA_copyOf1_19 : decode prog_19_method_123_code 19 = .ok (.iconst 0, 1) := by decide +kernel
theorem dA_copyOf1_20 : decode prog_19_method_123_code 20 = .ok (.aload_n 2, 1) := by decide +kernel
theorem dA_copyOf1_21 : decode prog_19_method_123_code 21 = .ok (.iconst 0, 1) := by decide +kernel
theorem dA_copyOf1_22 : decode prog_19_method_123_code 22 = .ok (.aload_n 0, 1) := by decide +kernel
theorem dA_copyOf1_23 : decode prog_19_method_123_code 23 = .ok (.arraylength, 1) := by decide +kernel
theorem dA_copyOf1_24 : decode prog_19_method_123_code 24 = .ok (.iload_n 1, 1) := by decide +kernel
theorem dA_copyOf1_25 : decode prog_19_method_123_code 25 = .ok (.invokestatic 304, 3) := by decide +kernel
theorem dA_copyOf1_28 : decode prog_19_method_123_code 28 = .ok (.invokestatic 150, 3) := by decide +kernel
theorem dA_copyOf1_31 : decode prog_19_method_123_code 31 = .ok (.aload_n 2, 1) := by decide +kernel
theorem dA_copyOf1_32 : decode prog_19_method_123_code 32 = .ok (.areturn, 1) := by decide +kernel
