theorem dW_0 : decode code 0 = .ok (.new 8, 3) := by decide +kernel
theorem dW_3 : decode code 3 = .ok (.dup, 1) := by decide +kernel
theorem dW_4 : decode code 4 = .ok (.invokespecial 37, 3) := by decide +kernel
theorem dW_7 : decode code 7 = .ok (.astore_n 1, 1) := by decide +kernel
theorem dW_8 : decode code 8 = .ok (.new 38, 3) := by decide +kernel
theorem dW_11 : decode code 11 = .ok (.dup, 1) := by decide +kernel
theorem dW_12 : decode code 12 = .ok (.invokespecial 40, 3) := by decide +kernel
theorem dW_15 : decode code 15 = .ok (.astore_n 2, 1) := by decide +kernel
theorem dW_16 : decode code 16 = .ok (.iconst 1, 1) := by decide +kernel
theorem dW_17 : decode code 17 = .ok (.newarray .long, 2) := by decide +kernel
theorem dW_19 : decode code 19 = .ok (.astore_n 3, 1) := by decide +kernel
theorem dW_20 : decode code 20 = .ok (.iconst 0, 1) := by decide +kernel
theorem dW_21 : decode code 21 = .ok (.istore 4, 2) := by decide +kernel
theorem dW_23 : decode code 23 = .ok (.iload 4, 2) := by decide +kernel
theorem dW_25 : decode code 25 = .ok (.aload_n 0, 1) := by decide +kernel
theorem dW_26 : decode code 26 = .ok (.arraylength, 1) := by decide +kernel
theorem dW_27 : decode code 27 = .ok (.iconst 4, 1) := by decide +kernel
theorem dW_28 : decode code 28 = .ok (.isub, 1) := by decide +kernel
theorem dW_29 : decode code 29 = .ok (.if_icmp .gt 827, 3) := by decide +kernel
theorem dW_32 : decode code 32 = .ok (.aload_n 0, 1) := by decide +kernel
theorem dW_33 : decode code 33 = .ok (.iload 4, 2) := by decide +kernel
theorem dW_35 : decode code 35 = .ok (.iaload, 1) := by decide +kernel
theorem dW_36 : decode code 36 = .ok (.bipush 31, 2) := by decide +kernel
theorem dW_38 : decode code 38 = .ok (.iand, 1) := by decide +kernel
theorem dW_39 : decode code 39 = .ok (.tableswitch 811 0 16 #[81, 137, 205, 273, 329, 413, 469, 525, 562, 599, 624, 673, 710, 723, 736, 761, 798], 81) := by decide +kernel
theorem dW_120 : decode code 120 = .ok (.aload_n 1, 1) := by decide +kernel
theorem dW_121 : decode code 121 = .ok (.aload_n 0, 1) := by decide +kernel
theorem dW_122 : decode code 122 = .ok (.iload 4, 2) := by decide +kernel
theorem dW_124 : decode code 124 = .ok (.iconst 1, 1) := by decide +kernel
theorem dW_125 : decode code 125 = .ok (.iadd, 1) := by decide +kernel
theorem dW_126 : decode code 126 = .ok (.iaload, 1) := by decide +kernel
theorem dW_127 : decode code 127 = .ok (.aload_n 3, 1) := by decide +kernel
theorem dW_128 : decode code 128 = .ok (.invokestatic 41, 3) := by decide +kernel
theorem dW_131 : decode code 131 = .ok (.istore 5, 2) := by decide +kernel
theorem dW_133 : decode code 133 = .ok (.aload_n 2, 1) := by decide +kernel
theorem dW_134 : decode code 134 = .ok (.aload_n 0, 1) := by decide +kernel
theorem dW_135 : decode code 135 = .ok (.iload 4, 2) := by decide +kernel
theorem dW_137 : decode code 137 = .ok (.iconst 1, 1) := by decide +kernel
theorem dW_138 : decode code 138 = .ok (.iadd, 1) := by decide +kernel
theorem dW_139 : decode code 139 = .ok (.iaload, 1) := by decide +kernel
theorem dW_140 : decode code 140 = .ok (.invokevirtual 46, 3) := by decide +kernel
theorem dW_143 : decode code 143 = .ok (.istore 6, 2) := by decide +kernel
theorem dW_145 : decode code 145 = .ok (.aload_n 2, 1) := by decide +kernel
theorem dW_146 : decode code 146 = .ok (.invokevirtual 47, 3) := by decide +kernel
theorem dW_149 : decode code 149 = .ok (.iload 5, 2) := by decide +kernel
theorem dW_151 : decode code 151 = .ok (.if_icmp .eq 5, 3) := by decide +kernel
theorem dW_154 : decode code 154 = .ok (.iconst 0, 1) := by decide +kernel
theorem dW_155 : decode code 155 = .ok (.ireturn, 1) := by decide +kernel
theorem dW_156 : decode code 156 = .ok (.iload 5, 2) := by decide +kernel
theorem dW_158 : decode code 158 = .ok (.ifCond .ne 15, 3) := by decide +kernel
