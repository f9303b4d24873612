theorem dE_init_0 : decode prog_2_method_1_code 0 = .ok (.aload_n 0, 1) := by decide +kernel
theorem dE_init_1 : decode prog_2_method_1_code 1 = .ok (.invokespecial 3, 3) := by decide +kernel
theorem dE_init_4 : decode prog_2_method_1_code 4 = .ok (.aload_n 0, 1) := by decide +kernel
theorem dE_init_5 : decode prog_2_method_1_code 5 = .ok (.iconst (-1), 1) := by decide +kernel
theorem dE_init_6 : decode prog_2_method_1_code 6 = .ok (.putfield 9, 3) := by decide +kernel
theorem dE_init_9 : decode prog_2_method_1_code 9 = .ok (.aload_n 0, 1) := by decide +kernel
theorem dE_init_10 : decode prog_2_method_1_code 10 = .ok (.iload_n 1, 1) := by decide +kernel
theorem dE_init_11 : decode prog_2_method_1_code 11 = .ok (.putfield 15, 3) := by decide +kernel
theorem dE_init_14 : decode prog_2_method_1_code 14 = .ok (.aload_n 0, 1) := by decide +kernel
theorem dE_init_15 : decode prog_2_method_1_code 15 = .ok (.aload_n 2, 1) := by decide +kernel
theorem dE_init_16 : decode prog_2_method_1_code 16 = .ok (.putfield 18, 3) := by decide +kernel
theorem dE_init_19 : decode prog_2_method_1_code 19 = .ok (.aload_n 0, 1) := by decide +kernel
theorem dE_init_20 : decode prog_2_method_1_code 20 = .ok (.iload_n 3, 1) := by decide +kernel
theorem dE_init_21 : decode prog_2_method_1_code 21 = .ok (.putfield 22, 3) := by decide +kernel
theorem dE_init_24 : decode prog_2_method_1_code 24 = .ok (.return_, 1) := by decide +kernel
theorem dE_lowestCounting_0 : decode prog_2_method_2_code 0 = .ok (.iconst 1, 1) := by decide +kernel
theorem dE_lowestCounting_1 : decode prog_2_method_2_code 1 = .ok (.istore_n 2, 1) := by decide +kernel
theorem dE_lowestCounting_2 : decode prog_2_method_2_code 2 = .ok (.iload_n 2, 1) := by decide +kernel
theorem dE_lowestCounting_3 : decode prog_2_method_2_code 3 = .ok (.aload_n 0, 1) := by decide +kernel
theorem dE_lowestCounting_4 : decode prog_2_method_2_code 4 = .ok (.getfield 18, 3) := by decide +kernel
theorem dE_lowestCounting_7 : decode prog_2_method_2_code 7 = .ok (.getfield 25, 3) := by decide +kernel
theorem dE_lowestCounting_10 : decode prog_2_method_2_code 10 = .ok (.if_icmp .gt 27, 3) := by decide +kernel
theorem dE_lowestCounting_13 : decode prog_2_method_2_code 13 = .ok (.aload_n 0, 1) := by decide +kernel
theorem dE_lowestCounting_14 : decode prog_2_method_2_code 14 = .ok (.getfield 30, 3) := by decide +kernel
theorem dE_lowestCounting_17 : decode prog_2_method_2_code 17 = .ok (.iload_n 1, 1) := by decide +kernel
theorem dE_lowestCounting_18 : decode prog_2_method_2_code 18 = .ok (.iload_n 2, 1) := by decide +kernel
theorem dE_lowestCounting_19 : decode prog_2_method_2_code 19 = .ok (.invokestatic 33, 3) := by decide +kernel
theorem dE_lowestCounting_22 : decode prog_2_method_2_code 22 = .ok (.invokestatic 37, 3) := by decide +kernel
theorem dE_lowestCounting_25 : decode prog_2_method_2_code 25 = .ok (.iand, 1) := by decide +kernel
theorem dE_lowestCounting_26 : decode prog_2_method_2_code 26 = .ok (.ifCond .eq 5, 3) := by decide +kernel
theorem dE_lowestCounting_29 : decode prog_2_method_2_code 29 = .ok (.iload_n 2, 1) := by decide +kernel
theorem dE_lowestCounting_30 : decode prog_2_method_2_code 30 = .ok (.ireturn, 1) := by decide +kernel
theorem dE_lowestCounting_31 : decode prog_2_method_2_code 31 = .ok (.iinc 2 1, 3) := by decide +kernel
theorem dE_lowestCounting_34 : decode prog_2_method_2_code 34 = .ok (.goto (-32), 3) := by decide +kernel
theorem dE_lowestCounting_37 : decode prog_2_method_2_code 37 = .ok (.iconst (-1), 1) := by decide +kernel
theorem dE_lowestCounting_38 : decode prog_2_method_2_code 38 = .ok (.ireturn, 1) := by decide +kernel
