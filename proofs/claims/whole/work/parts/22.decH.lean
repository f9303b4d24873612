theorem dH_min_0 : decode prog_15_method_69_code 0 = .ok (.iload_n 0, 1) := by decide +kernel
theorem dH_min_1 : decode prog_15_method_69_code 1 = .ok (.iload_n 1, 1) := by decide +kernel
theorem dH_min_2 : decode prog_15_method_69_code 2 = .ok (.if_icmp .gt 7, 3) := by decide +kernel
theorem dH_min_5 : decode prog_15_method_69_code 5 = .ok (.iload_n 0, 1) := by decide +kernel
theorem dH_min_6 : decode prog_15_method_69_code 6 = .ok (.goto 4, 3) := by decide +kernel
theorem dH_min_9 : decode prog_15_method_69_code 9 = .ok (.iload_n 1, 1) := by decide +kernel
theorem dH_min_10 : decode prog_15_method_69_code 10 = .ok (.ireturn, 1) := by decide +kernel
theorem dH_max_0 : decode prog_15_method_65_code 0 = .ok (.iload_n 0, 1) := by decide +kernel
theorem dH_max_1 : decode prog_15_method_65_code 1 = .ok (.iload_n 1, 1) := by decide +kernel
theorem dH_max_2 : decode prog_15_method_65_code 2 = .ok (.if_icmp .lt 7, 3) := by decide +kernel
theorem dH_max_5 : decode prog_15_method_65_code 5 = .ok (.iload_n 0, 1) := by decide +kernel
theorem dH_max_6 : decode prog_15_method_65_code 6 = .ok (.goto 4, 3) := by decide +kernel
theorem dH_max_9 : decode prog_15_method_65_code 9 = .ok (.iload_n 1, 1) := by decide +kernel
theorem dH_max_10 : decode prog_15_method_65_code 10 = .ok (.ireturn, 1) := by decide +kernel
