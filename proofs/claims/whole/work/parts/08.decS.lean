theorem dS_init_0 : decode prog_6_method_1_code 0 = .ok (.aload_n 0, 1) := by decide +kernel
theorem dS_init_1 : decode prog_6_method_1_code 1 = .ok (.invokespecial 3, 3) := by decide +kernel
theorem dS_init_4 : decode prog_6_method_1_code 4 = .ok (.aload_n 0, 1) := by decide +kernel
theorem dS_init_5 : decode prog_6_method_1_code 5 = .ok (.bipush 64, 2) := by decide +kernel
theorem dS_init_7 : decode prog_6_method_1_code 7 = .ok (.newarray .byte, 2) := by decide +kernel
theorem dS_init_9 : decode prog_6_method_1_code 9 = .ok (.putfield 11, 3) := by decide +kernel
theorem dS_init_12 : decode prog_6_method_1_code 12 = .ok (.aload_n 0, 1) := by decide +kernel
theorem dS_init_13 : decode prog_6_method_1_code 13 = .ok (.bipush 64, 2) := by decide +kernel
theorem dS_init_15 : decode prog_6_method_1_code 15 = .ok (.newarray .int, 2) := by decide +kernel
theorem dS_init_17 : decode prog_6_method_1_code 17 = .ok (.putfield 15, 3) := by decide +kernel
theorem dS_init_20 : decode prog_6_method_1_code 20 = .ok (.aload_n 0, 1) := by decide +kernel
theorem dS_init_21 : decode prog_6_method_1_code 21 = .ok (.bipush 64, 2) := by decide +kernel
theorem dS_init_23 : decode prog_6_method_1_code 23 = .ok (.newarray .int, 2) := by decide +kernel
theorem dS_init_25 : decode prog_6_method_1_code 25 = .ok (.putfield 19, 3) := by decide +kernel
theorem dS_init_28 : decode prog_6_method_1_code 28 = .ok (.aload_n 0, 1) := by decide +kernel
theorem dS_init_29 : decode prog_6_method_1_code 29 = .ok (.bipush 64, 2) := by decide +kernel
theorem dS_init_31 : decode prog_6_method_1_code 31 = .ok (.newarray .int, 2) := by decide +kernel
theorem dS_init_33 : decode prog_6_method_1_code 33 = .ok (.putfield 22, 3) := by decide +kernel
theorem dS_init_36 : decode prog_6_method_1_code 36 = .ok (.aload_n 0, 1) := by decide +kernel
theorem dS_init_37 : decode prog_6_method_1_code 37 = .ok (.getfield 11, 3) := by decide +kernel
theorem dS_init_40 : decode prog_6_method_1_code 40 = .ok (.iconst 0, 1) := by decide +kernel
theorem dS_init_41 : decode prog_6_method_1_code 41 = .ok (.iconst 1, 1) := by decide +kernel
theorem dS_init_42 : decode prog_6_method_1_code 42 = .ok (.bastore, 1) := by decide +kernel
theorem dS_init_43 : decode prog_6_method_1_code 43 = .ok (.aload_n 0, 1) := by decide +kernel
theorem dS_init_44 : decode prog_6_method_1_code 44 = .ok (.iconst 1, 1) := by decide +kernel
theorem dS_init_45 : decode prog_6_method_1_code 45 = .ok (.putfield 25, 3) := by decide +kernel
theorem dS_init_48 : decode prog_6_method_1_code 48 = .ok (.return_, 1) := by decide +kernel
theorem dS_fresh_0 : decode prog_6_method_2_code 0 = .ok (.aload_n 0, 1) := by decide +kernel
theorem dS_fresh_1 : decode prog_6_method_2_code 1 = .ok (.getfield 25, 3) := by decide +kernel
theorem dS_fresh_4 : decode prog_6_method_2_code 4 = .ok (.aload_n 0, 1) := by decide +kernel
theorem dS_fresh_5 : decode prog_6_method_2_code 5 = .ok (.getfield 11, 3) := by decide +kernel
theorem dS_fresh_8 : decode prog_6_method_2_code 8 = .ok (.arraylength, 1) := by decide +kernel
theorem dS_fresh_9 : decode prog_6_method_2_code 9 = .ok (.if_icmp .lt 31, 3) := by decide +kernel
theorem dS_fresh_12 : decode prog_6_method_2_code 12 = .ok (.aload_n 0, 1) := by decide +kernel
theorem dS_fresh_13 : decode prog_6_method_2_code 13 = .ok (.getfield 25, 3) := by decide +kernel
theorem dS_fresh_16 : decode prog_6_method_2_code 16 = .ok (.sipush 4096, 3) := by decide +kernel
theorem dS_fresh_19 : decode prog_6_method_2_code 19 = .ok (.if_icmp .ge 21, 3) := by decide +kernel
theorem dS_fresh_22 : decode prog_6_method_2_code 22 = .ok (.aload_n 0, 1) := by decide +kernel
theorem dS_fresh_23 : decode prog_6_method_2_code 23 = .ok (.aload_n 0, 1) := by decide +kernel
theorem dS_fresh_24 : decode prog_6_method_2_code 24 = .ok (.getfield 11, 3) := by decide +kernel
theorem dS_fresh_27 : decode prog_6_method_2_code 27 = .ok (.iconst 2, 1) := by decide +kernel
theorem dS_fresh_28 : decode prog_6_method_2_code 28 = .ok (.aload_n 0, 1) := by decide +kernel
theorem dS_fresh_29 : decode prog_6_method_2_code 29 = .ok (.getfield 11, 3) := by decide +kernel
theorem dS_fresh_32 : decode prog_6_method_2_code 32 = .ok (.arraylength, 1) := by decide +kernel
theorem dS_fresh_33 : decode prog_6_method_2_code 33 = .ok (.imul, 1) := by decide +kernel
theorem dS_fresh_34 : decode prog_6_method_2_code 34 = .ok (.invokestatic 29, 3) := by decide +kernel
theorem dS_fresh_37 : decode prog_6_method_2_code 37 = .ok (.putfield 11, 3) := by decide +kernel
theorem dS_fresh_40 : decode prog_6_method_2_code 40 = .ok (.aload_n 0, 1) := by decide +kernel
theorem dS_fresh_41 : decode prog_6_method_2_code 41 = .ok (.getfield 25, 3) := by decide +kernel
theorem dS_fresh_44 : decode prog_6_method_2_code 44 = .ok (.aload_n 0, 1) := by decide +kernel
theorem dS_fresh_45 : decode prog_6_method_2_code 45 = .ok (.getfield 11, 3) := by decide +kernel
theorem dS_fresh_48 : decode prog_6_method_2_code 48 = .ok (.arraylength, 1) := by decide +kernel
theorem dS_fresh_49 : decode prog_6_method_2_code 49 = .ok (.if_icmp .lt 5, 3) := by decide +kernel
theorem dS_fresh_52 : decode prog_6_method_2_code 52 = .ok (.iconst (-1), 1) := by decide +kernel
theorem dS_fresh_53 : decode prog_6_method_2_code 53 = .ok (.ireturn, 1) := by decide +kernel
theorem dS_fresh_54 : decode prog_6_method_2_code 54 = .ok (.aload_n 0, 1) := by decide +kernel
theorem dS_fresh_55 : decode prog_6_method_2_code 55 = .ok (.dup, 1) := by decide +kernel
theorem dS_fresh_56 : decode prog_6_method_2_code 56 = .ok (.getfield 25, 3) := by decide +kernel
theorem dS_fresh_59 : decode prog_6_method_2_code 59 = .ok (.iconst 1, 1) := by decide +kernel
theorem dS_fresh_60 : decode prog_6_method_2_code 60 = .ok (.iadd, 1) := by decide +kernel
theorem dS_fresh_61 : decode prog_6_method_2_code 61 = .ok (.putfield 25, 3) := by decide +kernel
theorem dS_fresh_64 : decode prog_6_method_2_code 64 = .ok (.aload_n 0, 1) := by decide +kernel
theorem dS_fresh_65 : decode prog_6_method_2_code 65 = .ok (.getfield 25, 3) := by decide +kernel
theorem dS_fresh_68 : decode prog_6_method_2_code 68 = .ok (.iconst 1, 1) := by decide +kernel
theorem dS_fresh_69 : decode prog_6_method_2_code 69 = .ok (.isub, 1) := by decide +kernel
theorem dS_fresh_70 : decode prog_6_method_2_code 70 = .ok (.ireturn, 1) := by decide +kernel
theorem dS_isOut_0 : decode prog_6_method_8_code 0 = .ok (.iload_n 1, 1) := by decide +kernel
theorem dS_isOut_1 : decode prog_6_method_8_code 1 = .ok (.ifCond .lt 24, 3) := by decide +kernel
theorem dS_isOut_4 : decode prog_6_method_8_code 4 = .ok (.iload_n 1, 1) := by decide +kernel
theorem dS_isOut_5 : decode prog_6_method_8_code 5 = .ok (.aload_n 0, 1) := by decide +kernel
theorem dS_isOut_6 : decode prog_6_method_8_code 6 = .ok (.getfield 25, 3) := by decide +kernel
theorem dS_isOut_9 : decode prog_6_method_8_code 9 = .ok (.if_icmp .ge 16, 3) := by decide +kernel
theorem dS_isOut_12 : decode prog_6_method_8_code 12 = .ok (.aload_n 0, 1) := by decide +kernel
theorem dS_isOut_13 : decode prog_6_method_8_code 13 = .ok (.getfield 11, 3) := by decide +kernel
theorem dS_isOut_16 : decode prog_6_method_8_code 16 = .ok (.iload_n 1, 1) := by decide +kernel
theorem dS_isOut_17 : decode prog_6_method_8_code 17 = .ok (.baload, 1) := by decide +kernel
theorem dS_isOut_18 : decode prog_6_method_8_code 18 = .ok (.ifCond .eq 7, 3) := by decide +kernel
theorem dS_isOut_21 : decode prog_6_method_8_code 21 = .ok (.iconst 1, 1) := by decide +kernel
theorem dS_isOut_22 : decode prog_6_method_8_code 22 = .ok (.goto 4, 3) := by decide +kernel
theorem dS_isOut_25 : decode prog_6_method_8_code 25 = .ok (.iconst 0, 1) := by decide +kernel
theorem dS_isOut_26 : decode prog_6_method_8_code 26 = .ok (.ireturn, 1) := by decide +kernel
theorem dS_ruleCount_0 : decode prog_6_method_6_code 0 = .ok (.aload_n 0, 1) := by decide +kernel
theorem dS_ruleCount_1 : decode prog_6_method_6_code 1 = .ok (.getfield 47, 3) := by decide +kernel
theorem dS_ruleCount_4 : decode prog_6_method_6_code 4 = .ok (.ireturn, 1) := by decide +kernel
theorem dS_derive_0 : decode prog_6_method_3_code 0 = .ok (.aload_n 0, 1) := by decide +kernel
theorem dS_derive_1 : decode prog_6_method_3_code 1 = .ok (.iload_n 1, 1) := by decide +kernel
theorem dS_derive_2 : decode prog_6_method_3_code 2 = .ok (.iconst (-1), 1) := by decide +kernel
theorem dS_derive_3 : decode prog_6_method_3_code 3 = .ok (.invokevirtual 35, 3) := by decide +kernel
theorem dS_derive_6 : decode prog_6_method_3_code 6 = .ok (.ireturn, 1) := by decide +kernel
theorem dS_deriveOfTwo_0 : decode prog_6_method_4_code 0 = .ok (.aload_n 0, 1) := by decide +kernel
theorem dS_deriveOfTwo_1 : decode prog_6_method_4_code 1 = .ok (.invokevirtual 39, 3) := by decide +kernel
theorem dS_deriveOfTwo_4 : decode prog_6_method_4_code 4 = .ok (.istore_n 3, 1) := by decide +kernel
theorem dS_deriveOfTwo_5 : decode prog_6_method_4_code 5 = .ok (.aload_n 0, 1) := by decide +kernel
theorem dS_deriveOfTwo_6 : decode prog_6_method_4_code 6 = .ok (.iload_n 1, 1) := by decide +kernel
theorem dS_deriveOfTwo_7 : decode prog_6_method_4_code 7 = .ok (.iload_n 2, 1) := by decide +kernel
theorem dS_deriveOfTwo_8 : decode prog_6_method_4_code 8 = .ok (.iload_n 3, 1) := by decide +kernel
theorem dS_deriveOfTwo_9 : decode prog_6_method_4_code 9 = .ok (.invokevirtual 43, 3) := by decide +kernel
theorem dS_deriveOfTwo_12 : decode prog_6_method_4_code 12 = .ok (.iload_n 3, 1) := by decide +kernel
theorem dS_deriveOfTwo_13 : decode prog_6_method_4_code 13 = .ok (.ireturn, 1) := by decide +kernel
theorem dS_tie_0 : decode prog_6_method_5_code 0 = .ok (.aload_n 0, 1) := by decide +kernel
theorem dS_tie_1 : decode prog_6_method_5_code 1 = .ok (.getfield 47, 3) := by decide +kernel
theorem dS_tie_4 : decode prog_6_method_5_code 4 = .ok (.aload_n 0, 1) := by decide +kernel
theorem dS_tie_5 : decode prog_6_method_5_code 5 = .ok (.getfield 22, 3) := by decide +kernel
theorem dS_tie_8 : decode prog_6_method_5_code 8 = .ok (.arraylength, 1) := by decide +kernel
theorem dS_tie_9 : decode prog_6_method_5_code 9 = .ok (.if_icmp .lt 67, 3) := by decide +kernel
theorem dS_tie_12 : decode prog_6_method_5_code 12 = .ok (.aload_n 0, 1) := by decide +kernel
theorem dS_tie_13 : decode prog_6_method_5_code 13 = .ok (.getfield 47, 3) := by decide +kernel
theorem dS_tie_16 : decode prog_6_method_5_code 16 = .ok (.sipush 4096, 3) := by decide +kernel
theorem dS_tie_19 : decode prog_6_method_5_code 19 = .ok (.if_icmp .ge 57, 3) := by decide +kernel
theorem dS_tie_22 : decode prog_6_method_5_code 22 = .ok (.aload_n 0, 1) := by decide +kernel
theorem dS_tie_23 : decode prog_6_method_5_code 23 = .ok (.aload_n 0, 1) := by decide +kernel
theorem dS_tie_24 : decode prog_6_method_5_code 24 = .ok (.getfield 15, 3) := by decide +kernel
theorem dS_tie_27 : decode prog_6_method_5_code 27 = .ok (.iconst 2, 1) := by decide +kernel
theorem dS_tie_28 : decode prog_6_method_5_code 28 = .ok (.aload_n 0, 1) := by decide +kernel
theorem dS_tie_29 : decode prog_6_method_5_code 29 = .ok (.getfield 15, 3) := by decide +kernel
theorem dS_tie_32 : decode prog_6_method_5_code 32 = .ok (.arraylength, 1) := by decide +kernel
theorem dS_tie_33 : decode prog_6_method_5_code 33 = .ok (.imul, 1) := by decide +kernel
theorem dS_tie_34 : decode prog_6_method_5_code 34 = .ok (.invokestatic 50, 3) := by decide +kernel
theorem dS_tie_37 : decode prog_6_method_5_code 37 = .ok (.putfield 15, 3) := by decide +kernel
theorem dS_tie_40 : decode prog_6_method_5_code 40 = .ok (.aload_n 0, 1) := by decide +kernel
theorem dS_tie_41 : decode prog_6_method_5_code 41 = .ok (.aload_n 0, 1) := by decide +kernel
theorem dS_tie_42 : decode prog_6_method_5_code 42 = .ok (.getfield 19, 3) := by decide +kernel
theorem dS_tie_45 : decode prog_6_method_5_code 45 = .ok (.iconst 2, 1) := by decide +kernel
theorem dS_tie_46 : decode prog_6_method_5_code 46 = .ok (.aload_n 0, 1) := by decide +kernel
theorem dS_tie_47 : decode prog_6_method_5_code 47 = .ok (.getfield 19, 3) := by decide +kernel
theorem dS_tie_50 : decode prog_6_method_5_code 50 = .ok (.arraylength, 1) := by decide +kernel
theorem dS_tie_51 : decode prog_6_method_5_code 51 = .ok (.imul, 1) := by decide +kernel
theorem dS_tie_52 : decode prog_6_method_5_code 52 = .ok (.invokestatic 50, 3) := by decide +kernel
theorem dS_tie_55 : decode prog_6_method_5_code 55 = .ok (.putfield 19, 3) := by decide +kernel
theorem dS_tie_58 : decode prog_6_method_5_code 58 = .ok (.aload_n 0, 1) := by decide +kernel
theorem dS_tie_59 : decode prog_6_method_5_code 59 = .ok (.aload_n 0, 1) := by decide +kernel
theorem dS_tie_60 : decode prog_6_method_5_code 60 = .ok (.getfield 22, 3) := by decide +kernel
theorem dS_tie_63 : decode prog_6_method_5_code 63 = .ok (.iconst 2, 1) := by decide +kernel
theorem dS_tie_64 : decode prog_6_method_5_code 64 = .ok (.aload_n 0, 1) := by decide +kernel
theorem dS_tie_65 : decode prog_6_method_5_code 65 = .ok (.getfield 22, 3) := by decide +kernel
theorem dS_tie_68 : decode prog_6_method_5_code 68 = .ok (.arraylength, 1) := by decide +kernel
theorem dS_tie_69 : decode prog_6_method_5_code 69 = .ok (.imul, 1) := by decide +kernel
theorem dS_tie_70 : decode prog_6_method_5_code 70 = .ok (.invokestatic 50, 3) := by decide +kernel
theorem dS_tie_73 : decode prog_6_method_5_code 73 = .ok (.putfield 22, 3) := by decide +kernel
theorem dS_tie_76 : decode prog_6_method_5_code 76 = .ok (.aload_n 0, 1) := by decide +kernel
theorem dS_tie_77 : decode prog_6_method_5_code 77 = .ok (.getfield 47, 3) := by decide +kernel
theorem dS_tie_80 : decode prog_6_method_5_code 80 = .ok (.aload_n 0, 1) := by decide +kernel
theorem dS_tie_81 : decode prog_6_method_5_code 81 = .ok (.getfield 22, 3) := by decide +kernel
theorem dS_tie_84 : decode prog_6_method_5_code 84 = .ok (.arraylength, 1) := by decide +kernel
theorem dS_tie_85 : decode prog_6_method_5_code 85 = .ok (.if_icmp .lt 4, 3) := by decide +kernel
theorem dS_tie_88 : decode prog_6_method_5_code 88 = .ok (.return_, 1) := by decide +kernel
theorem dS_tie_89 : decode prog_6_method_5_code 89 = .ok (.aload_n 0, 1) := by decide +kernel
theorem dS_tie_90 : decode prog_6_method_5_code 90 = .ok (.getfield 15, 3) := by decide +kernel
theorem dS_tie_93 : decode prog_6_method_5_code 93 = .ok (.aload_n 0, 1) := by decide +kernel
theorem dS_tie_94 : decode prog_6_method_5_code 94 = .ok (.getfield 47, 3) := by decide +kernel
theorem dS_tie_97 : decode prog_6_method_5_code 97 = .ok (.iload_n 1, 1) := by decide +kernel
theorem dS_tie_98 : decode prog_6_method_5_code 98 = .ok (.iastore, 1) := by decide +kernel
theorem dS_tie_99 : decode prog_6_method_5_code 99 = .ok (.aload_n 0, 1) := by decide +kernel
theorem dS_tie_100 : decode prog_6_method_5_code 100 = .ok (.getfield 19, 3) := by decide +kernel
theorem dS_tie_103 : decode prog_6_method_5_code 103 = .ok (.aload_n 0, 1) := by decide +kernel
theorem dS_tie_104 : decode prog_6_method_5_code 104 = .ok (.getfield 47, 3) := by decide +kernel
theorem dS_tie_107 : decode prog_6_method_5_code 107 = .ok (.iload_n 2, 1) := by decide +kernel
theorem dS_tie_108 : decode prog_6_method_5_code 108 = .ok (.iastore, 1) := by decide +kernel
theorem dS_tie_109 : decode prog_6_method_5_code 109 = .ok (.aload_n 0, 1) := by decide +kernel
theorem dS_tie_110 : decode prog_6_method_5_code 110 = .ok (.getfield 22, 3) := by decide +kernel
theorem dS_tie_113 : decode prog_6_method_5_code 113 = .ok (.aload_n 0, 1) := by decide +kernel
theorem dS_tie_114 : decode prog_6_method_5_code 114 = .ok (.getfield 47, 3) := by decide +kernel
theorem dS_tie_117 : decode prog_6_method_5_code 117 = .ok (.iload_n 3, 1) := by decide +kernel
theorem dS_tie_118 : decode prog_6_method_5_code 118 = .ok (.iastore, 1) := by decide +kernel
theorem dS_tie_119 : decode prog_6_method_5_code 119 = .ok (.aload_n 0, 1) := by decide +kernel
theorem dS_tie_120 : decode prog_6_method_5_code 120 = .ok (.dup, 1) := by decide +kernel
theorem dS_tie_121 : decode prog_6_method_5_code 121 = .ok (.getfield 47, 3) := by decide +kernel
theorem dS_tie_124 : decode prog_6_method_5_code 124 = .ok (.iconst 1, 1) := by decide +kernel
theorem dS_tie_125 : decode prog_6_method_5_code 125 = .ok (.iadd, 1) := by decide +kernel
theorem dS_tie_126 : decode prog_6_method_5_code 126 = .ok (.putfield 47, 3) := by decide +kernel
theorem dS_tie_129 : decode prog_6_method_5_code 129 = .ok (.return_, 1) := by decide +kernel
theorem dS_spread_0 : decode prog_6_method_9_code 0 = .ok (.iload_n 1, 1) := by decide +kernel
theorem dS_spread_1 : decode prog_6_method_9_code 1 = .ok (.iconst 0, 1) := by decide +kernel
theorem dS_spread_2 : decode prog_6_method_9_code 2 = .ok (.invokestatic 53, 3) := by decide +kernel
theorem dS_spread_5 : decode prog_6_method_9_code 5 = .ok (.istore_n 2, 1) := by decide +kernel
theorem dS_spread_6 : decode prog_6_method_9_code 6 = .ok (.iload_n 2, 1) := by decide +kernel
theorem dS_spread_7 : decode prog_6_method_9_code 7 = .ok (.aload_n 0, 1) := by decide +kernel
theorem dS_spread_8 : decode prog_6_method_9_code 8 = .ok (.getfield 47, 3) := by decide +kernel
theorem dS_spread_11 : decode prog_6_method_9_code 11 = .ok (.if_icmp .ge 55, 3) := by decide +kernel
theorem dS_spread_14 : decode prog_6_method_9_code 14 = .ok (.aload_n 0, 1) := by decide +kernel
theorem dS_spread_15 : decode prog_6_method_9_code 15 = .ok (.aload_n 0, 1) := by decide +kernel
theorem dS_spread_16 : decode prog_6_method_9_code 16 = .ok (.getfield 15, 3) := by decide +kernel
theorem dS_spread_19 : decode prog_6_method_9_code 19 = .ok (.iload_n 2, 1) := by decide +kernel
theorem dS_spread_20 : decode prog_6_method_9_code 20 = .ok (.iaload, 1) := by decide +kernel
theorem dS_spread_21 : decode prog_6_method_9_code 21 = .ok (.invokevirtual 58, 3) := by decide +kernel
theorem dS_spread_24 : decode prog_6_method_9_code 24 = .ok (.ifCond .eq 36, 3) := by decide +kernel
theorem dS_spread_27 : decode prog_6_method_9_code 27 = .ok (.aload_n 0, 1) := by decide +kernel
theorem dS_spread_28 : decode prog_6_method_9_code 28 = .ok (.getfield 19, 3) := by decide +kernel
theorem dS_spread_31 : decode prog_6_method_9_code 31 = .ok (.iload_n 2, 1) := by decide +kernel
theorem dS_spread_32 : decode prog_6_method_9_code 32 = .ok (.iaload, 1) := by decide +kernel
theorem dS_spread_33 : decode prog_6_method_9_code 33 = .ok (.iconst (-1), 1) := by decide +kernel
theorem dS_spread_34 : decode prog_6_method_9_code 34 = .ok (.if_icmp .eq 16, 3) := by decide +kernel
theorem dS_spread_37 : decode prog_6_method_9_code 37 = .ok (.aload_n 0, 1) := by decide +kernel
theorem dS_spread_38 : decode prog_6_method_9_code 38 = .ok (.aload_n 0, 1) := by decide +kernel
theorem dS_spread_39 : decode prog_6_method_9_code 39 = .ok (.getfield 19, 3) := by decide +kernel
theorem dS_spread_42 : decode prog_6_method_9_code 42 = .ok (.iload_n 2, 1) := by decide +kernel
theorem dS_spread_43 : decode prog_6_method_9_code 43 = .ok (.iaload, 1) := by decide +kernel
theorem dS_spread_44 : decode prog_6_method_9_code 44 = .ok (.invokevirtual 58, 3) := by decide +kernel
theorem dS_spread_47 : decode prog_6_method_9_code 47 = .ok (.ifCond .eq 13, 3) := by decide +kernel
theorem dS_spread_50 : decode prog_6_method_9_code 50 = .ok (.aload_n 0, 1) := by decide +kernel
theorem dS_spread_51 : decode prog_6_method_9_code 51 = .ok (.aload_n 0, 1) := by decide +kernel
theorem dS_spread_52 : decode prog_6_method_9_code 52 = .ok (.getfield 22, 3) := by decide +kernel
theorem dS_spread_55 : decode prog_6_method_9_code 55 = .ok (.iload_n 2, 1) := by decide +kernel
theorem dS_spread_56 : decode prog_6_method_9_code 56 = .ok (.iaload, 1) := by decide +kernel
theorem dS_spread_57 : decode prog_6_method_9_code 57 = .ok (.invokevirtual 62, 3) := by decide +kernel
theorem dS_spread_60 : decode prog_6_method_9_code 60 = .ok (.iinc 2 1, 3) := by decide +kernel
theorem dS_spread_63 : decode prog_6_method_9_code 63 = .ok (.goto (-57), 3) := by decide +kernel
theorem dS_spread_66 : decode prog_6_method_9_code 66 = .ok (.return_, 1) := by decide +kernel
theorem dS_learn_0 : decode prog_6_method_7_code 0 = .ok (.iload_n 1, 1) := by decide +kernel
theorem dS_learn_1 : decode prog_6_method_7_code 1 = .ok (.ifCond .lt 18, 3) := by decide +kernel
theorem dS_learn_4 : decode prog_6_method_7_code 4 = .ok (.iload_n 1, 1) := by decide +kernel
theorem dS_learn_5 : decode prog_6_method_7_code 5 = .ok (.aload_n 0, 1) := by decide +kernel
theorem dS_learn_6 : decode prog_6_method_7_code 6 = .ok (.getfield 25, 3) := by decide +kernel
theorem dS_learn_9 : decode prog_6_method_7_code 9 = .ok (.if_icmp .ge 10, 3) := by decide +kernel
theorem dS_learn_12 : decode prog_6_method_7_code 12 = .ok (.aload_n 0, 1) := by decide +kernel
theorem dS_learn_13 : decode prog_6_method_7_code 13 = .ok (.getfield 11, 3) := by decide +kernel
theorem dS_learn_16 : decode prog_6_method_7_code 16 = .ok (.iload_n 1, 1) := by decide +kernel
theorem dS_learn_17 : decode prog_6_method_7_code 17 = .ok (.iconst 1, 1) := by decide +kernel
theorem dS_learn_18 : decode prog_6_method_7_code 18 = .ok (.bastore, 1) := by decide +kernel
theorem dS_learn_19 : decode prog_6_method_7_code 19 = .ok (.return_, 1) := by decide +kernel
