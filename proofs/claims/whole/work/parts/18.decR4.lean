theorem dR_intrude_66 : decode prog_9_method_8_code 66 = .ok (.aload_n 0, 1) := by decide +kernel
theorem dR_intrude_67 : decode prog_9_method_8_code 67 = .ok (.getfield 23, 3) := by decide +kernel
theorem dR_intrude_70 : decode prog_9_method_8_code 70 = .ok (.iload_n 2, 1) := by decide +kernel
theorem dR_intrude_71 : decode prog_9_method_8_code 71 = .ok (.iconst 1, 1) := by decide +kernel
theorem dR_intrude_72 : decode prog_9_method_8_code 72 = .ok (.bastore, 1) := by decide +kernel
theorem dR_intrude_73 : decode prog_9_method_8_code 73 = .ok (.iconst 1, 1) := by decide +kernel
theorem dR_intrude_74 : decode prog_9_method_8_code 74 = .ok (.istore_n 1, 1) := by decide +kernel
theorem dR_intrude_75 : decode prog_9_method_8_code 75 = .ok (.iinc 2 1, 3) := by decide +kernel
theorem dR_intrude_78 : decode prog_9_method_8_code 78 = .ok (.goto (-40), 3) := by decide +kernel
theorem dR_intrude_81 : decode prog_9_method_8_code 81 = .ok (.iconst 0, 1) := by decide +kernel
theorem dR_intrude_82 : decode prog_9_method_8_code 82 = .ok (.istore_n 2, 1) := by decide +kernel
theorem dR_intrude_83 : decode prog_9_method_8_code 83 = .ok (.iload_n 2, 1) := by decide +kernel
theorem dR_intrude_84 : decode prog_9_method_8_code 84 = .ok (.aload_n 0, 1) := by decide +kernel
theorem dR_intrude_85 : decode prog_9_method_8_code 85 = .ok (.getfield 161, 3) := by decide +kernel
theorem dR_intrude_88 : decode prog_9_method_8_code 88 = .ok (.if_icmp .ge 54, 3) := by decide +kernel
theorem dR_intrude_91 : decode prog_9_method_8_code 91 = .ok (.aload_n 0, 1) := by decide +kernel
theorem dR_intrude_92 : decode prog_9_method_8_code 92 = .ok (.getfield 23, 3) := by decide +kernel
theorem dR_intrude_95 : decode prog_9_method_8_code 95 = .ok (.aload_n 0, 1) := by decide +kernel
theorem dR_intrude_96 : decode prog_9_method_8_code 96 = .ok (.getfield 26, 3) := by decide +kernel
theorem dR_intrude_99 : decode prog_9_method_8_code 99 = .ok (.iload_n 2, 1) := by decide +kernel
theorem dR_intrude_100 : decode prog_9_method_8_code 100 = .ok (.iaload, 1) := by decide +kernel
theorem dR_intrude_101 : decode prog_9_method_8_code 101 = .ok (.baload, 1) := by decide +kernel
theorem dR_intrude_102 : decode prog_9_method_8_code 102 = .ok (.ifCond .eq 34, 3) := by decide +kernel
theorem dR_intrude_105 : decode prog_9_method_8_code 105 = .ok (.aload_n 0, 1) := by decide +kernel
theorem dR_intrude_106 : decode prog_9_method_8_code 106 = .ok (.getfield 23, 3) := by decide +kernel
theorem dR_intrude_109 : decode prog_9_method_8_code 109 = .ok (.aload_n 0, 1) := by decide +kernel
theorem dR_intrude_110 : decode prog_9_method_8_code 110 = .ok (.getfield 29, 3) := by decide +kernel
theorem dR_intrude_113 : decode prog_9_method_8_code 113 = .ok (.iload_n 2, 1) := by decide +kernel
theorem dR_intrude_114 : decode prog_9_method_8_code 114 = .ok (.iaload, 1) := by decide +kernel
theorem dR_intrude_115 : decode prog_9_method_8_code 115 = .ok (.baload, 1) := by decide +kernel
theorem dR_intrude_116 : decode prog_9_method_8_code 116 = .ok (.ifCond .eq 6, 3) := by decide +kernel
theorem dR_intrude_119 : decode prog_9_method_8_code 119 = .ok (.goto 17, 3) := by decide +kernel
theorem dR_intrude_122 : decode prog_9_method_8_code 122 = .ok (.aload_n 0, 1) := by decide +kernel
theorem dR_intrude_123 : decode prog_9_method_8_code 123 = .ok (.getfield 23, 3) := by decide +kernel
theorem dR_intrude_126 : decode prog_9_method_8_code 126 = .ok (.aload_n 0, 1) := by decide +kernel
theorem dR_intrude_127 : decode prog_9_method_8_code 127 = .ok (.getfield 29, 3) := by decide +kernel
theorem dR_intrude_130 : decode prog_9_method_8_code 130 = .ok (.iload_n 2, 1) := by decide +kernel
theorem dR_intrude_131 : decode prog_9_method_8_code 131 = .ok (.iaload, 1) := by decide +kernel
theorem dR_intrude_132 : decode prog_9_method_8_code 132 = .ok (.iconst 1, 1) := by decide +kernel
theorem dR_intrude_133 : decode prog_9_method_8_code 133 = .ok (.bastore, 1) := by decide +kernel
theorem dR_intrude_134 : decode prog_9_method_8_code 134 = .ok (.iconst 1, 1) := by decide +kernel
theorem dR_intrude_135 : decode prog_9_method_8_code 135 = .ok (.istore_n 1, 1) := by decide +kernel
theorem dR_intrude_136 : decode prog_9_method_8_code 136 = .ok (.iinc 2 1, 3) := by decide +kernel
theorem dR_intrude_139 : decode prog_9_method_8_code 139 = .ok (.goto (-56), 3) := by decide +kernel
theorem dR_intrude_142 : decode prog_9_method_8_code 142 = .ok (.goto (-112), 3) := by decide +kernel
theorem dR_intrude_145 : decode prog_9_method_8_code 145 = .ok (.return_, 1) := by decide +kernel
theorem dR_follows_0 : decode prog_9_method_7_code 0 = .ok (.aload_n 0, 1) := by decide +kernel
theorem dR_follows_1 : decode prog_9_method_7_code 1 = .ok (.getfield 7, 3) := by decide +kernel
theorem dR_follows_4 : decode prog_9_method_7_code 4 = .ok (.iload_n 1, 1) := by decide +kernel
theorem dR_follows_5 : decode prog_9_method_7_code 5 = .ok (.iaload, 1) := by decide +kernel
theorem dR_follows_6 : decode prog_9_method_7_code 6 = .ok (.tableswitch 72 0 4 #[34, 36, 72, 72, 38], 34) := by decide +kernel
theorem dR_follows_40 : decode prog_9_method_7_code 40 = .ok (.iconst 1, 1) := by decide +kernel
theorem dR_follows_41 : decode prog_9_method_7_code 41 = .ok (.ireturn, 1) := by decide +kernel
theorem dR_follows_42 : decode prog_9_method_7_code 42 = .ok (.iconst 0, 1) := by decide +kernel
theorem dR_follows_43 : decode prog_9_method_7_code 43 = .ok (.ireturn, 1) := by decide +kernel
theorem dR_follows_44 : decode prog_9_method_7_code 44 = .ok (.aload_n 0, 1) := by decide +kernel
theorem dR_follows_45 : decode prog_9_method_7_code 45 = .ok (.getfield 23, 3) := by decide +kernel
theorem dR_follows_48 : decode prog_9_method_7_code 48 = .ok (.aload_n 0, 1) := by decide +kernel
theorem dR_follows_49 : decode prog_9_method_7_code 49 = .ok (.getfield 13, 3) := by decide +kernel
theorem dR_follows_52 : decode prog_9_method_7_code 52 = .ok (.iload_n 1, 1) := by decide +kernel
theorem dR_follows_53 : decode prog_9_method_7_code 53 = .ok (.iaload, 1) := by decide +kernel
theorem dR_follows_54 : decode prog_9_method_7_code 54 = .ok (.baload, 1) := by decide +kernel
theorem dR_follows_55 : decode prog_9_method_7_code 55 = .ok (.ifCond .eq 21, 3) := by decide +kernel
theorem dR_follows_58 : decode prog_9_method_7_code 58 = .ok (.aload_n 0, 1) := by decide +kernel
theorem dR_follows_59 : decode prog_9_method_7_code 59 = .ok (.getfield 23, 3) := by decide +kernel
theorem dR_follows_62 : decode prog_9_method_7_code 62 = .ok (.aload_n 0, 1) := by decide +kernel
theorem dR_follows_63 : decode prog_9_method_7_code 63 = .ok (.getfield 16, 3) := by decide +kernel
theorem dR_follows_66 : decode prog_9_method_7_code 66 = .ok (.iload_n 1, 1) := by decide +kernel
theorem dR_follows_67 : decode prog_9_method_7_code 67 = .ok (.iaload, 1) := by decide +kernel
theorem dR_follows_68 : decode prog_9_method_7_code 68 = .ok (.baload, 1) := by decide +kernel
theorem dR_follows_69 : decode prog_9_method_7_code 69 = .ok (.ifCond .eq 7, 3) := by decide +kernel
theorem dR_follows_72 : decode prog_9_method_7_code 72 = .ok (.iconst 1, 1) := by decide +kernel
theorem dR_follows_73 : decode prog_9_method_7_code 73 = .ok (.goto 4, 3) := by decide +kernel
theorem dR_follows_76 : decode prog_9_method_7_code 76 = .ok (.iconst 0, 1) := by decide +kernel
theorem dR_follows_77 : decode prog_9_method_7_code 77 = .ok (.ireturn, 1) := by decide +kernel
theorem dR_follows_78 : decode prog_9_method_7_code 78 = .ok (.aload_n 0, 1) := by decide +kernel
theorem dR_follows_79 : decode prog_9_method_7_code 79 = .ok (.getfield 23, 3) := by decide +kernel
theorem dR_follows_82 : decode prog_9_method_7_code 82 = .ok (.aload_n 0, 1) := by decide +kernel
theorem dR_follows_83 : decode prog_9_method_7_code 83 = .ok (.getfield 13, 3) := by decide +kernel
theorem dR_follows_86 : decode prog_9_method_7_code 86 = .ok (.iload_n 1, 1) := by decide +kernel
theorem dR_follows_87 : decode prog_9_method_7_code 87 = .ok (.iaload, 1) := by decide +kernel
theorem dR_follows_88 : decode prog_9_method_7_code 88 = .ok (.baload, 1) := by decide +kernel
theorem dR_follows_89 : decode prog_9_method_7_code 89 = .ok (.ireturn, 1) := by decide +kernel
theorem dR_isOpen_0 : decode prog_9_method_58_code 0 = .ok (.aload_n 0, 1) := by decide +kernel
theorem dR_isOpen_1 : decode prog_9_method_58_code 1 = .ok (.iconst 0, 1) := by decide +kernel
theorem dR_isOpen_2 : decode prog_9_method_58_code 2 = .ok (.putfield 155, 3) := by decide +kernel
theorem dR_isOpen_5 : decode prog_9_method_58_code 5 = .ok (.iload_n 1, 1) := by decide +kernel
theorem dR_isOpen_6 : decode prog_9_method_58_code 6 = .ok (.aload_n 0, 1) := by decide +kernel
theorem dR_isOpen_7 : decode prog_9_method_58_code 7 = .ok (.getfield 151, 3) := by decide +kernel
theorem dR_isOpen_10 : decode prog_9_method_58_code 10 = .ok (.invokestatic 264, 3) := by decide +kernel
theorem dR_isOpen_13 : decode prog_9_method_58_code 13 = .ok (.ifCond .eq 30, 3) := by decide +kernel
theorem dR_isOpen_16 : decode prog_9_method_58_code 16 = .ok (.iload_n 2, 1) := by decide +kernel
theorem dR_isOpen_17 : decode prog_9_method_58_code 17 = .ok (.aload_n 0, 1) := by decide +kernel
theorem dR_isOpen_18 : decode prog_9_method_58_code 18 = .ok (.iload_n 1, 1) := by decide +kernel
theorem dR_isOpen_19 : decode prog_9_method_58_code 19 = .ok (.invokevirtual 192, 3) := by decide +kernel
theorem dR_isOpen_22 : decode prog_9_method_58_code 22 = .ok (.invokestatic 264, 3) := by decide +kernel
theorem dR_isOpen_25 : decode prog_9_method_58_code 25 = .ok (.ifCond .eq 18, 3) := by decide +kernel
theorem dR_isOpen_28 : decode prog_9_method_58_code 28 = .ok (.aload_n 0, 1) := by decide +kernel
theorem dR_isOpen_29 : decode prog_9_method_58_code 29 = .ok (.getfield 65, 3) := by decide +kernel
theorem dR_isOpen_32 : decode prog_9_method_58_code 32 = .ok (.bipush 31, 2) := by decide +kernel
theorem dR_isOpen_34 : decode prog_9_method_58_code 34 = .ok (.iload_n 1, 1) := by decide +kernel
theorem dR_isOpen_35 : decode prog_9_method_58_code 35 = .ok (.imul, 1) := by decide +kernel
theorem dR_isOpen_36 : decode prog_9_method_58_code 36 = .ok (.iload_n 2, 1) := by decide +kernel
theorem dR_isOpen_37 : decode prog_9_method_58_code 37 = .ok (.iadd, 1) := by decide +kernel
theorem dR_isOpen_38 : decode prog_9_method_58_code 38 = .ok (.iaload, 1) := by decide +kernel
theorem dR_isOpen_39 : decode prog_9_method_58_code 39 = .ok (.iconst (-1), 1) := by decide +kernel
theorem dR_isOpen_40 : decode prog_9_method_58_code 40 = .ok (.if_icmp .ne 5, 3) := by decide +kernel
theorem dR_isOpen_43 : decode prog_9_method_58_code 43 = .ok (.iconst 0, 1) := by decide +kernel
theorem dR_isOpen_44 : decode prog_9_method_58_code 44 = .ok (.ireturn, 1) := by decide +kernel
theorem dR_isOpen_45 : decode prog_9_method_58_code 45 = .ok (.aload_n 0, 1) := by decide +kernel
theorem dR_isOpen_46 : decode prog_9_method_58_code 46 = .ok (.invokevirtual 296, 3) := by decide +kernel
theorem dR_isOpen_49 : decode prog_9_method_58_code 49 = .ok (.aload_n 0, 1) := by decide +kernel
theorem dR_isOpen_50 : decode prog_9_method_58_code 50 = .ok (.getfield 23, 3) := by decide +kernel
theorem dR_isOpen_53 : decode prog_9_method_58_code 53 = .ok (.aload_n 0, 1) := by decide +kernel
theorem dR_isOpen_54 : decode prog_9_method_58_code 54 = .ok (.getfield 65, 3) := by decide +kernel
theorem dR_isOpen_57 : decode prog_9_method_58_code 57 = .ok (.bipush 31, 2) := by decide +kernel
theorem dR_isOpen_59 : decode prog_9_method_58_code 59 = .ok (.iload_n 1, 1) := by decide +kernel
theorem dR_isOpen_60 : decode prog_9_method_58_code 60 = .ok (.imul, 1) := by decide +kernel
theorem dR_isOpen_61 : decode prog_9_method_58_code 61 = .ok (.iload_n 2, 1) := by decide +kernel
theorem dR_isOpen_62 : decode prog_9_method_58_code 62 = .ok (.iadd, 1) := by decide +kernel
theorem dR_isOpen_63 : decode prog_9_method_58_code 63 = .ok (.iaload, 1) := by decide +kernel
theorem dR_isOpen_64 : decode prog_9_method_58_code 64 = .ok (.baload, 1) := by decide +kernel
theorem dR_isOpen_65 : decode prog_9_method_58_code 65 = .ok (.ireturn, 1) := by decide +kernel
theorem dR_known_0 : decode prog_9_method_59_code 0 = .ok (.aload_n 0, 1) := by decide +kernel
theorem dR_known_1 : decode prog_9_method_59_code 1 = .ok (.iconst 0, 1) := by decide +kernel
theorem dR_known_2 : decode prog_9_method_59_code 2 = .ok (.putfield 155, 3) := by decide +kernel
theorem dR_known_5 : decode prog_9_method_59_code 5 = .ok (.aload_n 0, 1) := by decide +kernel
theorem dR_known_6 : decode prog_9_method_59_code 6 = .ok (.invokevirtual 296, 3) := by decide +kernel
theorem dR_known_9 : decode prog_9_method_59_code 9 = .ok (.iconst 0, 1) := by decide +kernel
theorem dR_known_10 : decode prog_9_method_59_code 10 = .ok (.istore_n 1, 1) := by decide +kernel
theorem dR_known_11 : decode prog_9_method_59_code 11 = .ok (.iconst 0, 1) := by decide +kernel
theorem dR_known_12 : decode prog_9_method_59_code 12 = .ok (.istore_n 2, 1) := by decide +kernel
theorem dR_known_13 : decode prog_9_method_59_code 13 = .ok (.iload_n 2, 1) := by decide +kernel
theorem dR_known_14 : decode prog_9_method_59_code 14 = .ok (.aload_n 0, 1) := by decide +kernel
theorem dR_known_15 : decode prog_9_method_59_code 15 = .ok (.getfield 151, 3) := by decide +kernel
theorem dR_known_18 : decode prog_9_method_59_code 18 = .ok (.if_icmp .ge 31, 3) := by decide +kernel
theorem dR_known_21 : decode prog_9_method_59_code 21 = .ok (.iload_n 1, 1) := by decide +kernel
theorem dR_known_22 : decode prog_9_method_59_code 22 = .ok (.aload_n 0, 1) := by decide +kernel
theorem dR_known_23 : decode prog_9_method_59_code 23 = .ok (.getfield 23, 3) := by decide +kernel
theorem dR_known_26 : decode prog_9_method_59_code 26 = .ok (.aload_n 0, 1) := by decide +kernel
theorem dR_known_27 : decode prog_9_method_59_code 27 = .ok (.getfield 41, 3) := by decide +kernel
theorem dR_known_30 : decode prog_9_method_59_code 30 = .ok (.iload_n 2, 1) := by decide +kernel
theorem dR_known_31 : decode prog_9_method_59_code 31 = .ok (.iaload, 1) := by decide +kernel
theorem dR_known_32 : decode prog_9_method_59_code 32 = .ok (.baload, 1) := by decide +kernel
theorem dR_known_33 : decode prog_9_method_59_code 33 = .ok (.ifCond .eq 7, 3) := by decide +kernel
theorem dR_known_36 : decode prog_9_method_59_code 36 = .ok (.iconst 1, 1) := by decide +kernel
theorem dR_known_37 : decode prog_9_method_59_code 37 = .ok (.goto 4, 3) := by decide +kernel
theorem dR_known_40 : decode prog_9_method_59_code 40 = .ok (.iconst 0, 1) := by decide +kernel
theorem dR_known_41 : decode prog_9_method_59_code 41 = .ok (.iadd, 1) := by decide +kernel
theorem dR_known_42 : decode prog_9_method_59_code 42 = .ok (.istore_n 1, 1) := by decide +kernel
theorem dR_known_43 : decode prog_9_method_59_code 43 = .ok (.iinc 2 1, 3) := by decide +kernel
theorem dR_known_46 : decode prog_9_method_59_code 46 = .ok (.goto (-33), 3) := by decide +kernel
theorem dR_known_49 : decode prog_9_method_59_code 49 = .ok (.iload_n 1, 1) := by decide +kernel
theorem dR_known_50 : decode prog_9_method_59_code 50 = .ok (.ireturn, 1) := by decide +kernel
