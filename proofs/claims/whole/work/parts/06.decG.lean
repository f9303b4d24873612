theorem dG_init_0 : decode prog_1_method_1_code 0 = .ok (.aload_n 0, 1) := by decide +kernel
theorem dG_init_1 : decode prog_1_method_1_code 1 = .ok (.invokespecial 3, 3) := by decide +kernel
theorem dG_init_4 : decode prog_1_method_1_code 4 = .ok (.aload_n 0, 1) := by decide +kernel
theorem dG_init_5 : decode prog_1_method_1_code 5 = .ok (.new 9, 3) := by decide +kernel
theorem dG_init_8 : decode prog_1_method_1_code 8 = .ok (.dup, 1) := by decide +kernel
theorem dG_init_9 : decode prog_1_method_1_code 9 = .ok (.invokespecial 11, 3) := by decide +kernel
theorem dG_init_12 : decode prog_1_method_1_code 12 = .ok (.putfield 12, 3) := by decide +kernel
theorem dG_init_15 : decode prog_1_method_1_code 15 = .ok (.aload_n 0, 1) := by decide +kernel
theorem dG_init_16 : decode prog_1_method_1_code 16 = .ok (.bipush 16, 2) := by decide +kernel
theorem dG_init_18 : decode prog_1_method_1_code 18 = .ok (.anewarray 16, 3) := by decide +kernel
theorem dG_init_21 : decode prog_1_method_1_code 21 = .ok (.putfield 18, 3) := by decide +kernel
theorem dG_init_24 : decode prog_1_method_1_code 24 = .ok (.aload_n 0, 1) := by decide +kernel
theorem dG_init_25 : decode prog_1_method_1_code 25 = .ok (.bipush 60, 2) := by decide +kernel
theorem dG_init_27 : decode prog_1_method_1_code 27 = .ok (.anewarray 22, 3) := by decide +kernel
theorem dG_init_30 : decode prog_1_method_1_code 30 = .ok (.putfield 24, 3) := by decide +kernel
theorem dG_init_33 : decode prog_1_method_1_code 33 = .ok (.aload_n 0, 1) := by decide +kernel
theorem dG_init_34 : decode prog_1_method_1_code 34 = .ok (.bipush 60, 2) := by decide +kernel
theorem dG_init_36 : decode prog_1_method_1_code 36 = .ok (.anewarray 28, 3) := by decide +kernel
theorem dG_init_39 : decode prog_1_method_1_code 39 = .ok (.putfield 30, 3) := by decide +kernel
theorem dG_init_42 : decode prog_1_method_1_code 42 = .ok (.aload_n 0, 1) := by decide +kernel
theorem dG_init_43 : decode prog_1_method_1_code 43 = .ok (.bipush 20, 2) := by decide +kernel
theorem dG_init_45 : decode prog_1_method_1_code 45 = .ok (.anewarray 34, 3) := by decide +kernel
theorem dG_init_48 : decode prog_1_method_1_code 48 = .ok (.putfield 36, 3) := by decide +kernel
theorem dG_init_51 : decode prog_1_method_1_code 51 = .ok (.aload_n 0, 1) := by decide +kernel
theorem dG_init_52 : decode prog_1_method_1_code 52 = .ok (.bipush 16, 2) := by decide +kernel
theorem dG_init_54 : decode prog_1_method_1_code 54 = .ok (.newarray .int, 2) := by decide +kernel
theorem dG_init_56 : decode prog_1_method_1_code 56 = .ok (.putfield 40, 3) := by decide +kernel
theorem dG_init_59 : decode prog_1_method_1_code 59 = .ok (.aload_n 0, 1) := by decide +kernel
theorem dG_init_60 : decode prog_1_method_1_code 60 = .ok (.sipush 146, 3) := by decide +kernel
theorem dG_init_63 : decode prog_1_method_1_code 63 = .ok (.newarray .int, 2) := by decide +kernel
theorem dG_init_65 : decode prog_1_method_1_code 65 = .ok (.putfield 44, 3) := by decide +kernel
theorem dG_init_68 : decode prog_1_method_1_code 68 = .ok (.iconst 0, 1) := by decide +kernel
theorem dG_init_69 : decode prog_1_method_1_code 69 = .ok (.istore_n 1, 1) := by decide +kernel
theorem dG_init_70 : decode prog_1_method_1_code 70 = .ok (.iload_n 1, 1) := by decide +kernel
theorem dG_init_71 : decode prog_1_method_1_code 71 = .ok (.bipush 16, 2) := by decide +kernel
theorem dG_init_73 : decode prog_1_method_1_code 73 = .ok (.if_icmp .ge 22, 3) := by decide +kernel
theorem dG_init_76 : decode prog_1_method_1_code 76 = .ok (.aload_n 0, 1) := by decide +kernel
theorem dG_init_77 : decode prog_1_method_1_code 77 = .ok (.getfield 18, 3) := by decide +kernel
theorem dG_init_80 : decode prog_1_method_1_code 80 = .ok (.iload_n 1, 1) := by decide +kernel
theorem dG_init_81 : decode prog_1_method_1_code 81 = .ok (.new 16, 3) := by decide +kernel
theorem dG_init_84 : decode prog_1_method_1_code 84 = .ok (.dup, 1) := by decide +kernel
theorem dG_init_85 : decode prog_1_method_1_code 85 = .ok (.invokespecial 47, 3) := by decide +kernel
theorem dG_init_88 : decode prog_1_method_1_code 88 = .ok (.aastore, 1) := by decide +kernel
theorem dG_init_89 : decode prog_1_method_1_code 89 = .ok (.iinc 1 1, 3) := by decide +kernel
theorem dG_init_92 : decode prog_1_method_1_code 92 = .ok (.goto (-22), 3) := by decide +kernel
theorem dG_init_95 : decode prog_1_method_1_code 95 = .ok (.aload_n 0, 1) := by decide +kernel
theorem dG_init_96 : decode prog_1_method_1_code 96 = .ok (.getfield 40, 3) := by decide +kernel
theorem dG_init_99 : decode prog_1_method_1_code 99 = .ok (.iconst (-1), 1) := by decide +kernel
theorem dG_init_100 : decode prog_1_method_1_code 100 = .ok (.invokestatic 48, 3) := by decide +kernel
theorem dG_init_103 : decode prog_1_method_1_code 103 = .ok (.new 22, 3) := by decide +kernel
theorem dG_init_106 : decode prog_1_method_1_code 106 = .ok (.dup, 1) := by decide +kernel
theorem dG_init_107 : decode prog_1_method_1_code 107 = .ok (.iconst 0, 1) := by decide +kernel
theorem dG_init_108 : decode prog_1_method_1_code 108 = .ok (.new 54, 3) := by decide +kernel
theorem dG_init_111 : decode prog_1_method_1_code 111 = .ok (.dup, 1) := by decide +kernel
theorem dG_init_112 : decode prog_1_method_1_code 112 = .ok (.invokespecial 56, 3) := by decide +kernel
theorem dG_init_115 : decode prog_1_method_1_code 115 = .ok (.iconst (-1), 1) := by decide +kernel
theorem dG_init_116 : decode prog_1_method_1_code 116 = .ok (.invokespecial 57, 3) := by decide +kernel
theorem dG_init_119 : decode prog_1_method_1_code 119 = .ok (.astore_n 1, 1) := by decide +kernel
theorem dG_init_120 : decode prog_1_method_1_code 120 = .ok (.aload_n 1, 1) := by decide +kernel
theorem dG_init_121 : decode prog_1_method_1_code 121 = .ok (.getfield 60, 3) := by decide +kernel
theorem dG_init_124 : decode prog_1_method_1_code 124 = .ok (.iconst 0, 1) := by decide +kernel
theorem dG_init_125 : decode prog_1_method_1_code 125 = .ok (.aload_n 0, 1) := by decide +kernel
theorem dG_init_126 : decode prog_1_method_1_code 126 = .ok (.getfield 12, 3) := by decide +kernel
theorem dG_init_129 : decode prog_1_method_1_code 129 = .ok (.invokevirtual 64, 3) := by decide +kernel
theorem dG_init_132 : decode prog_1_method_1_code 132 = .ok (.iconst 0, 1) := by decide +kernel
theorem dG_init_133 : decode prog_1_method_1_code 133 = .ok (.invokevirtual 68, 3) := by decide +kernel
theorem dG_init_136 : decode prog_1_method_1_code 136 = .ok (.aload_n 1, 1) := by decide +kernel
theorem dG_init_137 : decode prog_1_method_1_code 137 = .ok (.aload_n 0, 1) := by decide +kernel
theorem dG_init_138 : decode prog_1_method_1_code 138 = .ok (.getfield 12, 3) := by decide +kernel
theorem dG_init_141 : decode prog_1_method_1_code 141 = .ok (.invokevirtual 64, 3) := by decide +kernel
theorem dG_init_144 : decode prog_1_method_1_code 144 = .ok (.putfield 72, 3) := by decide +kernel
theorem dG_init_147 : decode prog_1_method_1_code 147 = .ok (.aload_n 0, 1) := by decide +kernel
theorem dG_init_148 : decode prog_1_method_1_code 148 = .ok (.getfield 24, 3) := by decide +kernel
theorem dG_init_151 : decode prog_1_method_1_code 151 = .ok (.iconst 0, 1) := by decide +kernel
theorem dG_init_152 : decode prog_1_method_1_code 152 = .ok (.aload_n 1, 1) := by decide +kernel
theorem dG_init_153 : decode prog_1_method_1_code 153 = .ok (.aastore, 1) := by decide +kernel
theorem dG_init_154 : decode prog_1_method_1_code 154 = .ok (.aload_n 0, 1) := by decide +kernel
theorem dG_init_155 : decode prog_1_method_1_code 155 = .ok (.iconst 1, 1) := by decide +kernel
theorem dG_init_156 : decode prog_1_method_1_code 156 = .ok (.putfield 76, 3) := by decide +kernel
theorem dG_init_159 : decode prog_1_method_1_code 159 = .ok (.aload_n 0, 1) := by decide +kernel
theorem dG_init_160 : decode prog_1_method_1_code 160 = .ok (.getfield 40, 3) := by decide +kernel
theorem dG_init_163 : decode prog_1_method_1_code 163 = .ok (.iconst 0, 1) := by decide +kernel
theorem dG_init_164 : decode prog_1_method_1_code 164 = .ok (.iconst 0, 1) := by decide +kernel
theorem dG_init_165 : decode prog_1_method_1_code 165 = .ok (.iastore, 1) := by decide +kernel
theorem dG_init_166 : decode prog_1_method_1_code 166 = .ok (.aload_n 0, 1) := by decide +kernel
theorem dG_init_167 : decode prog_1_method_1_code 167 = .ok (.getfield 18, 3) := by decide +kernel
theorem dG_init_170 : decode prog_1_method_1_code 170 = .ok (.iconst 0, 1) := by decide +kernel
theorem dG_init_171 : decode prog_1_method_1_code 171 = .ok (.aaload, 1) := by decide +kernel
theorem dG_init_172 : decode prog_1_method_1_code 172 = .ok (.aload_n 1, 1) := by decide +kernel
theorem dG_init_173 : decode prog_1_method_1_code 173 = .ok (.iconst 0, 1) := by decide +kernel
theorem dG_init_174 : decode prog_1_method_1_code 174 = .ok (.invokevirtual 79, 3) := by decide +kernel
theorem dG_init_177 : decode prog_1_method_1_code 177 = .ok (.return_, 1) := by decide +kernel
theorem dG_leafNode_0 : decode prog_1_method_40_code 0 = .ok (.iconst 2, 1) := by decide +kernel
theorem dG_leafNode_1 : decode prog_1_method_40_code 1 = .ok (.iload_n 0, 1) := by decide +kernel
theorem dG_leafNode_2 : decode prog_1_method_40_code 2 = .ok (.imul, 1) := by decide +kernel
theorem dG_leafNode_3 : decode prog_1_method_40_code 3 = .ok (.ireturn, 1) := by decide +kernel
theorem dG_member_0 : decode prog_1_method_9_code 0 = .ok (.iload_n 1, 1) := by decide +kernel
theorem dG_member_1 : decode prog_1_method_9_code 1 = .ok (.invokestatic 83, 3) := by decide +kernel
theorem dG_member_4 : decode prog_1_method_9_code 4 = .ok (.ifCond .ne 5, 3) := by decide +kernel
theorem dG_member_7 : decode prog_1_method_9_code 7 = .ok (.iconst (-1), 1) := by decide +kernel
theorem dG_member_8 : decode prog_1_method_9_code 8 = .ok (.ireturn, 1) := by decide +kernel
theorem dG_member_9 : decode prog_1_method_9_code 9 = .ok (.aload_n 0, 1) := by decide +kernel
theorem dG_member_10 : decode prog_1_method_9_code 10 = .ok (.getfield 18, 3) := by decide +kernel
theorem dG_member_13 : decode prog_1_method_9_code 13 = .ok (.iload_n 1, 1) := by decide +kernel
theorem dG_member_14 : decode prog_1_method_9_code 14 = .ok (.aaload, 1) := by decide +kernel
theorem dG_member_15 : decode prog_1_method_9_code 15 = .ok (.astore_n 3, 1) := by decide +kernel
theorem dG_member_16 : decode prog_1_method_9_code 16 = .ok (.iload_n 2, 1) := by decide +kernel
theorem dG_member_17 : decode prog_1_method_9_code 17 = .ok (.tableswitch 52 0 3 #[31, 36, 41, 47], 31) := by decide +kernel
theorem dG_member_48 : decode prog_1_method_9_code 48 = .ok (.aload_n 3, 1) := by decide +kernel
theorem dG_member_49 : decode prog_1_method_9_code 49 = .ok (.getfield 161, 3) := by decide +kernel
theorem dG_member_52 : decode prog_1_method_9_code 52 = .ok (.ireturn, 1) := by decide +kernel
theorem dG_member_53 : decode prog_1_method_9_code 53 = .ok (.aload_n 3, 1) := by decide +kernel
theorem dG_member_54 : decode prog_1_method_9_code 54 = .ok (.getfield 110, 3) := by decide +kernel
theorem dG_member_57 : decode prog_1_method_9_code 57 = .ok (.ireturn, 1) := by decide +kernel
theorem dG_member_58 : decode prog_1_method_9_code 58 = .ok (.aload_n 0, 1) := by decide +kernel
theorem dG_member_59 : decode prog_1_method_9_code 59 = .ok (.iload_n 1, 1) := by decide +kernel
theorem dG_member_60 : decode prog_1_method_9_code 60 = .ok (.invokevirtual 175, 3) := by decide +kernel
theorem dG_member_63 : decode prog_1_method_9_code 63 = .ok (.ireturn, 1) := by decide +kernel
theorem dG_member_64 : decode prog_1_method_9_code 64 = .ok (.aload_n 3, 1) := by decide +kernel
theorem dG_member_65 : decode prog_1_method_9_code 65 = .ok (.getfield 181, 3) := by decide +kernel
theorem dG_member_68 : decode prog_1_method_9_code 68 = .ok (.ireturn, 1) := by decide +kernel
theorem dG_member_69 : decode prog_1_method_9_code 69 = .ok (.iconst (-1), 1) := by decide +kernel
theorem dG_member_70 : decode prog_1_method_9_code 70 = .ok (.ireturn, 1) := by decide +kernel
theorem dG_isMember_0 : decode prog_1_method_19_code 0 = .ok (.iload_n 0, 1) := by decide +kernel
theorem dG_isMember_1 : decode prog_1_method_19_code 1 = .ok (.ifCond .lt 13, 3) := by decide +kernel
theorem dG_isMember_4 : decode prog_1_method_19_code 4 = .ok (.iload_n 0, 1) := by decide +kernel
theorem dG_isMember_5 : decode prog_1_method_19_code 5 = .ok (.bipush 16, 2) := by decide +kernel
theorem dG_isMember_7 : decode prog_1_method_19_code 7 = .ok (.if_icmp .ge 7, 3) := by decide +kernel
theorem dG_isMember_10 : decode prog_1_method_19_code 10 = .ok (.iconst 1, 1) := by decide +kernel
theorem dG_isMember_11 : decode prog_1_method_19_code 11 = .ok (.goto 4, 3) := by decide +kernel
theorem dG_isMember_14 : decode prog_1_method_19_code 14 = .ok (.iconst 0, 1) := by decide +kernel
theorem dG_isMember_15 : decode prog_1_method_19_code 15 = .ok (.ireturn, 1) := by decide +kernel
theorem dG_gather_0 : decode prog_1_method_38_code 0 = .ok (.aload_n 0, 1) := by decide +kernel
theorem dG_gather_1 : decode prog_1_method_38_code 1 = .ok (.getfield 18, 3) := by decide +kernel
theorem dG_gather_4 : decode prog_1_method_38_code 4 = .ok (.iload_n 1, 1) := by decide +kernel
theorem dG_gather_5 : decode prog_1_method_38_code 5 = .ok (.aaload, 1) := by decide +kernel
theorem dG_gather_6 : decode prog_1_method_38_code 6 = .ok (.aload_n 0, 1) := by decide +kernel
theorem dG_gather_7 : decode prog_1_method_38_code 7 = .ok (.getfield 44, 3) := by decide +kernel
theorem dG_gather_10 : decode prog_1_method_38_code 10 = .ok (.invokevirtual 324, 3) := by decide +kernel
theorem dG_gather_13 : decode prog_1_method_38_code 13 = .ok (.istore_n 2, 1) := by decide +kernel
theorem dG_gather_14 : decode prog_1_method_38_code 14 = .ok (.iconst 0, 1) := by decide +kernel
theorem dG_gather_15 : decode prog_1_method_38_code 15 = .ok (.istore_n 3, 1) := by decide +kernel
theorem dG_gather_16 : decode prog_1_method_38_code 16 = .ok (.iload_n 3, 1) := by decide +kernel
theorem dG_gather_17 : decode prog_1_method_38_code 17 = .ok (.aload_n 0, 1) := by decide +kernel
theorem dG_gather_18 : decode prog_1_method_38_code 18 = .ok (.getfield 90, 3) := by decide +kernel
theorem dG_gather_21 : decode prog_1_method_38_code 21 = .ok (.if_icmp .ge 78, 3) := by decide +kernel
theorem dG_gather_24 : decode prog_1_method_38_code 24 = .ok (.aload_n 0, 1) := by decide +kernel
theorem dG_gather_25 : decode prog_1_method_38_code 25 = .ok (.getfield 30, 3) := by decide +kernel
theorem dG_gather_28 : decode prog_1_method_38_code 28 = .ok (.iload_n 3, 1) := by decide +kernel
theorem dG_gather_29 : decode prog_1_method_38_code 29 = .ok (.aaload, 1) := by decide +kernel
theorem dG_gather_30 : decode prog_1_method_38_code 30 = .ok (.getfield 263, 3) := by decide +kernel
theorem dG_gather_33 : decode prog_1_method_38_code 33 = .ok (.iload_n 1, 1) := by decide +kernel
theorem dG_gather_34 : decode prog_1_method_38_code 34 = .ok (.if_icmp .ne 59, 3) := by decide +kernel
theorem dG_gather_37 : decode prog_1_method_38_code 37 = .ok (.aload_n 0, 1) := by decide +kernel
theorem dG_gather_38 : decode prog_1_method_38_code 38 = .ok (.getfield 30, 3) := by decide +kernel
theorem dG_gather_41 : decode prog_1_method_38_code 41 = .ok (.iload_n 3, 1) := by decide +kernel
theorem dG_gather_42 : decode prog_1_method_38_code 42 = .ok (.aaload, 1) := by decide +kernel
theorem dG_gather_43 : decode prog_1_method_38_code 43 = .ok (.getfield 314, 3) := by decide +kernel
theorem dG_gather_46 : decode prog_1_method_38_code 46 = .ok (.ifCond .ne 47, 3) := by decide +kernel
theorem dG_gather_49 : decode prog_1_method_38_code 49 = .ok (.iload_n 2, 1) := by decide +kernel
theorem dG_gather_50 : decode prog_1_method_38_code 50 = .ok (.iconst 1, 1) := by decide +kernel
theorem dG_gather_51 : decode prog_1_method_38_code 51 = .ok (.iadd, 1) := by decide +kernel
theorem dG_gather_52 : decode prog_1_method_38_code 52 = .ok (.sipush 146, 3) := by decide +kernel
theorem dG_gather_55 : decode prog_1_method_38_code 55 = .ok (.if_icmp .ge 38, 3) := by decide +kernel
theorem dG_gather_58 : decode prog_1_method_38_code 58 = .ok (.aload_n 0, 1) := by decide +kernel
theorem dG_gather_59 : decode prog_1_method_38_code 59 = .ok (.getfield 44, 3) := by decide +kernel
theorem dG_gather_62 : decode prog_1_method_38_code 62 = .ok (.iload_n 2, 1) := by decide +kernel
theorem dG_gather_63 : decode prog_1_method_38_code 63 = .ok (.aload_n 0, 1) := by decide +kernel
theorem dG_gather_64 : decode prog_1_method_38_code 64 = .ok (.getfield 30, 3) := by decide +kernel
theorem dG_gather_67 : decode prog_1_method_38_code 67 = .ok (.iload_n 3, 1) := by decide +kernel
theorem dG_gather_68 : decode prog_1_method_38_code 68 = .ok (.aaload, 1) := by decide +kernel
theorem dG_gather_69 : decode prog_1_method_38_code 69 = .ok (.getfield 305, 3) := by decide +kernel
theorem dG_gather_72 : decode prog_1_method_38_code 72 = .ok (.iastore, 1) := by decide +kernel
theorem dG_gather_73 : decode prog_1_method_38_code 73 = .ok (.aload_n 0, 1) := by decide +kernel
theorem dG_gather_74 : decode prog_1_method_38_code 74 = .ok (.getfield 44, 3) := by decide +kernel
theorem dG_gather_77 : decode prog_1_method_38_code 77 = .ok (.iload_n 2, 1) := by decide +kernel
theorem dG_gather_78 : decode prog_1_method_38_code 78 = .ok (.iconst 1, 1) := by decide +kernel
theorem dG_gather_79 : decode prog_1_method_38_code 79 = .ok (.iadd, 1) := by decide +kernel
theorem dG_gather_80 : decode prog_1_method_38_code 80 = .ok (.aload_n 0, 1) := by decide +kernel
theorem dG_gather_81 : decode prog_1_method_38_code 81 = .ok (.getfield 30, 3) := by decide +kernel
theorem dG_gather_84 : decode prog_1_method_38_code 84 = .ok (.iload_n 3, 1) := by decide +kernel
theorem dG_gather_85 : decode prog_1_method_38_code 85 = .ok (.aaload, 1) := by decide +kernel
theorem dG_gather_86 : decode prog_1_method_38_code 86 = .ok (.getfield 272, 3) := by decide +kernel
theorem dG_gather_89 : decode prog_1_method_38_code 89 = .ok (.iastore, 1) := by decide +kernel
theorem dG_gather_90 : decode prog_1_method_38_code 90 = .ok (.iinc 2 2, 3) := by decide +kernel
theorem dG_gather_93 : decode prog_1_method_38_code 93 = .ok (.iinc 3 1, 3) := by decide +kernel
theorem dG_gather_96 : decode prog_1_method_38_code 96 = .ok (.goto (-80), 3) := by decide +kernel
theorem dG_gather_99 : decode prog_1_method_38_code 99 = .ok (.iload_n 2, 1) := by decide +kernel
theorem dG_gather_100 : decode prog_1_method_38_code 100 = .ok (.ireturn, 1) := by decide +kernel
theorem dG_holds_0 : decode prog_1_method_10_code 0 = .ok (.iload_n 1, 1) := by decide +kernel
theorem dG_holds_1 : decode prog_1_method_10_code 1 = .ok (.invokestatic 83, 3) := by decide +kernel
theorem dG_holds_4 : decode prog_1_method_10_code 4 = .ok (.ifCond .eq 19, 3) := by decide +kernel
theorem dG_holds_7 : decode prog_1_method_10_code 7 = .ok (.aload_n 0, 1) := by decide +kernel
theorem dG_holds_8 : decode prog_1_method_10_code 8 = .ok (.aload_n 0, 1) := by decide +kernel
theorem dG_holds_9 : decode prog_1_method_10_code 9 = .ok (.getfield 18, 3) := by decide +kernel
theorem dG_holds_12 : decode prog_1_method_10_code 12 = .ok (.iload_n 1, 1) := by decide +kernel
theorem dG_holds_13 : decode prog_1_method_10_code 13 = .ok (.aaload, 1) := by decide +kernel
theorem dG_holds_14 : decode prog_1_method_10_code 14 = .ok (.getfield 161, 3) := by decide +kernel
theorem dG_holds_17 : decode prog_1_method_10_code 17 = .ok (.invokevirtual 184, 3) := by decide +kernel
theorem dG_holds_20 : decode prog_1_method_10_code 20 = .ok (.ifCond .ne 5, 3) := by decide +kernel
theorem dG_holds_23 : decode prog_1_method_10_code 23 = .ok (.iconst 0, 1) := by decide +kernel
theorem dG_holds_24 : decode prog_1_method_10_code 24 = .ok (.ireturn, 1) := by decide +kernel
theorem dG_holds_25 : decode prog_1_method_10_code 25 = .ok (.aload_n 0, 1) := by decide +kernel
theorem dG_holds_26 : decode prog_1_method_10_code 26 = .ok (.getfield 24, 3) := by decide +kernel
theorem dG_holds_29 : decode prog_1_method_10_code 29 = .ok (.aload_n 0, 1) := by decide +kernel
theorem dG_holds_30 : decode prog_1_method_10_code 30 = .ok (.getfield 18, 3) := by decide +kernel
theorem dG_holds_33 : decode prog_1_method_10_code 33 = .ok (.iload_n 1, 1) := by decide +kernel
theorem dG_holds_34 : decode prog_1_method_10_code 34 = .ok (.aaload, 1) := by decide +kernel
theorem dG_holds_35 : decode prog_1_method_10_code 35 = .ok (.getfield 161, 3) := by decide +kernel
theorem dG_holds_38 : decode prog_1_method_10_code 38 = .ok (.aaload, 1) := by decide +kernel
theorem dG_holds_39 : decode prog_1_method_10_code 39 = .ok (.getfield 60, 3) := by decide +kernel
theorem dG_holds_42 : decode prog_1_method_10_code 42 = .ok (.iload_n 2, 1) := by decide +kernel
theorem dG_holds_43 : decode prog_1_method_10_code 43 = .ok (.invokevirtual 187, 3) := by decide +kernel
theorem dG_holds_46 : decode prog_1_method_10_code 46 = .ok (.istore_n 3, 1) := by decide +kernel
theorem dG_holds_47 : decode prog_1_method_10_code 47 = .ok (.iload_n 3, 1) := by decide +kernel
theorem dG_holds_48 : decode prog_1_method_10_code 48 = .ok (.iconst (-1), 1) := by decide +kernel
theorem dG_holds_49 : decode prog_1_method_10_code 49 = .ok (.if_icmp .ne 5, 3) := by decide +kernel
theorem dG_holds_52 : decode prog_1_method_10_code 52 = .ok (.iconst 0, 1) := by decide +kernel
theorem dG_holds_53 : decode prog_1_method_10_code 53 = .ok (.ireturn, 1) := by decide +kernel
theorem dG_holds_54 : decode prog_1_method_10_code 54 = .ok (.aload_n 0, 1) := by decide +kernel
theorem dG_holds_55 : decode prog_1_method_10_code 55 = .ok (.iload_n 1, 1) := by decide +kernel
theorem dG_holds_56 : decode prog_1_method_10_code 56 = .ok (.invokevirtual 175, 3) := by decide +kernel
theorem dG_holds_59 : decode prog_1_method_10_code 59 = .ok (.istore 4, 2) := by decide +kernel
theorem dG_holds_61 : decode prog_1_method_10_code 61 = .ok (.iconst 0, 1) := by decide +kernel
theorem dG_holds_62 : decode prog_1_method_10_code 62 = .ok (.istore 5, 2) := by decide +kernel
theorem dG_holds_64 : decode prog_1_method_10_code 64 = .ok (.iload 5, 2) := by decide +kernel
theorem dG_holds_66 : decode prog_1_method_10_code 66 = .ok (.iload 4, 2) := by decide +kernel
theorem dG_holds_68 : decode prog_1_method_10_code 68 = .ok (.if_icmp .ge 22, 3) := by decide +kernel
theorem dG_holds_71 : decode prog_1_method_10_code 71 = .ok (.aload_n 0, 1) := by decide +kernel
theorem dG_holds_72 : decode prog_1_method_10_code 72 = .ok (.getfield 44, 3) := by decide +kernel
theorem dG_holds_75 : decode prog_1_method_10_code 75 = .ok (.iload 5, 2) := by decide +kernel
theorem dG_holds_77 : decode prog_1_method_10_code 77 = .ok (.iaload, 1) := by decide +kernel
theorem dG_holds_78 : decode prog_1_method_10_code 78 = .ok (.iload_n 3, 1) := by decide +kernel
theorem dG_holds_79 : decode prog_1_method_10_code 79 = .ok (.if_icmp .ne 5, 3) := by decide +kernel
theorem dG_holds_82 : decode prog_1_method_10_code 82 = .ok (.iconst 1, 1) := by decide +kernel
theorem dG_holds_83 : decode prog_1_method_10_code 83 = .ok (.ireturn, 1) := by decide +kernel
theorem dG_holds_84 : decode prog_1_method_10_code 84 = .ok (.iinc 5 1, 3) := by decide +kernel
theorem dG_holds_87 : decode prog_1_method_10_code 87 = .ok (.goto (-23), 3) := by decide +kernel
theorem dG_holds_90 : decode prog_1_method_10_code 90 = .ok (.iconst 0, 1) := by decide +kernel
theorem dG_holds_91 : decode prog_1_method_10_code 91 = .ok (.ireturn, 1) := by decide +kernel
theorem dG_isEpoch_0 : decode prog_1_method_20_code 0 = .ok (.iload_n 1, 1) := by decide +kernel
theorem dG_isEpoch_1 : decode prog_1_method_20_code 1 = .ok (.ifCond .lt 15, 3) := by decide +kernel
theorem dG_isEpoch_4 : decode prog_1_method_20_code 4 = .ok (.iload_n 1, 1) := by decide +kernel
theorem dG_isEpoch_5 : decode prog_1_method_20_code 5 = .ok (.aload_n 0, 1) := by decide +kernel
theorem dG_isEpoch_6 : decode prog_1_method_20_code 6 = .ok (.getfield 76, 3) := by decide +kernel
theorem dG_isEpoch_9 : decode prog_1_method_20_code 9 = .ok (.if_icmp .ge 7, 3) := by decide +kernel
theorem dG_isEpoch_12 : decode prog_1_method_20_code 12 = .ok (.iconst 1, 1) := by decide +kernel
theorem dG_isEpoch_13 : decode prog_1_method_20_code 13 = .ok (.goto 4, 3) := by decide +kernel
theorem dG_isEpoch_16 : decode prog_1_method_20_code 16 = .ok (.iconst 0, 1) := by decide +kernel
theorem dG_isEpoch_17 : decode prog_1_method_20_code 17 = .ok (.ireturn, 1) := by decide +kernel
theorem dG_has_0 : decode prog_1_method_11_code 0 = .ok (.iload_n 1, 1) := by decide +kernel
theorem dG_has_1 : decode prog_1_method_11_code 1 = .ok (.invokestatic 83, 3) := by decide +kernel
theorem dG_has_4 : decode prog_1_method_11_code 4 = .ok (.ifCond .eq 20, 3) := by decide +kernel
theorem dG_has_7 : decode prog_1_method_11_code 7 = .ok (.aload_n 0, 1) := by decide +kernel
theorem dG_has_8 : decode prog_1_method_11_code 8 = .ok (.getfield 18, 3) := by decide +kernel
theorem dG_has_11 : decode prog_1_method_11_code 11 = .ok (.iload_n 1, 1) := by decide +kernel
theorem dG_has_12 : decode prog_1_method_11_code 12 = .ok (.aaload, 1) := by decide +kernel
theorem dG_has_13 : decode prog_1_method_11_code 13 = .ok (.getfield 190, 3) := by decide +kernel
theorem dG_has_16 : decode prog_1_method_11_code 16 = .ok (.iconst (-1), 1) := by decide +kernel
theorem dG_has_17 : decode prog_1_method_11_code 17 = .ok (.if_icmp .eq 7, 3) := by decide +kernel
theorem dG_has_20 : decode prog_1_method_11_code 20 = .ok (.iconst 1, 1) := by decide +kernel
theorem dG_has_21 : decode prog_1_method_11_code 21 = .ok (.goto 4, 3) := by decide +kernel
theorem dG_has_24 : decode prog_1_method_11_code 24 = .ok (.iconst 0, 1) := by decide +kernel
theorem dG_has_25 : decode prog_1_method_11_code 25 = .ok (.ireturn, 1) := by decide +kernel
theorem dG_node_0 : decode prog_1_method_12_code 0 = .ok (.aload_n 0, 1) := by decide +kernel
theorem dG_node_1 : decode prog_1_method_12_code 1 = .ok (.iload_n 1, 1) := by decide +kernel
theorem dG_node_2 : decode prog_1_method_12_code 2 = .ok (.invokevirtual 184, 3) := by decide +kernel
theorem dG_node_5 : decode prog_1_method_12_code 5 = .ok (.ifCond .eq 19, 3) := by decide +kernel
theorem dG_node_8 : decode prog_1_method_12_code 8 = .ok (.aload_n 0, 1) := by decide +kernel
theorem dG_node_9 : decode prog_1_method_12_code 9 = .ok (.getfield 24, 3) := by decide +kernel
theorem dG_node_12 : decode prog_1_method_12_code 12 = .ok (.iload_n 1, 1) := by decide +kernel
theorem dG_node_13 : decode prog_1_method_12_code 13 = .ok (.aaload, 1) := by decide +kernel
theorem dG_node_14 : decode prog_1_method_12_code 14 = .ok (.getfield 60, 3) := by decide +kernel
theorem dG_node_17 : decode prog_1_method_12_code 17 = .ok (.iload_n 2, 1) := by decide +kernel
theorem dG_node_18 : decode prog_1_method_12_code 18 = .ok (.invokevirtual 191, 3) := by decide +kernel
theorem dG_node_21 : decode prog_1_method_12_code 21 = .ok (.ifCond .ne 5, 3) := by decide +kernel
theorem dG_node_24 : decode prog_1_method_12_code 24 = .ok (.iconst (-1), 1) := by decide +kernel
theorem dG_node_25 : decode prog_1_method_12_code 25 = .ok (.ireturn, 1) := by decide +kernel
theorem dG_node_26 : decode prog_1_method_12_code 26 = .ok (.aload_n 0, 1) := by decide +kernel
theorem dG_node_27 : decode prog_1_method_12_code 27 = .ok (.getfield 24, 3) := by decide +kernel
theorem dG_node_30 : decode prog_1_method_12_code 30 = .ok (.iload_n 1, 1) := by decide +kernel
theorem dG_node_31 : decode prog_1_method_12_code 31 = .ok (.aaload, 1) := by decide +kernel
theorem dG_node_32 : decode prog_1_method_12_code 32 = .ok (.getfield 60, 3) := by decide +kernel
theorem dG_node_35 : decode prog_1_method_12_code 35 = .ok (.astore 4, 2) := by decide +kernel
theorem dG_node_37 : decode prog_1_method_12_code 37 = .ok (.iload_n 3, 1) := by decide +kernel
theorem dG_node_38 : decode prog_1_method_12_code 38 = .ok (.tableswitch 74 0 3 #[30, 46, 53, 60], 30) := by decide +kernel
theorem dG_node_68 : decode prog_1_method_12_code 68 = .ok (.aload 4, 2) := by decide +kernel
theorem dG_node_70 : decode prog_1_method_12_code 70 = .ok (.iload_n 2, 1) := by decide +kernel
theorem dG_node_71 : decode prog_1_method_12_code 71 = .ok (.invokevirtual 187, 3) := by decide +kernel
theorem dG_node_74 : decode prog_1_method_12_code 74 = .ok (.iconst (-1), 1) := by decide +kernel
theorem dG_node_75 : decode prog_1_method_12_code 75 = .ok (.if_icmp .ne 7, 3) := by decide +kernel
theorem dG_node_78 : decode prog_1_method_12_code 78 = .ok (.iconst 0, 1) := by decide +kernel
theorem dG_node_79 : decode prog_1_method_12_code 79 = .ok (.goto 4, 3) := by decide +kernel
theorem dG_node_82 : decode prog_1_method_12_code 82 = .ok (.iconst 1, 1) := by decide +kernel
theorem dG_node_83 : decode prog_1_method_12_code 83 = .ok (.ireturn, 1) := by decide +kernel
theorem dG_node_84 : decode prog_1_method_12_code 84 = .ok (.aload 4, 2) := by decide +kernel
theorem dG_node_86 : decode prog_1_method_12_code 86 = .ok (.iload_n 2, 1) := by decide +kernel
theorem dG_node_87 : decode prog_1_method_12_code 87 = .ok (.invokevirtual 194, 3) := by decide +kernel
theorem dG_node_90 : decode prog_1_method_12_code 90 = .ok (.ireturn, 1) := by decide +kernel
theorem dG_node_91 : decode prog_1_method_12_code 91 = .ok (.aload 4, 2) := by decide +kernel
theorem dG_node_93 : decode prog_1_method_12_code 93 = .ok (.iload_n 2, 1) := by decide +kernel
theorem dG_node_94 : decode prog_1_method_12_code 94 = .ok (.invokevirtual 197, 3) := by decide +kernel
theorem dG_node_97 : decode prog_1_method_12_code 97 = .ok (.ireturn, 1) := by decide +kernel
theorem dG_node_98 : decode prog_1_method_12_code 98 = .ok (.aload 4, 2) := by decide +kernel
theorem dG_node_100 : decode prog_1_method_12_code 100 = .ok (.iload_n 2, 1) := by decide +kernel
theorem dG_node_101 : decode prog_1_method_12_code 101 = .ok (.iload_n 2, 1) := by decide +kernel
theorem dG_node_102 : decode prog_1_method_12_code 102 = .ok (.invokestatic 200, 3) := by decide +kernel
theorem dG_node_105 : decode prog_1_method_12_code 105 = .ok (.invokevirtual 203, 3) := by decide +kernel
theorem dG_node_108 : decode prog_1_method_12_code 108 = .ok (.invokestatic 207, 3) := by decide +kernel
theorem dG_node_111 : decode prog_1_method_12_code 111 = .ok (.ireturn, 1) := by decide +kernel
theorem dG_node_112 : decode prog_1_method_12_code 112 = .ok (.iconst (-1), 1) := by decide +kernel
theorem dG_node_113 : decode prog_1_method_12_code 113 = .ok (.ireturn, 1) := by decide +kernel
theorem dG_heightOf_0 : decode prog_1_method_43_code 0 = .ok (.iload_n 0, 1) := by decide +kernel
theorem dG_heightOf_1 : decode prog_1_method_43_code 1 = .ok (.iload_n 0, 1) := by decide +kernel
theorem dG_heightOf_2 : decode prog_1_method_43_code 2 = .ok (.iconst 1, 1) := by decide +kernel
theorem dG_heightOf_3 : decode prog_1_method_43_code 3 = .ok (.iadd, 1) := by decide +kernel
theorem dG_heightOf_4 : decode prog_1_method_43_code 4 = .ok (.iconst (-1), 1) := by decide +kernel
theorem dG_heightOf_5 : decode prog_1_method_43_code 5 = .ok (.ixor, 1) := by decide +kernel
theorem dG_heightOf_6 : decode prog_1_method_43_code 6 = .ok (.iand, 1) := by decide +kernel
theorem dG_heightOf_7 : decode prog_1_method_43_code 7 = .ok (.invokestatic 207, 3) := by decide +kernel
theorem dG_heightOf_10 : decode prog_1_method_43_code 10 = .ok (.ireturn, 1) := by decide +kernel
theorem dG_bit_0 : decode prog_1_method_39_code 0 = .ok (.iconst 1, 1) := by decide +kernel
theorem dG_bit_1 : decode prog_1_method_39_code 1 = .ok (.iload_n 0, 1) := by decide +kernel
theorem dG_bit_2 : decode prog_1_method_39_code 2 = .ok (.ishl, 1) := by decide +kernel
theorem dG_bit_3 : decode prog_1_method_39_code 3 = .ok (.ireturn, 1) := by decide +kernel
theorem dG_leafNodes_0 : decode prog_1_method_44_code 0 = .ok (.iconst 0, 1) := by decide +kernel
theorem dG_leafNodes_1 : decode prog_1_method_44_code 1 = .ok (.istore_n 1, 1) := by decide +kernel
theorem dG_leafNodes_2 : decode prog_1_method_44_code 2 = .ok (.iconst 0, 1) := by decide +kernel
theorem dG_leafNodes_3 : decode prog_1_method_44_code 3 = .ok (.istore_n 2, 1) := by decide +kernel
theorem dG_leafNodes_4 : decode prog_1_method_44_code 4 = .ok (.iload_n 2, 1) := by decide +kernel
theorem dG_leafNodes_5 : decode prog_1_method_44_code 5 = .ok (.bipush 16, 2) := by decide +kernel
theorem dG_leafNodes_7 : decode prog_1_method_44_code 7 = .ok (.if_icmp .ge 28, 3) := by decide +kernel
theorem dG_leafNodes_10 : decode prog_1_method_44_code 10 = .ok (.iload_n 0, 1) := by decide +kernel
theorem dG_leafNodes_11 : decode prog_1_method_44_code 11 = .ok (.iload_n 2, 1) := by decide +kernel
theorem dG_leafNodes_12 : decode prog_1_method_44_code 12 = .ok (.invokestatic 239, 3) := by decide +kernel
theorem dG_leafNodes_15 : decode prog_1_method_44_code 15 = .ok (.iand, 1) := by decide +kernel
theorem dG_leafNodes_16 : decode prog_1_method_44_code 16 = .ok (.ifCond .eq 13, 3) := by decide +kernel
theorem dG_leafNodes_19 : decode prog_1_method_44_code 19 = .ok (.iload_n 1, 1) := by decide +kernel
theorem dG_leafNodes_20 : decode prog_1_method_44_code 20 = .ok (.iload_n 2, 1) := by decide +kernel
theorem dG_leafNodes_21 : decode prog_1_method_44_code 21 = .ok (.invokestatic 233, 3) := by decide +kernel
theorem dG_leafNodes_24 : decode prog_1_method_44_code 24 = .ok (.invokestatic 239, 3) := by decide +kernel
theorem dG_leafNodes_27 : decode prog_1_method_44_code 27 = .ok (.ior, 1) := by decide +kernel
theorem dG_leafNodes_28 : decode prog_1_method_44_code 28 = .ok (.istore_n 1, 1) := by decide +kernel
theorem dG_leafNodes_29 : decode prog_1_method_44_code 29 = .ok (.iinc 2 1, 3) := by decide +kernel
theorem dG_leafNodes_32 : decode prog_1_method_44_code 32 = .ok (.goto (-28), 3) := by decide +kernel
theorem dG_leafNodes_35 : decode prog_1_method_44_code 35 = .ok (.iload_n 1, 1) := by decide +kernel
theorem dG_leafNodes_36 : decode prog_1_method_44_code 36 = .ok (.ireturn, 1) := by decide +kernel
theorem dG_epoch_0 : decode prog_1_method_13_code 0 = .ok (.aload_n 0, 1) := by decide +kernel
theorem dG_epoch_1 : decode prog_1_method_13_code 1 = .ok (.iload_n 1, 1) := by decide +kernel
theorem dG_epoch_2 : decode prog_1_method_13_code 2 = .ok (.invokevirtual 184, 3) := by decide +kernel
theorem dG_epoch_5 : decode prog_1_method_13_code 5 = .ok (.ifCond .ne 5, 3) := by decide +kernel
theorem dG_epoch_8 : decode prog_1_method_13_code 8 = .ok (.iconst (-1), 1) := by decide +kernel
theorem dG_epoch_9 : decode prog_1_method_13_code 9 = .ok (.ireturn, 1) := by decide +kernel
theorem dG_epoch_10 : decode prog_1_method_13_code 10 = .ok (.aload_n 0, 1) := by decide +kernel
theorem dG_epoch_11 : decode prog_1_method_13_code 11 = .ok (.getfield 24, 3) := by decide +kernel
theorem dG_epoch_14 : decode prog_1_method_13_code 14 = .ok (.iload_n 1, 1) := by decide +kernel
theorem dG_epoch_15 : decode prog_1_method_13_code 15 = .ok (.aaload, 1) := by decide +kernel
theorem dG_epoch_16 : decode prog_1_method_13_code 16 = .ok (.astore_n 3, 1) := by decide +kernel
theorem dG_epoch_17 : decode prog_1_method_13_code 17 = .ok (.iload_n 2, 1) := by decide +kernel
theorem dG_epoch_18 : decode prog_1_method_13_code 18 = .ok (.tableswitch 80 0 6 #[42, 50, 55, 60, 65, 70, 75], 42) := by decide +kernel
theorem dG_epoch_60 : decode prog_1_method_13_code 60 = .ok (.aload_n 3, 1) := by decide +kernel
theorem dG_epoch_61 : decode prog_1_method_13_code 61 = .ok (.getfield 60, 3) := by decide +kernel
theorem dG_epoch_64 : decode prog_1_method_13_code 64 = .ok (.getfield 212, 3) := by decide +kernel
theorem dG_epoch_67 : decode prog_1_method_13_code 67 = .ok (.ireturn, 1) := by decide +kernel
theorem dG_epoch_68 : decode prog_1_method_13_code 68 = .ok (.aload_n 3, 1) := by decide +kernel
theorem dG_epoch_69 : decode prog_1_method_13_code 69 = .ok (.getfield 215, 3) := by decide +kernel
theorem dG_epoch_72 : decode prog_1_method_13_code 72 = .ok (.ireturn, 1) := by decide +kernel
theorem dG_epoch_73 : decode prog_1_method_13_code 73 = .ok (.aload_n 3, 1) := by decide +kernel
theorem dG_epoch_74 : decode prog_1_method_13_code 74 = .ok (.getfield 218, 3) := by decide +kernel
theorem dG_epoch_77 : decode prog_1_method_13_code 77 = .ok (.ireturn, 1) := by decide +kernel
theorem dG_epoch_78 : decode prog_1_method_13_code 78 = .ok (.aload_n 3, 1) := by decide +kernel
theorem dG_epoch_79 : decode prog_1_method_13_code 79 = .ok (.getfield 132, 3) := by decide +kernel
theorem dG_epoch_82 : decode prog_1_method_13_code 82 = .ok (.ireturn, 1) := by decide +kernel
theorem dG_epoch_83 : decode prog_1_method_13_code 83 = .ok (.aload_n 3, 1) := by decide +kernel
theorem dG_epoch_84 : decode prog_1_method_13_code 84 = .ok (.getfield 135, 3) := by decide +kernel
theorem dG_epoch_87 : decode prog_1_method_13_code 87 = .ok (.ireturn, 1) := by decide +kernel
theorem dG_epoch_88 : decode prog_1_method_13_code 88 = .ok (.aload_n 3, 1) := by decide +kernel
theorem dG_epoch_89 : decode prog_1_method_13_code 89 = .ok (.getfield 138, 3) := by decide +kernel
theorem dG_epoch_92 : decode prog_1_method_13_code 92 = .ok (.ireturn, 1) := by decide +kernel
theorem dG_epoch_93 : decode prog_1_method_13_code 93 = .ok (.aload_n 3, 1) := by decide +kernel
theorem dG_epoch_94 : decode prog_1_method_13_code 94 = .ok (.getfield 221, 3) := by decide +kernel
theorem dG_epoch_97 : decode prog_1_method_13_code 97 = .ok (.ireturn, 1) := by decide +kernel
theorem dG_epoch_98 : decode prog_1_method_13_code 98 = .ok (.iconst (-1), 1) := by decide +kernel
theorem dG_epoch_99 : decode prog_1_method_13_code 99 = .ok (.ireturn, 1) := by decide +kernel
theorem dG_epochs_0 : decode prog_1_method_14_code 0 = .ok (.aload_n 0, 1) := by decide +kernel
theorem dG_epochs_1 : decode prog_1_method_14_code 1 = .ok (.getfield 76, 3) := by decide +kernel
theorem dG_epochs_4 : decode prog_1_method_14_code 4 = .ok (.ireturn, 1) := by decide +kernel
theorem dG_waiting_0 : decode prog_1_method_15_code 0 = .ok (.aload_n 0, 1) := by decide +kernel
theorem dG_waiting_1 : decode prog_1_method_15_code 1 = .ok (.getfield 152, 3) := by decide +kernel
theorem dG_waiting_4 : decode prog_1_method_15_code 4 = .ok (.ireturn, 1) := by decide +kernel
theorem dG_isKnown_0 : decode prog_1_method_16_code 0 = .ok (.aload_n 0, 1) := by decide +kernel
theorem dG_isKnown_1 : decode prog_1_method_16_code 1 = .ok (.iload_n 1, 1) := by decide +kernel
theorem dG_isKnown_2 : decode prog_1_method_16_code 2 = .ok (.invokevirtual 184, 3) := by decide +kernel
theorem dG_isKnown_5 : decode prog_1_method_16_code 5 = .ok (.ifCond .eq 26, 3) := by decide +kernel
theorem dG_isKnown_8 : decode prog_1_method_16_code 8 = .ok (.aload_n 0, 1) := by decide +kernel
theorem dG_isKnown_9 : decode prog_1_method_16_code 9 = .ok (.getfield 12, 3) := by decide +kernel
theorem dG_isKnown_12 : decode prog_1_method_16_code 12 = .ok (.aload_n 0, 1) := by decide +kernel
theorem dG_isKnown_13 : decode prog_1_method_16_code 13 = .ok (.getfield 24, 3) := by decide +kernel
theorem dG_isKnown_16 : decode prog_1_method_16_code 16 = .ok (.iload_n 1, 1) := by decide +kernel
theorem dG_isKnown_17 : decode prog_1_method_16_code 17 = .ok (.aaload, 1) := by decide +kernel
theorem dG_isKnown_18 : decode prog_1_method_16_code 18 = .ok (.getfield 72, 3) := by decide +kernel
theorem dG_isKnown_21 : decode prog_1_method_16_code 21 = .ok (.invokevirtual 224, 3) := by decide +kernel
theorem dG_isKnown_24 : decode prog_1_method_16_code 24 = .ok (.ifCond .eq 7, 3) := by decide +kernel
theorem dG_isKnown_27 : decode prog_1_method_16_code 27 = .ok (.iconst 1, 1) := by decide +kernel
theorem dG_isKnown_28 : decode prog_1_method_16_code 28 = .ok (.goto 4, 3) := by decide +kernel
theorem dG_isKnown_31 : decode prog_1_method_16_code 31 = .ok (.iconst 0, 1) := by decide +kernel
theorem dG_isKnown_32 : decode prog_1_method_16_code 32 = .ok (.ireturn, 1) := by decide +kernel
theorem dG_isOpen_0 : decode prog_1_method_17_code 0 = .ok (.aload_n 0, 1) := by decide +kernel
theorem dG_isOpen_1 : decode prog_1_method_17_code 1 = .ok (.iload_n 1, 1) := by decide +kernel
theorem dG_isOpen_2 : decode prog_1_method_17_code 2 = .ok (.invokevirtual 184, 3) := by decide +kernel
theorem dG_isOpen_5 : decode prog_1_method_17_code 5 = .ok (.ifCond .eq 30, 3) := by decide +kernel
theorem dG_isOpen_8 : decode prog_1_method_17_code 8 = .ok (.aload_n 0, 1) := by decide +kernel
theorem dG_isOpen_9 : decode prog_1_method_17_code 9 = .ok (.getfield 12, 3) := by decide +kernel
theorem dG_isOpen_12 : decode prog_1_method_17_code 12 = .ok (.aload_n 0, 1) := by decide +kernel
theorem dG_isOpen_13 : decode prog_1_method_17_code 13 = .ok (.getfield 24, 3) := by decide +kernel
theorem dG_isOpen_16 : decode prog_1_method_17_code 16 = .ok (.iload_n 1, 1) := by decide +kernel
theorem dG_isOpen_17 : decode prog_1_method_17_code 17 = .ok (.aaload, 1) := by decide +kernel
theorem dG_isOpen_18 : decode prog_1_method_17_code 18 = .ok (.getfield 60, 3) := by decide +kernel
theorem dG_isOpen_21 : decode prog_1_method_17_code 21 = .ok (.iload_n 2, 1) := by decide +kernel
theorem dG_isOpen_22 : decode prog_1_method_17_code 22 = .ok (.invokevirtual 187, 3) := by decide +kernel
theorem dG_isOpen_25 : decode prog_1_method_17_code 25 = .ok (.invokevirtual 224, 3) := by decide +kernel
theorem dG_isOpen_28 : decode prog_1_method_17_code 28 = .ok (.ifCond .eq 7, 3) := by decide +kernel
theorem dG_isOpen_31 : decode prog_1_method_17_code 31 = .ok (.iconst 1, 1) := by decide +kernel
theorem dG_isOpen_32 : decode prog_1_method_17_code 32 = .ok (.goto 4, 3) := by decide +kernel
theorem dG_isOpen_35 : decode prog_1_method_17_code 35 = .ok (.iconst 0, 1) := by decide +kernel
theorem dG_isOpen_36 : decode prog_1_method_17_code 36 = .ok (.ireturn, 1) := by decide +kernel
theorem dG_known_0 : decode prog_1_method_18_code 0 = .ok (.iconst 0, 1) := by decide +kernel
theorem dG_known_1 : decode prog_1_method_18_code 1 = .ok (.istore_n 1, 1) := by decide +kernel
theorem dG_known_2 : decode prog_1_method_18_code 2 = .ok (.iconst 0, 1) := by decide +kernel
theorem dG_known_3 : decode prog_1_method_18_code 3 = .ok (.istore_n 2, 1) := by decide +kernel
theorem dG_known_4 : decode prog_1_method_18_code 4 = .ok (.iload_n 2, 1) := by decide +kernel
theorem dG_known_5 : decode prog_1_method_18_code 5 = .ok (.aload_n 0, 1) := by decide +kernel
theorem dG_known_6 : decode prog_1_method_18_code 6 = .ok (.getfield 76, 3) := by decide +kernel
theorem dG_known_9 : decode prog_1_method_18_code 9 = .ok (.if_icmp .ge 31, 3) := by decide +kernel
theorem dG_known_12 : decode prog_1_method_18_code 12 = .ok (.aload_n 0, 1) := by decide +kernel
theorem dG_known_13 : decode prog_1_method_18_code 13 = .ok (.getfield 12, 3) := by decide +kernel
theorem dG_known_16 : decode prog_1_method_18_code 16 = .ok (.aload_n 0, 1) := by decide +kernel
theorem dG_known_17 : decode prog_1_method_18_code 17 = .ok (.getfield 24, 3) := by decide +kernel
theorem dG_known_20 : decode prog_1_method_18_code 20 = .ok (.iload_n 2, 1) := by decide +kernel
theorem dG_known_21 : decode prog_1_method_18_code 21 = .ok (.aaload, 1) := by decide +kernel
theorem dG_known_22 : decode prog_1_method_18_code 22 = .ok (.getfield 72, 3) := by decide +kernel
theorem dG_known_25 : decode prog_1_method_18_code 25 = .ok (.invokevirtual 224, 3) := by decide +kernel
theorem dG_known_28 : decode prog_1_method_18_code 28 = .ok (.ifCond .eq 6, 3) := by decide +kernel
theorem dG_known_31 : decode prog_1_method_18_code 31 = .ok (.iinc 1 1, 3) := by decide +kernel
theorem dG_known_34 : decode prog_1_method_18_code 34 = .ok (.iinc 2 1, 3) := by decide +kernel
theorem dG_known_37 : decode prog_1_method_18_code 37 = .ok (.goto (-33), 3) := by decide +kernel
theorem dG_known_40 : decode prog_1_method_18_code 40 = .ok (.iload_n 1, 1) := by decide +kernel
theorem dG_known_41 : decode prog_1_method_18_code 41 = .ok (.ireturn, 1) := by decide +kernel
theorem dG_offer_0 : decode prog_1_method_2_code 0 = .ok (.iload_n 1, 1) := by decide +kernel
theorem dG_offer_1 : decode prog_1_method_2_code 1 = .ok (.invokestatic 83, 3) := by decide +kernel
theorem dG_offer_4 : decode prog_1_method_2_code 4 = .ok (.ifCond .ne 11, 3) := by decide +kernel
theorem dG_offer_7 : decode prog_1_method_2_code 7 = .ok (.new 87, 3) := by decide +kernel
theorem dG_offer_10 : decode prog_1_method_2_code 10 = .ok (.dup, 1) := by decide +kernel
theorem dG_offer_11 : decode prog_1_method_2_code 11 = .ok (.invokespecial 89, 3) := by decide +kernel
theorem dG_offer_14 : decode prog_1_method_2_code 14 = .ok (.athrow, 1) := by decide +kernel
theorem dG_offer_15 : decode prog_1_method_2_code 15 = .ok (.aload_n 0, 1) := by decide +kernel
theorem dG_offer_16 : decode prog_1_method_2_code 16 = .ok (.getfield 90, 3) := by decide +kernel
theorem dG_offer_19 : decode prog_1_method_2_code 19 = .ok (.bipush 60, 2) := by decide +kernel
theorem dG_offer_21 : decode prog_1_method_2_code 21 = .ok (.if_icmp .lt 11, 3) := by decide +kernel
theorem dG_offer_24 : decode prog_1_method_2_code 24 = .ok (.new 93, 3) := by decide +kernel
theorem dG_offer_27 : decode prog_1_method_2_code 27 = .ok (.dup, 1) := by decide +kernel
theorem dG_offer_28 : decode prog_1_method_2_code 28 = .ok (.invokespecial 95, 3) := by decide +kernel
theorem dG_offer_31 : decode prog_1_method_2_code 31 = .ok (.athrow, 1) := by decide +kernel
theorem dG_offer_32 : decode prog_1_method_2_code 32 = .ok (.aload_n 0, 1) := by decide +kernel
theorem dG_offer_33 : decode prog_1_method_2_code 33 = .ok (.getfield 12, 3) := by decide +kernel
theorem dG_offer_36 : decode prog_1_method_2_code 36 = .ok (.invokevirtual 64, 3) := by decide +kernel
theorem dG_offer_39 : decode prog_1_method_2_code 39 = .ok (.istore_n 2, 1) := by decide +kernel
theorem dG_offer_40 : decode prog_1_method_2_code 40 = .ok (.aload_n 0, 1) := by decide +kernel
theorem dG_offer_41 : decode prog_1_method_2_code 41 = .ok (.getfield 30, 3) := by decide +kernel
theorem dG_offer_44 : decode prog_1_method_2_code 44 = .ok (.aload_n 0, 1) := by decide +kernel
theorem dG_offer_45 : decode prog_1_method_2_code 45 = .ok (.getfield 90, 3) := by decide +kernel
theorem dG_offer_48 : decode prog_1_method_2_code 48 = .ok (.new 28, 3) := by decide +kernel
theorem dG_offer_51 : decode prog_1_method_2_code 51 = .ok (.dup, 1) := by decide +kernel
theorem dG_offer_52 : decode prog_1_method_2_code 52 = .ok (.iload_n 1, 1) := by decide +kernel
theorem dG_offer_53 : decode prog_1_method_2_code 53 = .ok (.iload_n 2, 1) := by decide +kernel
theorem dG_offer_54 : decode prog_1_method_2_code 54 = .ok (.aload_n 0, 1) := by decide +kernel
theorem dG_offer_55 : decode prog_1_method_2_code 55 = .ok (.getfield 12, 3) := by decide +kernel
theorem dG_offer_58 : decode prog_1_method_2_code 58 = .ok (.invokevirtual 64, 3) := by decide +kernel
theorem dG_offer_61 : decode prog_1_method_2_code 61 = .ok (.invokespecial 96, 3) := by decide +kernel
theorem dG_offer_64 : decode prog_1_method_2_code 64 = .ok (.aastore, 1) := by decide +kernel
theorem dG_offer_65 : decode prog_1_method_2_code 65 = .ok (.aload_n 0, 1) := by decide +kernel
theorem dG_offer_66 : decode prog_1_method_2_code 66 = .ok (.dup, 1) := by decide +kernel
theorem dG_offer_67 : decode prog_1_method_2_code 67 = .ok (.getfield 90, 3) := by decide +kernel
theorem dG_offer_70 : decode prog_1_method_2_code 70 = .ok (.iconst 1, 1) := by decide +kernel
theorem dG_offer_71 : decode prog_1_method_2_code 71 = .ok (.iadd, 1) := by decide +kernel
theorem dG_offer_72 : decode prog_1_method_2_code 72 = .ok (.putfield 90, 3) := by decide +kernel
theorem dG_offer_75 : decode prog_1_method_2_code 75 = .ok (.aload_n 0, 1) := by decide +kernel
theorem dG_offer_76 : decode prog_1_method_2_code 76 = .ok (.getfield 90, 3) := by decide +kernel
theorem dG_offer_79 : decode prog_1_method_2_code 79 = .ok (.iconst 1, 1) := by decide +kernel
theorem dG_offer_80 : decode prog_1_method_2_code 80 = .ok (.isub, 1) := by decide +kernel
theorem dG_offer_81 : decode prog_1_method_2_code 81 = .ok (.ireturn, 1) := by decide +kernel
theorem dG_add_0 : decode prog_1_method_3_code 0 = .ok (.iload_n 1, 1) := by decide +kernel
theorem dG_add_1 : decode prog_1_method_3_code 1 = .ok (.invokestatic 83, 3) := by decide +kernel
theorem dG_add_4 : decode prog_1_method_3_code 4 = .ok (.ifCond .eq 15, 3) := by decide +kernel
theorem dG_add_7 : decode prog_1_method_3_code 7 = .ok (.iload_n 2, 1) := by decide +kernel
theorem dG_add_8 : decode prog_1_method_3_code 8 = .ok (.ifCond .lt 11, 3) := by decide +kernel
theorem dG_add_11 : decode prog_1_method_3_code 11 = .ok (.iload_n 2, 1) := by decide +kernel
theorem dG_add_12 : decode prog_1_method_3_code 12 = .ok (.aload_n 0, 1) := by decide +kernel
theorem dG_add_13 : decode prog_1_method_3_code 13 = .ok (.getfield 90, 3) := by decide +kernel
theorem dG_add_16 : decode prog_1_method_3_code 16 = .ok (.if_icmp .lt 11, 3) := by decide +kernel
theorem dG_add_19 : decode prog_1_method_3_code 19 = .ok (.new 87, 3) := by decide +kernel
theorem dG_add_22 : decode prog_1_method_3_code 22 = .ok (.dup, 1) := by decide +kernel
theorem dG_add_23 : decode prog_1_method_3_code 23 = .ok (.invokespecial 89, 3) := by decide +kernel
theorem dG_add_26 : decode prog_1_method_3_code 26 = .ok (.athrow, 1) := by decide +kernel
theorem dG_add_27 : decode prog_1_method_3_code 27 = .ok (.aload_n 0, 1) := by decide +kernel
theorem dG_add_28 : decode prog_1_method_3_code 28 = .ok (.iload_n 1, 1) := by decide +kernel
theorem dG_add_29 : decode prog_1_method_3_code 29 = .ok (.invokevirtual 98, 3) := by decide +kernel
theorem dG_add_32 : decode prog_1_method_3_code 32 = .ok (.ifCond .ne 11, 3) := by decide +kernel
theorem dG_add_35 : decode prog_1_method_3_code 35 = .ok (.new 93, 3) := by decide +kernel
theorem dG_add_38 : decode prog_1_method_3_code 38 = .ok (.dup, 1) := by decide +kernel
theorem dG_add_39 : decode prog_1_method_3_code 39 = .ok (.invokespecial 95, 3) := by decide +kernel
theorem dG_add_42 : decode prog_1_method_3_code 42 = .ok (.athrow, 1) := by decide +kernel
theorem dG_add_43 : decode prog_1_method_3_code 43 = .ok (.aload_n 0, 1) := by decide +kernel
theorem dG_add_44 : decode prog_1_method_3_code 44 = .ok (.new 34, 3) := by decide +kernel
theorem dG_add_47 : decode prog_1_method_3_code 47 = .ok (.dup, 1) := by decide +kernel
theorem dG_add_48 : decode prog_1_method_3_code 48 = .ok (.iconst 0, 1) := by decide +kernel
theorem dG_add_49 : decode prog_1_method_3_code 49 = .ok (.iload_n 2, 1) := by decide +kernel
theorem dG_add_50 : decode prog_1_method_3_code 50 = .ok (.iconst (-1), 1) := by decide +kernel
theorem dG_add_51 : decode prog_1_method_3_code 51 = .ok (.invokespecial 101, 3) := by decide +kernel
theorem dG_add_54 : decode prog_1_method_3_code 54 = .ok (.invokevirtual 102, 3) := by decide +kernel
theorem dG_add_57 : decode prog_1_method_3_code 57 = .ok (.ireturn, 1) := by decide +kernel
theorem dG_mayPropose_0 : decode prog_1_method_22_code 0 = .ok (.aload_n 0, 1) := by decide +kernel
theorem dG_mayPropose_1 : decode prog_1_method_22_code 1 = .ok (.iload_n 1, 1) := by decide +kernel
theorem dG_mayPropose_2 : decode prog_1_method_22_code 2 = .ok (.invokevirtual 113, 3) := by decide +kernel
theorem dG_mayPropose_5 : decode prog_1_method_22_code 5 = .ok (.ifCond .eq 16, 3) := by decide +kernel
theorem dG_mayPropose_8 : decode prog_1_method_22_code 8 = .ok (.aload_n 0, 1) := by decide +kernel
theorem dG_mayPropose_9 : decode prog_1_method_22_code 9 = .ok (.getfield 152, 3) := by decide +kernel
theorem dG_mayPropose_12 : decode prog_1_method_22_code 12 = .ok (.bipush 20, 2) := by decide +kernel
theorem dG_mayPropose_14 : decode prog_1_method_22_code 14 = .ok (.if_icmp .ge 7, 3) := by decide +kernel
theorem dG_mayPropose_17 : decode prog_1_method_22_code 17 = .ok (.iconst 1, 1) := by decide +kernel
theorem dG_mayPropose_18 : decode prog_1_method_22_code 18 = .ok (.goto 4, 3) := by decide +kernel
theorem dG_mayPropose_21 : decode prog_1_method_22_code 21 = .ok (.iconst 0, 1) := by decide +kernel
theorem dG_mayPropose_22 : decode prog_1_method_22_code 22 = .ok (.ireturn, 1) := by decide +kernel
theorem dG_isInLatest_0 : decode prog_1_method_21_code 0 = .ok (.aload_n 0, 1) := by decide +kernel
theorem dG_isInLatest_1 : decode prog_1_method_21_code 1 = .ok (.getfield 18, 3) := by decide +kernel
theorem dG_isInLatest_4 : decode prog_1_method_21_code 4 = .ok (.iload_n 1, 1) := by decide +kernel
theorem dG_isInLatest_5 : decode prog_1_method_21_code 5 = .ok (.aaload, 1) := by decide +kernel
theorem dG_isInLatest_6 : decode prog_1_method_21_code 6 = .ok (.getfield 161, 3) := by decide +kernel
theorem dG_isInLatest_9 : decode prog_1_method_21_code 9 = .ok (.aload_n 0, 1) := by decide +kernel
theorem dG_isInLatest_10 : decode prog_1_method_21_code 10 = .ok (.getfield 76, 3) := by decide +kernel
theorem dG_isInLatest_13 : decode prog_1_method_21_code 13 = .ok (.iconst 1, 1) := by decide +kernel
theorem dG_isInLatest_14 : decode prog_1_method_21_code 14 = .ok (.isub, 1) := by decide +kernel
theorem dG_isInLatest_15 : decode prog_1_method_21_code 15 = .ok (.if_icmp .ne 7, 3) := by decide +kernel
theorem dG_isInLatest_18 : decode prog_1_method_21_code 18 = .ok (.iconst 1, 1) := by decide +kernel
theorem dG_isInLatest_19 : decode prog_1_method_21_code 19 = .ok (.goto 4, 3) := by decide +kernel
theorem dG_isInLatest_22 : decode prog_1_method_21_code 22 = .ok (.iconst 0, 1) := by decide +kernel
theorem dG_isInLatest_23 : decode prog_1_method_21_code 23 = .ok (.ireturn, 1) := by decide +kernel
theorem dG_propose_0 : decode prog_1_method_23_code 0 = .ok (.aload_n 0, 1) := by decide +kernel
theorem dG_propose_1 : decode prog_1_method_23_code 1 = .ok (.getfield 36, 3) := by decide +kernel
theorem dG_propose_4 : decode prog_1_method_23_code 4 = .ok (.aload_n 0, 1) := by decide +kernel
theorem dG_propose_5 : decode prog_1_method_23_code 5 = .ok (.getfield 152, 3) := by decide +kernel
theorem dG_propose_8 : decode prog_1_method_23_code 8 = .ok (.aload_n 1, 1) := by decide +kernel
theorem dG_propose_9 : decode prog_1_method_23_code 9 = .ok (.aastore, 1) := by decide +kernel
theorem dG_propose_10 : decode prog_1_method_23_code 10 = .ok (.aload_n 0, 1) := by decide +kernel
theorem dG_propose_11 : decode prog_1_method_23_code 11 = .ok (.dup, 1) := by decide +kernel
theorem dG_propose_12 : decode prog_1_method_23_code 12 = .ok (.getfield 152, 3) := by decide +kernel
theorem dG_propose_15 : decode prog_1_method_23_code 15 = .ok (.iconst 1, 1) := by decide +kernel
theorem dG_propose_16 : decode prog_1_method_23_code 16 = .ok (.iadd, 1) := by decide +kernel
theorem dG_propose_17 : decode prog_1_method_23_code 17 = .ok (.putfield 152, 3) := by decide +kernel
theorem dG_propose_20 : decode prog_1_method_23_code 20 = .ok (.aload_n 0, 1) := by decide +kernel
theorem dG_propose_21 : decode prog_1_method_23_code 21 = .ok (.getfield 152, 3) := by decide +kernel
theorem dG_propose_24 : decode prog_1_method_23_code 24 = .ok (.ireturn, 1) := by decide +kernel
theorem dG_remove_0 : decode prog_1_method_4_code 0 = .ok (.iload_n 1, 1) := by decide +kernel
theorem dG_remove_1 : decode prog_1_method_4_code 1 = .ok (.invokestatic 83, 3) := by decide +kernel
theorem dG_remove_4 : decode prog_1_method_4_code 4 = .ok (.ifCond .eq 13, 3) := by decide +kernel
theorem dG_remove_7 : decode prog_1_method_4_code 7 = .ok (.iload_n 2, 1) := by decide +kernel
theorem dG_remove_8 : decode prog_1_method_4_code 8 = .ok (.ifCond .lt 9, 3) := by decide +kernel
theorem dG_remove_11 : decode prog_1_method_4_code 11 = .ok (.iload_n 2, 1) := by decide +kernel
theorem dG_remove_12 : decode prog_1_method_4_code 12 = .ok (.bipush 16, 2) := by decide +kernel
theorem dG_remove_14 : decode prog_1_method_4_code 14 = .ok (.if_icmp .lt 11, 3) := by decide +kernel
theorem dG_remove_17 : decode prog_1_method_4_code 17 = .ok (.new 87, 3) := by decide +kernel
theorem dG_remove_20 : decode prog_1_method_4_code 20 = .ok (.dup, 1) := by decide +kernel
theorem dG_remove_21 : decode prog_1_method_4_code 21 = .ok (.invokespecial 89, 3) := by decide +kernel
theorem dG_remove_24 : decode prog_1_method_4_code 24 = .ok (.athrow, 1) := by decide +kernel
theorem dG_remove_25 : decode prog_1_method_4_code 25 = .ok (.aload_n 0, 1) := by decide +kernel
theorem dG_remove_26 : decode prog_1_method_4_code 26 = .ok (.iload_n 1, 1) := by decide +kernel
theorem dG_remove_27 : decode prog_1_method_4_code 27 = .ok (.invokevirtual 98, 3) := by decide +kernel
theorem dG_remove_30 : decode prog_1_method_4_code 30 = .ok (.ifCond .ne 11, 3) := by decide +kernel
theorem dG_remove_33 : decode prog_1_method_4_code 33 = .ok (.new 93, 3) := by decide +kernel
theorem dG_remove_36 : decode prog_1_method_4_code 36 = .ok (.dup, 1) := by decide +kernel
theorem dG_remove_37 : decode prog_1_method_4_code 37 = .ok (.invokespecial 95, 3) := by decide +kernel
theorem dG_remove_40 : decode prog_1_method_4_code 40 = .ok (.athrow, 1) := by decide +kernel
theorem dG_remove_41 : decode prog_1_method_4_code 41 = .ok (.aload_n 0, 1) := by decide +kernel
theorem dG_remove_42 : decode prog_1_method_4_code 42 = .ok (.new 34, 3) := by decide +kernel
theorem dG_remove_45 : decode prog_1_method_4_code 45 = .ok (.dup, 1) := by decide +kernel
theorem dG_remove_46 : decode prog_1_method_4_code 46 = .ok (.iconst 1, 1) := by decide +kernel
theorem dG_remove_47 : decode prog_1_method_4_code 47 = .ok (.iload_n 2, 1) := by decide +kernel
theorem dG_remove_48 : decode prog_1_method_4_code 48 = .ok (.iconst (-1), 1) := by decide +kernel
theorem dG_remove_49 : decode prog_1_method_4_code 49 = .ok (.invokespecial 101, 3) := by decide +kernel
theorem dG_remove_52 : decode prog_1_method_4_code 52 = .ok (.invokevirtual 102, 3) := by decide +kernel
theorem dG_remove_55 : decode prog_1_method_4_code 55 = .ok (.ireturn, 1) := by decide +kernel
theorem dG_update_0 : decode prog_1_method_5_code 0 = .ok (.iload_n 1, 1) := by decide +kernel
theorem dG_update_1 : decode prog_1_method_5_code 1 = .ok (.invokestatic 83, 3) := by decide +kernel
theorem dG_update_4 : decode prog_1_method_5_code 4 = .ok (.ifCond .ne 11, 3) := by decide +kernel
theorem dG_update_7 : decode prog_1_method_5_code 7 = .ok (.new 87, 3) := by decide +kernel
theorem dG_update_10 : decode prog_1_method_5_code 10 = .ok (.dup, 1) := by decide +kernel
theorem dG_update_11 : decode prog_1_method_5_code 11 = .ok (.invokespecial 89, 3) := by decide +kernel
theorem dG_update_14 : decode prog_1_method_5_code 14 = .ok (.athrow, 1) := by decide +kernel
theorem dG_update_15 : decode prog_1_method_5_code 15 = .ok (.aload_n 0, 1) := by decide +kernel
theorem dG_update_16 : decode prog_1_method_5_code 16 = .ok (.iload_n 1, 1) := by decide +kernel
theorem dG_update_17 : decode prog_1_method_5_code 17 = .ok (.invokevirtual 98, 3) := by decide +kernel
theorem dG_update_20 : decode prog_1_method_5_code 20 = .ok (.ifCond .ne 11, 3) := by decide +kernel
theorem dG_update_23 : decode prog_1_method_5_code 23 = .ok (.new 93, 3) := by decide +kernel
theorem dG_update_26 : decode prog_1_method_5_code 26 = .ok (.dup, 1) := by decide +kernel
theorem dG_update_27 : decode prog_1_method_5_code 27 = .ok (.invokespecial 95, 3) := by decide +kernel
theorem dG_update_30 : decode prog_1_method_5_code 30 = .ok (.athrow, 1) := by decide +kernel
theorem dG_update_31 : decode prog_1_method_5_code 31 = .ok (.aload_n 0, 1) := by decide +kernel
theorem dG_update_32 : decode prog_1_method_5_code 32 = .ok (.getfield 18, 3) := by decide +kernel
theorem dG_update_35 : decode prog_1_method_5_code 35 = .ok (.iload_n 1, 1) := by decide +kernel
theorem dG_update_36 : decode prog_1_method_5_code 36 = .ok (.aaload, 1) := by decide +kernel
theorem dG_update_37 : decode prog_1_method_5_code 37 = .ok (.astore_n 2, 1) := by decide +kernel
theorem dG_update_38 : decode prog_1_method_5_code 38 = .ok (.aload_n 0, 1) := by decide +kernel
theorem dG_update_39 : decode prog_1_method_5_code 39 = .ok (.getfield 12, 3) := by decide +kernel
theorem dG_update_42 : decode prog_1_method_5_code 42 = .ok (.invokevirtual 64, 3) := by decide +kernel
theorem dG_update_45 : decode prog_1_method_5_code 45 = .ok (.istore_n 3, 1) := by decide +kernel
theorem dG_update_46 : decode prog_1_method_5_code 46 = .ok (.aload_n 2, 1) := by decide +kernel
theorem dG_update_47 : decode prog_1_method_5_code 47 = .ok (.iload_n 3, 1) := by decide +kernel
theorem dG_update_48 : decode prog_1_method_5_code 48 = .ok (.invokevirtual 106, 3) := by decide +kernel
theorem dG_update_51 : decode prog_1_method_5_code 51 = .ok (.aload_n 0, 1) := by decide +kernel
theorem dG_update_52 : decode prog_1_method_5_code 52 = .ok (.new 34, 3) := by decide +kernel
theorem dG_update_55 : decode prog_1_method_5_code 55 = .ok (.dup, 1) := by decide +kernel
theorem dG_update_56 : decode prog_1_method_5_code 56 = .ok (.iconst 2, 1) := by decide +kernel
theorem dG_update_57 : decode prog_1_method_5_code 57 = .ok (.aload_n 2, 1) := by decide +kernel
theorem dG_update_58 : decode prog_1_method_5_code 58 = .ok (.getfield 110, 3) := by decide +kernel
theorem dG_update_61 : decode prog_1_method_5_code 61 = .ok (.iload_n 3, 1) := by decide +kernel
theorem dG_update_62 : decode prog_1_method_5_code 62 = .ok (.invokespecial 101, 3) := by decide +kernel
theorem dG_update_65 : decode prog_1_method_5_code 65 = .ok (.invokevirtual 102, 3) := by decide +kernel
theorem dG_update_68 : decode prog_1_method_5_code 68 = .ok (.ireturn, 1) := by decide +kernel
theorem dG_commit_0 : decode prog_1_method_6_code 0 = .ok (.iload_n 1, 1) := by decide +kernel
theorem dG_commit_1 : decode prog_1_method_6_code 1 = .ok (.invokestatic 83, 3) := by decide +kernel
theorem dG_commit_4 : decode prog_1_method_6_code 4 = .ok (.ifCond .ne 11, 3) := by decide +kernel
theorem dG_commit_7 : decode prog_1_method_6_code 7 = .ok (.new 87, 3) := by decide +kernel
theorem dG_commit_10 : decode prog_1_method_6_code 10 = .ok (.dup, 1) := by decide +kernel
theorem dG_commit_11 : decode prog_1_method_6_code 11 = .ok (.invokespecial 89, 3) := by decide +kernel
theorem dG_commit_14 : decode prog_1_method_6_code 14 = .ok (.athrow, 1) := by decide +kernel
theorem dG_commit_15 : decode prog_1_method_6_code 15 = .ok (.aload_n 0, 1) := by decide +kernel
theorem dG_commit_16 : decode prog_1_method_6_code 16 = .ok (.iload_n 1, 1) := by decide +kernel
theorem dG_commit_17 : decode prog_1_method_6_code 17 = .ok (.invokevirtual 113, 3) := by decide +kernel
theorem dG_commit_20 : decode prog_1_method_6_code 20 = .ok (.ifCond .eq 12, 3) := by decide +kernel
theorem dG_commit_23 : decode prog_1_method_6_code 23 = .ok (.aload_n 0, 1) := by decide +kernel
theorem dG_commit_24 : decode prog_1_method_6_code 24 = .ok (.getfield 76, 3) := by decide +kernel
theorem dG_commit_27 : decode prog_1_method_6_code 27 = .ok (.bipush 60, 2) := by decide +kernel
theorem dG_commit_29 : decode prog_1_method_6_code 29 = .ok (.if_icmp .lt 11, 3) := by decide +kernel
theorem dG_commit_32 : decode prog_1_method_6_code 32 = .ok (.new 93, 3) := by decide +kernel
theorem dG_commit_35 : decode prog_1_method_6_code 35 = .ok (.dup, 1) := by decide +kernel
theorem dG_commit_36 : decode prog_1_method_6_code 36 = .ok (.invokespecial 95, 3) := by decide +kernel
theorem dG_commit_39 : decode prog_1_method_6_code 39 = .ok (.athrow, 1) := by decide +kernel
theorem dG_commit_40 : decode prog_1_method_6_code 40 = .ok (.aload_n 0, 1) := by decide +kernel
theorem dG_commit_41 : decode prog_1_method_6_code 41 = .ok (.getfield 18, 3) := by decide +kernel
theorem dG_commit_44 : decode prog_1_method_6_code 44 = .ok (.iload_n 1, 1) := by decide +kernel
theorem dG_commit_45 : decode prog_1_method_6_code 45 = .ok (.aaload, 1) := by decide +kernel
theorem dG_commit_46 : decode prog_1_method_6_code 46 = .ok (.astore_n 3, 1) := by decide +kernel
theorem dG_commit_47 : decode prog_1_method_6_code 47 = .ok (.aload_n 0, 1) := by decide +kernel
theorem dG_commit_48 : decode prog_1_method_6_code 48 = .ok (.getfield 24, 3) := by decide +kernel
theorem dG_commit_51 : decode prog_1_method_6_code 51 = .ok (.aload_n 0, 1) := by decide +kernel
theorem dG_commit_52 : decode prog_1_method_6_code 52 = .ok (.getfield 76, 3) := by decide +kernel
theorem dG_commit_55 : decode prog_1_method_6_code 55 = .ok (.iconst 1, 1) := by decide +kernel
theorem dG_commit_56 : decode prog_1_method_6_code 56 = .ok (.isub, 1) := by decide +kernel
theorem dG_commit_57 : decode prog_1_method_6_code 57 = .ok (.aaload, 1) := by decide +kernel
theorem dG_commit_58 : decode prog_1_method_6_code 58 = .ok (.astore 4, 2) := by decide +kernel
theorem dG_commit_60 : decode prog_1_method_6_code 60 = .ok (.new 22, 3) := by decide +kernel
theorem dG_commit_63 : decode prog_1_method_6_code 63 = .ok (.dup, 1) := by decide +kernel
theorem dG_commit_64 : decode prog_1_method_6_code 64 = .ok (.aload_n 0, 1) := by decide +kernel
theorem dG_commit_65 : decode prog_1_method_6_code 65 = .ok (.getfield 76, 3) := by decide +kernel
theorem dG_commit_68 : decode prog_1_method_6_code 68 = .ok (.new 54, 3) := by decide +kernel
theorem dG_commit_71 : decode prog_1_method_6_code 71 = .ok (.dup, 1) := by decide +kernel
theorem dG_commit_72 : decode prog_1_method_6_code 72 = .ok (.aload 4, 2) := by decide +kernel
theorem dG_commit_74 : decode prog_1_method_6_code 74 = .ok (.getfield 60, 3) := by decide +kernel
theorem dG_commit_77 : decode prog_1_method_6_code 77 = .ok (.invokespecial 116, 3) := by decide +kernel
theorem dG_commit_80 : decode prog_1_method_6_code 80 = .ok (.aload_n 3, 1) := by decide +kernel
theorem dG_commit_81 : decode prog_1_method_6_code 81 = .ok (.getfield 110, 3) := by decide +kernel
theorem dG_commit_84 : decode prog_1_method_6_code 84 = .ok (.invokespecial 57, 3) := by decide +kernel
theorem dG_commit_87 : decode prog_1_method_6_code 87 = .ok (.astore 5, 2) := by decide +kernel
theorem dG_commit_89 : decode prog_1_method_6_code 89 = .ok (.aload_n 0, 1) := by decide +kernel
theorem dG_commit_90 : decode prog_1_method_6_code 90 = .ok (.getfield 12, 3) := by decide +kernel
theorem dG_commit_93 : decode prog_1_method_6_code 93 = .ok (.invokevirtual 119, 3) := by decide +kernel
theorem dG_commit_96 : decode prog_1_method_6_code 96 = .ok (.istore 6, 2) := by decide +kernel
theorem dG_commit_98 : decode prog_1_method_6_code 98 = .ok (.aload_n 0, 1) := by decide +kernel
theorem dG_commit_99 : decode prog_1_method_6_code 99 = .ok (.aload 5, 2) := by decide +kernel
theorem dG_commit_101 : decode prog_1_method_6_code 101 = .ok (.invokevirtual 122, 3) := by decide +kernel
theorem dG_commit_104 : decode prog_1_method_6_code 104 = .ok (.aload_n 0, 1) := by decide +kernel
theorem dG_commit_105 : decode prog_1_method_6_code 105 = .ok (.aload 5, 2) := by decide +kernel
theorem dG_commit_107 : decode prog_1_method_6_code 107 = .ok (.invokevirtual 126, 3) := by decide +kernel
theorem dG_commit_110 : decode prog_1_method_6_code 110 = .ok (.aload_n 0, 1) := by decide +kernel
theorem dG_commit_111 : decode prog_1_method_6_code 111 = .ok (.aload 5, 2) := by decide +kernel
theorem dG_commit_113 : decode prog_1_method_6_code 113 = .ok (.invokevirtual 129, 3) := by decide +kernel
theorem dG_commit_116 : decode prog_1_method_6_code 116 = .ok (.iload_n 2, 1) := by decide +kernel
theorem dG_commit_117 : decode prog_1_method_6_code 117 = .ok (.ifCond .ne 27, 3) := by decide +kernel
theorem dG_commit_120 : decode prog_1_method_6_code 120 = .ok (.aload 5, 2) := by decide +kernel
theorem dG_commit_122 : decode prog_1_method_6_code 122 = .ok (.getfield 132, 3) := by decide +kernel
theorem dG_commit_125 : decode prog_1_method_6_code 125 = .ok (.ifCond .ne 19, 3) := by decide +kernel
theorem dG_commit_128 : decode prog_1_method_6_code 128 = .ok (.aload 5, 2) := by decide +kernel
theorem dG_commit_130 : decode prog_1_method_6_code 130 = .ok (.getfield 135, 3) := by decide +kernel
theorem dG_commit_133 : decode prog_1_method_6_code 133 = .ok (.ifCond .ne 11, 3) := by decide +kernel
theorem dG_commit_136 : decode prog_1_method_6_code 136 = .ok (.aload 5, 2) := by decide +kernel
theorem dG_commit_138 : decode prog_1_method_6_code 138 = .ok (.getfield 138, 3) := by decide +kernel
theorem dG_commit_141 : decode prog_1_method_6_code 141 = .ok (.ifCond .ne 7, 3) := by decide +kernel
theorem dG_commit_144 : decode prog_1_method_6_code 144 = .ok (.iconst 1, 1) := by decide +kernel
theorem dG_commit_145 : decode prog_1_method_6_code 145 = .ok (.goto 4, 3) := by decide +kernel
theorem dG_commit_148 : decode prog_1_method_6_code 148 = .ok (.iconst 0, 1) := by decide +kernel
