theorem dR_nextPackage_63 : decode prog_9_method_45_code 63 = .ok (.iinc 3 1, 3) := by decide +kernel
theorem dR_nextPackage_66 : decode prog_9_method_45_code 66 = .ok (.goto (-62), 3) := by decide +kernel
theorem dR_nextPackage_69 : decode prog_9_method_45_code 69 = .ok (.iload_n 2, 1) := by decide +kernel
theorem dR_nextPackage_70 : decode prog_9_method_45_code 70 = .ok (.ireturn, 1) := by decide +kernel
theorem dR_join_0 : decode prog_9_method_46_code 0 = .ok (.aload_n 0, 1) := by decide +kernel
theorem dR_join_1 : decode prog_9_method_46_code 1 = .ok (.getfield 113, 3) := by decide +kernel
theorem dR_join_4 : decode prog_9_method_46_code 4 = .ok (.iload_n 2, 1) := by decide +kernel
theorem dR_join_5 : decode prog_9_method_46_code 5 = .ok (.iaload, 1) := by decide +kernel
theorem dR_join_6 : decode prog_9_method_46_code 6 = .ok (.istore_n 3, 1) := by decide +kernel
theorem dR_join_7 : decode prog_9_method_46_code 7 = .ok (.aload_n 0, 1) := by decide +kernel
theorem dR_join_8 : decode prog_9_method_46_code 8 = .ok (.iload_n 1, 1) := by decide +kernel
theorem dR_join_9 : decode prog_9_method_46_code 9 = .ok (.invokevirtual 147, 3) := by decide +kernel
theorem dR_join_12 : decode prog_9_method_46_code 12 = .ok (.aload_n 0, 1) := by decide +kernel
theorem dR_join_13 : decode prog_9_method_46_code 13 = .ok (.getfield 119, 3) := by decide +kernel
theorem dR_join_16 : decode prog_9_method_46_code 16 = .ok (.iload_n 2, 1) := by decide +kernel
theorem dR_join_17 : decode prog_9_method_46_code 17 = .ok (.iconst 1, 1) := by decide +kernel
theorem dR_join_18 : decode prog_9_method_46_code 18 = .ok (.bastore, 1) := by decide +kernel
theorem dR_join_19 : decode prog_9_method_46_code 19 = .ok (.aload_n 0, 1) := by decide +kernel
theorem dR_join_20 : decode prog_9_method_46_code 20 = .ok (.getfield 80, 3) := by decide +kernel
theorem dR_join_23 : decode prog_9_method_46_code 23 = .ok (.iload_n 1, 1) := by decide +kernel
theorem dR_join_24 : decode prog_9_method_46_code 24 = .ok (.iload_n 3, 1) := by decide +kernel
theorem dR_join_25 : decode prog_9_method_46_code 25 = .ok (.iastore, 1) := by decide +kernel
theorem dR_join_26 : decode prog_9_method_46_code 26 = .ok (.aload_n 0, 1) := by decide +kernel
theorem dR_join_27 : decode prog_9_method_46_code 27 = .ok (.getfield 83, 3) := by decide +kernel
theorem dR_join_30 : decode prog_9_method_46_code 30 = .ok (.iload_n 1, 1) := by decide +kernel
theorem dR_join_31 : decode prog_9_method_46_code 31 = .ok (.aload_n 0, 1) := by decide +kernel
theorem dR_join_32 : decode prog_9_method_46_code 32 = .ok (.getfield 116, 3) := by decide +kernel
theorem dR_join_35 : decode prog_9_method_46_code 35 = .ok (.iload_n 2, 1) := by decide +kernel
theorem dR_join_36 : decode prog_9_method_46_code 36 = .ok (.iaload, 1) := by decide +kernel
theorem dR_join_37 : decode prog_9_method_46_code 37 = .ok (.iastore, 1) := by decide +kernel
theorem dR_join_38 : decode prog_9_method_46_code 38 = .ok (.aload_n 0, 1) := by decide +kernel
theorem dR_join_39 : decode prog_9_method_46_code 39 = .ok (.getfield 86, 3) := by decide +kernel
theorem dR_join_42 : decode prog_9_method_46_code 42 = .ok (.iload_n 1, 1) := by decide +kernel
theorem dR_join_43 : decode prog_9_method_46_code 43 = .ok (.aload_n 0, 1) := by decide +kernel
theorem dR_join_44 : decode prog_9_method_46_code 44 = .ok (.getfield 110, 3) := by decide +kernel
theorem dR_join_47 : decode prog_9_method_46_code 47 = .ok (.iload_n 2, 1) := by decide +kernel
theorem dR_join_48 : decode prog_9_method_46_code 48 = .ok (.iaload, 1) := by decide +kernel
theorem dR_join_49 : decode prog_9_method_46_code 49 = .ok (.iastore, 1) := by decide +kernel
theorem dR_join_50 : decode prog_9_method_46_code 50 = .ok (.aload_n 0, 1) := by decide +kernel
theorem dR_join_51 : decode prog_9_method_46_code 51 = .ok (.getfield 95, 3) := by decide +kernel
theorem dR_join_54 : decode prog_9_method_46_code 54 = .ok (.iload_n 1, 1) := by decide +kernel
theorem dR_join_55 : decode prog_9_method_46_code 55 = .ok (.iconst 1, 1) := by decide +kernel
theorem dR_join_56 : decode prog_9_method_46_code 56 = .ok (.bastore, 1) := by decide +kernel
theorem dR_join_57 : decode prog_9_method_46_code 57 = .ok (.aload_n 0, 1) := by decide +kernel
theorem dR_join_58 : decode prog_9_method_46_code 58 = .ok (.iload_n 3, 1) := by decide +kernel
theorem dR_join_59 : decode prog_9_method_46_code 59 = .ok (.aload_n 0, 1) := by decide +kernel
theorem dR_join_60 : decode prog_9_method_46_code 60 = .ok (.getfield 83, 3) := by decide +kernel
theorem dR_join_63 : decode prog_9_method_46_code 63 = .ok (.iload_n 1, 1) := by decide +kernel
theorem dR_join_64 : decode prog_9_method_46_code 64 = .ok (.iaload, 1) := by decide +kernel
theorem dR_join_65 : decode prog_9_method_46_code 65 = .ok (.invokevirtual 227, 3) := by decide +kernel
theorem dR_join_68 : decode prog_9_method_46_code 68 = .ok (.istore 4, 2) := by decide +kernel
theorem dR_join_70 : decode prog_9_method_46_code 70 = .ok (.aload_n 0, 1) := by decide +kernel
theorem dR_join_71 : decode prog_9_method_46_code 71 = .ok (.getfield 62, 3) := by decide +kernel
theorem dR_join_74 : decode prog_9_method_46_code 74 = .ok (.iload_n 3, 1) := by decide +kernel
theorem dR_join_75 : decode prog_9_method_46_code 75 = .ok (.baload, 1) := by decide +kernel
theorem dR_join_76 : decode prog_9_method_46_code 76 = .ok (.ifCond .eq 17, 3) := by decide +kernel
theorem dR_join_79 : decode prog_9_method_46_code 79 = .ok (.iload 4, 2) := by decide +kernel
theorem dR_join_81 : decode prog_9_method_46_code 81 = .ok (.iconst (-1), 1) := by decide +kernel
theorem dR_join_82 : decode prog_9_method_46_code 82 = .ok (.if_icmp .eq 11, 3) := by decide +kernel
theorem dR_join_85 : decode prog_9_method_46_code 85 = .ok (.aload_n 0, 1) := by decide +kernel
theorem dR_join_86 : decode prog_9_method_46_code 86 = .ok (.iload_n 1, 1) := by decide +kernel
theorem dR_join_87 : decode prog_9_method_46_code 87 = .ok (.iload_n 3, 1) := by decide +kernel
theorem dR_join_88 : decode prog_9_method_46_code 88 = .ok (.iload 4, 2) := by decide +kernel
theorem dR_join_90 : decode prog_9_method_46_code 90 = .ok (.invokevirtual 233, 3) := by decide +kernel
theorem dR_join_93 : decode prog_9_method_46_code 93 = .ok (.return_, 1) := by decide +kernel
theorem dR_follow_0 : decode prog_9_method_47_code 0 = .ok (.aload_n 0, 1) := by decide +kernel
theorem dR_follow_1 : decode prog_9_method_47_code 1 = .ok (.getfield 80, 3) := by decide +kernel
theorem dR_follow_4 : decode prog_9_method_47_code 4 = .ok (.iload_n 1, 1) := by decide +kernel
theorem dR_follow_5 : decode prog_9_method_47_code 5 = .ok (.iaload, 1) := by decide +kernel
theorem dR_follow_6 : decode prog_9_method_47_code 6 = .ok (.iconst 1, 1) := by decide +kernel
theorem dR_follow_7 : decode prog_9_method_47_code 7 = .ok (.iadd, 1) := by decide +kernel
theorem dR_follow_8 : decode prog_9_method_47_code 8 = .ok (.istore_n 2, 1) := by decide +kernel
theorem dR_follow_9 : decode prog_9_method_47_code 9 = .ok (.aload_n 0, 1) := by decide +kernel
theorem dR_follow_10 : decode prog_9_method_47_code 10 = .ok (.getfield 50, 3) := by decide +kernel
theorem dR_follow_13 : decode prog_9_method_47_code 13 = .ok (.iload_n 2, 1) := by decide +kernel
theorem dR_follow_14 : decode prog_9_method_47_code 14 = .ok (.iaload, 1) := by decide +kernel
theorem dR_follow_15 : decode prog_9_method_47_code 15 = .ok (.aload_n 0, 1) := by decide +kernel
theorem dR_follow_16 : decode prog_9_method_47_code 16 = .ok (.getfield 83, 3) := by decide +kernel
theorem dR_follow_19 : decode prog_9_method_47_code 19 = .ok (.iload_n 1, 1) := by decide +kernel
theorem dR_follow_20 : decode prog_9_method_47_code 20 = .ok (.iaload, 1) := by decide +kernel
theorem dR_follow_21 : decode prog_9_method_47_code 21 = .ok (.ishr, 1) := by decide +kernel
theorem dR_follow_22 : decode prog_9_method_47_code 22 = .ok (.iconst 1, 1) := by decide +kernel
theorem dR_follow_23 : decode prog_9_method_47_code 23 = .ok (.iand, 1) := by decide +kernel
theorem dR_follow_24 : decode prog_9_method_47_code 24 = .ok (.iconst 1, 1) := by decide +kernel
theorem dR_follow_25 : decode prog_9_method_47_code 25 = .ok (.if_icmp .ne 9, 3) := by decide +kernel
theorem dR_follow_28 : decode prog_9_method_47_code 28 = .ok (.aload_n 0, 1) := by decide +kernel
theorem dR_follow_29 : decode prog_9_method_47_code 29 = .ok (.iload_n 1, 1) := by decide +kernel
theorem dR_follow_30 : decode prog_9_method_47_code 30 = .ok (.invokevirtual 147, 3) := by decide +kernel
theorem dR_follow_33 : decode prog_9_method_47_code 33 = .ok (.return_, 1) := by decide +kernel
theorem dR_follow_34 : decode prog_9_method_47_code 34 = .ok (.aload_n 0, 1) := by decide +kernel
theorem dR_follow_35 : decode prog_9_method_47_code 35 = .ok (.iload_n 1, 1) := by decide +kernel
theorem dR_follow_36 : decode prog_9_method_47_code 36 = .ok (.invokevirtual 281, 3) := by decide +kernel
theorem dR_follow_39 : decode prog_9_method_47_code 39 = .ok (.aload_n 0, 1) := by decide +kernel
theorem dR_follow_40 : decode prog_9_method_47_code 40 = .ok (.getfield 53, 3) := by decide +kernel
theorem dR_follow_43 : decode prog_9_method_47_code 43 = .ok (.iload_n 2, 1) := by decide +kernel
theorem dR_follow_44 : decode prog_9_method_47_code 44 = .ok (.iaload, 1) := by decide +kernel
theorem dR_follow_45 : decode prog_9_method_47_code 45 = .ok (.aload_n 0, 1) := by decide +kernel
theorem dR_follow_46 : decode prog_9_method_47_code 46 = .ok (.getfield 83, 3) := by decide +kernel
theorem dR_follow_49 : decode prog_9_method_47_code 49 = .ok (.iload_n 1, 1) := by decide +kernel
theorem dR_follow_50 : decode prog_9_method_47_code 50 = .ok (.iaload, 1) := by decide +kernel
theorem dR_follow_51 : decode prog_9_method_47_code 51 = .ok (.ishr, 1) := by decide +kernel
theorem dR_follow_52 : decode prog_9_method_47_code 52 = .ok (.iconst 1, 1) := by decide +kernel
theorem dR_follow_53 : decode prog_9_method_47_code 53 = .ok (.iand, 1) := by decide +kernel
theorem dR_follow_54 : decode prog_9_method_47_code 54 = .ok (.iconst 1, 1) := by decide +kernel
theorem dR_follow_55 : decode prog_9_method_47_code 55 = .ok (.if_icmp .ne 25, 3) := by decide +kernel
theorem dR_follow_58 : decode prog_9_method_47_code 58 = .ok (.aload_n 0, 1) := by decide +kernel
theorem dR_follow_59 : decode prog_9_method_47_code 59 = .ok (.aload_n 0, 1) := by decide +kernel
theorem dR_follow_60 : decode prog_9_method_47_code 60 = .ok (.getfield 65, 3) := by decide +kernel
theorem dR_follow_63 : decode prog_9_method_47_code 63 = .ok (.bipush 31, 2) := by decide +kernel
theorem dR_follow_65 : decode prog_9_method_47_code 65 = .ok (.iload_n 2, 1) := by decide +kernel
theorem dR_follow_66 : decode prog_9_method_47_code 66 = .ok (.imul, 1) := by decide +kernel
theorem dR_follow_67 : decode prog_9_method_47_code 67 = .ok (.iconst 2, 1) := by decide +kernel
theorem dR_follow_68 : decode prog_9_method_47_code 68 = .ok (.aload_n 0, 1) := by decide +kernel
theorem dR_follow_69 : decode prog_9_method_47_code 69 = .ok (.getfield 83, 3) := by decide +kernel
theorem dR_follow_72 : decode prog_9_method_47_code 72 = .ok (.iload_n 1, 1) := by decide +kernel
theorem dR_follow_73 : decode prog_9_method_47_code 73 = .ok (.iaload, 1) := by decide +kernel
theorem dR_follow_74 : decode prog_9_method_47_code 74 = .ok (.imul, 1) := by decide +kernel
theorem dR_follow_75 : decode prog_9_method_47_code 75 = .ok (.iadd, 1) := by decide +kernel
theorem dR_follow_76 : decode prog_9_method_47_code 76 = .ok (.iaload, 1) := by decide +kernel
theorem dR_follow_77 : decode prog_9_method_47_code 77 = .ok (.invokevirtual 186, 3) := by decide +kernel
theorem dR_follow_80 : decode prog_9_method_47_code 80 = .ok (.aload_n 0, 1) := by decide +kernel
theorem dR_follow_81 : decode prog_9_method_47_code 81 = .ok (.getfield 62, 3) := by decide +kernel
theorem dR_follow_84 : decode prog_9_method_47_code 84 = .ok (.iload_n 2, 1) := by decide +kernel
theorem dR_follow_85 : decode prog_9_method_47_code 85 = .ok (.baload, 1) := by decide +kernel
theorem dR_follow_86 : decode prog_9_method_47_code 86 = .ok (.ifCond .eq 17, 3) := by decide +kernel
theorem dR_follow_89 : decode prog_9_method_47_code 89 = .ok (.aload_n 0, 1) := by decide +kernel
theorem dR_follow_90 : decode prog_9_method_47_code 90 = .ok (.iload_n 2, 1) := by decide +kernel
theorem dR_follow_91 : decode prog_9_method_47_code 91 = .ok (.aload_n 0, 1) := by decide +kernel
theorem dR_follow_92 : decode prog_9_method_47_code 92 = .ok (.getfield 83, 3) := by decide +kernel
theorem dR_follow_95 : decode prog_9_method_47_code 95 = .ok (.iload_n 1, 1) := by decide +kernel
theorem dR_follow_96 : decode prog_9_method_47_code 96 = .ok (.iaload, 1) := by decide +kernel
theorem dR_follow_97 : decode prog_9_method_47_code 97 = .ok (.invokevirtual 227, 3) := by decide +kernel
theorem dR_follow_100 : decode prog_9_method_47_code 100 = .ok (.goto 4, 3) := by decide +kernel
theorem dR_follow_103 : decode prog_9_method_47_code 103 = .ok (.iconst (-1), 1) := by decide +kernel
theorem dR_follow_104 : decode prog_9_method_47_code 104 = .ok (.istore_n 3, 1) := by decide +kernel
theorem dR_follow_105 : decode prog_9_method_47_code 105 = .ok (.iconst 0, 1) := by decide +kernel
theorem dR_follow_106 : decode prog_9_method_47_code 106 = .ok (.istore 4, 2) := by decide +kernel
theorem dR_follow_108 : decode prog_9_method_47_code 108 = .ok (.iconst 0, 1) := by decide +kernel
theorem dR_follow_109 : decode prog_9_method_47_code 109 = .ok (.istore 5, 2) := by decide +kernel
theorem dR_follow_111 : decode prog_9_method_47_code 111 = .ok (.iload 5, 2) := by decide +kernel
theorem dR_follow_113 : decode prog_9_method_47_code 113 = .ok (.aload_n 0, 1) := by decide +kernel
theorem dR_follow_114 : decode prog_9_method_47_code 114 = .ok (.getfield 161, 3) := by decide +kernel
theorem dR_follow_117 : decode prog_9_method_47_code 117 = .ok (.if_icmp .ge 62, 3) := by decide +kernel
theorem dR_follow_120 : decode prog_9_method_47_code 120 = .ok (.iload_n 3, 1) := by decide +kernel
theorem dR_follow_121 : decode prog_9_method_47_code 121 = .ok (.iconst (-1), 1) := by decide +kernel
theorem dR_follow_122 : decode prog_9_method_47_code 122 = .ok (.if_icmp .eq 57, 3) := by decide +kernel
theorem dR_follow_125 : decode prog_9_method_47_code 125 = .ok (.iload 4, 2) := by decide +kernel
theorem dR_follow_127 : decode prog_9_method_47_code 127 = .ok (.ifCond .ne 39, 3) := by decide +kernel
theorem dR_follow_130 : decode prog_9_method_47_code 130 = .ok (.aload_n 0, 1) := by decide +kernel
theorem dR_follow_131 : decode prog_9_method_47_code 131 = .ok (.getfield 32, 3) := by decide +kernel
theorem dR_follow_134 : decode prog_9_method_47_code 134 = .ok (.iload 5, 2) := by decide +kernel
theorem dR_follow_136 : decode prog_9_method_47_code 136 = .ok (.iaload, 1) := by decide +kernel
theorem dR_follow_137 : decode prog_9_method_47_code 137 = .ok (.iload_n 2, 1) := by decide +kernel
theorem dR_follow_138 : decode prog_9_method_47_code 138 = .ok (.if_icmp .ne 32, 3) := by decide +kernel
theorem dR_follow_141 : decode prog_9_method_47_code 141 = .ok (.aload_n 0, 1) := by decide +kernel
theorem dR_follow_142 : decode prog_9_method_47_code 142 = .ok (.getfield 35, 3) := by decide +kernel
theorem dR_follow_145 : decode prog_9_method_47_code 145 = .ok (.iload 5, 2) := by decide +kernel
theorem dR_follow_147 : decode prog_9_method_47_code 147 = .ok (.iaload, 1) := by decide +kernel
theorem dR_follow_148 : decode prog_9_method_47_code 148 = .ok (.iload_n 3, 1) := by decide +kernel
theorem dR_follow_149 : decode prog_9_method_47_code 149 = .ok (.if_icmp .ne 21, 3) := by decide +kernel
theorem dR_follow_152 : decode prog_9_method_47_code 152 = .ok (.aload_n 0, 1) := by decide +kernel
theorem dR_follow_153 : decode prog_9_method_47_code 153 = .ok (.aload_n 0, 1) := by decide +kernel
theorem dR_follow_154 : decode prog_9_method_47_code 154 = .ok (.getfield 26, 3) := by decide +kernel
theorem dR_follow_157 : decode prog_9_method_47_code 157 = .ok (.iload 5, 2) := by decide +kernel
theorem dR_follow_159 : decode prog_9_method_47_code 159 = .ok (.iaload, 1) := by decide +kernel
theorem dR_follow_160 : decode prog_9_method_47_code 160 = .ok (.invokevirtual 284, 3) := by decide +kernel
theorem dR_follow_163 : decode prog_9_method_47_code 163 = .ok (.ifCond .eq 7, 3) := by decide +kernel
theorem dR_follow_166 : decode prog_9_method_47_code 166 = .ok (.iconst 1, 1) := by decide +kernel
theorem dR_follow_167 : decode prog_9_method_47_code 167 = .ok (.goto 4, 3) := by decide +kernel
theorem dR_follow_170 : decode prog_9_method_47_code 170 = .ok (.iconst 0, 1) := by decide +kernel
theorem dR_follow_171 : decode prog_9_method_47_code 171 = .ok (.istore 4, 2) := by decide +kernel
theorem dR_follow_173 : decode prog_9_method_47_code 173 = .ok (.iinc 5 1, 3) := by decide +kernel
theorem dR_follow_176 : decode prog_9_method_47_code 176 = .ok (.goto (-65), 3) := by decide +kernel
theorem dR_follow_179 : decode prog_9_method_47_code 179 = .ok (.aload_n 0, 1) := by decide +kernel
theorem dR_follow_180 : decode prog_9_method_47_code 180 = .ok (.iload_n 1, 1) := by decide +kernel
theorem dR_follow_181 : decode prog_9_method_47_code 181 = .ok (.iload_n 2, 1) := by decide +kernel
theorem dR_follow_182 : decode prog_9_method_47_code 182 = .ok (.iconst 0, 1) := by decide +kernel
theorem dR_follow_183 : decode prog_9_method_47_code 183 = .ok (.invokevirtual 260, 3) := by decide +kernel
theorem dR_follow_186 : decode prog_9_method_47_code 186 = .ok (.iload 4, 2) := by decide +kernel
theorem dR_follow_188 : decode prog_9_method_47_code 188 = .ok (.ifCond .eq 10, 3) := by decide +kernel
theorem dR_follow_191 : decode prog_9_method_47_code 191 = .ok (.aload_n 0, 1) := by decide +kernel
theorem dR_follow_192 : decode prog_9_method_47_code 192 = .ok (.iload_n 1, 1) := by decide +kernel
theorem dR_follow_193 : decode prog_9_method_47_code 193 = .ok (.iload_n 2, 1) := by decide +kernel
theorem dR_follow_194 : decode prog_9_method_47_code 194 = .ok (.iload_n 3, 1) := by decide +kernel
theorem dR_follow_195 : decode prog_9_method_47_code 195 = .ok (.invokevirtual 233, 3) := by decide +kernel
theorem dR_follow_198 : decode prog_9_method_47_code 198 = .ok (.iload_n 3, 1) := by decide +kernel
theorem dR_follow_199 : decode prog_9_method_47_code 199 = .ok (.iconst (-1), 1) := by decide +kernel
theorem dR_follow_200 : decode prog_9_method_47_code 200 = .ok (.if_icmp .eq 8, 3) := by decide +kernel
theorem dR_follow_203 : decode prog_9_method_47_code 203 = .ok (.iload 4, 2) := by decide +kernel
theorem dR_follow_205 : decode prog_9_method_47_code 205 = .ok (.ifCond .eq 4, 3) := by decide +kernel
theorem dR_follow_208 : decode prog_9_method_47_code 208 = .ok (.return_, 1) := by decide +kernel
theorem dR_follow_209 : decode prog_9_method_47_code 209 = .ok (.aload_n 0, 1) := by decide +kernel
theorem dR_follow_210 : decode prog_9_method_47_code 210 = .ok (.getfield 89, 3) := by decide +kernel
theorem dR_follow_213 : decode prog_9_method_47_code 213 = .ok (.iload_n 1, 1) := by decide +kernel
theorem dR_follow_214 : decode prog_9_method_47_code 214 = .ok (.dup2, 1) := by decide +kernel
theorem dR_follow_215 : decode prog_9_method_47_code 215 = .ok (.iaload, 1) := by decide +kernel
theorem dR_follow_216 : decode prog_9_method_47_code 216 = .ok (.iconst 1, 1) := by decide +kernel
theorem dR_follow_217 : decode prog_9_method_47_code 217 = .ok (.iadd, 1) := by decide +kernel
theorem dR_follow_218 : decode prog_9_method_47_code 218 = .ok (.iastore, 1) := by decide +kernel
theorem dR_follow_219 : decode prog_9_method_47_code 219 = .ok (.aload_n 0, 1) := by decide +kernel
theorem dR_follow_220 : decode prog_9_method_47_code 220 = .ok (.getfield 95, 3) := by decide +kernel
theorem dR_follow_223 : decode prog_9_method_47_code 223 = .ok (.iload_n 1, 1) := by decide +kernel
theorem dR_follow_224 : decode prog_9_method_47_code 224 = .ok (.iconst 0, 1) := by decide +kernel
theorem dR_follow_225 : decode prog_9_method_47_code 225 = .ok (.bastore, 1) := by decide +kernel
theorem dR_follow_226 : decode prog_9_method_47_code 226 = .ok (.return_, 1) := by decide +kernel
theorem dR_gather_0 : decode prog_9_method_20_code 0 = .ok (.aload_n 0, 1) := by decide +kernel
theorem dR_gather_1 : decode prog_9_method_20_code 1 = .ok (.iconst 0, 1) := by decide +kernel
theorem dR_gather_2 : decode prog_9_method_20_code 2 = .ok (.putfield 183, 3) := by decide +kernel
theorem dR_gather_5 : decode prog_9_method_20_code 5 = .ok (.aload_n 0, 1) := by decide +kernel
theorem dR_gather_6 : decode prog_9_method_20_code 6 = .ok (.getfield 95, 3) := by decide +kernel
theorem dR_gather_9 : decode prog_9_method_20_code 9 = .ok (.iload_n 1, 1) := by decide +kernel
theorem dR_gather_10 : decode prog_9_method_20_code 10 = .ok (.baload, 1) := by decide +kernel
theorem dR_gather_11 : decode prog_9_method_20_code 11 = .ok (.ifCond .eq 18, 3) := by decide +kernel
theorem dR_gather_14 : decode prog_9_method_20_code 14 = .ok (.aload_n 0, 1) := by decide +kernel
theorem dR_gather_15 : decode prog_9_method_20_code 15 = .ok (.aload_n 0, 1) := by decide +kernel
theorem dR_gather_16 : decode prog_9_method_20_code 16 = .ok (.getfield 41, 3) := by decide +kernel
theorem dR_gather_19 : decode prog_9_method_20_code 19 = .ok (.aload_n 0, 1) := by decide +kernel
theorem dR_gather_20 : decode prog_9_method_20_code 20 = .ok (.getfield 80, 3) := by decide +kernel
theorem dR_gather_23 : decode prog_9_method_20_code 23 = .ok (.iload_n 1, 1) := by decide +kernel
theorem dR_gather_24 : decode prog_9_method_20_code 24 = .ok (.iaload, 1) := by decide +kernel
theorem dR_gather_25 : decode prog_9_method_20_code 25 = .ok (.iaload, 1) := by decide +kernel
theorem dR_gather_26 : decode prog_9_method_20_code 26 = .ok (.invokevirtual 186, 3) := by decide +kernel
theorem dR_gather_29 : decode prog_9_method_20_code 29 = .ok (.aload_n 0, 1) := by decide +kernel
theorem dR_gather_30 : decode prog_9_method_20_code 30 = .ok (.getfield 86, 3) := by decide +kernel
theorem dR_gather_33 : decode prog_9_method_20_code 33 = .ok (.iload_n 1, 1) := by decide +kernel
theorem dR_gather_34 : decode prog_9_method_20_code 34 = .ok (.iaload, 1) := by decide +kernel
theorem dR_gather_35 : decode prog_9_method_20_code 35 = .ok (.iconst (-1), 1) := by decide +kernel
theorem dR_gather_36 : decode prog_9_method_20_code 36 = .ok (.if_icmp .eq 13, 3) := by decide +kernel
theorem dR_gather_39 : decode prog_9_method_20_code 39 = .ok (.aload_n 0, 1) := by decide +kernel
theorem dR_gather_40 : decode prog_9_method_20_code 40 = .ok (.aload_n 0, 1) := by decide +kernel
theorem dR_gather_41 : decode prog_9_method_20_code 41 = .ok (.getfield 86, 3) := by decide +kernel
theorem dR_gather_44 : decode prog_9_method_20_code 44 = .ok (.iload_n 1, 1) := by decide +kernel
theorem dR_gather_45 : decode prog_9_method_20_code 45 = .ok (.iaload, 1) := by decide +kernel
theorem dR_gather_46 : decode prog_9_method_20_code 46 = .ok (.invokevirtual 186, 3) := by decide +kernel
theorem dR_gather_49 : decode prog_9_method_20_code 49 = .ok (.iconst 0, 1) := by decide +kernel
theorem dR_gather_50 : decode prog_9_method_20_code 50 = .ok (.istore_n 2, 1) := by decide +kernel
theorem dR_gather_51 : decode prog_9_method_20_code 51 = .ok (.iload_n 2, 1) := by decide +kernel
theorem dR_gather_52 : decode prog_9_method_20_code 52 = .ok (.bipush 31, 2) := by decide +kernel
theorem dR_gather_54 : decode prog_9_method_20_code 54 = .ok (.if_icmp .ge 39, 3) := by decide +kernel
theorem dR_gather_57 : decode prog_9_method_20_code 57 = .ok (.aload_n 0, 1) := by decide +kernel
theorem dR_gather_58 : decode prog_9_method_20_code 58 = .ok (.getfield 98, 3) := by decide +kernel
theorem dR_gather_61 : decode prog_9_method_20_code 61 = .ok (.bipush 31, 2) := by decide +kernel
theorem dR_gather_63 : decode prog_9_method_20_code 63 = .ok (.iload_n 1, 1) := by decide +kernel
theorem dR_gather_64 : decode prog_9_method_20_code 64 = .ok (.imul, 1) := by decide +kernel
theorem dR_gather_65 : decode prog_9_method_20_code 65 = .ok (.iload_n 2, 1) := by decide +kernel
theorem dR_gather_66 : decode prog_9_method_20_code 66 = .ok (.iadd, 1) := by decide +kernel
theorem dR_gather_67 : decode prog_9_method_20_code 67 = .ok (.iaload, 1) := by decide +kernel
theorem dR_gather_68 : decode prog_9_method_20_code 68 = .ok (.iconst (-1), 1) := by decide +kernel
theorem dR_gather_69 : decode prog_9_method_20_code 69 = .ok (.if_icmp .eq 18, 3) := by decide +kernel
theorem dR_gather_72 : decode prog_9_method_20_code 72 = .ok (.aload_n 0, 1) := by decide +kernel
theorem dR_gather_73 : decode prog_9_method_20_code 73 = .ok (.aload_n 0, 1) := by decide +kernel
theorem dR_gather_74 : decode prog_9_method_20_code 74 = .ok (.getfield 98, 3) := by decide +kernel
theorem dR_gather_77 : decode prog_9_method_20_code 77 = .ok (.bipush 31, 2) := by decide +kernel
theorem dR_gather_79 : decode prog_9_method_20_code 79 = .ok (.iload_n 1, 1) := by decide +kernel
theorem dR_gather_80 : decode prog_9_method_20_code 80 = .ok (.imul, 1) := by decide +kernel
theorem dR_gather_81 : decode prog_9_method_20_code 81 = .ok (.iload_n 2, 1) := by decide +kernel
theorem dR_gather_82 : decode prog_9_method_20_code 82 = .ok (.iadd, 1) := by decide +kernel
theorem dR_gather_83 : decode prog_9_method_20_code 83 = .ok (.iaload, 1) := by decide +kernel
theorem dR_gather_84 : decode prog_9_method_20_code 84 = .ok (.invokevirtual 186, 3) := by decide +kernel
theorem dR_gather_87 : decode prog_9_method_20_code 87 = .ok (.iinc 2 1, 3) := by decide +kernel
theorem dR_gather_90 : decode prog_9_method_20_code 90 = .ok (.goto (-39), 3) := by decide +kernel
theorem dR_gather_93 : decode prog_9_method_20_code 93 = .ok (.iconst 0, 1) := by decide +kernel
theorem dR_gather_94 : decode prog_9_method_20_code 94 = .ok (.istore_n 2, 1) := by decide +kernel
theorem dR_gather_95 : decode prog_9_method_20_code 95 = .ok (.iload_n 2, 1) := by decide +kernel
theorem dR_gather_96 : decode prog_9_method_20_code 96 = .ok (.aload_n 0, 1) := by decide +kernel
theorem dR_gather_97 : decode prog_9_method_20_code 97 = .ok (.getfield 92, 3) := by decide +kernel
theorem dR_gather_100 : decode prog_9_method_20_code 100 = .ok (.iload_n 1, 1) := by decide +kernel
theorem dR_gather_101 : decode prog_9_method_20_code 101 = .ok (.iaload, 1) := by decide +kernel
theorem dR_gather_102 : decode prog_9_method_20_code 102 = .ok (.if_icmp .ge 24, 3) := by decide +kernel
theorem dR_gather_105 : decode prog_9_method_20_code 105 = .ok (.aload_n 0, 1) := by decide +kernel
theorem dR_gather_106 : decode prog_9_method_20_code 106 = .ok (.aload_n 0, 1) := by decide +kernel
theorem dR_gather_107 : decode prog_9_method_20_code 107 = .ok (.getfield 101, 3) := by decide +kernel
theorem dR_gather_110 : decode prog_9_method_20_code 110 = .ok (.bipush 20, 2) := by decide +kernel
theorem dR_gather_112 : decode prog_9_method_20_code 112 = .ok (.iload_n 1, 1) := by decide +kernel
theorem dR_gather_113 : decode prog_9_method_20_code 113 = .ok (.imul, 1) := by decide +kernel
theorem dR_gather_114 : decode prog_9_method_20_code 114 = .ok (.iload_n 2, 1) := by decide +kernel
theorem dR_gather_115 : decode prog_9_method_20_code 115 = .ok (.iadd, 1) := by decide +kernel
theorem dR_gather_116 : decode prog_9_method_20_code 116 = .ok (.iaload, 1) := by decide +kernel
theorem dR_gather_117 : decode prog_9_method_20_code 117 = .ok (.invokevirtual 186, 3) := by decide +kernel
theorem dR_gather_120 : decode prog_9_method_20_code 120 = .ok (.iinc 2 1, 3) := by decide +kernel
theorem dR_gather_123 : decode prog_9_method_20_code 123 = .ok (.goto (-28), 3) := by decide +kernel
theorem dR_gather_126 : decode prog_9_method_20_code 126 = .ok (.iconst 0, 1) := by decide +kernel
theorem dR_gather_127 : decode prog_9_method_20_code 127 = .ok (.istore_n 2, 1) := by decide +kernel
theorem dR_gather_128 : decode prog_9_method_20_code 128 = .ok (.iload_n 2, 1) := by decide +kernel
theorem dR_gather_129 : decode prog_9_method_20_code 129 = .ok (.aload_n 0, 1) := by decide +kernel
theorem dR_gather_130 : decode prog_9_method_20_code 130 = .ok (.getfield 189, 3) := by decide +kernel
theorem dR_gather_133 : decode prog_9_method_20_code 133 = .ok (.if_icmp .ge 51, 3) := by decide +kernel
theorem dR_gather_136 : decode prog_9_method_20_code 136 = .ok (.aload_n 0, 1) := by decide +kernel
theorem dR_gather_137 : decode prog_9_method_20_code 137 = .ok (.getfield 104, 3) := by decide +kernel
theorem dR_gather_140 : decode prog_9_method_20_code 140 = .ok (.iload_n 2, 1) := by decide +kernel
theorem dR_gather_141 : decode prog_9_method_20_code 141 = .ok (.iaload, 1) := by decide +kernel
theorem dR_gather_142 : decode prog_9_method_20_code 142 = .ok (.iload_n 1, 1) := by decide +kernel
theorem dR_gather_143 : decode prog_9_method_20_code 143 = .ok (.if_icmp .ne 35, 3) := by decide +kernel
theorem dR_gather_146 : decode prog_9_method_20_code 146 = .ok (.aload_n 0, 1) := by decide +kernel
theorem dR_gather_147 : decode prog_9_method_20_code 147 = .ok (.getfield 119, 3) := by decide +kernel
theorem dR_gather_150 : decode prog_9_method_20_code 150 = .ok (.iload_n 2, 1) := by decide +kernel
theorem dR_gather_151 : decode prog_9_method_20_code 151 = .ok (.baload, 1) := by decide +kernel
theorem dR_gather_152 : decode prog_9_method_20_code 152 = .ok (.ifCond .eq 6, 3) := by decide +kernel
theorem dR_gather_155 : decode prog_9_method_20_code 155 = .ok (.goto 23, 3) := by decide +kernel
theorem dR_gather_158 : decode prog_9_method_20_code 158 = .ok (.aload_n 0, 1) := by decide +kernel
theorem dR_gather_159 : decode prog_9_method_20_code 159 = .ok (.aload_n 0, 1) := by decide +kernel
theorem dR_gather_160 : decode prog_9_method_20_code 160 = .ok (.getfield 107, 3) := by decide +kernel
theorem dR_gather_163 : decode prog_9_method_20_code 163 = .ok (.iload_n 2, 1) := by decide +kernel
theorem dR_gather_164 : decode prog_9_method_20_code 164 = .ok (.iaload, 1) := by decide +kernel
theorem dR_gather_165 : decode prog_9_method_20_code 165 = .ok (.invokevirtual 186, 3) := by decide +kernel
theorem dR_gather_168 : decode prog_9_method_20_code 168 = .ok (.aload_n 0, 1) := by decide +kernel
theorem dR_gather_169 : decode prog_9_method_20_code 169 = .ok (.aload_n 0, 1) := by decide +kernel
theorem dR_gather_170 : decode prog_9_method_20_code 170 = .ok (.getfield 110, 3) := by decide +kernel
theorem dR_gather_173 : decode prog_9_method_20_code 173 = .ok (.iload_n 2, 1) := by decide +kernel
theorem dR_gather_174 : decode prog_9_method_20_code 174 = .ok (.iaload, 1) := by decide +kernel
theorem dR_gather_175 : decode prog_9_method_20_code 175 = .ok (.invokevirtual 186, 3) := by decide +kernel
theorem dR_gather_178 : decode prog_9_method_20_code 178 = .ok (.iinc 2 1, 3) := by decide +kernel
theorem dR_gather_181 : decode prog_9_method_20_code 181 = .ok (.goto (-53), 3) := by decide +kernel
theorem dR_gather_184 : decode prog_9_method_20_code 184 = .ok (.return_, 1) := by decide +kernel
theorem dR_hold_0 : decode prog_9_method_19_code 0 = .ok (.iconst 0, 1) := by decide +kernel
theorem dR_hold_1 : decode prog_9_method_19_code 1 = .ok (.istore_n 2, 1) := by decide +kernel
theorem dR_hold_2 : decode prog_9_method_19_code 2 = .ok (.iload_n 2, 1) := by decide +kernel
theorem dR_hold_3 : decode prog_9_method_19_code 3 = .ok (.aload_n 0, 1) := by decide +kernel
theorem dR_hold_4 : decode prog_9_method_19_code 4 = .ok (.getfield 183, 3) := by decide +kernel
theorem dR_hold_7 : decode prog_9_method_19_code 7 = .ok (.if_icmp .ge 20, 3) := by decide +kernel
theorem dR_hold_10 : decode prog_9_method_19_code 10 = .ok (.aload_n 0, 1) := by decide +kernel
theorem dR_hold_11 : decode prog_9_method_19_code 11 = .ok (.getfield 131, 3) := by decide +kernel
theorem dR_hold_14 : decode prog_9_method_19_code 14 = .ok (.iload_n 2, 1) := by decide +kernel
theorem dR_hold_15 : decode prog_9_method_19_code 15 = .ok (.iaload, 1) := by decide +kernel
theorem dR_hold_16 : decode prog_9_method_19_code 16 = .ok (.iload_n 1, 1) := by decide +kernel
theorem dR_hold_17 : decode prog_9_method_19_code 17 = .ok (.if_icmp .ne 4, 3) := by decide +kernel
theorem dR_hold_20 : decode prog_9_method_19_code 20 = .ok (.return_, 1) := by decide +kernel
theorem dR_hold_21 : decode prog_9_method_19_code 21 = .ok (.iinc 2 1, 3) := by decide +kernel
theorem dR_hold_24 : decode prog_9_method_19_code 24 = .ok (.goto (-22), 3) := by decide +kernel
theorem dR_hold_27 : decode prog_9_method_19_code 27 = .ok (.aload_n 0, 1) := by decide +kernel
theorem dR_hold_28 : decode prog_9_method_19_code 28 = .ok (.getfield 131, 3) := by decide +kernel
theorem dR_hold_31 : decode prog_9_method_19_code 31 = .ok (.aload_n 0, 1) := by decide +kernel
theorem dR_hold_32 : decode prog_9_method_19_code 32 = .ok (.getfield 183, 3) := by decide +kernel
theorem dR_hold_35 : decode prog_9_method_19_code 35 = .ok (.iload_n 1, 1) := by decide +kernel
theorem dR_hold_36 : decode prog_9_method_19_code 36 = .ok (.iastore, 1) := by decide +kernel
theorem dR_hold_37 : decode prog_9_method_19_code 37 = .ok (.aload_n 0, 1) := by decide +kernel
theorem dR_hold_38 : decode prog_9_method_19_code 38 = .ok (.dup, 1) := by decide +kernel
theorem dR_hold_39 : decode prog_9_method_19_code 39 = .ok (.getfield 183, 3) := by decide +kernel
theorem dR_hold_42 : decode prog_9_method_19_code 42 = .ok (.iconst 1, 1) := by decide +kernel
theorem dR_hold_43 : decode prog_9_method_19_code 43 = .ok (.iadd, 1) := by decide +kernel
theorem dR_hold_44 : decode prog_9_method_19_code 44 = .ok (.putfield 183, 3) := by decide +kernel
theorem dR_hold_47 : decode prog_9_method_19_code 47 = .ok (.return_, 1) := by decide +kernel
theorem dR_isHeld_0 : decode prog_9_method_21_code 0 = .ok (.iconst 0, 1) := by decide +kernel
theorem dR_isHeld_1 : decode prog_9_method_21_code 1 = .ok (.istore_n 2, 1) := by decide +kernel
theorem dR_isHeld_2 : decode prog_9_method_21_code 2 = .ok (.iload_n 2, 1) := by decide +kernel
theorem dR_isHeld_3 : decode prog_9_method_21_code 3 = .ok (.aload_n 0, 1) := by decide +kernel
theorem dR_isHeld_4 : decode prog_9_method_21_code 4 = .ok (.getfield 183, 3) := by decide +kernel
theorem dR_isHeld_7 : decode prog_9_method_21_code 7 = .ok (.if_icmp .ge 21, 3) := by decide +kernel
theorem dR_isHeld_10 : decode prog_9_method_21_code 10 = .ok (.aload_n 0, 1) := by decide +kernel
theorem dR_isHeld_11 : decode prog_9_method_21_code 11 = .ok (.getfield 131, 3) := by decide +kernel
theorem dR_isHeld_14 : decode prog_9_method_21_code 14 = .ok (.iload_n 2, 1) := by decide +kernel
theorem dR_isHeld_15 : decode prog_9_method_21_code 15 = .ok (.iaload, 1) := by decide +kernel
theorem dR_isHeld_16 : decode prog_9_method_21_code 16 = .ok (.iload_n 1, 1) := by decide +kernel
theorem dR_isHeld_17 : decode prog_9_method_21_code 17 = .ok (.if_icmp .ne 5, 3) := by decide +kernel
theorem dR_isHeld_20 : decode prog_9_method_21_code 20 = .ok (.iconst 1, 1) := by decide +kernel
theorem dR_isHeld_21 : decode prog_9_method_21_code 21 = .ok (.ireturn, 1) := by decide +kernel
theorem dR_isHeld_22 : decode prog_9_method_21_code 22 = .ok (.iinc 2 1, 3) := by decide +kernel
theorem dR_isHeld_25 : decode prog_9_method_21_code 25 = .ok (.goto (-23), 3) := by decide +kernel
theorem dR_isHeld_28 : decode prog_9_method_21_code 28 = .ok (.iconst 0, 1) := by decide +kernel
theorem dR_isHeld_29 : decode prog_9_method_21_code 29 = .ok (.ireturn, 1) := by decide +kernel
theorem dR_compromise_0 : decode prog_9_method_49_code 0 = .ok (.aload_n 0, 1) := by decide +kernel
theorem dR_compromise_1 : decode prog_9_method_49_code 1 = .ok (.iload_n 1, 1) := by decide +kernel
theorem dR_compromise_2 : decode prog_9_method_49_code 2 = .ok (.bipush 16, 2) := by decide +kernel
theorem dR_compromise_4 : decode prog_9_method_49_code 4 = .ok (.invokestatic 264, 3) := by decide +kernel
theorem dR_compromise_7 : decode prog_9_method_49_code 7 = .ok (.ifCond .ne 7, 3) := by decide +kernel
theorem dR_compromise_10 : decode prog_9_method_49_code 10 = .ok (.iconst 1, 1) := by decide +kernel
theorem dR_compromise_11 : decode prog_9_method_49_code 11 = .ok (.goto 4, 3) := by decide +kernel
theorem dR_compromise_14 : decode prog_9_method_49_code 14 = .ok (.iconst 0, 1) := by decide +kernel
theorem dR_compromise_15 : decode prog_9_method_49_code 15 = .ok (.putfield 155, 3) := by decide +kernel
theorem dR_compromise_18 : decode prog_9_method_49_code 18 = .ok (.aload_n 0, 1) := by decide +kernel
theorem dR_compromise_19 : decode prog_9_method_49_code 19 = .ok (.getfield 155, 3) := by decide +kernel
theorem dR_compromise_22 : decode prog_9_method_49_code 22 = .ok (.ifCond .le 5, 3) := by decide +kernel
theorem dR_compromise_25 : decode prog_9_method_49_code 25 = .ok (.iconst 0, 1) := by decide +kernel
theorem dR_compromise_26 : decode prog_9_method_49_code 26 = .ok (.ireturn, 1) := by decide +kernel
theorem dR_compromise_27 : decode prog_9_method_49_code 27 = .ok (.aload_n 0, 1) := by decide +kernel
theorem dR_compromise_28 : decode prog_9_method_49_code 28 = .ok (.iload_n 1, 1) := by decide +kernel
theorem dR_compromise_29 : decode prog_9_method_49_code 29 = .ok (.invokevirtual 281, 3) := by decide +kernel
theorem dR_compromise_32 : decode prog_9_method_49_code 32 = .ok (.iconst 0, 1) := by decide +kernel
theorem dR_compromise_33 : decode prog_9_method_49_code 33 = .ok (.istore_n 2, 1) := by decide +kernel
theorem dR_compromise_34 : decode prog_9_method_49_code 34 = .ok (.iload_n 2, 1) := by decide +kernel
theorem dR_compromise_35 : decode prog_9_method_49_code 35 = .ok (.aload_n 0, 1) := by decide +kernel
theorem dR_compromise_36 : decode prog_9_method_49_code 36 = .ok (.getfield 183, 3) := by decide +kernel
theorem dR_compromise_39 : decode prog_9_method_49_code 39 = .ok (.if_icmp .ge 21, 3) := by decide +kernel
theorem dR_compromise_42 : decode prog_9_method_49_code 42 = .ok (.aload_n 0, 1) := by decide +kernel
theorem dR_compromise_43 : decode prog_9_method_49_code 43 = .ok (.getfield 19, 3) := by decide +kernel
theorem dR_compromise_46 : decode prog_9_method_49_code 46 = .ok (.aload_n 0, 1) := by decide +kernel
theorem dR_compromise_47 : decode prog_9_method_49_code 47 = .ok (.getfield 131, 3) := by decide +kernel
theorem dR_compromise_50 : decode prog_9_method_49_code 50 = .ok (.iload_n 2, 1) := by decide +kernel
theorem dR_compromise_51 : decode prog_9_method_49_code 51 = .ok (.iaload, 1) := by decide +kernel
theorem dR_compromise_52 : decode prog_9_method_49_code 52 = .ok (.iconst 1, 1) := by decide +kernel
theorem dR_compromise_53 : decode prog_9_method_49_code 53 = .ok (.bastore, 1) := by decide +kernel
theorem dR_compromise_54 : decode prog_9_method_49_code 54 = .ok (.iinc 2 1, 3) := by decide +kernel
theorem dR_compromise_57 : decode prog_9_method_49_code 57 = .ok (.goto (-23), 3) := by decide +kernel
theorem dR_compromise_60 : decode prog_9_method_49_code 60 = .ok (.aload_n 0, 1) := by decide +kernel
theorem dR_compromise_61 : decode prog_9_method_49_code 61 = .ok (.getfield 183, 3) := by decide +kernel
theorem dR_compromise_64 : decode prog_9_method_49_code 64 = .ok (.ireturn, 1) := by decide +kernel
theorem dR_member_0 : decode prog_9_method_50_code 0 = .ok (.aload_n 0, 1) := by decide +kernel
theorem dR_member_1 : decode prog_9_method_50_code 1 = .ok (.iconst 0, 1) := by decide +kernel
theorem dR_member_2 : decode prog_9_method_50_code 2 = .ok (.putfield 155, 3) := by decide +kernel
theorem dR_member_5 : decode prog_9_method_50_code 5 = .ok (.iload_n 1, 1) := by decide +kernel
theorem dR_member_6 : decode prog_9_method_50_code 6 = .ok (.bipush 16, 2) := by decide +kernel
theorem dR_member_8 : decode prog_9_method_50_code 8 = .ok (.invokestatic 264, 3) := by decide +kernel
theorem dR_member_11 : decode prog_9_method_50_code 11 = .ok (.ifCond .ne 5, 3) := by decide +kernel
theorem dR_member_14 : decode prog_9_method_50_code 14 = .ok (.iconst (-1), 1) := by decide +kernel
theorem dR_member_15 : decode prog_9_method_50_code 15 = .ok (.ireturn, 1) := by decide +kernel
theorem dR_member_16 : decode prog_9_method_50_code 16 = .ok (.iload_n 2, 1) := by decide +kernel
theorem dR_member_17 : decode prog_9_method_50_code 17 = .ok (.iconst 2, 1) := by decide +kernel
theorem dR_member_18 : decode prog_9_method_50_code 18 = .ok (.if_icmp .ne 8, 3) := by decide +kernel
theorem dR_member_21 : decode prog_9_method_50_code 21 = .ok (.aload_n 0, 1) := by decide +kernel
theorem dR_member_22 : decode prog_9_method_50_code 22 = .ok (.iload_n 1, 1) := by decide +kernel
theorem dR_member_23 : decode prog_9_method_50_code 23 = .ok (.invokevirtual 281, 3) := by decide +kernel
theorem dR_member_26 : decode prog_9_method_50_code 26 = .ok (.iload_n 2, 1) := by decide +kernel
theorem dR_member_27 : decode prog_9_method_50_code 27 = .ok (.ifCond .ne 12, 3) := by decide +kernel
theorem dR_member_30 : decode prog_9_method_50_code 30 = .ok (.aload_n 0, 1) := by decide +kernel
theorem dR_member_31 : decode prog_9_method_50_code 31 = .ok (.getfield 80, 3) := by decide +kernel
theorem dR_member_34 : decode prog_9_method_50_code 34 = .ok (.iload_n 1, 1) := by decide +kernel
theorem dR_member_35 : decode prog_9_method_50_code 35 = .ok (.iaload, 1) := by decide +kernel
theorem dR_member_36 : decode prog_9_method_50_code 36 = .ok (.goto 44, 3) := by decide +kernel
theorem dR_member_39 : decode prog_9_method_50_code 39 = .ok (.iload_n 2, 1) := by decide +kernel
theorem dR_member_40 : decode prog_9_method_50_code 40 = .ok (.iconst 1, 1) := by decide +kernel
theorem dR_member_41 : decode prog_9_method_50_code 41 = .ok (.if_icmp .ne 12, 3) := by decide +kernel
theorem dR_member_44 : decode prog_9_method_50_code 44 = .ok (.aload_n 0, 1) := by decide +kernel
theorem dR_member_45 : decode prog_9_method_50_code 45 = .ok (.getfield 83, 3) := by decide +kernel
theorem dR_member_48 : decode prog_9_method_50_code 48 = .ok (.iload_n 1, 1) := by decide +kernel
theorem dR_member_49 : decode prog_9_method_50_code 49 = .ok (.iaload, 1) := by decide +kernel
theorem dR_member_50 : decode prog_9_method_50_code 50 = .ok (.goto 30, 3) := by decide +kernel
theorem dR_member_53 : decode prog_9_method_50_code 53 = .ok (.iload_n 2, 1) := by decide +kernel
theorem dR_member_54 : decode prog_9_method_50_code 54 = .ok (.iconst 2, 1) := by decide +kernel
theorem dR_member_55 : decode prog_9_method_50_code 55 = .ok (.if_icmp .ne 10, 3) := by decide +kernel
theorem dR_member_58 : decode prog_9_method_50_code 58 = .ok (.aload_n 0, 1) := by decide +kernel
theorem dR_member_59 : decode prog_9_method_50_code 59 = .ok (.getfield 183, 3) := by decide +kernel
theorem dR_member_62 : decode prog_9_method_50_code 62 = .ok (.goto 18, 3) := by decide +kernel
theorem dR_member_65 : decode prog_9_method_50_code 65 = .ok (.iload_n 2, 1) := by decide +kernel
theorem dR_member_66 : decode prog_9_method_50_code 66 = .ok (.iconst 3, 1) := by decide +kernel
theorem dR_member_67 : decode prog_9_method_50_code 67 = .ok (.if_icmp .ne 12, 3) := by decide +kernel
theorem dR_member_70 : decode prog_9_method_50_code 70 = .ok (.aload_n 0, 1) := by decide +kernel
theorem dR_member_71 : decode prog_9_method_50_code 71 = .ok (.getfield 89, 3) := by decide +kernel
theorem dR_member_74 : decode prog_9_method_50_code 74 = .ok (.iload_n 1, 1) := by decide +kernel
theorem dR_member_75 : decode prog_9_method_50_code 75 = .ok (.iaload, 1) := by decide +kernel
theorem dR_member_76 : decode prog_9_method_50_code 76 = .ok (.goto 4, 3) := by decide +kernel
theorem dR_member_79 : decode prog_9_method_50_code 79 = .ok (.iconst (-1), 1) := by decide +kernel
theorem dR_member_80 : decode prog_9_method_50_code 80 = .ok (.ireturn, 1) := by decide +kernel
theorem dR_holds_0 : decode prog_9_method_51_code 0 = .ok (.aload_n 0, 1) := by decide +kernel
theorem dR_holds_1 : decode prog_9_method_51_code 1 = .ok (.iconst 0, 1) := by decide +kernel
theorem dR_holds_2 : decode prog_9_method_51_code 2 = .ok (.putfield 155, 3) := by decide +kernel
theorem dR_holds_5 : decode prog_9_method_51_code 5 = .ok (.iload_n 1, 1) := by decide +kernel
theorem dR_holds_6 : decode prog_9_method_51_code 6 = .ok (.bipush 16, 2) := by decide +kernel
theorem dR_holds_8 : decode prog_9_method_51_code 8 = .ok (.invokestatic 264, 3) := by decide +kernel
theorem dR_holds_11 : decode prog_9_method_51_code 11 = .ok (.ifCond .eq 30, 3) := by decide +kernel
theorem dR_holds_14 : decode prog_9_method_51_code 14 = .ok (.aload_n 0, 1) := by decide +kernel
theorem dR_holds_15 : decode prog_9_method_51_code 15 = .ok (.getfield 80, 3) := by decide +kernel
theorem dR_holds_18 : decode prog_9_method_51_code 18 = .ok (.iload_n 1, 1) := by decide +kernel
theorem dR_holds_19 : decode prog_9_method_51_code 19 = .ok (.iaload, 1) := by decide +kernel
theorem dR_holds_20 : decode prog_9_method_51_code 20 = .ok (.iconst (-1), 1) := by decide +kernel
theorem dR_holds_21 : decode prog_9_method_51_code 21 = .ok (.if_icmp .eq 20, 3) := by decide +kernel
theorem dR_holds_24 : decode prog_9_method_51_code 24 = .ok (.iload_n 2, 1) := by decide +kernel
theorem dR_holds_25 : decode prog_9_method_51_code 25 = .ok (.aload_n 0, 1) := by decide +kernel
theorem dR_holds_26 : decode prog_9_method_51_code 26 = .ok (.aload_n 0, 1) := by decide +kernel
theorem dR_holds_27 : decode prog_9_method_51_code 27 = .ok (.getfield 80, 3) := by decide +kernel
theorem dR_holds_30 : decode prog_9_method_51_code 30 = .ok (.iload_n 1, 1) := by decide +kernel
theorem dR_holds_31 : decode prog_9_method_51_code 31 = .ok (.iaload, 1) := by decide +kernel
theorem dR_holds_32 : decode prog_9_method_51_code 32 = .ok (.invokevirtual 192, 3) := by decide +kernel
theorem dR_holds_35 : decode prog_9_method_51_code 35 = .ok (.invokestatic 264, 3) := by decide +kernel
theorem dR_holds_38 : decode prog_9_method_51_code 38 = .ok (.ifCond .ne 5, 3) := by decide +kernel
theorem dR_holds_41 : decode prog_9_method_51_code 41 = .ok (.iconst 0, 1) := by decide +kernel
theorem dR_holds_42 : decode prog_9_method_51_code 42 = .ok (.ireturn, 1) := by decide +kernel
theorem dR_holds_43 : decode prog_9_method_51_code 43 = .ok (.aload_n 0, 1) := by decide +kernel
theorem dR_holds_44 : decode prog_9_method_51_code 44 = .ok (.getfield 65, 3) := by decide +kernel
theorem dR_holds_47 : decode prog_9_method_51_code 47 = .ok (.bipush 31, 2) := by decide +kernel
theorem dR_holds_49 : decode prog_9_method_51_code 49 = .ok (.aload_n 0, 1) := by decide +kernel
theorem dR_holds_50 : decode prog_9_method_51_code 50 = .ok (.getfield 80, 3) := by decide +kernel
theorem dR_holds_53 : decode prog_9_method_51_code 53 = .ok (.iload_n 1, 1) := by decide +kernel
theorem dR_holds_54 : decode prog_9_method_51_code 54 = .ok (.iaload, 1) := by decide +kernel
theorem dR_holds_55 : decode prog_9_method_51_code 55 = .ok (.imul, 1) := by decide +kernel
theorem dR_holds_56 : decode prog_9_method_51_code 56 = .ok (.iload_n 2, 1) := by decide +kernel
theorem dR_holds_57 : decode prog_9_method_51_code 57 = .ok (.iadd, 1) := by decide +kernel
theorem dR_holds_58 : decode prog_9_method_51_code 58 = .ok (.iaload, 1) := by decide +kernel
theorem dR_holds_59 : decode prog_9_method_51_code 59 = .ok (.istore_n 3, 1) := by decide +kernel
theorem dR_holds_60 : decode prog_9_method_51_code 60 = .ok (.aload_n 0, 1) := by decide +kernel
theorem dR_holds_61 : decode prog_9_method_51_code 61 = .ok (.iload_n 1, 1) := by decide +kernel
theorem dR_holds_62 : decode prog_9_method_51_code 62 = .ok (.invokevirtual 281, 3) := by decide +kernel
theorem dR_holds_65 : decode prog_9_method_51_code 65 = .ok (.iload_n 3, 1) := by decide +kernel
theorem dR_holds_66 : decode prog_9_method_51_code 66 = .ok (.iconst (-1), 1) := by decide +kernel
theorem dR_holds_67 : decode prog_9_method_51_code 67 = .ok (.if_icmp .eq 15, 3) := by decide +kernel
theorem dR_holds_70 : decode prog_9_method_51_code 70 = .ok (.aload_n 0, 1) := by decide +kernel
theorem dR_holds_71 : decode prog_9_method_51_code 71 = .ok (.iload_n 3, 1) := by decide +kernel
theorem dR_holds_72 : decode prog_9_method_51_code 72 = .ok (.invokevirtual 284, 3) := by decide +kernel
theorem dR_holds_75 : decode prog_9_method_51_code 75 = .ok (.ifCond .eq 7, 3) := by decide +kernel
theorem dR_holds_78 : decode prog_9_method_51_code 78 = .ok (.iconst 1, 1) := by decide +kernel
theorem dR_holds_79 : decode prog_9_method_51_code 79 = .ok (.goto 4, 3) := by decide +kernel
theorem dR_holds_82 : decode prog_9_method_51_code 82 = .ok (.iconst 0, 1) := by decide +kernel
theorem dR_holds_83 : decode prog_9_method_51_code 83 = .ok (.ireturn, 1) := by decide +kernel
theorem dR_has_0 : decode prog_9_method_52_code 0 = .ok (.aload_n 0, 1) := by decide +kernel
theorem dR_has_1 : decode prog_9_method_52_code 1 = .ok (.iconst 0, 1) := by decide +kernel
theorem dR_has_2 : decode prog_9_method_52_code 2 = .ok (.putfield 155, 3) := by decide +kernel
theorem dR_has_5 : decode prog_9_method_52_code 5 = .ok (.iload_n 1, 1) := by decide +kernel
theorem dR_has_6 : decode prog_9_method_52_code 6 = .ok (.bipush 16, 2) := by decide +kernel
theorem dR_has_8 : decode prog_9_method_52_code 8 = .ok (.invokestatic 264, 3) := by decide +kernel
theorem dR_has_11 : decode prog_9_method_52_code 11 = .ok (.ifCond .eq 16, 3) := by decide +kernel
theorem dR_has_14 : decode prog_9_method_52_code 14 = .ok (.aload_n 0, 1) := by decide +kernel
theorem dR_has_15 : decode prog_9_method_52_code 15 = .ok (.getfield 95, 3) := by decide +kernel
theorem dR_has_18 : decode prog_9_method_52_code 18 = .ok (.iload_n 1, 1) := by decide +kernel
theorem dR_has_19 : decode prog_9_method_52_code 19 = .ok (.baload, 1) := by decide +kernel
theorem dR_has_20 : decode prog_9_method_52_code 20 = .ok (.ifCond .eq 7, 3) := by decide +kernel
theorem dR_has_23 : decode prog_9_method_52_code 23 = .ok (.iconst 1, 1) := by decide +kernel
theorem dR_has_24 : decode prog_9_method_52_code 24 = .ok (.goto 4, 3) := by decide +kernel
theorem dR_has_27 : decode prog_9_method_52_code 27 = .ok (.iconst 0, 1) := by decide +kernel
theorem dR_has_28 : decode prog_9_method_52_code 28 = .ok (.ireturn, 1) := by decide +kernel
theorem dR_node_0 : decode prog_9_method_53_code 0 = .ok (.aload_n 0, 1) := by decide +kernel
theorem dR_node_1 : decode prog_9_method_53_code 1 = .ok (.iconst 0, 1) := by decide +kernel
theorem dR_node_2 : decode prog_9_method_53_code 2 = .ok (.putfield 155, 3) := by decide +kernel
theorem dR_node_5 : decode prog_9_method_53_code 5 = .ok (.iload_n 1, 1) := by decide +kernel
theorem dR_node_6 : decode prog_9_method_53_code 6 = .ok (.aload_n 0, 1) := by decide +kernel
theorem dR_node_7 : decode prog_9_method_53_code 7 = .ok (.getfield 151, 3) := by decide +kernel
theorem dR_node_10 : decode prog_9_method_53_code 10 = .ok (.invokestatic 264, 3) := by decide +kernel
theorem dR_node_13 : decode prog_9_method_53_code 13 = .ok (.ifCond .eq 15, 3) := by decide +kernel
theorem dR_node_16 : decode prog_9_method_53_code 16 = .ok (.iload_n 2, 1) := by decide +kernel
theorem dR_node_17 : decode prog_9_method_53_code 17 = .ok (.aload_n 0, 1) := by decide +kernel
theorem dR_node_18 : decode prog_9_method_53_code 18 = .ok (.iload_n 1, 1) := by decide +kernel
theorem dR_node_19 : decode prog_9_method_53_code 19 = .ok (.invokevirtual 192, 3) := by decide +kernel
theorem dR_node_22 : decode prog_9_method_53_code 22 = .ok (.invokestatic 264, 3) := by decide +kernel
theorem dR_node_25 : decode prog_9_method_53_code 25 = .ok (.ifCond .ne 5, 3) := by decide +kernel
theorem dR_node_28 : decode prog_9_method_53_code 28 = .ok (.iconst (-1), 1) := by decide +kernel
theorem dR_node_29 : decode prog_9_method_53_code 29 = .ok (.ireturn, 1) := by decide +kernel
theorem dR_node_30 : decode prog_9_method_53_code 30 = .ok (.bipush 31, 2) := by decide +kernel
theorem dR_node_32 : decode prog_9_method_53_code 32 = .ok (.iload_n 1, 1) := by decide +kernel
theorem dR_node_33 : decode prog_9_method_53_code 33 = .ok (.imul, 1) := by decide +kernel
theorem dR_node_34 : decode prog_9_method_53_code 34 = .ok (.iload_n 2, 1) := by decide +kernel
theorem dR_node_35 : decode prog_9_method_53_code 35 = .ok (.iadd, 1) := by decide +kernel
theorem dR_node_36 : decode prog_9_method_53_code 36 = .ok (.istore 4, 2) := by decide +kernel
theorem dR_node_38 : decode prog_9_method_53_code 38 = .ok (.iload_n 3, 1) := by decide +kernel
theorem dR_node_39 : decode prog_9_method_53_code 39 = .ok (.iconst 3, 1) := by decide +kernel
theorem dR_node_40 : decode prog_9_method_53_code 40 = .ok (.if_icmp .ne 9, 3) := by decide +kernel
theorem dR_node_43 : decode prog_9_method_53_code 43 = .ok (.aload_n 0, 1) := by decide +kernel
theorem dR_node_44 : decode prog_9_method_53_code 44 = .ok (.iload_n 1, 1) := by decide +kernel
theorem dR_node_45 : decode prog_9_method_53_code 45 = .ok (.iload_n 2, 1) := by decide +kernel
theorem dR_node_46 : decode prog_9_method_53_code 46 = .ok (.invokevirtual 218, 3) := by decide +kernel
theorem dR_node_49 : decode prog_9_method_53_code 49 = .ok (.iload_n 3, 1) := by decide +kernel
theorem dR_node_50 : decode prog_9_method_53_code 50 = .ok (.ifCond .ne 22, 3) := by decide +kernel
theorem dR_node_53 : decode prog_9_method_53_code 53 = .ok (.aload_n 0, 1) := by decide +kernel
theorem dR_node_54 : decode prog_9_method_53_code 54 = .ok (.getfield 65, 3) := by decide +kernel
theorem dR_node_57 : decode prog_9_method_53_code 57 = .ok (.iload 4, 2) := by decide +kernel
theorem dR_node_59 : decode prog_9_method_53_code 59 = .ok (.iaload, 1) := by decide +kernel
theorem dR_node_60 : decode prog_9_method_53_code 60 = .ok (.iconst (-1), 1) := by decide +kernel
theorem dR_node_61 : decode prog_9_method_53_code 61 = .ok (.if_icmp .ne 7, 3) := by decide +kernel
theorem dR_node_64 : decode prog_9_method_53_code 64 = .ok (.iconst 0, 1) := by decide +kernel
theorem dR_node_65 : decode prog_9_method_53_code 65 = .ok (.goto 65, 3) := by decide +kernel
theorem dR_node_68 : decode prog_9_method_53_code 68 = .ok (.iconst 1, 1) := by decide +kernel
theorem dR_node_69 : decode prog_9_method_53_code 69 = .ok (.goto 61, 3) := by decide +kernel
theorem dR_node_72 : decode prog_9_method_53_code 72 = .ok (.iload_n 3, 1) := by decide +kernel
theorem dR_node_73 : decode prog_9_method_53_code 73 = .ok (.iconst 1, 1) := by decide +kernel
theorem dR_node_74 : decode prog_9_method_53_code 74 = .ok (.if_icmp .ne 13, 3) := by decide +kernel
theorem dR_node_77 : decode prog_9_method_53_code 77 = .ok (.aload_n 0, 1) := by decide +kernel
theorem dR_node_78 : decode prog_9_method_53_code 78 = .ok (.getfield 68, 3) := by decide +kernel
theorem dR_node_81 : decode prog_9_method_53_code 81 = .ok (.iload 4, 2) := by decide +kernel
theorem dR_node_83 : decode prog_9_method_53_code 83 = .ok (.iaload, 1) := by decide +kernel
theorem dR_node_84 : decode prog_9_method_53_code 84 = .ok (.goto 46, 3) := by decide +kernel
theorem dR_node_87 : decode prog_9_method_53_code 87 = .ok (.iload_n 3, 1) := by decide +kernel
theorem dR_node_88 : decode prog_9_method_53_code 88 = .ok (.iconst 2, 1) := by decide +kernel
theorem dR_node_89 : decode prog_9_method_53_code 89 = .ok (.if_icmp .ne 28, 3) := by decide +kernel
theorem dR_node_92 : decode prog_9_method_53_code 92 = .ok (.aload_n 0, 1) := by decide +kernel
theorem dR_node_93 : decode prog_9_method_53_code 93 = .ok (.getfield 65, 3) := by decide +kernel
theorem dR_node_96 : decode prog_9_method_53_code 96 = .ok (.iload 4, 2) := by decide +kernel
theorem dR_node_98 : decode prog_9_method_53_code 98 = .ok (.iaload, 1) := by decide +kernel
theorem dR_node_99 : decode prog_9_method_53_code 99 = .ok (.iconst (-1), 1) := by decide +kernel
theorem dR_node_100 : decode prog_9_method_53_code 100 = .ok (.if_icmp .ne 7, 3) := by decide +kernel
theorem dR_node_103 : decode prog_9_method_53_code 103 = .ok (.iconst (-1), 1) := by decide +kernel
theorem dR_node_104 : decode prog_9_method_53_code 104 = .ok (.goto 26, 3) := by decide +kernel
theorem dR_node_107 : decode prog_9_method_53_code 107 = .ok (.aload_n 0, 1) := by decide +kernel
theorem dR_node_108 : decode prog_9_method_53_code 108 = .ok (.getfield 71, 3) := by decide +kernel
theorem dR_node_111 : decode prog_9_method_53_code 111 = .ok (.iload 4, 2) := by decide +kernel
theorem dR_node_113 : decode prog_9_method_53_code 113 = .ok (.iaload, 1) := by decide +kernel
theorem dR_node_114 : decode prog_9_method_53_code 114 = .ok (.goto 16, 3) := by decide +kernel
theorem dR_node_117 : decode prog_9_method_53_code 117 = .ok (.iload_n 3, 1) := by decide +kernel
theorem dR_node_118 : decode prog_9_method_53_code 118 = .ok (.iconst 3, 1) := by decide +kernel
theorem dR_node_119 : decode prog_9_method_53_code 119 = .ok (.if_icmp .ne 10, 3) := by decide +kernel
theorem dR_node_122 : decode prog_9_method_53_code 122 = .ok (.aload_n 0, 1) := by decide +kernel
theorem dR_node_123 : decode prog_9_method_53_code 123 = .ok (.getfield 176, 3) := by decide +kernel
theorem dR_node_126 : decode prog_9_method_53_code 126 = .ok (.goto 4, 3) := by decide +kernel
theorem dR_node_129 : decode prog_9_method_53_code 129 = .ok (.iconst (-1), 1) := by decide +kernel
theorem dR_node_130 : decode prog_9_method_53_code 130 = .ok (.ireturn, 1) := by decide +kernel
theorem dR_epoch_0 : decode prog_9_method_54_code 0 = .ok (.aload_n 0, 1) := by decide +kernel
theorem dR_epoch_1 : decode prog_9_method_54_code 1 = .ok (.iconst 0, 1) := by decide +kernel
theorem dR_epoch_2 : decode prog_9_method_54_code 2 = .ok (.putfield 155, 3) := by decide +kernel
theorem dR_epoch_5 : decode prog_9_method_54_code 5 = .ok (.iload_n 1, 1) := by decide +kernel
theorem dR_epoch_6 : decode prog_9_method_54_code 6 = .ok (.aload_n 0, 1) := by decide +kernel
theorem dR_epoch_7 : decode prog_9_method_54_code 7 = .ok (.getfield 151, 3) := by decide +kernel
theorem dR_epoch_10 : decode prog_9_method_54_code 10 = .ok (.invokestatic 264, 3) := by decide +kernel
theorem dR_epoch_13 : decode prog_9_method_54_code 13 = .ok (.ifCond .ne 5, 3) := by decide +kernel
theorem dR_epoch_16 : decode prog_9_method_54_code 16 = .ok (.iconst (-1), 1) := by decide +kernel
theorem dR_epoch_17 : decode prog_9_method_54_code 17 = .ok (.ireturn, 1) := by decide +kernel
theorem dR_epoch_18 : decode prog_9_method_54_code 18 = .ok (.iload_n 2, 1) := by decide +kernel
theorem dR_epoch_19 : decode prog_9_method_54_code 19 = .ok (.tableswitch 90 0 6 #[41, 48, 55, 62, 69, 76, 83], 41) := by decide +kernel
theorem dR_epoch_60 : decode prog_9_method_54_code 60 = .ok (.aload_n 0, 1) := by decide +kernel
theorem dR_epoch_61 : decode prog_9_method_54_code 61 = .ok (.getfield 38, 3) := by decide +kernel
theorem dR_epoch_64 : decode prog_9_method_54_code 64 = .ok (.iload_n 1, 1) := by decide +kernel
theorem dR_epoch_65 : decode prog_9_method_54_code 65 = .ok (.iaload, 1) := by decide +kernel
theorem dR_epoch_66 : decode prog_9_method_54_code 66 = .ok (.ireturn, 1) := by decide +kernel
theorem dR_epoch_67 : decode prog_9_method_54_code 67 = .ok (.aload_n 0, 1) := by decide +kernel
theorem dR_epoch_68 : decode prog_9_method_54_code 68 = .ok (.getfield 44, 3) := by decide +kernel
theorem dR_epoch_71 : decode prog_9_method_54_code 71 = .ok (.iload_n 1, 1) := by decide +kernel
theorem dR_epoch_72 : decode prog_9_method_54_code 72 = .ok (.iaload, 1) := by decide +kernel
theorem dR_epoch_73 : decode prog_9_method_54_code 73 = .ok (.ireturn, 1) := by decide +kernel
theorem dR_epoch_74 : decode prog_9_method_54_code 74 = .ok (.aload_n 0, 1) := by decide +kernel
theorem dR_epoch_75 : decode prog_9_method_54_code 75 = .ok (.getfield 47, 3) := by decide +kernel
theorem dR_epoch_78 : decode prog_9_method_54_code 78 = .ok (.iload_n 1, 1) := by decide +kernel
theorem dR_epoch_79 : decode prog_9_method_54_code 79 = .ok (.iaload, 1) := by decide +kernel
theorem dR_epoch_80 : decode prog_9_method_54_code 80 = .ok (.ireturn, 1) := by decide +kernel
theorem dR_epoch_81 : decode prog_9_method_54_code 81 = .ok (.aload_n 0, 1) := by decide +kernel
theorem dR_epoch_82 : decode prog_9_method_54_code 82 = .ok (.getfield 50, 3) := by decide +kernel
theorem dR_epoch_85 : decode prog_9_method_54_code 85 = .ok (.iload_n 1, 1) := by decide +kernel
theorem dR_epoch_86 : decode prog_9_method_54_code 86 = .ok (.iaload, 1) := by decide +kernel
theorem dR_epoch_87 : decode prog_9_method_54_code 87 = .ok (.ireturn, 1) := by decide +kernel
theorem dR_epoch_88 : decode prog_9_method_54_code 88 = .ok (.aload_n 0, 1) := by decide +kernel
theorem dR_epoch_89 : decode prog_9_method_54_code 89 = .ok (.getfield 53, 3) := by decide +kernel
theorem dR_epoch_92 : decode prog_9_method_54_code 92 = .ok (.iload_n 1, 1) := by decide +kernel
theorem dR_epoch_93 : decode prog_9_method_54_code 93 = .ok (.iaload, 1) := by decide +kernel
theorem dR_epoch_94 : decode prog_9_method_54_code 94 = .ok (.ireturn, 1) := by decide +kernel
theorem dR_epoch_95 : decode prog_9_method_54_code 95 = .ok (.aload_n 0, 1) := by decide +kernel
theorem dR_epoch_96 : decode prog_9_method_54_code 96 = .ok (.getfield 56, 3) := by decide +kernel
theorem dR_epoch_99 : decode prog_9_method_54_code 99 = .ok (.iload_n 1, 1) := by decide +kernel
theorem dR_epoch_100 : decode prog_9_method_54_code 100 = .ok (.iaload, 1) := by decide +kernel
theorem dR_epoch_101 : decode prog_9_method_54_code 101 = .ok (.ireturn, 1) := by decide +kernel
theorem dR_epoch_102 : decode prog_9_method_54_code 102 = .ok (.aload_n 0, 1) := by decide +kernel
theorem dR_epoch_103 : decode prog_9_method_54_code 103 = .ok (.getfield 59, 3) := by decide +kernel
theorem dR_epoch_106 : decode prog_9_method_54_code 106 = .ok (.iload_n 1, 1) := by decide +kernel
theorem dR_epoch_107 : decode prog_9_method_54_code 107 = .ok (.iaload, 1) := by decide +kernel
theorem dR_epoch_108 : decode prog_9_method_54_code 108 = .ok (.ireturn, 1) := by decide +kernel
theorem dR_epoch_109 : decode prog_9_method_54_code 109 = .ok (.iconst (-1), 1) := by decide +kernel
theorem dR_epoch_110 : decode prog_9_method_54_code 110 = .ok (.ireturn, 1) := by decide +kernel
theorem dR_epochs_0 : decode prog_9_method_55_code 0 = .ok (.aload_n 0, 1) := by decide +kernel
theorem dR_epochs_1 : decode prog_9_method_55_code 1 = .ok (.iconst 0, 1) := by decide +kernel
theorem dR_epochs_2 : decode prog_9_method_55_code 2 = .ok (.putfield 155, 3) := by decide +kernel
theorem dR_epochs_5 : decode prog_9_method_55_code 5 = .ok (.aload_n 0, 1) := by decide +kernel
theorem dR_epochs_6 : decode prog_9_method_55_code 6 = .ok (.getfield 151, 3) := by decide +kernel
theorem dR_epochs_9 : decode prog_9_method_55_code 9 = .ok (.ireturn, 1) := by decide +kernel
theorem dR_waiting_0 : decode prog_9_method_56_code 0 = .ok (.aload_n 0, 1) := by decide +kernel
theorem dR_waiting_1 : decode prog_9_method_56_code 1 = .ok (.iconst 0, 1) := by decide +kernel
theorem dR_waiting_2 : decode prog_9_method_56_code 2 = .ok (.putfield 155, 3) := by decide +kernel
theorem dR_waiting_5 : decode prog_9_method_56_code 5 = .ok (.aload_n 0, 1) := by decide +kernel
theorem dR_waiting_6 : decode prog_9_method_56_code 6 = .ok (.getfield 195, 3) := by decide +kernel
theorem dR_waiting_9 : decode prog_9_method_56_code 9 = .ok (.ireturn, 1) := by decide +kernel
theorem dR_isKnown_0 : decode prog_9_method_57_code 0 = .ok (.aload_n 0, 1) := by decide +kernel
theorem dR_isKnown_1 : decode prog_9_method_57_code 1 = .ok (.iconst 0, 1) := by decide +kernel
theorem dR_isKnown_2 : decode prog_9_method_57_code 2 = .ok (.putfield 155, 3) := by decide +kernel
theorem dR_isKnown_5 : decode prog_9_method_57_code 5 = .ok (.iload_n 1, 1) := by decide +kernel
theorem dR_isKnown_6 : decode prog_9_method_57_code 6 = .ok (.aload_n 0, 1) := by decide +kernel
theorem dR_isKnown_7 : decode prog_9_method_57_code 7 = .ok (.getfield 151, 3) := by decide +kernel
theorem dR_isKnown_10 : decode prog_9_method_57_code 10 = .ok (.invokestatic 264, 3) := by decide +kernel
theorem dR_isKnown_13 : decode prog_9_method_57_code 13 = .ok (.ifCond .ne 5, 3) := by decide +kernel
theorem dR_isKnown_16 : decode prog_9_method_57_code 16 = .ok (.iconst 0, 1) := by decide +kernel
theorem dR_isKnown_17 : decode prog_9_method_57_code 17 = .ok (.ireturn, 1) := by decide +kernel
theorem dR_isKnown_18 : decode prog_9_method_57_code 18 = .ok (.aload_n 0, 1) := by decide +kernel
theorem dR_isKnown_19 : decode prog_9_method_57_code 19 = .ok (.invokevirtual 296, 3) := by decide +kernel
theorem dR_isKnown_22 : decode prog_9_method_57_code 22 = .ok (.aload_n 0, 1) := by decide +kernel
theorem dR_isKnown_23 : decode prog_9_method_57_code 23 = .ok (.getfield 23, 3) := by decide +kernel
theorem dR_isKnown_26 : decode prog_9_method_57_code 26 = .ok (.aload_n 0, 1) := by decide +kernel
theorem dR_isKnown_27 : decode prog_9_method_57_code 27 = .ok (.getfield 41, 3) := by decide +kernel
theorem dR_isKnown_30 : decode prog_9_method_57_code 30 = .ok (.iload_n 1, 1) := by decide +kernel
theorem dR_isKnown_31 : decode prog_9_method_57_code 31 = .ok (.iaload, 1) := by decide +kernel
theorem dR_isKnown_32 : decode prog_9_method_57_code 32 = .ok (.baload, 1) := by decide +kernel
theorem dR_isKnown_33 : decode prog_9_method_57_code 33 = .ok (.ireturn, 1) := by decide +kernel
theorem dR_intrude_0 : decode prog_9_method_8_code 0 = .ok (.iconst 0, 1) := by decide +kernel
theorem dR_intrude_1 : decode prog_9_method_8_code 1 = .ok (.istore_n 1, 1) := by decide +kernel
theorem dR_intrude_2 : decode prog_9_method_8_code 2 = .ok (.iload_n 1, 1) := by decide +kernel
theorem dR_intrude_3 : decode prog_9_method_8_code 3 = .ok (.aload_n 0, 1) := by decide +kernel
theorem dR_intrude_4 : decode prog_9_method_8_code 4 = .ok (.getfield 158, 3) := by decide +kernel
theorem dR_intrude_7 : decode prog_9_method_8_code 7 = .ok (.if_icmp .ge 21, 3) := by decide +kernel
theorem dR_intrude_10 : decode prog_9_method_8_code 10 = .ok (.aload_n 0, 1) := by decide +kernel
theorem dR_intrude_11 : decode prog_9_method_8_code 11 = .ok (.getfield 23, 3) := by decide +kernel
theorem dR_intrude_14 : decode prog_9_method_8_code 14 = .ok (.iload_n 1, 1) := by decide +kernel
theorem dR_intrude_15 : decode prog_9_method_8_code 15 = .ok (.aload_n 0, 1) := by decide +kernel
theorem dR_intrude_16 : decode prog_9_method_8_code 16 = .ok (.getfield 19, 3) := by decide +kernel
theorem dR_intrude_19 : decode prog_9_method_8_code 19 = .ok (.iload_n 1, 1) := by decide +kernel
theorem dR_intrude_20 : decode prog_9_method_8_code 20 = .ok (.baload, 1) := by decide +kernel
theorem dR_intrude_21 : decode prog_9_method_8_code 21 = .ok (.bastore, 1) := by decide +kernel
theorem dR_intrude_22 : decode prog_9_method_8_code 22 = .ok (.iinc 1 1, 3) := by decide +kernel
theorem dR_intrude_25 : decode prog_9_method_8_code 25 = .ok (.goto (-23), 3) := by decide +kernel
theorem dR_intrude_28 : decode prog_9_method_8_code 28 = .ok (.iconst 1, 1) := by decide +kernel
theorem dR_intrude_29 : decode prog_9_method_8_code 29 = .ok (.istore_n 1, 1) := by decide +kernel
theorem dR_intrude_30 : decode prog_9_method_8_code 30 = .ok (.iload_n 1, 1) := by decide +kernel
theorem dR_intrude_31 : decode prog_9_method_8_code 31 = .ok (.ifCond .eq 114, 3) := by decide +kernel
theorem dR_intrude_34 : decode prog_9_method_8_code 34 = .ok (.iconst 0, 1) := by decide +kernel
theorem dR_intrude_35 : decode prog_9_method_8_code 35 = .ok (.istore_n 1, 1) := by decide +kernel
theorem dR_intrude_36 : decode prog_9_method_8_code 36 = .ok (.iconst 0, 1) := by decide +kernel
theorem dR_intrude_37 : decode prog_9_method_8_code 37 = .ok (.istore_n 2, 1) := by decide +kernel
theorem dR_intrude_38 : decode prog_9_method_8_code 38 = .ok (.iload_n 2, 1) := by decide +kernel
theorem dR_intrude_39 : decode prog_9_method_8_code 39 = .ok (.aload_n 0, 1) := by decide +kernel
theorem dR_intrude_40 : decode prog_9_method_8_code 40 = .ok (.getfield 158, 3) := by decide +kernel
theorem dR_intrude_43 : decode prog_9_method_8_code 43 = .ok (.if_icmp .ge 38, 3) := by decide +kernel
theorem dR_intrude_46 : decode prog_9_method_8_code 46 = .ok (.aload_n 0, 1) := by decide +kernel
theorem dR_intrude_47 : decode prog_9_method_8_code 47 = .ok (.getfield 23, 3) := by decide +kernel
theorem dR_intrude_50 : decode prog_9_method_8_code 50 = .ok (.iload_n 2, 1) := by decide +kernel
theorem dR_intrude_51 : decode prog_9_method_8_code 51 = .ok (.baload, 1) := by decide +kernel
theorem dR_intrude_52 : decode prog_9_method_8_code 52 = .ok (.ifCond .ne 23, 3) := by decide +kernel
theorem dR_intrude_55 : decode prog_9_method_8_code 55 = .ok (.aload_n 0, 1) := by decide +kernel
theorem dR_intrude_56 : decode prog_9_method_8_code 56 = .ok (.iload_n 2, 1) := by decide +kernel
theorem dR_intrude_57 : decode prog_9_method_8_code 57 = .ok (.invokevirtual 164, 3) := by decide +kernel
theorem dR_intrude_60 : decode prog_9_method_8_code 60 = .ok (.ifCond .ne 6, 3) := by decide +kernel
theorem dR_intrude_63 : decode prog_9_method_8_code 63 = .ok (.goto 12, 3) := by decide +kernel
