theorem dR_change_184 : decode prog_9_method_37_code 184 = .ok (.if_icmp .ge 48, 3) := by decide +kernel
theorem dR_change_187 : decode prog_9_method_37_code 187 = .ok (.aload_n 0, 1) := by decide +kernel
theorem dR_change_188 : decode prog_9_method_37_code 188 = .ok (.getfield 80, 3) := by decide +kernel
theorem dR_change_191 : decode prog_9_method_37_code 191 = .ok (.iload 7, 2) := by decide +kernel
theorem dR_change_193 : decode prog_9_method_37_code 193 = .ok (.iaload, 1) := by decide +kernel
theorem dR_change_194 : decode prog_9_method_37_code 194 = .ok (.iload_n 3, 1) := by decide +kernel
theorem dR_change_195 : decode prog_9_method_37_code 195 = .ok (.iconst 1, 1) := by decide +kernel
theorem dR_change_196 : decode prog_9_method_37_code 196 = .ok (.isub, 1) := by decide +kernel
theorem dR_change_197 : decode prog_9_method_37_code 197 = .ok (.if_icmp .ne 29, 3) := by decide +kernel
theorem dR_change_200 : decode prog_9_method_37_code 200 = .ok (.aload_n 0, 1) := by decide +kernel
theorem dR_change_201 : decode prog_9_method_37_code 201 = .ok (.getfield 50, 3) := by decide +kernel
theorem dR_change_204 : decode prog_9_method_37_code 204 = .ok (.iload_n 3, 1) := by decide +kernel
theorem dR_change_205 : decode prog_9_method_37_code 205 = .ok (.iaload, 1) := by decide +kernel
theorem dR_change_206 : decode prog_9_method_37_code 206 = .ok (.aload_n 0, 1) := by decide +kernel
theorem dR_change_207 : decode prog_9_method_37_code 207 = .ok (.getfield 83, 3) := by decide +kernel
theorem dR_change_210 : decode prog_9_method_37_code 210 = .ok (.iload 7, 2) := by decide +kernel
theorem dR_change_212 : decode prog_9_method_37_code 212 = .ok (.iaload, 1) := by decide +kernel
theorem dR_change_213 : decode prog_9_method_37_code 213 = .ok (.ishr, 1) := by decide +kernel
theorem dR_change_214 : decode prog_9_method_37_code 214 = .ok (.iconst 1, 1) := by decide +kernel
theorem dR_change_215 : decode prog_9_method_37_code 215 = .ok (.iand, 1) := by decide +kernel
theorem dR_change_216 : decode prog_9_method_37_code 216 = .ok (.iconst 1, 1) := by decide +kernel
theorem dR_change_217 : decode prog_9_method_37_code 217 = .ok (.if_icmp .ne 9, 3) := by decide +kernel
theorem dR_change_220 : decode prog_9_method_37_code 220 = .ok (.aload_n 0, 1) := by decide +kernel
theorem dR_change_221 : decode prog_9_method_37_code 221 = .ok (.iload 7, 2) := by decide +kernel
theorem dR_change_223 : decode prog_9_method_37_code 223 = .ok (.invokevirtual 147, 3) := by decide +kernel
theorem dR_change_226 : decode prog_9_method_37_code 226 = .ok (.iinc 7 1, 3) := by decide +kernel
theorem dR_change_229 : decode prog_9_method_37_code 229 = .ok (.goto (-49), 3) := by decide +kernel
theorem dR_change_232 : decode prog_9_method_37_code 232 = .ok (.aload_n 0, 1) := by decide +kernel
theorem dR_change_233 : decode prog_9_method_37_code 233 = .ok (.iload_n 1, 1) := by decide +kernel
theorem dR_change_234 : decode prog_9_method_37_code 234 = .ok (.iload_n 3, 1) := by decide +kernel
theorem dR_change_235 : decode prog_9_method_37_code 235 = .ok (.aload_n 0, 1) := by decide +kernel
theorem dR_change_236 : decode prog_9_method_37_code 236 = .ok (.getfield 62, 3) := by decide +kernel
theorem dR_change_239 : decode prog_9_method_37_code 239 = .ok (.iload_n 3, 1) := by decide +kernel
theorem dR_change_240 : decode prog_9_method_37_code 240 = .ok (.baload, 1) := by decide +kernel
theorem dR_change_241 : decode prog_9_method_37_code 241 = .ok (.invokevirtual 260, 3) := by decide +kernel
theorem dR_change_244 : decode prog_9_method_37_code 244 = .ok (.aload_n 0, 1) := by decide +kernel
theorem dR_change_245 : decode prog_9_method_37_code 245 = .ok (.iconst 0, 1) := by decide +kernel
theorem dR_change_246 : decode prog_9_method_37_code 246 = .ok (.putfield 195, 3) := by decide +kernel
theorem dR_change_249 : decode prog_9_method_37_code 249 = .ok (.return_, 1) := by decide +kernel
theorem dR_copyTree_0 : decode prog_9_method_23_code 0 = .ok (.aload_n 0, 1) := by decide +kernel
theorem dR_copyTree_1 : decode prog_9_method_23_code 1 = .ok (.getfield 38, 3) := by decide +kernel
theorem dR_copyTree_4 : decode prog_9_method_23_code 4 = .ok (.iload_n 2, 1) := by decide +kernel
theorem dR_copyTree_5 : decode prog_9_method_23_code 5 = .ok (.aload_n 0, 1) := by decide +kernel
theorem dR_copyTree_6 : decode prog_9_method_23_code 6 = .ok (.getfield 38, 3) := by decide +kernel
theorem dR_copyTree_9 : decode prog_9_method_23_code 9 = .ok (.iload_n 1, 1) := by decide +kernel
theorem dR_copyTree_10 : decode prog_9_method_23_code 10 = .ok (.iaload, 1) := by decide +kernel
theorem dR_copyTree_11 : decode prog_9_method_23_code 11 = .ok (.iastore, 1) := by decide +kernel
theorem dR_copyTree_12 : decode prog_9_method_23_code 12 = .ok (.iconst 0, 1) := by decide +kernel
theorem dR_copyTree_13 : decode prog_9_method_23_code 13 = .ok (.istore_n 3, 1) := by decide +kernel
theorem dR_copyTree_14 : decode prog_9_method_23_code 14 = .ok (.iload_n 3, 1) := by decide +kernel
theorem dR_copyTree_15 : decode prog_9_method_23_code 15 = .ok (.bipush 31, 2) := by decide +kernel
theorem dR_copyTree_17 : decode prog_9_method_23_code 17 = .ok (.if_icmp .ge 113, 3) := by decide +kernel
theorem dR_copyTree_20 : decode prog_9_method_23_code 20 = .ok (.aload_n 0, 1) := by decide +kernel
theorem dR_copyTree_21 : decode prog_9_method_23_code 21 = .ok (.getfield 65, 3) := by decide +kernel
theorem dR_copyTree_24 : decode prog_9_method_23_code 24 = .ok (.bipush 31, 2) := by decide +kernel
theorem dR_copyTree_26 : decode prog_9_method_23_code 26 = .ok (.iload_n 2, 1) := by decide +kernel
theorem dR_copyTree_27 : decode prog_9_method_23_code 27 = .ok (.imul, 1) := by decide +kernel
theorem dR_copyTree_28 : decode prog_9_method_23_code 28 = .ok (.iload_n 3, 1) := by decide +kernel
theorem dR_copyTree_29 : decode prog_9_method_23_code 29 = .ok (.iadd, 1) := by decide +kernel
theorem dR_copyTree_30 : decode prog_9_method_23_code 30 = .ok (.iload_n 3, 1) := by decide +kernel
theorem dR_copyTree_31 : decode prog_9_method_23_code 31 = .ok (.aload_n 0, 1) := by decide +kernel
theorem dR_copyTree_32 : decode prog_9_method_23_code 32 = .ok (.iload_n 1, 1) := by decide +kernel
theorem dR_copyTree_33 : decode prog_9_method_23_code 33 = .ok (.invokevirtual 192, 3) := by decide +kernel
theorem dR_copyTree_36 : decode prog_9_method_23_code 36 = .ok (.if_icmp .ge 17, 3) := by decide +kernel
theorem dR_copyTree_39 : decode prog_9_method_23_code 39 = .ok (.aload_n 0, 1) := by decide +kernel
theorem dR_copyTree_40 : decode prog_9_method_23_code 40 = .ok (.getfield 65, 3) := by decide +kernel
theorem dR_copyTree_43 : decode prog_9_method_23_code 43 = .ok (.bipush 31, 2) := by decide +kernel
theorem dR_copyTree_45 : decode prog_9_method_23_code 45 = .ok (.iload_n 1, 1) := by decide +kernel
theorem dR_copyTree_46 : decode prog_9_method_23_code 46 = .ok (.imul, 1) := by decide +kernel
theorem dR_copyTree_47 : decode prog_9_method_23_code 47 = .ok (.iload_n 3, 1) := by decide +kernel
theorem dR_copyTree_48 : decode prog_9_method_23_code 48 = .ok (.iadd, 1) := by decide +kernel
theorem dR_copyTree_49 : decode prog_9_method_23_code 49 = .ok (.iaload, 1) := by decide +kernel
theorem dR_copyTree_50 : decode prog_9_method_23_code 50 = .ok (.goto 4, 3) := by decide +kernel
theorem dR_copyTree_53 : decode prog_9_method_23_code 53 = .ok (.iconst (-1), 1) := by decide +kernel
theorem dR_copyTree_54 : decode prog_9_method_23_code 54 = .ok (.iastore, 1) := by decide +kernel
theorem dR_copyTree_55 : decode prog_9_method_23_code 55 = .ok (.aload_n 0, 1) := by decide +kernel
theorem dR_copyTree_56 : decode prog_9_method_23_code 56 = .ok (.getfield 68, 3) := by decide +kernel
theorem dR_copyTree_59 : decode prog_9_method_23_code 59 = .ok (.bipush 31, 2) := by decide +kernel
theorem dR_copyTree_61 : decode prog_9_method_23_code 61 = .ok (.iload_n 2, 1) := by decide +kernel
theorem dR_copyTree_62 : decode prog_9_method_23_code 62 = .ok (.imul, 1) := by decide +kernel
theorem dR_copyTree_63 : decode prog_9_method_23_code 63 = .ok (.iload_n 3, 1) := by decide +kernel
theorem dR_copyTree_64 : decode prog_9_method_23_code 64 = .ok (.iadd, 1) := by decide +kernel
theorem dR_copyTree_65 : decode prog_9_method_23_code 65 = .ok (.iload_n 3, 1) := by decide +kernel
theorem dR_copyTree_66 : decode prog_9_method_23_code 66 = .ok (.aload_n 0, 1) := by decide +kernel
theorem dR_copyTree_67 : decode prog_9_method_23_code 67 = .ok (.iload_n 1, 1) := by decide +kernel
theorem dR_copyTree_68 : decode prog_9_method_23_code 68 = .ok (.invokevirtual 192, 3) := by decide +kernel
theorem dR_copyTree_71 : decode prog_9_method_23_code 71 = .ok (.if_icmp .ge 17, 3) := by decide +kernel
theorem dR_copyTree_74 : decode prog_9_method_23_code 74 = .ok (.aload_n 0, 1) := by decide +kernel
theorem dR_copyTree_75 : decode prog_9_method_23_code 75 = .ok (.getfield 68, 3) := by decide +kernel
theorem dR_copyTree_78 : decode prog_9_method_23_code 78 = .ok (.bipush 31, 2) := by decide +kernel
theorem dR_copyTree_80 : decode prog_9_method_23_code 80 = .ok (.iload_n 1, 1) := by decide +kernel
theorem dR_copyTree_81 : decode prog_9_method_23_code 81 = .ok (.imul, 1) := by decide +kernel
theorem dR_copyTree_82 : decode prog_9_method_23_code 82 = .ok (.iload_n 3, 1) := by decide +kernel
theorem dR_copyTree_83 : decode prog_9_method_23_code 83 = .ok (.iadd, 1) := by decide +kernel
theorem dR_copyTree_84 : decode prog_9_method_23_code 84 = .ok (.iaload, 1) := by decide +kernel
theorem dR_copyTree_85 : decode prog_9_method_23_code 85 = .ok (.goto 4, 3) := by decide +kernel
theorem dR_copyTree_88 : decode prog_9_method_23_code 88 = .ok (.iconst 0, 1) := by decide +kernel
theorem dR_copyTree_89 : decode prog_9_method_23_code 89 = .ok (.iastore, 1) := by decide +kernel
theorem dR_copyTree_90 : decode prog_9_method_23_code 90 = .ok (.aload_n 0, 1) := by decide +kernel
theorem dR_copyTree_91 : decode prog_9_method_23_code 91 = .ok (.getfield 71, 3) := by decide +kernel
theorem dR_copyTree_94 : decode prog_9_method_23_code 94 = .ok (.bipush 31, 2) := by decide +kernel
theorem dR_copyTree_96 : decode prog_9_method_23_code 96 = .ok (.iload_n 2, 1) := by decide +kernel
theorem dR_copyTree_97 : decode prog_9_method_23_code 97 = .ok (.imul, 1) := by decide +kernel
theorem dR_copyTree_98 : decode prog_9_method_23_code 98 = .ok (.iload_n 3, 1) := by decide +kernel
theorem dR_copyTree_99 : decode prog_9_method_23_code 99 = .ok (.iadd, 1) := by decide +kernel
theorem dR_copyTree_100 : decode prog_9_method_23_code 100 = .ok (.aload_n 0, 1) := by decide +kernel
theorem dR_copyTree_101 : decode prog_9_method_23_code 101 = .ok (.getfield 71, 3) := by decide +kernel
theorem dR_copyTree_104 : decode prog_9_method_23_code 104 = .ok (.bipush 31, 2) := by decide +kernel
theorem dR_copyTree_106 : decode prog_9_method_23_code 106 = .ok (.iload_n 1, 1) := by decide +kernel
theorem dR_copyTree_107 : decode prog_9_method_23_code 107 = .ok (.imul, 1) := by decide +kernel
theorem dR_copyTree_108 : decode prog_9_method_23_code 108 = .ok (.iload_n 3, 1) := by decide +kernel
theorem dR_copyTree_109 : decode prog_9_method_23_code 109 = .ok (.iadd, 1) := by decide +kernel
theorem dR_copyTree_110 : decode prog_9_method_23_code 110 = .ok (.iaload, 1) := by decide +kernel
theorem dR_copyTree_111 : decode prog_9_method_23_code 111 = .ok (.iastore, 1) := by decide +kernel
theorem dR_copyTree_112 : decode prog_9_method_23_code 112 = .ok (.aload_n 0, 1) := by decide +kernel
theorem dR_copyTree_113 : decode prog_9_method_23_code 113 = .ok (.getfield 74, 3) := by decide +kernel
theorem dR_copyTree_116 : decode prog_9_method_23_code 116 = .ok (.bipush 31, 2) := by decide +kernel
theorem dR_copyTree_118 : decode prog_9_method_23_code 118 = .ok (.iload_n 2, 1) := by decide +kernel
theorem dR_copyTree_119 : decode prog_9_method_23_code 119 = .ok (.imul, 1) := by decide +kernel
theorem dR_copyTree_120 : decode prog_9_method_23_code 120 = .ok (.iload_n 3, 1) := by decide +kernel
theorem dR_copyTree_121 : decode prog_9_method_23_code 121 = .ok (.iadd, 1) := by decide +kernel
theorem dR_copyTree_122 : decode prog_9_method_23_code 122 = .ok (.iconst (-1), 1) := by decide +kernel
theorem dR_copyTree_123 : decode prog_9_method_23_code 123 = .ok (.iastore, 1) := by decide +kernel
theorem dR_copyTree_124 : decode prog_9_method_23_code 124 = .ok (.iinc 3 1, 3) := by decide +kernel
theorem dR_copyTree_127 : decode prog_9_method_23_code 127 = .ok (.goto (-113), 3) := by decide +kernel
theorem dR_copyTree_130 : decode prog_9_method_23_code 130 = .ok (.iconst 0, 1) := by decide +kernel
theorem dR_copyTree_131 : decode prog_9_method_23_code 131 = .ok (.istore_n 3, 1) := by decide +kernel
theorem dR_copyTree_132 : decode prog_9_method_23_code 132 = .ok (.iload_n 3, 1) := by decide +kernel
theorem dR_copyTree_133 : decode prog_9_method_23_code 133 = .ok (.bipush 16, 2) := by decide +kernel
theorem dR_copyTree_135 : decode prog_9_method_23_code 135 = .ok (.if_icmp .ge 31, 3) := by decide +kernel
theorem dR_copyTree_138 : decode prog_9_method_23_code 138 = .ok (.aload_n 0, 1) := by decide +kernel
theorem dR_copyTree_139 : decode prog_9_method_23_code 139 = .ok (.getfield 77, 3) := by decide +kernel
theorem dR_copyTree_142 : decode prog_9_method_23_code 142 = .ok (.bipush 16, 2) := by decide +kernel
theorem dR_copyTree_144 : decode prog_9_method_23_code 144 = .ok (.iload_n 2, 1) := by decide +kernel
theorem dR_copyTree_145 : decode prog_9_method_23_code 145 = .ok (.imul, 1) := by decide +kernel
theorem dR_copyTree_146 : decode prog_9_method_23_code 146 = .ok (.iload_n 3, 1) := by decide +kernel
theorem dR_copyTree_147 : decode prog_9_method_23_code 147 = .ok (.iadd, 1) := by decide +kernel
theorem dR_copyTree_148 : decode prog_9_method_23_code 148 = .ok (.aload_n 0, 1) := by decide +kernel
theorem dR_copyTree_149 : decode prog_9_method_23_code 149 = .ok (.getfield 77, 3) := by decide +kernel
theorem dR_copyTree_152 : decode prog_9_method_23_code 152 = .ok (.bipush 16, 2) := by decide +kernel
theorem dR_copyTree_154 : decode prog_9_method_23_code 154 = .ok (.iload_n 1, 1) := by decide +kernel
theorem dR_copyTree_155 : decode prog_9_method_23_code 155 = .ok (.imul, 1) := by decide +kernel
theorem dR_copyTree_156 : decode prog_9_method_23_code 156 = .ok (.iload_n 3, 1) := by decide +kernel
theorem dR_copyTree_157 : decode prog_9_method_23_code 157 = .ok (.iadd, 1) := by decide +kernel
theorem dR_copyTree_158 : decode prog_9_method_23_code 158 = .ok (.iaload, 1) := by decide +kernel
theorem dR_copyTree_159 : decode prog_9_method_23_code 159 = .ok (.iastore, 1) := by decide +kernel
theorem dR_copyTree_160 : decode prog_9_method_23_code 160 = .ok (.iinc 3 1, 3) := by decide +kernel
theorem dR_copyTree_163 : decode prog_9_method_23_code 163 = .ok (.goto (-31), 3) := by decide +kernel
theorem dR_copyTree_166 : decode prog_9_method_23_code 166 = .ok (.return_, 1) := by decide +kernel
theorem dR_width_0 : decode prog_9_method_11_code 0 = .ok (.iconst 2, 1) := by decide +kernel
theorem dR_width_1 : decode prog_9_method_11_code 1 = .ok (.aload_n 0, 1) := by decide +kernel
theorem dR_width_2 : decode prog_9_method_11_code 2 = .ok (.getfield 38, 3) := by decide +kernel
theorem dR_width_5 : decode prog_9_method_11_code 5 = .ok (.iload_n 1, 1) := by decide +kernel
theorem dR_width_6 : decode prog_9_method_11_code 6 = .ok (.iaload, 1) := by decide +kernel
theorem dR_width_7 : decode prog_9_method_11_code 7 = .ok (.ishl, 1) := by decide +kernel
theorem dR_width_8 : decode prog_9_method_11_code 8 = .ok (.iconst 1, 1) := by decide +kernel
theorem dR_width_9 : decode prog_9_method_11_code 9 = .ok (.isub, 1) := by decide +kernel
theorem dR_width_10 : decode prog_9_method_11_code 10 = .ok (.ireturn, 1) := by decide +kernel
theorem dR_findRemoves_0 : decode prog_9_method_24_code 0 = .ok (.iconst 0, 1) := by decide +kernel
theorem dR_findRemoves_1 : decode prog_9_method_24_code 1 = .ok (.istore_n 3, 1) := by decide +kernel
theorem dR_findRemoves_2 : decode prog_9_method_24_code 2 = .ok (.iload_n 3, 1) := by decide +kernel
theorem dR_findRemoves_3 : decode prog_9_method_24_code 3 = .ok (.aload_n 0, 1) := by decide +kernel
theorem dR_findRemoves_4 : decode prog_9_method_24_code 4 = .ok (.getfield 195, 3) := by decide +kernel
theorem dR_findRemoves_7 : decode prog_9_method_24_code 7 = .ok (.if_icmp .ge 81, 3) := by decide +kernel
theorem dR_findRemoves_10 : decode prog_9_method_24_code 10 = .ok (.aload_n 0, 1) := by decide +kernel
theorem dR_findRemoves_11 : decode prog_9_method_24_code 11 = .ok (.getfield 128, 3) := by decide +kernel
theorem dR_findRemoves_14 : decode prog_9_method_24_code 14 = .ok (.iload_n 3, 1) := by decide +kernel
theorem dR_findRemoves_15 : decode prog_9_method_24_code 15 = .ok (.iaload, 1) := by decide +kernel
theorem dR_findRemoves_16 : decode prog_9_method_24_code 16 = .ok (.istore 4, 2) := by decide +kernel
theorem dR_findRemoves_18 : decode prog_9_method_24_code 18 = .ok (.aload_n 0, 1) := by decide +kernel
theorem dR_findRemoves_19 : decode prog_9_method_24_code 19 = .ok (.getfield 122, 3) := by decide +kernel
theorem dR_findRemoves_22 : decode prog_9_method_24_code 22 = .ok (.iload_n 3, 1) := by decide +kernel
theorem dR_findRemoves_23 : decode prog_9_method_24_code 23 = .ok (.iaload, 1) := by decide +kernel
theorem dR_findRemoves_24 : decode prog_9_method_24_code 24 = .ok (.iconst 1, 1) := by decide +kernel
theorem dR_findRemoves_25 : decode prog_9_method_24_code 25 = .ok (.if_icmp .ne 57, 3) := by decide +kernel
theorem dR_findRemoves_28 : decode prog_9_method_24_code 28 = .ok (.iload 4, 2) := by decide +kernel
theorem dR_findRemoves_30 : decode prog_9_method_24_code 30 = .ok (.iconst 1, 1) := by decide +kernel
theorem dR_findRemoves_31 : decode prog_9_method_24_code 31 = .ok (.aload_n 0, 1) := by decide +kernel
theorem dR_findRemoves_32 : decode prog_9_method_24_code 32 = .ok (.getfield 38, 3) := by decide +kernel
theorem dR_findRemoves_35 : decode prog_9_method_24_code 35 = .ok (.iload_n 1, 1) := by decide +kernel
theorem dR_findRemoves_36 : decode prog_9_method_24_code 36 = .ok (.iconst 1, 1) := by decide +kernel
theorem dR_findRemoves_37 : decode prog_9_method_24_code 37 = .ok (.isub, 1) := by decide +kernel
theorem dR_findRemoves_38 : decode prog_9_method_24_code 38 = .ok (.iaload, 1) := by decide +kernel
theorem dR_findRemoves_39 : decode prog_9_method_24_code 39 = .ok (.ishl, 1) := by decide +kernel
theorem dR_findRemoves_40 : decode prog_9_method_24_code 40 = .ok (.if_icmp .ge 42, 3) := by decide +kernel
theorem dR_findRemoves_43 : decode prog_9_method_24_code 43 = .ok (.aload_n 0, 1) := by decide +kernel
theorem dR_findRemoves_44 : decode prog_9_method_24_code 44 = .ok (.getfield 65, 3) := by decide +kernel
theorem dR_findRemoves_47 : decode prog_9_method_24_code 47 = .ok (.bipush 31, 2) := by decide +kernel
theorem dR_findRemoves_49 : decode prog_9_method_24_code 49 = .ok (.iload_n 1, 1) := by decide +kernel
theorem dR_findRemoves_50 : decode prog_9_method_24_code 50 = .ok (.iconst 1, 1) := by decide +kernel
theorem dR_findRemoves_51 : decode prog_9_method_24_code 51 = .ok (.isub, 1) := by decide +kernel
theorem dR_findRemoves_52 : decode prog_9_method_24_code 52 = .ok (.imul, 1) := by decide +kernel
theorem dR_findRemoves_53 : decode prog_9_method_24_code 53 = .ok (.iconst 2, 1) := by decide +kernel
theorem dR_findRemoves_54 : decode prog_9_method_24_code 54 = .ok (.iload 4, 2) := by decide +kernel
theorem dR_findRemoves_56 : decode prog_9_method_24_code 56 = .ok (.imul, 1) := by decide +kernel
theorem dR_findRemoves_57 : decode prog_9_method_24_code 57 = .ok (.iadd, 1) := by decide +kernel
theorem dR_findRemoves_58 : decode prog_9_method_24_code 58 = .ok (.iaload, 1) := by decide +kernel
theorem dR_findRemoves_59 : decode prog_9_method_24_code 59 = .ok (.iconst (-1), 1) := by decide +kernel
theorem dR_findRemoves_60 : decode prog_9_method_24_code 60 = .ok (.if_icmp .eq 22, 3) := by decide +kernel
theorem dR_findRemoves_63 : decode prog_9_method_24_code 63 = .ok (.iload 4, 2) := by decide +kernel
theorem dR_findRemoves_65 : decode prog_9_method_24_code 65 = .ok (.iload_n 2, 1) := by decide +kernel
theorem dR_findRemoves_66 : decode prog_9_method_24_code 66 = .ok (.if_icmp .eq 16, 3) := by decide +kernel
theorem dR_findRemoves_69 : decode prog_9_method_24_code 69 = .ok (.aload_n 0, 1) := by decide +kernel
theorem dR_findRemoves_70 : decode prog_9_method_24_code 70 = .ok (.getfield 50, 3) := by decide +kernel
theorem dR_findRemoves_73 : decode prog_9_method_24_code 73 = .ok (.iload_n 1, 1) := by decide +kernel
theorem dR_findRemoves_74 : decode prog_9_method_24_code 74 = .ok (.dup2, 1) := by decide +kernel
theorem dR_findRemoves_75 : decode prog_9_method_24_code 75 = .ok (.iaload, 1) := by decide +kernel
theorem dR_findRemoves_76 : decode prog_9_method_24_code 76 = .ok (.iconst 1, 1) := by decide +kernel
theorem dR_findRemoves_77 : decode prog_9_method_24_code 77 = .ok (.iload 4, 2) := by decide +kernel
theorem dR_findRemoves_79 : decode prog_9_method_24_code 79 = .ok (.ishl, 1) := by decide +kernel
theorem dR_findRemoves_80 : decode prog_9_method_24_code 80 = .ok (.ior, 1) := by decide +kernel
theorem dR_findRemoves_81 : decode prog_9_method_24_code 81 = .ok (.iastore, 1) := by decide +kernel
theorem dR_findRemoves_82 : decode prog_9_method_24_code 82 = .ok (.iinc 3 1, 3) := by decide +kernel
theorem dR_findRemoves_85 : decode prog_9_method_24_code 85 = .ok (.goto (-83), 3) := by decide +kernel
theorem dR_findRemoves_88 : decode prog_9_method_24_code 88 = .ok (.return_, 1) := by decide +kernel
theorem dR_findUpdates_0 : decode prog_9_method_25_code 0 = .ok (.iconst 0, 1) := by decide +kernel
theorem dR_findUpdates_1 : decode prog_9_method_25_code 1 = .ok (.istore_n 3, 1) := by decide +kernel
theorem dR_findUpdates_2 : decode prog_9_method_25_code 2 = .ok (.iload_n 3, 1) := by decide +kernel
theorem dR_findUpdates_3 : decode prog_9_method_25_code 3 = .ok (.aload_n 0, 1) := by decide +kernel
theorem dR_findUpdates_4 : decode prog_9_method_25_code 4 = .ok (.getfield 195, 3) := by decide +kernel
theorem dR_findUpdates_7 : decode prog_9_method_25_code 7 = .ok (.if_icmp .ge 82, 3) := by decide +kernel
theorem dR_findUpdates_10 : decode prog_9_method_25_code 10 = .ok (.aload_n 0, 1) := by decide +kernel
theorem dR_findUpdates_11 : decode prog_9_method_25_code 11 = .ok (.getfield 83, 3) := by decide +kernel
theorem dR_findUpdates_14 : decode prog_9_method_25_code 14 = .ok (.aload_n 0, 1) := by decide +kernel
theorem dR_findUpdates_15 : decode prog_9_method_25_code 15 = .ok (.getfield 125, 3) := by decide +kernel
theorem dR_findUpdates_18 : decode prog_9_method_25_code 18 = .ok (.iload_n 3, 1) := by decide +kernel
theorem dR_findUpdates_19 : decode prog_9_method_25_code 19 = .ok (.iaload, 1) := by decide +kernel
theorem dR_findUpdates_20 : decode prog_9_method_25_code 20 = .ok (.iaload, 1) := by decide +kernel
theorem dR_findUpdates_21 : decode prog_9_method_25_code 21 = .ok (.istore 4, 2) := by decide +kernel
theorem dR_findUpdates_23 : decode prog_9_method_25_code 23 = .ok (.aload_n 0, 1) := by decide +kernel
theorem dR_findUpdates_24 : decode prog_9_method_25_code 24 = .ok (.getfield 122, 3) := by decide +kernel
theorem dR_findUpdates_27 : decode prog_9_method_25_code 27 = .ok (.iload_n 3, 1) := by decide +kernel
theorem dR_findUpdates_28 : decode prog_9_method_25_code 28 = .ok (.iaload, 1) := by decide +kernel
theorem dR_findUpdates_29 : decode prog_9_method_25_code 29 = .ok (.iconst 2, 1) := by decide +kernel
theorem dR_findUpdates_30 : decode prog_9_method_25_code 30 = .ok (.if_icmp .ne 53, 3) := by decide +kernel
theorem dR_findUpdates_33 : decode prog_9_method_25_code 33 = .ok (.iload 4, 2) := by decide +kernel
theorem dR_findUpdates_35 : decode prog_9_method_25_code 35 = .ok (.iload_n 2, 1) := by decide +kernel
theorem dR_findUpdates_36 : decode prog_9_method_25_code 36 = .ok (.if_icmp .eq 47, 3) := by decide +kernel
theorem dR_findUpdates_39 : decode prog_9_method_25_code 39 = .ok (.aload_n 0, 1) := by decide +kernel
theorem dR_findUpdates_40 : decode prog_9_method_25_code 40 = .ok (.getfield 50, 3) := by decide +kernel
theorem dR_findUpdates_43 : decode prog_9_method_25_code 43 = .ok (.iload_n 1, 1) := by decide +kernel
theorem dR_findUpdates_44 : decode prog_9_method_25_code 44 = .ok (.iaload, 1) := by decide +kernel
theorem dR_findUpdates_45 : decode prog_9_method_25_code 45 = .ok (.iload 4, 2) := by decide +kernel
theorem dR_findUpdates_47 : decode prog_9_method_25_code 47 = .ok (.ishr, 1) := by decide +kernel
theorem dR_findUpdates_48 : decode prog_9_method_25_code 48 = .ok (.iconst 1, 1) := by decide +kernel
theorem dR_findUpdates_49 : decode prog_9_method_25_code 49 = .ok (.iand, 1) := by decide +kernel
theorem dR_findUpdates_50 : decode prog_9_method_25_code 50 = .ok (.iconst 1, 1) := by decide +kernel
theorem dR_findUpdates_51 : decode prog_9_method_25_code 51 = .ok (.if_icmp .ne 6, 3) := by decide +kernel
theorem dR_findUpdates_54 : decode prog_9_method_25_code 54 = .ok (.goto 29, 3) := by decide +kernel
theorem dR_findUpdates_57 : decode prog_9_method_25_code 57 = .ok (.aload_n 0, 1) := by decide +kernel
theorem dR_findUpdates_58 : decode prog_9_method_25_code 58 = .ok (.getfield 53, 3) := by decide +kernel
theorem dR_findUpdates_61 : decode prog_9_method_25_code 61 = .ok (.iload_n 1, 1) := by decide +kernel
theorem dR_findUpdates_62 : decode prog_9_method_25_code 62 = .ok (.dup2, 1) := by decide +kernel
theorem dR_findUpdates_63 : decode prog_9_method_25_code 63 = .ok (.iaload, 1) := by decide +kernel
theorem dR_findUpdates_64 : decode prog_9_method_25_code 64 = .ok (.iconst 1, 1) := by decide +kernel
theorem dR_findUpdates_65 : decode prog_9_method_25_code 65 = .ok (.iload 4, 2) := by decide +kernel
theorem dR_findUpdates_67 : decode prog_9_method_25_code 67 = .ok (.ishl, 1) := by decide +kernel
theorem dR_findUpdates_68 : decode prog_9_method_25_code 68 = .ok (.ior, 1) := by decide +kernel
theorem dR_findUpdates_69 : decode prog_9_method_25_code 69 = .ok (.iastore, 1) := by decide +kernel
theorem dR_findUpdates_70 : decode prog_9_method_25_code 70 = .ok (.aload_n 0, 1) := by decide +kernel
theorem dR_findUpdates_71 : decode prog_9_method_25_code 71 = .ok (.getfield 140, 3) := by decide +kernel
theorem dR_findUpdates_74 : decode prog_9_method_25_code 74 = .ok (.iload 4, 2) := by decide +kernel
theorem dR_findUpdates_76 : decode prog_9_method_25_code 76 = .ok (.aload_n 0, 1) := by decide +kernel
theorem dR_findUpdates_77 : decode prog_9_method_25_code 77 = .ok (.getfield 128, 3) := by decide +kernel
theorem dR_findUpdates_80 : decode prog_9_method_25_code 80 = .ok (.iload_n 3, 1) := by decide +kernel
theorem dR_findUpdates_81 : decode prog_9_method_25_code 81 = .ok (.iaload, 1) := by decide +kernel
theorem dR_findUpdates_82 : decode prog_9_method_25_code 82 = .ok (.iastore, 1) := by decide +kernel
theorem dR_findUpdates_83 : decode prog_9_method_25_code 83 = .ok (.iinc 3 1, 3) := by decide +kernel
theorem dR_findUpdates_86 : decode prog_9_method_25_code 86 = .ok (.goto (-84), 3) := by decide +kernel
theorem dR_findUpdates_89 : decode prog_9_method_25_code 89 = .ok (.return_, 1) := by decide +kernel
theorem dR_doRemoves_0 : decode prog_9_method_26_code 0 = .ok (.iconst 0, 1) := by decide +kernel
theorem dR_doRemoves_1 : decode prog_9_method_26_code 1 = .ok (.istore_n 2, 1) := by decide +kernel
theorem dR_doRemoves_2 : decode prog_9_method_26_code 2 = .ok (.iload_n 2, 1) := by decide +kernel
theorem dR_doRemoves_3 : decode prog_9_method_26_code 3 = .ok (.bipush 16, 2) := by decide +kernel
theorem dR_doRemoves_5 : decode prog_9_method_26_code 5 = .ok (.if_icmp .ge 51, 3) := by decide +kernel
theorem dR_doRemoves_8 : decode prog_9_method_26_code 8 = .ok (.aload_n 0, 1) := by decide +kernel
theorem dR_doRemoves_9 : decode prog_9_method_26_code 9 = .ok (.getfield 50, 3) := by decide +kernel
theorem dR_doRemoves_12 : decode prog_9_method_26_code 12 = .ok (.iload_n 1, 1) := by decide +kernel
theorem dR_doRemoves_13 : decode prog_9_method_26_code 13 = .ok (.iaload, 1) := by decide +kernel
theorem dR_doRemoves_14 : decode prog_9_method_26_code 14 = .ok (.iload_n 2, 1) := by decide +kernel
theorem dR_doRemoves_15 : decode prog_9_method_26_code 15 = .ok (.ishr, 1) := by decide +kernel
theorem dR_doRemoves_16 : decode prog_9_method_26_code 16 = .ok (.iconst 1, 1) := by decide +kernel
theorem dR_doRemoves_17 : decode prog_9_method_26_code 17 = .ok (.iand, 1) := by decide +kernel
theorem dR_doRemoves_18 : decode prog_9_method_26_code 18 = .ok (.ifCond .ne 6, 3) := by decide +kernel
theorem dR_doRemoves_21 : decode prog_9_method_26_code 21 = .ok (.goto 29, 3) := by decide +kernel
theorem dR_doRemoves_24 : decode prog_9_method_26_code 24 = .ok (.aload_n 0, 1) := by decide +kernel
theorem dR_doRemoves_25 : decode prog_9_method_26_code 25 = .ok (.iload_n 1, 1) := by decide +kernel
theorem dR_doRemoves_26 : decode prog_9_method_26_code 26 = .ok (.iconst 2, 1) := by decide +kernel
theorem dR_doRemoves_27 : decode prog_9_method_26_code 27 = .ok (.iload_n 2, 1) := by decide +kernel
theorem dR_doRemoves_28 : decode prog_9_method_26_code 28 = .ok (.imul, 1) := by decide +kernel
theorem dR_doRemoves_29 : decode prog_9_method_26_code 29 = .ok (.invokevirtual 172, 3) := by decide +kernel
theorem dR_doRemoves_32 : decode prog_9_method_26_code 32 = .ok (.aload_n 0, 1) := by decide +kernel
theorem dR_doRemoves_33 : decode prog_9_method_26_code 33 = .ok (.iload_n 1, 1) := by decide +kernel
theorem dR_doRemoves_34 : decode prog_9_method_26_code 34 = .ok (.iload_n 2, 1) := by decide +kernel
theorem dR_doRemoves_35 : decode prog_9_method_26_code 35 = .ok (.invokevirtual 198, 3) := by decide +kernel
theorem dR_doRemoves_38 : decode prog_9_method_26_code 38 = .ok (.aload_n 0, 1) := by decide +kernel
theorem dR_doRemoves_39 : decode prog_9_method_26_code 39 = .ok (.getfield 77, 3) := by decide +kernel
theorem dR_doRemoves_42 : decode prog_9_method_26_code 42 = .ok (.bipush 16, 2) := by decide +kernel
theorem dR_doRemoves_44 : decode prog_9_method_26_code 44 = .ok (.iload_n 1, 1) := by decide +kernel
theorem dR_doRemoves_45 : decode prog_9_method_26_code 45 = .ok (.imul, 1) := by decide +kernel
theorem dR_doRemoves_46 : decode prog_9_method_26_code 46 = .ok (.iload_n 2, 1) := by decide +kernel
theorem dR_doRemoves_47 : decode prog_9_method_26_code 47 = .ok (.iadd, 1) := by decide +kernel
theorem dR_doRemoves_48 : decode prog_9_method_26_code 48 = .ok (.iconst (-1), 1) := by decide +kernel
theorem dR_doRemoves_49 : decode prog_9_method_26_code 49 = .ok (.iastore, 1) := by decide +kernel
theorem dR_doRemoves_50 : decode prog_9_method_26_code 50 = .ok (.iinc 2 1, 3) := by decide +kernel
theorem dR_doRemoves_53 : decode prog_9_method_26_code 53 = .ok (.goto (-51), 3) := by decide +kernel
theorem dR_doRemoves_56 : decode prog_9_method_26_code 56 = .ok (.aload_n 0, 1) := by decide +kernel
theorem dR_doRemoves_57 : decode prog_9_method_26_code 57 = .ok (.getfield 38, 3) := by decide +kernel
theorem dR_doRemoves_60 : decode prog_9_method_26_code 60 = .ok (.iload_n 1, 1) := by decide +kernel
theorem dR_doRemoves_61 : decode prog_9_method_26_code 61 = .ok (.iaload, 1) := by decide +kernel
theorem dR_doRemoves_62 : decode prog_9_method_26_code 62 = .ok (.ifCond .le 48, 3) := by decide +kernel
theorem dR_doRemoves_65 : decode prog_9_method_26_code 65 = .ok (.aload_n 0, 1) := by decide +kernel
theorem dR_doRemoves_66 : decode prog_9_method_26_code 66 = .ok (.iload_n 1, 1) := by decide +kernel
theorem dR_doRemoves_67 : decode prog_9_method_26_code 67 = .ok (.invokevirtual 201, 3) := by decide +kernel
theorem dR_doRemoves_70 : decode prog_9_method_26_code 70 = .ok (.ifCond .eq 40, 3) := by decide +kernel
theorem dR_doRemoves_73 : decode prog_9_method_26_code 73 = .ok (.aload_n 0, 1) := by decide +kernel
theorem dR_doRemoves_74 : decode prog_9_method_26_code 74 = .ok (.getfield 38, 3) := by decide +kernel
theorem dR_doRemoves_77 : decode prog_9_method_26_code 77 = .ok (.iload_n 1, 1) := by decide +kernel
theorem dR_doRemoves_78 : decode prog_9_method_26_code 78 = .ok (.dup2, 1) := by decide +kernel
theorem dR_doRemoves_79 : decode prog_9_method_26_code 79 = .ok (.iaload, 1) := by decide +kernel
theorem dR_doRemoves_80 : decode prog_9_method_26_code 80 = .ok (.iconst 1, 1) := by decide +kernel
theorem dR_doRemoves_81 : decode prog_9_method_26_code 81 = .ok (.isub, 1) := by decide +kernel
theorem dR_doRemoves_82 : decode prog_9_method_26_code 82 = .ok (.iastore, 1) := by decide +kernel
theorem dR_doRemoves_83 : decode prog_9_method_26_code 83 = .ok (.aload_n 0, 1) := by decide +kernel
theorem dR_doRemoves_84 : decode prog_9_method_26_code 84 = .ok (.iload_n 1, 1) := by decide +kernel
theorem dR_doRemoves_85 : decode prog_9_method_26_code 85 = .ok (.invokevirtual 192, 3) := by decide +kernel
theorem dR_doRemoves_88 : decode prog_9_method_26_code 88 = .ok (.istore_n 2, 1) := by decide +kernel
theorem dR_doRemoves_89 : decode prog_9_method_26_code 89 = .ok (.iload_n 2, 1) := by decide +kernel
theorem dR_doRemoves_90 : decode prog_9_method_26_code 90 = .ok (.bipush 31, 2) := by decide +kernel
theorem dR_doRemoves_92 : decode prog_9_method_26_code 92 = .ok (.if_icmp .ge 15, 3) := by decide +kernel
theorem dR_doRemoves_95 : decode prog_9_method_26_code 95 = .ok (.aload_n 0, 1) := by decide +kernel
theorem dR_doRemoves_96 : decode prog_9_method_26_code 96 = .ok (.iload_n 1, 1) := by decide +kernel
theorem dR_doRemoves_97 : decode prog_9_method_26_code 97 = .ok (.iload_n 2, 1) := by decide +kernel
theorem dR_doRemoves_98 : decode prog_9_method_26_code 98 = .ok (.invokevirtual 172, 3) := by decide +kernel
theorem dR_doRemoves_101 : decode prog_9_method_26_code 101 = .ok (.iinc 2 1, 3) := by decide +kernel
theorem dR_doRemoves_104 : decode prog_9_method_26_code 104 = .ok (.goto (-15), 3) := by decide +kernel
theorem dR_doRemoves_107 : decode prog_9_method_26_code 107 = .ok (.goto (-51), 3) := by decide +kernel
theorem dR_doRemoves_110 : decode prog_9_method_26_code 110 = .ok (.return_, 1) := by decide +kernel
theorem dR_blank_0 : decode prog_9_method_12_code 0 = .ok (.aload_n 0, 1) := by decide +kernel
theorem dR_blank_1 : decode prog_9_method_12_code 1 = .ok (.getfield 65, 3) := by decide +kernel
theorem dR_blank_4 : decode prog_9_method_12_code 4 = .ok (.bipush 31, 2) := by decide +kernel
theorem dR_blank_6 : decode prog_9_method_12_code 6 = .ok (.iload_n 1, 1) := by decide +kernel
theorem dR_blank_7 : decode prog_9_method_12_code 7 = .ok (.imul, 1) := by decide +kernel
theorem dR_blank_8 : decode prog_9_method_12_code 8 = .ok (.iload_n 2, 1) := by decide +kernel
theorem dR_blank_9 : decode prog_9_method_12_code 9 = .ok (.iadd, 1) := by decide +kernel
theorem dR_blank_10 : decode prog_9_method_12_code 10 = .ok (.iconst (-1), 1) := by decide +kernel
theorem dR_blank_11 : decode prog_9_method_12_code 11 = .ok (.iastore, 1) := by decide +kernel
theorem dR_blank_12 : decode prog_9_method_12_code 12 = .ok (.aload_n 0, 1) := by decide +kernel
theorem dR_blank_13 : decode prog_9_method_12_code 13 = .ok (.getfield 68, 3) := by decide +kernel
theorem dR_blank_16 : decode prog_9_method_12_code 16 = .ok (.bipush 31, 2) := by decide +kernel
theorem dR_blank_18 : decode prog_9_method_12_code 18 = .ok (.iload_n 1, 1) := by decide +kernel
theorem dR_blank_19 : decode prog_9_method_12_code 19 = .ok (.imul, 1) := by decide +kernel
theorem dR_blank_20 : decode prog_9_method_12_code 20 = .ok (.iload_n 2, 1) := by decide +kernel
theorem dR_blank_21 : decode prog_9_method_12_code 21 = .ok (.iadd, 1) := by decide +kernel
theorem dR_blank_22 : decode prog_9_method_12_code 22 = .ok (.iconst 0, 1) := by decide +kernel
theorem dR_blank_23 : decode prog_9_method_12_code 23 = .ok (.iastore, 1) := by decide +kernel
theorem dR_blank_24 : decode prog_9_method_12_code 24 = .ok (.return_, 1) := by decide +kernel
theorem dR_blankPath_0 : decode prog_9_method_13_code 0 = .ok (.iconst 1, 1) := by decide +kernel
theorem dR_blankPath_1 : decode prog_9_method_13_code 1 = .ok (.istore_n 3, 1) := by decide +kernel
theorem dR_blankPath_2 : decode prog_9_method_13_code 2 = .ok (.iload_n 3, 1) := by decide +kernel
theorem dR_blankPath_3 : decode prog_9_method_13_code 3 = .ok (.aload_n 0, 1) := by decide +kernel
theorem dR_blankPath_4 : decode prog_9_method_13_code 4 = .ok (.getfield 38, 3) := by decide +kernel
theorem dR_blankPath_7 : decode prog_9_method_13_code 7 = .ok (.iload_n 1, 1) := by decide +kernel
theorem dR_blankPath_8 : decode prog_9_method_13_code 8 = .ok (.iaload, 1) := by decide +kernel
theorem dR_blankPath_9 : decode prog_9_method_13_code 9 = .ok (.if_icmp .gt 19, 3) := by decide +kernel
theorem dR_blankPath_12 : decode prog_9_method_13_code 12 = .ok (.aload_n 0, 1) := by decide +kernel
theorem dR_blankPath_13 : decode prog_9_method_13_code 13 = .ok (.iload_n 1, 1) := by decide +kernel
theorem dR_blankPath_14 : decode prog_9_method_13_code 14 = .ok (.iload_n 2, 1) := by decide +kernel
theorem dR_blankPath_15 : decode prog_9_method_13_code 15 = .ok (.iload_n 3, 1) := by decide +kernel
theorem dR_blankPath_16 : decode prog_9_method_13_code 16 = .ok (.invokestatic 168, 3) := by decide +kernel
theorem dR_blankPath_19 : decode prog_9_method_13_code 19 = .ok (.invokevirtual 172, 3) := by decide +kernel
theorem dR_blankPath_22 : decode prog_9_method_13_code 22 = .ok (.iinc 3 1, 3) := by decide +kernel
theorem dR_blankPath_25 : decode prog_9_method_13_code 25 = .ok (.goto (-23), 3) := by decide +kernel
theorem dR_blankPath_28 : decode prog_9_method_13_code 28 = .ok (.return_, 1) := by decide +kernel
theorem dR_above_0 : decode prog_9_method_9_code 0 = .ok (.iload_n 0, 1) := by decide +kernel
theorem dR_above_1 : decode prog_9_method_9_code 1 = .ok (.iload_n 1, 1) := by decide +kernel
theorem dR_above_2 : decode prog_9_method_9_code 2 = .ok (.ishr, 1) := by decide +kernel
theorem dR_above_3 : decode prog_9_method_9_code 3 = .ok (.iload_n 1, 1) := by decide +kernel
theorem dR_above_4 : decode prog_9_method_9_code 4 = .ok (.iconst 1, 1) := by decide +kernel
theorem dR_above_5 : decode prog_9_method_9_code 5 = .ok (.iadd, 1) := by decide +kernel
theorem dR_above_6 : decode prog_9_method_9_code 6 = .ok (.ishl, 1) := by decide +kernel
theorem dR_above_7 : decode prog_9_method_9_code 7 = .ok (.iconst 1, 1) := by decide +kernel
theorem dR_above_8 : decode prog_9_method_9_code 8 = .ok (.iload_n 1, 1) := by decide +kernel
theorem dR_above_9 : decode prog_9_method_9_code 9 = .ok (.ishl, 1) := by decide +kernel
theorem dR_above_10 : decode prog_9_method_9_code 10 = .ok (.iadd, 1) := by decide +kernel
theorem dR_above_11 : decode prog_9_method_9_code 11 = .ok (.iconst 1, 1) := by decide +kernel
theorem dR_above_12 : decode prog_9_method_9_code 12 = .ok (.isub, 1) := by decide +kernel
theorem dR_above_13 : decode prog_9_method_9_code 13 = .ok (.ireturn, 1) := by decide +kernel
theorem dR_isRightBlank_0 : decode prog_9_method_16_code 0 = .ok (.iconst 1, 1) := by decide +kernel
theorem dR_isRightBlank_1 : decode prog_9_method_16_code 1 = .ok (.aload_n 0, 1) := by decide +kernel
theorem dR_isRightBlank_2 : decode prog_9_method_16_code 2 = .ok (.getfield 38, 3) := by decide +kernel
theorem dR_isRightBlank_5 : decode prog_9_method_16_code 5 = .ok (.iload_n 1, 1) := by decide +kernel
theorem dR_isRightBlank_6 : decode prog_9_method_16_code 6 = .ok (.iaload, 1) := by decide +kernel
theorem dR_isRightBlank_7 : decode prog_9_method_16_code 7 = .ok (.iconst 1, 1) := by decide +kernel
theorem dR_isRightBlank_8 : decode prog_9_method_16_code 8 = .ok (.isub, 1) := by decide +kernel
theorem dR_isRightBlank_9 : decode prog_9_method_16_code 9 = .ok (.ishl, 1) := by decide +kernel
theorem dR_isRightBlank_10 : decode prog_9_method_16_code 10 = .ok (.istore_n 2, 1) := by decide +kernel
theorem dR_isRightBlank_11 : decode prog_9_method_16_code 11 = .ok (.iload_n 2, 1) := by decide +kernel
theorem dR_isRightBlank_12 : decode prog_9_method_16_code 12 = .ok (.istore_n 3, 1) := by decide +kernel
theorem dR_isRightBlank_13 : decode prog_9_method_16_code 13 = .ok (.iload_n 3, 1) := by decide +kernel
theorem dR_isRightBlank_14 : decode prog_9_method_16_code 14 = .ok (.iconst 2, 1) := by decide +kernel
theorem dR_isRightBlank_15 : decode prog_9_method_16_code 15 = .ok (.iload_n 2, 1) := by decide +kernel
theorem dR_isRightBlank_16 : decode prog_9_method_16_code 16 = .ok (.imul, 1) := by decide +kernel
theorem dR_isRightBlank_17 : decode prog_9_method_16_code 17 = .ok (.if_icmp .ge 28, 3) := by decide +kernel
theorem dR_isRightBlank_20 : decode prog_9_method_16_code 20 = .ok (.aload_n 0, 1) := by decide +kernel
theorem dR_isRightBlank_21 : decode prog_9_method_16_code 21 = .ok (.getfield 65, 3) := by decide +kernel
theorem dR_isRightBlank_24 : decode prog_9_method_16_code 24 = .ok (.bipush 31, 2) := by decide +kernel
theorem dR_isRightBlank_26 : decode prog_9_method_16_code 26 = .ok (.iload_n 1, 1) := by decide +kernel
theorem dR_isRightBlank_27 : decode prog_9_method_16_code 27 = .ok (.imul, 1) := by decide +kernel
theorem dR_isRightBlank_28 : decode prog_9_method_16_code 28 = .ok (.iconst 2, 1) := by decide +kernel
theorem dR_isRightBlank_29 : decode prog_9_method_16_code 29 = .ok (.iload_n 3, 1) := by decide +kernel
theorem dR_isRightBlank_30 : decode prog_9_method_16_code 30 = .ok (.imul, 1) := by decide +kernel
theorem dR_isRightBlank_31 : decode prog_9_method_16_code 31 = .ok (.iadd, 1) := by decide +kernel
theorem dR_isRightBlank_32 : decode prog_9_method_16_code 32 = .ok (.iaload, 1) := by decide +kernel
theorem dR_isRightBlank_33 : decode prog_9_method_16_code 33 = .ok (.iconst (-1), 1) := by decide +kernel
theorem dR_isRightBlank_34 : decode prog_9_method_16_code 34 = .ok (.if_icmp .eq 5, 3) := by decide +kernel
theorem dR_isRightBlank_37 : decode prog_9_method_16_code 37 = .ok (.iconst 0, 1) := by decide +kernel
theorem dR_isRightBlank_38 : decode prog_9_method_16_code 38 = .ok (.ireturn, 1) := by decide +kernel
theorem dR_isRightBlank_39 : decode prog_9_method_16_code 39 = .ok (.iinc 3 1, 3) := by decide +kernel
theorem dR_isRightBlank_42 : decode prog_9_method_16_code 42 = .ok (.goto (-29), 3) := by decide +kernel
theorem dR_isRightBlank_45 : decode prog_9_method_16_code 45 = .ok (.iconst 1, 1) := by decide +kernel
theorem dR_isRightBlank_46 : decode prog_9_method_16_code 46 = .ok (.ireturn, 1) := by decide +kernel
theorem dR_doUpdates_0 : decode prog_9_method_27_code 0 = .ok (.iconst 0, 1) := by decide +kernel
theorem dR_doUpdates_1 : decode prog_9_method_27_code 1 = .ok (.istore_n 2, 1) := by decide +kernel
theorem dR_doUpdates_2 : decode prog_9_method_27_code 2 = .ok (.iload_n 2, 1) := by decide +kernel
theorem dR_doUpdates_3 : decode prog_9_method_27_code 3 = .ok (.bipush 16, 2) := by decide +kernel
theorem dR_doUpdates_5 : decode prog_9_method_27_code 5 = .ok (.if_icmp .ge 45, 3) := by decide +kernel
theorem dR_doUpdates_8 : decode prog_9_method_27_code 8 = .ok (.aload_n 0, 1) := by decide +kernel
theorem dR_doUpdates_9 : decode prog_9_method_27_code 9 = .ok (.getfield 53, 3) := by decide +kernel
theorem dR_doUpdates_12 : decode prog_9_method_27_code 12 = .ok (.iload_n 1, 1) := by decide +kernel
theorem dR_doUpdates_13 : decode prog_9_method_27_code 13 = .ok (.iaload, 1) := by decide +kernel
theorem dR_doUpdates_14 : decode prog_9_method_27_code 14 = .ok (.iload_n 2, 1) := by decide +kernel
theorem dR_doUpdates_15 : decode prog_9_method_27_code 15 = .ok (.ishr, 1) := by decide +kernel
theorem dR_doUpdates_16 : decode prog_9_method_27_code 16 = .ok (.iconst 1, 1) := by decide +kernel
theorem dR_doUpdates_17 : decode prog_9_method_27_code 17 = .ok (.iand, 1) := by decide +kernel
theorem dR_doUpdates_18 : decode prog_9_method_27_code 18 = .ok (.ifCond .ne 6, 3) := by decide +kernel
theorem dR_doUpdates_21 : decode prog_9_method_27_code 21 = .ok (.goto 23, 3) := by decide +kernel
theorem dR_doUpdates_24 : decode prog_9_method_27_code 24 = .ok (.aload_n 0, 1) := by decide +kernel
theorem dR_doUpdates_25 : decode prog_9_method_27_code 25 = .ok (.iload_n 1, 1) := by decide +kernel
theorem dR_doUpdates_26 : decode prog_9_method_27_code 26 = .ok (.iconst 2, 1) := by decide +kernel
theorem dR_doUpdates_27 : decode prog_9_method_27_code 27 = .ok (.iload_n 2, 1) := by decide +kernel
theorem dR_doUpdates_28 : decode prog_9_method_27_code 28 = .ok (.imul, 1) := by decide +kernel
theorem dR_doUpdates_29 : decode prog_9_method_27_code 29 = .ok (.aload_n 0, 1) := by decide +kernel
theorem dR_doUpdates_30 : decode prog_9_method_27_code 30 = .ok (.getfield 140, 3) := by decide +kernel
theorem dR_doUpdates_33 : decode prog_9_method_27_code 33 = .ok (.iload_n 2, 1) := by decide +kernel
theorem dR_doUpdates_34 : decode prog_9_method_27_code 34 = .ok (.iaload, 1) := by decide +kernel
theorem dR_doUpdates_35 : decode prog_9_method_27_code 35 = .ok (.invokevirtual 204, 3) := by decide +kernel
theorem dR_doUpdates_38 : decode prog_9_method_27_code 38 = .ok (.aload_n 0, 1) := by decide +kernel
theorem dR_doUpdates_39 : decode prog_9_method_27_code 39 = .ok (.iload_n 1, 1) := by decide +kernel
theorem dR_doUpdates_40 : decode prog_9_method_27_code 40 = .ok (.iload_n 2, 1) := by decide +kernel
theorem dR_doUpdates_41 : decode prog_9_method_27_code 41 = .ok (.invokevirtual 198, 3) := by decide +kernel
theorem dR_doUpdates_44 : decode prog_9_method_27_code 44 = .ok (.iinc 2 1, 3) := by decide +kernel
theorem dR_doUpdates_47 : decode prog_9_method_27_code 47 = .ok (.goto (-45), 3) := by decide +kernel
theorem dR_doUpdates_50 : decode prog_9_method_27_code 50 = .ok (.return_, 1) := by decide +kernel
theorem dR_set_0 : decode prog_9_method_14_code 0 = .ok (.aload_n 0, 1) := by decide +kernel
theorem dR_set_1 : decode prog_9_method_14_code 1 = .ok (.getfield 65, 3) := by decide +kernel
theorem dR_set_4 : decode prog_9_method_14_code 4 = .ok (.bipush 31, 2) := by decide +kernel
theorem dR_set_6 : decode prog_9_method_14_code 6 = .ok (.iload_n 1, 1) := by decide +kernel
theorem dR_set_7 : decode prog_9_method_14_code 7 = .ok (.imul, 1) := by decide +kernel
theorem dR_set_8 : decode prog_9_method_14_code 8 = .ok (.iload_n 2, 1) := by decide +kernel
theorem dR_set_9 : decode prog_9_method_14_code 9 = .ok (.iadd, 1) := by decide +kernel
theorem dR_set_10 : decode prog_9_method_14_code 10 = .ok (.iload_n 3, 1) := by decide +kernel
theorem dR_set_11 : decode prog_9_method_14_code 11 = .ok (.iastore, 1) := by decide +kernel
theorem dR_set_12 : decode prog_9_method_14_code 12 = .ok (.aload_n 0, 1) := by decide +kernel
theorem dR_set_13 : decode prog_9_method_14_code 13 = .ok (.getfield 68, 3) := by decide +kernel
theorem dR_set_16 : decode prog_9_method_14_code 16 = .ok (.bipush 31, 2) := by decide +kernel
theorem dR_set_18 : decode prog_9_method_14_code 18 = .ok (.iload_n 1, 1) := by decide +kernel
theorem dR_set_19 : decode prog_9_method_14_code 19 = .ok (.imul, 1) := by decide +kernel
theorem dR_set_20 : decode prog_9_method_14_code 20 = .ok (.iload_n 2, 1) := by decide +kernel
theorem dR_set_21 : decode prog_9_method_14_code 21 = .ok (.iadd, 1) := by decide +kernel
theorem dR_set_22 : decode prog_9_method_14_code 22 = .ok (.iconst 0, 1) := by decide +kernel
theorem dR_set_23 : decode prog_9_method_14_code 23 = .ok (.iastore, 1) := by decide +kernel
theorem dR_set_24 : decode prog_9_method_14_code 24 = .ok (.aload_n 0, 1) := by decide +kernel
theorem dR_set_25 : decode prog_9_method_14_code 25 = .ok (.getfield 71, 3) := by decide +kernel
theorem dR_set_28 : decode prog_9_method_14_code 28 = .ok (.bipush 31, 2) := by decide +kernel
theorem dR_set_30 : decode prog_9_method_14_code 30 = .ok (.iload_n 1, 1) := by decide +kernel
theorem dR_set_31 : decode prog_9_method_14_code 31 = .ok (.imul, 1) := by decide +kernel
theorem dR_set_32 : decode prog_9_method_14_code 32 = .ok (.iload_n 2, 1) := by decide +kernel
theorem dR_set_33 : decode prog_9_method_14_code 33 = .ok (.iadd, 1) := by decide +kernel
theorem dR_set_34 : decode prog_9_method_14_code 34 = .ok (.iload_n 1, 1) := by decide +kernel
theorem dR_set_35 : decode prog_9_method_14_code 35 = .ok (.iastore, 1) := by decide +kernel
theorem dR_set_36 : decode prog_9_method_14_code 36 = .ok (.return_, 1) := by decide +kernel
theorem dR_doAdds_0 : decode prog_9_method_30_code 0 = .ok (.iconst 0, 1) := by decide +kernel
theorem dR_doAdds_1 : decode prog_9_method_30_code 1 = .ok (.istore_n 2, 1) := by decide +kernel
theorem dR_doAdds_2 : decode prog_9_method_30_code 2 = .ok (.iload_n 2, 1) := by decide +kernel
theorem dR_doAdds_3 : decode prog_9_method_30_code 3 = .ok (.aload_n 0, 1) := by decide +kernel
theorem dR_doAdds_4 : decode prog_9_method_30_code 4 = .ok (.getfield 195, 3) := by decide +kernel
theorem dR_doAdds_7 : decode prog_9_method_30_code 7 = .ok (.if_icmp .ge 203, 3) := by decide +kernel
theorem dR_doAdds_10 : decode prog_9_method_30_code 10 = .ok (.aload_n 0, 1) := by decide +kernel
theorem dR_doAdds_11 : decode prog_9_method_30_code 11 = .ok (.getfield 128, 3) := by decide +kernel
theorem dR_doAdds_14 : decode prog_9_method_30_code 14 = .ok (.iload_n 2, 1) := by decide +kernel
theorem dR_doAdds_15 : decode prog_9_method_30_code 15 = .ok (.iaload, 1) := by decide +kernel
theorem dR_doAdds_16 : decode prog_9_method_30_code 16 = .ok (.istore_n 3, 1) := by decide +kernel
theorem dR_doAdds_17 : decode prog_9_method_30_code 17 = .ok (.aload_n 0, 1) := by decide +kernel
theorem dR_doAdds_18 : decode prog_9_method_30_code 18 = .ok (.getfield 122, 3) := by decide +kernel
theorem dR_doAdds_21 : decode prog_9_method_30_code 21 = .ok (.iload_n 2, 1) := by decide +kernel
theorem dR_doAdds_22 : decode prog_9_method_30_code 22 = .ok (.iaload, 1) := by decide +kernel
theorem dR_doAdds_23 : decode prog_9_method_30_code 23 = .ok (.ifCond .ne 181, 3) := by decide +kernel
theorem dR_doAdds_26 : decode prog_9_method_30_code 26 = .ok (.aload_n 0, 1) := by decide +kernel
theorem dR_doAdds_27 : decode prog_9_method_30_code 27 = .ok (.iload_n 1, 1) := by decide +kernel
theorem dR_doAdds_28 : decode prog_9_method_30_code 28 = .ok (.iload_n 3, 1) := by decide +kernel
theorem dR_doAdds_29 : decode prog_9_method_30_code 29 = .ok (.invokevirtual 211, 3) := by decide +kernel
theorem dR_doAdds_32 : decode prog_9_method_30_code 32 = .ok (.ifCond .eq 172, 3) := by decide +kernel
theorem dR_doAdds_35 : decode prog_9_method_30_code 35 = .ok (.aload_n 0, 1) := by decide +kernel
theorem dR_doAdds_36 : decode prog_9_method_30_code 36 = .ok (.iload_n 1, 1) := by decide +kernel
theorem dR_doAdds_37 : decode prog_9_method_30_code 37 = .ok (.invokevirtual 215, 3) := by decide +kernel
theorem dR_doAdds_40 : decode prog_9_method_30_code 40 = .ok (.bipush 16, 2) := by decide +kernel
theorem dR_doAdds_42 : decode prog_9_method_30_code 42 = .ok (.if_icmp .ne 6, 3) := by decide +kernel
theorem dR_doAdds_45 : decode prog_9_method_30_code 45 = .ok (.goto 159, 3) := by decide +kernel
theorem dR_doAdds_48 : decode prog_9_method_30_code 48 = .ok (.aload_n 0, 1) := by decide +kernel
theorem dR_doAdds_49 : decode prog_9_method_30_code 49 = .ok (.iload_n 1, 1) := by decide +kernel
theorem dR_doAdds_50 : decode prog_9_method_30_code 50 = .ok (.invokevirtual 215, 3) := by decide +kernel
theorem dR_doAdds_53 : decode prog_9_method_30_code 53 = .ok (.istore 4, 2) := by decide +kernel
theorem dR_doAdds_55 : decode prog_9_method_30_code 55 = .ok (.iload 4, 2) := by decide +kernel
theorem dR_doAdds_57 : decode prog_9_method_30_code 57 = .ok (.iconst 1, 1) := by decide +kernel
theorem dR_doAdds_58 : decode prog_9_method_30_code 58 = .ok (.aload_n 0, 1) := by decide +kernel
theorem dR_doAdds_59 : decode prog_9_method_30_code 59 = .ok (.getfield 38, 3) := by decide +kernel
theorem dR_doAdds_62 : decode prog_9_method_30_code 62 = .ok (.iload_n 1, 1) := by decide +kernel
theorem dR_doAdds_63 : decode prog_9_method_30_code 63 = .ok (.iaload, 1) := by decide +kernel
theorem dR_doAdds_64 : decode prog_9_method_30_code 64 = .ok (.ishl, 1) := by decide +kernel
theorem dR_doAdds_65 : decode prog_9_method_30_code 65 = .ok (.if_icmp .ne 13, 3) := by decide +kernel
theorem dR_doAdds_68 : decode prog_9_method_30_code 68 = .ok (.aload_n 0, 1) := by decide +kernel
theorem dR_doAdds_69 : decode prog_9_method_30_code 69 = .ok (.getfield 38, 3) := by decide +kernel
theorem dR_doAdds_72 : decode prog_9_method_30_code 72 = .ok (.iload_n 1, 1) := by decide +kernel
theorem dR_doAdds_73 : decode prog_9_method_30_code 73 = .ok (.dup2, 1) := by decide +kernel
theorem dR_doAdds_74 : decode prog_9_method_30_code 74 = .ok (.iaload, 1) := by decide +kernel
theorem dR_doAdds_75 : decode prog_9_method_30_code 75 = .ok (.iconst 1, 1) := by decide +kernel
theorem dR_doAdds_76 : decode prog_9_method_30_code 76 = .ok (.iadd, 1) := by decide +kernel
theorem dR_doAdds_77 : decode prog_9_method_30_code 77 = .ok (.iastore, 1) := by decide +kernel
theorem dR_doAdds_78 : decode prog_9_method_30_code 78 = .ok (.aload_n 0, 1) := by decide +kernel
theorem dR_doAdds_79 : decode prog_9_method_30_code 79 = .ok (.iload_n 1, 1) := by decide +kernel
theorem dR_doAdds_80 : decode prog_9_method_30_code 80 = .ok (.iconst 2, 1) := by decide +kernel
theorem dR_doAdds_81 : decode prog_9_method_30_code 81 = .ok (.iload 4, 2) := by decide +kernel
theorem dR_doAdds_83 : decode prog_9_method_30_code 83 = .ok (.imul, 1) := by decide +kernel
theorem dR_doAdds_84 : decode prog_9_method_30_code 84 = .ok (.aload_n 0, 1) := by decide +kernel
theorem dR_doAdds_85 : decode prog_9_method_30_code 85 = .ok (.getfield 110, 3) := by decide +kernel
theorem dR_doAdds_88 : decode prog_9_method_30_code 88 = .ok (.iload_n 3, 1) := by decide +kernel
theorem dR_doAdds_89 : decode prog_9_method_30_code 89 = .ok (.iaload, 1) := by decide +kernel
theorem dR_doAdds_90 : decode prog_9_method_30_code 90 = .ok (.invokevirtual 204, 3) := by decide +kernel
theorem dR_doAdds_93 : decode prog_9_method_30_code 93 = .ok (.iconst 1, 1) := by decide +kernel
theorem dR_doAdds_94 : decode prog_9_method_30_code 94 = .ok (.istore 5, 2) := by decide +kernel
theorem dR_doAdds_96 : decode prog_9_method_30_code 96 = .ok (.iload 5, 2) := by decide +kernel
theorem dR_doAdds_98 : decode prog_9_method_30_code 98 = .ok (.aload_n 0, 1) := by decide +kernel
theorem dR_doAdds_99 : decode prog_9_method_30_code 99 = .ok (.getfield 38, 3) := by decide +kernel
theorem dR_doAdds_102 : decode prog_9_method_30_code 102 = .ok (.iload_n 1, 1) := by decide +kernel
theorem dR_doAdds_103 : decode prog_9_method_30_code 103 = .ok (.iaload, 1) := by decide +kernel
theorem dR_doAdds_104 : decode prog_9_method_30_code 104 = .ok (.if_icmp .gt 54, 3) := by decide +kernel
theorem dR_doAdds_107 : decode prog_9_method_30_code 107 = .ok (.aload_n 0, 1) := by decide +kernel
theorem dR_doAdds_108 : decode prog_9_method_30_code 108 = .ok (.getfield 65, 3) := by decide +kernel
theorem dR_doAdds_111 : decode prog_9_method_30_code 111 = .ok (.bipush 31, 2) := by decide +kernel
theorem dR_doAdds_113 : decode prog_9_method_30_code 113 = .ok (.iload_n 1, 1) := by decide +kernel
theorem dR_doAdds_114 : decode prog_9_method_30_code 114 = .ok (.imul, 1) := by decide +kernel
theorem dR_doAdds_115 : decode prog_9_method_30_code 115 = .ok (.iload 4, 2) := by decide +kernel
theorem dR_doAdds_117 : decode prog_9_method_30_code 117 = .ok (.iload 5, 2) := by decide +kernel
theorem dR_doAdds_119 : decode prog_9_method_30_code 119 = .ok (.invokestatic 168, 3) := by decide +kernel
theorem dR_doAdds_122 : decode prog_9_method_30_code 122 = .ok (.iadd, 1) := by decide +kernel
theorem dR_doAdds_123 : decode prog_9_method_30_code 123 = .ok (.iaload, 1) := by decide +kernel
theorem dR_doAdds_124 : decode prog_9_method_30_code 124 = .ok (.iconst (-1), 1) := by decide +kernel
theorem dR_doAdds_125 : decode prog_9_method_30_code 125 = .ok (.if_icmp .eq 27, 3) := by decide +kernel
theorem dR_doAdds_128 : decode prog_9_method_30_code 128 = .ok (.aload_n 0, 1) := by decide +kernel
theorem dR_doAdds_129 : decode prog_9_method_30_code 129 = .ok (.getfield 68, 3) := by decide +kernel
theorem dR_doAdds_132 : decode prog_9_method_30_code 132 = .ok (.bipush 31, 2) := by decide +kernel
theorem dR_doAdds_134 : decode prog_9_method_30_code 134 = .ok (.iload_n 1, 1) := by decide +kernel
theorem dR_doAdds_135 : decode prog_9_method_30_code 135 = .ok (.imul, 1) := by decide +kernel
theorem dR_doAdds_136 : decode prog_9_method_30_code 136 = .ok (.iload 4, 2) := by decide +kernel
theorem dR_doAdds_138 : decode prog_9_method_30_code 138 = .ok (.iload 5, 2) := by decide +kernel
theorem dR_doAdds_140 : decode prog_9_method_30_code 140 = .ok (.invokestatic 168, 3) := by decide +kernel
theorem dR_doAdds_143 : decode prog_9_method_30_code 143 = .ok (.iadd, 1) := by decide +kernel
theorem dR_doAdds_144 : decode prog_9_method_30_code 144 = .ok (.dup2, 1) := by decide +kernel
theorem dR_doAdds_145 : decode prog_9_method_30_code 145 = .ok (.iaload, 1) := by decide +kernel
theorem dR_doAdds_146 : decode prog_9_method_30_code 146 = .ok (.iconst 1, 1) := by decide +kernel
theorem dR_doAdds_147 : decode prog_9_method_30_code 147 = .ok (.iload 4, 2) := by decide +kernel
theorem dR_doAdds_149 : decode prog_9_method_30_code 149 = .ok (.ishl, 1) := by decide +kernel
theorem dR_doAdds_150 : decode prog_9_method_30_code 150 = .ok (.ior, 1) := by decide +kernel
theorem dR_doAdds_151 : decode prog_9_method_30_code 151 = .ok (.iastore, 1) := by decide +kernel
theorem dR_doAdds_152 : decode prog_9_method_30_code 152 = .ok (.iinc 5 1, 3) := by decide +kernel
theorem dR_doAdds_155 : decode prog_9_method_30_code 155 = .ok (.goto (-59), 3) := by decide +kernel
theorem dR_doAdds_158 : decode prog_9_method_30_code 158 = .ok (.aload_n 0, 1) := by decide +kernel
theorem dR_doAdds_159 : decode prog_9_method_30_code 159 = .ok (.getfield 77, 3) := by decide +kernel
theorem dR_doAdds_162 : decode prog_9_method_30_code 162 = .ok (.bipush 16, 2) := by decide +kernel
theorem dR_doAdds_164 : decode prog_9_method_30_code 164 = .ok (.iload_n 1, 1) := by decide +kernel
theorem dR_doAdds_165 : decode prog_9_method_30_code 165 = .ok (.imul, 1) := by decide +kernel
theorem dR_doAdds_166 : decode prog_9_method_30_code 166 = .ok (.iload 4, 2) := by decide +kernel
theorem dR_doAdds_168 : decode prog_9_method_30_code 168 = .ok (.iadd, 1) := by decide +kernel
theorem dR_doAdds_169 : decode prog_9_method_30_code 169 = .ok (.aload_n 0, 1) := by decide +kernel
theorem dR_doAdds_170 : decode prog_9_method_30_code 170 = .ok (.getfield 104, 3) := by decide +kernel
theorem dR_doAdds_173 : decode prog_9_method_30_code 173 = .ok (.iload_n 3, 1) := by decide +kernel
theorem dR_doAdds_174 : decode prog_9_method_30_code 174 = .ok (.iaload, 1) := by decide +kernel
theorem dR_doAdds_175 : decode prog_9_method_30_code 175 = .ok (.iastore, 1) := by decide +kernel
theorem dR_doAdds_176 : decode prog_9_method_30_code 176 = .ok (.aload_n 0, 1) := by decide +kernel
theorem dR_doAdds_177 : decode prog_9_method_30_code 177 = .ok (.getfield 56, 3) := by decide +kernel
theorem dR_doAdds_180 : decode prog_9_method_30_code 180 = .ok (.iload_n 1, 1) := by decide +kernel
theorem dR_doAdds_181 : decode prog_9_method_30_code 181 = .ok (.dup2, 1) := by decide +kernel
theorem dR_doAdds_182 : decode prog_9_method_30_code 182 = .ok (.iaload, 1) := by decide +kernel
theorem dR_doAdds_183 : decode prog_9_method_30_code 183 = .ok (.iconst 1, 1) := by decide +kernel
theorem dR_doAdds_184 : decode prog_9_method_30_code 184 = .ok (.iload 4, 2) := by decide +kernel
theorem dR_doAdds_186 : decode prog_9_method_30_code 186 = .ok (.ishl, 1) := by decide +kernel
theorem dR_doAdds_187 : decode prog_9_method_30_code 187 = .ok (.ior, 1) := by decide +kernel
theorem dR_doAdds_188 : decode prog_9_method_30_code 188 = .ok (.iastore, 1) := by decide +kernel
theorem dR_doAdds_189 : decode prog_9_method_30_code 189 = .ok (.aload_n 0, 1) := by decide +kernel
theorem dR_doAdds_190 : decode prog_9_method_30_code 190 = .ok (.getfield 113, 3) := by decide +kernel
theorem dR_doAdds_193 : decode prog_9_method_30_code 193 = .ok (.iload_n 3, 1) := by decide +kernel
theorem dR_doAdds_194 : decode prog_9_method_30_code 194 = .ok (.iload_n 1, 1) := by decide +kernel
theorem dR_doAdds_195 : decode prog_9_method_30_code 195 = .ok (.iastore, 1) := by decide +kernel
theorem dR_doAdds_196 : decode prog_9_method_30_code 196 = .ok (.aload_n 0, 1) := by decide +kernel
theorem dR_doAdds_197 : decode prog_9_method_30_code 197 = .ok (.getfield 116, 3) := by decide +kernel
theorem dR_doAdds_200 : decode prog_9_method_30_code 200 = .ok (.iload_n 3, 1) := by decide +kernel
theorem dR_doAdds_201 : decode prog_9_method_30_code 201 = .ok (.iload 4, 2) := by decide +kernel
theorem dR_doAdds_203 : decode prog_9_method_30_code 203 = .ok (.iastore, 1) := by decide +kernel
theorem dR_doAdds_204 : decode prog_9_method_30_code 204 = .ok (.iinc 2 1, 3) := by decide +kernel
theorem dR_doAdds_207 : decode prog_9_method_30_code 207 = .ok (.goto (-205), 3) := by decide +kernel
theorem dR_doAdds_210 : decode prog_9_method_30_code 210 = .ok (.return_, 1) := by decide +kernel
theorem dR_mayAdd_0 : decode prog_9_method_28_code 0 = .ok (.aload_n 0, 1) := by decide +kernel
theorem dR_mayAdd_1 : decode prog_9_method_28_code 1 = .ok (.getfield 104, 3) := by decide +kernel
theorem dR_mayAdd_4 : decode prog_9_method_28_code 4 = .ok (.iload_n 2, 1) := by decide +kernel
theorem dR_mayAdd_5 : decode prog_9_method_28_code 5 = .ok (.iaload, 1) := by decide +kernel
theorem dR_mayAdd_6 : decode prog_9_method_28_code 6 = .ok (.istore_n 3, 1) := by decide +kernel
theorem dR_mayAdd_7 : decode prog_9_method_28_code 7 = .ok (.aload_n 0, 1) := by decide +kernel
theorem dR_mayAdd_8 : decode prog_9_method_28_code 8 = .ok (.getfield 113, 3) := by decide +kernel
theorem dR_mayAdd_11 : decode prog_9_method_28_code 11 = .ok (.iload_n 2, 1) := by decide +kernel
theorem dR_mayAdd_12 : decode prog_9_method_28_code 12 = .ok (.iaload, 1) := by decide +kernel
theorem dR_mayAdd_13 : decode prog_9_method_28_code 13 = .ok (.iconst (-1), 1) := by decide +kernel
theorem dR_mayAdd_14 : decode prog_9_method_28_code 14 = .ok (.if_icmp .ne 13, 3) := by decide +kernel
theorem dR_mayAdd_17 : decode prog_9_method_28_code 17 = .ok (.aload_n 0, 1) := by decide +kernel
theorem dR_mayAdd_18 : decode prog_9_method_28_code 18 = .ok (.iload_n 1, 1) := by decide +kernel
theorem dR_mayAdd_19 : decode prog_9_method_28_code 19 = .ok (.iload_n 3, 1) := by decide +kernel
theorem dR_mayAdd_20 : decode prog_9_method_28_code 20 = .ok (.invokevirtual 208, 3) := by decide +kernel
theorem dR_mayAdd_23 : decode prog_9_method_28_code 23 = .ok (.iconst (-1), 1) := by decide +kernel
theorem dR_mayAdd_24 : decode prog_9_method_28_code 24 = .ok (.if_icmp .eq 5, 3) := by decide +kernel
theorem dR_mayAdd_27 : decode prog_9_method_28_code 27 = .ok (.iconst 0, 1) := by decide +kernel
theorem dR_mayAdd_28 : decode prog_9_method_28_code 28 = .ok (.ireturn, 1) := by decide +kernel
theorem dR_mayAdd_29 : decode prog_9_method_28_code 29 = .ok (.aload_n 0, 1) := by decide +kernel
theorem dR_mayAdd_30 : decode prog_9_method_28_code 30 = .ok (.getfield 80, 3) := by decide +kernel
theorem dR_mayAdd_33 : decode prog_9_method_28_code 33 = .ok (.iload_n 3, 1) := by decide +kernel
theorem dR_mayAdd_34 : decode prog_9_method_28_code 34 = .ok (.iaload, 1) := by decide +kernel
theorem dR_mayAdd_35 : decode prog_9_method_28_code 35 = .ok (.iconst (-1), 1) := by decide +kernel
theorem dR_mayAdd_36 : decode prog_9_method_28_code 36 = .ok (.if_icmp .eq 34, 3) := by decide +kernel
theorem dR_mayAdd_39 : decode prog_9_method_28_code 39 = .ok (.aload_n 0, 1) := by decide +kernel
theorem dR_mayAdd_40 : decode prog_9_method_28_code 40 = .ok (.getfield 80, 3) := by decide +kernel
theorem dR_mayAdd_43 : decode prog_9_method_28_code 43 = .ok (.iload_n 3, 1) := by decide +kernel
theorem dR_mayAdd_44 : decode prog_9_method_28_code 44 = .ok (.iaload, 1) := by decide +kernel
theorem dR_mayAdd_45 : decode prog_9_method_28_code 45 = .ok (.iload_n 1, 1) := by decide +kernel
theorem dR_mayAdd_46 : decode prog_9_method_28_code 46 = .ok (.iconst 1, 1) := by decide +kernel
theorem dR_mayAdd_47 : decode prog_9_method_28_code 47 = .ok (.isub, 1) := by decide +kernel
theorem dR_mayAdd_48 : decode prog_9_method_28_code 48 = .ok (.if_icmp .ne 26, 3) := by decide +kernel
theorem dR_mayAdd_51 : decode prog_9_method_28_code 51 = .ok (.aload_n 0, 1) := by decide +kernel
theorem dR_mayAdd_52 : decode prog_9_method_28_code 52 = .ok (.getfield 50, 3) := by decide +kernel
theorem dR_mayAdd_55 : decode prog_9_method_28_code 55 = .ok (.iload_n 1, 1) := by decide +kernel
theorem dR_mayAdd_56 : decode prog_9_method_28_code 56 = .ok (.iaload, 1) := by decide +kernel
theorem dR_mayAdd_57 : decode prog_9_method_28_code 57 = .ok (.aload_n 0, 1) := by decide +kernel
theorem dR_mayAdd_58 : decode prog_9_method_28_code 58 = .ok (.getfield 83, 3) := by decide +kernel
theorem dR_mayAdd_61 : decode prog_9_method_28_code 61 = .ok (.iload_n 3, 1) := by decide +kernel
theorem dR_mayAdd_62 : decode prog_9_method_28_code 62 = .ok (.iaload, 1) := by decide +kernel
theorem dR_mayAdd_63 : decode prog_9_method_28_code 63 = .ok (.ishr, 1) := by decide +kernel
theorem dR_mayAdd_64 : decode prog_9_method_28_code 64 = .ok (.iconst 1, 1) := by decide +kernel
theorem dR_mayAdd_65 : decode prog_9_method_28_code 65 = .ok (.iand, 1) := by decide +kernel
theorem dR_mayAdd_66 : decode prog_9_method_28_code 66 = .ok (.iconst 1, 1) := by decide +kernel
theorem dR_mayAdd_67 : decode prog_9_method_28_code 67 = .ok (.if_icmp .ne 7, 3) := by decide +kernel
theorem dR_mayAdd_70 : decode prog_9_method_28_code 70 = .ok (.iconst 1, 1) := by decide +kernel
theorem dR_mayAdd_71 : decode prog_9_method_28_code 71 = .ok (.goto 4, 3) := by decide +kernel
theorem dR_mayAdd_74 : decode prog_9_method_28_code 74 = .ok (.iconst 0, 1) := by decide +kernel
theorem dR_mayAdd_75 : decode prog_9_method_28_code 75 = .ok (.ireturn, 1) := by decide +kernel
theorem dR_leafOf_0 : decode prog_9_method_17_code 0 = .ok (.iconst 0, 1) := by decide +kernel
theorem dR_leafOf_1 : decode prog_9_method_17_code 1 = .ok (.istore_n 3, 1) := by decide +kernel
theorem dR_leafOf_2 : decode prog_9_method_17_code 2 = .ok (.iload_n 3, 1) := by decide +kernel
theorem dR_leafOf_3 : decode prog_9_method_17_code 3 = .ok (.iconst 1, 1) := by decide +kernel
theorem dR_leafOf_4 : decode prog_9_method_17_code 4 = .ok (.aload_n 0, 1) := by decide +kernel
theorem dR_leafOf_5 : decode prog_9_method_17_code 5 = .ok (.getfield 38, 3) := by decide +kernel
theorem dR_leafOf_8 : decode prog_9_method_17_code 8 = .ok (.iload_n 1, 1) := by decide +kernel
theorem dR_leafOf_9 : decode prog_9_method_17_code 9 = .ok (.iaload, 1) := by decide +kernel
theorem dR_leafOf_10 : decode prog_9_method_17_code 10 = .ok (.ishl, 1) := by decide +kernel
theorem dR_leafOf_11 : decode prog_9_method_17_code 11 = .ok (.if_icmp .ge 26, 3) := by decide +kernel
theorem dR_leafOf_14 : decode prog_9_method_17_code 14 = .ok (.aload_n 0, 1) := by decide +kernel
theorem dR_leafOf_15 : decode prog_9_method_17_code 15 = .ok (.getfield 77, 3) := by decide +kernel
theorem dR_leafOf_18 : decode prog_9_method_17_code 18 = .ok (.bipush 16, 2) := by decide +kernel
theorem dR_leafOf_20 : decode prog_9_method_17_code 20 = .ok (.iload_n 1, 1) := by decide +kernel
theorem dR_leafOf_21 : decode prog_9_method_17_code 21 = .ok (.imul, 1) := by decide +kernel
theorem dR_leafOf_22 : decode prog_9_method_17_code 22 = .ok (.iload_n 3, 1) := by decide +kernel
theorem dR_leafOf_23 : decode prog_9_method_17_code 23 = .ok (.iadd, 1) := by decide +kernel
theorem dR_leafOf_24 : decode prog_9_method_17_code 24 = .ok (.iaload, 1) := by decide +kernel
theorem dR_leafOf_25 : decode prog_9_method_17_code 25 = .ok (.iload_n 2, 1) := by decide +kernel
theorem dR_leafOf_26 : decode prog_9_method_17_code 26 = .ok (.if_icmp .ne 5, 3) := by decide +kernel
theorem dR_leafOf_29 : decode prog_9_method_17_code 29 = .ok (.iload_n 3, 1) := by decide +kernel
theorem dR_leafOf_30 : decode prog_9_method_17_code 30 = .ok (.ireturn, 1) := by decide +kernel
theorem dR_leafOf_31 : decode prog_9_method_17_code 31 = .ok (.iinc 3 1, 3) := by decide +kernel
theorem dR_leafOf_34 : decode prog_9_method_17_code 34 = .ok (.goto (-32), 3) := by decide +kernel
theorem dR_leafOf_37 : decode prog_9_method_17_code 37 = .ok (.iconst (-1), 1) := by decide +kernel
theorem dR_leafOf_38 : decode prog_9_method_17_code 38 = .ok (.ireturn, 1) := by decide +kernel
theorem dR_freeLeaf_0 : decode prog_9_method_29_code 0 = .ok (.iconst 0, 1) := by decide +kernel
theorem dR_freeLeaf_1 : decode prog_9_method_29_code 1 = .ok (.istore_n 2, 1) := by decide +kernel
theorem dR_freeLeaf_2 : decode prog_9_method_29_code 2 = .ok (.iload_n 2, 1) := by decide +kernel
theorem dR_freeLeaf_3 : decode prog_9_method_29_code 3 = .ok (.iconst 1, 1) := by decide +kernel
theorem dR_freeLeaf_4 : decode prog_9_method_29_code 4 = .ok (.aload_n 0, 1) := by decide +kernel
theorem dR_freeLeaf_5 : decode prog_9_method_29_code 5 = .ok (.getfield 38, 3) := by decide +kernel
theorem dR_freeLeaf_8 : decode prog_9_method_29_code 8 = .ok (.iload_n 1, 1) := by decide +kernel
theorem dR_freeLeaf_9 : decode prog_9_method_29_code 9 = .ok (.iaload, 1) := by decide +kernel
theorem dR_freeLeaf_10 : decode prog_9_method_29_code 10 = .ok (.ishl, 1) := by decide +kernel
theorem dR_freeLeaf_11 : decode prog_9_method_29_code 11 = .ok (.if_icmp .ge 26, 3) := by decide +kernel
theorem dR_freeLeaf_14 : decode prog_9_method_29_code 14 = .ok (.aload_n 0, 1) := by decide +kernel
theorem dR_freeLeaf_15 : decode prog_9_method_29_code 15 = .ok (.getfield 65, 3) := by decide +kernel
