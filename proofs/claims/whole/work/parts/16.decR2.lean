theorem dR_freeLeaf_18 : decode prog_9_method_29_code 18 = .ok (.bipush 31, 2) := by decide +kernel
theorem dR_freeLeaf_20 : decode prog_9_method_29_code 20 = .ok (.iload_n 1, 1) := by decide +kernel
theorem dR_freeLeaf_21 : decode prog_9_method_29_code 21 = .ok (.imul, 1) := by decide +kernel
theorem dR_freeLeaf_22 : decode prog_9_method_29_code 22 = .ok (.iconst 2, 1) := by decide +kernel
theorem dR_freeLeaf_23 : decode prog_9_method_29_code 23 = .ok (.iload_n 2, 1) := by decide +kernel
theorem dR_freeLeaf_24 : decode prog_9_method_29_code 24 = .ok (.imul, 1) := by decide +kernel
theorem dR_freeLeaf_25 : decode prog_9_method_29_code 25 = .ok (.iadd, 1) := by decide +kernel
theorem dR_freeLeaf_26 : decode prog_9_method_29_code 26 = .ok (.iaload, 1) := by decide +kernel
theorem dR_freeLeaf_27 : decode prog_9_method_29_code 27 = .ok (.iconst (-1), 1) := by decide +kernel
theorem dR_freeLeaf_28 : decode prog_9_method_29_code 28 = .ok (.if_icmp .eq 9, 3) := by decide +kernel
theorem dR_freeLeaf_31 : decode prog_9_method_29_code 31 = .ok (.iinc 2 1, 3) := by decide +kernel
theorem dR_freeLeaf_34 : decode prog_9_method_29_code 34 = .ok (.goto (-32), 3) := by decide +kernel
theorem dR_freeLeaf_37 : decode prog_9_method_29_code 37 = .ok (.iload_n 2, 1) := by decide +kernel
theorem dR_freeLeaf_38 : decode prog_9_method_29_code 38 = .ok (.ireturn, 1) := by decide +kernel
theorem dR_renew_0 : decode prog_9_method_31_code 0 = .ok (.aload_n 0, 1) := by decide +kernel
theorem dR_renew_1 : decode prog_9_method_31_code 1 = .ok (.iload_n 1, 1) := by decide +kernel
theorem dR_renew_2 : decode prog_9_method_31_code 2 = .ok (.iconst 2, 1) := by decide +kernel
theorem dR_renew_3 : decode prog_9_method_31_code 3 = .ok (.iload_n 2, 1) := by decide +kernel
theorem dR_renew_4 : decode prog_9_method_31_code 4 = .ok (.imul, 1) := by decide +kernel
theorem dR_renew_5 : decode prog_9_method_31_code 5 = .ok (.aload_n 0, 1) := by decide +kernel
theorem dR_renew_6 : decode prog_9_method_31_code 6 = .ok (.iconst 1, 1) := by decide +kernel
theorem dR_renew_7 : decode prog_9_method_31_code 7 = .ok (.iconst 0, 1) := by decide +kernel
theorem dR_renew_8 : decode prog_9_method_31_code 8 = .ok (.iconst 0, 1) := by decide +kernel
theorem dR_renew_9 : decode prog_9_method_31_code 9 = .ok (.invokevirtual 143, 3) := by decide +kernel
theorem dR_renew_12 : decode prog_9_method_31_code 12 = .ok (.invokevirtual 204, 3) := by decide +kernel
theorem dR_renew_15 : decode prog_9_method_31_code 15 = .ok (.iconst (-1), 1) := by decide +kernel
theorem dR_renew_16 : decode prog_9_method_31_code 16 = .ok (.istore_n 3, 1) := by decide +kernel
theorem dR_renew_17 : decode prog_9_method_31_code 17 = .ok (.iconst 1, 1) := by decide +kernel
theorem dR_renew_18 : decode prog_9_method_31_code 18 = .ok (.istore 4, 2) := by decide +kernel
theorem dR_renew_20 : decode prog_9_method_31_code 20 = .ok (.iload 4, 2) := by decide +kernel
theorem dR_renew_22 : decode prog_9_method_31_code 22 = .ok (.aload_n 0, 1) := by decide +kernel
theorem dR_renew_23 : decode prog_9_method_31_code 23 = .ok (.getfield 38, 3) := by decide +kernel
theorem dR_renew_26 : decode prog_9_method_31_code 26 = .ok (.iload_n 1, 1) := by decide +kernel
theorem dR_renew_27 : decode prog_9_method_31_code 27 = .ok (.iaload, 1) := by decide +kernel
theorem dR_renew_28 : decode prog_9_method_31_code 28 = .ok (.if_icmp .gt 190, 3) := by decide +kernel
theorem dR_renew_31 : decode prog_9_method_31_code 31 = .ok (.iload_n 2, 1) := by decide +kernel
theorem dR_renew_32 : decode prog_9_method_31_code 32 = .ok (.iload 4, 2) := by decide +kernel
theorem dR_renew_34 : decode prog_9_method_31_code 34 = .ok (.invokestatic 168, 3) := by decide +kernel
theorem dR_renew_37 : decode prog_9_method_31_code 37 = .ok (.istore 5, 2) := by decide +kernel
theorem dR_renew_39 : decode prog_9_method_31_code 39 = .ok (.aload_n 0, 1) := by decide +kernel
theorem dR_renew_40 : decode prog_9_method_31_code 40 = .ok (.iload_n 1, 1) := by decide +kernel
theorem dR_renew_41 : decode prog_9_method_31_code 41 = .ok (.iload_n 2, 1) := by decide +kernel
theorem dR_renew_42 : decode prog_9_method_31_code 42 = .ok (.iconst 1, 1) := by decide +kernel
theorem dR_renew_43 : decode prog_9_method_31_code 43 = .ok (.iload 4, 2) := by decide +kernel
theorem dR_renew_45 : decode prog_9_method_31_code 45 = .ok (.iconst 1, 1) := by decide +kernel
theorem dR_renew_46 : decode prog_9_method_31_code 46 = .ok (.isub, 1) := by decide +kernel
theorem dR_renew_47 : decode prog_9_method_31_code 47 = .ok (.ishl, 1) := by decide +kernel
theorem dR_renew_48 : decode prog_9_method_31_code 48 = .ok (.ixor, 1) := by decide +kernel
theorem dR_renew_49 : decode prog_9_method_31_code 49 = .ok (.iload 4, 2) := by decide +kernel
theorem dR_renew_51 : decode prog_9_method_31_code 51 = .ok (.iconst 1, 1) := by decide +kernel
theorem dR_renew_52 : decode prog_9_method_31_code 52 = .ok (.isub, 1) := by decide +kernel
theorem dR_renew_53 : decode prog_9_method_31_code 53 = .ok (.invokestatic 168, 3) := by decide +kernel
theorem dR_renew_56 : decode prog_9_method_31_code 56 = .ok (.invokevirtual 218, 3) := by decide +kernel
theorem dR_renew_59 : decode prog_9_method_31_code 59 = .ok (.aload_n 0, 1) := by decide +kernel
theorem dR_renew_60 : decode prog_9_method_31_code 60 = .ok (.getfield 176, 3) := by decide +kernel
theorem dR_renew_63 : decode prog_9_method_31_code 63 = .ok (.ifCond .ne 13, 3) := by decide +kernel
theorem dR_renew_66 : decode prog_9_method_31_code 66 = .ok (.aload_n 0, 1) := by decide +kernel
theorem dR_renew_67 : decode prog_9_method_31_code 67 = .ok (.iload_n 1, 1) := by decide +kernel
theorem dR_renew_68 : decode prog_9_method_31_code 68 = .ok (.iload 5, 2) := by decide +kernel
theorem dR_renew_70 : decode prog_9_method_31_code 70 = .ok (.invokevirtual 172, 3) := by decide +kernel
theorem dR_renew_73 : decode prog_9_method_31_code 73 = .ok (.goto 139, 3) := by decide +kernel
theorem dR_renew_76 : decode prog_9_method_31_code 76 = .ok (.iload_n 3, 1) := by decide +kernel
theorem dR_renew_77 : decode prog_9_method_31_code 77 = .ok (.iconst (-1), 1) := by decide +kernel
theorem dR_renew_78 : decode prog_9_method_31_code 78 = .ok (.if_icmp .ne 13, 3) := by decide +kernel
theorem dR_renew_81 : decode prog_9_method_31_code 81 = .ok (.aload_n 0, 1) := by decide +kernel
theorem dR_renew_82 : decode prog_9_method_31_code 82 = .ok (.iconst 1, 1) := by decide +kernel
theorem dR_renew_83 : decode prog_9_method_31_code 83 = .ok (.iconst 0, 1) := by decide +kernel
theorem dR_renew_84 : decode prog_9_method_31_code 84 = .ok (.iconst 0, 1) := by decide +kernel
theorem dR_renew_85 : decode prog_9_method_31_code 85 = .ok (.invokevirtual 143, 3) := by decide +kernel
theorem dR_renew_88 : decode prog_9_method_31_code 88 = .ok (.goto 10, 3) := by decide +kernel
theorem dR_renew_91 : decode prog_9_method_31_code 91 = .ok (.aload_n 0, 1) := by decide +kernel
theorem dR_renew_92 : decode prog_9_method_31_code 92 = .ok (.iconst 2, 1) := by decide +kernel
theorem dR_renew_93 : decode prog_9_method_31_code 93 = .ok (.iload_n 3, 1) := by decide +kernel
theorem dR_renew_94 : decode prog_9_method_31_code 94 = .ok (.iconst 0, 1) := by decide +kernel
theorem dR_renew_95 : decode prog_9_method_31_code 95 = .ok (.invokevirtual 221, 3) := by decide +kernel
theorem dR_renew_98 : decode prog_9_method_31_code 98 = .ok (.istore_n 3, 1) := by decide +kernel
theorem dR_renew_99 : decode prog_9_method_31_code 99 = .ok (.aload_n 0, 1) := by decide +kernel
theorem dR_renew_100 : decode prog_9_method_31_code 100 = .ok (.getfield 74, 3) := by decide +kernel
theorem dR_renew_103 : decode prog_9_method_31_code 103 = .ok (.bipush 31, 2) := by decide +kernel
theorem dR_renew_105 : decode prog_9_method_31_code 105 = .ok (.iload_n 1, 1) := by decide +kernel
theorem dR_renew_106 : decode prog_9_method_31_code 106 = .ok (.imul, 1) := by decide +kernel
theorem dR_renew_107 : decode prog_9_method_31_code 107 = .ok (.iload 5, 2) := by decide +kernel
theorem dR_renew_109 : decode prog_9_method_31_code 109 = .ok (.iadd, 1) := by decide +kernel
theorem dR_renew_110 : decode prog_9_method_31_code 110 = .ok (.iload_n 3, 1) := by decide +kernel
theorem dR_renew_111 : decode prog_9_method_31_code 111 = .ok (.iastore, 1) := by decide +kernel
theorem dR_renew_112 : decode prog_9_method_31_code 112 = .ok (.aload_n 0, 1) := by decide +kernel
theorem dR_renew_113 : decode prog_9_method_31_code 113 = .ok (.getfield 47, 3) := by decide +kernel
theorem dR_renew_116 : decode prog_9_method_31_code 116 = .ok (.iload_n 1, 1) := by decide +kernel
theorem dR_renew_117 : decode prog_9_method_31_code 117 = .ok (.dup2, 1) := by decide +kernel
theorem dR_renew_118 : decode prog_9_method_31_code 118 = .ok (.iaload, 1) := by decide +kernel
theorem dR_renew_119 : decode prog_9_method_31_code 119 = .ok (.iconst 1, 1) := by decide +kernel
theorem dR_renew_120 : decode prog_9_method_31_code 120 = .ok (.iload 5, 2) := by decide +kernel
theorem dR_renew_122 : decode prog_9_method_31_code 122 = .ok (.ishl, 1) := by decide +kernel
theorem dR_renew_123 : decode prog_9_method_31_code 123 = .ok (.ior, 1) := by decide +kernel
theorem dR_renew_124 : decode prog_9_method_31_code 124 = .ok (.iastore, 1) := by decide +kernel
theorem dR_renew_125 : decode prog_9_method_31_code 125 = .ok (.iconst 0, 1) := by decide +kernel
theorem dR_renew_126 : decode prog_9_method_31_code 126 = .ok (.istore 6, 2) := by decide +kernel
theorem dR_renew_128 : decode prog_9_method_31_code 128 = .ok (.iload 6, 2) := by decide +kernel
theorem dR_renew_130 : decode prog_9_method_31_code 130 = .ok (.aload_n 0, 1) := by decide +kernel
theorem dR_renew_131 : decode prog_9_method_31_code 131 = .ok (.getfield 176, 3) := by decide +kernel
theorem dR_renew_134 : decode prog_9_method_31_code 134 = .ok (.if_icmp .ge 64, 3) := by decide +kernel
theorem dR_renew_137 : decode prog_9_method_31_code 137 = .ok (.aload_n 0, 1) := by decide +kernel
theorem dR_renew_138 : decode prog_9_method_31_code 138 = .ok (.getfield 134, 3) := by decide +kernel
theorem dR_renew_141 : decode prog_9_method_31_code 141 = .ok (.iload 6, 2) := by decide +kernel
theorem dR_renew_143 : decode prog_9_method_31_code 143 = .ok (.iaload, 1) := by decide +kernel
theorem dR_renew_144 : decode prog_9_method_31_code 144 = .ok (.istore 7, 2) := by decide +kernel
theorem dR_renew_146 : decode prog_9_method_31_code 146 = .ok (.iload 7, 2) := by decide +kernel
theorem dR_renew_148 : decode prog_9_method_31_code 148 = .ok (.iconst 2, 1) := by decide +kernel
theorem dR_renew_149 : decode prog_9_method_31_code 149 = .ok (.irem, 1) := by decide +kernel
theorem dR_renew_150 : decode prog_9_method_31_code 150 = .ok (.ifCond .ne 23, 3) := by decide +kernel
theorem dR_renew_153 : decode prog_9_method_31_code 153 = .ok (.aload_n 0, 1) := by decide +kernel
theorem dR_renew_154 : decode prog_9_method_31_code 154 = .ok (.getfield 56, 3) := by decide +kernel
theorem dR_renew_157 : decode prog_9_method_31_code 157 = .ok (.iload_n 1, 1) := by decide +kernel
theorem dR_renew_158 : decode prog_9_method_31_code 158 = .ok (.iaload, 1) := by decide +kernel
theorem dR_renew_159 : decode prog_9_method_31_code 159 = .ok (.iload 7, 2) := by decide +kernel
theorem dR_renew_161 : decode prog_9_method_31_code 161 = .ok (.iconst 2, 1) := by decide +kernel
theorem dR_renew_162 : decode prog_9_method_31_code 162 = .ok (.idiv, 1) := by decide +kernel
theorem dR_renew_163 : decode prog_9_method_31_code 163 = .ok (.ishr, 1) := by decide +kernel
theorem dR_renew_164 : decode prog_9_method_31_code 164 = .ok (.iconst 1, 1) := by decide +kernel
theorem dR_renew_165 : decode prog_9_method_31_code 165 = .ok (.iand, 1) := by decide +kernel
theorem dR_renew_166 : decode prog_9_method_31_code 166 = .ok (.iconst 1, 1) := by decide +kernel
theorem dR_renew_167 : decode prog_9_method_31_code 167 = .ok (.if_icmp .ne 6, 3) := by decide +kernel
theorem dR_renew_170 : decode prog_9_method_31_code 170 = .ok (.goto 22, 3) := by decide +kernel
theorem dR_renew_173 : decode prog_9_method_31_code 173 = .ok (.aload_n 0, 1) := by decide +kernel
theorem dR_renew_174 : decode prog_9_method_31_code 174 = .ok (.aload_n 0, 1) := by decide +kernel
theorem dR_renew_175 : decode prog_9_method_31_code 175 = .ok (.getfield 65, 3) := by decide +kernel
theorem dR_renew_178 : decode prog_9_method_31_code 178 = .ok (.bipush 31, 2) := by decide +kernel
theorem dR_renew_180 : decode prog_9_method_31_code 180 = .ok (.iload_n 1, 1) := by decide +kernel
theorem dR_renew_181 : decode prog_9_method_31_code 181 = .ok (.imul, 1) := by decide +kernel
theorem dR_renew_182 : decode prog_9_method_31_code 182 = .ok (.iload 7, 2) := by decide +kernel
theorem dR_renew_184 : decode prog_9_method_31_code 184 = .ok (.iadd, 1) := by decide +kernel
theorem dR_renew_185 : decode prog_9_method_31_code 185 = .ok (.iaload, 1) := by decide +kernel
theorem dR_renew_186 : decode prog_9_method_31_code 186 = .ok (.iload_n 3, 1) := by decide +kernel
theorem dR_renew_187 : decode prog_9_method_31_code 187 = .ok (.iload 5, 2) := by decide +kernel
theorem dR_renew_189 : decode prog_9_method_31_code 189 = .ok (.invokevirtual 224, 3) := by decide +kernel
theorem dR_renew_192 : decode prog_9_method_31_code 192 = .ok (.iinc 6 1, 3) := by decide +kernel
theorem dR_renew_195 : decode prog_9_method_31_code 195 = .ok (.goto (-67), 3) := by decide +kernel
theorem dR_renew_198 : decode prog_9_method_31_code 198 = .ok (.aload_n 0, 1) := by decide +kernel
theorem dR_renew_199 : decode prog_9_method_31_code 199 = .ok (.iload_n 1, 1) := by decide +kernel
theorem dR_renew_200 : decode prog_9_method_31_code 200 = .ok (.iload 5, 2) := by decide +kernel
theorem dR_renew_202 : decode prog_9_method_31_code 202 = .ok (.aload_n 0, 1) := by decide +kernel
theorem dR_renew_203 : decode prog_9_method_31_code 203 = .ok (.iconst 3, 1) := by decide +kernel
theorem dR_renew_204 : decode prog_9_method_31_code 204 = .ok (.iload_n 3, 1) := by decide +kernel
theorem dR_renew_205 : decode prog_9_method_31_code 205 = .ok (.iconst 0, 1) := by decide +kernel
theorem dR_renew_206 : decode prog_9_method_31_code 206 = .ok (.invokevirtual 221, 3) := by decide +kernel
theorem dR_renew_209 : decode prog_9_method_31_code 209 = .ok (.invokevirtual 204, 3) := by decide +kernel
theorem dR_renew_212 : decode prog_9_method_31_code 212 = .ok (.iinc 4 1, 3) := by decide +kernel
theorem dR_renew_215 : decode prog_9_method_31_code 215 = .ok (.goto (-195), 3) := by decide +kernel
theorem dR_renew_218 : decode prog_9_method_31_code 218 = .ok (.iload_n 3, 1) := by decide +kernel
theorem dR_renew_219 : decode prog_9_method_31_code 219 = .ok (.iconst (-1), 1) := by decide +kernel
theorem dR_renew_220 : decode prog_9_method_31_code 220 = .ok (.if_icmp .ne 13, 3) := by decide +kernel
theorem dR_renew_223 : decode prog_9_method_31_code 223 = .ok (.aload_n 0, 1) := by decide +kernel
theorem dR_renew_224 : decode prog_9_method_31_code 224 = .ok (.iconst 1, 1) := by decide +kernel
theorem dR_renew_225 : decode prog_9_method_31_code 225 = .ok (.iconst 0, 1) := by decide +kernel
theorem dR_renew_226 : decode prog_9_method_31_code 226 = .ok (.iconst 0, 1) := by decide +kernel
theorem dR_renew_227 : decode prog_9_method_31_code 227 = .ok (.invokevirtual 143, 3) := by decide +kernel
theorem dR_renew_230 : decode prog_9_method_31_code 230 = .ok (.goto 10, 3) := by decide +kernel
theorem dR_renew_233 : decode prog_9_method_31_code 233 = .ok (.aload_n 0, 1) := by decide +kernel
theorem dR_renew_234 : decode prog_9_method_31_code 234 = .ok (.iconst 2, 1) := by decide +kernel
theorem dR_renew_235 : decode prog_9_method_31_code 235 = .ok (.iload_n 3, 1) := by decide +kernel
theorem dR_renew_236 : decode prog_9_method_31_code 236 = .ok (.iconst 0, 1) := by decide +kernel
theorem dR_renew_237 : decode prog_9_method_31_code 237 = .ok (.invokevirtual 221, 3) := by decide +kernel
theorem dR_renew_240 : decode prog_9_method_31_code 240 = .ok (.ireturn, 1) := by decide +kernel
theorem dR_resolve_0 : decode prog_9_method_15_code 0 = .ok (.aload_n 0, 1) := by decide +kernel
theorem dR_resolve_1 : decode prog_9_method_15_code 1 = .ok (.iconst 0, 1) := by decide +kernel
theorem dR_resolve_2 : decode prog_9_method_15_code 2 = .ok (.putfield 176, 3) := by decide +kernel
theorem dR_resolve_5 : decode prog_9_method_15_code 5 = .ok (.iconst 1, 1) := by decide +kernel
theorem dR_resolve_6 : decode prog_9_method_15_code 6 = .ok (.istore_n 3, 1) := by decide +kernel
theorem dR_resolve_7 : decode prog_9_method_15_code 7 = .ok (.aload_n 0, 1) := by decide +kernel
theorem dR_resolve_8 : decode prog_9_method_15_code 8 = .ok (.getfield 137, 3) := by decide +kernel
theorem dR_resolve_11 : decode prog_9_method_15_code 11 = .ok (.iconst 0, 1) := by decide +kernel
theorem dR_resolve_12 : decode prog_9_method_15_code 12 = .ok (.iload_n 2, 1) := by decide +kernel
theorem dR_resolve_13 : decode prog_9_method_15_code 13 = .ok (.iastore, 1) := by decide +kernel
theorem dR_resolve_14 : decode prog_9_method_15_code 14 = .ok (.iload_n 3, 1) := by decide +kernel
theorem dR_resolve_15 : decode prog_9_method_15_code 15 = .ok (.ifCond .le 171, 3) := by decide +kernel
theorem dR_resolve_18 : decode prog_9_method_15_code 18 = .ok (.iinc 3 (-1), 3) := by decide +kernel
theorem dR_resolve_21 : decode prog_9_method_15_code 21 = .ok (.aload_n 0, 1) := by decide +kernel
theorem dR_resolve_22 : decode prog_9_method_15_code 22 = .ok (.getfield 137, 3) := by decide +kernel
theorem dR_resolve_25 : decode prog_9_method_15_code 25 = .ok (.iload_n 3, 1) := by decide +kernel
theorem dR_resolve_26 : decode prog_9_method_15_code 26 = .ok (.iaload, 1) := by decide +kernel
theorem dR_resolve_27 : decode prog_9_method_15_code 27 = .ok (.istore 4, 2) := by decide +kernel
theorem dR_resolve_29 : decode prog_9_method_15_code 29 = .ok (.iload 4, 2) := by decide +kernel
theorem dR_resolve_31 : decode prog_9_method_15_code 31 = .ok (.invokestatic 179, 3) := by decide +kernel
theorem dR_resolve_34 : decode prog_9_method_15_code 34 = .ok (.istore 5, 2) := by decide +kernel
theorem dR_resolve_36 : decode prog_9_method_15_code 36 = .ok (.aload_n 0, 1) := by decide +kernel
theorem dR_resolve_37 : decode prog_9_method_15_code 37 = .ok (.getfield 65, 3) := by decide +kernel
theorem dR_resolve_40 : decode prog_9_method_15_code 40 = .ok (.bipush 31, 2) := by decide +kernel
theorem dR_resolve_42 : decode prog_9_method_15_code 42 = .ok (.iload_n 1, 1) := by decide +kernel
theorem dR_resolve_43 : decode prog_9_method_15_code 43 = .ok (.imul, 1) := by decide +kernel
theorem dR_resolve_44 : decode prog_9_method_15_code 44 = .ok (.iload 4, 2) := by decide +kernel
theorem dR_resolve_46 : decode prog_9_method_15_code 46 = .ok (.iadd, 1) := by decide +kernel
theorem dR_resolve_47 : decode prog_9_method_15_code 47 = .ok (.iaload, 1) := by decide +kernel
theorem dR_resolve_48 : decode prog_9_method_15_code 48 = .ok (.iconst (-1), 1) := by decide +kernel
theorem dR_resolve_49 : decode prog_9_method_15_code 49 = .ok (.if_icmp .eq 94, 3) := by decide +kernel
theorem dR_resolve_52 : decode prog_9_method_15_code 52 = .ok (.aload_n 0, 1) := by decide +kernel
theorem dR_resolve_53 : decode prog_9_method_15_code 53 = .ok (.getfield 134, 3) := by decide +kernel
theorem dR_resolve_56 : decode prog_9_method_15_code 56 = .ok (.aload_n 0, 1) := by decide +kernel
theorem dR_resolve_57 : decode prog_9_method_15_code 57 = .ok (.getfield 176, 3) := by decide +kernel
theorem dR_resolve_60 : decode prog_9_method_15_code 60 = .ok (.iload 4, 2) := by decide +kernel
theorem dR_resolve_62 : decode prog_9_method_15_code 62 = .ok (.iastore, 1) := by decide +kernel
theorem dR_resolve_63 : decode prog_9_method_15_code 63 = .ok (.aload_n 0, 1) := by decide +kernel
theorem dR_resolve_64 : decode prog_9_method_15_code 64 = .ok (.dup, 1) := by decide +kernel
theorem dR_resolve_65 : decode prog_9_method_15_code 65 = .ok (.getfield 176, 3) := by decide +kernel
theorem dR_resolve_68 : decode prog_9_method_15_code 68 = .ok (.iconst 1, 1) := by decide +kernel
theorem dR_resolve_69 : decode prog_9_method_15_code 69 = .ok (.iadd, 1) := by decide +kernel
theorem dR_resolve_70 : decode prog_9_method_15_code 70 = .ok (.putfield 176, 3) := by decide +kernel
theorem dR_resolve_73 : decode prog_9_method_15_code 73 = .ok (.iconst 0, 1) := by decide +kernel
theorem dR_resolve_74 : decode prog_9_method_15_code 74 = .ok (.istore 6, 2) := by decide +kernel
theorem dR_resolve_76 : decode prog_9_method_15_code 76 = .ok (.iload 6, 2) := by decide +kernel
theorem dR_resolve_78 : decode prog_9_method_15_code 78 = .ok (.bipush 16, 2) := by decide +kernel
theorem dR_resolve_80 : decode prog_9_method_15_code 80 = .ok (.if_icmp .ge 60, 3) := by decide +kernel
theorem dR_resolve_83 : decode prog_9_method_15_code 83 = .ok (.iload 5, 2) := by decide +kernel
theorem dR_resolve_85 : decode prog_9_method_15_code 85 = .ok (.ifCond .le 55, 3) := by decide +kernel
theorem dR_resolve_88 : decode prog_9_method_15_code 88 = .ok (.aload_n 0, 1) := by decide +kernel
theorem dR_resolve_89 : decode prog_9_method_15_code 89 = .ok (.getfield 68, 3) := by decide +kernel
theorem dR_resolve_92 : decode prog_9_method_15_code 92 = .ok (.bipush 31, 2) := by decide +kernel
theorem dR_resolve_94 : decode prog_9_method_15_code 94 = .ok (.iload_n 1, 1) := by decide +kernel
theorem dR_resolve_95 : decode prog_9_method_15_code 95 = .ok (.imul, 1) := by decide +kernel
theorem dR_resolve_96 : decode prog_9_method_15_code 96 = .ok (.iload 4, 2) := by decide +kernel
theorem dR_resolve_98 : decode prog_9_method_15_code 98 = .ok (.iadd, 1) := by decide +kernel
theorem dR_resolve_99 : decode prog_9_method_15_code 99 = .ok (.iaload, 1) := by decide +kernel
theorem dR_resolve_100 : decode prog_9_method_15_code 100 = .ok (.iload 6, 2) := by decide +kernel
theorem dR_resolve_102 : decode prog_9_method_15_code 102 = .ok (.ishr, 1) := by decide +kernel
theorem dR_resolve_103 : decode prog_9_method_15_code 103 = .ok (.iconst 1, 1) := by decide +kernel
theorem dR_resolve_104 : decode prog_9_method_15_code 104 = .ok (.iand, 1) := by decide +kernel
theorem dR_resolve_105 : decode prog_9_method_15_code 105 = .ok (.ifCond .ne 6, 3) := by decide +kernel
theorem dR_resolve_108 : decode prog_9_method_15_code 108 = .ok (.goto 26, 3) := by decide +kernel
theorem dR_resolve_111 : decode prog_9_method_15_code 111 = .ok (.aload_n 0, 1) := by decide +kernel
theorem dR_resolve_112 : decode prog_9_method_15_code 112 = .ok (.getfield 134, 3) := by decide +kernel
theorem dR_resolve_115 : decode prog_9_method_15_code 115 = .ok (.aload_n 0, 1) := by decide +kernel
theorem dR_resolve_116 : decode prog_9_method_15_code 116 = .ok (.getfield 176, 3) := by decide +kernel
theorem dR_resolve_119 : decode prog_9_method_15_code 119 = .ok (.iconst 2, 1) := by decide +kernel
theorem dR_resolve_120 : decode prog_9_method_15_code 120 = .ok (.iload 6, 2) := by decide +kernel
theorem dR_resolve_122 : decode prog_9_method_15_code 122 = .ok (.imul, 1) := by decide +kernel
theorem dR_resolve_123 : decode prog_9_method_15_code 123 = .ok (.iastore, 1) := by decide +kernel
theorem dR_resolve_124 : decode prog_9_method_15_code 124 = .ok (.aload_n 0, 1) := by decide +kernel
theorem dR_resolve_125 : decode prog_9_method_15_code 125 = .ok (.dup, 1) := by decide +kernel
theorem dR_resolve_126 : decode prog_9_method_15_code 126 = .ok (.getfield 176, 3) := by decide +kernel
theorem dR_resolve_129 : decode prog_9_method_15_code 129 = .ok (.iconst 1, 1) := by decide +kernel
theorem dR_resolve_130 : decode prog_9_method_15_code 130 = .ok (.iadd, 1) := by decide +kernel
theorem dR_resolve_131 : decode prog_9_method_15_code 131 = .ok (.putfield 176, 3) := by decide +kernel
theorem dR_resolve_134 : decode prog_9_method_15_code 134 = .ok (.iinc 6 1, 3) := by decide +kernel
theorem dR_resolve_137 : decode prog_9_method_15_code 137 = .ok (.goto (-61), 3) := by decide +kernel
theorem dR_resolve_140 : decode prog_9_method_15_code 140 = .ok (.goto 43, 3) := by decide +kernel
theorem dR_resolve_143 : decode prog_9_method_15_code 143 = .ok (.iload 5, 2) := by decide +kernel
theorem dR_resolve_145 : decode prog_9_method_15_code 145 = .ok (.ifCond .le 38, 3) := by decide +kernel
theorem dR_resolve_148 : decode prog_9_method_15_code 148 = .ok (.aload_n 0, 1) := by decide +kernel
theorem dR_resolve_149 : decode prog_9_method_15_code 149 = .ok (.getfield 137, 3) := by decide +kernel
theorem dR_resolve_152 : decode prog_9_method_15_code 152 = .ok (.iload_n 3, 1) := by decide +kernel
theorem dR_resolve_153 : decode prog_9_method_15_code 153 = .ok (.iload 4, 2) := by decide +kernel
theorem dR_resolve_155 : decode prog_9_method_15_code 155 = .ok (.iconst 1, 1) := by decide +kernel
theorem dR_resolve_156 : decode prog_9_method_15_code 156 = .ok (.iload 5, 2) := by decide +kernel
theorem dR_resolve_158 : decode prog_9_method_15_code 158 = .ok (.iconst 1, 1) := by decide +kernel
theorem dR_resolve_159 : decode prog_9_method_15_code 159 = .ok (.isub, 1) := by decide +kernel
theorem dR_resolve_160 : decode prog_9_method_15_code 160 = .ok (.ishl, 1) := by decide +kernel
theorem dR_resolve_161 : decode prog_9_method_15_code 161 = .ok (.isub, 1) := by decide +kernel
theorem dR_resolve_162 : decode prog_9_method_15_code 162 = .ok (.iastore, 1) := by decide +kernel
theorem dR_resolve_163 : decode prog_9_method_15_code 163 = .ok (.aload_n 0, 1) := by decide +kernel
theorem dR_resolve_164 : decode prog_9_method_15_code 164 = .ok (.getfield 137, 3) := by decide +kernel
theorem dR_resolve_167 : decode prog_9_method_15_code 167 = .ok (.iload_n 3, 1) := by decide +kernel
theorem dR_resolve_168 : decode prog_9_method_15_code 168 = .ok (.iconst 1, 1) := by decide +kernel
theorem dR_resolve_169 : decode prog_9_method_15_code 169 = .ok (.iadd, 1) := by decide +kernel
theorem dR_resolve_170 : decode prog_9_method_15_code 170 = .ok (.iload 4, 2) := by decide +kernel
theorem dR_resolve_172 : decode prog_9_method_15_code 172 = .ok (.iconst 1, 1) := by decide +kernel
theorem dR_resolve_173 : decode prog_9_method_15_code 173 = .ok (.iload 5, 2) := by decide +kernel
theorem dR_resolve_175 : decode prog_9_method_15_code 175 = .ok (.iconst 1, 1) := by decide +kernel
theorem dR_resolve_176 : decode prog_9_method_15_code 176 = .ok (.isub, 1) := by decide +kernel
theorem dR_resolve_177 : decode prog_9_method_15_code 177 = .ok (.ishl, 1) := by decide +kernel
theorem dR_resolve_178 : decode prog_9_method_15_code 178 = .ok (.iadd, 1) := by decide +kernel
theorem dR_resolve_179 : decode prog_9_method_15_code 179 = .ok (.iastore, 1) := by decide +kernel
theorem dR_resolve_180 : decode prog_9_method_15_code 180 = .ok (.iinc 3 2, 3) := by decide +kernel
theorem dR_resolve_183 : decode prog_9_method_15_code 183 = .ok (.goto (-169), 3) := by decide +kernel
theorem dR_resolve_186 : decode prog_9_method_15_code 186 = .ok (.return_, 1) := by decide +kernel
theorem dR_height_0 : decode prog_9_method_10_code 0 = .ok (.iconst 0, 1) := by decide +kernel
theorem dR_height_1 : decode prog_9_method_10_code 1 = .ok (.istore_n 1, 1) := by decide +kernel
theorem dR_height_2 : decode prog_9_method_10_code 2 = .ok (.iload_n 0, 1) := by decide +kernel
theorem dR_height_3 : decode prog_9_method_10_code 3 = .ok (.iload_n 1, 1) := by decide +kernel
theorem dR_height_4 : decode prog_9_method_10_code 4 = .ok (.ishr, 1) := by decide +kernel
theorem dR_height_5 : decode prog_9_method_10_code 5 = .ok (.iconst 1, 1) := by decide +kernel
theorem dR_height_6 : decode prog_9_method_10_code 6 = .ok (.iand, 1) := by decide +kernel
theorem dR_height_7 : decode prog_9_method_10_code 7 = .ok (.iconst 1, 1) := by decide +kernel
theorem dR_height_8 : decode prog_9_method_10_code 8 = .ok (.if_icmp .ne 9, 3) := by decide +kernel
theorem dR_height_11 : decode prog_9_method_10_code 11 = .ok (.iinc 1 1, 3) := by decide +kernel
theorem dR_height_14 : decode prog_9_method_10_code 14 = .ok (.goto (-12), 3) := by decide +kernel
theorem dR_height_17 : decode prog_9_method_10_code 17 = .ok (.iload_n 1, 1) := by decide +kernel
theorem dR_height_18 : decode prog_9_method_10_code 18 = .ok (.ireturn, 1) := by decide +kernel
theorem dR_of_0 : decode prog_9_method_5_code 0 = .ok (.iconst 0, 1) := by decide +kernel
theorem dR_of_1 : decode prog_9_method_5_code 1 = .ok (.istore 4, 2) := by decide +kernel
theorem dR_of_3 : decode prog_9_method_5_code 3 = .ok (.iload 4, 2) := by decide +kernel
theorem dR_of_5 : decode prog_9_method_5_code 5 = .ok (.aload_n 0, 1) := by decide +kernel
theorem dR_of_6 : decode prog_9_method_5_code 6 = .ok (.getfield 158, 3) := by decide +kernel
theorem dR_of_9 : decode prog_9_method_5_code 9 = .ok (.if_icmp .ge 45, 3) := by decide +kernel
theorem dR_of_12 : decode prog_9_method_5_code 12 = .ok (.aload_n 0, 1) := by decide +kernel
theorem dR_of_13 : decode prog_9_method_5_code 13 = .ok (.getfield 7, 3) := by decide +kernel
theorem dR_of_16 : decode prog_9_method_5_code 16 = .ok (.iload 4, 2) := by decide +kernel
theorem dR_of_18 : decode prog_9_method_5_code 18 = .ok (.iaload, 1) := by decide +kernel
theorem dR_of_19 : decode prog_9_method_5_code 19 = .ok (.iload_n 1, 1) := by decide +kernel
theorem dR_of_20 : decode prog_9_method_5_code 20 = .ok (.if_icmp .ne 28, 3) := by decide +kernel
theorem dR_of_23 : decode prog_9_method_5_code 23 = .ok (.aload_n 0, 1) := by decide +kernel
theorem dR_of_24 : decode prog_9_method_5_code 24 = .ok (.getfield 13, 3) := by decide +kernel
theorem dR_of_27 : decode prog_9_method_5_code 27 = .ok (.iload 4, 2) := by decide +kernel
theorem dR_of_29 : decode prog_9_method_5_code 29 = .ok (.iaload, 1) := by decide +kernel
theorem dR_of_30 : decode prog_9_method_5_code 30 = .ok (.iload_n 2, 1) := by decide +kernel
theorem dR_of_31 : decode prog_9_method_5_code 31 = .ok (.if_icmp .ne 17, 3) := by decide +kernel
theorem dR_of_34 : decode prog_9_method_5_code 34 = .ok (.aload_n 0, 1) := by decide +kernel
theorem dR_of_35 : decode prog_9_method_5_code 35 = .ok (.getfield 16, 3) := by decide +kernel
theorem dR_of_38 : decode prog_9_method_5_code 38 = .ok (.iload 4, 2) := by decide +kernel
theorem dR_of_40 : decode prog_9_method_5_code 40 = .ok (.iaload, 1) := by decide +kernel
theorem dR_of_41 : decode prog_9_method_5_code 41 = .ok (.iload_n 3, 1) := by decide +kernel
theorem dR_of_42 : decode prog_9_method_5_code 42 = .ok (.if_icmp .ne 6, 3) := by decide +kernel
theorem dR_of_45 : decode prog_9_method_5_code 45 = .ok (.iload 4, 2) := by decide +kernel
theorem dR_of_47 : decode prog_9_method_5_code 47 = .ok (.ireturn, 1) := by decide +kernel
theorem dR_of_48 : decode prog_9_method_5_code 48 = .ok (.iinc 4 1, 3) := by decide +kernel
theorem dR_of_51 : decode prog_9_method_5_code 51 = .ok (.goto (-48), 3) := by decide +kernel
theorem dR_of_54 : decode prog_9_method_5_code 54 = .ok (.aload_n 0, 1) := by decide +kernel
theorem dR_of_55 : decode prog_9_method_5_code 55 = .ok (.iload_n 1, 1) := by decide +kernel
theorem dR_of_56 : decode prog_9_method_5_code 56 = .ok (.iload_n 2, 1) := by decide +kernel
theorem dR_of_57 : decode prog_9_method_5_code 57 = .ok (.iload_n 3, 1) := by decide +kernel
theorem dR_of_58 : decode prog_9_method_5_code 58 = .ok (.invokevirtual 143, 3) := by decide +kernel
theorem dR_of_61 : decode prog_9_method_5_code 61 = .ok (.ireturn, 1) := by decide +kernel
theorem dR_encrypt_0 : decode prog_9_method_6_code 0 = .ok (.aload_n 0, 1) := by decide +kernel
theorem dR_encrypt_1 : decode prog_9_method_6_code 1 = .ok (.getfield 26, 3) := by decide +kernel
theorem dR_encrypt_4 : decode prog_9_method_6_code 4 = .ok (.aload_n 0, 1) := by decide +kernel
theorem dR_encrypt_5 : decode prog_9_method_6_code 5 = .ok (.getfield 161, 3) := by decide +kernel
theorem dR_encrypt_8 : decode prog_9_method_6_code 8 = .ok (.iload_n 1, 1) := by decide +kernel
theorem dR_encrypt_9 : decode prog_9_method_6_code 9 = .ok (.iastore, 1) := by decide +kernel
theorem dR_encrypt_10 : decode prog_9_method_6_code 10 = .ok (.aload_n 0, 1) := by decide +kernel
theorem dR_encrypt_11 : decode prog_9_method_6_code 11 = .ok (.getfield 29, 3) := by decide +kernel
theorem dR_encrypt_14 : decode prog_9_method_6_code 14 = .ok (.aload_n 0, 1) := by decide +kernel
theorem dR_encrypt_15 : decode prog_9_method_6_code 15 = .ok (.getfield 161, 3) := by decide +kernel
theorem dR_encrypt_18 : decode prog_9_method_6_code 18 = .ok (.iload_n 2, 1) := by decide +kernel
theorem dR_encrypt_19 : decode prog_9_method_6_code 19 = .ok (.iastore, 1) := by decide +kernel
theorem dR_encrypt_20 : decode prog_9_method_6_code 20 = .ok (.aload_n 0, 1) := by decide +kernel
theorem dR_encrypt_21 : decode prog_9_method_6_code 21 = .ok (.getfield 32, 3) := by decide +kernel
theorem dR_encrypt_24 : decode prog_9_method_6_code 24 = .ok (.aload_n 0, 1) := by decide +kernel
theorem dR_encrypt_25 : decode prog_9_method_6_code 25 = .ok (.getfield 161, 3) := by decide +kernel
theorem dR_encrypt_28 : decode prog_9_method_6_code 28 = .ok (.aload_n 0, 1) := by decide +kernel
theorem dR_encrypt_29 : decode prog_9_method_6_code 29 = .ok (.getfield 151, 3) := by decide +kernel
theorem dR_encrypt_32 : decode prog_9_method_6_code 32 = .ok (.iastore, 1) := by decide +kernel
theorem dR_encrypt_33 : decode prog_9_method_6_code 33 = .ok (.aload_n 0, 1) := by decide +kernel
theorem dR_encrypt_34 : decode prog_9_method_6_code 34 = .ok (.getfield 35, 3) := by decide +kernel
theorem dR_encrypt_37 : decode prog_9_method_6_code 37 = .ok (.aload_n 0, 1) := by decide +kernel
theorem dR_encrypt_38 : decode prog_9_method_6_code 38 = .ok (.getfield 161, 3) := by decide +kernel
theorem dR_encrypt_41 : decode prog_9_method_6_code 41 = .ok (.iload_n 3, 1) := by decide +kernel
theorem dR_encrypt_42 : decode prog_9_method_6_code 42 = .ok (.iastore, 1) := by decide +kernel
theorem dR_encrypt_43 : decode prog_9_method_6_code 43 = .ok (.aload_n 0, 1) := by decide +kernel
theorem dR_encrypt_44 : decode prog_9_method_6_code 44 = .ok (.dup, 1) := by decide +kernel
theorem dR_encrypt_45 : decode prog_9_method_6_code 45 = .ok (.getfield 161, 3) := by decide +kernel
theorem dR_encrypt_48 : decode prog_9_method_6_code 48 = .ok (.iconst 1, 1) := by decide +kernel
theorem dR_encrypt_49 : decode prog_9_method_6_code 49 = .ok (.iadd, 1) := by decide +kernel
theorem dR_encrypt_50 : decode prog_9_method_6_code 50 = .ok (.putfield 161, 3) := by decide +kernel
theorem dR_encrypt_53 : decode prog_9_method_6_code 53 = .ok (.aload_n 0, 1) := by decide +kernel
theorem dR_encrypt_54 : decode prog_9_method_6_code 54 = .ok (.getfield 59, 3) := by decide +kernel
theorem dR_encrypt_57 : decode prog_9_method_6_code 57 = .ok (.aload_n 0, 1) := by decide +kernel
theorem dR_encrypt_58 : decode prog_9_method_6_code 58 = .ok (.getfield 151, 3) := by decide +kernel
theorem dR_encrypt_61 : decode prog_9_method_6_code 61 = .ok (.dup2, 1) := by decide +kernel
theorem dR_encrypt_62 : decode prog_9_method_6_code 62 = .ok (.iaload, 1) := by decide +kernel
theorem dR_encrypt_63 : decode prog_9_method_6_code 63 = .ok (.iconst 1, 1) := by decide +kernel
theorem dR_encrypt_64 : decode prog_9_method_6_code 64 = .ok (.iadd, 1) := by decide +kernel
theorem dR_encrypt_65 : decode prog_9_method_6_code 65 = .ok (.iastore, 1) := by decide +kernel
theorem dR_encrypt_66 : decode prog_9_method_6_code 66 = .ok (.return_, 1) := by decide +kernel
theorem dR_welcome_0 : decode prog_9_method_33_code 0 = .ok (.iconst 0, 1) := by decide +kernel
theorem dR_welcome_1 : decode prog_9_method_33_code 1 = .ok (.istore_n 3, 1) := by decide +kernel
theorem dR_welcome_2 : decode prog_9_method_33_code 2 = .ok (.iload_n 3, 1) := by decide +kernel
theorem dR_welcome_3 : decode prog_9_method_33_code 3 = .ok (.aload_n 0, 1) := by decide +kernel
theorem dR_welcome_4 : decode prog_9_method_33_code 4 = .ok (.getfield 189, 3) := by decide +kernel
theorem dR_welcome_7 : decode prog_9_method_33_code 7 = .ok (.if_icmp .ge 89, 3) := by decide +kernel
theorem dR_welcome_10 : decode prog_9_method_33_code 10 = .ok (.aload_n 0, 1) := by decide +kernel
theorem dR_welcome_11 : decode prog_9_method_33_code 11 = .ok (.getfield 113, 3) := by decide +kernel
theorem dR_welcome_14 : decode prog_9_method_33_code 14 = .ok (.iload_n 3, 1) := by decide +kernel
theorem dR_welcome_15 : decode prog_9_method_33_code 15 = .ok (.iaload, 1) := by decide +kernel
theorem dR_welcome_16 : decode prog_9_method_33_code 16 = .ok (.iload_n 1, 1) := by decide +kernel
theorem dR_welcome_17 : decode prog_9_method_33_code 17 = .ok (.if_icmp .eq 6, 3) := by decide +kernel
theorem dR_welcome_20 : decode prog_9_method_33_code 20 = .ok (.goto 70, 3) := by decide +kernel
theorem dR_welcome_23 : decode prog_9_method_33_code 23 = .ok (.aload_n 0, 1) := by decide +kernel
theorem dR_welcome_24 : decode prog_9_method_33_code 24 = .ok (.aload_n 0, 1) := by decide +kernel
theorem dR_welcome_25 : decode prog_9_method_33_code 25 = .ok (.getfield 107, 3) := by decide +kernel
theorem dR_welcome_28 : decode prog_9_method_33_code 28 = .ok (.iload_n 3, 1) := by decide +kernel
theorem dR_welcome_29 : decode prog_9_method_33_code 29 = .ok (.iaload, 1) := by decide +kernel
theorem dR_welcome_30 : decode prog_9_method_33_code 30 = .ok (.iload_n 2, 1) := by decide +kernel
theorem dR_welcome_31 : decode prog_9_method_33_code 31 = .ok (.iconst (-1), 1) := by decide +kernel
theorem dR_welcome_32 : decode prog_9_method_33_code 32 = .ok (.invokevirtual 224, 3) := by decide +kernel
theorem dR_welcome_35 : decode prog_9_method_33_code 35 = .ok (.aload_n 0, 1) := by decide +kernel
theorem dR_welcome_36 : decode prog_9_method_33_code 36 = .ok (.getfield 62, 3) := by decide +kernel
theorem dR_welcome_39 : decode prog_9_method_33_code 39 = .ok (.iload_n 1, 1) := by decide +kernel
theorem dR_welcome_40 : decode prog_9_method_33_code 40 = .ok (.baload, 1) := by decide +kernel
theorem dR_welcome_41 : decode prog_9_method_33_code 41 = .ok (.ifCond .eq 17, 3) := by decide +kernel
theorem dR_welcome_44 : decode prog_9_method_33_code 44 = .ok (.aload_n 0, 1) := by decide +kernel
theorem dR_welcome_45 : decode prog_9_method_33_code 45 = .ok (.iload_n 1, 1) := by decide +kernel
theorem dR_welcome_46 : decode prog_9_method_33_code 46 = .ok (.aload_n 0, 1) := by decide +kernel
theorem dR_welcome_47 : decode prog_9_method_33_code 47 = .ok (.getfield 116, 3) := by decide +kernel
theorem dR_welcome_50 : decode prog_9_method_33_code 50 = .ok (.iload_n 3, 1) := by decide +kernel
theorem dR_welcome_51 : decode prog_9_method_33_code 51 = .ok (.iaload, 1) := by decide +kernel
theorem dR_welcome_52 : decode prog_9_method_33_code 52 = .ok (.invokevirtual 227, 3) := by decide +kernel
theorem dR_welcome_55 : decode prog_9_method_33_code 55 = .ok (.goto 4, 3) := by decide +kernel
theorem dR_welcome_58 : decode prog_9_method_33_code 58 = .ok (.iconst (-1), 1) := by decide +kernel
theorem dR_welcome_59 : decode prog_9_method_33_code 59 = .ok (.istore 4, 2) := by decide +kernel
theorem dR_welcome_61 : decode prog_9_method_33_code 61 = .ok (.iload 4, 2) := by decide +kernel
theorem dR_welcome_63 : decode prog_9_method_33_code 63 = .ok (.iconst (-1), 1) := by decide +kernel
theorem dR_welcome_64 : decode prog_9_method_33_code 64 = .ok (.if_icmp .eq 26, 3) := by decide +kernel
theorem dR_welcome_67 : decode prog_9_method_33_code 67 = .ok (.aload_n 0, 1) := by decide +kernel
theorem dR_welcome_68 : decode prog_9_method_33_code 68 = .ok (.aload_n 0, 1) := by decide +kernel
theorem dR_welcome_69 : decode prog_9_method_33_code 69 = .ok (.getfield 107, 3) := by decide +kernel
theorem dR_welcome_72 : decode prog_9_method_33_code 72 = .ok (.iload_n 3, 1) := by decide +kernel
theorem dR_welcome_73 : decode prog_9_method_33_code 73 = .ok (.iaload, 1) := by decide +kernel
theorem dR_welcome_74 : decode prog_9_method_33_code 74 = .ok (.aload_n 0, 1) := by decide +kernel
theorem dR_welcome_75 : decode prog_9_method_33_code 75 = .ok (.getfield 74, 3) := by decide +kernel
theorem dR_welcome_78 : decode prog_9_method_33_code 78 = .ok (.bipush 31, 2) := by decide +kernel
theorem dR_welcome_80 : decode prog_9_method_33_code 80 = .ok (.iload_n 1, 1) := by decide +kernel
theorem dR_welcome_81 : decode prog_9_method_33_code 81 = .ok (.imul, 1) := by decide +kernel
theorem dR_welcome_82 : decode prog_9_method_33_code 82 = .ok (.iload 4, 2) := by decide +kernel
theorem dR_welcome_84 : decode prog_9_method_33_code 84 = .ok (.iadd, 1) := by decide +kernel
theorem dR_welcome_85 : decode prog_9_method_33_code 85 = .ok (.iaload, 1) := by decide +kernel
theorem dR_welcome_86 : decode prog_9_method_33_code 86 = .ok (.iconst (-1), 1) := by decide +kernel
theorem dR_welcome_87 : decode prog_9_method_33_code 87 = .ok (.invokevirtual 224, 3) := by decide +kernel
theorem dR_welcome_90 : decode prog_9_method_33_code 90 = .ok (.iinc 3 1, 3) := by decide +kernel
theorem dR_welcome_93 : decode prog_9_method_33_code 93 = .ok (.goto (-91), 3) := by decide +kernel
theorem dR_welcome_96 : decode prog_9_method_33_code 96 = .ok (.return_, 1) := by decide +kernel
theorem dR_meeting_0 : decode prog_9_method_32_code 0 = .ok (.iconst 1, 1) := by decide +kernel
theorem dR_meeting_1 : decode prog_9_method_32_code 1 = .ok (.istore_n 3, 1) := by decide +kernel
theorem dR_meeting_2 : decode prog_9_method_32_code 2 = .ok (.iload_n 3, 1) := by decide +kernel
theorem dR_meeting_3 : decode prog_9_method_32_code 3 = .ok (.aload_n 0, 1) := by decide +kernel
theorem dR_meeting_4 : decode prog_9_method_32_code 4 = .ok (.getfield 38, 3) := by decide +kernel
theorem dR_meeting_7 : decode prog_9_method_32_code 7 = .ok (.iload_n 1, 1) := by decide +kernel
theorem dR_meeting_8 : decode prog_9_method_32_code 8 = .ok (.iaload, 1) := by decide +kernel
theorem dR_meeting_9 : decode prog_9_method_32_code 9 = .ok (.if_icmp .gt 33, 3) := by decide +kernel
theorem dR_meeting_12 : decode prog_9_method_32_code 12 = .ok (.aload_n 0, 1) := by decide +kernel
theorem dR_meeting_13 : decode prog_9_method_32_code 13 = .ok (.getfield 47, 3) := by decide +kernel
theorem dR_meeting_16 : decode prog_9_method_32_code 16 = .ok (.iload_n 1, 1) := by decide +kernel
theorem dR_meeting_17 : decode prog_9_method_32_code 17 = .ok (.iaload, 1) := by decide +kernel
theorem dR_meeting_18 : decode prog_9_method_32_code 18 = .ok (.iload_n 2, 1) := by decide +kernel
theorem dR_meeting_19 : decode prog_9_method_32_code 19 = .ok (.iload_n 3, 1) := by decide +kernel
theorem dR_meeting_20 : decode prog_9_method_32_code 20 = .ok (.invokestatic 168, 3) := by decide +kernel
theorem dR_meeting_23 : decode prog_9_method_32_code 23 = .ok (.ishr, 1) := by decide +kernel
theorem dR_meeting_24 : decode prog_9_method_32_code 24 = .ok (.iconst 1, 1) := by decide +kernel
theorem dR_meeting_25 : decode prog_9_method_32_code 25 = .ok (.iand, 1) := by decide +kernel
theorem dR_meeting_26 : decode prog_9_method_32_code 26 = .ok (.iconst 1, 1) := by decide +kernel
theorem dR_meeting_27 : decode prog_9_method_32_code 27 = .ok (.if_icmp .ne 9, 3) := by decide +kernel
theorem dR_meeting_30 : decode prog_9_method_32_code 30 = .ok (.iload_n 2, 1) := by decide +kernel
theorem dR_meeting_31 : decode prog_9_method_32_code 31 = .ok (.iload_n 3, 1) := by decide +kernel
theorem dR_meeting_32 : decode prog_9_method_32_code 32 = .ok (.invokestatic 168, 3) := by decide +kernel
theorem dR_meeting_35 : decode prog_9_method_32_code 35 = .ok (.ireturn, 1) := by decide +kernel
theorem dR_meeting_36 : decode prog_9_method_32_code 36 = .ok (.iinc 3 1, 3) := by decide +kernel
theorem dR_meeting_39 : decode prog_9_method_32_code 39 = .ok (.goto (-37), 3) := by decide +kernel
theorem dR_meeting_42 : decode prog_9_method_32_code 42 = .ok (.iconst (-1), 1) := by decide +kernel
theorem dR_meeting_43 : decode prog_9_method_32_code 43 = .ok (.ireturn, 1) := by decide +kernel
theorem dR_advance_0 : decode prog_9_method_36_code 0 = .ok (.aload_n 0, 1) := by decide +kernel
theorem dR_advance_1 : decode prog_9_method_36_code 1 = .ok (.getfield 80, 3) := by decide +kernel
theorem dR_advance_4 : decode prog_9_method_36_code 4 = .ok (.iload_n 1, 1) := by decide +kernel
theorem dR_advance_5 : decode prog_9_method_36_code 5 = .ok (.iload_n 2, 1) := by decide +kernel
theorem dR_advance_6 : decode prog_9_method_36_code 6 = .ok (.iastore, 1) := by decide +kernel
theorem dR_advance_7 : decode prog_9_method_36_code 7 = .ok (.aload_n 0, 1) := by decide +kernel
theorem dR_advance_8 : decode prog_9_method_36_code 8 = .ok (.getfield 92, 3) := by decide +kernel
theorem dR_advance_11 : decode prog_9_method_36_code 11 = .ok (.iload_n 1, 1) := by decide +kernel
theorem dR_advance_12 : decode prog_9_method_36_code 12 = .ok (.iconst 0, 1) := by decide +kernel
theorem dR_advance_13 : decode prog_9_method_36_code 13 = .ok (.iastore, 1) := by decide +kernel
theorem dR_advance_14 : decode prog_9_method_36_code 14 = .ok (.aload_n 0, 1) := by decide +kernel
theorem dR_advance_15 : decode prog_9_method_36_code 15 = .ok (.getfield 86, 3) := by decide +kernel
theorem dR_advance_18 : decode prog_9_method_36_code 18 = .ok (.iload_n 1, 1) := by decide +kernel
theorem dR_advance_19 : decode prog_9_method_36_code 19 = .ok (.aload_n 0, 1) := by decide +kernel
theorem dR_advance_20 : decode prog_9_method_36_code 20 = .ok (.getfield 65, 3) := by decide +kernel
theorem dR_advance_23 : decode prog_9_method_36_code 23 = .ok (.bipush 31, 2) := by decide +kernel
theorem dR_advance_25 : decode prog_9_method_36_code 25 = .ok (.iload_n 2, 1) := by decide +kernel
theorem dR_advance_26 : decode prog_9_method_36_code 26 = .ok (.imul, 1) := by decide +kernel
theorem dR_advance_27 : decode prog_9_method_36_code 27 = .ok (.iconst 2, 1) := by decide +kernel
theorem dR_advance_28 : decode prog_9_method_36_code 28 = .ok (.aload_n 0, 1) := by decide +kernel
theorem dR_advance_29 : decode prog_9_method_36_code 29 = .ok (.getfield 83, 3) := by decide +kernel
theorem dR_advance_32 : decode prog_9_method_36_code 32 = .ok (.iload_n 1, 1) := by decide +kernel
theorem dR_advance_33 : decode prog_9_method_36_code 33 = .ok (.iaload, 1) := by decide +kernel
theorem dR_advance_34 : decode prog_9_method_36_code 34 = .ok (.imul, 1) := by decide +kernel
theorem dR_advance_35 : decode prog_9_method_36_code 35 = .ok (.iadd, 1) := by decide +kernel
theorem dR_advance_36 : decode prog_9_method_36_code 36 = .ok (.iaload, 1) := by decide +kernel
theorem dR_advance_37 : decode prog_9_method_36_code 37 = .ok (.iastore, 1) := by decide +kernel
theorem dR_advance_38 : decode prog_9_method_36_code 38 = .ok (.aload_n 0, 1) := by decide +kernel
theorem dR_advance_39 : decode prog_9_method_36_code 39 = .ok (.iload_n 1, 1) := by decide +kernel
theorem dR_advance_40 : decode prog_9_method_36_code 40 = .ok (.iload_n 2, 1) := by decide +kernel
theorem dR_advance_41 : decode prog_9_method_36_code 41 = .ok (.invokevirtual 230, 3) := by decide +kernel
theorem dR_advance_44 : decode prog_9_method_36_code 44 = .ok (.iload_n 3, 1) := by decide +kernel
theorem dR_advance_45 : decode prog_9_method_36_code 45 = .ok (.ifCond .eq 28, 3) := by decide +kernel
theorem dR_advance_48 : decode prog_9_method_36_code 48 = .ok (.aload_n 0, 1) := by decide +kernel
theorem dR_advance_49 : decode prog_9_method_36_code 49 = .ok (.getfield 38, 3) := by decide +kernel
theorem dR_advance_52 : decode prog_9_method_36_code 52 = .ok (.iload_n 2, 1) := by decide +kernel
theorem dR_advance_53 : decode prog_9_method_36_code 53 = .ok (.iaload, 1) := by decide +kernel
theorem dR_advance_54 : decode prog_9_method_36_code 54 = .ok (.ifCond .le 19, 3) := by decide +kernel
theorem dR_advance_57 : decode prog_9_method_36_code 57 = .ok (.aload_n 0, 1) := by decide +kernel
theorem dR_advance_58 : decode prog_9_method_36_code 58 = .ok (.iload_n 1, 1) := by decide +kernel
theorem dR_advance_59 : decode prog_9_method_36_code 59 = .ok (.iload_n 2, 1) := by decide +kernel
theorem dR_advance_60 : decode prog_9_method_36_code 60 = .ok (.aload_n 0, 1) := by decide +kernel
theorem dR_advance_61 : decode prog_9_method_36_code 61 = .ok (.getfield 83, 3) := by decide +kernel
theorem dR_advance_64 : decode prog_9_method_36_code 64 = .ok (.iload_n 1, 1) := by decide +kernel
theorem dR_advance_65 : decode prog_9_method_36_code 65 = .ok (.iaload, 1) := by decide +kernel
theorem dR_advance_66 : decode prog_9_method_36_code 66 = .ok (.iconst 1, 1) := by decide +kernel
theorem dR_advance_67 : decode prog_9_method_36_code 67 = .ok (.invokestatic 168, 3) := by decide +kernel
theorem dR_advance_70 : decode prog_9_method_36_code 70 = .ok (.invokevirtual 233, 3) := by decide +kernel
theorem dR_advance_73 : decode prog_9_method_36_code 73 = .ok (.return_, 1) := by decide +kernel
theorem dR_keep_0 : decode prog_9_method_34_code 0 = .ok (.iconst 0, 1) := by decide +kernel
theorem dR_keep_1 : decode prog_9_method_34_code 1 = .ok (.istore_n 3, 1) := by decide +kernel
theorem dR_keep_2 : decode prog_9_method_34_code 2 = .ok (.iload_n 3, 1) := by decide +kernel
theorem dR_keep_3 : decode prog_9_method_34_code 3 = .ok (.bipush 31, 2) := by decide +kernel
theorem dR_keep_5 : decode prog_9_method_34_code 5 = .ok (.if_icmp .ge 91, 3) := by decide +kernel
theorem dR_keep_8 : decode prog_9_method_34_code 8 = .ok (.bipush 31, 2) := by decide +kernel
theorem dR_keep_10 : decode prog_9_method_34_code 10 = .ok (.iload_n 1, 1) := by decide +kernel
theorem dR_keep_11 : decode prog_9_method_34_code 11 = .ok (.imul, 1) := by decide +kernel
theorem dR_keep_12 : decode prog_9_method_34_code 12 = .ok (.iload_n 3, 1) := by decide +kernel
theorem dR_keep_13 : decode prog_9_method_34_code 13 = .ok (.iadd, 1) := by decide +kernel
theorem dR_keep_14 : decode prog_9_method_34_code 14 = .ok (.istore 4, 2) := by decide +kernel
theorem dR_keep_16 : decode prog_9_method_34_code 16 = .ok (.iload_n 3, 1) := by decide +kernel
theorem dR_keep_17 : decode prog_9_method_34_code 17 = .ok (.aload_n 0, 1) := by decide +kernel
theorem dR_keep_18 : decode prog_9_method_34_code 18 = .ok (.iload_n 2, 1) := by decide +kernel
theorem dR_keep_19 : decode prog_9_method_34_code 19 = .ok (.invokevirtual 192, 3) := by decide +kernel
theorem dR_keep_22 : decode prog_9_method_34_code 22 = .ok (.if_icmp .ge 31, 3) := by decide +kernel
theorem dR_keep_25 : decode prog_9_method_34_code 25 = .ok (.iload_n 3, 1) := by decide +kernel
theorem dR_keep_26 : decode prog_9_method_34_code 26 = .ok (.invokestatic 179, 3) := by decide +kernel
theorem dR_keep_29 : decode prog_9_method_34_code 29 = .ok (.ifCond .le 24, 3) := by decide +kernel
theorem dR_keep_32 : decode prog_9_method_34_code 32 = .ok (.aload_n 0, 1) := by decide +kernel
theorem dR_keep_33 : decode prog_9_method_34_code 33 = .ok (.getfield 83, 3) := by decide +kernel
theorem dR_keep_36 : decode prog_9_method_34_code 36 = .ok (.iload_n 1, 1) := by decide +kernel
theorem dR_keep_37 : decode prog_9_method_34_code 37 = .ok (.iaload, 1) := by decide +kernel
theorem dR_keep_38 : decode prog_9_method_34_code 38 = .ok (.iload_n 3, 1) := by decide +kernel
theorem dR_keep_39 : decode prog_9_method_34_code 39 = .ok (.invokestatic 179, 3) := by decide +kernel
theorem dR_keep_42 : decode prog_9_method_34_code 42 = .ok (.invokestatic 168, 3) := by decide +kernel
theorem dR_keep_45 : decode prog_9_method_34_code 45 = .ok (.iload_n 3, 1) := by decide +kernel
theorem dR_keep_46 : decode prog_9_method_34_code 46 = .ok (.if_icmp .ne 7, 3) := by decide +kernel
theorem dR_keep_49 : decode prog_9_method_34_code 49 = .ok (.iconst 1, 1) := by decide +kernel
theorem dR_keep_50 : decode prog_9_method_34_code 50 = .ok (.goto 4, 3) := by decide +kernel
theorem dR_keep_53 : decode prog_9_method_34_code 53 = .ok (.iconst 0, 1) := by decide +kernel
theorem dR_keep_54 : decode prog_9_method_34_code 54 = .ok (.istore 5, 2) := by decide +kernel
theorem dR_keep_56 : decode prog_9_method_34_code 56 = .ok (.iload 5, 2) := by decide +kernel
theorem dR_keep_58 : decode prog_9_method_34_code 58 = .ok (.ifCond .eq 24, 3) := by decide +kernel
theorem dR_keep_61 : decode prog_9_method_34_code 61 = .ok (.aload_n 0, 1) := by decide +kernel
theorem dR_keep_62 : decode prog_9_method_34_code 62 = .ok (.getfield 65, 3) := by decide +kernel
theorem dR_keep_65 : decode prog_9_method_34_code 65 = .ok (.bipush 31, 2) := by decide +kernel
theorem dR_keep_67 : decode prog_9_method_34_code 67 = .ok (.iload_n 2, 1) := by decide +kernel
theorem dR_keep_68 : decode prog_9_method_34_code 68 = .ok (.imul, 1) := by decide +kernel
theorem dR_keep_69 : decode prog_9_method_34_code 69 = .ok (.iload_n 3, 1) := by decide +kernel
theorem dR_keep_70 : decode prog_9_method_34_code 70 = .ok (.iadd, 1) := by decide +kernel
theorem dR_keep_71 : decode prog_9_method_34_code 71 = .ok (.iaload, 1) := by decide +kernel
theorem dR_keep_72 : decode prog_9_method_34_code 72 = .ok (.aload_n 0, 1) := by decide +kernel
theorem dR_keep_73 : decode prog_9_method_34_code 73 = .ok (.getfield 98, 3) := by decide +kernel
theorem dR_keep_76 : decode prog_9_method_34_code 76 = .ok (.iload 4, 2) := by decide +kernel
theorem dR_keep_78 : decode prog_9_method_34_code 78 = .ok (.iaload, 1) := by decide +kernel
theorem dR_keep_79 : decode prog_9_method_34_code 79 = .ok (.if_icmp .eq 11, 3) := by decide +kernel
theorem dR_keep_82 : decode prog_9_method_34_code 82 = .ok (.aload_n 0, 1) := by decide +kernel
theorem dR_keep_83 : decode prog_9_method_34_code 83 = .ok (.getfield 98, 3) := by decide +kernel
theorem dR_keep_86 : decode prog_9_method_34_code 86 = .ok (.iload 4, 2) := by decide +kernel
theorem dR_keep_88 : decode prog_9_method_34_code 88 = .ok (.iconst (-1), 1) := by decide +kernel
theorem dR_keep_89 : decode prog_9_method_34_code 89 = .ok (.iastore, 1) := by decide +kernel
theorem dR_keep_90 : decode prog_9_method_34_code 90 = .ok (.iinc 3 1, 3) := by decide +kernel
theorem dR_keep_93 : decode prog_9_method_34_code 93 = .ok (.goto (-91), 3) := by decide +kernel
theorem dR_keep_96 : decode prog_9_method_34_code 96 = .ok (.return_, 1) := by decide +kernel
theorem dR_tell_0 : decode prog_9_method_35_code 0 = .ok (.iload_n 3, 1) := by decide +kernel
theorem dR_tell_1 : decode prog_9_method_35_code 1 = .ok (.invokestatic 179, 3) := by decide +kernel
theorem dR_tell_4 : decode prog_9_method_35_code 4 = .ok (.istore 4, 2) := by decide +kernel
theorem dR_tell_6 : decode prog_9_method_35_code 6 = .ok (.iload 4, 2) := by decide +kernel
theorem dR_tell_8 : decode prog_9_method_35_code 8 = .ok (.aload_n 0, 1) := by decide +kernel
theorem dR_tell_9 : decode prog_9_method_35_code 9 = .ok (.getfield 38, 3) := by decide +kernel
theorem dR_tell_12 : decode prog_9_method_35_code 12 = .ok (.iload_n 2, 1) := by decide +kernel
theorem dR_tell_13 : decode prog_9_method_35_code 13 = .ok (.iaload, 1) := by decide +kernel
theorem dR_tell_14 : decode prog_9_method_35_code 14 = .ok (.if_icmp .gt 61, 3) := by decide +kernel
theorem dR_tell_17 : decode prog_9_method_35_code 17 = .ok (.aload_n 0, 1) := by decide +kernel
theorem dR_tell_18 : decode prog_9_method_35_code 18 = .ok (.getfield 83, 3) := by decide +kernel
theorem dR_tell_21 : decode prog_9_method_35_code 21 = .ok (.iload_n 1, 1) := by decide +kernel
theorem dR_tell_22 : decode prog_9_method_35_code 22 = .ok (.iaload, 1) := by decide +kernel
theorem dR_tell_23 : decode prog_9_method_35_code 23 = .ok (.iload 4, 2) := by decide +kernel
theorem dR_tell_25 : decode prog_9_method_35_code 25 = .ok (.invokestatic 168, 3) := by decide +kernel
theorem dR_tell_28 : decode prog_9_method_35_code 28 = .ok (.istore 5, 2) := by decide +kernel
theorem dR_tell_30 : decode prog_9_method_35_code 30 = .ok (.aload_n 0, 1) := by decide +kernel
theorem dR_tell_31 : decode prog_9_method_35_code 31 = .ok (.getfield 47, 3) := by decide +kernel
theorem dR_tell_34 : decode prog_9_method_35_code 34 = .ok (.iload_n 2, 1) := by decide +kernel
theorem dR_tell_35 : decode prog_9_method_35_code 35 = .ok (.iaload, 1) := by decide +kernel
theorem dR_tell_36 : decode prog_9_method_35_code 36 = .ok (.iload 5, 2) := by decide +kernel
theorem dR_tell_38 : decode prog_9_method_35_code 38 = .ok (.ishr, 1) := by decide +kernel
theorem dR_tell_39 : decode prog_9_method_35_code 39 = .ok (.iconst 1, 1) := by decide +kernel
theorem dR_tell_40 : decode prog_9_method_35_code 40 = .ok (.iand, 1) := by decide +kernel
theorem dR_tell_41 : decode prog_9_method_35_code 41 = .ok (.iconst 1, 1) := by decide +kernel
theorem dR_tell_42 : decode prog_9_method_35_code 42 = .ok (.if_icmp .ne 27, 3) := by decide +kernel
theorem dR_tell_45 : decode prog_9_method_35_code 45 = .ok (.aload_n 0, 1) := by decide +kernel
theorem dR_tell_46 : decode prog_9_method_35_code 46 = .ok (.getfield 98, 3) := by decide +kernel
theorem dR_tell_49 : decode prog_9_method_35_code 49 = .ok (.bipush 31, 2) := by decide +kernel
theorem dR_tell_51 : decode prog_9_method_35_code 51 = .ok (.iload_n 1, 1) := by decide +kernel
theorem dR_tell_52 : decode prog_9_method_35_code 52 = .ok (.imul, 1) := by decide +kernel
theorem dR_tell_53 : decode prog_9_method_35_code 53 = .ok (.iload 5, 2) := by decide +kernel
theorem dR_tell_55 : decode prog_9_method_35_code 55 = .ok (.iadd, 1) := by decide +kernel
theorem dR_tell_56 : decode prog_9_method_35_code 56 = .ok (.aload_n 0, 1) := by decide +kernel
theorem dR_tell_57 : decode prog_9_method_35_code 57 = .ok (.getfield 65, 3) := by decide +kernel
theorem dR_tell_60 : decode prog_9_method_35_code 60 = .ok (.bipush 31, 2) := by decide +kernel
theorem dR_tell_62 : decode prog_9_method_35_code 62 = .ok (.iload_n 2, 1) := by decide +kernel
theorem dR_tell_63 : decode prog_9_method_35_code 63 = .ok (.imul, 1) := by decide +kernel
theorem dR_tell_64 : decode prog_9_method_35_code 64 = .ok (.iload 5, 2) := by decide +kernel
theorem dR_tell_66 : decode prog_9_method_35_code 66 = .ok (.iadd, 1) := by decide +kernel
theorem dR_tell_67 : decode prog_9_method_35_code 67 = .ok (.iaload, 1) := by decide +kernel
theorem dR_tell_68 : decode prog_9_method_35_code 68 = .ok (.iastore, 1) := by decide +kernel
theorem dR_tell_69 : decode prog_9_method_35_code 69 = .ok (.iinc 4 1, 3) := by decide +kernel
theorem dR_tell_72 : decode prog_9_method_35_code 72 = .ok (.goto (-66), 3) := by decide +kernel
theorem dR_tell_75 : decode prog_9_method_35_code 75 = .ok (.return_, 1) := by decide +kernel
theorem dR_come_0 : decode prog_9_method_48_code 0 = .ok (.iload_n 1, 1) := by decide +kernel
theorem dR_come_1 : decode prog_9_method_48_code 1 = .ok (.istore_n 2, 1) := by decide +kernel
theorem dR_come_2 : decode prog_9_method_48_code 2 = .ok (.iload_n 2, 1) := by decide +kernel
theorem dR_come_3 : decode prog_9_method_48_code 3 = .ok (.bipush 16, 2) := by decide +kernel
theorem dR_come_5 : decode prog_9_method_48_code 5 = .ok (.invokestatic 264, 3) := by decide +kernel
theorem dR_come_8 : decode prog_9_method_48_code 8 = .ok (.ifCond .eq 21, 3) := by decide +kernel
theorem dR_come_11 : decode prog_9_method_48_code 11 = .ok (.aload_n 0, 1) := by decide +kernel
theorem dR_come_12 : decode prog_9_method_48_code 12 = .ok (.getfield 80, 3) := by decide +kernel
theorem dR_come_15 : decode prog_9_method_48_code 15 = .ok (.iload_n 2, 1) := by decide +kernel
theorem dR_come_16 : decode prog_9_method_48_code 16 = .ok (.iaload, 1) := by decide +kernel
theorem dR_come_17 : decode prog_9_method_48_code 17 = .ok (.iconst (-1), 1) := by decide +kernel
theorem dR_come_18 : decode prog_9_method_48_code 18 = .ok (.if_icmp .ne 11, 3) := by decide +kernel
theorem dR_come_21 : decode prog_9_method_48_code 21 = .ok (.aload_n 0, 1) := by decide +kernel
theorem dR_come_22 : decode prog_9_method_48_code 22 = .ok (.iload_n 2, 1) := by decide +kernel
theorem dR_come_23 : decode prog_9_method_48_code 23 = .ok (.invokevirtual 287, 3) := by decide +kernel
theorem dR_come_26 : decode prog_9_method_48_code 26 = .ok (.goto 4, 3) := by decide +kernel
theorem dR_come_29 : decode prog_9_method_48_code 29 = .ok (.iconst (-1), 1) := by decide +kernel
theorem dR_come_30 : decode prog_9_method_48_code 30 = .ok (.istore_n 3, 1) := by decide +kernel
theorem dR_come_31 : decode prog_9_method_48_code 31 = .ok (.aload_n 0, 1) := by decide +kernel
theorem dR_come_32 : decode prog_9_method_48_code 32 = .ok (.iload_n 2, 1) := by decide +kernel
theorem dR_come_33 : decode prog_9_method_48_code 33 = .ok (.bipush 16, 2) := by decide +kernel
theorem dR_come_35 : decode prog_9_method_48_code 35 = .ok (.invokestatic 264, 3) := by decide +kernel
theorem dR_come_38 : decode prog_9_method_48_code 38 = .ok (.ifCond .ne 7, 3) := by decide +kernel
theorem dR_come_41 : decode prog_9_method_48_code 41 = .ok (.iconst 1, 1) := by decide +kernel
theorem dR_come_42 : decode prog_9_method_48_code 42 = .ok (.goto 31, 3) := by decide +kernel
theorem dR_come_45 : decode prog_9_method_48_code 45 = .ok (.aload_n 0, 1) := by decide +kernel
theorem dR_come_46 : decode prog_9_method_48_code 46 = .ok (.iload_n 2, 1) := by decide +kernel
theorem dR_come_47 : decode prog_9_method_48_code 47 = .ok (.invokevirtual 267, 3) := by decide +kernel
theorem dR_come_50 : decode prog_9_method_48_code 50 = .ok (.ifCond .ne 18, 3) := by decide +kernel
theorem dR_come_53 : decode prog_9_method_48_code 53 = .ok (.aload_n 0, 1) := by decide +kernel
theorem dR_come_54 : decode prog_9_method_48_code 54 = .ok (.getfield 80, 3) := by decide +kernel
theorem dR_come_57 : decode prog_9_method_48_code 57 = .ok (.iload_n 2, 1) := by decide +kernel
theorem dR_come_58 : decode prog_9_method_48_code 58 = .ok (.iaload, 1) := by decide +kernel
theorem dR_come_59 : decode prog_9_method_48_code 59 = .ok (.iconst (-1), 1) := by decide +kernel
theorem dR_come_60 : decode prog_9_method_48_code 60 = .ok (.if_icmp .ne 12, 3) := by decide +kernel
theorem dR_come_63 : decode prog_9_method_48_code 63 = .ok (.iload_n 3, 1) := by decide +kernel
theorem dR_come_64 : decode prog_9_method_48_code 64 = .ok (.iconst (-1), 1) := by decide +kernel
theorem dR_come_65 : decode prog_9_method_48_code 65 = .ok (.if_icmp .ne 7, 3) := by decide +kernel
theorem dR_come_68 : decode prog_9_method_48_code 68 = .ok (.iconst 2, 1) := by decide +kernel
theorem dR_come_69 : decode prog_9_method_48_code 69 = .ok (.goto 4, 3) := by decide +kernel
theorem dR_come_72 : decode prog_9_method_48_code 72 = .ok (.iconst 0, 1) := by decide +kernel
theorem dR_come_73 : decode prog_9_method_48_code 73 = .ok (.putfield 155, 3) := by decide +kernel
theorem dR_come_76 : decode prog_9_method_48_code 76 = .ok (.aload_n 0, 1) := by decide +kernel
theorem dR_come_77 : decode prog_9_method_48_code 77 = .ok (.getfield 155, 3) := by decide +kernel
theorem dR_come_80 : decode prog_9_method_48_code 80 = .ok (.ifCond .le 5, 3) := by decide +kernel
theorem dR_come_83 : decode prog_9_method_48_code 83 = .ok (.iconst 0, 1) := by decide +kernel
theorem dR_come_84 : decode prog_9_method_48_code 84 = .ok (.ireturn, 1) := by decide +kernel
theorem dR_come_85 : decode prog_9_method_48_code 85 = .ok (.aload_n 0, 1) := by decide +kernel
theorem dR_come_86 : decode prog_9_method_48_code 86 = .ok (.getfield 80, 3) := by decide +kernel
theorem dR_come_89 : decode prog_9_method_48_code 89 = .ok (.iload_n 2, 1) := by decide +kernel
theorem dR_come_90 : decode prog_9_method_48_code 90 = .ok (.iaload, 1) := by decide +kernel
theorem dR_come_91 : decode prog_9_method_48_code 91 = .ok (.iconst (-1), 1) := by decide +kernel
theorem dR_come_92 : decode prog_9_method_48_code 92 = .ok (.if_icmp .ne 12, 3) := by decide +kernel
theorem dR_come_95 : decode prog_9_method_48_code 95 = .ok (.aload_n 0, 1) := by decide +kernel
theorem dR_come_96 : decode prog_9_method_48_code 96 = .ok (.iload_n 2, 1) := by decide +kernel
theorem dR_come_97 : decode prog_9_method_48_code 97 = .ok (.iload_n 3, 1) := by decide +kernel
theorem dR_come_98 : decode prog_9_method_48_code 98 = .ok (.invokevirtual 290, 3) := by decide +kernel
theorem dR_come_101 : decode prog_9_method_48_code 101 = .ok (.goto 8, 3) := by decide +kernel
theorem dR_come_104 : decode prog_9_method_48_code 104 = .ok (.aload_n 0, 1) := by decide +kernel
theorem dR_come_105 : decode prog_9_method_48_code 105 = .ok (.iload_n 2, 1) := by decide +kernel
theorem dR_come_106 : decode prog_9_method_48_code 106 = .ok (.invokevirtual 293, 3) := by decide +kernel
theorem dR_come_109 : decode prog_9_method_48_code 109 = .ok (.aload_n 0, 1) := by decide +kernel
theorem dR_come_110 : decode prog_9_method_48_code 110 = .ok (.getfield 80, 3) := by decide +kernel
theorem dR_come_113 : decode prog_9_method_48_code 113 = .ok (.iload_n 2, 1) := by decide +kernel
theorem dR_come_114 : decode prog_9_method_48_code 114 = .ok (.iaload, 1) := by decide +kernel
theorem dR_come_115 : decode prog_9_method_48_code 115 = .ok (.ireturn, 1) := by decide +kernel
theorem dR_nextPackage_0 : decode prog_9_method_45_code 0 = .ok (.iconst (-1), 1) := by decide +kernel
theorem dR_nextPackage_1 : decode prog_9_method_45_code 1 = .ok (.istore_n 2, 1) := by decide +kernel
theorem dR_nextPackage_2 : decode prog_9_method_45_code 2 = .ok (.iconst 0, 1) := by decide +kernel
theorem dR_nextPackage_3 : decode prog_9_method_45_code 3 = .ok (.istore_n 3, 1) := by decide +kernel
theorem dR_nextPackage_4 : decode prog_9_method_45_code 4 = .ok (.iload_n 3, 1) := by decide +kernel
theorem dR_nextPackage_5 : decode prog_9_method_45_code 5 = .ok (.aload_n 0, 1) := by decide +kernel
theorem dR_nextPackage_6 : decode prog_9_method_45_code 6 = .ok (.getfield 189, 3) := by decide +kernel
theorem dR_nextPackage_9 : decode prog_9_method_45_code 9 = .ok (.if_icmp .ge 60, 3) := by decide +kernel
theorem dR_nextPackage_12 : decode prog_9_method_45_code 12 = .ok (.aload_n 0, 1) := by decide +kernel
theorem dR_nextPackage_13 : decode prog_9_method_45_code 13 = .ok (.getfield 104, 3) := by decide +kernel
theorem dR_nextPackage_16 : decode prog_9_method_45_code 16 = .ok (.iload_n 3, 1) := by decide +kernel
theorem dR_nextPackage_17 : decode prog_9_method_45_code 17 = .ok (.iaload, 1) := by decide +kernel
theorem dR_nextPackage_18 : decode prog_9_method_45_code 18 = .ok (.iload_n 1, 1) := by decide +kernel
theorem dR_nextPackage_19 : decode prog_9_method_45_code 19 = .ok (.if_icmp .ne 44, 3) := by decide +kernel
theorem dR_nextPackage_22 : decode prog_9_method_45_code 22 = .ok (.aload_n 0, 1) := by decide +kernel
theorem dR_nextPackage_23 : decode prog_9_method_45_code 23 = .ok (.getfield 113, 3) := by decide +kernel
theorem dR_nextPackage_26 : decode prog_9_method_45_code 26 = .ok (.iload_n 3, 1) := by decide +kernel
theorem dR_nextPackage_27 : decode prog_9_method_45_code 27 = .ok (.iaload, 1) := by decide +kernel
theorem dR_nextPackage_28 : decode prog_9_method_45_code 28 = .ok (.iconst (-1), 1) := by decide +kernel
theorem dR_nextPackage_29 : decode prog_9_method_45_code 29 = .ok (.if_icmp .eq 34, 3) := by decide +kernel
theorem dR_nextPackage_32 : decode prog_9_method_45_code 32 = .ok (.aload_n 0, 1) := by decide +kernel
theorem dR_nextPackage_33 : decode prog_9_method_45_code 33 = .ok (.getfield 119, 3) := by decide +kernel
theorem dR_nextPackage_36 : decode prog_9_method_45_code 36 = .ok (.iload_n 3, 1) := by decide +kernel
theorem dR_nextPackage_37 : decode prog_9_method_45_code 37 = .ok (.baload, 1) := by decide +kernel
theorem dR_nextPackage_38 : decode prog_9_method_45_code 38 = .ok (.ifCond .ne 25, 3) := by decide +kernel
theorem dR_nextPackage_41 : decode prog_9_method_45_code 41 = .ok (.iload_n 2, 1) := by decide +kernel
theorem dR_nextPackage_42 : decode prog_9_method_45_code 42 = .ok (.iconst (-1), 1) := by decide +kernel
theorem dR_nextPackage_43 : decode prog_9_method_45_code 43 = .ok (.if_icmp .eq 18, 3) := by decide +kernel
theorem dR_nextPackage_46 : decode prog_9_method_45_code 46 = .ok (.aload_n 0, 1) := by decide +kernel
theorem dR_nextPackage_47 : decode prog_9_method_45_code 47 = .ok (.getfield 113, 3) := by decide +kernel
theorem dR_nextPackage_50 : decode prog_9_method_45_code 50 = .ok (.iload_n 3, 1) := by decide +kernel
theorem dR_nextPackage_51 : decode prog_9_method_45_code 51 = .ok (.iaload, 1) := by decide +kernel
theorem dR_nextPackage_52 : decode prog_9_method_45_code 52 = .ok (.aload_n 0, 1) := by decide +kernel
theorem dR_nextPackage_53 : decode prog_9_method_45_code 53 = .ok (.getfield 113, 3) := by decide +kernel
theorem dR_nextPackage_56 : decode prog_9_method_45_code 56 = .ok (.iload_n 2, 1) := by decide +kernel
theorem dR_nextPackage_57 : decode prog_9_method_45_code 57 = .ok (.iaload, 1) := by decide +kernel
theorem dR_nextPackage_58 : decode prog_9_method_45_code 58 = .ok (.if_icmp .ge 5, 3) := by decide +kernel
theorem dR_nextPackage_61 : decode prog_9_method_45_code 61 = .ok (.iload_n 3, 1) := by decide +kernel
theorem dR_nextPackage_62 : decode prog_9_method_45_code 62 = .ok (.istore_n 2, 1) := by decide +kernel
