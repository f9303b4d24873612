theorem dL_offer_0 : decode method_3_code 0 = .ok (.aload_n 2, 1) := by decide +kernel
theorem dL_offer_1 : decode method_3_code 1 = .ok (.iconst 0, 1) := by decide +kernel
theorem dL_offer_2 : decode method_3_code 2 = .ok (.aload_n 0, 1) := by decide +kernel
theorem dL_offer_3 : decode method_3_code 3 = .ok (.iload_n 1, 1) := by decide +kernel
theorem dL_offer_4 : decode method_3_code 4 = .ok (.invokevirtual 7, 3) := by decide +kernel
theorem dL_offer_7 : decode method_3_code 7 = .ok (.i2l, 1) := by decide +kernel
theorem dL_offer_8 : decode method_3_code 8 = .ok (.lastore, 1) := by decide +kernel
theorem dL_offer_9 : decode method_3_code 9 = .ok (.goto 9, 3) := by decide +kernel
theorem dL_offer_12 : decode method_3_code 12 = .ok (.astore_n 3, 1) := by decide +kernel
theorem dL_offer_13 : decode method_3_code 13 = .ok (.iconst 1, 1) := by decide +kernel
theorem dL_offer_14 : decode method_3_code 14 = .ok (.ireturn, 1) := by decide +kernel
theorem dL_offer_15 : decode method_3_code 15 = .ok (.astore_n 3, 1) := by decide +kernel
theorem dL_offer_16 : decode method_3_code 16 = .ok (.iconst 2, 1) := by decide +kernel
theorem dL_offer_17 : decode method_3_code 17 = .ok (.ireturn, 1) := by decide +kernel
theorem dL_offer_18 : decode method_3_code 18 = .ok (.iconst 0, 1) := by decide +kernel
theorem dL_offer_19 : decode method_3_code 19 = .ok (.ireturn, 1) := by decide +kernel
theorem dL_add_0 : decode method_4_code 0 = .ok (.aload_n 3, 1) := by decide +kernel
theorem dL_add_1 : decode method_4_code 1 = .ok (.iconst 0, 1) := by decide +kernel
theorem dL_add_2 : decode method_4_code 2 = .ok (.aload_n 0, 1) := by decide +kernel
theorem dL_add_3 : decode method_4_code 3 = .ok (.iload_n 1, 1) := by decide +kernel
theorem dL_add_4 : decode method_4_code 4 = .ok (.iload_n 2, 1) := by decide +kernel
theorem dL_add_5 : decode method_4_code 5 = .ok (.invokevirtual 17, 3) := by decide +kernel
theorem dL_add_8 : decode method_4_code 8 = .ok (.i2l, 1) := by decide +kernel
theorem dL_add_9 : decode method_4_code 9 = .ok (.lastore, 1) := by decide +kernel
theorem dL_add_10 : decode method_4_code 10 = .ok (.goto 11, 3) := by decide +kernel
theorem dL_add_13 : decode method_4_code 13 = .ok (.astore 4, 2) := by decide +kernel
theorem dL_add_15 : decode method_4_code 15 = .ok (.iconst 1, 1) := by decide +kernel
theorem dL_add_16 : decode method_4_code 16 = .ok (.ireturn, 1) := by decide +kernel
theorem dL_add_17 : decode method_4_code 17 = .ok (.astore 4, 2) := by decide +kernel
theorem dL_add_19 : decode method_4_code 19 = .ok (.iconst 2, 1) := by decide +kernel
theorem dL_add_20 : decode method_4_code 20 = .ok (.ireturn, 1) := by decide +kernel
theorem dL_add_21 : decode method_4_code 21 = .ok (.iconst 0, 1) := by decide +kernel
theorem dL_add_22 : decode method_4_code 22 = .ok (.ireturn, 1) := by decide +kernel
theorem dL_remove_0 : decode method_5_code 0 = .ok (.aload_n 3, 1) := by decide +kernel
theorem dL_remove_1 : decode method_5_code 1 = .ok (.iconst 0, 1) := by decide +kernel
theorem dL_remove_2 : decode method_5_code 2 = .ok (.aload_n 0, 1) := by decide +kernel
theorem dL_remove_3 : decode method_5_code 3 = .ok (.iload_n 1, 1) := by decide +kernel
theorem dL_remove_4 : decode method_5_code 4 = .ok (.iload_n 2, 1) := by decide +kernel
theorem dL_remove_5 : decode method_5_code 5 = .ok (.invokevirtual 21, 3) := by decide +kernel
theorem dL_remove_8 : decode method_5_code 8 = .ok (.i2l, 1) := by decide +kernel
theorem dL_remove_9 : decode method_5_code 9 = .ok (.lastore, 1) := by decide +kernel
theorem dL_remove_10 : decode method_5_code 10 = .ok (.goto 11, 3) := by decide +kernel
theorem dL_remove_13 : decode method_5_code 13 = .ok (.astore 4, 2) := by decide +kernel
theorem dL_remove_15 : decode method_5_code 15 = .ok (.iconst 1, 1) := by decide +kernel
theorem dL_remove_16 : decode method_5_code 16 = .ok (.ireturn, 1) := by decide +kernel
theorem dL_remove_17 : decode method_5_code 17 = .ok (.astore 4, 2) := by decide +kernel
theorem dL_remove_19 : decode method_5_code 19 = .ok (.iconst 2, 1) := by decide +kernel
theorem dL_remove_20 : decode method_5_code 20 = .ok (.ireturn, 1) := by decide +kernel
theorem dL_remove_21 : decode method_5_code 21 = .ok (.iconst 0, 1) := by decide +kernel
theorem dL_remove_22 : decode method_5_code 22 = .ok (.ireturn, 1) := by decide +kernel
theorem dL_update_0 : decode method_6_code 0 = .ok (.aload_n 2, 1) := by decide +kernel
theorem dL_update_1 : decode method_6_code 1 = .ok (.iconst 0, 1) := by decide +kernel
theorem dL_update_2 : decode method_6_code 2 = .ok (.aload_n 0, 1) := by decide +kernel
theorem dL_update_3 : decode method_6_code 3 = .ok (.iload_n 1, 1) := by decide +kernel
theorem dL_update_4 : decode method_6_code 4 = .ok (.invokevirtual 24, 3) := by decide +kernel
theorem dL_update_7 : decode method_6_code 7 = .ok (.i2l, 1) := by decide +kernel
theorem dL_update_8 : decode method_6_code 8 = .ok (.lastore, 1) := by decide +kernel
theorem dL_update_9 : decode method_6_code 9 = .ok (.goto 9, 3) := by decide +kernel
theorem dL_update_12 : decode method_6_code 12 = .ok (.astore_n 3, 1) := by decide +kernel
theorem dL_update_13 : decode method_6_code 13 = .ok (.iconst 1, 1) := by decide +kernel
theorem dL_update_14 : decode method_6_code 14 = .ok (.ireturn, 1) := by decide +kernel
theorem dL_update_15 : decode method_6_code 15 = .ok (.astore_n 3, 1) := by decide +kernel
theorem dL_update_16 : decode method_6_code 16 = .ok (.iconst 2, 1) := by decide +kernel
theorem dL_update_17 : decode method_6_code 17 = .ok (.ireturn, 1) := by decide +kernel
theorem dL_update_18 : decode method_6_code 18 = .ok (.iconst 0, 1) := by decide +kernel
theorem dL_update_19 : decode method_6_code 19 = .ok (.ireturn, 1) := by decide +kernel
theorem dL_commit_0 : decode method_7_code 0 = .ok (.aload_n 3, 1) := by decide +kernel
theorem dL_commit_1 : decode method_7_code 1 = .ok (.iconst 0, 1) := by decide +kernel
theorem dL_commit_2 : decode method_7_code 2 = .ok (.aload_n 0, 1) := by decide +kernel
theorem dL_commit_3 : decode method_7_code 3 = .ok (.iload_n 1, 1) := by decide +kernel
theorem dL_commit_4 : decode method_7_code 4 = .ok (.iload_n 2, 1) := by decide +kernel
theorem dL_commit_5 : decode method_7_code 5 = .ok (.invokevirtual 27, 3) := by decide +kernel
theorem dL_commit_8 : decode method_7_code 8 = .ok (.i2l, 1) := by decide +kernel
theorem dL_commit_9 : decode method_7_code 9 = .ok (.lastore, 1) := by decide +kernel
theorem dL_commit_10 : decode method_7_code 10 = .ok (.goto 11, 3) := by decide +kernel
theorem dL_commit_13 : decode method_7_code 13 = .ok (.astore 4, 2) := by decide +kernel
theorem dL_commit_15 : decode method_7_code 15 = .ok (.iconst 1, 1) := by decide +kernel
theorem dL_commit_16 : decode method_7_code 16 = .ok (.ireturn, 1) := by decide +kernel
theorem dL_commit_17 : decode method_7_code 17 = .ok (.astore 4, 2) := by decide +kernel
theorem dL_commit_19 : decode method_7_code 19 = .ok (.iconst 2, 1) := by decide +kernel
theorem dL_commit_20 : decode method_7_code 20 = .ok (.ireturn, 1) := by decide +kernel
theorem dL_commit_21 : decode method_7_code 21 = .ok (.iconst 0, 1) := by decide +kernel
theorem dL_commit_22 : decode method_7_code 22 = .ok (.ireturn, 1) := by decide +kernel
theorem dL_come_0 : decode method_8_code 0 = .ok (.aload_n 2, 1) := by decide +kernel
theorem dL_come_1 : decode method_8_code 1 = .ok (.iconst 0, 1) := by decide +kernel
theorem dL_come_2 : decode method_8_code 2 = .ok (.aload_n 0, 1) := by decide +kernel
theorem dL_come_3 : decode method_8_code 3 = .ok (.iload_n 1, 1) := by decide +kernel
theorem dL_come_4 : decode method_8_code 4 = .ok (.invokevirtual 31, 3) := by decide +kernel
theorem dL_come_7 : decode method_8_code 7 = .ok (.i2l, 1) := by decide +kernel
theorem dL_come_8 : decode method_8_code 8 = .ok (.lastore, 1) := by decide +kernel
theorem dL_come_9 : decode method_8_code 9 = .ok (.goto 9, 3) := by decide +kernel
theorem dL_come_12 : decode method_8_code 12 = .ok (.astore_n 3, 1) := by decide +kernel
theorem dL_come_13 : decode method_8_code 13 = .ok (.iconst 1, 1) := by decide +kernel
theorem dL_come_14 : decode method_8_code 14 = .ok (.ireturn, 1) := by decide +kernel
theorem dL_come_15 : decode method_8_code 15 = .ok (.astore_n 3, 1) := by decide +kernel
theorem dL_come_16 : decode method_8_code 16 = .ok (.iconst 2, 1) := by decide +kernel
theorem dL_come_17 : decode method_8_code 17 = .ok (.ireturn, 1) := by decide +kernel
theorem dL_come_18 : decode method_8_code 18 = .ok (.iconst 0, 1) := by decide +kernel
theorem dL_come_19 : decode method_8_code 19 = .ok (.ireturn, 1) := by decide +kernel
theorem dL_compromise_0 : decode method_9_code 0 = .ok (.aload_n 2, 1) := by decide +kernel
theorem dL_compromise_1 : decode method_9_code 1 = .ok (.iconst 0, 1) := by decide +kernel
theorem dL_compromise_2 : decode method_9_code 2 = .ok (.aload_n 0, 1) := by decide +kernel
theorem dL_compromise_3 : decode method_9_code 3 = .ok (.iload_n 1, 1) := by decide +kernel
theorem dL_compromise_4 : decode method_9_code 4 = .ok (.invokevirtual 34, 3) := by decide +kernel
theorem dL_compromise_7 : decode method_9_code 7 = .ok (.i2l, 1) := by decide +kernel
theorem dL_compromise_8 : decode method_9_code 8 = .ok (.lastore, 1) := by decide +kernel
theorem dL_compromise_9 : decode method_9_code 9 = .ok (.goto 6, 3) := by decide +kernel
theorem dL_compromise_12 : decode method_9_code 12 = .ok (.astore_n 3, 1) := by decide +kernel
theorem dL_compromise_13 : decode method_9_code 13 = .ok (.iconst 1, 1) := by decide +kernel
theorem dL_compromise_14 : decode method_9_code 14 = .ok (.ireturn, 1) := by decide +kernel
theorem dL_compromise_15 : decode method_9_code 15 = .ok (.iconst 0, 1) := by decide +kernel
theorem dL_compromise_16 : decode method_9_code 16 = .ok (.ireturn, 1) := by decide +kernel
theorem dL_law_0 : decode code 0 = .ok (.new 8, 3) := by decide +kernel
theorem dL_law_3 : decode code 3 = .ok (.dup, 1) := by decide +kernel
theorem dL_law_4 : decode code 4 = .ok (.invokespecial 37, 3) := by decide +kernel
theorem dL_law_7 : decode code 7 = .ok (.astore_n 1, 1) := by decide +kernel
theorem dL_law_8 : decode code 8 = .ok (.new 38, 3) := by decide +kernel
theorem dL_law_11 : decode code 11 = .ok (.dup, 1) := by decide +kernel
theorem dL_law_12 : decode code 12 = .ok (.invokespecial 40, 3) := by decide +kernel
theorem dL_law_15 : decode code 15 = .ok (.astore_n 2, 1) := by decide +kernel
theorem dL_law_16 : decode code 16 = .ok (.iconst 1, 1) := by decide +kernel
theorem dL_law_17 : decode code 17 = .ok (.newarray .long, 2) := by decide +kernel
theorem dL_law_19 : decode code 19 = .ok (.astore_n 3, 1) := by decide +kernel
theorem dL_law_20 : decode code 20 = .ok (.iconst 0, 1) := by decide +kernel
theorem dL_law_21 : decode code 21 = .ok (.istore 4, 2) := by decide +kernel
theorem dL_law_23 : decode code 23 = .ok (.iload 4, 2) := by decide +kernel
theorem dL_law_25 : decode code 25 = .ok (.aload_n 0, 1) := by decide +kernel
theorem dL_law_26 : decode code 26 = .ok (.arraylength, 1) := by decide +kernel
theorem dL_law_27 : decode code 27 = .ok (.iconst 4, 1) := by decide +kernel
theorem dL_law_28 : decode code 28 = .ok (.isub, 1) := by decide +kernel
theorem dL_law_29 : decode code 29 = .ok (.if_icmp .gt 827, 3) := by decide +kernel
theorem dL_law_32 : decode code 32 = .ok (.aload_n 0, 1) := by decide +kernel
theorem dL_law_33 : decode code 33 = .ok (.iload 4, 2) := by decide +kernel
theorem dL_law_35 : decode code 35 = .ok (.iaload, 1) := by decide +kernel
theorem dL_law_36 : decode code 36 = .ok (.bipush 31, 2) := by decide +kernel
theorem dL_law_38 : decode code 38 = .ok (.iand, 1) := by decide +kernel
theorem dL_law_39 : decode code 39 = .ok (.tableswitch 811 0 16 #[81, 137, 205, 273, 329, 413, 469, 525, 562, 599, 624, 673, 710, 723, 736, 761, 798], 81) := by decide +kernel
theorem dL_law_120 : decode code 120 = .ok (.aload_n 1, 1) := by decide +kernel
theorem dL_law_121 : decode code 121 = .ok (.aload_n 0, 1) := by decide +kernel
theorem dL_law_122 : decode code 122 = .ok (.iload 4, 2) := by decide +kernel
theorem dL_law_124 : decode code 124 = .ok (.iconst 1, 1) := by decide +kernel
theorem dL_law_125 : decode code 125 = .ok (.iadd, 1) := by decide +kernel
theorem dL_law_126 : decode code 126 = .ok (.iaload, 1) := by decide +kernel
theorem dL_law_127 : decode code 127 = .ok (.aload_n 3, 1) := by decide +kernel
theorem dL_law_128 : decode code 128 = .ok (.invokestatic 41, 3) := by decide +kernel
theorem dL_law_131 : decode code 131 = .ok (.istore 5, 2) := by decide +kernel
theorem dL_law_133 : decode code 133 = .ok (.aload_n 2, 1) := by decide +kernel
theorem dL_law_134 : decode code 134 = .ok (.aload_n 0, 1) := by decide +kernel
theorem dL_law_135 : decode code 135 = .ok (.iload 4, 2) := by decide +kernel
theorem dL_law_137 : decode code 137 = .ok (.iconst 1, 1) := by decide +kernel
theorem dL_law_138 : decode code 138 = .ok (.iadd, 1) := by decide +kernel
theorem dL_law_139 : decode code 139 = .ok (.iaload, 1) := by decide +kernel
theorem dL_law_140 : decode code 140 = .ok (.invokevirtual 46, 3) := by decide +kernel
theorem dL_law_143 : decode code 143 = .ok (.istore 6, 2) := by decide +kernel
theorem dL_law_145 : decode code 145 = .ok (.aload_n 2, 1) := by decide +kernel
theorem dL_law_146 : decode code 146 = .ok (.invokevirtual 47, 3) := by decide +kernel
theorem dL_law_149 : decode code 149 = .ok (.iload 5, 2) := by decide +kernel
theorem dL_law_151 : decode code 151 = .ok (.if_icmp .eq 5, 3) := by decide +kernel
theorem dL_law_154 : decode code 154 = .ok (.iconst 0, 1) := by decide +kernel
theorem dL_law_155 : decode code 155 = .ok (.ireturn, 1) := by decide +kernel
theorem dL_law_156 : decode code 156 = .ok (.iload 5, 2) := by decide +kernel
theorem dL_law_158 : decode code 158 = .ok (.ifCond .ne 15, 3) := by decide +kernel
theorem dL_law_161 : decode code 161 = .ok (.aload_n 3, 1) := by decide +kernel
theorem dL_law_162 : decode code 162 = .ok (.iconst 0, 1) := by decide +kernel
theorem dL_law_163 : decode code 163 = .ok (.laload, 1) := by decide +kernel
theorem dL_law_164 : decode code 164 = .ok (.iload 6, 2) := by decide +kernel
theorem dL_law_166 : decode code 166 = .ok (.i2l, 1) := by decide +kernel
theorem dL_law_167 : decode code 167 = .ok (.lcmp, 1) := by decide +kernel
theorem dL_law_168 : decode code 168 = .ok (.ifCond .eq 5, 3) := by decide +kernel
theorem dL_law_171 : decode code 171 = .ok (.iconst 0, 1) := by decide +kernel
theorem dL_law_172 : decode code 172 = .ok (.ireturn, 1) := by decide +kernel
theorem dL_law_173 : decode code 173 = .ok (.goto 677, 3) := by decide +kernel
theorem dL_law_176 : decode code 176 = .ok (.aload_n 1, 1) := by decide +kernel
theorem dL_law_177 : decode code 177 = .ok (.aload_n 0, 1) := by decide +kernel
theorem dL_law_178 : decode code 178 = .ok (.iload 4, 2) := by decide +kernel
theorem dL_law_180 : decode code 180 = .ok (.iconst 1, 1) := by decide +kernel
theorem dL_law_181 : decode code 181 = .ok (.iadd, 1) := by decide +kernel
theorem dL_law_182 : decode code 182 = .ok (.iaload, 1) := by decide +kernel
theorem dL_law_183 : decode code 183 = .ok (.aload_n 0, 1) := by decide +kernel
theorem dL_law_184 : decode code 184 = .ok (.iload 4, 2) := by decide +kernel
theorem dL_law_186 : decode code 186 = .ok (.iconst 2, 1) := by decide +kernel
theorem dL_law_187 : decode code 187 = .ok (.iadd, 1) := by decide +kernel
theorem dL_law_188 : decode code 188 = .ok (.iaload, 1) := by decide +kernel
theorem dL_law_189 : decode code 189 = .ok (.aload_n 3, 1) := by decide +kernel
theorem dL_law_190 : decode code 190 = .ok (.invokestatic 51, 3) := by decide +kernel
theorem dL_law_193 : decode code 193 = .ok (.istore 5, 2) := by decide +kernel
theorem dL_law_195 : decode code 195 = .ok (.aload_n 2, 1) := by decide +kernel
theorem dL_law_196 : decode code 196 = .ok (.aload_n 0, 1) := by decide +kernel
theorem dL_law_197 : decode code 197 = .ok (.iload 4, 2) := by decide +kernel
theorem dL_law_199 : decode code 199 = .ok (.iconst 1, 1) := by decide +kernel
theorem dL_law_200 : decode code 200 = .ok (.iadd, 1) := by decide +kernel
theorem dL_law_201 : decode code 201 = .ok (.iaload, 1) := by decide +kernel
theorem dL_law_202 : decode code 202 = .ok (.aload_n 0, 1) := by decide +kernel
theorem dL_law_203 : decode code 203 = .ok (.iload 4, 2) := by decide +kernel
theorem dL_law_205 : decode code 205 = .ok (.iconst 2, 1) := by decide +kernel
theorem dL_law_206 : decode code 206 = .ok (.iadd, 1) := by decide +kernel
theorem dL_law_207 : decode code 207 = .ok (.iaload, 1) := by decide +kernel
theorem dL_law_208 : decode code 208 = .ok (.invokevirtual 54, 3) := by decide +kernel
theorem dL_law_211 : decode code 211 = .ok (.istore 6, 2) := by decide +kernel
theorem dL_law_213 : decode code 213 = .ok (.aload_n 2, 1) := by decide +kernel
theorem dL_law_214 : decode code 214 = .ok (.invokevirtual 47, 3) := by decide +kernel
theorem dL_law_217 : decode code 217 = .ok (.iload 5, 2) := by decide +kernel
theorem dL_law_219 : decode code 219 = .ok (.if_icmp .eq 5, 3) := by decide +kernel
theorem dL_law_222 : decode code 222 = .ok (.iconst 0, 1) := by decide +kernel
theorem dL_law_223 : decode code 223 = .ok (.ireturn, 1) := by decide +kernel
theorem dL_law_224 : decode code 224 = .ok (.iload 5, 2) := by decide +kernel
theorem dL_law_226 : decode code 226 = .ok (.ifCond .ne 15, 3) := by decide +kernel
theorem dL_law_229 : decode code 229 = .ok (.aload_n 3, 1) := by decide +kernel
theorem dL_law_230 : decode code 230 = .ok (.iconst 0, 1) := by decide +kernel
theorem dL_law_231 : decode code 231 = .ok (.laload, 1) := by decide +kernel
theorem dL_law_232 : decode code 232 = .ok (.iload 6, 2) := by decide +kernel
theorem dL_law_234 : decode code 234 = .ok (.i2l, 1) := by decide +kernel
theorem dL_law_235 : decode code 235 = .ok (.lcmp, 1) := by decide +kernel
theorem dL_law_236 : decode code 236 = .ok (.ifCond .eq 5, 3) := by decide +kernel
theorem dL_law_239 : decode code 239 = .ok (.iconst 0, 1) := by decide +kernel
theorem dL_law_240 : decode code 240 = .ok (.ireturn, 1) := by decide +kernel
theorem dL_law_241 : decode code 241 = .ok (.goto 609, 3) := by decide +kernel
theorem dL_law_244 : decode code 244 = .ok (.aload_n 1, 1) := by decide +kernel
theorem dL_law_245 : decode code 245 = .ok (.aload_n 0, 1) := by decide +kernel
theorem dL_law_246 : decode code 246 = .ok (.iload 4, 2) := by decide +kernel
theorem dL_law_248 : decode code 248 = .ok (.iconst 1, 1) := by decide +kernel
theorem dL_law_249 : decode code 249 = .ok (.iadd, 1) := by decide +kernel
theorem dL_law_250 : decode code 250 = .ok (.iaload, 1) := by decide +kernel
theorem dL_law_251 : decode code 251 = .ok (.aload_n 0, 1) := by decide +kernel
theorem dL_law_252 : decode code 252 = .ok (.iload 4, 2) := by decide +kernel
theorem dL_law_254 : decode code 254 = .ok (.iconst 2, 1) := by decide +kernel
theorem dL_law_255 : decode code 255 = .ok (.iadd, 1) := by decide +kernel
theorem dL_law_256 : decode code 256 = .ok (.iaload, 1) := by decide +kernel
theorem dL_law_257 : decode code 257 = .ok (.aload_n 3, 1) := by decide +kernel
theorem dL_law_258 : decode code 258 = .ok (.invokestatic 55, 3) := by decide +kernel
theorem dL_law_261 : decode code 261 = .ok (.istore 5, 2) := by decide +kernel
theorem dL_law_263 : decode code 263 = .ok (.aload_n 2, 1) := by decide +kernel
theorem dL_law_264 : decode code 264 = .ok (.aload_n 0, 1) := by decide +kernel
theorem dL_law_265 : decode code 265 = .ok (.iload 4, 2) := by decide +kernel
theorem dL_law_267 : decode code 267 = .ok (.iconst 1, 1) := by decide +kernel
theorem dL_law_268 : decode code 268 = .ok (.iadd, 1) := by decide +kernel
theorem dL_law_269 : decode code 269 = .ok (.iaload, 1) := by decide +kernel
theorem dL_law_270 : decode code 270 = .ok (.aload_n 0, 1) := by decide +kernel
theorem dL_law_271 : decode code 271 = .ok (.iload 4, 2) := by decide +kernel
theorem dL_law_273 : decode code 273 = .ok (.iconst 2, 1) := by decide +kernel
theorem dL_law_274 : decode code 274 = .ok (.iadd, 1) := by decide +kernel
theorem dL_law_275 : decode code 275 = .ok (.iaload, 1) := by decide +kernel
theorem dL_law_276 : decode code 276 = .ok (.invokevirtual 57, 3) := by decide +kernel
theorem dL_law_279 : decode code 279 = .ok (.istore 6, 2) := by decide +kernel
theorem dL_law_281 : decode code 281 = .ok (.aload_n 2, 1) := by decide +kernel
theorem dL_law_282 : decode code 282 = .ok (.invokevirtual 47, 3) := by decide +kernel
theorem dL_law_285 : decode code 285 = .ok (.iload 5, 2) := by decide +kernel
theorem dL_law_287 : decode code 287 = .ok (.if_icmp .eq 5, 3) := by decide +kernel
theorem dL_law_290 : decode code 290 = .ok (.iconst 0, 1) := by decide +kernel
theorem dL_law_291 : decode code 291 = .ok (.ireturn, 1) := by decide +kernel
theorem dL_law_292 : decode code 292 = .ok (.iload 5, 2) := by decide +kernel
theorem dL_law_294 : decode code 294 = .ok (.ifCond .ne 15, 3) := by decide +kernel
theorem dL_law_297 : decode code 297 = .ok (.aload_n 3, 1) := by decide +kernel
theorem dL_law_298 : decode code 298 = .ok (.iconst 0, 1) := by decide +kernel
theorem dL_law_299 : decode code 299 = .ok (.laload, 1) := by decide +kernel
theorem dL_law_300 : decode code 300 = .ok (.iload 6, 2) := by decide +kernel
theorem dL_law_302 : decode code 302 = .ok (.i2l, 1) := by decide +kernel
theorem dL_law_303 : decode code 303 = .ok (.lcmp, 1) := by decide +kernel
theorem dL_law_304 : decode code 304 = .ok (.ifCond .eq 5, 3) := by decide +kernel
theorem dL_law_307 : decode code 307 = .ok (.iconst 0, 1) := by decide +kernel
theorem dL_law_308 : decode code 308 = .ok (.ireturn, 1) := by decide +kernel
theorem dL_law_309 : decode code 309 = .ok (.goto 541, 3) := by decide +kernel
theorem dL_law_312 : decode code 312 = .ok (.aload_n 1, 1) := by decide +kernel
theorem dL_law_313 : decode code 313 = .ok (.aload_n 0, 1) := by decide +kernel
theorem dL_law_314 : decode code 314 = .ok (.iload 4, 2) := by decide +kernel
theorem dL_law_316 : decode code 316 = .ok (.iconst 1, 1) := by decide +kernel
theorem dL_law_317 : decode code 317 = .ok (.iadd, 1) := by decide +kernel
theorem dL_law_318 : decode code 318 = .ok (.iaload, 1) := by decide +kernel
theorem dL_law_319 : decode code 319 = .ok (.aload_n 3, 1) := by decide +kernel
theorem dL_law_320 : decode code 320 = .ok (.invokestatic 58, 3) := by decide +kernel
theorem dL_law_323 : decode code 323 = .ok (.istore 5, 2) := by decide +kernel
theorem dL_law_325 : decode code 325 = .ok (.aload_n 2, 1) := by decide +kernel
theorem dL_law_326 : decode code 326 = .ok (.aload_n 0, 1) := by decide +kernel
theorem dL_law_327 : decode code 327 = .ok (.iload 4, 2) := by decide +kernel
theorem dL_law_329 : decode code 329 = .ok (.iconst 1, 1) := by decide +kernel
theorem dL_law_330 : decode code 330 = .ok (.iadd, 1) := by decide +kernel
theorem dL_law_331 : decode code 331 = .ok (.iaload, 1) := by decide +kernel
theorem dL_law_332 : decode code 332 = .ok (.invokevirtual 60, 3) := by decide +kernel
theorem dL_law_335 : decode code 335 = .ok (.istore 6, 2) := by decide +kernel
theorem dL_law_337 : decode code 337 = .ok (.aload_n 2, 1) := by decide +kernel
theorem dL_law_338 : decode code 338 = .ok (.invokevirtual 47, 3) := by decide +kernel
theorem dL_law_341 : decode code 341 = .ok (.iload 5, 2) := by decide +kernel
theorem dL_law_343 : decode code 343 = .ok (.if_icmp .eq 5, 3) := by decide +kernel
theorem dL_law_346 : decode code 346 = .ok (.iconst 0, 1) := by decide +kernel
theorem dL_law_347 : decode code 347 = .ok (.ireturn, 1) := by decide +kernel
theorem dL_law_348 : decode code 348 = .ok (.iload 5, 2) := by decide +kernel
theorem dL_law_350 : decode code 350 = .ok (.ifCond .ne 15, 3) := by decide +kernel
theorem dL_law_353 : decode code 353 = .ok (.aload_n 3, 1) := by decide +kernel
theorem dL_law_354 : decode code 354 = .ok (.iconst 0, 1) := by decide +kernel
theorem dL_law_355 : decode code 355 = .ok (.laload, 1) := by decide +kernel
theorem dL_law_356 : decode code 356 = .ok (.iload 6, 2) := by decide +kernel
theorem dL_law_358 : decode code 358 = .ok (.i2l, 1) := by decide +kernel
theorem dL_law_359 : decode code 359 = .ok (.lcmp, 1) := by decide +kernel
theorem dL_law_360 : decode code 360 = .ok (.ifCond .eq 5, 3) := by decide +kernel
theorem dL_law_363 : decode code 363 = .ok (.iconst 0, 1) := by decide +kernel
theorem dL_law_364 : decode code 364 = .ok (.ireturn, 1) := by decide +kernel
theorem dL_law_365 : decode code 365 = .ok (.goto 485, 3) := by decide +kernel
theorem dL_law_368 : decode code 368 = .ok (.aload_n 1, 1) := by decide +kernel
theorem dL_law_369 : decode code 369 = .ok (.aload_n 0, 1) := by decide +kernel
theorem dL_law_370 : decode code 370 = .ok (.iload 4, 2) := by decide +kernel
theorem dL_law_372 : decode code 372 = .ok (.iconst 1, 1) := by decide +kernel
theorem dL_law_373 : decode code 373 = .ok (.iadd, 1) := by decide +kernel
theorem dL_law_374 : decode code 374 = .ok (.iaload, 1) := by decide +kernel
theorem dL_law_375 : decode code 375 = .ok (.aload_n 0, 1) := by decide +kernel
theorem dL_law_376 : decode code 376 = .ok (.iload 4, 2) := by decide +kernel
theorem dL_law_378 : decode code 378 = .ok (.iconst 2, 1) := by decide +kernel
theorem dL_law_379 : decode code 379 = .ok (.iadd, 1) := by decide +kernel
theorem dL_law_380 : decode code 380 = .ok (.iaload, 1) := by decide +kernel
theorem dL_law_381 : decode code 381 = .ok (.ifCond .eq 7, 3) := by decide +kernel
theorem dL_law_384 : decode code 384 = .ok (.iconst 1, 1) := by decide +kernel
theorem dL_law_385 : decode code 385 = .ok (.goto 4, 3) := by decide +kernel
theorem dL_law_388 : decode code 388 = .ok (.iconst 0, 1) := by decide +kernel
theorem dL_law_389 : decode code 389 = .ok (.aload_n 3, 1) := by decide +kernel
theorem dL_law_390 : decode code 390 = .ok (.invokestatic 61, 3) := by decide +kernel
theorem dL_law_393 : decode code 393 = .ok (.istore 5, 2) := by decide +kernel
theorem dL_law_395 : decode code 395 = .ok (.aload_n 2, 1) := by decide +kernel
theorem dL_law_396 : decode code 396 = .ok (.aload_n 0, 1) := by decide +kernel
theorem dL_law_397 : decode code 397 = .ok (.iload 4, 2) := by decide +kernel
theorem dL_law_399 : decode code 399 = .ok (.iconst 1, 1) := by decide +kernel
theorem dL_law_400 : decode code 400 = .ok (.iadd, 1) := by decide +kernel
theorem dL_law_401 : decode code 401 = .ok (.iaload, 1) := by decide +kernel
theorem dL_law_402 : decode code 402 = .ok (.aload_n 0, 1) := by decide +kernel
theorem dL_law_403 : decode code 403 = .ok (.iload 4, 2) := by decide +kernel
theorem dL_law_405 : decode code 405 = .ok (.iconst 2, 1) := by decide +kernel
theorem dL_law_406 : decode code 406 = .ok (.iadd, 1) := by decide +kernel
theorem dL_law_407 : decode code 407 = .ok (.iaload, 1) := by decide +kernel
theorem dL_law_408 : decode code 408 = .ok (.ifCond .eq 7, 3) := by decide +kernel
theorem dL_law_411 : decode code 411 = .ok (.iconst 1, 1) := by decide +kernel
theorem dL_law_412 : decode code 412 = .ok (.goto 4, 3) := by decide +kernel
theorem dL_law_415 : decode code 415 = .ok (.iconst 0, 1) := by decide +kernel
theorem dL_law_416 : decode code 416 = .ok (.invokevirtual 64, 3) := by decide +kernel
theorem dL_law_419 : decode code 419 = .ok (.istore 6, 2) := by decide +kernel
theorem dL_law_421 : decode code 421 = .ok (.aload_n 2, 1) := by decide +kernel
theorem dL_law_422 : decode code 422 = .ok (.invokevirtual 47, 3) := by decide +kernel
theorem dL_law_425 : decode code 425 = .ok (.iload 5, 2) := by decide +kernel
theorem dL_law_427 : decode code 427 = .ok (.if_icmp .eq 5, 3) := by decide +kernel
theorem dL_law_430 : decode code 430 = .ok (.iconst 0, 1) := by decide +kernel
theorem dL_law_431 : decode code 431 = .ok (.ireturn, 1) := by decide +kernel
theorem dL_law_432 : decode code 432 = .ok (.iload 5, 2) := by decide +kernel
theorem dL_law_434 : decode code 434 = .ok (.ifCond .ne 15, 3) := by decide +kernel
theorem dL_law_437 : decode code 437 = .ok (.aload_n 3, 1) := by decide +kernel
theorem dL_law_438 : decode code 438 = .ok (.iconst 0, 1) := by decide +kernel
theorem dL_law_439 : decode code 439 = .ok (.laload, 1) := by decide +kernel
theorem dL_law_440 : decode code 440 = .ok (.iload 6, 2) := by decide +kernel
theorem dL_law_442 : decode code 442 = .ok (.i2l, 1) := by decide +kernel
theorem dL_law_443 : decode code 443 = .ok (.lcmp, 1) := by decide +kernel
theorem dL_law_444 : decode code 444 = .ok (.ifCond .eq 5, 3) := by decide +kernel
theorem dL_law_447 : decode code 447 = .ok (.iconst 0, 1) := by decide +kernel
theorem dL_law_448 : decode code 448 = .ok (.ireturn, 1) := by decide +kernel
theorem dL_law_449 : decode code 449 = .ok (.goto 401, 3) := by decide +kernel
theorem dL_law_452 : decode code 452 = .ok (.aload_n 1, 1) := by decide +kernel
theorem dL_law_453 : decode code 453 = .ok (.aload_n 0, 1) := by decide +kernel
theorem dL_law_454 : decode code 454 = .ok (.iload 4, 2) := by decide +kernel
theorem dL_law_456 : decode code 456 = .ok (.iconst 1, 1) := by decide +kernel
theorem dL_law_457 : decode code 457 = .ok (.iadd, 1) := by decide +kernel
theorem dL_law_458 : decode code 458 = .ok (.iaload, 1) := by decide +kernel
theorem dL_law_459 : decode code 459 = .ok (.aload_n 3, 1) := by decide +kernel
theorem dL_law_460 : decode code 460 = .ok (.invokestatic 65, 3) := by decide +kernel
theorem dL_law_463 : decode code 463 = .ok (.istore 5, 2) := by decide +kernel
theorem dL_law_465 : decode code 465 = .ok (.aload_n 2, 1) := by decide +kernel
theorem dL_law_466 : decode code 466 = .ok (.aload_n 0, 1) := by decide +kernel
theorem dL_law_467 : decode code 467 = .ok (.iload 4, 2) := by decide +kernel
theorem dL_law_469 : decode code 469 = .ok (.iconst 1, 1) := by decide +kernel
theorem dL_law_470 : decode code 470 = .ok (.iadd, 1) := by decide +kernel
theorem dL_law_471 : decode code 471 = .ok (.iaload, 1) := by decide +kernel
theorem dL_law_472 : decode code 472 = .ok (.invokevirtual 67, 3) := by decide +kernel
theorem dL_law_475 : decode code 475 = .ok (.istore 6, 2) := by decide +kernel
theorem dL_law_477 : decode code 477 = .ok (.aload_n 2, 1) := by decide +kernel
theorem dL_law_478 : decode code 478 = .ok (.invokevirtual 47, 3) := by decide +kernel
theorem dL_law_481 : decode code 481 = .ok (.iload 5, 2) := by decide +kernel
theorem dL_law_483 : decode code 483 = .ok (.if_icmp .eq 5, 3) := by decide +kernel
theorem dL_law_486 : decode code 486 = .ok (.iconst 0, 1) := by decide +kernel
theorem dL_law_487 : decode code 487 = .ok (.ireturn, 1) := by decide +kernel
theorem dL_law_488 : decode code 488 = .ok (.iload 5, 2) := by decide +kernel
theorem dL_law_490 : decode code 490 = .ok (.ifCond .ne 15, 3) := by decide +kernel
theorem dL_law_493 : decode code 493 = .ok (.aload_n 3, 1) := by decide +kernel
theorem dL_law_494 : decode code 494 = .ok (.iconst 0, 1) := by decide +kernel
theorem dL_law_495 : decode code 495 = .ok (.laload, 1) := by decide +kernel
theorem dL_law_496 : decode code 496 = .ok (.iload 6, 2) := by decide +kernel
theorem dL_law_498 : decode code 498 = .ok (.i2l, 1) := by decide +kernel
theorem dL_law_499 : decode code 499 = .ok (.lcmp, 1) := by decide +kernel
theorem dL_law_500 : decode code 500 = .ok (.ifCond .eq 5, 3) := by decide +kernel
theorem dL_law_503 : decode code 503 = .ok (.iconst 0, 1) := by decide +kernel
theorem dL_law_504 : decode code 504 = .ok (.ireturn, 1) := by decide +kernel
theorem dL_law_505 : decode code 505 = .ok (.goto 345, 3) := by decide +kernel
theorem dL_law_508 : decode code 508 = .ok (.aload_n 1, 1) := by decide +kernel
theorem dL_law_509 : decode code 509 = .ok (.aload_n 0, 1) := by decide +kernel
theorem dL_law_510 : decode code 510 = .ok (.iload 4, 2) := by decide +kernel
theorem dL_law_512 : decode code 512 = .ok (.iconst 1, 1) := by decide +kernel
theorem dL_law_513 : decode code 513 = .ok (.iadd, 1) := by decide +kernel
theorem dL_law_514 : decode code 514 = .ok (.iaload, 1) := by decide +kernel
theorem dL_law_515 : decode code 515 = .ok (.aload_n 3, 1) := by decide +kernel
theorem dL_law_516 : decode code 516 = .ok (.invokestatic 68, 3) := by decide +kernel
theorem dL_law_519 : decode code 519 = .ok (.istore 5, 2) := by decide +kernel
theorem dL_law_521 : decode code 521 = .ok (.aload_n 2, 1) := by decide +kernel
theorem dL_law_522 : decode code 522 = .ok (.aload_n 0, 1) := by decide +kernel
theorem dL_law_523 : decode code 523 = .ok (.iload 4, 2) := by decide +kernel
theorem dL_law_525 : decode code 525 = .ok (.iconst 1, 1) := by decide +kernel
theorem dL_law_526 : decode code 526 = .ok (.iadd, 1) := by decide +kernel
theorem dL_law_527 : decode code 527 = .ok (.iaload, 1) := by decide +kernel
theorem dL_law_528 : decode code 528 = .ok (.invokevirtual 70, 3) := by decide +kernel
theorem dL_law_531 : decode code 531 = .ok (.istore 6, 2) := by decide +kernel
theorem dL_law_533 : decode code 533 = .ok (.aload_n 2, 1) := by decide +kernel
theorem dL_law_534 : decode code 534 = .ok (.invokevirtual 47, 3) := by decide +kernel
theorem dL_law_537 : decode code 537 = .ok (.iload 5, 2) := by decide +kernel
theorem dL_law_539 : decode code 539 = .ok (.if_icmp .eq 5, 3) := by decide +kernel
theorem dL_law_542 : decode code 542 = .ok (.iconst 0, 1) := by decide +kernel
theorem dL_law_543 : decode code 543 = .ok (.ireturn, 1) := by decide +kernel
theorem dL_law_544 : decode code 544 = .ok (.iload 5, 2) := by decide +kernel
theorem dL_law_546 : decode code 546 = .ok (.ifCond .ne 15, 3) := by decide +kernel
theorem dL_law_549 : decode code 549 = .ok (.aload_n 3, 1) := by decide +kernel
theorem dL_law_550 : decode code 550 = .ok (.iconst 0, 1) := by decide +kernel
theorem dL_law_551 : decode code 551 = .ok (.laload, 1) := by decide +kernel
theorem dL_law_552 : decode code 552 = .ok (.iload 6, 2) := by decide +kernel
theorem dL_law_554 : decode code 554 = .ok (.i2l, 1) := by decide +kernel
theorem dL_law_555 : decode code 555 = .ok (.lcmp, 1) := by decide +kernel
theorem dL_law_556 : decode code 556 = .ok (.ifCond .eq 5, 3) := by decide +kernel
theorem dL_law_559 : decode code 559 = .ok (.iconst 0, 1) := by decide +kernel
theorem dL_law_560 : decode code 560 = .ok (.ireturn, 1) := by decide +kernel
theorem dL_law_561 : decode code 561 = .ok (.goto 289, 3) := by decide +kernel
theorem dL_law_564 : decode code 564 = .ok (.aload_n 1, 1) := by decide +kernel
theorem dL_law_565 : decode code 565 = .ok (.aload_n 0, 1) := by decide +kernel
theorem dL_law_566 : decode code 566 = .ok (.iload 4, 2) := by decide +kernel
theorem dL_law_568 : decode code 568 = .ok (.iconst 1, 1) := by decide +kernel
theorem dL_law_569 : decode code 569 = .ok (.iadd, 1) := by decide +kernel
theorem dL_law_570 : decode code 570 = .ok (.iaload, 1) := by decide +kernel
theorem dL_law_571 : decode code 571 = .ok (.aload_n 0, 1) := by decide +kernel
theorem dL_law_572 : decode code 572 = .ok (.iload 4, 2) := by decide +kernel
theorem dL_law_574 : decode code 574 = .ok (.iconst 2, 1) := by decide +kernel
theorem dL_law_575 : decode code 575 = .ok (.iadd, 1) := by decide +kernel
theorem dL_law_576 : decode code 576 = .ok (.iaload, 1) := by decide +kernel
theorem dL_law_577 : decode code 577 = .ok (.invokevirtual 71, 3) := by decide +kernel
theorem dL_law_580 : decode code 580 = .ok (.aload_n 2, 1) := by decide +kernel
theorem dL_law_581 : decode code 581 = .ok (.aload_n 0, 1) := by decide +kernel
theorem dL_law_582 : decode code 582 = .ok (.iload 4, 2) := by decide +kernel
theorem dL_law_584 : decode code 584 = .ok (.iconst 1, 1) := by decide +kernel
theorem dL_law_585 : decode code 585 = .ok (.iadd, 1) := by decide +kernel
theorem dL_law_586 : decode code 586 = .ok (.iaload, 1) := by decide +kernel
theorem dL_law_587 : decode code 587 = .ok (.aload_n 0, 1) := by decide +kernel
theorem dL_law_588 : decode code 588 = .ok (.iload 4, 2) := by decide +kernel
theorem dL_law_590 : decode code 590 = .ok (.iconst 2, 1) := by decide +kernel
theorem dL_law_591 : decode code 591 = .ok (.iadd, 1) := by decide +kernel
theorem dL_law_592 : decode code 592 = .ok (.iaload, 1) := by decide +kernel
theorem dL_law_593 : decode code 593 = .ok (.invokevirtual 74, 3) := by decide +kernel
theorem dL_law_596 : decode code 596 = .ok (.if_icmp .eq 254, 3) := by decide +kernel
theorem dL_law_599 : decode code 599 = .ok (.iconst 0, 1) := by decide +kernel
theorem dL_law_600 : decode code 600 = .ok (.ireturn, 1) := by decide +kernel
theorem dL_law_601 : decode code 601 = .ok (.aload_n 1, 1) := by decide +kernel
theorem dL_law_602 : decode code 602 = .ok (.aload_n 0, 1) := by decide +kernel
theorem dL_law_603 : decode code 603 = .ok (.iload 4, 2) := by decide +kernel
theorem dL_law_605 : decode code 605 = .ok (.iconst 1, 1) := by decide +kernel
theorem dL_law_606 : decode code 606 = .ok (.iadd, 1) := by decide +kernel
theorem dL_law_607 : decode code 607 = .ok (.iaload, 1) := by decide +kernel
theorem dL_law_608 : decode code 608 = .ok (.aload_n 0, 1) := by decide +kernel
theorem dL_law_609 : decode code 609 = .ok (.iload 4, 2) := by decide +kernel
theorem dL_law_611 : decode code 611 = .ok (.iconst 2, 1) := by decide +kernel
theorem dL_law_612 : decode code 612 = .ok (.iadd, 1) := by decide +kernel
theorem dL_law_613 : decode code 613 = .ok (.iaload, 1) := by decide +kernel
theorem dL_law_614 : decode code 614 = .ok (.invokevirtual 75, 3) := by decide +kernel
theorem dL_law_617 : decode code 617 = .ok (.aload_n 2, 1) := by decide +kernel
theorem dL_law_618 : decode code 618 = .ok (.aload_n 0, 1) := by decide +kernel
theorem dL_law_619 : decode code 619 = .ok (.iload 4, 2) := by decide +kernel
theorem dL_law_621 : decode code 621 = .ok (.iconst 1, 1) := by decide +kernel
theorem dL_law_622 : decode code 622 = .ok (.iadd, 1) := by decide +kernel
theorem dL_law_623 : decode code 623 = .ok (.iaload, 1) := by decide +kernel
theorem dL_law_624 : decode code 624 = .ok (.aload_n 0, 1) := by decide +kernel
theorem dL_law_625 : decode code 625 = .ok (.iload 4, 2) := by decide +kernel
theorem dL_law_627 : decode code 627 = .ok (.iconst 2, 1) := by decide +kernel
theorem dL_law_628 : decode code 628 = .ok (.iadd, 1) := by decide +kernel
theorem dL_law_629 : decode code 629 = .ok (.iaload, 1) := by decide +kernel
theorem dL_law_630 : decode code 630 = .ok (.invokevirtual 79, 3) := by decide +kernel
theorem dL_law_633 : decode code 633 = .ok (.if_icmp .eq 217, 3) := by decide +kernel
theorem dL_law_636 : decode code 636 = .ok (.iconst 0, 1) := by decide +kernel
theorem dL_law_637 : decode code 637 = .ok (.ireturn, 1) := by decide +kernel
theorem dL_law_638 : decode code 638 = .ok (.aload_n 1, 1) := by decide +kernel
theorem dL_law_639 : decode code 639 = .ok (.aload_n 0, 1) := by decide +kernel
theorem dL_law_640 : decode code 640 = .ok (.iload 4, 2) := by decide +kernel
theorem dL_law_642 : decode code 642 = .ok (.iconst 1, 1) := by decide +kernel
theorem dL_law_643 : decode code 643 = .ok (.iadd, 1) := by decide +kernel
theorem dL_law_644 : decode code 644 = .ok (.iaload, 1) := by decide +kernel
theorem dL_law_645 : decode code 645 = .ok (.invokevirtual 80, 3) := by decide +kernel
theorem dL_law_648 : decode code 648 = .ok (.aload_n 2, 1) := by decide +kernel
theorem dL_law_649 : decode code 649 = .ok (.aload_n 0, 1) := by decide +kernel
theorem dL_law_650 : decode code 650 = .ok (.iload 4, 2) := by decide +kernel
theorem dL_law_652 : decode code 652 = .ok (.iconst 1, 1) := by decide +kernel
theorem dL_law_653 : decode code 653 = .ok (.iadd, 1) := by decide +kernel
theorem dL_law_654 : decode code 654 = .ok (.iaload, 1) := by decide +kernel
theorem dL_law_655 : decode code 655 = .ok (.invokevirtual 84, 3) := by decide +kernel
theorem dL_law_658 : decode code 658 = .ok (.if_icmp .eq 192, 3) := by decide +kernel
theorem dL_law_661 : decode code 661 = .ok (.iconst 0, 1) := by decide +kernel
theorem dL_law_662 : decode code 662 = .ok (.ireturn, 1) := by decide +kernel
theorem dL_law_663 : decode code 663 = .ok (.aload_n 1, 1) := by decide +kernel
theorem dL_law_664 : decode code 664 = .ok (.aload_n 0, 1) := by decide +kernel
theorem dL_law_665 : decode code 665 = .ok (.iload 4, 2) := by decide +kernel
theorem dL_law_667 : decode code 667 = .ok (.iconst 1, 1) := by decide +kernel
theorem dL_law_668 : decode code 668 = .ok (.iadd, 1) := by decide +kernel
theorem dL_law_669 : decode code 669 = .ok (.iaload, 1) := by decide +kernel
theorem dL_law_670 : decode code 670 = .ok (.aload_n 0, 1) := by decide +kernel
theorem dL_law_671 : decode code 671 = .ok (.iload 4, 2) := by decide +kernel
theorem dL_law_673 : decode code 673 = .ok (.iconst 2, 1) := by decide +kernel
theorem dL_law_674 : decode code 674 = .ok (.iadd, 1) := by decide +kernel
theorem dL_law_675 : decode code 675 = .ok (.iaload, 1) := by decide +kernel
theorem dL_law_676 : decode code 676 = .ok (.aload_n 0, 1) := by decide +kernel
theorem dL_law_677 : decode code 677 = .ok (.iload 4, 2) := by decide +kernel
theorem dL_law_679 : decode code 679 = .ok (.iconst 3, 1) := by decide +kernel
theorem dL_law_680 : decode code 680 = .ok (.iadd, 1) := by decide +kernel
theorem dL_law_681 : decode code 681 = .ok (.iaload, 1) := by decide +kernel
theorem dL_law_682 : decode code 682 = .ok (.invokevirtual 85, 3) := by decide +kernel
theorem dL_law_685 : decode code 685 = .ok (.aload_n 2, 1) := by decide +kernel
theorem dL_law_686 : decode code 686 = .ok (.aload_n 0, 1) := by decide +kernel
theorem dL_law_687 : decode code 687 = .ok (.iload 4, 2) := by decide +kernel
theorem dL_law_689 : decode code 689 = .ok (.iconst 1, 1) := by decide +kernel
theorem dL_law_690 : decode code 690 = .ok (.iadd, 1) := by decide +kernel
theorem dL_law_691 : decode code 691 = .ok (.iaload, 1) := by decide +kernel
theorem dL_law_692 : decode code 692 = .ok (.aload_n 0, 1) := by decide +kernel
theorem dL_law_693 : decode code 693 = .ok (.iload 4, 2) := by decide +kernel
theorem dL_law_695 : decode code 695 = .ok (.iconst 2, 1) := by decide +kernel
theorem dL_law_696 : decode code 696 = .ok (.iadd, 1) := by decide +kernel
theorem dL_law_697 : decode code 697 = .ok (.iaload, 1) := by decide +kernel
theorem dL_law_698 : decode code 698 = .ok (.aload_n 0, 1) := by decide +kernel
theorem dL_law_699 : decode code 699 = .ok (.iload 4, 2) := by decide +kernel
theorem dL_law_701 : decode code 701 = .ok (.iconst 3, 1) := by decide +kernel
theorem dL_law_702 : decode code 702 = .ok (.iadd, 1) := by decide +kernel
theorem dL_law_703 : decode code 703 = .ok (.iaload, 1) := by decide +kernel
theorem dL_law_704 : decode code 704 = .ok (.invokevirtual 89, 3) := by decide +kernel
theorem dL_law_707 : decode code 707 = .ok (.if_icmp .eq 143, 3) := by decide +kernel
theorem dL_law_710 : decode code 710 = .ok (.iconst 0, 1) := by decide +kernel
theorem dL_law_711 : decode code 711 = .ok (.ireturn, 1) := by decide +kernel
theorem dL_law_712 : decode code 712 = .ok (.aload_n 1, 1) := by decide +kernel
theorem dL_law_713 : decode code 713 = .ok (.aload_n 0, 1) := by decide +kernel
theorem dL_law_714 : decode code 714 = .ok (.iload 4, 2) := by decide +kernel
theorem dL_law_716 : decode code 716 = .ok (.iconst 1, 1) := by decide +kernel
theorem dL_law_717 : decode code 717 = .ok (.iadd, 1) := by decide +kernel
theorem dL_law_718 : decode code 718 = .ok (.iaload, 1) := by decide +kernel
theorem dL_law_719 : decode code 719 = .ok (.aload_n 0, 1) := by decide +kernel
theorem dL_law_720 : decode code 720 = .ok (.iload 4, 2) := by decide +kernel
theorem dL_law_722 : decode code 722 = .ok (.iconst 2, 1) := by decide +kernel
theorem dL_law_723 : decode code 723 = .ok (.iadd, 1) := by decide +kernel
theorem dL_law_724 : decode code 724 = .ok (.iaload, 1) := by decide +kernel
theorem dL_law_725 : decode code 725 = .ok (.invokevirtual 90, 3) := by decide +kernel
theorem dL_law_728 : decode code 728 = .ok (.aload_n 2, 1) := by decide +kernel
theorem dL_law_729 : decode code 729 = .ok (.aload_n 0, 1) := by decide +kernel
theorem dL_law_730 : decode code 730 = .ok (.iload 4, 2) := by decide +kernel
theorem dL_law_732 : decode code 732 = .ok (.iconst 1, 1) := by decide +kernel
theorem dL_law_733 : decode code 733 = .ok (.iadd, 1) := by decide +kernel
theorem dL_law_734 : decode code 734 = .ok (.iaload, 1) := by decide +kernel
theorem dL_law_735 : decode code 735 = .ok (.aload_n 0, 1) := by decide +kernel
theorem dL_law_736 : decode code 736 = .ok (.iload 4, 2) := by decide +kernel
theorem dL_law_738 : decode code 738 = .ok (.iconst 2, 1) := by decide +kernel
theorem dL_law_739 : decode code 739 = .ok (.iadd, 1) := by decide +kernel
theorem dL_law_740 : decode code 740 = .ok (.iaload, 1) := by decide +kernel
theorem dL_law_741 : decode code 741 = .ok (.invokevirtual 93, 3) := by decide +kernel
theorem dL_law_744 : decode code 744 = .ok (.if_icmp .eq 106, 3) := by decide +kernel
theorem dL_law_747 : decode code 747 = .ok (.iconst 0, 1) := by decide +kernel
theorem dL_law_748 : decode code 748 = .ok (.ireturn, 1) := by decide +kernel
theorem dL_law_749 : decode code 749 = .ok (.aload_n 1, 1) := by decide +kernel
theorem dL_law_750 : decode code 750 = .ok (.invokevirtual 94, 3) := by decide +kernel
theorem dL_law_753 : decode code 753 = .ok (.aload_n 2, 1) := by decide +kernel
theorem dL_law_754 : decode code 754 = .ok (.invokevirtual 97, 3) := by decide +kernel
theorem dL_law_757 : decode code 757 = .ok (.if_icmp .eq 93, 3) := by decide +kernel
theorem dL_law_760 : decode code 760 = .ok (.iconst 0, 1) := by decide +kernel
theorem dL_law_761 : decode code 761 = .ok (.ireturn, 1) := by decide +kernel
theorem dL_law_762 : decode code 762 = .ok (.aload_n 1, 1) := by decide +kernel
theorem dL_law_763 : decode code 763 = .ok (.invokevirtual 98, 3) := by decide +kernel
theorem dL_law_766 : decode code 766 = .ok (.aload_n 2, 1) := by decide +kernel
theorem dL_law_767 : decode code 767 = .ok (.invokevirtual 101, 3) := by decide +kernel
theorem dL_law_770 : decode code 770 = .ok (.if_icmp .eq 80, 3) := by decide +kernel
theorem dL_law_773 : decode code 773 = .ok (.iconst 0, 1) := by decide +kernel
theorem dL_law_774 : decode code 774 = .ok (.ireturn, 1) := by decide +kernel
theorem dL_law_775 : decode code 775 = .ok (.aload_n 1, 1) := by decide +kernel
theorem dL_law_776 : decode code 776 = .ok (.aload_n 0, 1) := by decide +kernel
theorem dL_law_777 : decode code 777 = .ok (.iload 4, 2) := by decide +kernel
theorem dL_law_779 : decode code 779 = .ok (.iconst 1, 1) := by decide +kernel
theorem dL_law_780 : decode code 780 = .ok (.iadd, 1) := by decide +kernel
theorem dL_law_781 : decode code 781 = .ok (.iaload, 1) := by decide +kernel
theorem dL_law_782 : decode code 782 = .ok (.invokevirtual 102, 3) := by decide +kernel
theorem dL_law_785 : decode code 785 = .ok (.aload_n 2, 1) := by decide +kernel
theorem dL_law_786 : decode code 786 = .ok (.aload_n 0, 1) := by decide +kernel
theorem dL_law_787 : decode code 787 = .ok (.iload 4, 2) := by decide +kernel
theorem dL_law_789 : decode code 789 = .ok (.iconst 1, 1) := by decide +kernel
theorem dL_law_790 : decode code 790 = .ok (.iadd, 1) := by decide +kernel
theorem dL_law_791 : decode code 791 = .ok (.iaload, 1) := by decide +kernel
theorem dL_law_792 : decode code 792 = .ok (.invokevirtual 105, 3) := by decide +kernel
theorem dL_law_795 : decode code 795 = .ok (.if_icmp .eq 55, 3) := by decide +kernel
theorem dL_law_798 : decode code 798 = .ok (.iconst 0, 1) := by decide +kernel
theorem dL_law_799 : decode code 799 = .ok (.ireturn, 1) := by decide +kernel
theorem dL_law_800 : decode code 800 = .ok (.aload_n 1, 1) := by decide +kernel
theorem dL_law_801 : decode code 801 = .ok (.aload_n 0, 1) := by decide +kernel
theorem dL_law_802 : decode code 802 = .ok (.iload 4, 2) := by decide +kernel
theorem dL_law_804 : decode code 804 = .ok (.iconst 1, 1) := by decide +kernel
theorem dL_law_805 : decode code 805 = .ok (.iadd, 1) := by decide +kernel
theorem dL_law_806 : decode code 806 = .ok (.iaload, 1) := by decide +kernel
theorem dL_law_807 : decode code 807 = .ok (.aload_n 0, 1) := by decide +kernel
theorem dL_law_808 : decode code 808 = .ok (.iload 4, 2) := by decide +kernel
theorem dL_law_810 : decode code 810 = .ok (.iconst 2, 1) := by decide +kernel
theorem dL_law_811 : decode code 811 = .ok (.iadd, 1) := by decide +kernel
theorem dL_law_812 : decode code 812 = .ok (.iaload, 1) := by decide +kernel
theorem dL_law_813 : decode code 813 = .ok (.invokevirtual 106, 3) := by decide +kernel
theorem dL_law_816 : decode code 816 = .ok (.aload_n 2, 1) := by decide +kernel
theorem dL_law_817 : decode code 817 = .ok (.aload_n 0, 1) := by decide +kernel
theorem dL_law_818 : decode code 818 = .ok (.iload 4, 2) := by decide +kernel
theorem dL_law_820 : decode code 820 = .ok (.iconst 1, 1) := by decide +kernel
theorem dL_law_821 : decode code 821 = .ok (.iadd, 1) := by decide +kernel
theorem dL_law_822 : decode code 822 = .ok (.iaload, 1) := by decide +kernel
theorem dL_law_823 : decode code 823 = .ok (.aload_n 0, 1) := by decide +kernel
theorem dL_law_824 : decode code 824 = .ok (.iload 4, 2) := by decide +kernel
theorem dL_law_826 : decode code 826 = .ok (.iconst 2, 1) := by decide +kernel
theorem dL_law_827 : decode code 827 = .ok (.iadd, 1) := by decide +kernel
theorem dL_law_828 : decode code 828 = .ok (.iaload, 1) := by decide +kernel
theorem dL_law_829 : decode code 829 = .ok (.invokevirtual 109, 3) := by decide +kernel
theorem dL_law_832 : decode code 832 = .ok (.if_icmp .eq 18, 3) := by decide +kernel
theorem dL_law_835 : decode code 835 = .ok (.iconst 0, 1) := by decide +kernel
theorem dL_law_836 : decode code 836 = .ok (.ireturn, 1) := by decide +kernel
theorem dL_law_837 : decode code 837 = .ok (.aload_n 1, 1) := by decide +kernel
theorem dL_law_838 : decode code 838 = .ok (.invokevirtual 110, 3) := by decide +kernel
theorem dL_law_841 : decode code 841 = .ok (.aload_n 2, 1) := by decide +kernel
theorem dL_law_842 : decode code 842 = .ok (.invokevirtual 113, 3) := by decide +kernel
theorem dL_law_845 : decode code 845 = .ok (.if_icmp .eq 5, 3) := by decide +kernel
theorem dL_law_848 : decode code 848 = .ok (.iconst 0, 1) := by decide +kernel
theorem dL_law_849 : decode code 849 = .ok (.ireturn, 1) := by decide +kernel
theorem dL_law_850 : decode code 850 = .ok (.iinc 4 4, 3) := by decide +kernel
theorem dL_law_853 : decode code 853 = .ok (.goto (-830), 3) := by decide +kernel
theorem dL_law_856 : decode code 856 = .ok (.iconst 1, 1) := by decide +kernel
theorem dL_law_857 : decode code 857 = .ok (.ireturn, 1) := by decide +kernel
