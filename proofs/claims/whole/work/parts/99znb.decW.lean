theorem dW_161 : decode code 161 = .ok (.aload_n 3, 1) := by decide +kernel
theorem dW_162 : decode code 162 = .ok (.iconst 0, 1) := by decide +kernel
theorem dW_163 : decode code 163 = .ok (.laload, 1) := by decide +kernel
theorem dW_164 : decode code 164 = .ok (.iload 6, 2) := by decide +kernel
theorem dW_166 : decode code 166 = .ok (.i2l, 1) := by decide +kernel
theorem dW_167 : decode code 167 = .ok (.lcmp, 1) := by decide +kernel
theorem dW_168 : decode code 168 = .ok (.ifCond .eq 5, 3) := by decide +kernel
theorem dW_171 : decode code 171 = .ok (.iconst 0, 1) := by decide +kernel
theorem dW_172 : decode code 172 = .ok (.ireturn, 1) := by decide +kernel
theorem dW_173 : decode code 173 = .ok (.goto 677, 3) := by decide +kernel
theorem dW_176 : decode code 176 = .ok (.aload_n 1, 1) := by decide +kernel
theorem dW_177 : decode code 177 = .ok (.aload_n 0, 1) := by decide +kernel
theorem dW_178 : decode code 178 = .ok (.iload 4, 2) := by decide +kernel
theorem dW_180 : decode code 180 = .ok (.iconst 1, 1) := by decide +kernel
theorem dW_181 : decode code 181 = .ok (.iadd, 1) := by decide +kernel
theorem dW_182 : decode code 182 = .ok (.iaload, 1) := by decide +kernel
theorem dW_183 : decode code 183 = .ok (.aload_n 0, 1) := by decide +kernel
theorem dW_184 : decode code 184 = .ok (.iload 4, 2) := by decide +kernel
theorem dW_186 : decode code 186 = .ok (.iconst 2, 1) := by decide +kernel
theorem dW_187 : decode code 187 = .ok (.iadd, 1) := by decide +kernel
theorem dW_188 : decode code 188 = .ok (.iaload, 1) := by decide +kernel
theorem dW_189 : decode code 189 = .ok (.aload_n 3, 1) := by decide +kernel
theorem dW_190 : decode code 190 = .ok (.invokestatic 51, 3) := by decide +kernel
theorem dW_193 : decode code 193 = .ok (.istore 5, 2) := by decide +kernel
theorem dW_195 : decode code 195 = .ok (.aload_n 2, 1) := by decide +kernel
theorem dW_196 : decode code 196 = .ok (.aload_n 0, 1) := by decide +kernel
theorem dW_197 : decode code 197 = .ok (.iload 4, 2) := by decide +kernel
theorem dW_199 : decode code 199 = .ok (.iconst 1, 1) := by decide +kernel
theorem dW_200 : decode code 200 = .ok (.iadd, 1) := by decide +kernel
theorem dW_201 : decode code 201 = .ok (.iaload, 1) := by decide +kernel
theorem dW_202 : decode code 202 = .ok (.aload_n 0, 1) := by decide +kernel
theorem dW_203 : decode code 203 = .ok (.iload 4, 2) := by decide +kernel
theorem dW_205 : decode code 205 = .ok (.iconst 2, 1) := by decide +kernel
theorem dW_206 : decode code 206 = .ok (.iadd, 1) := by decide +kernel
theorem dW_207 : decode code 207 = .ok (.iaload, 1) := by decide +kernel
theorem dW_208 : decode code 208 = .ok (.invokevirtual 54, 3) := by decide +kernel
theorem dW_211 : decode code 211 = .ok (.istore 6, 2) := by decide +kernel
theorem dW_213 : decode code 213 = .ok (.aload_n 2, 1) := by decide +kernel
theorem dW_214 : decode code 214 = .ok (.invokevirtual 47, 3) := by decide +kernel
theorem dW_217 : decode code 217 = .ok (.iload 5, 2) := by decide +kernel
theorem dW_219 : decode code 219 = .ok (.if_icmp .eq 5, 3) := by decide +kernel
theorem dW_222 : decode code 222 = .ok (.iconst 0, 1) := by decide +kernel
theorem dW_223 : decode code 223 = .ok (.ireturn, 1) := by decide +kernel
theorem dW_224 : decode code 224 = .ok (.iload 5, 2) := by decide +kernel
theorem dW_226 : decode code 226 = .ok (.ifCond .ne 15, 3) := by decide +kernel
theorem dW_229 : decode code 229 = .ok (.aload_n 3, 1) := by decide +kernel
theorem dW_230 : decode code 230 = .ok (.iconst 0, 1) := by decide +kernel
theorem dW_231 : decode code 231 = .ok (.laload, 1) := by decide +kernel
theorem dW_232 : decode code 232 = .ok (.iload 6, 2) := by decide +kernel
theorem dW_234 : decode code 234 = .ok (.i2l, 1) := by decide +kernel
