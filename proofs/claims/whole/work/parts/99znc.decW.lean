theorem dW_235 : decode code 235 = .ok (.lcmp, 1) := by decide +kernel
theorem dW_236 : decode code 236 = .ok (.ifCond .eq 5, 3) := by decide +kernel
theorem dW_239 : decode code 239 = .ok (.iconst 0, 1) := by decide +kernel
theorem dW_240 : decode code 240 = .ok (.ireturn, 1) := by decide +kernel
theorem dW_241 : decode code 241 = .ok (.goto 609, 3) := by decide +kernel
theorem dW_244 : decode code 244 = .ok (.aload_n 1, 1) := by decide +kernel
theorem dW_245 : decode code 245 = .ok (.aload_n 0, 1) := by decide +kernel
theorem dW_246 : decode code 246 = .ok (.iload 4, 2) := by decide +kernel
theorem dW_248 : decode code 248 = .ok (.iconst 1, 1) := by decide +kernel
theorem dW_249 : decode code 249 = .ok (.iadd, 1) := by decide +kernel
theorem dW_250 : decode code 250 = .ok (.iaload, 1) := by decide +kernel
theorem dW_251 : decode code 251 = .ok (.aload_n 0, 1) := by decide +kernel
theorem dW_252 : decode code 252 = .ok (.iload 4, 2) := by decide +kernel
theorem dW_254 : decode code 254 = .ok (.iconst 2, 1) := by decide +kernel
theorem dW_255 : decode code 255 = .ok (.iadd, 1) := by decide +kernel
theorem dW_256 : decode code 256 = .ok (.iaload, 1) := by decide +kernel
theorem dW_257 : decode code 257 = .ok (.aload_n 3, 1) := by decide +kernel
theorem dW_258 : decode code 258 = .ok (.invokestatic 55, 3) := by decide +kernel
theorem dW_261 : decode code 261 = .ok (.istore 5, 2) := by decide +kernel
theorem dW_263 : decode code 263 = .ok (.aload_n 2, 1) := by decide +kernel
theorem dW_264 : decode code 264 = .ok (.aload_n 0, 1) := by decide +kernel
theorem dW_265 : decode code 265 = .ok (.iload 4, 2) := by decide +kernel
theorem dW_267 : decode code 267 = .ok (.iconst 1, 1) := by decide +kernel
theorem dW_268 : decode code 268 = .ok (.iadd, 1) := by decide +kernel
theorem dW_269 : decode code 269 = .ok (.iaload, 1) := by decide +kernel
theorem dW_270 : decode code 270 = .ok (.aload_n 0, 1) := by decide +kernel
theorem dW_271 : decode code 271 = .ok (.iload 4, 2) := by decide +kernel
theorem dW_273 : decode code 273 = .ok (.iconst 2, 1) := by decide +kernel
theorem dW_274 : decode code 274 = .ok (.iadd, 1) := by decide +kernel
theorem dW_275 : decode code 275 = .ok (.iaload, 1) := by decide +kernel
theorem dW_276 : decode code 276 = .ok (.invokevirtual 57, 3) := by decide +kernel
theorem dW_279 : decode code 279 = .ok (.istore 6, 2) := by decide +kernel
theorem dW_281 : decode code 281 = .ok (.aload_n 2, 1) := by decide +kernel
theorem dW_282 : decode code 282 = .ok (.invokevirtual 47, 3) := by decide +kernel
theorem dW_285 : decode code 285 = .ok (.iload 5, 2) := by decide +kernel
theorem dW_287 : decode code 287 = .ok (.if_icmp .eq 5, 3) := by decide +kernel
theorem dW_290 : decode code 290 = .ok (.iconst 0, 1) := by decide +kernel
theorem dW_291 : decode code 291 = .ok (.ireturn, 1) := by decide +kernel
theorem dW_292 : decode code 292 = .ok (.iload 5, 2) := by decide +kernel
theorem dW_294 : decode code 294 = .ok (.ifCond .ne 15, 3) := by decide +kernel
theorem dW_297 : decode code 297 = .ok (.aload_n 3, 1) := by decide +kernel
theorem dW_298 : decode code 298 = .ok (.iconst 0, 1) := by decide +kernel
theorem dW_299 : decode code 299 = .ok (.laload, 1) := by decide +kernel
theorem dW_300 : decode code 300 = .ok (.iload 6, 2) := by decide +kernel
theorem dW_302 : decode code 302 = .ok (.i2l, 1) := by decide +kernel
theorem dW_303 : decode code 303 = .ok (.lcmp, 1) := by decide +kernel
theorem dW_304 : decode code 304 = .ok (.ifCond .eq 5, 3) := by decide +kernel
theorem dW_307 : decode code 307 = .ok (.iconst 0, 1) := by decide +kernel
theorem dW_308 : decode code 308 = .ok (.ireturn, 1) := by decide +kernel
theorem dW_309 : decode code 309 = .ok (.goto 541, 3) := by decide +kernel
