theorem dR_init_0 : decode prog_9_method_1_code 0 = .ok (.aload_n 0, 1) := by decide +kernel
theorem dR_init_1 : decode prog_9_method_1_code 1 = .ok (.invokespecial 1, 3) := by decide +kernel
theorem dR_init_4 : decode prog_9_method_1_code 4 = .ok (.aload_n 0, 1) := by decide +kernel
theorem dR_init_5 : decode prog_9_method_1_code 5 = .ok (.sipush 2600, 3) := by decide +kernel
theorem dR_init_8 : decode prog_9_method_1_code 8 = .ok (.newarray .int, 2) := by decide +kernel
theorem dR_init_10 : decode prog_9_method_1_code 10 = .ok (.putfield 7, 3) := by decide +kernel
theorem dR_init_13 : decode prog_9_method_1_code 13 = .ok (.aload_n 0, 1) := by decide +kernel
theorem dR_init_14 : decode prog_9_method_1_code 14 = .ok (.sipush 2600, 3) := by decide +kernel
theorem dR_init_17 : decode prog_9_method_1_code 17 = .ok (.newarray .int, 2) := by decide +kernel
theorem dR_init_19 : decode prog_9_method_1_code 19 = .ok (.putfield 13, 3) := by decide +kernel
theorem dR_init_22 : decode prog_9_method_1_code 22 = .ok (.aload_n 0, 1) := by decide +kernel
theorem dR_init_23 : decode prog_9_method_1_code 23 = .ok (.sipush 2600, 3) := by decide +kernel
theorem dR_init_26 : decode prog_9_method_1_code 26 = .ok (.newarray .int, 2) := by decide +kernel
theorem dR_init_28 : decode prog_9_method_1_code 28 = .ok (.putfield 16, 3) := by decide +kernel
theorem dR_init_31 : decode prog_9_method_1_code 31 = .ok (.aload_n 0, 1) := by decide +kernel
theorem dR_init_32 : decode prog_9_method_1_code 32 = .ok (.sipush 2600, 3) := by decide +kernel
theorem dR_init_35 : decode prog_9_method_1_code 35 = .ok (.newarray .boolean, 2) := by decide +kernel
theorem dR_init_37 : decode prog_9_method_1_code 37 = .ok (.putfield 19, 3) := by decide +kernel
theorem dR_init_40 : decode prog_9_method_1_code 40 = .ok (.aload_n 0, 1) := by decide +kernel
theorem dR_init_41 : decode prog_9_method_1_code 41 = .ok (.sipush 2600, 3) := by decide +kernel
theorem dR_init_44 : decode prog_9_method_1_code 44 = .ok (.newarray .boolean, 2) := by decide +kernel
theorem dR_init_46 : decode prog_9_method_1_code 46 = .ok (.putfield 23, 3) := by decide +kernel
theorem dR_init_49 : decode prog_9_method_1_code 49 = .ok (.aload_n 0, 1) := by decide +kernel
theorem dR_init_50 : decode prog_9_method_1_code 50 = .ok (.sipush 3600, 3) := by decide +kernel
theorem dR_init_53 : decode prog_9_method_1_code 53 = .ok (.newarray .int, 2) := by decide +kernel
theorem dR_init_55 : decode prog_9_method_1_code 55 = .ok (.putfield 26, 3) := by decide +kernel
theorem dR_init_58 : decode prog_9_method_1_code 58 = .ok (.aload_n 0, 1) := by decide +kernel
theorem dR_init_59 : decode prog_9_method_1_code 59 = .ok (.sipush 3600, 3) := by decide +kernel
theorem dR_init_62 : decode prog_9_method_1_code 62 = .ok (.newarray .int, 2) := by decide +kernel
theorem dR_init_64 : decode prog_9_method_1_code 64 = .ok (.putfield 29, 3) := by decide +kernel
theorem dR_init_67 : decode prog_9_method_1_code 67 = .ok (.aload_n 0, 1) := by decide +kernel
theorem dR_init_68 : decode prog_9_method_1_code 68 = .ok (.sipush 3600, 3) := by decide +kernel
theorem dR_init_71 : decode prog_9_method_1_code 71 = .ok (.newarray .int, 2) := by decide +kernel
theorem dR_init_73 : decode prog_9_method_1_code 73 = .ok (.putfield 32, 3) := by decide +kernel
theorem dR_init_76 : decode prog_9_method_1_code 76 = .ok (.aload_n 0, 1) := by decide +kernel
theorem dR_init_77 : decode prog_9_method_1_code 77 = .ok (.sipush 3600, 3) := by decide +kernel
theorem dR_init_80 : decode prog_9_method_1_code 80 = .ok (.newarray .int, 2) := by decide +kernel
theorem dR_init_82 : decode prog_9_method_1_code 82 = .ok (.putfield 35, 3) := by decide +kernel
theorem dR_init_85 : decode prog_9_method_1_code 85 = .ok (.aload_n 0, 1) := by decide +kernel
theorem dR_init_86 : decode prog_9_method_1_code 86 = .ok (.bipush 60, 2) := by decide +kernel
theorem dR_init_88 : decode prog_9_method_1_code 88 = .ok (.newarray .int, 2) := by decide +kernel
theorem dR_init_90 : decode prog_9_method_1_code 90 = .ok (.putfield 38, 3) := by decide +kernel
theorem dR_init_93 : decode prog_9_method_1_code 93 = .ok (.aload_n 0, 1) := by decide +kernel
theorem dR_init_94 : decode prog_9_method_1_code 94 = .ok (.bipush 60, 2) := by decide +kernel
theorem dR_init_96 : decode prog_9_method_1_code 96 = .ok (.newarray .int, 2) := by decide +kernel
theorem dR_init_98 : decode prog_9_method_1_code 98 = .ok (.putfield 41, 3) := by decide +kernel
theorem dR_init_101 : decode prog_9_method_1_code 101 = .ok (.aload_n 0, 1) := by decide +kernel
theorem dR_init_102 : decode prog_9_method_1_code 102 = .ok (.bipush 60, 2) := by decide +kernel
theorem dR_init_104 : decode prog_9_method_1_code 104 = .ok (.newarray .int, 2) := by decide +kernel
theorem dR_init_106 : decode prog_9_method_1_code 106 = .ok (.putfield 44, 3) := by decide +kernel
theorem dR_init_109 : decode prog_9_method_1_code 109 = .ok (.aload_n 0, 1) := by decide +kernel
theorem dR_init_110 : decode prog_9_method_1_code 110 = .ok (.bipush 60, 2) := by decide +kernel
theorem dR_init_112 : decode prog_9_method_1_code 112 = .ok (.newarray .int, 2) := by decide +kernel
theorem dR_init_114 : decode prog_9_method_1_code 114 = .ok (.putfield 47, 3) := by decide +kernel
theorem dR_init_117 : decode prog_9_method_1_code 117 = .ok (.aload_n 0, 1) := by decide +kernel
theorem dR_init_118 : decode prog_9_method_1_code 118 = .ok (.bipush 60, 2) := by decide +kernel
theorem dR_init_120 : decode prog_9_method_1_code 120 = .ok (.newarray .int, 2) := by decide +kernel
theorem dR_init_122 : decode prog_9_method_1_code 122 = .ok (.putfield 50, 3) := by decide +kernel
theorem dR_init_125 : decode prog_9_method_1_code 125 = .ok (.aload_n 0, 1) := by decide +kernel
theorem dR_init_126 : decode prog_9_method_1_code 126 = .ok (.bipush 60, 2) := by decide +kernel
theorem dR_init_128 : decode prog_9_method_1_code 128 = .ok (.newarray .int, 2) := by decide +kernel
theorem dR_init_130 : decode prog_9_method_1_code 130 = .ok (.putfield 53, 3) := by decide +kernel
theorem dR_init_133 : decode prog_9_method_1_code 133 = .ok (.aload_n 0, 1) := by decide +kernel
theorem dR_init_134 : decode prog_9_method_1_code 134 = .ok (.bipush 60, 2) := by decide +kernel
theorem dR_init_136 : decode prog_9_method_1_code 136 = .ok (.newarray .int, 2) := by decide +kernel
theorem dR_init_138 : decode prog_9_method_1_code 138 = .ok (.putfield 56, 3) := by decide +kernel
theorem dR_init_141 : decode prog_9_method_1_code 141 = .ok (.aload_n 0, 1) := by decide +kernel
theorem dR_init_142 : decode prog_9_method_1_code 142 = .ok (.bipush 60, 2) := by decide +kernel
theorem dR_init_144 : decode prog_9_method_1_code 144 = .ok (.newarray .int, 2) := by decide +kernel
theorem dR_init_146 : decode prog_9_method_1_code 146 = .ok (.putfield 59, 3) := by decide +kernel
theorem dR_init_149 : decode prog_9_method_1_code 149 = .ok (.aload_n 0, 1) := by decide +kernel
theorem dR_init_150 : decode prog_9_method_1_code 150 = .ok (.bipush 60, 2) := by decide +kernel
theorem dR_init_152 : decode prog_9_method_1_code 152 = .ok (.newarray .boolean, 2) := by decide +kernel
theorem dR_init_154 : decode prog_9_method_1_code 154 = .ok (.putfield 62, 3) := by decide +kernel
theorem dR_init_157 : decode prog_9_method_1_code 157 = .ok (.aload_n 0, 1) := by decide +kernel
theorem dR_init_158 : decode prog_9_method_1_code 158 = .ok (.sipush 1860, 3) := by decide +kernel
theorem dR_init_161 : decode prog_9_method_1_code 161 = .ok (.newarray .int, 2) := by decide +kernel
theorem dR_init_163 : decode prog_9_method_1_code 163 = .ok (.putfield 65, 3) := by decide +kernel
theorem dR_init_166 : decode prog_9_method_1_code 166 = .ok (.aload_n 0, 1) := by decide +kernel
theorem dR_init_167 : decode prog_9_method_1_code 167 = .ok (.sipush 1860, 3) := by decide +kernel
theorem dR_init_170 : decode prog_9_method_1_code 170 = .ok (.newarray .int, 2) := by decide +kernel
theorem dR_init_172 : decode prog_9_method_1_code 172 = .ok (.putfield 68, 3) := by decide +kernel
theorem dR_init_175 : decode prog_9_method_1_code 175 = .ok (.aload_n 0, 1) := by decide +kernel
theorem dR_init_176 : decode prog_9_method_1_code 176 = .ok (.sipush 1860, 3) := by decide +kernel
theorem dR_init_179 : decode prog_9_method_1_code 179 = .ok (.newarray .int, 2) := by decide +kernel
theorem dR_init_181 : decode prog_9_method_1_code 181 = .ok (.putfield 71, 3) := by decide +kernel
theorem dR_init_184 : decode prog_9_method_1_code 184 = .ok (.aload_n 0, 1) := by decide +kernel
theorem dR_init_185 : decode prog_9_method_1_code 185 = .ok (.sipush 1860, 3) := by decide +kernel
theorem dR_init_188 : decode prog_9_method_1_code 188 = .ok (.newarray .int, 2) := by decide +kernel
theorem dR_init_190 : decode prog_9_method_1_code 190 = .ok (.putfield 74, 3) := by decide +kernel
theorem dR_init_193 : decode prog_9_method_1_code 193 = .ok (.aload_n 0, 1) := by decide +kernel
theorem dR_init_194 : decode prog_9_method_1_code 194 = .ok (.sipush 960, 3) := by decide +kernel
theorem dR_init_197 : decode prog_9_method_1_code 197 = .ok (.newarray .int, 2) := by decide +kernel
theorem dR_init_199 : decode prog_9_method_1_code 199 = .ok (.putfield 77, 3) := by decide +kernel
theorem dR_init_202 : decode prog_9_method_1_code 202 = .ok (.aload_n 0, 1) := by decide +kernel
theorem dR_init_203 : decode prog_9_method_1_code 203 = .ok (.bipush 16, 2) := by decide +kernel
theorem dR_init_205 : decode prog_9_method_1_code 205 = .ok (.newarray .int, 2) := by decide +kernel
theorem dR_init_207 : decode prog_9_method_1_code 207 = .ok (.putfield 80, 3) := by decide +kernel
theorem dR_init_210 : decode prog_9_method_1_code 210 = .ok (.aload_n 0, 1) := by decide +kernel
theorem dR_init_211 : decode prog_9_method_1_code 211 = .ok (.bipush 16, 2) := by decide +kernel
theorem dR_init_213 : decode prog_9_method_1_code 213 = .ok (.newarray .int, 2) := by decide +kernel
theorem dR_init_215 : decode prog_9_method_1_code 215 = .ok (.putfield 83, 3) := by decide +kernel
theorem dR_init_218 : decode prog_9_method_1_code 218 = .ok (.aload_n 0, 1) := by decide +kernel
theorem dR_init_219 : decode prog_9_method_1_code 219 = .ok (.bipush 16, 2) := by decide +kernel
theorem dR_init_221 : decode prog_9_method_1_code 221 = .ok (.newarray .int, 2) := by decide +kernel
theorem dR_init_223 : decode prog_9_method_1_code 223 = .ok (.putfield 86, 3) := by decide +kernel
theorem dR_init_226 : decode prog_9_method_1_code 226 = .ok (.aload_n 0, 1) := by decide +kernel
theorem dR_init_227 : decode prog_9_method_1_code 227 = .ok (.bipush 16, 2) := by decide +kernel
theorem dR_init_229 : decode prog_9_method_1_code 229 = .ok (.newarray .int, 2) := by decide +kernel
theorem dR_init_231 : decode prog_9_method_1_code 231 = .ok (.putfield 89, 3) := by decide +kernel
theorem dR_init_234 : decode prog_9_method_1_code 234 = .ok (.aload_n 0, 1) := by decide +kernel
theorem dR_init_235 : decode prog_9_method_1_code 235 = .ok (.bipush 16, 2) := by decide +kernel
theorem dR_init_237 : decode prog_9_method_1_code 237 = .ok (.newarray .int, 2) := by decide +kernel
theorem dR_init_239 : decode prog_9_method_1_code 239 = .ok (.putfield 92, 3) := by decide +kernel
theorem dR_init_242 : decode prog_9_method_1_code 242 = .ok (.aload_n 0, 1) := by decide +kernel
theorem dR_init_243 : decode prog_9_method_1_code 243 = .ok (.bipush 16, 2) := by decide +kernel
theorem dR_init_245 : decode prog_9_method_1_code 245 = .ok (.newarray .boolean, 2) := by decide +kernel
theorem dR_init_247 : decode prog_9_method_1_code 247 = .ok (.putfield 95, 3) := by decide +kernel
theorem dR_init_250 : decode prog_9_method_1_code 250 = .ok (.aload_n 0, 1) := by decide +kernel
theorem dR_init_251 : decode prog_9_method_1_code 251 = .ok (.sipush 496, 3) := by decide +kernel
theorem dR_init_254 : decode prog_9_method_1_code 254 = .ok (.newarray .int, 2) := by decide +kernel
theorem dR_init_256 : decode prog_9_method_1_code 256 = .ok (.putfield 98, 3) := by decide +kernel
theorem dR_init_259 : decode prog_9_method_1_code 259 = .ok (.aload_n 0, 1) := by decide +kernel
theorem dR_init_260 : decode prog_9_method_1_code 260 = .ok (.sipush 320, 3) := by decide +kernel
theorem dR_init_263 : decode prog_9_method_1_code 263 = .ok (.newarray .int, 2) := by decide +kernel
theorem dR_init_265 : decode prog_9_method_1_code 265 = .ok (.putfield 101, 3) := by decide +kernel
theorem dR_init_268 : decode prog_9_method_1_code 268 = .ok (.aload_n 0, 1) := by decide +kernel
theorem dR_init_269 : decode prog_9_method_1_code 269 = .ok (.bipush 60, 2) := by decide +kernel
theorem dR_init_271 : decode prog_9_method_1_code 271 = .ok (.newarray .int, 2) := by decide +kernel
theorem dR_init_273 : decode prog_9_method_1_code 273 = .ok (.putfield 104, 3) := by decide +kernel
theorem dR_init_276 : decode prog_9_method_1_code 276 = .ok (.aload_n 0, 1) := by decide +kernel
theorem dR_init_277 : decode prog_9_method_1_code 277 = .ok (.bipush 60, 2) := by decide +kernel
theorem dR_init_279 : decode prog_9_method_1_code 279 = .ok (.newarray .int, 2) := by decide +kernel
theorem dR_init_281 : decode prog_9_method_1_code 281 = .ok (.putfield 107, 3) := by decide +kernel
theorem dR_init_284 : decode prog_9_method_1_code 284 = .ok (.aload_n 0, 1) := by decide +kernel
theorem dR_init_285 : decode prog_9_method_1_code 285 = .ok (.bipush 60, 2) := by decide +kernel
theorem dR_init_287 : decode prog_9_method_1_code 287 = .ok (.newarray .int, 2) := by decide +kernel
theorem dR_init_289 : decode prog_9_method_1_code 289 = .ok (.putfield 110, 3) := by decide +kernel
theorem dR_init_292 : decode prog_9_method_1_code 292 = .ok (.aload_n 0, 1) := by decide +kernel
theorem dR_init_293 : decode prog_9_method_1_code 293 = .ok (.bipush 60, 2) := by decide +kernel
theorem dR_init_295 : decode prog_9_method_1_code 295 = .ok (.newarray .int, 2) := by decide +kernel
theorem dR_init_297 : decode prog_9_method_1_code 297 = .ok (.putfield 113, 3) := by decide +kernel
theorem dR_init_300 : decode prog_9_method_1_code 300 = .ok (.aload_n 0, 1) := by decide +kernel
theorem dR_init_301 : decode prog_9_method_1_code 301 = .ok (.bipush 60, 2) := by decide +kernel
theorem dR_init_303 : decode prog_9_method_1_code 303 = .ok (.newarray .int, 2) := by decide +kernel
theorem dR_init_305 : decode prog_9_method_1_code 305 = .ok (.putfield 116, 3) := by decide +kernel
theorem dR_init_308 : decode prog_9_method_1_code 308 = .ok (.aload_n 0, 1) := by decide +kernel
theorem dR_init_309 : decode prog_9_method_1_code 309 = .ok (.bipush 60, 2) := by decide +kernel
theorem dR_init_311 : decode prog_9_method_1_code 311 = .ok (.newarray .boolean, 2) := by decide +kernel
theorem dR_init_313 : decode prog_9_method_1_code 313 = .ok (.putfield 119, 3) := by decide +kernel
theorem dR_init_316 : decode prog_9_method_1_code 316 = .ok (.aload_n 0, 1) := by decide +kernel
theorem dR_init_317 : decode prog_9_method_1_code 317 = .ok (.bipush 20, 2) := by decide +kernel
theorem dR_init_319 : decode prog_9_method_1_code 319 = .ok (.newarray .int, 2) := by decide +kernel
theorem dR_init_321 : decode prog_9_method_1_code 321 = .ok (.putfield 122, 3) := by decide +kernel
theorem dR_init_324 : decode prog_9_method_1_code 324 = .ok (.aload_n 0, 1) := by decide +kernel
theorem dR_init_325 : decode prog_9_method_1_code 325 = .ok (.bipush 20, 2) := by decide +kernel
theorem dR_init_327 : decode prog_9_method_1_code 327 = .ok (.newarray .int, 2) := by decide +kernel
theorem dR_init_329 : decode prog_9_method_1_code 329 = .ok (.putfield 125, 3) := by decide +kernel
theorem dR_init_332 : decode prog_9_method_1_code 332 = .ok (.aload_n 0, 1) := by decide +kernel
theorem dR_init_333 : decode prog_9_method_1_code 333 = .ok (.bipush 20, 2) := by decide +kernel
theorem dR_init_335 : decode prog_9_method_1_code 335 = .ok (.newarray .int, 2) := by decide +kernel
theorem dR_init_337 : decode prog_9_method_1_code 337 = .ok (.putfield 128, 3) := by decide +kernel
theorem dR_init_340 : decode prog_9_method_1_code 340 = .ok (.aload_n 0, 1) := by decide +kernel
theorem dR_init_341 : decode prog_9_method_1_code 341 = .ok (.sipush 256, 3) := by decide +kernel
theorem dR_init_344 : decode prog_9_method_1_code 344 = .ok (.newarray .int, 2) := by decide +kernel
theorem dR_init_346 : decode prog_9_method_1_code 346 = .ok (.putfield 131, 3) := by decide +kernel
theorem dR_init_349 : decode prog_9_method_1_code 349 = .ok (.aload_n 0, 1) := by decide +kernel
theorem dR_init_350 : decode prog_9_method_1_code 350 = .ok (.bipush 32, 2) := by decide +kernel
theorem dR_init_352 : decode prog_9_method_1_code 352 = .ok (.newarray .int, 2) := by decide +kernel
theorem dR_init_354 : decode prog_9_method_1_code 354 = .ok (.putfield 134, 3) := by decide +kernel
theorem dR_init_357 : decode prog_9_method_1_code 357 = .ok (.aload_n 0, 1) := by decide +kernel
theorem dR_init_358 : decode prog_9_method_1_code 358 = .ok (.bipush 32, 2) := by decide +kernel
theorem dR_init_360 : decode prog_9_method_1_code 360 = .ok (.newarray .int, 2) := by decide +kernel
theorem dR_init_362 : decode prog_9_method_1_code 362 = .ok (.putfield 137, 3) := by decide +kernel
theorem dR_init_365 : decode prog_9_method_1_code 365 = .ok (.aload_n 0, 1) := by decide +kernel
theorem dR_init_366 : decode prog_9_method_1_code 366 = .ok (.bipush 16, 2) := by decide +kernel
theorem dR_init_368 : decode prog_9_method_1_code 368 = .ok (.newarray .int, 2) := by decide +kernel
theorem dR_init_370 : decode prog_9_method_1_code 370 = .ok (.putfield 140, 3) := by decide +kernel
theorem dR_init_373 : decode prog_9_method_1_code 373 = .ok (.aload_n 0, 1) := by decide +kernel
theorem dR_init_374 : decode prog_9_method_1_code 374 = .ok (.iconst 0, 1) := by decide +kernel
theorem dR_init_375 : decode prog_9_method_1_code 375 = .ok (.iconst 0, 1) := by decide +kernel
theorem dR_init_376 : decode prog_9_method_1_code 376 = .ok (.iconst 0, 1) := by decide +kernel
theorem dR_init_377 : decode prog_9_method_1_code 377 = .ok (.invokevirtual 143, 3) := by decide +kernel
theorem dR_init_380 : decode prog_9_method_1_code 380 = .ok (.pop, 1) := by decide +kernel
theorem dR_init_381 : decode prog_9_method_1_code 381 = .ok (.iconst 0, 1) := by decide +kernel
theorem dR_init_382 : decode prog_9_method_1_code 382 = .ok (.istore_n 1, 1) := by decide +kernel
theorem dR_init_383 : decode prog_9_method_1_code 383 = .ok (.iload_n 1, 1) := by decide +kernel
theorem dR_init_384 : decode prog_9_method_1_code 384 = .ok (.bipush 16, 2) := by decide +kernel
theorem dR_init_386 : decode prog_9_method_1_code 386 = .ok (.if_icmp .ge 14, 3) := by decide +kernel
theorem dR_init_389 : decode prog_9_method_1_code 389 = .ok (.aload_n 0, 1) := by decide +kernel
theorem dR_init_390 : decode prog_9_method_1_code 390 = .ok (.iload_n 1, 1) := by decide +kernel
theorem dR_init_391 : decode prog_9_method_1_code 391 = .ok (.invokevirtual 147, 3) := by decide +kernel
theorem dR_init_394 : decode prog_9_method_1_code 394 = .ok (.iinc 1 1, 3) := by decide +kernel
theorem dR_init_397 : decode prog_9_method_1_code 397 = .ok (.goto (-14), 3) := by decide +kernel
theorem dR_init_400 : decode prog_9_method_1_code 400 = .ok (.iconst 0, 1) := by decide +kernel
theorem dR_init_401 : decode prog_9_method_1_code 401 = .ok (.istore_n 1, 1) := by decide +kernel
theorem dR_init_402 : decode prog_9_method_1_code 402 = .ok (.iload_n 1, 1) := by decide +kernel
theorem dR_init_403 : decode prog_9_method_1_code 403 = .ok (.sipush 1860, 3) := by decide +kernel
theorem dR_init_406 : decode prog_9_method_1_code 406 = .ok (.if_icmp .ge 16, 3) := by decide +kernel
theorem dR_init_409 : decode prog_9_method_1_code 409 = .ok (.aload_n 0, 1) := by decide +kernel
theorem dR_init_410 : decode prog_9_method_1_code 410 = .ok (.getfield 65, 3) := by decide +kernel
theorem dR_init_413 : decode prog_9_method_1_code 413 = .ok (.iload_n 1, 1) := by decide +kernel
theorem dR_init_414 : decode prog_9_method_1_code 414 = .ok (.iconst (-1), 1) := by decide +kernel
theorem dR_init_415 : decode prog_9_method_1_code 415 = .ok (.iastore, 1) := by decide +kernel
theorem dR_init_416 : decode prog_9_method_1_code 416 = .ok (.iinc 1 1, 3) := by decide +kernel
theorem dR_init_419 : decode prog_9_method_1_code 419 = .ok (.goto (-17), 3) := by decide +kernel
theorem dR_init_422 : decode prog_9_method_1_code 422 = .ok (.iconst 0, 1) := by decide +kernel
theorem dR_init_423 : decode prog_9_method_1_code 423 = .ok (.istore_n 1, 1) := by decide +kernel
theorem dR_init_424 : decode prog_9_method_1_code 424 = .ok (.iload_n 1, 1) := by decide +kernel
theorem dR_init_425 : decode prog_9_method_1_code 425 = .ok (.sipush 960, 3) := by decide +kernel
theorem dR_init_428 : decode prog_9_method_1_code 428 = .ok (.if_icmp .ge 16, 3) := by decide +kernel
theorem dR_init_431 : decode prog_9_method_1_code 431 = .ok (.aload_n 0, 1) := by decide +kernel
theorem dR_init_432 : decode prog_9_method_1_code 432 = .ok (.getfield 77, 3) := by decide +kernel
theorem dR_init_435 : decode prog_9_method_1_code 435 = .ok (.iload_n 1, 1) := by decide +kernel
theorem dR_init_436 : decode prog_9_method_1_code 436 = .ok (.iconst (-1), 1) := by decide +kernel
theorem dR_init_437 : decode prog_9_method_1_code 437 = .ok (.iastore, 1) := by decide +kernel
theorem dR_init_438 : decode prog_9_method_1_code 438 = .ok (.iinc 1 1, 3) := by decide +kernel
theorem dR_init_441 : decode prog_9_method_1_code 441 = .ok (.goto (-17), 3) := by decide +kernel
theorem dR_init_444 : decode prog_9_method_1_code 444 = .ok (.aload_n 0, 1) := by decide +kernel
theorem dR_init_445 : decode prog_9_method_1_code 445 = .ok (.getfield 44, 3) := by decide +kernel
theorem dR_init_448 : decode prog_9_method_1_code 448 = .ok (.iconst 0, 1) := by decide +kernel
theorem dR_init_449 : decode prog_9_method_1_code 449 = .ok (.iconst (-1), 1) := by decide +kernel
theorem dR_init_450 : decode prog_9_method_1_code 450 = .ok (.iastore, 1) := by decide +kernel
theorem dR_init_451 : decode prog_9_method_1_code 451 = .ok (.aload_n 0, 1) := by decide +kernel
theorem dR_init_452 : decode prog_9_method_1_code 452 = .ok (.getfield 77, 3) := by decide +kernel
theorem dR_init_455 : decode prog_9_method_1_code 455 = .ok (.iconst 0, 1) := by decide +kernel
theorem dR_init_456 : decode prog_9_method_1_code 456 = .ok (.iconst 0, 1) := by decide +kernel
theorem dR_init_457 : decode prog_9_method_1_code 457 = .ok (.iastore, 1) := by decide +kernel
theorem dR_init_458 : decode prog_9_method_1_code 458 = .ok (.aload_n 0, 1) := by decide +kernel
theorem dR_init_459 : decode prog_9_method_1_code 459 = .ok (.getfield 65, 3) := by decide +kernel
theorem dR_init_462 : decode prog_9_method_1_code 462 = .ok (.iconst 0, 1) := by decide +kernel
theorem dR_init_463 : decode prog_9_method_1_code 463 = .ok (.aload_n 0, 1) := by decide +kernel
theorem dR_init_464 : decode prog_9_method_1_code 464 = .ok (.iconst 1, 1) := by decide +kernel
theorem dR_init_465 : decode prog_9_method_1_code 465 = .ok (.iconst 0, 1) := by decide +kernel
theorem dR_init_466 : decode prog_9_method_1_code 466 = .ok (.iconst 0, 1) := by decide +kernel
theorem dR_init_467 : decode prog_9_method_1_code 467 = .ok (.invokevirtual 143, 3) := by decide +kernel
theorem dR_init_470 : decode prog_9_method_1_code 470 = .ok (.iastore, 1) := by decide +kernel
theorem dR_init_471 : decode prog_9_method_1_code 471 = .ok (.aload_n 0, 1) := by decide +kernel
theorem dR_init_472 : decode prog_9_method_1_code 472 = .ok (.getfield 41, 3) := by decide +kernel
theorem dR_init_475 : decode prog_9_method_1_code 475 = .ok (.iconst 0, 1) := by decide +kernel
theorem dR_init_476 : decode prog_9_method_1_code 476 = .ok (.aload_n 0, 1) := by decide +kernel
theorem dR_init_477 : decode prog_9_method_1_code 477 = .ok (.iconst 1, 1) := by decide +kernel
theorem dR_init_478 : decode prog_9_method_1_code 478 = .ok (.iconst 0, 1) := by decide +kernel
theorem dR_init_479 : decode prog_9_method_1_code 479 = .ok (.iconst 0, 1) := by decide +kernel
theorem dR_init_480 : decode prog_9_method_1_code 480 = .ok (.invokevirtual 143, 3) := by decide +kernel
theorem dR_init_483 : decode prog_9_method_1_code 483 = .ok (.iastore, 1) := by decide +kernel
theorem dR_init_484 : decode prog_9_method_1_code 484 = .ok (.aload_n 0, 1) := by decide +kernel
theorem dR_init_485 : decode prog_9_method_1_code 485 = .ok (.iconst 1, 1) := by decide +kernel
theorem dR_init_486 : decode prog_9_method_1_code 486 = .ok (.putfield 151, 3) := by decide +kernel
theorem dR_init_489 : decode prog_9_method_1_code 489 = .ok (.aload_n 0, 1) := by decide +kernel
theorem dR_init_490 : decode prog_9_method_1_code 490 = .ok (.getfield 80, 3) := by decide +kernel
theorem dR_init_493 : decode prog_9_method_1_code 493 = .ok (.iconst 0, 1) := by decide +kernel
theorem dR_init_494 : decode prog_9_method_1_code 494 = .ok (.iconst 0, 1) := by decide +kernel
theorem dR_init_495 : decode prog_9_method_1_code 495 = .ok (.iastore, 1) := by decide +kernel
theorem dR_init_496 : decode prog_9_method_1_code 496 = .ok (.aload_n 0, 1) := by decide +kernel
theorem dR_init_497 : decode prog_9_method_1_code 497 = .ok (.getfield 83, 3) := by decide +kernel
theorem dR_init_500 : decode prog_9_method_1_code 500 = .ok (.iconst 0, 1) := by decide +kernel
theorem dR_init_501 : decode prog_9_method_1_code 501 = .ok (.iconst 0, 1) := by decide +kernel
theorem dR_init_502 : decode prog_9_method_1_code 502 = .ok (.iastore, 1) := by decide +kernel
theorem dR_init_503 : decode prog_9_method_1_code 503 = .ok (.aload_n 0, 1) := by decide +kernel
theorem dR_init_504 : decode prog_9_method_1_code 504 = .ok (.getfield 86, 3) := by decide +kernel
theorem dR_init_507 : decode prog_9_method_1_code 507 = .ok (.iconst 0, 1) := by decide +kernel
theorem dR_init_508 : decode prog_9_method_1_code 508 = .ok (.aload_n 0, 1) := by decide +kernel
theorem dR_init_509 : decode prog_9_method_1_code 509 = .ok (.getfield 65, 3) := by decide +kernel
theorem dR_init_512 : decode prog_9_method_1_code 512 = .ok (.iconst 0, 1) := by decide +kernel
theorem dR_init_513 : decode prog_9_method_1_code 513 = .ok (.iaload, 1) := by decide +kernel
theorem dR_init_514 : decode prog_9_method_1_code 514 = .ok (.iastore, 1) := by decide +kernel
theorem dR_init_515 : decode prog_9_method_1_code 515 = .ok (.aload_n 0, 1) := by decide +kernel
theorem dR_init_516 : decode prog_9_method_1_code 516 = .ok (.getfield 95, 3) := by decide +kernel
theorem dR_init_519 : decode prog_9_method_1_code 519 = .ok (.iconst 0, 1) := by decide +kernel
theorem dR_init_520 : decode prog_9_method_1_code 520 = .ok (.iconst 1, 1) := by decide +kernel
theorem dR_init_521 : decode prog_9_method_1_code 521 = .ok (.bastore, 1) := by decide +kernel
theorem dR_init_522 : decode prog_9_method_1_code 522 = .ok (.return_, 1) := by decide +kernel
theorem dR_make_0 : decode prog_9_method_4_code 0 = .ok (.aload_n 0, 1) := by decide +kernel
theorem dR_make_1 : decode prog_9_method_4_code 1 = .ok (.getfield 7, 3) := by decide +kernel
theorem dR_make_4 : decode prog_9_method_4_code 4 = .ok (.aload_n 0, 1) := by decide +kernel
theorem dR_make_5 : decode prog_9_method_4_code 5 = .ok (.getfield 158, 3) := by decide +kernel
theorem dR_make_8 : decode prog_9_method_4_code 8 = .ok (.iload_n 1, 1) := by decide +kernel
theorem dR_make_9 : decode prog_9_method_4_code 9 = .ok (.iastore, 1) := by decide +kernel
theorem dR_make_10 : decode prog_9_method_4_code 10 = .ok (.aload_n 0, 1) := by decide +kernel
theorem dR_make_11 : decode prog_9_method_4_code 11 = .ok (.getfield 13, 3) := by decide +kernel
theorem dR_make_14 : decode prog_9_method_4_code 14 = .ok (.aload_n 0, 1) := by decide +kernel
theorem dR_make_15 : decode prog_9_method_4_code 15 = .ok (.getfield 158, 3) := by decide +kernel
theorem dR_make_18 : decode prog_9_method_4_code 18 = .ok (.iload_n 2, 1) := by decide +kernel
theorem dR_make_19 : decode prog_9_method_4_code 19 = .ok (.iastore, 1) := by decide +kernel
theorem dR_make_20 : decode prog_9_method_4_code 20 = .ok (.aload_n 0, 1) := by decide +kernel
theorem dR_make_21 : decode prog_9_method_4_code 21 = .ok (.getfield 16, 3) := by decide +kernel
theorem dR_make_24 : decode prog_9_method_4_code 24 = .ok (.aload_n 0, 1) := by decide +kernel
theorem dR_make_25 : decode prog_9_method_4_code 25 = .ok (.getfield 158, 3) := by decide +kernel
theorem dR_make_28 : decode prog_9_method_4_code 28 = .ok (.iload_n 3, 1) := by decide +kernel
theorem dR_make_29 : decode prog_9_method_4_code 29 = .ok (.iastore, 1) := by decide +kernel
theorem dR_make_30 : decode prog_9_method_4_code 30 = .ok (.aload_n 0, 1) := by decide +kernel
theorem dR_make_31 : decode prog_9_method_4_code 31 = .ok (.dup, 1) := by decide +kernel
theorem dR_make_32 : decode prog_9_method_4_code 32 = .ok (.getfield 158, 3) := by decide +kernel
theorem dR_make_35 : decode prog_9_method_4_code 35 = .ok (.iconst 1, 1) := by decide +kernel
theorem dR_make_36 : decode prog_9_method_4_code 36 = .ok (.iadd, 1) := by decide +kernel
theorem dR_make_37 : decode prog_9_method_4_code 37 = .ok (.putfield 158, 3) := by decide +kernel
theorem dR_make_40 : decode prog_9_method_4_code 40 = .ok (.aload_n 0, 1) := by decide +kernel
theorem dR_make_41 : decode prog_9_method_4_code 41 = .ok (.getfield 158, 3) := by decide +kernel
theorem dR_make_44 : decode prog_9_method_4_code 44 = .ok (.iconst 1, 1) := by decide +kernel
theorem dR_make_45 : decode prog_9_method_4_code 45 = .ok (.isub, 1) := by decide +kernel
theorem dR_make_46 : decode prog_9_method_4_code 46 = .ok (.ireturn, 1) := by decide +kernel
theorem dR_leave_0 : decode prog_9_method_18_code 0 = .ok (.aload_n 0, 1) := by decide +kernel
theorem dR_leave_1 : decode prog_9_method_18_code 1 = .ok (.getfield 80, 3) := by decide +kernel
theorem dR_leave_4 : decode prog_9_method_18_code 4 = .ok (.iload_n 1, 1) := by decide +kernel
theorem dR_leave_5 : decode prog_9_method_18_code 5 = .ok (.iconst (-1), 1) := by decide +kernel
theorem dR_leave_6 : decode prog_9_method_18_code 6 = .ok (.iastore, 1) := by decide +kernel
theorem dR_leave_7 : decode prog_9_method_18_code 7 = .ok (.aload_n 0, 1) := by decide +kernel
theorem dR_leave_8 : decode prog_9_method_18_code 8 = .ok (.getfield 83, 3) := by decide +kernel
theorem dR_leave_11 : decode prog_9_method_18_code 11 = .ok (.iload_n 1, 1) := by decide +kernel
theorem dR_leave_12 : decode prog_9_method_18_code 12 = .ok (.iconst (-1), 1) := by decide +kernel
theorem dR_leave_13 : decode prog_9_method_18_code 13 = .ok (.iastore, 1) := by decide +kernel
theorem dR_leave_14 : decode prog_9_method_18_code 14 = .ok (.aload_n 0, 1) := by decide +kernel
theorem dR_leave_15 : decode prog_9_method_18_code 15 = .ok (.getfield 86, 3) := by decide +kernel
theorem dR_leave_18 : decode prog_9_method_18_code 18 = .ok (.iload_n 1, 1) := by decide +kernel
theorem dR_leave_19 : decode prog_9_method_18_code 19 = .ok (.iconst (-1), 1) := by decide +kernel
theorem dR_leave_20 : decode prog_9_method_18_code 20 = .ok (.iastore, 1) := by decide +kernel
theorem dR_leave_21 : decode prog_9_method_18_code 21 = .ok (.aload_n 0, 1) := by decide +kernel
theorem dR_leave_22 : decode prog_9_method_18_code 22 = .ok (.getfield 95, 3) := by decide +kernel
theorem dR_leave_25 : decode prog_9_method_18_code 25 = .ok (.iload_n 1, 1) := by decide +kernel
theorem dR_leave_26 : decode prog_9_method_18_code 26 = .ok (.iconst 0, 1) := by decide +kernel
theorem dR_leave_27 : decode prog_9_method_18_code 27 = .ok (.bastore, 1) := by decide +kernel
theorem dR_leave_28 : decode prog_9_method_18_code 28 = .ok (.aload_n 0, 1) := by decide +kernel
theorem dR_leave_29 : decode prog_9_method_18_code 29 = .ok (.getfield 92, 3) := by decide +kernel
theorem dR_leave_32 : decode prog_9_method_18_code 32 = .ok (.iload_n 1, 1) := by decide +kernel
theorem dR_leave_33 : decode prog_9_method_18_code 33 = .ok (.iconst 0, 1) := by decide +kernel
theorem dR_leave_34 : decode prog_9_method_18_code 34 = .ok (.iastore, 1) := by decide +kernel
theorem dR_leave_35 : decode prog_9_method_18_code 35 = .ok (.iconst 0, 1) := by decide +kernel
theorem dR_leave_36 : decode prog_9_method_18_code 36 = .ok (.istore_n 2, 1) := by decide +kernel
theorem dR_leave_37 : decode prog_9_method_18_code 37 = .ok (.iload_n 2, 1) := by decide +kernel
theorem dR_leave_38 : decode prog_9_method_18_code 38 = .ok (.bipush 31, 2) := by decide +kernel
theorem dR_leave_40 : decode prog_9_method_18_code 40 = .ok (.if_icmp .ge 21, 3) := by decide +kernel
theorem dR_leave_43 : decode prog_9_method_18_code 43 = .ok (.aload_n 0, 1) := by decide +kernel
theorem dR_leave_44 : decode prog_9_method_18_code 44 = .ok (.getfield 98, 3) := by decide +kernel
theorem dR_leave_47 : decode prog_9_method_18_code 47 = .ok (.bipush 31, 2) := by decide +kernel
theorem dR_leave_49 : decode prog_9_method_18_code 49 = .ok (.iload_n 1, 1) := by decide +kernel
theorem dR_leave_50 : decode prog_9_method_18_code 50 = .ok (.imul, 1) := by decide +kernel
theorem dR_leave_51 : decode prog_9_method_18_code 51 = .ok (.iload_n 2, 1) := by decide +kernel
theorem dR_leave_52 : decode prog_9_method_18_code 52 = .ok (.iadd, 1) := by decide +kernel
theorem dR_leave_53 : decode prog_9_method_18_code 53 = .ok (.iconst (-1), 1) := by decide +kernel
theorem dR_leave_54 : decode prog_9_method_18_code 54 = .ok (.iastore, 1) := by decide +kernel
theorem dR_leave_55 : decode prog_9_method_18_code 55 = .ok (.iinc 2 1, 3) := by decide +kernel
theorem dR_leave_58 : decode prog_9_method_18_code 58 = .ok (.goto (-21), 3) := by decide +kernel
theorem dR_leave_61 : decode prog_9_method_18_code 61 = .ok (.return_, 1) := by decide +kernel
theorem dR_thrown_0 : decode prog_9_method_2_code 0 = .ok (.aload_n 0, 1) := by decide +kernel
theorem dR_thrown_1 : decode prog_9_method_2_code 1 = .ok (.getfield 155, 3) := by decide +kernel
theorem dR_thrown_4 : decode prog_9_method_2_code 4 = .ok (.ireturn, 1) := by decide +kernel
theorem dR_offer_0 : decode prog_9_method_40_code 0 = .ok (.aload_n 0, 1) := by decide +kernel
theorem dR_offer_1 : decode prog_9_method_40_code 1 = .ok (.iload_n 1, 1) := by decide +kernel
theorem dR_offer_2 : decode prog_9_method_40_code 2 = .ok (.bipush 16, 2) := by decide +kernel
theorem dR_offer_4 : decode prog_9_method_40_code 4 = .ok (.invokestatic 264, 3) := by decide +kernel
theorem dR_offer_7 : decode prog_9_method_40_code 7 = .ok (.ifCond .ne 7, 3) := by decide +kernel
theorem dR_offer_10 : decode prog_9_method_40_code 10 = .ok (.iconst 1, 1) := by decide +kernel
theorem dR_offer_11 : decode prog_9_method_40_code 11 = .ok (.goto 17, 3) := by decide +kernel
theorem dR_offer_14 : decode prog_9_method_40_code 14 = .ok (.aload_n 0, 1) := by decide +kernel
theorem dR_offer_15 : decode prog_9_method_40_code 15 = .ok (.getfield 189, 3) := by decide +kernel
theorem dR_offer_18 : decode prog_9_method_40_code 18 = .ok (.bipush 60, 2) := by decide +kernel
theorem dR_offer_20 : decode prog_9_method_40_code 20 = .ok (.if_icmp .ne 7, 3) := by decide +kernel
theorem dR_offer_23 : decode prog_9_method_40_code 23 = .ok (.iconst 2, 1) := by decide +kernel
theorem dR_offer_24 : decode prog_9_method_40_code 24 = .ok (.goto 4, 3) := by decide +kernel
theorem dR_offer_27 : decode prog_9_method_40_code 27 = .ok (.iconst 0, 1) := by decide +kernel
theorem dR_offer_28 : decode prog_9_method_40_code 28 = .ok (.putfield 155, 3) := by decide +kernel
theorem dR_offer_31 : decode prog_9_method_40_code 31 = .ok (.aload_n 0, 1) := by decide +kernel
theorem dR_offer_32 : decode prog_9_method_40_code 32 = .ok (.getfield 155, 3) := by decide +kernel
theorem dR_offer_35 : decode prog_9_method_40_code 35 = .ok (.ifCond .le 5, 3) := by decide +kernel
theorem dR_offer_38 : decode prog_9_method_40_code 38 = .ok (.iconst 0, 1) := by decide +kernel
theorem dR_offer_39 : decode prog_9_method_40_code 39 = .ok (.ireturn, 1) := by decide +kernel
theorem dR_offer_40 : decode prog_9_method_40_code 40 = .ok (.aload_n 0, 1) := by decide +kernel
theorem dR_offer_41 : decode prog_9_method_40_code 41 = .ok (.getfield 104, 3) := by decide +kernel
theorem dR_offer_44 : decode prog_9_method_40_code 44 = .ok (.aload_n 0, 1) := by decide +kernel
theorem dR_offer_45 : decode prog_9_method_40_code 45 = .ok (.getfield 189, 3) := by decide +kernel
theorem dR_offer_48 : decode prog_9_method_40_code 48 = .ok (.iload_n 1, 1) := by decide +kernel
theorem dR_offer_49 : decode prog_9_method_40_code 49 = .ok (.iastore, 1) := by decide +kernel
theorem dR_offer_50 : decode prog_9_method_40_code 50 = .ok (.aload_n 0, 1) := by decide +kernel
theorem dR_offer_51 : decode prog_9_method_40_code 51 = .ok (.getfield 107, 3) := by decide +kernel
theorem dR_offer_54 : decode prog_9_method_40_code 54 = .ok (.aload_n 0, 1) := by decide +kernel
theorem dR_offer_55 : decode prog_9_method_40_code 55 = .ok (.getfield 189, 3) := by decide +kernel
theorem dR_offer_58 : decode prog_9_method_40_code 58 = .ok (.aload_n 0, 1) := by decide +kernel
theorem dR_offer_59 : decode prog_9_method_40_code 59 = .ok (.iconst 1, 1) := by decide +kernel
theorem dR_offer_60 : decode prog_9_method_40_code 60 = .ok (.iconst 0, 1) := by decide +kernel
theorem dR_offer_61 : decode prog_9_method_40_code 61 = .ok (.iconst 0, 1) := by decide +kernel
theorem dR_offer_62 : decode prog_9_method_40_code 62 = .ok (.invokevirtual 143, 3) := by decide +kernel
theorem dR_offer_65 : decode prog_9_method_40_code 65 = .ok (.iastore, 1) := by decide +kernel
theorem dR_offer_66 : decode prog_9_method_40_code 66 = .ok (.aload_n 0, 1) := by decide +kernel
theorem dR_offer_67 : decode prog_9_method_40_code 67 = .ok (.getfield 110, 3) := by decide +kernel
theorem dR_offer_70 : decode prog_9_method_40_code 70 = .ok (.aload_n 0, 1) := by decide +kernel
theorem dR_offer_71 : decode prog_9_method_40_code 71 = .ok (.getfield 189, 3) := by decide +kernel
theorem dR_offer_74 : decode prog_9_method_40_code 74 = .ok (.aload_n 0, 1) := by decide +kernel
theorem dR_offer_75 : decode prog_9_method_40_code 75 = .ok (.iconst 1, 1) := by decide +kernel
theorem dR_offer_76 : decode prog_9_method_40_code 76 = .ok (.iconst 0, 1) := by decide +kernel
theorem dR_offer_77 : decode prog_9_method_40_code 77 = .ok (.iconst 0, 1) := by decide +kernel
theorem dR_offer_78 : decode prog_9_method_40_code 78 = .ok (.invokevirtual 143, 3) := by decide +kernel
theorem dR_offer_81 : decode prog_9_method_40_code 81 = .ok (.iastore, 1) := by decide +kernel
theorem dR_offer_82 : decode prog_9_method_40_code 82 = .ok (.aload_n 0, 1) := by decide +kernel
theorem dR_offer_83 : decode prog_9_method_40_code 83 = .ok (.getfield 113, 3) := by decide +kernel
theorem dR_offer_86 : decode prog_9_method_40_code 86 = .ok (.aload_n 0, 1) := by decide +kernel
theorem dR_offer_87 : decode prog_9_method_40_code 87 = .ok (.getfield 189, 3) := by decide +kernel
theorem dR_offer_90 : decode prog_9_method_40_code 90 = .ok (.iconst (-1), 1) := by decide +kernel
theorem dR_offer_91 : decode prog_9_method_40_code 91 = .ok (.iastore, 1) := by decide +kernel
theorem dR_offer_92 : decode prog_9_method_40_code 92 = .ok (.aload_n 0, 1) := by decide +kernel
theorem dR_offer_93 : decode prog_9_method_40_code 93 = .ok (.dup, 1) := by decide +kernel
theorem dR_offer_94 : decode prog_9_method_40_code 94 = .ok (.getfield 189, 3) := by decide +kernel
theorem dR_offer_97 : decode prog_9_method_40_code 97 = .ok (.iconst 1, 1) := by decide +kernel
theorem dR_offer_98 : decode prog_9_method_40_code 98 = .ok (.iadd, 1) := by decide +kernel
theorem dR_offer_99 : decode prog_9_method_40_code 99 = .ok (.putfield 189, 3) := by decide +kernel
theorem dR_offer_102 : decode prog_9_method_40_code 102 = .ok (.aload_n 0, 1) := by decide +kernel
theorem dR_offer_103 : decode prog_9_method_40_code 103 = .ok (.getfield 189, 3) := by decide +kernel
theorem dR_offer_106 : decode prog_9_method_40_code 106 = .ok (.iconst 1, 1) := by decide +kernel
theorem dR_offer_107 : decode prog_9_method_40_code 107 = .ok (.isub, 1) := by decide +kernel
theorem dR_offer_108 : decode prog_9_method_40_code 108 = .ok (.ireturn, 1) := by decide +kernel
theorem dR_in_0 : decode prog_9_method_3_code 0 = .ok (.iload_n 0, 1) := by decide +kernel
theorem dR_in_1 : decode prog_9_method_3_code 1 = .ok (.ifCond .lt 12, 3) := by decide +kernel
theorem dR_in_4 : decode prog_9_method_3_code 4 = .ok (.iload_n 0, 1) := by decide +kernel
theorem dR_in_5 : decode prog_9_method_3_code 5 = .ok (.iload_n 1, 1) := by decide +kernel
theorem dR_in_6 : decode prog_9_method_3_code 6 = .ok (.if_icmp .ge 7, 3) := by decide +kernel
theorem dR_in_9 : decode prog_9_method_3_code 9 = .ok (.iconst 1, 1) := by decide +kernel
theorem dR_in_10 : decode prog_9_method_3_code 10 = .ok (.goto 4, 3) := by decide +kernel
theorem dR_in_13 : decode prog_9_method_3_code 13 = .ok (.iconst 0, 1) := by decide +kernel
theorem dR_in_14 : decode prog_9_method_3_code 14 = .ok (.ireturn, 1) := by decide +kernel
theorem dR_add_0 : decode prog_9_method_41_code 0 = .ok (.aload_n 0, 1) := by decide +kernel
theorem dR_add_1 : decode prog_9_method_41_code 1 = .ok (.iload_n 1, 1) := by decide +kernel
theorem dR_add_2 : decode prog_9_method_41_code 2 = .ok (.iload_n 2, 1) := by decide +kernel
theorem dR_add_3 : decode prog_9_method_41_code 3 = .ok (.aload_n 0, 1) := by decide +kernel
theorem dR_add_4 : decode prog_9_method_41_code 4 = .ok (.getfield 189, 3) := by decide +kernel
theorem dR_add_7 : decode prog_9_method_41_code 7 = .ok (.invokestatic 264, 3) := by decide +kernel
theorem dR_add_10 : decode prog_9_method_41_code 10 = .ok (.invokevirtual 270, 3) := by decide +kernel
theorem dR_add_13 : decode prog_9_method_41_code 13 = .ok (.ifCond .eq 13, 3) := by decide +kernel
theorem dR_add_16 : decode prog_9_method_41_code 16 = .ok (.aload_n 0, 1) := by decide +kernel
theorem dR_add_17 : decode prog_9_method_41_code 17 = .ok (.iconst 0, 1) := by decide +kernel
theorem dR_add_18 : decode prog_9_method_41_code 18 = .ok (.iload_n 1, 1) := by decide +kernel
theorem dR_add_19 : decode prog_9_method_41_code 19 = .ok (.iload_n 2, 1) := by decide +kernel
theorem dR_add_20 : decode prog_9_method_41_code 20 = .ok (.invokevirtual 274, 3) := by decide +kernel
theorem dR_add_23 : decode prog_9_method_41_code 23 = .ok (.goto 4, 3) := by decide +kernel
theorem dR_add_26 : decode prog_9_method_41_code 26 = .ok (.iconst 0, 1) := by decide +kernel
theorem dR_add_27 : decode prog_9_method_41_code 27 = .ok (.ireturn, 1) := by decide +kernel
theorem dR_isAsked_0 : decode prog_9_method_38_code 0 = .ok (.aload_n 0, 1) := by decide +kernel
theorem dR_isAsked_1 : decode prog_9_method_38_code 1 = .ok (.iload_n 1, 1) := by decide +kernel
theorem dR_isAsked_2 : decode prog_9_method_38_code 2 = .ok (.bipush 16, 2) := by decide +kernel
theorem dR_isAsked_4 : decode prog_9_method_38_code 4 = .ok (.invokestatic 264, 3) := by decide +kernel
theorem dR_isAsked_7 : decode prog_9_method_38_code 7 = .ok (.ifCond .eq 7, 3) := by decide +kernel
theorem dR_isAsked_10 : decode prog_9_method_38_code 10 = .ok (.iload_n 2, 1) := by decide +kernel
theorem dR_isAsked_11 : decode prog_9_method_38_code 11 = .ok (.ifCond .ne 7, 3) := by decide +kernel
theorem dR_isAsked_14 : decode prog_9_method_38_code 14 = .ok (.iconst 1, 1) := by decide +kernel
theorem dR_isAsked_15 : decode prog_9_method_38_code 15 = .ok (.goto 25, 3) := by decide +kernel
theorem dR_isAsked_18 : decode prog_9_method_38_code 18 = .ok (.aload_n 0, 1) := by decide +kernel
theorem dR_isAsked_19 : decode prog_9_method_38_code 19 = .ok (.iload_n 1, 1) := by decide +kernel
theorem dR_isAsked_20 : decode prog_9_method_38_code 20 = .ok (.invokevirtual 267, 3) := by decide +kernel
theorem dR_isAsked_23 : decode prog_9_method_38_code 23 = .ok (.ifCond .eq 12, 3) := by decide +kernel
theorem dR_isAsked_26 : decode prog_9_method_38_code 26 = .ok (.aload_n 0, 1) := by decide +kernel
theorem dR_isAsked_27 : decode prog_9_method_38_code 27 = .ok (.getfield 195, 3) := by decide +kernel
theorem dR_isAsked_30 : decode prog_9_method_38_code 30 = .ok (.bipush 20, 2) := by decide +kernel
theorem dR_isAsked_32 : decode prog_9_method_38_code 32 = .ok (.if_icmp .ne 7, 3) := by decide +kernel
theorem dR_isAsked_35 : decode prog_9_method_38_code 35 = .ok (.iconst 2, 1) := by decide +kernel
theorem dR_isAsked_36 : decode prog_9_method_38_code 36 = .ok (.goto 4, 3) := by decide +kernel
theorem dR_isAsked_39 : decode prog_9_method_38_code 39 = .ok (.iconst 0, 1) := by decide +kernel
theorem dR_isAsked_40 : decode prog_9_method_38_code 40 = .ok (.putfield 155, 3) := by decide +kernel
theorem dR_isAsked_43 : decode prog_9_method_38_code 43 = .ok (.aload_n 0, 1) := by decide +kernel
theorem dR_isAsked_44 : decode prog_9_method_38_code 44 = .ok (.getfield 155, 3) := by decide +kernel
theorem dR_isAsked_47 : decode prog_9_method_38_code 47 = .ok (.ifCond .ne 7, 3) := by decide +kernel
theorem dR_isAsked_50 : decode prog_9_method_38_code 50 = .ok (.iconst 1, 1) := by decide +kernel
theorem dR_isAsked_51 : decode prog_9_method_38_code 51 = .ok (.goto 4, 3) := by decide +kernel
theorem dR_isAsked_54 : decode prog_9_method_38_code 54 = .ok (.iconst 0, 1) := by decide +kernel
theorem dR_isAsked_55 : decode prog_9_method_38_code 55 = .ok (.ireturn, 1) := by decide +kernel
theorem dR_isLatest_0 : decode prog_9_method_22_code 0 = .ok (.aload_n 0, 1) := by decide +kernel
theorem dR_isLatest_1 : decode prog_9_method_22_code 1 = .ok (.getfield 80, 3) := by decide +kernel
theorem dR_isLatest_4 : decode prog_9_method_22_code 4 = .ok (.iload_n 1, 1) := by decide +kernel
theorem dR_isLatest_5 : decode prog_9_method_22_code 5 = .ok (.iaload, 1) := by decide +kernel
theorem dR_isLatest_6 : decode prog_9_method_22_code 6 = .ok (.aload_n 0, 1) := by decide +kernel
theorem dR_isLatest_7 : decode prog_9_method_22_code 7 = .ok (.getfield 151, 3) := by decide +kernel
theorem dR_isLatest_10 : decode prog_9_method_22_code 10 = .ok (.iconst 1, 1) := by decide +kernel
theorem dR_isLatest_11 : decode prog_9_method_22_code 11 = .ok (.isub, 1) := by decide +kernel
theorem dR_isLatest_12 : decode prog_9_method_22_code 12 = .ok (.if_icmp .ne 7, 3) := by decide +kernel
theorem dR_isLatest_15 : decode prog_9_method_22_code 15 = .ok (.iconst 1, 1) := by decide +kernel
theorem dR_isLatest_16 : decode prog_9_method_22_code 16 = .ok (.goto 4, 3) := by decide +kernel
theorem dR_isLatest_19 : decode prog_9_method_22_code 19 = .ok (.iconst 0, 1) := by decide +kernel
theorem dR_isLatest_20 : decode prog_9_method_22_code 20 = .ok (.ireturn, 1) := by decide +kernel
theorem dR_propose_0 : decode prog_9_method_39_code 0 = .ok (.aload_n 0, 1) := by decide +kernel
theorem dR_propose_1 : decode prog_9_method_39_code 1 = .ok (.getfield 122, 3) := by decide +kernel
theorem dR_propose_4 : decode prog_9_method_39_code 4 = .ok (.aload_n 0, 1) := by decide +kernel
theorem dR_propose_5 : decode prog_9_method_39_code 5 = .ok (.getfield 195, 3) := by decide +kernel
theorem dR_propose_8 : decode prog_9_method_39_code 8 = .ok (.iload_n 1, 1) := by decide +kernel
theorem dR_propose_9 : decode prog_9_method_39_code 9 = .ok (.iastore, 1) := by decide +kernel
theorem dR_propose_10 : decode prog_9_method_39_code 10 = .ok (.aload_n 0, 1) := by decide +kernel
theorem dR_propose_11 : decode prog_9_method_39_code 11 = .ok (.getfield 125, 3) := by decide +kernel
theorem dR_propose_14 : decode prog_9_method_39_code 14 = .ok (.aload_n 0, 1) := by decide +kernel
theorem dR_propose_15 : decode prog_9_method_39_code 15 = .ok (.getfield 195, 3) := by decide +kernel
theorem dR_propose_18 : decode prog_9_method_39_code 18 = .ok (.iload_n 2, 1) := by decide +kernel
theorem dR_propose_19 : decode prog_9_method_39_code 19 = .ok (.iastore, 1) := by decide +kernel
theorem dR_propose_20 : decode prog_9_method_39_code 20 = .ok (.aload_n 0, 1) := by decide +kernel
theorem dR_propose_21 : decode prog_9_method_39_code 21 = .ok (.getfield 128, 3) := by decide +kernel
theorem dR_propose_24 : decode prog_9_method_39_code 24 = .ok (.aload_n 0, 1) := by decide +kernel
theorem dR_propose_25 : decode prog_9_method_39_code 25 = .ok (.getfield 195, 3) := by decide +kernel
theorem dR_propose_28 : decode prog_9_method_39_code 28 = .ok (.iload_n 3, 1) := by decide +kernel
theorem dR_propose_29 : decode prog_9_method_39_code 29 = .ok (.iastore, 1) := by decide +kernel
theorem dR_propose_30 : decode prog_9_method_39_code 30 = .ok (.aload_n 0, 1) := by decide +kernel
theorem dR_propose_31 : decode prog_9_method_39_code 31 = .ok (.dup, 1) := by decide +kernel
theorem dR_propose_32 : decode prog_9_method_39_code 32 = .ok (.getfield 195, 3) := by decide +kernel
theorem dR_propose_35 : decode prog_9_method_39_code 35 = .ok (.iconst 1, 1) := by decide +kernel
theorem dR_propose_36 : decode prog_9_method_39_code 36 = .ok (.iadd, 1) := by decide +kernel
theorem dR_propose_37 : decode prog_9_method_39_code 37 = .ok (.putfield 195, 3) := by decide +kernel
theorem dR_propose_40 : decode prog_9_method_39_code 40 = .ok (.aload_n 0, 1) := by decide +kernel
theorem dR_propose_41 : decode prog_9_method_39_code 41 = .ok (.getfield 195, 3) := by decide +kernel
theorem dR_propose_44 : decode prog_9_method_39_code 44 = .ok (.ireturn, 1) := by decide +kernel
theorem dR_remove_0 : decode prog_9_method_42_code 0 = .ok (.aload_n 0, 1) := by decide +kernel
theorem dR_remove_1 : decode prog_9_method_42_code 1 = .ok (.iload_n 1, 1) := by decide +kernel
theorem dR_remove_2 : decode prog_9_method_42_code 2 = .ok (.iload_n 2, 1) := by decide +kernel
theorem dR_remove_3 : decode prog_9_method_42_code 3 = .ok (.bipush 16, 2) := by decide +kernel
theorem dR_remove_5 : decode prog_9_method_42_code 5 = .ok (.invokestatic 264, 3) := by decide +kernel
theorem dR_remove_8 : decode prog_9_method_42_code 8 = .ok (.invokevirtual 270, 3) := by decide +kernel
theorem dR_remove_11 : decode prog_9_method_42_code 11 = .ok (.ifCond .eq 13, 3) := by decide +kernel
theorem dR_remove_14 : decode prog_9_method_42_code 14 = .ok (.aload_n 0, 1) := by decide +kernel
theorem dR_remove_15 : decode prog_9_method_42_code 15 = .ok (.iconst 1, 1) := by decide +kernel
theorem dR_remove_16 : decode prog_9_method_42_code 16 = .ok (.iload_n 1, 1) := by decide +kernel
theorem dR_remove_17 : decode prog_9_method_42_code 17 = .ok (.iload_n 2, 1) := by decide +kernel
theorem dR_remove_18 : decode prog_9_method_42_code 18 = .ok (.invokevirtual 274, 3) := by decide +kernel
theorem dR_remove_21 : decode prog_9_method_42_code 21 = .ok (.goto 4, 3) := by decide +kernel
theorem dR_remove_24 : decode prog_9_method_42_code 24 = .ok (.iconst 0, 1) := by decide +kernel
theorem dR_remove_25 : decode prog_9_method_42_code 25 = .ok (.ireturn, 1) := by decide +kernel
theorem dR_update_0 : decode prog_9_method_43_code 0 = .ok (.aload_n 0, 1) := by decide +kernel
theorem dR_update_1 : decode prog_9_method_43_code 1 = .ok (.iload_n 1, 1) := by decide +kernel
theorem dR_update_2 : decode prog_9_method_43_code 2 = .ok (.iconst 1, 1) := by decide +kernel
theorem dR_update_3 : decode prog_9_method_43_code 3 = .ok (.invokevirtual 270, 3) := by decide +kernel
theorem dR_update_6 : decode prog_9_method_43_code 6 = .ok (.ifCond .ne 5, 3) := by decide +kernel
theorem dR_update_9 : decode prog_9_method_43_code 9 = .ok (.iconst 0, 1) := by decide +kernel
theorem dR_update_10 : decode prog_9_method_43_code 10 = .ok (.ireturn, 1) := by decide +kernel
theorem dR_update_11 : decode prog_9_method_43_code 11 = .ok (.aload_n 0, 1) := by decide +kernel
theorem dR_update_12 : decode prog_9_method_43_code 12 = .ok (.iconst 1, 1) := by decide +kernel
theorem dR_update_13 : decode prog_9_method_43_code 13 = .ok (.iconst 0, 1) := by decide +kernel
theorem dR_update_14 : decode prog_9_method_43_code 14 = .ok (.iconst 0, 1) := by decide +kernel
theorem dR_update_15 : decode prog_9_method_43_code 15 = .ok (.invokevirtual 143, 3) := by decide +kernel
theorem dR_update_18 : decode prog_9_method_43_code 18 = .ok (.istore_n 2, 1) := by decide +kernel
theorem dR_update_19 : decode prog_9_method_43_code 19 = .ok (.aload_n 0, 1) := by decide +kernel
theorem dR_update_20 : decode prog_9_method_43_code 20 = .ok (.getfield 101, 3) := by decide +kernel
theorem dR_update_23 : decode prog_9_method_43_code 23 = .ok (.bipush 20, 2) := by decide +kernel
theorem dR_update_25 : decode prog_9_method_43_code 25 = .ok (.iload_n 1, 1) := by decide +kernel
theorem dR_update_26 : decode prog_9_method_43_code 26 = .ok (.imul, 1) := by decide +kernel
theorem dR_update_27 : decode prog_9_method_43_code 27 = .ok (.aload_n 0, 1) := by decide +kernel
theorem dR_update_28 : decode prog_9_method_43_code 28 = .ok (.getfield 92, 3) := by decide +kernel
theorem dR_update_31 : decode prog_9_method_43_code 31 = .ok (.iload_n 1, 1) := by decide +kernel
theorem dR_update_32 : decode prog_9_method_43_code 32 = .ok (.iaload, 1) := by decide +kernel
theorem dR_update_33 : decode prog_9_method_43_code 33 = .ok (.iadd, 1) := by decide +kernel
theorem dR_update_34 : decode prog_9_method_43_code 34 = .ok (.iload_n 2, 1) := by decide +kernel
theorem dR_update_35 : decode prog_9_method_43_code 35 = .ok (.iastore, 1) := by decide +kernel
theorem dR_update_36 : decode prog_9_method_43_code 36 = .ok (.aload_n 0, 1) := by decide +kernel
theorem dR_update_37 : decode prog_9_method_43_code 37 = .ok (.getfield 92, 3) := by decide +kernel
theorem dR_update_40 : decode prog_9_method_43_code 40 = .ok (.iload_n 1, 1) := by decide +kernel
theorem dR_update_41 : decode prog_9_method_43_code 41 = .ok (.dup2, 1) := by decide +kernel
theorem dR_update_42 : decode prog_9_method_43_code 42 = .ok (.iaload, 1) := by decide +kernel
theorem dR_update_43 : decode prog_9_method_43_code 43 = .ok (.iconst 1, 1) := by decide +kernel
theorem dR_update_44 : decode prog_9_method_43_code 44 = .ok (.iadd, 1) := by decide +kernel
theorem dR_update_45 : decode prog_9_method_43_code 45 = .ok (.iastore, 1) := by decide +kernel
theorem dR_update_46 : decode prog_9_method_43_code 46 = .ok (.aload_n 0, 1) := by decide +kernel
theorem dR_update_47 : decode prog_9_method_43_code 47 = .ok (.iconst 2, 1) := by decide +kernel
theorem dR_update_48 : decode prog_9_method_43_code 48 = .ok (.iload_n 1, 1) := by decide +kernel
theorem dR_update_49 : decode prog_9_method_43_code 49 = .ok (.iload_n 2, 1) := by decide +kernel
theorem dR_update_50 : decode prog_9_method_43_code 50 = .ok (.invokevirtual 274, 3) := by decide +kernel
theorem dR_update_53 : decode prog_9_method_43_code 53 = .ok (.ireturn, 1) := by decide +kernel
theorem dR_commit_0 : decode prog_9_method_44_code 0 = .ok (.aload_n 0, 1) := by decide +kernel
theorem dR_commit_1 : decode prog_9_method_44_code 1 = .ok (.iload_n 1, 1) := by decide +kernel
theorem dR_commit_2 : decode prog_9_method_44_code 2 = .ok (.bipush 16, 2) := by decide +kernel
theorem dR_commit_4 : decode prog_9_method_44_code 4 = .ok (.invokestatic 264, 3) := by decide +kernel
theorem dR_commit_7 : decode prog_9_method_44_code 7 = .ok (.ifCond .ne 7, 3) := by decide +kernel
theorem dR_commit_10 : decode prog_9_method_44_code 10 = .ok (.iconst 1, 1) := by decide +kernel
theorem dR_commit_11 : decode prog_9_method_44_code 11 = .ok (.goto 25, 3) := by decide +kernel
theorem dR_commit_14 : decode prog_9_method_44_code 14 = .ok (.aload_n 0, 1) := by decide +kernel
theorem dR_commit_15 : decode prog_9_method_44_code 15 = .ok (.iload_n 1, 1) := by decide +kernel
theorem dR_commit_16 : decode prog_9_method_44_code 16 = .ok (.invokevirtual 267, 3) := by decide +kernel
theorem dR_commit_19 : decode prog_9_method_44_code 19 = .ok (.ifCond .eq 12, 3) := by decide +kernel
theorem dR_commit_22 : decode prog_9_method_44_code 22 = .ok (.aload_n 0, 1) := by decide +kernel
theorem dR_commit_23 : decode prog_9_method_44_code 23 = .ok (.getfield 151, 3) := by decide +kernel
theorem dR_commit_26 : decode prog_9_method_44_code 26 = .ok (.bipush 60, 2) := by decide +kernel
theorem dR_commit_28 : decode prog_9_method_44_code 28 = .ok (.if_icmp .ne 7, 3) := by decide +kernel
theorem dR_commit_31 : decode prog_9_method_44_code 31 = .ok (.iconst 2, 1) := by decide +kernel
theorem dR_commit_32 : decode prog_9_method_44_code 32 = .ok (.goto 4, 3) := by decide +kernel
theorem dR_commit_35 : decode prog_9_method_44_code 35 = .ok (.iconst 0, 1) := by decide +kernel
theorem dR_commit_36 : decode prog_9_method_44_code 36 = .ok (.putfield 155, 3) := by decide +kernel
theorem dR_commit_39 : decode prog_9_method_44_code 39 = .ok (.aload_n 0, 1) := by decide +kernel
theorem dR_commit_40 : decode prog_9_method_44_code 40 = .ok (.getfield 155, 3) := by decide +kernel
theorem dR_commit_43 : decode prog_9_method_44_code 43 = .ok (.ifCond .le 5, 3) := by decide +kernel
theorem dR_commit_46 : decode prog_9_method_44_code 46 = .ok (.iconst 0, 1) := by decide +kernel
theorem dR_commit_47 : decode prog_9_method_44_code 47 = .ok (.ireturn, 1) := by decide +kernel
theorem dR_commit_48 : decode prog_9_method_44_code 48 = .ok (.aload_n 0, 1) := by decide +kernel
theorem dR_commit_49 : decode prog_9_method_44_code 49 = .ok (.iload_n 1, 1) := by decide +kernel
theorem dR_commit_50 : decode prog_9_method_44_code 50 = .ok (.iload_n 2, 1) := by decide +kernel
theorem dR_commit_51 : decode prog_9_method_44_code 51 = .ok (.invokevirtual 277, 3) := by decide +kernel
theorem dR_commit_54 : decode prog_9_method_44_code 54 = .ok (.aload_n 0, 1) := by decide +kernel
theorem dR_commit_55 : decode prog_9_method_44_code 55 = .ok (.getfield 151, 3) := by decide +kernel
theorem dR_commit_58 : decode prog_9_method_44_code 58 = .ok (.iconst 1, 1) := by decide +kernel
theorem dR_commit_59 : decode prog_9_method_44_code 59 = .ok (.isub, 1) := by decide +kernel
theorem dR_commit_60 : decode prog_9_method_44_code 60 = .ok (.ireturn, 1) := by decide +kernel
theorem dR_change_0 : decode prog_9_method_37_code 0 = .ok (.aload_n 0, 1) := by decide +kernel
theorem dR_change_1 : decode prog_9_method_37_code 1 = .ok (.getfield 151, 3) := by decide +kernel
theorem dR_change_4 : decode prog_9_method_37_code 4 = .ok (.istore_n 3, 1) := by decide +kernel
theorem dR_change_5 : decode prog_9_method_37_code 5 = .ok (.aload_n 0, 1) := by decide +kernel
theorem dR_change_6 : decode prog_9_method_37_code 6 = .ok (.getfield 83, 3) := by decide +kernel
theorem dR_change_9 : decode prog_9_method_37_code 9 = .ok (.iload_n 1, 1) := by decide +kernel
theorem dR_change_10 : decode prog_9_method_37_code 10 = .ok (.iaload, 1) := by decide +kernel
theorem dR_change_11 : decode prog_9_method_37_code 11 = .ok (.istore 4, 2) := by decide +kernel
theorem dR_change_13 : decode prog_9_method_37_code 13 = .ok (.aload_n 0, 1) := by decide +kernel
theorem dR_change_14 : decode prog_9_method_37_code 14 = .ok (.iload_n 3, 1) := by decide +kernel
theorem dR_change_15 : decode prog_9_method_37_code 15 = .ok (.iconst 1, 1) := by decide +kernel
theorem dR_change_16 : decode prog_9_method_37_code 16 = .ok (.isub, 1) := by decide +kernel
theorem dR_change_17 : decode prog_9_method_37_code 17 = .ok (.iload_n 3, 1) := by decide +kernel
theorem dR_change_18 : decode prog_9_method_37_code 18 = .ok (.invokevirtual 236, 3) := by decide +kernel
theorem dR_change_21 : decode prog_9_method_37_code 21 = .ok (.aload_n 0, 1) := by decide +kernel
theorem dR_change_22 : decode prog_9_method_37_code 22 = .ok (.getfield 44, 3) := by decide +kernel
theorem dR_change_25 : decode prog_9_method_37_code 25 = .ok (.iload_n 3, 1) := by decide +kernel
theorem dR_change_26 : decode prog_9_method_37_code 26 = .ok (.iload 4, 2) := by decide +kernel
theorem dR_change_28 : decode prog_9_method_37_code 28 = .ok (.iastore, 1) := by decide +kernel
theorem dR_change_29 : decode prog_9_method_37_code 29 = .ok (.aload_n 0, 1) := by decide +kernel
theorem dR_change_30 : decode prog_9_method_37_code 30 = .ok (.iload_n 3, 1) := by decide +kernel
theorem dR_change_31 : decode prog_9_method_37_code 31 = .ok (.iload 4, 2) := by decide +kernel
theorem dR_change_33 : decode prog_9_method_37_code 33 = .ok (.invokevirtual 239, 3) := by decide +kernel
theorem dR_change_36 : decode prog_9_method_37_code 36 = .ok (.aload_n 0, 1) := by decide +kernel
theorem dR_change_37 : decode prog_9_method_37_code 37 = .ok (.iload_n 3, 1) := by decide +kernel
theorem dR_change_38 : decode prog_9_method_37_code 38 = .ok (.iload 4, 2) := by decide +kernel
theorem dR_change_40 : decode prog_9_method_37_code 40 = .ok (.invokevirtual 242, 3) := by decide +kernel
theorem dR_change_43 : decode prog_9_method_37_code 43 = .ok (.aload_n 0, 1) := by decide +kernel
theorem dR_change_44 : decode prog_9_method_37_code 44 = .ok (.iload_n 3, 1) := by decide +kernel
theorem dR_change_45 : decode prog_9_method_37_code 45 = .ok (.invokevirtual 245, 3) := by decide +kernel
theorem dR_change_48 : decode prog_9_method_37_code 48 = .ok (.aload_n 0, 1) := by decide +kernel
theorem dR_change_49 : decode prog_9_method_37_code 49 = .ok (.iload_n 3, 1) := by decide +kernel
theorem dR_change_50 : decode prog_9_method_37_code 50 = .ok (.invokevirtual 248, 3) := by decide +kernel
theorem dR_change_53 : decode prog_9_method_37_code 53 = .ok (.aload_n 0, 1) := by decide +kernel
theorem dR_change_54 : decode prog_9_method_37_code 54 = .ok (.iload_n 3, 1) := by decide +kernel
theorem dR_change_55 : decode prog_9_method_37_code 55 = .ok (.invokevirtual 251, 3) := by decide +kernel
theorem dR_change_58 : decode prog_9_method_37_code 58 = .ok (.aload_n 0, 1) := by decide +kernel
theorem dR_change_59 : decode prog_9_method_37_code 59 = .ok (.getfield 62, 3) := by decide +kernel
theorem dR_change_62 : decode prog_9_method_37_code 62 = .ok (.iload_n 3, 1) := by decide +kernel
theorem dR_change_63 : decode prog_9_method_37_code 63 = .ok (.iload_n 2, 1) := by decide +kernel
theorem dR_change_64 : decode prog_9_method_37_code 64 = .ok (.ifCond .ne 30, 3) := by decide +kernel
theorem dR_change_67 : decode prog_9_method_37_code 67 = .ok (.aload_n 0, 1) := by decide +kernel
theorem dR_change_68 : decode prog_9_method_37_code 68 = .ok (.getfield 50, 3) := by decide +kernel
theorem dR_change_71 : decode prog_9_method_37_code 71 = .ok (.iload_n 3, 1) := by decide +kernel
theorem dR_change_72 : decode prog_9_method_37_code 72 = .ok (.iaload, 1) := by decide +kernel
theorem dR_change_73 : decode prog_9_method_37_code 73 = .ok (.ifCond .ne 21, 3) := by decide +kernel
theorem dR_change_76 : decode prog_9_method_37_code 76 = .ok (.aload_n 0, 1) := by decide +kernel
theorem dR_change_77 : decode prog_9_method_37_code 77 = .ok (.getfield 53, 3) := by decide +kernel
theorem dR_change_80 : decode prog_9_method_37_code 80 = .ok (.iload_n 3, 1) := by decide +kernel
theorem dR_change_81 : decode prog_9_method_37_code 81 = .ok (.iaload, 1) := by decide +kernel
theorem dR_change_82 : decode prog_9_method_37_code 82 = .ok (.ifCond .ne 12, 3) := by decide +kernel
theorem dR_change_85 : decode prog_9_method_37_code 85 = .ok (.aload_n 0, 1) := by decide +kernel
theorem dR_change_86 : decode prog_9_method_37_code 86 = .ok (.getfield 56, 3) := by decide +kernel
theorem dR_change_89 : decode prog_9_method_37_code 89 = .ok (.iload_n 3, 1) := by decide +kernel
theorem dR_change_90 : decode prog_9_method_37_code 90 = .ok (.iaload, 1) := by decide +kernel
theorem dR_change_91 : decode prog_9_method_37_code 91 = .ok (.ifCond .ne 7, 3) := by decide +kernel
theorem dR_change_94 : decode prog_9_method_37_code 94 = .ok (.iconst 1, 1) := by decide +kernel
theorem dR_change_95 : decode prog_9_method_37_code 95 = .ok (.goto 4, 3) := by decide +kernel
theorem dR_change_98 : decode prog_9_method_37_code 98 = .ok (.iconst 0, 1) := by decide +kernel
theorem dR_change_99 : decode prog_9_method_37_code 99 = .ok (.bastore, 1) := by decide +kernel
theorem dR_change_100 : decode prog_9_method_37_code 100 = .ok (.aload_n 0, 1) := by decide +kernel
theorem dR_change_101 : decode prog_9_method_37_code 101 = .ok (.getfield 62, 3) := by decide +kernel
theorem dR_change_104 : decode prog_9_method_37_code 104 = .ok (.iload_n 3, 1) := by decide +kernel
theorem dR_change_105 : decode prog_9_method_37_code 105 = .ok (.baload, 1) := by decide +kernel
theorem dR_change_106 : decode prog_9_method_37_code 106 = .ok (.ifCond .eq 13, 3) := by decide +kernel
theorem dR_change_109 : decode prog_9_method_37_code 109 = .ok (.aload_n 0, 1) := by decide +kernel
theorem dR_change_110 : decode prog_9_method_37_code 110 = .ok (.iload_n 3, 1) := by decide +kernel
theorem dR_change_111 : decode prog_9_method_37_code 111 = .ok (.iload 4, 2) := by decide +kernel
theorem dR_change_113 : decode prog_9_method_37_code 113 = .ok (.invokevirtual 254, 3) := by decide +kernel
theorem dR_change_116 : decode prog_9_method_37_code 116 = .ok (.goto 4, 3) := by decide +kernel
theorem dR_change_119 : decode prog_9_method_37_code 119 = .ok (.iconst 0, 1) := by decide +kernel
theorem dR_change_120 : decode prog_9_method_37_code 120 = .ok (.istore 5, 2) := by decide +kernel
theorem dR_change_122 : decode prog_9_method_37_code 122 = .ok (.aload_n 0, 1) := by decide +kernel
theorem dR_change_123 : decode prog_9_method_37_code 123 = .ok (.iconst 4, 1) := by decide +kernel
theorem dR_change_124 : decode prog_9_method_37_code 124 = .ok (.aload_n 0, 1) := by decide +kernel
theorem dR_change_125 : decode prog_9_method_37_code 125 = .ok (.bipush 6, 2) := by decide +kernel
theorem dR_change_127 : decode prog_9_method_37_code 127 = .ok (.aload_n 0, 1) := by decide +kernel
theorem dR_change_128 : decode prog_9_method_37_code 128 = .ok (.getfield 41, 3) := by decide +kernel
theorem dR_change_131 : decode prog_9_method_37_code 131 = .ok (.iload_n 3, 1) := by decide +kernel
theorem dR_change_132 : decode prog_9_method_37_code 132 = .ok (.iconst 1, 1) := by decide +kernel
theorem dR_change_133 : decode prog_9_method_37_code 133 = .ok (.isub, 1) := by decide +kernel
theorem dR_change_134 : decode prog_9_method_37_code 134 = .ok (.iaload, 1) := by decide +kernel
theorem dR_change_135 : decode prog_9_method_37_code 135 = .ok (.iconst 0, 1) := by decide +kernel
theorem dR_change_136 : decode prog_9_method_37_code 136 = .ok (.invokevirtual 221, 3) := by decide +kernel
theorem dR_change_139 : decode prog_9_method_37_code 139 = .ok (.iload 5, 2) := by decide +kernel
theorem dR_change_141 : decode prog_9_method_37_code 141 = .ok (.invokevirtual 221, 3) := by decide +kernel
theorem dR_change_144 : decode prog_9_method_37_code 144 = .ok (.istore 6, 2) := by decide +kernel
theorem dR_change_146 : decode prog_9_method_37_code 146 = .ok (.aload_n 0, 1) := by decide +kernel
theorem dR_change_147 : decode prog_9_method_37_code 147 = .ok (.getfield 41, 3) := by decide +kernel
theorem dR_change_150 : decode prog_9_method_37_code 150 = .ok (.iload_n 3, 1) := by decide +kernel
theorem dR_change_151 : decode prog_9_method_37_code 151 = .ok (.aload_n 0, 1) := by decide +kernel
theorem dR_change_152 : decode prog_9_method_37_code 152 = .ok (.iconst 5, 1) := by decide +kernel
theorem dR_change_153 : decode prog_9_method_37_code 153 = .ok (.iload 6, 2) := by decide +kernel
theorem dR_change_155 : decode prog_9_method_37_code 155 = .ok (.iconst 0, 1) := by decide +kernel
theorem dR_change_156 : decode prog_9_method_37_code 156 = .ok (.invokevirtual 221, 3) := by decide +kernel
theorem dR_change_159 : decode prog_9_method_37_code 159 = .ok (.iastore, 1) := by decide +kernel
theorem dR_change_160 : decode prog_9_method_37_code 160 = .ok (.aload_n 0, 1) := by decide +kernel
theorem dR_change_161 : decode prog_9_method_37_code 161 = .ok (.iload_n 3, 1) := by decide +kernel
theorem dR_change_162 : decode prog_9_method_37_code 162 = .ok (.iload 6, 2) := by decide +kernel
theorem dR_change_164 : decode prog_9_method_37_code 164 = .ok (.invokevirtual 257, 3) := by decide +kernel
theorem dR_change_167 : decode prog_9_method_37_code 167 = .ok (.aload_n 0, 1) := by decide +kernel
theorem dR_change_168 : decode prog_9_method_37_code 168 = .ok (.dup, 1) := by decide +kernel
theorem dR_change_169 : decode prog_9_method_37_code 169 = .ok (.getfield 151, 3) := by decide +kernel
theorem dR_change_172 : decode prog_9_method_37_code 172 = .ok (.iconst 1, 1) := by decide +kernel
theorem dR_change_173 : decode prog_9_method_37_code 173 = .ok (.iadd, 1) := by decide +kernel
theorem dR_change_174 : decode prog_9_method_37_code 174 = .ok (.putfield 151, 3) := by decide +kernel
theorem dR_change_177 : decode prog_9_method_37_code 177 = .ok (.iconst 0, 1) := by decide +kernel
theorem dR_change_178 : decode prog_9_method_37_code 178 = .ok (.istore 7, 2) := by decide +kernel
theorem dR_change_180 : decode prog_9_method_37_code 180 = .ok (.iload 7, 2) := by decide +kernel
theorem dR_change_182 : decode prog_9_method_37_code 182 = .ok (.bipush 16, 2) := by decide +kernel
