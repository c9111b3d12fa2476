theorem dL_circles_0 : decode cL_circles 0 = .ok (.new 8, 3) := by decide +kernel
theorem dL_circles_3 : decode cL_circles 3 = .ok (.dup, 1) := by decide +kernel
theorem dL_circles_4 : decode cL_circles 4 = .ok (.invokespecial 89, 3) := by decide +kernel
theorem dL_circles_7 : decode cL_circles 7 = .ok (.astore_n 0, 1) := by decide +kernel
theorem dL_circles_8 : decode cL_circles 8 = .ok (.aload_n 0, 1) := by decide +kernel
theorem dL_circles_9 : decode cL_circles 9 = .ok (.iconst 1, 1) := by decide +kernel
theorem dL_circles_10 : decode cL_circles 10 = .ok (.iconst 1, 1) := by decide +kernel
theorem dL_circles_11 : decode cL_circles 11 = .ok (.iconst 1, 1) := by decide +kernel
theorem dL_circles_12 : decode cL_circles 12 = .ok (.iconst 0, 1) := by decide +kernel
theorem dL_circles_13 : decode cL_circles 13 = .ok (.invokestatic 80, 3) := by decide +kernel
theorem dL_circles_16 : decode cL_circles 16 = .ok (.bipush (-73), 2) := by decide +kernel
theorem dL_circles_18 : decode cL_circles 18 = .ok (.if_icmp .ne 251, 3) := by decide +kernel
theorem dL_circles_21 : decode cL_circles 21 = .ok (.aload_n 0, 1) := by decide +kernel
theorem dL_circles_22 : decode cL_circles 22 = .ok (.iconst 1, 1) := by decide +kernel
theorem dL_circles_23 : decode cL_circles 23 = .ok (.bipush 8, 2) := by decide +kernel
theorem dL_circles_25 : decode cL_circles 25 = .ok (.iconst 0, 1) := by decide +kernel
theorem dL_circles_26 : decode cL_circles 26 = .ok (.iconst 1, 1) := by decide +kernel
theorem dL_circles_27 : decode cL_circles 27 = .ok (.invokestatic 80, 3) := by decide +kernel
theorem dL_circles_30 : decode cL_circles 30 = .ok (.bipush (-73), 2) := by decide +kernel
theorem dL_circles_32 : decode cL_circles 32 = .ok (.if_icmp .ne 237, 3) := by decide +kernel
theorem dL_circles_35 : decode cL_circles 35 = .ok (.aload_n 0, 1) := by decide +kernel
theorem dL_circles_36 : decode cL_circles 36 = .ok (.iconst 0, 1) := by decide +kernel
theorem dL_circles_37 : decode cL_circles 37 = .ok (.sipush 1000, 3) := by decide +kernel
theorem dL_circles_40 : decode cL_circles 40 = .ok (.invokevirtual 19, 3) := by decide +kernel
theorem dL_circles_43 : decode cL_circles 43 = .ok (.ifCond .ne 226, 3) := by decide +kernel
theorem dL_circles_46 : decode cL_circles 46 = .ok (.aload_n 0, 1) := by decide +kernel
theorem dL_circles_47 : decode cL_circles 47 = .ok (.iconst 2, 1) := by decide +kernel
theorem dL_circles_48 : decode cL_circles 48 = .ok (.sipush 600, 3) := by decide +kernel
theorem dL_circles_51 : decode cL_circles 51 = .ok (.invokevirtual 19, 3) := by decide +kernel
theorem dL_circles_54 : decode cL_circles 54 = .ok (.ifCond .ne 215, 3) := by decide +kernel
theorem dL_circles_57 : decode cL_circles 57 = .ok (.aload_n 0, 1) := by decide +kernel
theorem dL_circles_58 : decode cL_circles 58 = .ok (.iconst 1, 1) := by decide +kernel
theorem dL_circles_59 : decode cL_circles 59 = .ok (.bipush 8, 2) := by decide +kernel
theorem dL_circles_61 : decode cL_circles 61 = .ok (.iconst 0, 1) := by decide +kernel
theorem dL_circles_62 : decode cL_circles 62 = .ok (.iconst 3, 1) := by decide +kernel
theorem dL_circles_63 : decode cL_circles 63 = .ok (.invokestatic 80, 3) := by decide +kernel
theorem dL_circles_66 : decode cL_circles 66 = .ok (.ifCond .ne 203, 3) := by decide +kernel
theorem dL_circles_69 : decode cL_circles 69 = .ok (.aload_n 0, 1) := by decide +kernel
theorem dL_circles_70 : decode cL_circles 70 = .ok (.iconst 3, 1) := by decide +kernel
theorem dL_circles_71 : decode cL_circles 71 = .ok (.iconst 2, 1) := by decide +kernel
theorem dL_circles_72 : decode cL_circles 72 = .ok (.iconst 2, 1) := by decide +kernel
theorem dL_circles_73 : decode cL_circles 73 = .ok (.iconst 1, 1) := by decide +kernel
theorem dL_circles_74 : decode cL_circles 74 = .ok (.invokestatic 80, 3) := by decide +kernel
theorem dL_circles_77 : decode cL_circles 77 = .ok (.ifCond .ne 192, 3) := by decide +kernel
theorem dL_circles_80 : decode cL_circles 80 = .ok (.aload_n 0, 1) := by decide +kernel
theorem dL_circles_81 : decode cL_circles 81 = .ok (.iconst 1, 1) := by decide +kernel
theorem dL_circles_82 : decode cL_circles 82 = .ok (.invokevirtual 27, 3) := by decide +kernel
theorem dL_circles_85 : decode cL_circles 85 = .ok (.sipush 300, 3) := by decide +kernel
theorem dL_circles_88 : decode cL_circles 88 = .ok (.if_icmp .ne 181, 3) := by decide +kernel
theorem dL_circles_91 : decode cL_circles 91 = .ok (.aload_n 0, 1) := by decide +kernel
theorem dL_circles_92 : decode cL_circles 92 = .ok (.iconst 3, 1) := by decide +kernel
theorem dL_circles_93 : decode cL_circles 93 = .ok (.invokevirtual 27, 3) := by decide +kernel
theorem dL_circles_96 : decode cL_circles 96 = .ok (.sipush 300, 3) := by decide +kernel
theorem dL_circles_99 : decode cL_circles 99 = .ok (.if_icmp .ne 170, 3) := by decide +kernel
theorem dL_circles_102 : decode cL_circles 102 = .ok (.aload_n 0, 1) := by decide +kernel
theorem dL_circles_103 : decode cL_circles 103 = .ok (.iconst 1, 1) := by decide +kernel
theorem dL_circles_104 : decode cL_circles 104 = .ok (.iconst 1, 1) := by decide +kernel
theorem dL_circles_105 : decode cL_circles 105 = .ok (.invokevirtual 33, 3) := by decide +kernel
theorem dL_circles_108 : decode cL_circles 108 = .ok (.ifCond .eq 161, 3) := by decide +kernel
theorem dL_circles_111 : decode cL_circles 111 = .ok (.aload_n 0, 1) := by decide +kernel
theorem dL_circles_112 : decode cL_circles 112 = .ok (.iconst 3, 1) := by decide +kernel
theorem dL_circles_113 : decode cL_circles 113 = .ok (.iconst 3, 1) := by decide +kernel
theorem dL_circles_114 : decode cL_circles 114 = .ok (.invokevirtual 33, 3) := by decide +kernel
theorem dL_circles_117 : decode cL_circles 117 = .ok (.ifCond .eq 152, 3) := by decide +kernel
theorem dL_circles_120 : decode cL_circles 120 = .ok (.aload_n 0, 1) := by decide +kernel
theorem dL_circles_121 : decode cL_circles 121 = .ok (.iconst 1, 1) := by decide +kernel
theorem dL_circles_122 : decode cL_circles 122 = .ok (.iconst 0, 1) := by decide +kernel
theorem dL_circles_123 : decode cL_circles 123 = .ok (.invokevirtual 30, 3) := by decide +kernel
theorem dL_circles_126 : decode cL_circles 126 = .ok (.sipush 600, 3) := by decide +kernel
theorem dL_circles_129 : decode cL_circles 129 = .ok (.if_icmp .ne 140, 3) := by decide +kernel
theorem dL_circles_132 : decode cL_circles 132 = .ok (.aload_n 0, 1) := by decide +kernel
theorem dL_circles_133 : decode cL_circles 133 = .ok (.iconst 1, 1) := by decide +kernel
theorem dL_circles_134 : decode cL_circles 134 = .ok (.sipush 301, 3) := by decide +kernel
theorem dL_circles_137 : decode cL_circles 137 = .ok (.invokevirtual 30, 3) := by decide +kernel
theorem dL_circles_140 : decode cL_circles 140 = .ok (.sipush 299, 3) := by decide +kernel
theorem dL_circles_143 : decode cL_circles 143 = .ok (.if_icmp .ne 126, 3) := by decide +kernel
theorem dL_circles_146 : decode cL_circles 146 = .ok (.aload_n 0, 1) := by decide +kernel
theorem dL_circles_147 : decode cL_circles 147 = .ok (.iconst 1, 1) := by decide +kernel
theorem dL_circles_148 : decode cL_circles 148 = .ok (.ldc 90, 2) := by decide +kernel
theorem dL_circles_150 : decode cL_circles 150 = .ok (.invokevirtual 30, 3) := by decide +kernel
theorem dL_circles_153 : decode cL_circles 153 = .ok (.ifCond .ne 116, 3) := by decide +kernel
theorem dL_circles_156 : decode cL_circles 156 = .ok (.aload_n 0, 1) := by decide +kernel
theorem dL_circles_157 : decode cL_circles 157 = .ok (.iconst 2, 1) := by decide +kernel
theorem dL_circles_158 : decode cL_circles 158 = .ok (.sipush 601, 3) := by decide +kernel
theorem dL_circles_161 : decode cL_circles 161 = .ok (.invokevirtual 19, 3) := by decide +kernel
theorem dL_circles_164 : decode cL_circles 164 = .ok (.sipush 600, 3) := by decide +kernel
theorem dL_circles_167 : decode cL_circles 167 = .ok (.if_icmp .ne 102, 3) := by decide +kernel
theorem dL_circles_170 : decode cL_circles 170 = .ok (.aload_n 0, 1) := by decide +kernel
theorem dL_circles_171 : decode cL_circles 171 = .ok (.iconst 1, 1) := by decide +kernel
theorem dL_circles_172 : decode cL_circles 172 = .ok (.invokevirtual 27, 3) := by decide +kernel
theorem dL_circles_175 : decode cL_circles 175 = .ok (.sipush 300, 3) := by decide +kernel
theorem dL_circles_178 : decode cL_circles 178 = .ok (.if_icmp .ne 91, 3) := by decide +kernel
theorem dL_circles_181 : decode cL_circles 181 = .ok (.aload_n 0, 1) := by decide +kernel
theorem dL_circles_182 : decode cL_circles 182 = .ok (.iconst 3, 1) := by decide +kernel
theorem dL_circles_183 : decode cL_circles 183 = .ok (.invokevirtual 27, 3) := by decide +kernel
theorem dL_circles_186 : decode cL_circles 186 = .ok (.sipush 301, 3) := by decide +kernel
theorem dL_circles_189 : decode cL_circles 189 = .ok (.if_icmp .ne 80, 3) := by decide +kernel
theorem dL_circles_192 : decode cL_circles 192 = .ok (.aload_n 0, 1) := by decide +kernel
theorem dL_circles_193 : decode cL_circles 193 = .ok (.iconst 2, 1) := by decide +kernel
theorem dL_circles_194 : decode cL_circles 194 = .ok (.sipush 700, 3) := by decide +kernel
theorem dL_circles_197 : decode cL_circles 197 = .ok (.invokevirtual 19, 3) := by decide +kernel
theorem dL_circles_200 : decode cL_circles 200 = .ok (.sipush 601, 3) := by decide +kernel
theorem dL_circles_203 : decode cL_circles 203 = .ok (.if_icmp .ne 66, 3) := by decide +kernel
theorem dL_circles_206 : decode cL_circles 206 = .ok (.aload_n 0, 1) := by decide +kernel
theorem dL_circles_207 : decode cL_circles 207 = .ok (.iconst 0, 1) := by decide +kernel
theorem dL_circles_208 : decode cL_circles 208 = .ok (.sipush 200, 3) := by decide +kernel
theorem dL_circles_211 : decode cL_circles 211 = .ok (.invokevirtual 19, 3) := by decide +kernel
theorem dL_circles_214 : decode cL_circles 214 = .ok (.sipush 1000, 3) := by decide +kernel
theorem dL_circles_217 : decode cL_circles 217 = .ok (.if_icmp .ne 52, 3) := by decide +kernel
theorem dL_circles_220 : decode cL_circles 220 = .ok (.aload_n 0, 1) := by decide +kernel
theorem dL_circles_221 : decode cL_circles 221 = .ok (.iconst 1, 1) := by decide +kernel
theorem dL_circles_222 : decode cL_circles 222 = .ok (.invokevirtual 27, 3) := by decide +kernel
theorem dL_circles_225 : decode cL_circles 225 = .ok (.sipush 200, 3) := by decide +kernel
theorem dL_circles_228 : decode cL_circles 228 = .ok (.if_icmp .ne 41, 3) := by decide +kernel
theorem dL_circles_231 : decode cL_circles 231 = .ok (.aload_n 0, 1) := by decide +kernel
theorem dL_circles_232 : decode cL_circles 232 = .ok (.iconst 3, 1) := by decide +kernel
theorem dL_circles_233 : decode cL_circles 233 = .ok (.invokevirtual 27, 3) := by decide +kernel
theorem dL_circles_236 : decode cL_circles 236 = .ok (.sipush 500, 3) := by decide +kernel
theorem dL_circles_239 : decode cL_circles 239 = .ok (.if_icmp .ne 30, 3) := by decide +kernel
theorem dL_circles_242 : decode cL_circles 242 = .ok (.aload_n 0, 1) := by decide +kernel
theorem dL_circles_243 : decode cL_circles 243 = .ok (.iconst 1, 1) := by decide +kernel
theorem dL_circles_244 : decode cL_circles 244 = .ok (.iconst 1, 1) := by decide +kernel
theorem dL_circles_245 : decode cL_circles 245 = .ok (.invokevirtual 40, 3) := by decide +kernel
theorem dL_circles_248 : decode cL_circles 248 = .ok (.ifCond .ne 21, 3) := by decide +kernel
theorem dL_circles_251 : decode cL_circles 251 = .ok (.aload_n 0, 1) := by decide +kernel
theorem dL_circles_252 : decode cL_circles 252 = .ok (.iconst 2, 1) := by decide +kernel
theorem dL_circles_253 : decode cL_circles 253 = .ok (.invokevirtual 37, 3) := by decide +kernel
theorem dL_circles_256 : decode cL_circles 256 = .ok (.iconst 2, 1) := by decide +kernel
theorem dL_circles_257 : decode cL_circles 257 = .ok (.if_icmp .ne 12, 3) := by decide +kernel
theorem dL_circles_260 : decode cL_circles 260 = .ok (.aload_n 0, 1) := by decide +kernel
theorem dL_circles_261 : decode cL_circles 261 = .ok (.iconst 0, 1) := by decide +kernel
theorem dL_circles_262 : decode cL_circles 262 = .ok (.invokevirtual 37, 3) := by decide +kernel
theorem dL_circles_265 : decode cL_circles 265 = .ok (.iconst 3, 1) := by decide +kernel
theorem dL_circles_266 : decode cL_circles 266 = .ok (.if_icmp .eq 5, 3) := by decide +kernel
theorem dL_circles_269 : decode cL_circles 269 = .ok (.iconst 0, 1) := by decide +kernel
theorem dL_circles_270 : decode cL_circles 270 = .ok (.ireturn, 1) := by decide +kernel
theorem dL_circles_271 : decode cL_circles 271 = .ok (.aload_n 0, 1) := by decide +kernel
theorem dL_circles_272 : decode cL_circles 272 = .ok (.iconst 3, 1) := by decide +kernel
theorem dL_circles_273 : decode cL_circles 273 = .ok (.iconst 1, 1) := by decide +kernel
theorem dL_circles_274 : decode cL_circles 274 = .ok (.iconst 2, 1) := by decide +kernel
theorem dL_circles_275 : decode cL_circles 275 = .ok (.iconst 1, 1) := by decide +kernel
theorem dL_circles_276 : decode cL_circles 276 = .ok (.invokestatic 80, 3) := by decide +kernel
theorem dL_circles_279 : decode cL_circles 279 = .ok (.bipush (-73), 2) := by decide +kernel
theorem dL_circles_281 : decode cL_circles 281 = .ok (.if_icmp .ne 219, 3) := by decide +kernel
theorem dL_circles_284 : decode cL_circles 284 = .ok (.aload_n 0, 1) := by decide +kernel
theorem dL_circles_285 : decode cL_circles 285 = .ok (.iconst 3, 1) := by decide +kernel
theorem dL_circles_286 : decode cL_circles 286 = .ok (.invokevirtual 23, 3) := by decide +kernel
theorem dL_circles_289 : decode cL_circles 289 = .ok (.iconst 2, 1) := by decide +kernel
theorem dL_circles_290 : decode cL_circles 290 = .ok (.if_icmp .ne 210, 3) := by decide +kernel
theorem dL_circles_293 : decode cL_circles 293 = .ok (.aload_n 0, 1) := by decide +kernel
theorem dL_circles_294 : decode cL_circles 294 = .ok (.iconst 3, 1) := by decide +kernel
theorem dL_circles_295 : decode cL_circles 295 = .ok (.iconst 2, 1) := by decide +kernel
theorem dL_circles_296 : decode cL_circles 296 = .ok (.iconst 1, 1) := by decide +kernel
theorem dL_circles_297 : decode cL_circles 297 = .ok (.iconst 2, 1) := by decide +kernel
theorem dL_circles_298 : decode cL_circles 298 = .ok (.invokestatic 80, 3) := by decide +kernel
theorem dL_circles_301 : decode cL_circles 301 = .ok (.bipush (-73), 2) := by decide +kernel
theorem dL_circles_303 : decode cL_circles 303 = .ok (.if_icmp .ne 197, 3) := by decide +kernel
theorem dL_circles_306 : decode cL_circles 306 = .ok (.aload_n 0, 1) := by decide +kernel
theorem dL_circles_307 : decode cL_circles 307 = .ok (.iconst 3, 1) := by decide +kernel
theorem dL_circles_308 : decode cL_circles 308 = .ok (.iconst 2, 1) := by decide +kernel
theorem dL_circles_309 : decode cL_circles 309 = .ok (.iconst 1, 1) := by decide +kernel
theorem dL_circles_310 : decode cL_circles 310 = .ok (.iconst 1, 1) := by decide +kernel
theorem dL_circles_311 : decode cL_circles 311 = .ok (.invokestatic 80, 3) := by decide +kernel
theorem dL_circles_314 : decode cL_circles 314 = .ok (.bipush (-73), 2) := by decide +kernel
theorem dL_circles_316 : decode cL_circles 316 = .ok (.if_icmp .ne 184, 3) := by decide +kernel
theorem dL_circles_319 : decode cL_circles 319 = .ok (.aload_n 0, 1) := by decide +kernel
theorem dL_circles_320 : decode cL_circles 320 = .ok (.iconst 3, 1) := by decide +kernel
theorem dL_circles_321 : decode cL_circles 321 = .ok (.bipush 8, 2) := by decide +kernel
theorem dL_circles_323 : decode cL_circles 323 = .ok (.iconst 2, 1) := by decide +kernel
theorem dL_circles_324 : decode cL_circles 324 = .ok (.iconst 1, 1) := by decide +kernel
theorem dL_circles_325 : decode cL_circles 325 = .ok (.invokestatic 80, 3) := by decide +kernel
theorem dL_circles_328 : decode cL_circles 328 = .ok (.bipush (-73), 2) := by decide +kernel
theorem dL_circles_330 : decode cL_circles 330 = .ok (.if_icmp .ne 170, 3) := by decide +kernel
theorem dL_circles_333 : decode cL_circles 333 = .ok (.aload_n 0, 1) := by decide +kernel
theorem dL_circles_334 : decode cL_circles 334 = .ok (.iconst 1, 1) := by decide +kernel
theorem dL_circles_335 : decode cL_circles 335 = .ok (.bipush 8, 2) := by decide +kernel
theorem dL_circles_337 : decode cL_circles 337 = .ok (.iconst 3, 1) := by decide +kernel
theorem dL_circles_338 : decode cL_circles 338 = .ok (.iconst 3, 1) := by decide +kernel
theorem dL_circles_339 : decode cL_circles 339 = .ok (.invokestatic 80, 3) := by decide +kernel
theorem dL_circles_342 : decode cL_circles 342 = .ok (.bipush (-73), 2) := by decide +kernel
theorem dL_circles_344 : decode cL_circles 344 = .ok (.if_icmp .ne 156, 3) := by decide +kernel
theorem dL_circles_347 : decode cL_circles 347 = .ok (.aload_n 0, 1) := by decide +kernel
theorem dL_circles_348 : decode cL_circles 348 = .ok (.iconst 1, 1) := by decide +kernel
theorem dL_circles_349 : decode cL_circles 349 = .ok (.iconst 1, 1) := by decide +kernel
theorem dL_circles_350 : decode cL_circles 350 = .ok (.iconst 0, 1) := by decide +kernel
theorem dL_circles_351 : decode cL_circles 351 = .ok (.iconst 3, 1) := by decide +kernel
theorem dL_circles_352 : decode cL_circles 352 = .ok (.invokestatic 80, 3) := by decide +kernel
theorem dL_circles_355 : decode cL_circles 355 = .ok (.bipush (-73), 2) := by decide +kernel
theorem dL_circles_357 : decode cL_circles 357 = .ok (.if_icmp .ne 143, 3) := by decide +kernel
theorem dL_circles_360 : decode cL_circles 360 = .ok (.aload_n 0, 1) := by decide +kernel
theorem dL_circles_361 : decode cL_circles 361 = .ok (.iconst 4, 1) := by decide +kernel
theorem dL_circles_362 : decode cL_circles 362 = .ok (.iconst 3, 1) := by decide +kernel
theorem dL_circles_363 : decode cL_circles 363 = .ok (.iconst 1, 1) := by decide +kernel
theorem dL_circles_364 : decode cL_circles 364 = .ok (.sipush 500, 3) := by decide +kernel
theorem dL_circles_367 : decode cL_circles 367 = .ok (.invokestatic 80, 3) := by decide +kernel
theorem dL_circles_370 : decode cL_circles 370 = .ok (.ifCond .ne 130, 3) := by decide +kernel
theorem dL_circles_373 : decode cL_circles 373 = .ok (.aload_n 0, 1) := by decide +kernel
theorem dL_circles_374 : decode cL_circles 374 = .ok (.iconst 5, 1) := by decide +kernel
theorem dL_circles_375 : decode cL_circles 375 = .ok (.iconst 1, 1) := by decide +kernel
theorem dL_circles_376 : decode cL_circles 376 = .ok (.iconst 4, 1) := by decide +kernel
theorem dL_circles_377 : decode cL_circles 377 = .ok (.iconst 1, 1) := by decide +kernel
theorem dL_circles_378 : decode cL_circles 378 = .ok (.invokestatic 80, 3) := by decide +kernel
theorem dL_circles_381 : decode cL_circles 381 = .ok (.ifCond .ne 119, 3) := by decide +kernel
theorem dL_circles_384 : decode cL_circles 384 = .ok (.aload_n 0, 1) := by decide +kernel
theorem dL_circles_385 : decode cL_circles 385 = .ok (.iconst 3, 1) := by decide +kernel
theorem dL_circles_386 : decode cL_circles 386 = .ok (.iconst 2, 1) := by decide +kernel
theorem dL_circles_387 : decode cL_circles 387 = .ok (.iconst 2, 1) := by decide +kernel
theorem dL_circles_388 : decode cL_circles 388 = .ok (.iconst 5, 1) := by decide +kernel
theorem dL_circles_389 : decode cL_circles 389 = .ok (.invokestatic 80, 3) := by decide +kernel
theorem dL_circles_392 : decode cL_circles 392 = .ok (.ifCond .ne 108, 3) := by decide +kernel
theorem dL_circles_395 : decode cL_circles 395 = .ok (.aload_n 0, 1) := by decide +kernel
theorem dL_circles_396 : decode cL_circles 396 = .ok (.iconst 0, 1) := by decide +kernel
theorem dL_circles_397 : decode cL_circles 397 = .ok (.ldc 99, 2) := by decide +kernel
theorem dL_circles_399 : decode cL_circles 399 = .ok (.invokevirtual 19, 3) := by decide +kernel
theorem dL_circles_402 : decode cL_circles 402 = .ok (.sipush 200, 3) := by decide +kernel
theorem dL_circles_405 : decode cL_circles 405 = .ok (.if_icmp .ne 95, 3) := by decide +kernel
theorem dL_circles_408 : decode cL_circles 408 = .ok (.aload_n 0, 1) := by decide +kernel
theorem dL_circles_409 : decode cL_circles 409 = .ok (.iconst 1, 1) := by decide +kernel
theorem dL_circles_410 : decode cL_circles 410 = .ok (.invokevirtual 27, 3) := by decide +kernel
theorem dL_circles_413 : decode cL_circles 413 = .ok (.sipush 280, 3) := by decide +kernel
theorem dL_circles_416 : decode cL_circles 416 = .ok (.if_icmp .ne 84, 3) := by decide +kernel
theorem dL_circles_419 : decode cL_circles 419 = .ok (.aload_n 0, 1) := by decide +kernel
theorem dL_circles_420 : decode cL_circles 420 = .ok (.iconst 4, 1) := by decide +kernel
theorem dL_circles_421 : decode cL_circles 421 = .ok (.invokevirtual 27, 3) := by decide +kernel
theorem dL_circles_424 : decode cL_circles 424 = .ok (.sipush 140, 3) := by decide +kernel
theorem dL_circles_427 : decode cL_circles 427 = .ok (.if_icmp .ne 73, 3) := by decide +kernel
theorem dL_circles_430 : decode cL_circles 430 = .ok (.aload_n 0, 1) := by decide +kernel
theorem dL_circles_431 : decode cL_circles 431 = .ok (.iconst 5, 1) := by decide +kernel
theorem dL_circles_432 : decode cL_circles 432 = .ok (.invokevirtual 27, 3) := by decide +kernel
theorem dL_circles_435 : decode cL_circles 435 = .ok (.sipush 420, 3) := by decide +kernel
theorem dL_circles_438 : decode cL_circles 438 = .ok (.if_icmp .ne 62, 3) := by decide +kernel
theorem dL_circles_441 : decode cL_circles 441 = .ok (.aload_n 0, 1) := by decide +kernel
theorem dL_circles_442 : decode cL_circles 442 = .ok (.iconst 3, 1) := by decide +kernel
theorem dL_circles_443 : decode cL_circles 443 = .ok (.invokevirtual 27, 3) := by decide +kernel
theorem dL_circles_446 : decode cL_circles 446 = .ok (.sipush 280, 3) := by decide +kernel
theorem dL_circles_449 : decode cL_circles 449 = .ok (.if_icmp .ne 51, 3) := by decide +kernel
theorem dL_circles_452 : decode cL_circles 452 = .ok (.aload_n 0, 1) := by decide +kernel
theorem dL_circles_453 : decode cL_circles 453 = .ok (.bipush 6, 2) := by decide +kernel
theorem dL_circles_455 : decode cL_circles 455 = .ok (.iconst 2, 1) := by decide +kernel
theorem dL_circles_456 : decode cL_circles 456 = .ok (.iconst 2, 1) := by decide +kernel
theorem dL_circles_457 : decode cL_circles 457 = .ok (.iconst 4, 1) := by decide +kernel
theorem dL_circles_458 : decode cL_circles 458 = .ok (.invokestatic 80, 3) := by decide +kernel
theorem dL_circles_461 : decode cL_circles 461 = .ok (.ifCond .ne 39, 3) := by decide +kernel
theorem dL_circles_464 : decode cL_circles 464 = .ok (.aload_n 0, 1) := by decide +kernel
theorem dL_circles_465 : decode cL_circles 465 = .ok (.iconst 5, 1) := by decide +kernel
theorem dL_circles_466 : decode cL_circles 466 = .ok (.iconst 1, 1) := by decide +kernel
theorem dL_circles_467 : decode cL_circles 467 = .ok (.bipush 6, 2) := by decide +kernel
theorem dL_circles_469 : decode cL_circles 469 = .ok (.iconst 1, 1) := by decide +kernel
theorem dL_circles_470 : decode cL_circles 470 = .ok (.invokestatic 80, 3) := by decide +kernel
theorem dL_circles_473 : decode cL_circles 473 = .ok (.bipush (-73), 2) := by decide +kernel
theorem dL_circles_475 : decode cL_circles 475 = .ok (.if_icmp .ne 25, 3) := by decide +kernel
theorem dL_circles_478 : decode cL_circles 478 = .ok (.aload_n 0, 1) := by decide +kernel
theorem dL_circles_479 : decode cL_circles 479 = .ok (.iconst 4, 1) := by decide +kernel
theorem dL_circles_480 : decode cL_circles 480 = .ok (.iconst 3, 1) := by decide +kernel
theorem dL_circles_481 : decode cL_circles 481 = .ok (.iconst 3, 1) := by decide +kernel
theorem dL_circles_482 : decode cL_circles 482 = .ok (.sipush 500, 3) := by decide +kernel
theorem dL_circles_485 : decode cL_circles 485 = .ok (.invokestatic 80, 3) := by decide +kernel
theorem dL_circles_488 : decode cL_circles 488 = .ok (.bipush (-73), 2) := by decide +kernel
theorem dL_circles_490 : decode cL_circles 490 = .ok (.if_icmp .ne 10, 3) := by decide +kernel
theorem dL_circles_493 : decode cL_circles 493 = .ok (.aload_n 0, 1) := by decide +kernel
theorem dL_circles_494 : decode cL_circles 494 = .ok (.invokestatic 94, 3) := by decide +kernel
theorem dL_circles_497 : decode cL_circles 497 = .ok (.ifCond .ne 5, 3) := by decide +kernel
theorem dL_circles_500 : decode cL_circles 500 = .ok (.iconst 0, 1) := by decide +kernel
theorem dL_circles_501 : decode cL_circles 501 = .ok (.ireturn, 1) := by decide +kernel
theorem dL_circles_502 : decode cL_circles 502 = .ok (.aload_n 0, 1) := by decide +kernel
theorem dL_circles_503 : decode cL_circles 503 = .ok (.iconst 0, 1) := by decide +kernel
theorem dL_circles_504 : decode cL_circles 504 = .ok (.sipush 500, 3) := by decide +kernel
theorem dL_circles_507 : decode cL_circles 507 = .ok (.invokevirtual 43, 3) := by decide +kernel
theorem dL_circles_510 : decode cL_circles 510 = .ok (.iconst 1, 1) := by decide +kernel
theorem dL_circles_511 : decode cL_circles 511 = .ok (.if_icmp .ne 230, 3) := by decide +kernel
theorem dL_circles_514 : decode cL_circles 514 = .ok (.aload_n 0, 1) := by decide +kernel
theorem dL_circles_515 : decode cL_circles 515 = .ok (.bipush 7, 2) := by decide +kernel
theorem dL_circles_517 : decode cL_circles 517 = .ok (.bipush 8, 2) := by decide +kernel
theorem dL_circles_519 : decode cL_circles 519 = .ok (.bipush 8, 2) := by decide +kernel
theorem dL_circles_521 : decode cL_circles 521 = .ok (.bipush 9, 2) := by decide +kernel
theorem dL_circles_523 : decode cL_circles 523 = .ok (.invokestatic 80, 3) := by decide +kernel
theorem dL_circles_526 : decode cL_circles 526 = .ok (.ifCond .ne 215, 3) := by decide +kernel
theorem dL_circles_529 : decode cL_circles 529 = .ok (.aload_n 0, 1) := by decide +kernel
theorem dL_circles_530 : decode cL_circles 530 = .ok (.bipush 8, 2) := by decide +kernel
theorem dL_circles_532 : decode cL_circles 532 = .ok (.iconst 0, 1) := by decide +kernel
theorem dL_circles_533 : decode cL_circles 533 = .ok (.iconst 0, 1) := by decide +kernel
theorem dL_circles_534 : decode cL_circles 534 = .ok (.iconst 0, 1) := by decide +kernel
theorem dL_circles_535 : decode cL_circles 535 = .ok (.invokestatic 80, 3) := by decide +kernel
theorem dL_circles_538 : decode cL_circles 538 = .ok (.ifCond .ne 203, 3) := by decide +kernel
theorem dL_circles_541 : decode cL_circles 541 = .ok (.aload_n 0, 1) := by decide +kernel
theorem dL_circles_542 : decode cL_circles 542 = .ok (.bipush 8, 2) := by decide +kernel
theorem dL_circles_544 : decode cL_circles 544 = .ok (.sipush 10000, 3) := by decide +kernel
theorem dL_circles_547 : decode cL_circles 547 = .ok (.invokevirtual 19, 3) := by decide +kernel
theorem dL_circles_550 : decode cL_circles 550 = .ok (.ifCond .ne 191, 3) := by decide +kernel
theorem dL_circles_553 : decode cL_circles 553 = .ok (.aload_n 0, 1) := by decide +kernel
theorem dL_circles_554 : decode cL_circles 554 = .ok (.bipush 10, 2) := by decide +kernel
theorem dL_circles_556 : decode cL_circles 556 = .ok (.iconst 2, 1) := by decide +kernel
theorem dL_circles_557 : decode cL_circles 557 = .ok (.iconst 1, 1) := by decide +kernel
theorem dL_circles_558 : decode cL_circles 558 = .ok (.bipush 7, 2) := by decide +kernel
theorem dL_circles_560 : decode cL_circles 560 = .ok (.invokestatic 80, 3) := by decide +kernel
theorem dL_circles_563 : decode cL_circles 563 = .ok (.ifCond .ne 178, 3) := by decide +kernel
theorem dL_circles_566 : decode cL_circles 566 = .ok (.aload_n 0, 1) := by decide +kernel
theorem dL_circles_567 : decode cL_circles 567 = .ok (.bipush 9, 2) := by decide +kernel
theorem dL_circles_569 : decode cL_circles 569 = .ok (.bipush 6, 2) := by decide +kernel
theorem dL_circles_571 : decode cL_circles 571 = .ok (.bipush 10, 2) := by decide +kernel
theorem dL_circles_573 : decode cL_circles 573 = .ok (.iconst 0, 1) := by decide +kernel
theorem dL_circles_574 : decode cL_circles 574 = .ok (.invokestatic 80, 3) := by decide +kernel
theorem dL_circles_577 : decode cL_circles 577 = .ok (.ifCond .ne 164, 3) := by decide +kernel
theorem dL_circles_580 : decode cL_circles 580 = .ok (.aload_n 0, 1) := by decide +kernel
theorem dL_circles_581 : decode cL_circles 581 = .ok (.bipush 7, 2) := by decide +kernel
theorem dL_circles_583 : decode cL_circles 583 = .ok (.invokevirtual 27, 3) := by decide +kernel
theorem dL_circles_586 : decode cL_circles 586 = .ok (.bipush 93, 2) := by decide +kernel
theorem dL_circles_588 : decode cL_circles 588 = .ok (.if_icmp .ne 153, 3) := by decide +kernel
theorem dL_circles_591 : decode cL_circles 591 = .ok (.aload_n 0, 1) := by decide +kernel
theorem dL_circles_592 : decode cL_circles 592 = .ok (.bipush 10, 2) := by decide +kernel
theorem dL_circles_594 : decode cL_circles 594 = .ok (.invokevirtual 27, 3) := by decide +kernel
theorem dL_circles_597 : decode cL_circles 597 = .ok (.sipush 187, 3) := by decide +kernel
theorem dL_circles_600 : decode cL_circles 600 = .ok (.if_icmp .ne 141, 3) := by decide +kernel
theorem dL_circles_603 : decode cL_circles 603 = .ok (.aload_n 0, 1) := by decide +kernel
theorem dL_circles_604 : decode cL_circles 604 = .ok (.bipush 9, 2) := by decide +kernel
theorem dL_circles_606 : decode cL_circles 606 = .ok (.invokevirtual 27, 3) := by decide +kernel
theorem dL_circles_609 : decode cL_circles 609 = .ok (.bipush 93, 2) := by decide +kernel
theorem dL_circles_611 : decode cL_circles 611 = .ok (.if_icmp .ne 130, 3) := by decide +kernel
theorem dL_circles_614 : decode cL_circles 614 = .ok (.aload_n 0, 1) := by decide +kernel
theorem dL_circles_615 : decode cL_circles 615 = .ok (.bipush 7, 2) := by decide +kernel
theorem dL_circles_617 : decode cL_circles 617 = .ok (.bipush 94, 2) := by decide +kernel
theorem dL_circles_619 : decode cL_circles 619 = .ok (.invokevirtual 30, 3) := by decide +kernel
theorem dL_circles_622 : decode cL_circles 622 = .ok (.bipush 93, 2) := by decide +kernel
theorem dL_circles_624 : decode cL_circles 624 = .ok (.if_icmp .ne 117, 3) := by decide +kernel
theorem dL_circles_627 : decode cL_circles 627 = .ok (.aload_n 0, 1) := by decide +kernel
theorem dL_circles_628 : decode cL_circles 628 = .ok (.bipush 7, 2) := by decide +kernel
theorem dL_circles_630 : decode cL_circles 630 = .ok (.iconst 0, 1) := by decide +kernel
theorem dL_circles_631 : decode cL_circles 631 = .ok (.invokevirtual 30, 3) := by decide +kernel
theorem dL_circles_634 : decode cL_circles 634 = .ok (.sipush 140, 3) := by decide +kernel
theorem dL_circles_637 : decode cL_circles 637 = .ok (.if_icmp .ne 104, 3) := by decide +kernel
theorem dL_circles_640 : decode cL_circles 640 = .ok (.aload_n 0, 1) := by decide +kernel
theorem dL_circles_641 : decode cL_circles 641 = .ok (.bipush 7, 2) := by decide +kernel
theorem dL_circles_643 : decode cL_circles 643 = .ok (.iconst 1, 1) := by decide +kernel
theorem dL_circles_644 : decode cL_circles 644 = .ok (.invokevirtual 33, 3) := by decide +kernel
theorem dL_circles_647 : decode cL_circles 647 = .ok (.ifCond .eq 94, 3) := by decide +kernel
theorem dL_circles_650 : decode cL_circles 650 = .ok (.aload_n 0, 1) := by decide +kernel
theorem dL_circles_651 : decode cL_circles 651 = .ok (.iconst 1, 1) := by decide +kernel
theorem dL_circles_652 : decode cL_circles 652 = .ok (.bipush 7, 2) := by decide +kernel
theorem dL_circles_654 : decode cL_circles 654 = .ok (.invokevirtual 33, 3) := by decide +kernel
theorem dL_circles_657 : decode cL_circles 657 = .ok (.ifCond .ne 84, 3) := by decide +kernel
theorem dL_circles_660 : decode cL_circles 660 = .ok (.aload_n 0, 1) := by decide +kernel
theorem dL_circles_661 : decode cL_circles 661 = .ok (.bipush 7, 2) := by decide +kernel
theorem dL_circles_663 : decode cL_circles 663 = .ok (.iconst 1, 1) := by decide +kernel
theorem dL_circles_664 : decode cL_circles 664 = .ok (.invokevirtual 40, 3) := by decide +kernel
theorem dL_circles_667 : decode cL_circles 667 = .ok (.bipush 9, 2) := by decide +kernel
theorem dL_circles_669 : decode cL_circles 669 = .ok (.if_icmp .ne 72, 3) := by decide +kernel
theorem dL_circles_672 : decode cL_circles 672 = .ok (.aload_n 0, 1) := by decide +kernel
theorem dL_circles_673 : decode cL_circles 673 = .ok (.bipush 7, 2) := by decide +kernel
theorem dL_circles_675 : decode cL_circles 675 = .ok (.iconst 2, 1) := by decide +kernel
theorem dL_circles_676 : decode cL_circles 676 = .ok (.invokevirtual 40, 3) := by decide +kernel
theorem dL_circles_679 : decode cL_circles 679 = .ok (.bipush 10, 2) := by decide +kernel
theorem dL_circles_681 : decode cL_circles 681 = .ok (.if_icmp .ne 60, 3) := by decide +kernel
theorem dL_circles_684 : decode cL_circles 684 = .ok (.aload_n 0, 1) := by decide +kernel
theorem dL_circles_685 : decode cL_circles 685 = .ok (.bipush 7, 2) := by decide +kernel
theorem dL_circles_687 : decode cL_circles 687 = .ok (.iconst 3, 1) := by decide +kernel
theorem dL_circles_688 : decode cL_circles 688 = .ok (.invokevirtual 40, 3) := by decide +kernel
theorem dL_circles_691 : decode cL_circles 691 = .ok (.iconst 1, 1) := by decide +kernel
theorem dL_circles_692 : decode cL_circles 692 = .ok (.if_icmp .ne 49, 3) := by decide +kernel
theorem dL_circles_695 : decode cL_circles 695 = .ok (.aload_n 0, 1) := by decide +kernel
theorem dL_circles_696 : decode cL_circles 696 = .ok (.bipush 7, 2) := by decide +kernel
theorem dL_circles_698 : decode cL_circles 698 = .ok (.iconst 4, 1) := by decide +kernel
theorem dL_circles_699 : decode cL_circles 699 = .ok (.invokevirtual 40, 3) := by decide +kernel
theorem dL_circles_702 : decode cL_circles 702 = .ok (.iconst 3, 1) := by decide +kernel
theorem dL_circles_703 : decode cL_circles 703 = .ok (.if_icmp .ne 38, 3) := by decide +kernel
theorem dL_circles_706 : decode cL_circles 706 = .ok (.aload_n 0, 1) := by decide +kernel
theorem dL_circles_707 : decode cL_circles 707 = .ok (.bipush 7, 2) := by decide +kernel
theorem dL_circles_709 : decode cL_circles 709 = .ok (.bipush 7, 2) := by decide +kernel
theorem dL_circles_711 : decode cL_circles 711 = .ok (.invokevirtual 40, 3) := by decide +kernel
theorem dL_circles_714 : decode cL_circles 714 = .ok (.iconst 4, 1) := by decide +kernel
theorem dL_circles_715 : decode cL_circles 715 = .ok (.if_icmp .ne 26, 3) := by decide +kernel
theorem dL_circles_718 : decode cL_circles 718 = .ok (.aload_n 0, 1) := by decide +kernel
theorem dL_circles_719 : decode cL_circles 719 = .ok (.bipush 7, 2) := by decide +kernel
theorem dL_circles_721 : decode cL_circles 721 = .ok (.bipush 8, 2) := by decide +kernel
theorem dL_circles_723 : decode cL_circles 723 = .ok (.invokevirtual 40, 3) := by decide +kernel
theorem dL_circles_726 : decode cL_circles 726 = .ok (.iconst (-1), 1) := by decide +kernel
theorem dL_circles_727 : decode cL_circles 727 = .ok (.if_icmp .ne 14, 3) := by decide +kernel
theorem dL_circles_730 : decode cL_circles 730 = .ok (.aload_n 0, 1) := by decide +kernel
theorem dL_circles_731 : decode cL_circles 731 = .ok (.invokestatic 94, 3) := by decide +kernel
theorem dL_circles_734 : decode cL_circles 734 = .ok (.ifCond .eq 7, 3) := by decide +kernel
theorem dL_circles_737 : decode cL_circles 737 = .ok (.iconst 1, 1) := by decide +kernel
theorem dL_circles_738 : decode cL_circles 738 = .ok (.goto 4, 3) := by decide +kernel
theorem dL_circles_741 : decode cL_circles 741 = .ok (.iconst 0, 1) := by decide +kernel
theorem dL_circles_742 : decode cL_circles 742 = .ok (.ireturn, 1) := by decide +kernel
