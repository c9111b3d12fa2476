theorem dL_years_0 : decode cL_years 0 = .ok (.new 8, 3) := by decide +kernel
theorem dL_years_3 : decode cL_years 3 = .ok (.dup, 1) := by decide +kernel
theorem dL_years_4 : decode cL_years 4 = .ok (.invokespecial 89, 3) := by decide +kernel
theorem dL_years_7 : decode cL_years 7 = .ok (.astore_n 0, 1) := by decide +kernel
theorem dL_years_8 : decode cL_years 8 = .ok (.aload_n 0, 1) := by decide +kernel
theorem dL_years_9 : decode cL_years 9 = .ok (.bipush 50, 2) := by decide +kernel
theorem dL_years_11 : decode cL_years 11 = .ok (.iconst 3, 1) := by decide +kernel
theorem dL_years_12 : decode cL_years 12 = .ok (.invokevirtual 49, 3) := by decide +kernel
theorem dL_years_15 : decode cL_years 15 = .ok (.bipush 50, 2) := by decide +kernel
theorem dL_years_17 : decode cL_years 17 = .ok (.if_icmp .ne 291, 3) := by decide +kernel
theorem dL_years_20 : decode cL_years 20 = .ok (.aload_n 0, 1) := by decide +kernel
theorem dL_years_21 : decode cL_years 21 = .ok (.bipush 20, 2) := by decide +kernel
theorem dL_years_23 : decode cL_years 23 = .ok (.iconst 1, 1) := by decide +kernel
theorem dL_years_24 : decode cL_years 24 = .ok (.invokevirtual 49, 3) := by decide +kernel
theorem dL_years_27 : decode cL_years 27 = .ok (.bipush 70, 2) := by decide +kernel
theorem dL_years_29 : decode cL_years 29 = .ok (.if_icmp .ne 279, 3) := by decide +kernel
theorem dL_years_32 : decode cL_years 32 = .ok (.aload_n 0, 1) := by decide +kernel
theorem dL_years_33 : decode cL_years 33 = .ok (.bipush 30, 2) := by decide +kernel
theorem dL_years_35 : decode cL_years 35 = .ok (.iconst 3, 1) := by decide +kernel
theorem dL_years_36 : decode cL_years 36 = .ok (.invokevirtual 49, 3) := by decide +kernel
theorem dL_years_39 : decode cL_years 39 = .ok (.bipush 100, 2) := by decide +kernel
theorem dL_years_41 : decode cL_years 41 = .ok (.if_icmp .ne 267, 3) := by decide +kernel
theorem dL_years_44 : decode cL_years 44 = .ok (.aload_n 0, 1) := by decide +kernel
theorem dL_years_45 : decode cL_years 45 = .ok (.iconst 5, 1) := by decide +kernel
theorem dL_years_46 : decode cL_years 46 = .ok (.iconst 0, 1) := by decide +kernel
theorem dL_years_47 : decode cL_years 47 = .ok (.invokevirtual 49, 3) := by decide +kernel
theorem dL_years_50 : decode cL_years 50 = .ok (.bipush 105, 2) := by decide +kernel
theorem dL_years_52 : decode cL_years 52 = .ok (.if_icmp .ne 256, 3) := by decide +kernel
theorem dL_years_55 : decode cL_years 55 = .ok (.aload_n 0, 1) := by decide +kernel
theorem dL_years_56 : decode cL_years 56 = .ok (.iconst 0, 1) := by decide +kernel
theorem dL_years_57 : decode cL_years 57 = .ok (.invokevirtual 52, 3) := by decide +kernel
theorem dL_years_60 : decode cL_years 60 = .ok (.iconst 5, 1) := by decide +kernel
theorem dL_years_61 : decode cL_years 61 = .ok (.if_icmp .ne 247, 3) := by decide +kernel
theorem dL_years_64 : decode cL_years 64 = .ok (.aload_n 0, 1) := by decide +kernel
theorem dL_years_65 : decode cL_years 65 = .ok (.iconst 1, 1) := by decide +kernel
theorem dL_years_66 : decode cL_years 66 = .ok (.invokevirtual 52, 3) := by decide +kernel
theorem dL_years_69 : decode cL_years 69 = .ok (.bipush 20, 2) := by decide +kernel
theorem dL_years_71 : decode cL_years 71 = .ok (.if_icmp .ne 237, 3) := by decide +kernel
theorem dL_years_74 : decode cL_years 74 = .ok (.aload_n 0, 1) := by decide +kernel
theorem dL_years_75 : decode cL_years 75 = .ok (.iconst 2, 1) := by decide +kernel
theorem dL_years_76 : decode cL_years 76 = .ok (.invokevirtual 52, 3) := by decide +kernel
theorem dL_years_79 : decode cL_years 79 = .ok (.bipush 50, 2) := by decide +kernel
theorem dL_years_81 : decode cL_years 81 = .ok (.if_icmp .ne 227, 3) := by decide +kernel
theorem dL_years_84 : decode cL_years 84 = .ok (.aload_n 0, 1) := by decide +kernel
theorem dL_years_85 : decode cL_years 85 = .ok (.iconst 3, 1) := by decide +kernel
theorem dL_years_86 : decode cL_years 86 = .ok (.invokevirtual 52, 3) := by decide +kernel
theorem dL_years_89 : decode cL_years 89 = .ok (.bipush 30, 2) := by decide +kernel
theorem dL_years_91 : decode cL_years 91 = .ok (.if_icmp .ne 217, 3) := by decide +kernel
theorem dL_years_94 : decode cL_years 94 = .ok (.aload_n 0, 1) := by decide +kernel
theorem dL_years_95 : decode cL_years 95 = .ok (.bipush 10, 2) := by decide +kernel
theorem dL_years_97 : decode cL_years 97 = .ok (.iconst 4, 1) := by decide +kernel
theorem dL_years_98 : decode cL_years 98 = .ok (.iconst 0, 1) := by decide +kernel
theorem dL_years_99 : decode cL_years 99 = .ok (.invokestatic 85, 3) := by decide +kernel
theorem dL_years_102 : decode cL_years 102 = .ok (.bipush (-71), 2) := by decide +kernel
theorem dL_years_104 : decode cL_years 104 = .ok (.if_icmp .ne 204, 3) := by decide +kernel
theorem dL_years_107 : decode cL_years 107 = .ok (.aload_n 0, 1) := by decide +kernel
theorem dL_years_108 : decode cL_years 108 = .ok (.iconst 1, 1) := by decide +kernel
theorem dL_years_109 : decode cL_years 109 = .ok (.bipush 7, 2) := by decide +kernel
theorem dL_years_111 : decode cL_years 111 = .ok (.iconst 0, 1) := by decide +kernel
theorem dL_years_112 : decode cL_years 112 = .ok (.iconst 0, 1) := by decide +kernel
theorem dL_years_113 : decode cL_years 113 = .ok (.invokestatic 80, 3) := by decide +kernel
theorem dL_years_116 : decode cL_years 116 = .ok (.ifCond .ne 192, 3) := by decide +kernel
theorem dL_years_119 : decode cL_years 119 = .ok (.aload_n 0, 1) := by decide +kernel
theorem dL_years_120 : decode cL_years 120 = .ok (.iconst 2, 1) := by decide +kernel
theorem dL_years_121 : decode cL_years 121 = .ok (.bipush 7, 2) := by decide +kernel
theorem dL_years_123 : decode cL_years 123 = .ok (.iconst 0, 1) := by decide +kernel
theorem dL_years_124 : decode cL_years 124 = .ok (.iconst 0, 1) := by decide +kernel
theorem dL_years_125 : decode cL_years 125 = .ok (.invokestatic 80, 3) := by decide +kernel
theorem dL_years_128 : decode cL_years 128 = .ok (.ifCond .ne 180, 3) := by decide +kernel
theorem dL_years_131 : decode cL_years 131 = .ok (.aload_n 0, 1) := by decide +kernel
theorem dL_years_132 : decode cL_years 132 = .ok (.iconst 0, 1) := by decide +kernel
theorem dL_years_133 : decode cL_years 133 = .ok (.bipush 40, 2) := by decide +kernel
theorem dL_years_135 : decode cL_years 135 = .ok (.invokevirtual 19, 3) := by decide +kernel
theorem dL_years_138 : decode cL_years 138 = .ok (.ifCond .ne 170, 3) := by decide +kernel
theorem dL_years_141 : decode cL_years 141 = .ok (.aload_n 0, 1) := by decide +kernel
theorem dL_years_142 : decode cL_years 142 = .ok (.iconst 1, 1) := by decide +kernel
theorem dL_years_143 : decode cL_years 143 = .ok (.invokevirtual 27, 3) := by decide +kernel
theorem dL_years_146 : decode cL_years 146 = .ok (.bipush 40, 2) := by decide +kernel
theorem dL_years_148 : decode cL_years 148 = .ok (.if_icmp .ne 160, 3) := by decide +kernel
theorem dL_years_151 : decode cL_years 151 = .ok (.aload_n 0, 1) := by decide +kernel
theorem dL_years_152 : decode cL_years 152 = .ok (.invokevirtual 100, 3) := by decide +kernel
theorem dL_years_155 : decode cL_years 155 = .ok (.bipush 80, 2) := by decide +kernel
theorem dL_years_157 : decode cL_years 157 = .ok (.if_icmp .ne 151, 3) := by decide +kernel
theorem dL_years_160 : decode cL_years 160 = .ok (.aload_n 0, 1) := by decide +kernel
theorem dL_years_161 : decode cL_years 161 = .ok (.invokevirtual 71, 3) := by decide +kernel
theorem dL_years_164 : decode cL_years 164 = .ok (.iconst 1, 1) := by decide +kernel
theorem dL_years_165 : decode cL_years 165 = .ok (.if_icmp .ne 143, 3) := by decide +kernel
theorem dL_years_168 : decode cL_years 168 = .ok (.aload_n 0, 1) := by decide +kernel
theorem dL_years_169 : decode cL_years 169 = .ok (.invokevirtual 74, 3) := by decide +kernel
theorem dL_years_172 : decode cL_years 172 = .ok (.bipush 25, 2) := by decide +kernel
theorem dL_years_174 : decode cL_years 174 = .ok (.if_icmp .ne 134, 3) := by decide +kernel
theorem dL_years_177 : decode cL_years 177 = .ok (.aload_n 0, 1) := by decide +kernel
theorem dL_years_178 : decode cL_years 178 = .ok (.iconst 0, 1) := by decide +kernel
theorem dL_years_179 : decode cL_years 179 = .ok (.invokevirtual 52, 3) := by decide +kernel
theorem dL_years_182 : decode cL_years 182 = .ok (.bipush 25, 2) := by decide +kernel
theorem dL_years_184 : decode cL_years 184 = .ok (.if_icmp .ne 124, 3) := by decide +kernel
theorem dL_years_187 : decode cL_years 187 = .ok (.aload_n 0, 1) := by decide +kernel
theorem dL_years_188 : decode cL_years 188 = .ok (.bipush 10, 2) := by decide +kernel
theorem dL_years_190 : decode cL_years 190 = .ok (.iconst 1, 1) := by decide +kernel
theorem dL_years_191 : decode cL_years 191 = .ok (.iconst 0, 1) := by decide +kernel
theorem dL_years_192 : decode cL_years 192 = .ok (.invokestatic 85, 3) := by decide +kernel
theorem dL_years_195 : decode cL_years 195 = .ok (.bipush (-71), 2) := by decide +kernel
theorem dL_years_197 : decode cL_years 197 = .ok (.if_icmp .ne 111, 3) := by decide +kernel
theorem dL_years_200 : decode cL_years 200 = .ok (.aload_n 0, 1) := by decide +kernel
theorem dL_years_201 : decode cL_years 201 = .ok (.iconst 2, 1) := by decide +kernel
theorem dL_years_202 : decode cL_years 202 = .ok (.invokevirtual 27, 3) := by decide +kernel
theorem dL_years_205 : decode cL_years 205 = .ok (.bipush 25, 2) := by decide +kernel
theorem dL_years_207 : decode cL_years 207 = .ok (.if_icmp .ne 101, 3) := by decide +kernel
theorem dL_years_210 : decode cL_years 210 = .ok (.aload_n 0, 1) := by decide +kernel
theorem dL_years_211 : decode cL_years 211 = .ok (.iconst 0, 1) := by decide +kernel
theorem dL_years_212 : decode cL_years 212 = .ok (.bipush 20, 2) := by decide +kernel
theorem dL_years_214 : decode cL_years 214 = .ok (.invokevirtual 19, 3) := by decide +kernel
theorem dL_years_217 : decode cL_years 217 = .ok (.bipush 40, 2) := by decide +kernel
theorem dL_years_219 : decode cL_years 219 = .ok (.if_icmp .ne 89, 3) := by decide +kernel
theorem dL_years_222 : decode cL_years 222 = .ok (.aload_n 0, 1) := by decide +kernel
theorem dL_years_223 : decode cL_years 223 = .ok (.invokevirtual 100, 3) := by decide +kernel
theorem dL_years_226 : decode cL_years 226 = .ok (.bipush 25, 2) := by decide +kernel
theorem dL_years_228 : decode cL_years 228 = .ok (.if_icmp .ne 80, 3) := by decide +kernel
theorem dL_years_231 : decode cL_years 231 = .ok (.aload_n 0, 1) := by decide +kernel
theorem dL_years_232 : decode cL_years 232 = .ok (.invokevirtual 74, 3) := by decide +kernel
theorem dL_years_235 : decode cL_years 235 = .ok (.ifCond .ne 73, 3) := by decide +kernel
theorem dL_years_238 : decode cL_years 238 = .ok (.aload_n 0, 1) := by decide +kernel
theorem dL_years_239 : decode cL_years 239 = .ok (.invokevirtual 71, 3) := by decide +kernel
theorem dL_years_242 : decode cL_years 242 = .ok (.iconst 2, 1) := by decide +kernel
theorem dL_years_243 : decode cL_years 243 = .ok (.if_icmp .ne 65, 3) := by decide +kernel
theorem dL_years_246 : decode cL_years 246 = .ok (.aload_n 0, 1) := by decide +kernel
theorem dL_years_247 : decode cL_years 247 = .ok (.iconst 1, 1) := by decide +kernel
theorem dL_years_248 : decode cL_years 248 = .ok (.invokevirtual 27, 3) := by decide +kernel
theorem dL_years_251 : decode cL_years 251 = .ok (.ifCond .ne 57, 3) := by decide +kernel
theorem dL_years_254 : decode cL_years 254 = .ok (.aload_n 0, 1) := by decide +kernel
theorem dL_years_255 : decode cL_years 255 = .ok (.bipush 7, 2) := by decide +kernel
theorem dL_years_257 : decode cL_years 257 = .ok (.iconst 2, 1) := by decide +kernel
theorem dL_years_258 : decode cL_years 258 = .ok (.invokevirtual 49, 3) := by decide +kernel
theorem dL_years_261 : decode cL_years 261 = .ok (.bipush 7, 2) := by decide +kernel
theorem dL_years_263 : decode cL_years 263 = .ok (.if_icmp .ne 45, 3) := by decide +kernel
theorem dL_years_266 : decode cL_years 266 = .ok (.aload_n 0, 1) := by decide +kernel
theorem dL_years_267 : decode cL_years 267 = .ok (.iconst 0, 1) := by decide +kernel
theorem dL_years_268 : decode cL_years 268 = .ok (.iconst 3, 1) := by decide +kernel
theorem dL_years_269 : decode cL_years 269 = .ok (.invokevirtual 19, 3) := by decide +kernel
theorem dL_years_272 : decode cL_years 272 = .ok (.bipush 20, 2) := by decide +kernel
theorem dL_years_274 : decode cL_years 274 = .ok (.if_icmp .ne 34, 3) := by decide +kernel
theorem dL_years_277 : decode cL_years 277 = .ok (.aload_n 0, 1) := by decide +kernel
theorem dL_years_278 : decode cL_years 278 = .ok (.invokevirtual 100, 3) := by decide +kernel
theorem dL_years_281 : decode cL_years 281 = .ok (.bipush 6, 2) := by decide +kernel
theorem dL_years_283 : decode cL_years 283 = .ok (.if_icmp .ne 25, 3) := by decide +kernel
theorem dL_years_286 : decode cL_years 286 = .ok (.aload_n 0, 1) := by decide +kernel
theorem dL_years_287 : decode cL_years 287 = .ok (.invokevirtual 74, 3) := by decide +kernel
theorem dL_years_290 : decode cL_years 290 = .ok (.ifCond .ne 18, 3) := by decide +kernel
theorem dL_years_293 : decode cL_years 293 = .ok (.aload_n 0, 1) := by decide +kernel
theorem dL_years_294 : decode cL_years 294 = .ok (.invokevirtual 71, 3) := by decide +kernel
theorem dL_years_297 : decode cL_years 297 = .ok (.iconst 3, 1) := by decide +kernel
theorem dL_years_298 : decode cL_years 298 = .ok (.if_icmp .ne 10, 3) := by decide +kernel
theorem dL_years_301 : decode cL_years 301 = .ok (.aload_n 0, 1) := by decide +kernel
theorem dL_years_302 : decode cL_years 302 = .ok (.invokestatic 94, 3) := by decide +kernel
theorem dL_years_305 : decode cL_years 305 = .ok (.ifCond .ne 5, 3) := by decide +kernel
theorem dL_years_308 : decode cL_years 308 = .ok (.iconst 0, 1) := by decide +kernel
theorem dL_years_309 : decode cL_years 309 = .ok (.ireturn, 1) := by decide +kernel
theorem dL_years_310 : decode cL_years 310 = .ok (.iconst 0, 1) := by decide +kernel
theorem dL_years_311 : decode cL_years 311 = .ok (.istore_n 1, 1) := by decide +kernel
theorem dL_years_312 : decode cL_years 312 = .ok (.iload_n 1, 1) := by decide +kernel
theorem dL_years_313 : decode cL_years 313 = .ok (.bipush 9, 2) := by decide +kernel
theorem dL_years_315 : decode cL_years 315 = .ok (.if_icmp .ge 43, 3) := by decide +kernel
theorem dL_years_318 : decode cL_years 318 = .ok (.aload_n 0, 1) := by decide +kernel
theorem dL_years_319 : decode cL_years 319 = .ok (.bipush 9, 2) := by decide +kernel
theorem dL_years_321 : decode cL_years 321 = .ok (.bipush 10, 2) := by decide +kernel
theorem dL_years_323 : decode cL_years 323 = .ok (.iconst 3, 1) := by decide +kernel
theorem dL_years_324 : decode cL_years 324 = .ok (.iload_n 1, 1) := by decide +kernel
theorem dL_years_325 : decode cL_years 325 = .ok (.iadd, 1) := by decide +kernel
theorem dL_years_326 : decode cL_years 326 = .ok (.invokestatic 85, 3) := by decide +kernel
theorem dL_years_329 : decode cL_years 329 = .ok (.iload_n 1, 1) := by decide +kernel
theorem dL_years_330 : decode cL_years 330 = .ok (.bipush 8, 2) := by decide +kernel
theorem dL_years_332 : decode cL_years 332 = .ok (.if_icmp .ge 13, 3) := by decide +kernel
theorem dL_years_335 : decode cL_years 335 = .ok (.bipush 10, 2) := by decide +kernel
theorem dL_years_337 : decode cL_years 337 = .ok (.iload_n 1, 1) := by decide +kernel
theorem dL_years_338 : decode cL_years 338 = .ok (.imul, 1) := by decide +kernel
theorem dL_years_339 : decode cL_years 339 = .ok (.bipush 10, 2) := by decide +kernel
theorem dL_years_341 : decode cL_years 341 = .ok (.iadd, 1) := by decide +kernel
theorem dL_years_342 : decode cL_years 342 = .ok (.goto 5, 3) := by decide +kernel
theorem dL_years_345 : decode cL_years 345 = .ok (.bipush (-73), 2) := by decide +kernel
theorem dL_years_347 : decode cL_years 347 = .ok (.if_icmp .eq 5, 3) := by decide +kernel
theorem dL_years_350 : decode cL_years 350 = .ok (.iconst 0, 1) := by decide +kernel
theorem dL_years_351 : decode cL_years 351 = .ok (.ireturn, 1) := by decide +kernel
theorem dL_years_352 : decode cL_years 352 = .ok (.iinc 1 1, 3) := by decide +kernel
theorem dL_years_355 : decode cL_years 355 = .ok (.goto (-43), 3) := by decide +kernel
theorem dL_years_358 : decode cL_years 358 = .ok (.aload_n 0, 1) := by decide +kernel
theorem dL_years_359 : decode cL_years 359 = .ok (.iconst 0, 1) := by decide +kernel
theorem dL_years_360 : decode cL_years 360 = .ok (.invokevirtual 68, 3) := by decide +kernel
theorem dL_years_363 : decode cL_years 363 = .ok (.ifCond .ne 229, 3) := by decide +kernel
theorem dL_years_366 : decode cL_years 366 = .ok (.aload_n 0, 1) := by decide +kernel
theorem dL_years_367 : decode cL_years 367 = .ok (.iconst 0, 1) := by decide +kernel
theorem dL_years_368 : decode cL_years 368 = .ok (.invokevirtual 65, 3) := by decide +kernel
theorem dL_years_371 : decode cL_years 371 = .ok (.iconst 3, 1) := by decide +kernel
theorem dL_years_372 : decode cL_years 372 = .ok (.if_icmp .ne 220, 3) := by decide +kernel
theorem dL_years_375 : decode cL_years 375 = .ok (.aload_n 0, 1) := by decide +kernel
theorem dL_years_376 : decode cL_years 376 = .ok (.bipush 13, 2) := by decide +kernel
theorem dL_years_378 : decode cL_years 378 = .ok (.iconst 0, 1) := by decide +kernel
theorem dL_years_379 : decode cL_years 379 = .ok (.iconst 0, 1) := by decide +kernel
theorem dL_years_380 : decode cL_years 380 = .ok (.invokestatic 85, 3) := by decide +kernel
theorem dL_years_383 : decode cL_years 383 = .ok (.bipush (-71), 2) := by decide +kernel
theorem dL_years_385 : decode cL_years 385 = .ok (.if_icmp .ne 207, 3) := by decide +kernel
theorem dL_years_388 : decode cL_years 388 = .ok (.aload_n 0, 1) := by decide +kernel
theorem dL_years_389 : decode cL_years 389 = .ok (.bipush 12, 2) := by decide +kernel
theorem dL_years_391 : decode cL_years 391 = .ok (.iconst 0, 1) := by decide +kernel
theorem dL_years_392 : decode cL_years 392 = .ok (.iconst 0, 1) := by decide +kernel
theorem dL_years_393 : decode cL_years 393 = .ok (.invokestatic 85, 3) := by decide +kernel
theorem dL_years_396 : decode cL_years 396 = .ok (.bipush (-73), 2) := by decide +kernel
theorem dL_years_398 : decode cL_years 398 = .ok (.if_icmp .ne 194, 3) := by decide +kernel
theorem dL_years_401 : decode cL_years 401 = .ok (.aload_n 0, 1) := by decide +kernel
theorem dL_years_402 : decode cL_years 402 = .ok (.iconst 0, 1) := by decide +kernel
theorem dL_years_403 : decode cL_years 403 = .ok (.bipush 100, 2) := by decide +kernel
theorem dL_years_405 : decode cL_years 405 = .ok (.invokevirtual 19, 3) := by decide +kernel
theorem dL_years_408 : decode cL_years 408 = .ok (.iconst 3, 1) := by decide +kernel
theorem dL_years_409 : decode cL_years 409 = .ok (.if_icmp .ne 183, 3) := by decide +kernel
theorem dL_years_412 : decode cL_years 412 = .ok (.aload_n 0, 1) := by decide +kernel
theorem dL_years_413 : decode cL_years 413 = .ok (.bipush 80, 2) := by decide +kernel
theorem dL_years_415 : decode cL_years 415 = .ok (.sipush 500, 3) := by decide +kernel
theorem dL_years_418 : decode cL_years 418 = .ok (.invokevirtual 55, 3) := by decide +kernel
theorem dL_years_421 : decode cL_years 421 = .ok (.ifCond .ne 171, 3) := by decide +kernel
theorem dL_years_424 : decode cL_years 424 = .ok (.aload_n 0, 1) := by decide +kernel
theorem dL_years_425 : decode cL_years 425 = .ok (.bipush 60, 2) := by decide +kernel
theorem dL_years_427 : decode cL_years 427 = .ok (.sipush 999, 3) := by decide +kernel
theorem dL_years_430 : decode cL_years 430 = .ok (.invokevirtual 55, 3) := by decide +kernel
theorem dL_years_433 : decode cL_years 433 = .ok (.iconst 1, 1) := by decide +kernel
theorem dL_years_434 : decode cL_years 434 = .ok (.if_icmp .ne 158, 3) := by decide +kernel
theorem dL_years_437 : decode cL_years 437 = .ok (.aload_n 0, 1) := by decide +kernel
theorem dL_years_438 : decode cL_years 438 = .ok (.iconst 0, 1) := by decide +kernel
theorem dL_years_439 : decode cL_years 439 = .ok (.invokevirtual 65, 3) := by decide +kernel
theorem dL_years_442 : decode cL_years 442 = .ok (.ifCond .ne 150, 3) := by decide +kernel
theorem dL_years_445 : decode cL_years 445 = .ok (.aload_n 0, 1) := by decide +kernel
theorem dL_years_446 : decode cL_years 446 = .ok (.iconst 0, 1) := by decide +kernel
theorem dL_years_447 : decode cL_years 447 = .ok (.invokevirtual 68, 3) := by decide +kernel
theorem dL_years_450 : decode cL_years 450 = .ok (.sipush 139, 3) := by decide +kernel
theorem dL_years_453 : decode cL_years 453 = .ok (.if_icmp .ne 139, 3) := by decide +kernel
theorem dL_years_456 : decode cL_years 456 = .ok (.aload_n 0, 1) := by decide +kernel
theorem dL_years_457 : decode cL_years 457 = .ok (.iconst 0, 1) := by decide +kernel
theorem dL_years_458 : decode cL_years 458 = .ok (.iconst 0, 1) := by decide +kernel
theorem dL_years_459 : decode cL_years 459 = .ok (.invokevirtual 62, 3) := by decide +kernel
theorem dL_years_462 : decode cL_years 462 = .ok (.ifCond .ne 130, 3) := by decide +kernel
theorem dL_years_465 : decode cL_years 465 = .ok (.aload_n 0, 1) := by decide +kernel
theorem dL_years_466 : decode cL_years 466 = .ok (.iconst 0, 1) := by decide +kernel
theorem dL_years_467 : decode cL_years 467 = .ok (.iconst 1, 1) := by decide +kernel
theorem dL_years_468 : decode cL_years 468 = .ok (.invokevirtual 62, 3) := by decide +kernel
theorem dL_years_471 : decode cL_years 471 = .ok (.iconst 1, 1) := by decide +kernel
theorem dL_years_472 : decode cL_years 472 = .ok (.if_icmp .ne 120, 3) := by decide +kernel
theorem dL_years_475 : decode cL_years 475 = .ok (.aload_n 0, 1) := by decide +kernel
theorem dL_years_476 : decode cL_years 476 = .ok (.bipush 13, 2) := by decide +kernel
theorem dL_years_478 : decode cL_years 478 = .ok (.iconst 0, 1) := by decide +kernel
theorem dL_years_479 : decode cL_years 479 = .ok (.iconst 2, 1) := by decide +kernel
theorem dL_years_480 : decode cL_years 480 = .ok (.invokestatic 85, 3) := by decide +kernel
theorem dL_years_483 : decode cL_years 483 = .ok (.bipush (-71), 2) := by decide +kernel
theorem dL_years_485 : decode cL_years 485 = .ok (.if_icmp .ne 107, 3) := by decide +kernel
theorem dL_years_488 : decode cL_years 488 = .ok (.aload_n 0, 1) := by decide +kernel
theorem dL_years_489 : decode cL_years 489 = .ok (.bipush 30, 2) := by decide +kernel
theorem dL_years_491 : decode cL_years 491 = .ok (.sipush 500, 3) := by decide +kernel
theorem dL_years_494 : decode cL_years 494 = .ok (.invokevirtual 55, 3) := by decide +kernel
theorem dL_years_497 : decode cL_years 497 = .ok (.iconst 2, 1) := by decide +kernel
theorem dL_years_498 : decode cL_years 498 = .ok (.if_icmp .ne 94, 3) := by decide +kernel
theorem dL_years_501 : decode cL_years 501 = .ok (.aload_n 0, 1) := by decide +kernel
theorem dL_years_502 : decode cL_years 502 = .ok (.iconst 0, 1) := by decide +kernel
theorem dL_years_503 : decode cL_years 503 = .ok (.invokevirtual 68, 3) := by decide +kernel
theorem dL_years_506 : decode cL_years 506 = .ok (.sipush 164, 3) := by decide +kernel
theorem dL_years_509 : decode cL_years 509 = .ok (.if_icmp .ne 83, 3) := by decide +kernel
theorem dL_years_512 : decode cL_years 512 = .ok (.aload_n 0, 1) := by decide +kernel
theorem dL_years_513 : decode cL_years 513 = .ok (.iconst 0, 1) := by decide +kernel
theorem dL_years_514 : decode cL_years 514 = .ok (.iconst 0, 1) := by decide +kernel
theorem dL_years_515 : decode cL_years 515 = .ok (.invokevirtual 62, 3) := by decide +kernel
theorem dL_years_518 : decode cL_years 518 = .ok (.ifCond .ne 74, 3) := by decide +kernel
theorem dL_years_521 : decode cL_years 521 = .ok (.aload_n 0, 1) := by decide +kernel
theorem dL_years_522 : decode cL_years 522 = .ok (.iconst 0, 1) := by decide +kernel
theorem dL_years_523 : decode cL_years 523 = .ok (.iconst 1, 1) := by decide +kernel
theorem dL_years_524 : decode cL_years 524 = .ok (.invokevirtual 62, 3) := by decide +kernel
theorem dL_years_527 : decode cL_years 527 = .ok (.iconst 2, 1) := by decide +kernel
theorem dL_years_528 : decode cL_years 528 = .ok (.if_icmp .ne 64, 3) := by decide +kernel
theorem dL_years_531 : decode cL_years 531 = .ok (.aload_n 0, 1) := by decide +kernel
theorem dL_years_532 : decode cL_years 532 = .ok (.iconst 0, 1) := by decide +kernel
theorem dL_years_533 : decode cL_years 533 = .ok (.iconst 2, 1) := by decide +kernel
theorem dL_years_534 : decode cL_years 534 = .ok (.invokevirtual 62, 3) := by decide +kernel
theorem dL_years_537 : decode cL_years 537 = .ok (.iconst 1, 1) := by decide +kernel
theorem dL_years_538 : decode cL_years 538 = .ok (.if_icmp .ne 54, 3) := by decide +kernel
theorem dL_years_541 : decode cL_years 541 = .ok (.aload_n 0, 1) := by decide +kernel
theorem dL_years_542 : decode cL_years 542 = .ok (.iconst 0, 1) := by decide +kernel
theorem dL_years_543 : decode cL_years 543 = .ok (.sipush 200, 3) := by decide +kernel
theorem dL_years_546 : decode cL_years 546 = .ok (.invokevirtual 19, 3) := by decide +kernel
theorem dL_years_549 : decode cL_years 549 = .ok (.bipush 100, 2) := by decide +kernel
theorem dL_years_551 : decode cL_years 551 = .ok (.if_icmp .ne 41, 3) := by decide +kernel
theorem dL_years_554 : decode cL_years 554 = .ok (.aload_n 0, 1) := by decide +kernel
theorem dL_years_555 : decode cL_years 555 = .ok (.iconst 0, 1) := by decide +kernel
theorem dL_years_556 : decode cL_years 556 = .ok (.invokevirtual 65, 3) := by decide +kernel
theorem dL_years_559 : decode cL_years 559 = .ok (.bipush 30, 2) := by decide +kernel
theorem dL_years_561 : decode cL_years 561 = .ok (.if_icmp .ne 31, 3) := by decide +kernel
theorem dL_years_564 : decode cL_years 564 = .ok (.aload_n 0, 1) := by decide +kernel
theorem dL_years_565 : decode cL_years 565 = .ok (.iconst 0, 1) := by decide +kernel
theorem dL_years_566 : decode cL_years 566 = .ok (.invokevirtual 68, 3) := by decide +kernel
theorem dL_years_569 : decode cL_years 569 = .ok (.sipush 170, 3) := by decide +kernel
theorem dL_years_572 : decode cL_years 572 = .ok (.if_icmp .ne 20, 3) := by decide +kernel
theorem dL_years_575 : decode cL_years 575 = .ok (.aload_n 0, 1) := by decide +kernel
theorem dL_years_576 : decode cL_years 576 = .ok (.iconst 0, 1) := by decide +kernel
theorem dL_years_577 : decode cL_years 577 = .ok (.iconst 2, 1) := by decide +kernel
theorem dL_years_578 : decode cL_years 578 = .ok (.invokevirtual 62, 3) := by decide +kernel
theorem dL_years_581 : decode cL_years 581 = .ok (.iconst 2, 1) := by decide +kernel
theorem dL_years_582 : decode cL_years 582 = .ok (.if_icmp .ne 10, 3) := by decide +kernel
theorem dL_years_585 : decode cL_years 585 = .ok (.aload_n 0, 1) := by decide +kernel
theorem dL_years_586 : decode cL_years 586 = .ok (.invokestatic 94, 3) := by decide +kernel
theorem dL_years_589 : decode cL_years 589 = .ok (.ifCond .ne 5, 3) := by decide +kernel
theorem dL_years_592 : decode cL_years 592 = .ok (.iconst 0, 1) := by decide +kernel
theorem dL_years_593 : decode cL_years 593 = .ok (.ireturn, 1) := by decide +kernel
theorem dL_years_594 : decode cL_years 594 = .ok (.aload_n 0, 1) := by decide +kernel
theorem dL_years_595 : decode cL_years 595 = .ok (.invokevirtual 58, 3) := by decide +kernel
theorem dL_years_598 : decode cL_years 598 = .ok (.iconst 2, 1) := by decide +kernel
theorem dL_years_599 : decode cL_years 599 = .ok (.if_icmp .ne 131, 3) := by decide +kernel
theorem dL_years_602 : decode cL_years 602 = .ok (.aload_n 0, 1) := by decide +kernel
theorem dL_years_603 : decode cL_years 603 = .ok (.iconst 0, 1) := by decide +kernel
theorem dL_years_604 : decode cL_years 604 = .ok (.invokevirtual 65, 3) := by decide +kernel
theorem dL_years_607 : decode cL_years 607 = .ok (.bipush 60, 2) := by decide +kernel
theorem dL_years_609 : decode cL_years 609 = .ok (.if_icmp .ne 121, 3) := by decide +kernel
theorem dL_years_612 : decode cL_years 612 = .ok (.aload_n 0, 1) := by decide +kernel
theorem dL_years_613 : decode cL_years 613 = .ok (.iconst 1, 1) := by decide +kernel
theorem dL_years_614 : decode cL_years 614 = .ok (.sipush 1000, 3) := by decide +kernel
theorem dL_years_617 : decode cL_years 617 = .ok (.invokevirtual 55, 3) := by decide +kernel
theorem dL_years_620 : decode cL_years 620 = .ok (.iconst 2, 1) := by decide +kernel
theorem dL_years_621 : decode cL_years 621 = .ok (.if_icmp .ne 109, 3) := by decide +kernel
theorem dL_years_624 : decode cL_years 624 = .ok (.aload_n 0, 1) := by decide +kernel
theorem dL_years_625 : decode cL_years 625 = .ok (.iconst 1, 1) := by decide +kernel
theorem dL_years_626 : decode cL_years 626 = .ok (.iconst 0, 1) := by decide +kernel
theorem dL_years_627 : decode cL_years 627 = .ok (.invokevirtual 55, 3) := by decide +kernel
theorem dL_years_630 : decode cL_years 630 = .ok (.iconst 3, 1) := by decide +kernel
theorem dL_years_631 : decode cL_years 631 = .ok (.if_icmp .ne 99, 3) := by decide +kernel
theorem dL_years_634 : decode cL_years 634 = .ok (.aload_n 0, 1) := by decide +kernel
theorem dL_years_635 : decode cL_years 635 = .ok (.iconst 1, 1) := by decide +kernel
theorem dL_years_636 : decode cL_years 636 = .ok (.iconst 0, 1) := by decide +kernel
theorem dL_years_637 : decode cL_years 637 = .ok (.invokevirtual 55, 3) := by decide +kernel
theorem dL_years_640 : decode cL_years 640 = .ok (.iconst 4, 1) := by decide +kernel
theorem dL_years_641 : decode cL_years 641 = .ok (.if_icmp .ne 89, 3) := by decide +kernel
theorem dL_years_644 : decode cL_years 644 = .ok (.aload_n 0, 1) := by decide +kernel
theorem dL_years_645 : decode cL_years 645 = .ok (.bipush 11, 2) := by decide +kernel
theorem dL_years_647 : decode cL_years 647 = .ok (.iconst 1, 1) := by decide +kernel
theorem dL_years_648 : decode cL_years 648 = .ok (.iconst 0, 1) := by decide +kernel
theorem dL_years_649 : decode cL_years 649 = .ok (.invokestatic 85, 3) := by decide +kernel
theorem dL_years_652 : decode cL_years 652 = .ok (.bipush (-73), 2) := by decide +kernel
theorem dL_years_654 : decode cL_years 654 = .ok (.if_icmp .ne 76, 3) := by decide +kernel
theorem dL_years_657 : decode cL_years 657 = .ok (.aload_n 0, 1) := by decide +kernel
theorem dL_years_658 : decode cL_years 658 = .ok (.iconst 0, 1) := by decide +kernel
theorem dL_years_659 : decode cL_years 659 = .ok (.invokevirtual 65, 3) := by decide +kernel
theorem dL_years_662 : decode cL_years 662 = .ok (.bipush 57, 2) := by decide +kernel
theorem dL_years_664 : decode cL_years 664 = .ok (.if_icmp .ne 66, 3) := by decide +kernel
theorem dL_years_667 : decode cL_years 667 = .ok (.aload_n 0, 1) := by decide +kernel
theorem dL_years_668 : decode cL_years 668 = .ok (.invokevirtual 58, 3) := by decide +kernel
theorem dL_years_671 : decode cL_years 671 = .ok (.iconst 4, 1) := by decide +kernel
theorem dL_years_672 : decode cL_years 672 = .ok (.if_icmp .ne 58, 3) := by decide +kernel
theorem dL_years_675 : decode cL_years 675 = .ok (.aload_n 0, 1) := by decide +kernel
theorem dL_years_676 : decode cL_years 676 = .ok (.invokevirtual 58, 3) := by decide +kernel
theorem dL_years_679 : decode cL_years 679 = .ok (.iconst 3, 1) := by decide +kernel
theorem dL_years_680 : decode cL_years 680 = .ok (.if_icmp .ne 50, 3) := by decide +kernel
theorem dL_years_683 : decode cL_years 683 = .ok (.aload_n 0, 1) := by decide +kernel
theorem dL_years_684 : decode cL_years 684 = .ok (.invokevirtual 58, 3) := by decide +kernel
theorem dL_years_687 : decode cL_years 687 = .ok (.iconst 2, 1) := by decide +kernel
theorem dL_years_688 : decode cL_years 688 = .ok (.if_icmp .ne 42, 3) := by decide +kernel
theorem dL_years_691 : decode cL_years 691 = .ok (.aload_n 0, 1) := by decide +kernel
theorem dL_years_692 : decode cL_years 692 = .ok (.invokevirtual 58, 3) := by decide +kernel
theorem dL_years_695 : decode cL_years 695 = .ok (.iconst 1, 1) := by decide +kernel
theorem dL_years_696 : decode cL_years 696 = .ok (.if_icmp .ne 34, 3) := by decide +kernel
theorem dL_years_699 : decode cL_years 699 = .ok (.aload_n 0, 1) := by decide +kernel
theorem dL_years_700 : decode cL_years 700 = .ok (.invokevirtual 58, 3) := by decide +kernel
theorem dL_years_703 : decode cL_years 703 = .ok (.ifCond .ne 27, 3) := by decide +kernel
theorem dL_years_706 : decode cL_years 706 = .ok (.aload_n 0, 1) := by decide +kernel
theorem dL_years_707 : decode cL_years 707 = .ok (.bipush 12, 2) := by decide +kernel
theorem dL_years_709 : decode cL_years 709 = .ok (.iconst 0, 1) := by decide +kernel
theorem dL_years_710 : decode cL_years 710 = .ok (.iconst 0, 1) := by decide +kernel
theorem dL_years_711 : decode cL_years 711 = .ok (.invokestatic 85, 3) := by decide +kernel
theorem dL_years_714 : decode cL_years 714 = .ok (.bipush (-73), 2) := by decide +kernel
theorem dL_years_716 : decode cL_years 716 = .ok (.if_icmp .ne 14, 3) := by decide +kernel
theorem dL_years_719 : decode cL_years 719 = .ok (.aload_n 0, 1) := by decide +kernel
theorem dL_years_720 : decode cL_years 720 = .ok (.invokestatic 94, 3) := by decide +kernel
theorem dL_years_723 : decode cL_years 723 = .ok (.ifCond .eq 7, 3) := by decide +kernel
theorem dL_years_726 : decode cL_years 726 = .ok (.iconst 1, 1) := by decide +kernel
theorem dL_years_727 : decode cL_years 727 = .ok (.goto 4, 3) := by decide +kernel
theorem dL_years_730 : decode cL_years 730 = .ok (.iconst 0, 1) := by decide +kernel
theorem dL_years_731 : decode cL_years 731 = .ok (.ireturn, 1) := by decide +kernel
theorem dL_law_0 : decode cL_law 0 = .ok (.invokestatic 103, 3) := by decide +kernel
theorem dL_law_3 : decode cL_law 3 = .ok (.ifCond .eq 15, 3) := by decide +kernel
theorem dL_law_6 : decode cL_law 6 = .ok (.invokestatic 107, 3) := by decide +kernel
theorem dL_law_9 : decode cL_law 9 = .ok (.ifCond .eq 9, 3) := by decide +kernel
theorem dL_law_12 : decode cL_law 12 = .ok (.invokestatic 110, 3) := by decide +kernel
theorem dL_law_15 : decode cL_law 15 = .ok (.ifCond .ne 5, 3) := by decide +kernel
theorem dL_law_18 : decode cL_law 18 = .ok (.iconst 0, 1) := by decide +kernel
theorem dL_law_19 : decode cL_law 19 = .ok (.ireturn, 1) := by decide +kernel
theorem dL_law_20 : decode cL_law 20 = .ok (.new 8, 3) := by decide +kernel
theorem dL_law_23 : decode cL_law 23 = .ok (.dup, 1) := by decide +kernel
theorem dL_law_24 : decode cL_law 24 = .ok (.invokespecial 89, 3) := by decide +kernel
theorem dL_law_27 : decode cL_law 27 = .ok (.astore_n 1, 1) := by decide +kernel
theorem dL_law_28 : decode cL_law 28 = .ok (.iconst 1, 1) := by decide +kernel
theorem dL_law_29 : decode cL_law 29 = .ok (.istore_n 2, 1) := by decide +kernel
theorem dL_law_30 : decode cL_law 30 = .ok (.iload_n 2, 1) := by decide +kernel
theorem dL_law_31 : decode cL_law 31 = .ok (.bipush 15, 2) := by decide +kernel
theorem dL_law_33 : decode cL_law 33 = .ok (.if_icmp .ge 137, 3) := by decide +kernel
theorem dL_law_36 : decode cL_law 36 = .ok (.aload_n 0, 1) := by decide +kernel
theorem dL_law_37 : decode cL_law 37 = .ok (.arraylength, 1) := by decide +kernel
theorem dL_law_38 : decode cL_law 38 = .ok (.ifCond .ne 9, 3) := by decide +kernel
theorem dL_law_41 : decode cL_law 41 = .ok (.iconst 3, 1) := by decide +kernel
theorem dL_law_42 : decode cL_law 42 = .ok (.iload_n 2, 1) := by decide +kernel
theorem dL_law_43 : decode cL_law 43 = .ok (.imul, 1) := by decide +kernel
theorem dL_law_44 : decode cL_law 44 = .ok (.goto 12, 3) := by decide +kernel
theorem dL_law_47 : decode cL_law 47 = .ok (.aload_n 0, 1) := by decide +kernel
theorem dL_law_48 : decode cL_law 48 = .ok (.iload_n 2, 1) := by decide +kernel
theorem dL_law_49 : decode cL_law 49 = .ok (.aload_n 0, 1) := by decide +kernel
theorem dL_law_50 : decode cL_law 50 = .ok (.arraylength, 1) := by decide +kernel
theorem dL_law_51 : decode cL_law 51 = .ok (.irem, 1) := by decide +kernel
theorem dL_law_52 : decode cL_law 52 = .ok (.iaload, 1) := by decide +kernel
theorem dL_law_53 : decode cL_law 53 = .ok (.bipush 7, 2) := by decide +kernel
theorem dL_law_55 : decode cL_law 55 = .ok (.iushr, 1) := by decide +kernel
theorem dL_law_56 : decode cL_law 56 = .ok (.istore_n 3, 1) := by decide +kernel
theorem dL_law_57 : decode cL_law 57 = .ok (.iload_n 3, 1) := by decide +kernel
theorem dL_law_58 : decode cL_law 58 = .ok (.bipush 9, 2) := by decide +kernel
theorem dL_law_60 : decode cL_law 60 = .ok (.irem, 1) := by decide +kernel
theorem dL_law_61 : decode cL_law 61 = .ok (.istore 4, 2) := by decide +kernel
theorem dL_law_63 : decode cL_law 63 = .ok (.aload_n 1, 1) := by decide +kernel
theorem dL_law_64 : decode cL_law 64 = .ok (.iload_n 2, 1) := by decide +kernel
theorem dL_law_65 : decode cL_law 65 = .ok (.iload 4, 2) := by decide +kernel
theorem dL_law_67 : decode cL_law 67 = .ok (.iload_n 3, 1) := by decide +kernel
theorem dL_law_68 : decode cL_law 68 = .ok (.bipush 9, 2) := by decide +kernel
theorem dL_law_70 : decode cL_law 70 = .ok (.idiv, 1) := by decide +kernel
theorem dL_law_71 : decode cL_law 71 = .ok (.iload_n 2, 1) := by decide +kernel
theorem dL_law_72 : decode cL_law 72 = .ok (.irem, 1) := by decide +kernel
theorem dL_law_73 : decode cL_law 73 = .ok (.iload 4, 2) := by decide +kernel
theorem dL_law_75 : decode cL_law 75 = .ok (.iconst 3, 1) := by decide +kernel
theorem dL_law_76 : decode cL_law 76 = .ok (.if_icmp .ne 11, 3) := by decide +kernel
theorem dL_law_79 : decode cL_law 79 = .ok (.iload_n 3, 1) := by decide +kernel
theorem dL_law_80 : decode cL_law 80 = .ok (.sipush 1001, 3) := by decide +kernel
theorem dL_law_83 : decode cL_law 83 = .ok (.irem, 1) := by decide +kernel
theorem dL_law_84 : decode cL_law 84 = .ok (.goto 9, 3) := by decide +kernel
theorem dL_law_87 : decode cL_law 87 = .ok (.iload_n 3, 1) := by decide +kernel
theorem dL_law_88 : decode cL_law 88 = .ok (.bipush 20, 2) := by decide +kernel
theorem dL_law_90 : decode cL_law 90 = .ok (.idiv, 1) := by decide +kernel
theorem dL_law_91 : decode cL_law 91 = .ok (.iload_n 2, 1) := by decide +kernel
theorem dL_law_92 : decode cL_law 92 = .ok (.irem, 1) := by decide +kernel
theorem dL_law_93 : decode cL_law 93 = .ok (.invokestatic 80, 3) := by decide +kernel
theorem dL_law_96 : decode cL_law 96 = .ok (.ifCond .ne 13, 3) := by decide +kernel
theorem dL_law_99 : decode cL_law 99 = .ok (.aload_n 1, 1) := by decide +kernel
theorem dL_law_100 : decode cL_law 100 = .ok (.iload_n 2, 1) := by decide +kernel
theorem dL_law_101 : decode cL_law 101 = .ok (.invokevirtual 23, 3) := by decide +kernel
theorem dL_law_104 : decode cL_law 104 = .ok (.iload 4, 2) := by decide +kernel
theorem dL_law_106 : decode cL_law 106 = .ok (.if_icmp .eq 5, 3) := by decide +kernel
theorem dL_law_109 : decode cL_law 109 = .ok (.iconst 0, 1) := by decide +kernel
theorem dL_law_110 : decode cL_law 110 = .ok (.ireturn, 1) := by decide +kernel
theorem dL_law_111 : decode cL_law 111 = .ok (.iload 4, 2) := by decide +kernel
theorem dL_law_113 : decode cL_law 113 = .ok (.ifCond .ne 6, 3) := by decide +kernel
theorem dL_law_116 : decode cL_law 116 = .ok (.goto 48, 3) := by decide +kernel
theorem dL_law_119 : decode cL_law 119 = .ok (.aload_n 1, 1) := by decide +kernel
theorem dL_law_120 : decode cL_law 120 = .ok (.iload_n 2, 1) := by decide +kernel
theorem dL_law_121 : decode cL_law 121 = .ok (.iload_n 3, 1) := by decide +kernel
theorem dL_law_122 : decode cL_law 122 = .ok (.bipush 9, 2) := by decide +kernel
theorem dL_law_124 : decode cL_law 124 = .ok (.idiv, 1) := by decide +kernel
theorem dL_law_125 : decode cL_law 125 = .ok (.iload_n 2, 1) := by decide +kernel
theorem dL_law_126 : decode cL_law 126 = .ok (.irem, 1) := by decide +kernel
theorem dL_law_127 : decode cL_law 127 = .ok (.invokevirtual 33, 3) := by decide +kernel
theorem dL_law_130 : decode cL_law 130 = .ok (.ifCond .eq 32, 3) := by decide +kernel
theorem dL_law_133 : decode cL_law 133 = .ok (.aload_n 1, 1) := by decide +kernel
theorem dL_law_134 : decode cL_law 134 = .ok (.iload_n 2, 1) := by decide +kernel
theorem dL_law_135 : decode cL_law 135 = .ok (.iload_n 2, 1) := by decide +kernel
theorem dL_law_136 : decode cL_law 136 = .ok (.invokevirtual 33, 3) := by decide +kernel
theorem dL_law_139 : decode cL_law 139 = .ok (.ifCond .ne 23, 3) := by decide +kernel
theorem dL_law_142 : decode cL_law 142 = .ok (.aload_n 1, 1) := by decide +kernel
theorem dL_law_143 : decode cL_law 143 = .ok (.iconst 0, 1) := by decide +kernel
theorem dL_law_144 : decode cL_law 144 = .ok (.iload_n 2, 1) := by decide +kernel
theorem dL_law_145 : decode cL_law 145 = .ok (.iload_n 3, 1) := by decide +kernel
theorem dL_law_146 : decode cL_law 146 = .ok (.ldc 79, 2) := by decide +kernel
theorem dL_law_148 : decode cL_law 148 = .ok (.irem, 1) := by decide +kernel
theorem dL_law_149 : decode cL_law 149 = .ok (.invokestatic 85, 3) := by decide +kernel
theorem dL_law_152 : decode cL_law 152 = .ok (.ifCond .ne 10, 3) := by decide +kernel
theorem dL_law_155 : decode cL_law 155 = .ok (.aload_n 1, 1) := by decide +kernel
theorem dL_law_156 : decode cL_law 156 = .ok (.invokestatic 94, 3) := by decide +kernel
theorem dL_law_159 : decode cL_law 159 = .ok (.ifCond .ne 5, 3) := by decide +kernel
theorem dL_law_162 : decode cL_law 162 = .ok (.iconst 0, 1) := by decide +kernel
theorem dL_law_163 : decode cL_law 163 = .ok (.ireturn, 1) := by decide +kernel
theorem dL_law_164 : decode cL_law 164 = .ok (.iinc 2 1, 3) := by decide +kernel
theorem dL_law_167 : decode cL_law 167 = .ok (.goto (-137), 3) := by decide +kernel
theorem dL_law_170 : decode cL_law 170 = .ok (.iconst 1, 1) := by decide +kernel
theorem dL_law_171 : decode cL_law 171 = .ok (.ireturn, 1) := by decide +kernel
