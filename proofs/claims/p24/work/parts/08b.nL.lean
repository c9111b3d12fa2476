theorem dL_lines_0 : decode cL_lines 0 = .ok (.new 8, 3) := by decide +kernel
theorem dL_lines_3 : decode cL_lines 3 = .ok (.dup, 1) := by decide +kernel
theorem dL_lines_4 : decode cL_lines 4 = .ok (.invokespecial 89, 3) := by decide +kernel
theorem dL_lines_7 : decode cL_lines 7 = .ok (.astore_n 0, 1) := by decide +kernel
theorem dL_lines_8 : decode cL_lines 8 = .ok (.aload_n 0, 1) := by decide +kernel
theorem dL_lines_9 : decode cL_lines 9 = .ok (.iconst 0, 1) := by decide +kernel
theorem dL_lines_10 : decode cL_lines 10 = .ok (.invokevirtual 27, 3) := by decide +kernel
theorem dL_lines_13 : decode cL_lines 13 = .ok (.ifCond .ne 275, 3) := by decide +kernel
theorem dL_lines_16 : decode cL_lines 16 = .ok (.aload_n 0, 1) := by decide +kernel
theorem dL_lines_17 : decode cL_lines 17 = .ok (.bipush 7, 2) := by decide +kernel
theorem dL_lines_19 : decode cL_lines 19 = .ok (.invokevirtual 23, 3) := by decide +kernel
theorem dL_lines_22 : decode cL_lines 22 = .ok (.ifCond .ne 266, 3) := by decide +kernel
theorem dL_lines_25 : decode cL_lines 25 = .ok (.aload_n 0, 1) := by decide +kernel
theorem dL_lines_26 : decode cL_lines 26 = .ok (.invokevirtual 71, 3) := by decide +kernel
theorem dL_lines_29 : decode cL_lines 29 = .ok (.ifCond .ne 259, 3) := by decide +kernel
theorem dL_lines_32 : decode cL_lines 32 = .ok (.aload_n 0, 1) := by decide +kernel
theorem dL_lines_33 : decode cL_lines 33 = .ok (.invokevirtual 74, 3) := by decide +kernel
theorem dL_lines_36 : decode cL_lines 36 = .ok (.ifCond .ne 252, 3) := by decide +kernel
theorem dL_lines_39 : decode cL_lines 39 = .ok (.aload_n 0, 1) := by decide +kernel
theorem dL_lines_40 : decode cL_lines 40 = .ok (.ldc 90, 2) := by decide +kernel
theorem dL_lines_42 : decode cL_lines 42 = .ok (.invokevirtual 46, 3) := by decide +kernel
theorem dL_lines_45 : decode cL_lines 45 = .ok (.ifCond .ne 243, 3) := by decide +kernel
theorem dL_lines_48 : decode cL_lines 48 = .ok (.aload_n 0, 1) := by decide +kernel
theorem dL_lines_49 : decode cL_lines 49 = .ok (.invokevirtual 91, 3) := by decide +kernel
theorem dL_lines_52 : decode cL_lines 52 = .ok (.ifCond .ne 236, 3) := by decide +kernel
theorem dL_lines_55 : decode cL_lines 55 = .ok (.aload_n 0, 1) := by decide +kernel
theorem dL_lines_56 : decode cL_lines 56 = .ok (.invokestatic 94, 3) := by decide +kernel
theorem dL_lines_59 : decode cL_lines 59 = .ok (.ifCond .eq 229, 3) := by decide +kernel
theorem dL_lines_62 : decode cL_lines 62 = .ok (.aload_n 0, 1) := by decide +kernel
theorem dL_lines_63 : decode cL_lines 63 = .ok (.iconst 0, 1) := by decide +kernel
theorem dL_lines_64 : decode cL_lines 64 = .ok (.sipush 1000, 3) := by decide +kernel
theorem dL_lines_67 : decode cL_lines 67 = .ok (.invokevirtual 19, 3) := by decide +kernel
theorem dL_lines_70 : decode cL_lines 70 = .ok (.ifCond .ne 218, 3) := by decide +kernel
theorem dL_lines_73 : decode cL_lines 73 = .ok (.aload_n 0, 1) := by decide +kernel
theorem dL_lines_74 : decode cL_lines 74 = .ok (.iconst 1, 1) := by decide +kernel
theorem dL_lines_75 : decode cL_lines 75 = .ok (.sipush 300, 3) := by decide +kernel
theorem dL_lines_78 : decode cL_lines 78 = .ok (.invokevirtual 19, 3) := by decide +kernel
theorem dL_lines_81 : decode cL_lines 81 = .ok (.ifCond .ne 207, 3) := by decide +kernel
theorem dL_lines_84 : decode cL_lines 84 = .ok (.aload_n 0, 1) := by decide +kernel
theorem dL_lines_85 : decode cL_lines 85 = .ok (.iconst 2, 1) := by decide +kernel
theorem dL_lines_86 : decode cL_lines 86 = .ok (.iconst 1, 1) := by decide +kernel
theorem dL_lines_87 : decode cL_lines 87 = .ok (.iconst 0, 1) := by decide +kernel
theorem dL_lines_88 : decode cL_lines 88 = .ok (.iconst 1, 1) := by decide +kernel
theorem dL_lines_89 : decode cL_lines 89 = .ok (.invokestatic 80, 3) := by decide +kernel
theorem dL_lines_92 : decode cL_lines 92 = .ok (.ifCond .ne 196, 3) := by decide +kernel
theorem dL_lines_95 : decode cL_lines 95 = .ok (.aload_n 0, 1) := by decide +kernel
theorem dL_lines_96 : decode cL_lines 96 = .ok (.iconst 3, 1) := by decide +kernel
theorem dL_lines_97 : decode cL_lines 97 = .ok (.iconst 2, 1) := by decide +kernel
theorem dL_lines_98 : decode cL_lines 98 = .ok (.iconst 0, 1) := by decide +kernel
theorem dL_lines_99 : decode cL_lines 99 = .ok (.iconst 1, 1) := by decide +kernel
theorem dL_lines_100 : decode cL_lines 100 = .ok (.invokestatic 80, 3) := by decide +kernel
theorem dL_lines_103 : decode cL_lines 103 = .ok (.ifCond .ne 185, 3) := by decide +kernel
theorem dL_lines_106 : decode cL_lines 106 = .ok (.aload_n 0, 1) := by decide +kernel
theorem dL_lines_107 : decode cL_lines 107 = .ok (.iconst 4, 1) := by decide +kernel
theorem dL_lines_108 : decode cL_lines 108 = .ok (.iconst 2, 1) := by decide +kernel
theorem dL_lines_109 : decode cL_lines 109 = .ok (.iconst 1, 1) := by decide +kernel
theorem dL_lines_110 : decode cL_lines 110 = .ok (.iconst 0, 1) := by decide +kernel
theorem dL_lines_111 : decode cL_lines 111 = .ok (.invokestatic 80, 3) := by decide +kernel
theorem dL_lines_114 : decode cL_lines 114 = .ok (.ifCond .ne 174, 3) := by decide +kernel
theorem dL_lines_117 : decode cL_lines 117 = .ok (.aload_n 0, 1) := by decide +kernel
theorem dL_lines_118 : decode cL_lines 118 = .ok (.iconst 5, 1) := by decide +kernel
theorem dL_lines_119 : decode cL_lines 119 = .ok (.iconst 3, 1) := by decide +kernel
theorem dL_lines_120 : decode cL_lines 120 = .ok (.iconst 0, 1) := by decide +kernel
theorem dL_lines_121 : decode cL_lines 121 = .ok (.sipush 333, 3) := by decide +kernel
theorem dL_lines_124 : decode cL_lines 124 = .ok (.invokestatic 80, 3) := by decide +kernel
theorem dL_lines_127 : decode cL_lines 127 = .ok (.ifCond .ne 161, 3) := by decide +kernel
theorem dL_lines_130 : decode cL_lines 130 = .ok (.aload_n 0, 1) := by decide +kernel
theorem dL_lines_131 : decode cL_lines 131 = .ok (.bipush 6, 2) := by decide +kernel
theorem dL_lines_133 : decode cL_lines 133 = .ok (.iconst 4, 1) := by decide +kernel
theorem dL_lines_134 : decode cL_lines 134 = .ok (.iconst 0, 1) := by decide +kernel
theorem dL_lines_135 : decode cL_lines 135 = .ok (.iconst 1, 1) := by decide +kernel
theorem dL_lines_136 : decode cL_lines 136 = .ok (.invokestatic 80, 3) := by decide +kernel
theorem dL_lines_139 : decode cL_lines 139 = .ok (.ifCond .ne 149, 3) := by decide +kernel
theorem dL_lines_142 : decode cL_lines 142 = .ok (.aload_n 0, 1) := by decide +kernel
theorem dL_lines_143 : decode cL_lines 143 = .ok (.bipush 7, 2) := by decide +kernel
theorem dL_lines_145 : decode cL_lines 145 = .ok (.iconst 5, 1) := by decide +kernel
theorem dL_lines_146 : decode cL_lines 146 = .ok (.iconst 0, 1) := by decide +kernel
theorem dL_lines_147 : decode cL_lines 147 = .ok (.iconst 1, 1) := by decide +kernel
theorem dL_lines_148 : decode cL_lines 148 = .ok (.invokestatic 80, 3) := by decide +kernel
theorem dL_lines_151 : decode cL_lines 151 = .ok (.ifCond .ne 137, 3) := by decide +kernel
theorem dL_lines_154 : decode cL_lines 154 = .ok (.aload_n 0, 1) := by decide +kernel
theorem dL_lines_155 : decode cL_lines 155 = .ok (.bipush 8, 2) := by decide +kernel
theorem dL_lines_157 : decode cL_lines 157 = .ok (.bipush 6, 2) := by decide +kernel
theorem dL_lines_159 : decode cL_lines 159 = .ok (.iconst 2, 1) := by decide +kernel
theorem dL_lines_160 : decode cL_lines 160 = .ok (.iconst 0, 1) := by decide +kernel
theorem dL_lines_161 : decode cL_lines 161 = .ok (.invokestatic 80, 3) := by decide +kernel
theorem dL_lines_164 : decode cL_lines 164 = .ok (.ifCond .ne 124, 3) := by decide +kernel
theorem dL_lines_167 : decode cL_lines 167 = .ok (.aload_n 0, 1) := by decide +kernel
theorem dL_lines_168 : decode cL_lines 168 = .ok (.bipush 9, 2) := by decide +kernel
theorem dL_lines_170 : decode cL_lines 170 = .ok (.bipush 7, 2) := by decide +kernel
theorem dL_lines_172 : decode cL_lines 172 = .ok (.iconst 0, 1) := by decide +kernel
theorem dL_lines_173 : decode cL_lines 173 = .ok (.iconst 0, 1) := by decide +kernel
theorem dL_lines_174 : decode cL_lines 174 = .ok (.invokestatic 80, 3) := by decide +kernel
theorem dL_lines_177 : decode cL_lines 177 = .ok (.ifCond .ne 111, 3) := by decide +kernel
theorem dL_lines_180 : decode cL_lines 180 = .ok (.aload_n 0, 1) := by decide +kernel
theorem dL_lines_181 : decode cL_lines 181 = .ok (.bipush 10, 2) := by decide +kernel
theorem dL_lines_183 : decode cL_lines 183 = .ok (.bipush 8, 2) := by decide +kernel
theorem dL_lines_185 : decode cL_lines 185 = .ok (.iconst 0, 1) := by decide +kernel
theorem dL_lines_186 : decode cL_lines 186 = .ok (.iconst 1, 1) := by decide +kernel
theorem dL_lines_187 : decode cL_lines 187 = .ok (.invokestatic 80, 3) := by decide +kernel
theorem dL_lines_190 : decode cL_lines 190 = .ok (.ifCond .ne 98, 3) := by decide +kernel
theorem dL_lines_193 : decode cL_lines 193 = .ok (.aload_n 0, 1) := by decide +kernel
theorem dL_lines_194 : decode cL_lines 194 = .ok (.iconst 2, 1) := by decide +kernel
theorem dL_lines_195 : decode cL_lines 195 = .ok (.invokevirtual 27, 3) := by decide +kernel
theorem dL_lines_198 : decode cL_lines 198 = .ok (.sipush 1300, 3) := by decide +kernel
theorem dL_lines_201 : decode cL_lines 201 = .ok (.if_icmp .ne 87, 3) := by decide +kernel
theorem dL_lines_204 : decode cL_lines 204 = .ok (.aload_n 0, 1) := by decide +kernel
theorem dL_lines_205 : decode cL_lines 205 = .ok (.iconst 3, 1) := by decide +kernel
theorem dL_lines_206 : decode cL_lines 206 = .ok (.invokevirtual 27, 3) := by decide +kernel
theorem dL_lines_209 : decode cL_lines 209 = .ok (.sipush 700, 3) := by decide +kernel
theorem dL_lines_212 : decode cL_lines 212 = .ok (.if_icmp .ne 76, 3) := by decide +kernel
theorem dL_lines_215 : decode cL_lines 215 = .ok (.aload_n 0, 1) := by decide +kernel
theorem dL_lines_216 : decode cL_lines 216 = .ok (.iconst 4, 1) := by decide +kernel
theorem dL_lines_217 : decode cL_lines 217 = .ok (.invokevirtual 27, 3) := by decide +kernel
theorem dL_lines_220 : decode cL_lines 220 = .ok (.ifCond .ne 68, 3) := by decide +kernel
theorem dL_lines_223 : decode cL_lines 223 = .ok (.aload_n 0, 1) := by decide +kernel
theorem dL_lines_224 : decode cL_lines 224 = .ok (.iconst 5, 1) := by decide +kernel
theorem dL_lines_225 : decode cL_lines 225 = .ok (.invokevirtual 27, 3) := by decide +kernel
theorem dL_lines_228 : decode cL_lines 228 = .ok (.sipush 333, 3) := by decide +kernel
theorem dL_lines_231 : decode cL_lines 231 = .ok (.if_icmp .ne 57, 3) := by decide +kernel
theorem dL_lines_234 : decode cL_lines 234 = .ok (.aload_n 0, 1) := by decide +kernel
theorem dL_lines_235 : decode cL_lines 235 = .ok (.bipush 6, 2) := by decide +kernel
theorem dL_lines_237 : decode cL_lines 237 = .ok (.invokevirtual 27, 3) := by decide +kernel
theorem dL_lines_240 : decode cL_lines 240 = .ok (.sipush 300, 3) := by decide +kernel
theorem dL_lines_243 : decode cL_lines 243 = .ok (.if_icmp .ne 45, 3) := by decide +kernel
theorem dL_lines_246 : decode cL_lines 246 = .ok (.aload_n 0, 1) := by decide +kernel
theorem dL_lines_247 : decode cL_lines 247 = .ok (.bipush 7, 2) := by decide +kernel
theorem dL_lines_249 : decode cL_lines 249 = .ok (.invokevirtual 27, 3) := by decide +kernel
theorem dL_lines_252 : decode cL_lines 252 = .ok (.sipush 1000, 3) := by decide +kernel
theorem dL_lines_255 : decode cL_lines 255 = .ok (.if_icmp .ne 33, 3) := by decide +kernel
theorem dL_lines_258 : decode cL_lines 258 = .ok (.aload_n 0, 1) := by decide +kernel
theorem dL_lines_259 : decode cL_lines 259 = .ok (.bipush 8, 2) := by decide +kernel
theorem dL_lines_261 : decode cL_lines 261 = .ok (.invokevirtual 27, 3) := by decide +kernel
theorem dL_lines_264 : decode cL_lines 264 = .ok (.ifCond .ne 24, 3) := by decide +kernel
theorem dL_lines_267 : decode cL_lines 267 = .ok (.aload_n 0, 1) := by decide +kernel
theorem dL_lines_268 : decode cL_lines 268 = .ok (.bipush 9, 2) := by decide +kernel
theorem dL_lines_270 : decode cL_lines 270 = .ok (.invokevirtual 27, 3) := by decide +kernel
theorem dL_lines_273 : decode cL_lines 273 = .ok (.ifCond .ne 15, 3) := by decide +kernel
theorem dL_lines_276 : decode cL_lines 276 = .ok (.aload_n 0, 1) := by decide +kernel
theorem dL_lines_277 : decode cL_lines 277 = .ok (.bipush 10, 2) := by decide +kernel
theorem dL_lines_279 : decode cL_lines 279 = .ok (.invokevirtual 27, 3) := by decide +kernel
theorem dL_lines_282 : decode cL_lines 282 = .ok (.sipush 300, 3) := by decide +kernel
theorem dL_lines_285 : decode cL_lines 285 = .ok (.if_icmp .eq 5, 3) := by decide +kernel
theorem dL_lines_288 : decode cL_lines 288 = .ok (.iconst 0, 1) := by decide +kernel
theorem dL_lines_289 : decode cL_lines 289 = .ok (.ireturn, 1) := by decide +kernel
theorem dL_lines_290 : decode cL_lines 290 = .ok (.aload_n 0, 1) := by decide +kernel
theorem dL_lines_291 : decode cL_lines 291 = .ok (.sipush 1000, 3) := by decide +kernel
theorem dL_lines_294 : decode cL_lines 294 = .ok (.sipush 200, 3) := by decide +kernel
theorem dL_lines_297 : decode cL_lines 297 = .ok (.invokevirtual 43, 3) := by decide +kernel
theorem dL_lines_300 : decode cL_lines 300 = .ok (.iconst 1, 1) := by decide +kernel
theorem dL_lines_301 : decode cL_lines 301 = .ok (.if_icmp .ne 212, 3) := by decide +kernel
theorem dL_lines_304 : decode cL_lines 304 = .ok (.aload_n 0, 1) := by decide +kernel
theorem dL_lines_305 : decode cL_lines 305 = .ok (.bipush 100, 2) := by decide +kernel
theorem dL_lines_307 : decode cL_lines 307 = .ok (.bipush 105, 2) := by decide +kernel
theorem dL_lines_309 : decode cL_lines 309 = .ok (.invokevirtual 43, 3) := by decide +kernel
theorem dL_lines_312 : decode cL_lines 312 = .ok (.iconst 2, 1) := by decide +kernel
theorem dL_lines_313 : decode cL_lines 313 = .ok (.if_icmp .ne 200, 3) := by decide +kernel
theorem dL_lines_316 : decode cL_lines 316 = .ok (.aload_n 0, 1) := by decide +kernel
theorem dL_lines_317 : decode cL_lines 317 = .ok (.sipush 1200, 3) := by decide +kernel
theorem dL_lines_320 : decode cL_lines 320 = .ok (.sipush 500, 3) := by decide +kernel
theorem dL_lines_323 : decode cL_lines 323 = .ok (.invokevirtual 43, 3) := by decide +kernel
theorem dL_lines_326 : decode cL_lines 326 = .ok (.iconst 3, 1) := by decide +kernel
theorem dL_lines_327 : decode cL_lines 327 = .ok (.if_icmp .ne 186, 3) := by decide +kernel
theorem dL_lines_330 : decode cL_lines 330 = .ok (.aload_n 0, 1) := by decide +kernel
theorem dL_lines_331 : decode cL_lines 331 = .ok (.sipush 1000, 3) := by decide +kernel
theorem dL_lines_334 : decode cL_lines 334 = .ok (.sipush 201, 3) := by decide +kernel
theorem dL_lines_337 : decode cL_lines 337 = .ok (.invokevirtual 43, 3) := by decide +kernel
theorem dL_lines_340 : decode cL_lines 340 = .ok (.iconst 3, 1) := by decide +kernel
theorem dL_lines_341 : decode cL_lines 341 = .ok (.if_icmp .ne 172, 3) := by decide +kernel
theorem dL_lines_344 : decode cL_lines 344 = .ok (.aload_n 0, 1) := by decide +kernel
theorem dL_lines_345 : decode cL_lines 345 = .ok (.bipush 100, 2) := by decide +kernel
theorem dL_lines_347 : decode cL_lines 347 = .ok (.invokevirtual 46, 3) := by decide +kernel
theorem dL_lines_350 : decode cL_lines 350 = .ok (.ifCond .ne 163, 3) := by decide +kernel
theorem dL_lines_353 : decode cL_lines 353 = .ok (.aload_n 0, 1) := by decide +kernel
theorem dL_lines_354 : decode cL_lines 354 = .ok (.bipush 109, 2) := by decide +kernel
theorem dL_lines_356 : decode cL_lines 356 = .ok (.invokevirtual 46, 3) := by decide +kernel
theorem dL_lines_359 : decode cL_lines 359 = .ok (.ifCond .ne 154, 3) := by decide +kernel
theorem dL_lines_362 : decode cL_lines 362 = .ok (.aload_n 0, 1) := by decide +kernel
theorem dL_lines_363 : decode cL_lines 363 = .ok (.bipush 110, 2) := by decide +kernel
theorem dL_lines_365 : decode cL_lines 365 = .ok (.invokevirtual 46, 3) := by decide +kernel
theorem dL_lines_368 : decode cL_lines 368 = .ok (.iconst 1, 1) := by decide +kernel
theorem dL_lines_369 : decode cL_lines 369 = .ok (.if_icmp .ne 144, 3) := by decide +kernel
theorem dL_lines_372 : decode cL_lines 372 = .ok (.aload_n 0, 1) := by decide +kernel
theorem dL_lines_373 : decode cL_lines 373 = .ok (.sipush 1000, 3) := by decide +kernel
theorem dL_lines_376 : decode cL_lines 376 = .ok (.invokevirtual 46, 3) := by decide +kernel
theorem dL_lines_379 : decode cL_lines 379 = .ok (.bipush 94, 2) := by decide +kernel
theorem dL_lines_381 : decode cL_lines 381 = .ok (.if_icmp .ne 132, 3) := by decide +kernel
theorem dL_lines_384 : decode cL_lines 384 = .ok (.aload_n 0, 1) := by decide +kernel
theorem dL_lines_385 : decode cL_lines 385 = .ok (.sipush 1100, 3) := by decide +kernel
theorem dL_lines_388 : decode cL_lines 388 = .ok (.invokevirtual 46, 3) := by decide +kernel
theorem dL_lines_391 : decode cL_lines 391 = .ok (.bipush 114, 2) := by decide +kernel
theorem dL_lines_393 : decode cL_lines 393 = .ok (.if_icmp .ne 120, 3) := by decide +kernel
theorem dL_lines_396 : decode cL_lines 396 = .ok (.aload_n 0, 1) := by decide +kernel
theorem dL_lines_397 : decode cL_lines 397 = .ok (.sipush 1300, 3) := by decide +kernel
theorem dL_lines_400 : decode cL_lines 400 = .ok (.invokevirtual 46, 3) := by decide +kernel
theorem dL_lines_403 : decode cL_lines 403 = .ok (.sipush 184, 3) := by decide +kernel
theorem dL_lines_406 : decode cL_lines 406 = .ok (.if_icmp .ne 107, 3) := by decide +kernel
theorem dL_lines_409 : decode cL_lines 409 = .ok (.aload_n 0, 1) := by decide +kernel
theorem dL_lines_410 : decode cL_lines 410 = .ok (.bipush 8, 2) := by decide +kernel
theorem dL_lines_412 : decode cL_lines 412 = .ok (.invokevirtual 27, 3) := by decide +kernel
theorem dL_lines_415 : decode cL_lines 415 = .ok (.sipush 184, 3) := by decide +kernel
theorem dL_lines_418 : decode cL_lines 418 = .ok (.if_icmp .ne 95, 3) := by decide +kernel
theorem dL_lines_421 : decode cL_lines 421 = .ok (.aload_n 0, 1) := by decide +kernel
theorem dL_lines_422 : decode cL_lines 422 = .ok (.ldc 90, 2) := by decide +kernel
theorem dL_lines_424 : decode cL_lines 424 = .ok (.invokevirtual 46, 3) := by decide +kernel
theorem dL_lines_427 : decode cL_lines 427 = .ok (.ldc 98, 2) := by decide +kernel
theorem dL_lines_429 : decode cL_lines 429 = .ok (.if_icmp .ne 84, 3) := by decide +kernel
theorem dL_lines_432 : decode cL_lines 432 = .ok (.aload_n 0, 1) := by decide +kernel
theorem dL_lines_433 : decode cL_lines 433 = .ok (.bipush 10, 2) := by decide +kernel
theorem dL_lines_435 : decode cL_lines 435 = .ok (.bipush 77, 2) := by decide +kernel
theorem dL_lines_437 : decode cL_lines 437 = .ok (.invokevirtual 30, 3) := by decide +kernel
theorem dL_lines_440 : decode cL_lines 440 = .ok (.sipush 300, 3) := by decide +kernel
theorem dL_lines_443 : decode cL_lines 443 = .ok (.if_icmp .ne 70, 3) := by decide +kernel
theorem dL_lines_446 : decode cL_lines 446 = .ok (.aload_n 0, 1) := by decide +kernel
theorem dL_lines_447 : decode cL_lines 447 = .ok (.bipush 8, 2) := by decide +kernel
theorem dL_lines_449 : decode cL_lines 449 = .ok (.iconst 0, 1) := by decide +kernel
theorem dL_lines_450 : decode cL_lines 450 = .ok (.invokevirtual 33, 3) := by decide +kernel
theorem dL_lines_453 : decode cL_lines 453 = .ok (.ifCond .eq 60, 3) := by decide +kernel
theorem dL_lines_456 : decode cL_lines 456 = .ok (.aload_n 0, 1) := by decide +kernel
theorem dL_lines_457 : decode cL_lines 457 = .ok (.bipush 8, 2) := by decide +kernel
theorem dL_lines_459 : decode cL_lines 459 = .ok (.bipush 8, 2) := by decide +kernel
theorem dL_lines_461 : decode cL_lines 461 = .ok (.invokevirtual 33, 3) := by decide +kernel
theorem dL_lines_464 : decode cL_lines 464 = .ok (.ifCond .ne 49, 3) := by decide +kernel
theorem dL_lines_467 : decode cL_lines 467 = .ok (.aload_n 0, 1) := by decide +kernel
theorem dL_lines_468 : decode cL_lines 468 = .ok (.iconst 0, 1) := by decide +kernel
theorem dL_lines_469 : decode cL_lines 469 = .ok (.bipush 8, 2) := by decide +kernel
theorem dL_lines_471 : decode cL_lines 471 = .ok (.invokevirtual 33, 3) := by decide +kernel
theorem dL_lines_474 : decode cL_lines 474 = .ok (.ifCond .ne 39, 3) := by decide +kernel
theorem dL_lines_477 : decode cL_lines 477 = .ok (.aload_n 0, 1) := by decide +kernel
theorem dL_lines_478 : decode cL_lines 478 = .ok (.iconst 0, 1) := by decide +kernel
theorem dL_lines_479 : decode cL_lines 479 = .ok (.invokevirtual 37, 3) := by decide +kernel
theorem dL_lines_482 : decode cL_lines 482 = .ok (.iconst 4, 1) := by decide +kernel
theorem dL_lines_483 : decode cL_lines 483 = .ok (.if_icmp .ne 30, 3) := by decide +kernel
theorem dL_lines_486 : decode cL_lines 486 = .ok (.aload_n 0, 1) := by decide +kernel
theorem dL_lines_487 : decode cL_lines 487 = .ok (.iconst 1, 1) := by decide +kernel
theorem dL_lines_488 : decode cL_lines 488 = .ok (.invokevirtual 37, 3) := by decide +kernel
theorem dL_lines_491 : decode cL_lines 491 = .ok (.iconst 5, 1) := by decide +kernel
theorem dL_lines_492 : decode cL_lines 492 = .ok (.if_icmp .ne 21, 3) := by decide +kernel
theorem dL_lines_495 : decode cL_lines 495 = .ok (.aload_n 0, 1) := by decide +kernel
theorem dL_lines_496 : decode cL_lines 496 = .ok (.iconst 2, 1) := by decide +kernel
theorem dL_lines_497 : decode cL_lines 497 = .ok (.invokevirtual 37, 3) := by decide +kernel
theorem dL_lines_500 : decode cL_lines 500 = .ok (.ifCond .ne 13, 3) := by decide +kernel
theorem dL_lines_503 : decode cL_lines 503 = .ok (.aload_n 0, 1) := by decide +kernel
theorem dL_lines_504 : decode cL_lines 504 = .ok (.bipush 11, 2) := by decide +kernel
theorem dL_lines_506 : decode cL_lines 506 = .ok (.invokevirtual 37, 3) := by decide +kernel
theorem dL_lines_509 : decode cL_lines 509 = .ok (.iconst 1, 1) := by decide +kernel
theorem dL_lines_510 : decode cL_lines 510 = .ok (.if_icmp .eq 5, 3) := by decide +kernel
theorem dL_lines_513 : decode cL_lines 513 = .ok (.iconst 0, 1) := by decide +kernel
theorem dL_lines_514 : decode cL_lines 514 = .ok (.ireturn, 1) := by decide +kernel
theorem dL_lines_515 : decode cL_lines 515 = .ok (.aload_n 0, 1) := by decide +kernel
theorem dL_lines_516 : decode cL_lines 516 = .ok (.bipush 8, 2) := by decide +kernel
theorem dL_lines_518 : decode cL_lines 518 = .ok (.iconst 0, 1) := by decide +kernel
theorem dL_lines_519 : decode cL_lines 519 = .ok (.invokevirtual 40, 3) := by decide +kernel
theorem dL_lines_522 : decode cL_lines 522 = .ok (.bipush 8, 2) := by decide +kernel
theorem dL_lines_524 : decode cL_lines 524 = .ok (.if_icmp .ne 130, 3) := by decide +kernel
theorem dL_lines_527 : decode cL_lines 527 = .ok (.aload_n 0, 1) := by decide +kernel
theorem dL_lines_528 : decode cL_lines 528 = .ok (.bipush 8, 2) := by decide +kernel
theorem dL_lines_530 : decode cL_lines 530 = .ok (.iconst 1, 1) := by decide +kernel
theorem dL_lines_531 : decode cL_lines 531 = .ok (.invokevirtual 40, 3) := by decide +kernel
theorem dL_lines_534 : decode cL_lines 534 = .ok (.iconst 2, 1) := by decide +kernel
theorem dL_lines_535 : decode cL_lines 535 = .ok (.if_icmp .ne 119, 3) := by decide +kernel
theorem dL_lines_538 : decode cL_lines 538 = .ok (.aload_n 0, 1) := by decide +kernel
theorem dL_lines_539 : decode cL_lines 539 = .ok (.bipush 8, 2) := by decide +kernel
theorem dL_lines_541 : decode cL_lines 541 = .ok (.iconst 2, 1) := by decide +kernel
theorem dL_lines_542 : decode cL_lines 542 = .ok (.invokevirtual 40, 3) := by decide +kernel
theorem dL_lines_545 : decode cL_lines 545 = .ok (.ifCond .ne 109, 3) := by decide +kernel
theorem dL_lines_548 : decode cL_lines 548 = .ok (.aload_n 0, 1) := by decide +kernel
theorem dL_lines_549 : decode cL_lines 549 = .ok (.bipush 8, 2) := by decide +kernel
theorem dL_lines_551 : decode cL_lines 551 = .ok (.iconst 3, 1) := by decide +kernel
theorem dL_lines_552 : decode cL_lines 552 = .ok (.invokevirtual 40, 3) := by decide +kernel
theorem dL_lines_555 : decode cL_lines 555 = .ok (.iconst 1, 1) := by decide +kernel
theorem dL_lines_556 : decode cL_lines 556 = .ok (.if_icmp .ne 98, 3) := by decide +kernel
theorem dL_lines_559 : decode cL_lines 559 = .ok (.aload_n 0, 1) := by decide +kernel
theorem dL_lines_560 : decode cL_lines 560 = .ok (.bipush 8, 2) := by decide +kernel
theorem dL_lines_562 : decode cL_lines 562 = .ok (.iconst 4, 1) := by decide +kernel
theorem dL_lines_563 : decode cL_lines 563 = .ok (.invokevirtual 40, 3) := by decide +kernel
theorem dL_lines_566 : decode cL_lines 566 = .ok (.iconst (-1), 1) := by decide +kernel
theorem dL_lines_567 : decode cL_lines 567 = .ok (.if_icmp .ne 87, 3) := by decide +kernel
theorem dL_lines_570 : decode cL_lines 570 = .ok (.aload_n 0, 1) := by decide +kernel
theorem dL_lines_571 : decode cL_lines 571 = .ok (.bipush 6, 2) := by decide +kernel
theorem dL_lines_573 : decode cL_lines 573 = .ok (.iconst 1, 1) := by decide +kernel
theorem dL_lines_574 : decode cL_lines 574 = .ok (.invokevirtual 40, 3) := by decide +kernel
theorem dL_lines_577 : decode cL_lines 577 = .ok (.iconst 1, 1) := by decide +kernel
theorem dL_lines_578 : decode cL_lines 578 = .ok (.if_icmp .ne 76, 3) := by decide +kernel
theorem dL_lines_581 : decode cL_lines 581 = .ok (.aload_n 0, 1) := by decide +kernel
theorem dL_lines_582 : decode cL_lines 582 = .ok (.bipush 6, 2) := by decide +kernel
theorem dL_lines_584 : decode cL_lines 584 = .ok (.iconst 2, 1) := by decide +kernel
theorem dL_lines_585 : decode cL_lines 585 = .ok (.invokevirtual 40, 3) := by decide +kernel
theorem dL_lines_588 : decode cL_lines 588 = .ok (.iconst (-1), 1) := by decide +kernel
theorem dL_lines_589 : decode cL_lines 589 = .ok (.if_icmp .ne 65, 3) := by decide +kernel
theorem dL_lines_592 : decode cL_lines 592 = .ok (.aload_n 0, 1) := by decide +kernel
theorem dL_lines_593 : decode cL_lines 593 = .ok (.bipush 7, 2) := by decide +kernel
theorem dL_lines_595 : decode cL_lines 595 = .ok (.iconst 1, 1) := by decide +kernel
theorem dL_lines_596 : decode cL_lines 596 = .ok (.invokevirtual 40, 3) := by decide +kernel
theorem dL_lines_599 : decode cL_lines 599 = .ok (.ifCond .ne 55, 3) := by decide +kernel
theorem dL_lines_602 : decode cL_lines 602 = .ok (.aload_n 0, 1) := by decide +kernel
theorem dL_lines_603 : decode cL_lines 603 = .ok (.bipush 10, 2) := by decide +kernel
theorem dL_lines_605 : decode cL_lines 605 = .ok (.iconst 1, 1) := by decide +kernel
theorem dL_lines_606 : decode cL_lines 606 = .ok (.invokevirtual 40, 3) := by decide +kernel
theorem dL_lines_609 : decode cL_lines 609 = .ok (.iconst 1, 1) := by decide +kernel
theorem dL_lines_610 : decode cL_lines 610 = .ok (.if_icmp .ne 44, 3) := by decide +kernel
theorem dL_lines_613 : decode cL_lines 613 = .ok (.aload_n 0, 1) := by decide +kernel
theorem dL_lines_614 : decode cL_lines 614 = .ok (.iconst 0, 1) := by decide +kernel
theorem dL_lines_615 : decode cL_lines 615 = .ok (.iconst 1, 1) := by decide +kernel
theorem dL_lines_616 : decode cL_lines 616 = .ok (.invokevirtual 40, 3) := by decide +kernel
theorem dL_lines_619 : decode cL_lines 619 = .ok (.iconst (-1), 1) := by decide +kernel
theorem dL_lines_620 : decode cL_lines 620 = .ok (.if_icmp .ne 34, 3) := by decide +kernel
theorem dL_lines_623 : decode cL_lines 623 = .ok (.aload_n 0, 1) := by decide +kernel
theorem dL_lines_624 : decode cL_lines 624 = .ok (.bipush 9, 2) := by decide +kernel
theorem dL_lines_626 : decode cL_lines 626 = .ok (.iconst 1, 1) := by decide +kernel
theorem dL_lines_627 : decode cL_lines 627 = .ok (.invokevirtual 40, 3) := by decide +kernel
theorem dL_lines_630 : decode cL_lines 630 = .ok (.ifCond .ne 24, 3) := by decide +kernel
theorem dL_lines_633 : decode cL_lines 633 = .ok (.aload_n 0, 1) := by decide +kernel
theorem dL_lines_634 : decode cL_lines 634 = .ok (.iconst 3, 1) := by decide +kernel
theorem dL_lines_635 : decode cL_lines 635 = .ok (.iconst 2, 1) := by decide +kernel
theorem dL_lines_636 : decode cL_lines 636 = .ok (.invokevirtual 40, 3) := by decide +kernel
theorem dL_lines_639 : decode cL_lines 639 = .ok (.iconst 1, 1) := by decide +kernel
theorem dL_lines_640 : decode cL_lines 640 = .ok (.if_icmp .ne 14, 3) := by decide +kernel
theorem dL_lines_643 : decode cL_lines 643 = .ok (.aload_n 0, 1) := by decide +kernel
theorem dL_lines_644 : decode cL_lines 644 = .ok (.iconst 5, 1) := by decide +kernel
theorem dL_lines_645 : decode cL_lines 645 = .ok (.ldc 77, 2) := by decide +kernel
theorem dL_lines_647 : decode cL_lines 647 = .ok (.invokevirtual 40, 3) := by decide +kernel
theorem dL_lines_650 : decode cL_lines 650 = .ok (.iconst (-1), 1) := by decide +kernel
theorem dL_lines_651 : decode cL_lines 651 = .ok (.if_icmp .eq 5, 3) := by decide +kernel
theorem dL_lines_654 : decode cL_lines 654 = .ok (.iconst 0, 1) := by decide +kernel
theorem dL_lines_655 : decode cL_lines 655 = .ok (.ireturn, 1) := by decide +kernel
theorem dL_lines_656 : decode cL_lines 656 = .ok (.aload_n 0, 1) := by decide +kernel
theorem dL_lines_657 : decode cL_lines 657 = .ok (.iconst 2, 1) := by decide +kernel
theorem dL_lines_658 : decode cL_lines 658 = .ok (.iconst 5, 1) := by decide +kernel
theorem dL_lines_659 : decode cL_lines 659 = .ok (.invokevirtual 19, 3) := by decide +kernel
theorem dL_lines_662 : decode cL_lines 662 = .ok (.ifCond .ne 64, 3) := by decide +kernel
theorem dL_lines_665 : decode cL_lines 665 = .ok (.aload_n 0, 1) := by decide +kernel
theorem dL_lines_666 : decode cL_lines 666 = .ok (.iconst 2, 1) := by decide +kernel
theorem dL_lines_667 : decode cL_lines 667 = .ok (.invokevirtual 27, 3) := by decide +kernel
theorem dL_lines_670 : decode cL_lines 670 = .ok (.sipush 1300, 3) := by decide +kernel
theorem dL_lines_673 : decode cL_lines 673 = .ok (.if_icmp .ne 53, 3) := by decide +kernel
theorem dL_lines_676 : decode cL_lines 676 = .ok (.aload_n 0, 1) := by decide +kernel
theorem dL_lines_677 : decode cL_lines 677 = .ok (.iconst 2, 1) := by decide +kernel
theorem dL_lines_678 : decode cL_lines 678 = .ok (.iconst 0, 1) := by decide +kernel
theorem dL_lines_679 : decode cL_lines 679 = .ok (.bipush (-9), 2) := by decide +kernel
theorem dL_lines_681 : decode cL_lines 681 = .ok (.bipush 99, 2) := by decide +kernel
theorem dL_lines_683 : decode cL_lines 683 = .ok (.invokestatic 80, 3) := by decide +kernel
theorem dL_lines_686 : decode cL_lines 686 = .ok (.ifCond .ne 40, 3) := by decide +kernel
theorem dL_lines_689 : decode cL_lines 689 = .ok (.aload_n 0, 1) := by decide +kernel
theorem dL_lines_690 : decode cL_lines 690 = .ok (.iconst 2, 1) := by decide +kernel
theorem dL_lines_691 : decode cL_lines 691 = .ok (.invokevirtual 27, 3) := by decide +kernel
theorem dL_lines_694 : decode cL_lines 694 = .ok (.iconst 5, 1) := by decide +kernel
theorem dL_lines_695 : decode cL_lines 695 = .ok (.if_icmp .ne 31, 3) := by decide +kernel
theorem dL_lines_698 : decode cL_lines 698 = .ok (.aload_n 0, 1) := by decide +kernel
theorem dL_lines_699 : decode cL_lines 699 = .ok (.iconst 2, 1) := by decide +kernel
theorem dL_lines_700 : decode cL_lines 700 = .ok (.iconst 0, 1) := by decide +kernel
theorem dL_lines_701 : decode cL_lines 701 = .ok (.invokevirtual 19, 3) := by decide +kernel
theorem dL_lines_704 : decode cL_lines 704 = .ok (.iconst 5, 1) := by decide +kernel
theorem dL_lines_705 : decode cL_lines 705 = .ok (.if_icmp .ne 21, 3) := by decide +kernel
theorem dL_lines_708 : decode cL_lines 708 = .ok (.aload_n 0, 1) := by decide +kernel
theorem dL_lines_709 : decode cL_lines 709 = .ok (.invokevirtual 91, 3) := by decide +kernel
theorem dL_lines_712 : decode cL_lines 712 = .ok (.iconst 3, 1) := by decide +kernel
theorem dL_lines_713 : decode cL_lines 713 = .ok (.if_icmp .ne 13, 3) := by decide +kernel
theorem dL_lines_716 : decode cL_lines 716 = .ok (.aload_n 0, 1) := by decide +kernel
theorem dL_lines_717 : decode cL_lines 717 = .ok (.sipush 1300, 3) := by decide +kernel
theorem dL_lines_720 : decode cL_lines 720 = .ok (.invokevirtual 46, 3) := by decide +kernel
theorem dL_lines_723 : decode cL_lines 723 = .ok (.ifCond .eq 5, 3) := by decide +kernel
theorem dL_lines_726 : decode cL_lines 726 = .ok (.iconst 0, 1) := by decide +kernel
theorem dL_lines_727 : decode cL_lines 727 = .ok (.ireturn, 1) := by decide +kernel
theorem dL_lines_728 : decode cL_lines 728 = .ok (.iconst 0, 1) := by decide +kernel
theorem dL_lines_729 : decode cL_lines 729 = .ok (.istore_n 1, 1) := by decide +kernel
theorem dL_lines_730 : decode cL_lines 730 = .ok (.iload_n 1, 1) := by decide +kernel
theorem dL_lines_731 : decode cL_lines 731 = .ok (.bipush 6, 2) := by decide +kernel
theorem dL_lines_733 : decode cL_lines 733 = .ok (.if_icmp .ge 40, 3) := by decide +kernel
theorem dL_lines_736 : decode cL_lines 736 = .ok (.aload_n 0, 1) := by decide +kernel
theorem dL_lines_737 : decode cL_lines 737 = .ok (.bipush 7, 2) := by decide +kernel
theorem dL_lines_739 : decode cL_lines 739 = .ok (.bipush 10, 2) := by decide +kernel
theorem dL_lines_741 : decode cL_lines 741 = .ok (.iload_n 1, 1) := by decide +kernel
theorem dL_lines_742 : decode cL_lines 742 = .ok (.imul, 1) := by decide +kernel
theorem dL_lines_743 : decode cL_lines 743 = .ok (.sipush 1000, 3) := by decide +kernel
theorem dL_lines_746 : decode cL_lines 746 = .ok (.invokestatic 85, 3) := by decide +kernel
theorem dL_lines_749 : decode cL_lines 749 = .ok (.iload_n 1, 1) := by decide +kernel
theorem dL_lines_750 : decode cL_lines 750 = .ok (.iconst 5, 1) := by decide +kernel
theorem dL_lines_751 : decode cL_lines 751 = .ok (.if_icmp .ge 9, 3) := by decide +kernel
theorem dL_lines_754 : decode cL_lines 754 = .ok (.iload_n 1, 1) := by decide +kernel
theorem dL_lines_755 : decode cL_lines 755 = .ok (.iconst 1, 1) := by decide +kernel
theorem dL_lines_756 : decode cL_lines 756 = .ok (.iadd, 1) := by decide +kernel
theorem dL_lines_757 : decode cL_lines 757 = .ok (.goto 5, 3) := by decide +kernel
theorem dL_lines_760 : decode cL_lines 760 = .ok (.bipush (-73), 2) := by decide +kernel
theorem dL_lines_762 : decode cL_lines 762 = .ok (.if_icmp .eq 5, 3) := by decide +kernel
theorem dL_lines_765 : decode cL_lines 765 = .ok (.iconst 0, 1) := by decide +kernel
theorem dL_lines_766 : decode cL_lines 766 = .ok (.ireturn, 1) := by decide +kernel
theorem dL_lines_767 : decode cL_lines 767 = .ok (.iinc 1 1, 3) := by decide +kernel
theorem dL_lines_770 : decode cL_lines 770 = .ok (.goto (-40), 3) := by decide +kernel
theorem dL_lines_773 : decode cL_lines 773 = .ok (.aload_n 0, 1) := by decide +kernel
theorem dL_lines_774 : decode cL_lines 774 = .ok (.bipush 7, 2) := by decide +kernel
theorem dL_lines_776 : decode cL_lines 776 = .ok (.bipush 40, 2) := by decide +kernel
theorem dL_lines_778 : decode cL_lines 778 = .ok (.iconst 0, 1) := by decide +kernel
theorem dL_lines_779 : decode cL_lines 779 = .ok (.invokestatic 85, 3) := by decide +kernel
theorem dL_lines_782 : decode cL_lines 782 = .ok (.iconst 5, 1) := by decide +kernel
theorem dL_lines_783 : decode cL_lines 783 = .ok (.if_icmp .ne 25, 3) := by decide +kernel
theorem dL_lines_786 : decode cL_lines 786 = .ok (.aload_n 0, 1) := by decide +kernel
theorem dL_lines_787 : decode cL_lines 787 = .ok (.bipush 100, 2) := by decide +kernel
theorem dL_lines_789 : decode cL_lines 789 = .ok (.invokevirtual 46, 3) := by decide +kernel
theorem dL_lines_792 : decode cL_lines 792 = .ok (.bipush 40, 2) := by decide +kernel
theorem dL_lines_794 : decode cL_lines 794 = .ok (.if_icmp .ne 14, 3) := by decide +kernel
theorem dL_lines_797 : decode cL_lines 797 = .ok (.aload_n 0, 1) := by decide +kernel
theorem dL_lines_798 : decode cL_lines 798 = .ok (.invokestatic 94, 3) := by decide +kernel
theorem dL_lines_801 : decode cL_lines 801 = .ok (.ifCond .eq 7, 3) := by decide +kernel
theorem dL_lines_804 : decode cL_lines 804 = .ok (.iconst 1, 1) := by decide +kernel
theorem dL_lines_805 : decode cL_lines 805 = .ok (.goto 4, 3) := by decide +kernel
theorem dL_lines_808 : decode cL_lines 808 = .ok (.iconst 0, 1) := by decide +kernel
theorem dL_lines_809 : decode cL_lines 809 = .ok (.ireturn, 1) := by decide +kernel
