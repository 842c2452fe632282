theorem dL_isStep_0 : decode cL_isStep 0 = .ok (.aload_n 0, 1) := by decide +kernel
theorem dL_isStep_1 : decode cL_isStep 1 = .ok (.iconst 0, 1) := by decide +kernel
theorem dL_isStep_2 : decode cL_isStep 2 = .ok (.invokevirtual 9, 3) := by decide +kernel
theorem dL_isStep_5 : decode cL_isStep 5 = .ok (.istore 4, 2) := by decide +kernel
theorem dL_isStep_7 : decode cL_isStep 7 = .ok (.iload_n 2, 1) := by decide +kernel
theorem dL_isStep_8 : decode cL_isStep 8 = .ok (.iconst 4, 1) := by decide +kernel
theorem dL_isStep_9 : decode cL_isStep 9 = .ok (.ishr, 1) := by decide +kernel
theorem dL_isStep_10 : decode cL_isStep 10 = .ok (.istore 5, 2) := by decide +kernel
theorem dL_isStep_12 : decode cL_isStep 12 = .ok (.iload_n 3, 1) := by decide +kernel
theorem dL_isStep_13 : decode cL_isStep 13 = .ok (.iload 4, 2) := by decide +kernel
theorem dL_isStep_15 : decode cL_isStep 15 = .ok (.iconst 1, 1) := by decide +kernel
theorem dL_isStep_16 : decode cL_isStep 16 = .ok (.iadd, 1) := by decide +kernel
theorem dL_isStep_17 : decode cL_isStep 17 = .ok (.invokestatic 15, 3) := by decide +kernel
theorem dL_isStep_20 : decode cL_isStep 20 = .ok (.istore 6, 2) := by decide +kernel
theorem dL_isStep_22 : decode cL_isStep 22 = .ok (.iload_n 3, 1) := by decide +kernel
theorem dL_isStep_23 : decode cL_isStep 23 = .ok (.iconst 3, 1) := by decide +kernel
theorem dL_isStep_24 : decode cL_isStep 24 = .ok (.ishr, 1) := by decide +kernel
theorem dL_isStep_25 : decode cL_isStep 25 = .ok (.iload 4, 2) := by decide +kernel
theorem dL_isStep_27 : decode cL_isStep 27 = .ok (.iconst 1, 1) := by decide +kernel
theorem dL_isStep_28 : decode cL_isStep 28 = .ok (.iadd, 1) := by decide +kernel
theorem dL_isStep_29 : decode cL_isStep 29 = .ok (.invokestatic 15, 3) := by decide +kernel
theorem dL_isStep_32 : decode cL_isStep 32 = .ok (.istore 7, 2) := by decide +kernel
theorem dL_isStep_34 : decode cL_isStep 34 = .ok (.iload_n 3, 1) := by decide +kernel
theorem dL_isStep_35 : decode cL_isStep 35 = .ok (.bipush 6, 2) := by decide +kernel
theorem dL_isStep_37 : decode cL_isStep 37 = .ok (.ishr, 1) := by decide +kernel
theorem dL_isStep_38 : decode cL_isStep 38 = .ok (.iload 4, 2) := by decide +kernel
theorem dL_isStep_40 : decode cL_isStep 40 = .ok (.iconst 1, 1) := by decide +kernel
theorem dL_isStep_41 : decode cL_isStep 41 = .ok (.iadd, 1) := by decide +kernel
theorem dL_isStep_42 : decode cL_isStep 42 = .ok (.invokestatic 15, 3) := by decide +kernel
theorem dL_isStep_45 : decode cL_isStep 45 = .ok (.istore 8, 2) := by decide +kernel
theorem dL_isStep_47 : decode cL_isStep 47 = .ok (.iload_n 2, 1) := by decide +kernel
theorem dL_isStep_48 : decode cL_isStep 48 = .ok (.bipush 12, 2) := by decide +kernel
theorem dL_isStep_50 : decode cL_isStep 50 = .ok (.invokestatic 15, 3) := by decide +kernel
theorem dL_isStep_53 : decode cL_isStep 53 = .ok (.istore 9, 2) := by decide +kernel
theorem dL_isStep_55 : decode cL_isStep 55 = .ok (.iload 9, 2) := by decide +kernel
theorem dL_isStep_57 : decode cL_isStep 57 = .ok (.bipush 8, 2) := by decide +kernel
theorem dL_isStep_59 : decode cL_isStep 59 = .ok (.if_icmp .ge 43, 3) := by decide +kernel
theorem dL_isStep_62 : decode cL_isStep 62 = .ok (.iload 4, 2) := by decide +kernel
theorem dL_isStep_64 : decode cL_isStep 64 = .ok (.bipush 8, 2) := by decide +kernel
theorem dL_isStep_66 : decode cL_isStep 66 = .ok (.if_icmp .ne 36, 3) := by decide +kernel
theorem dL_isStep_69 : decode cL_isStep 69 = .ok (.aload_n 0, 1) := by decide +kernel
theorem dL_isStep_70 : decode cL_isStep 70 = .ok (.invokevirtual 21, 3) := by decide +kernel
theorem dL_isStep_73 : decode cL_isStep 73 = .ok (.bipush 7, 2) := by decide +kernel
theorem dL_isStep_75 : decode cL_isStep 75 = .ok (.if_icmp .ne 25, 3) := by decide +kernel
theorem dL_isStep_78 : decode cL_isStep 78 = .ok (.aload_n 1, 1) := by decide +kernel
theorem dL_isStep_79 : decode cL_isStep 79 = .ok (.invokevirtual 21, 3) := by decide +kernel
theorem dL_isStep_82 : decode cL_isStep 82 = .ok (.bipush 15, 2) := by decide +kernel
theorem dL_isStep_84 : decode cL_isStep 84 = .ok (.if_icmp .ne 16, 3) := by decide +kernel
theorem dL_isStep_87 : decode cL_isStep 87 = .ok (.aload_n 1, 1) := by decide +kernel
theorem dL_isStep_88 : decode cL_isStep 88 = .ok (.invokevirtual 21, 3) := by decide +kernel
theorem dL_isStep_91 : decode cL_isStep 91 = .ok (.bipush 14, 2) := by decide +kernel
theorem dL_isStep_93 : decode cL_isStep 93 = .ok (.if_icmp .ne 7, 3) := by decide +kernel
theorem dL_isStep_96 : decode cL_isStep 96 = .ok (.iconst 1, 1) := by decide +kernel
theorem dL_isStep_97 : decode cL_isStep 97 = .ok (.goto 4, 3) := by decide +kernel
theorem dL_isStep_100 : decode cL_isStep 100 = .ok (.iconst 0, 1) := by decide +kernel
theorem dL_isStep_101 : decode cL_isStep 101 = .ok (.ireturn, 1) := by decide +kernel
theorem dL_isStep_102 : decode cL_isStep 102 = .ok (.iload 9, 2) := by decide +kernel
theorem dL_isStep_104 : decode cL_isStep 104 = .ok (.tableswitch 912 0 10 #[60, 60, 60, 132, 132, 427, 534, 609, 700, 817, 874], 60) := by decide +kernel
theorem dL_isStep_164 : decode cL_isStep 164 = .ok (.iload 5, 2) := by decide +kernel
theorem dL_isStep_166 : decode cL_isStep 166 = .ok (.sipush 257, 3) := by decide +kernel
theorem dL_isStep_169 : decode cL_isStep 169 = .ok (.invokestatic 15, 3) := by decide +kernel
theorem dL_isStep_172 : decode cL_isStep 172 = .ok (.istore 10, 2) := by decide +kernel
theorem dL_isStep_174 : decode cL_isStep 174 = .ok (.iconst 1, 1) := by decide +kernel
theorem dL_isStep_175 : decode cL_isStep 175 = .ok (.iload_n 3, 1) := by decide +kernel
theorem dL_isStep_176 : decode cL_isStep 176 = .ok (.sipush 255, 3) := by decide +kernel
theorem dL_isStep_179 : decode cL_isStep 179 = .ok (.invokestatic 15, 3) := by decide +kernel
theorem dL_isStep_182 : decode cL_isStep 182 = .ok (.iadd, 1) := by decide +kernel
theorem dL_isStep_183 : decode cL_isStep 183 = .ok (.istore 11, 2) := by decide +kernel
theorem dL_isStep_185 : decode cL_isStep 185 = .ok (.aload_n 0, 1) := by decide +kernel
theorem dL_isStep_186 : decode cL_isStep 186 = .ok (.iload 10, 2) := by decide +kernel
theorem dL_isStep_188 : decode cL_isStep 188 = .ok (.iload 11, 2) := by decide +kernel
theorem dL_isStep_190 : decode cL_isStep 190 = .ok (.invokevirtual 25, 3) := by decide +kernel
theorem dL_isStep_193 : decode cL_isStep 193 = .ok (.iload 4, 2) := by decide +kernel
theorem dL_isStep_195 : decode cL_isStep 195 = .ok (.if_icmp .ne 39, 3) := by decide +kernel
theorem dL_isStep_198 : decode cL_isStep 198 = .ok (.aload_n 1, 1) := by decide +kernel
theorem dL_isStep_199 : decode cL_isStep 199 = .ok (.iload 10, 2) := by decide +kernel
theorem dL_isStep_201 : decode cL_isStep 201 = .ok (.iload 11, 2) := by decide +kernel
theorem dL_isStep_203 : decode cL_isStep 203 = .ok (.invokevirtual 25, 3) := by decide +kernel
theorem dL_isStep_206 : decode cL_isStep 206 = .ok (.iconst 2, 1) := by decide +kernel
theorem dL_isStep_207 : decode cL_isStep 207 = .ok (.iload 4, 2) := by decide +kernel
theorem dL_isStep_209 : decode cL_isStep 209 = .ok (.imul, 1) := by decide +kernel
theorem dL_isStep_210 : decode cL_isStep 210 = .ok (.if_icmp .ne 24, 3) := by decide +kernel
theorem dL_isStep_213 : decode cL_isStep 213 = .ok (.aload_n 1, 1) := by decide +kernel
theorem dL_isStep_214 : decode cL_isStep 214 = .ok (.iconst 2, 1) := by decide +kernel
theorem dL_isStep_215 : decode cL_isStep 215 = .ok (.iload 4, 2) := by decide +kernel
theorem dL_isStep_217 : decode cL_isStep 217 = .ok (.imul, 1) := by decide +kernel
theorem dL_isStep_218 : decode cL_isStep 218 = .ok (.invokevirtual 28, 3) := by decide +kernel
theorem dL_isStep_221 : decode cL_isStep 221 = .ok (.iconst 2, 1) := by decide +kernel
theorem dL_isStep_222 : decode cL_isStep 222 = .ok (.iload 4, 2) := by decide +kernel
theorem dL_isStep_224 : decode cL_isStep 224 = .ok (.imul, 1) := by decide +kernel
theorem dL_isStep_225 : decode cL_isStep 225 = .ok (.iconst 1, 1) := by decide +kernel
theorem dL_isStep_226 : decode cL_isStep 226 = .ok (.iadd, 1) := by decide +kernel
theorem dL_isStep_227 : decode cL_isStep 227 = .ok (.if_icmp .ne 7, 3) := by decide +kernel
theorem dL_isStep_230 : decode cL_isStep 230 = .ok (.iconst 1, 1) := by decide +kernel
theorem dL_isStep_231 : decode cL_isStep 231 = .ok (.goto 4, 3) := by decide +kernel
theorem dL_isStep_234 : decode cL_isStep 234 = .ok (.iconst 0, 1) := by decide +kernel
theorem dL_isStep_235 : decode cL_isStep 235 = .ok (.ireturn, 1) := by decide +kernel
theorem dL_isStep_236 : decode cL_isStep 236 = .ok (.iconst 1, 1) := by decide +kernel
theorem dL_isStep_237 : decode cL_isStep 237 = .ok (.iload 5, 2) := by decide +kernel
theorem dL_isStep_239 : decode cL_isStep 239 = .ok (.iconst 3, 1) := by decide +kernel
theorem dL_isStep_240 : decode cL_isStep 240 = .ok (.invokestatic 15, 3) := by decide +kernel
theorem dL_isStep_243 : decode cL_isStep 243 = .ok (.iadd, 1) := by decide +kernel
theorem dL_isStep_244 : decode cL_isStep 244 = .ok (.istore 10, 2) := by decide +kernel
theorem dL_isStep_246 : decode cL_isStep 246 = .ok (.iload 6, 2) := by decide +kernel
theorem dL_isStep_248 : decode cL_isStep 248 = .ok (.iload 4, 2) := by decide +kernel
theorem dL_isStep_250 : decode cL_isStep 250 = .ok (.if_icmp .eq 10, 3) := by decide +kernel
theorem dL_isStep_253 : decode cL_isStep 253 = .ok (.iload 7, 2) := by decide +kernel
theorem dL_isStep_255 : decode cL_isStep 255 = .ok (.iload 4, 2) := by decide +kernel
theorem dL_isStep_257 : decode cL_isStep 257 = .ok (.if_icmp .ne 24, 3) := by decide +kernel
theorem dL_isStep_260 : decode cL_isStep 260 = .ok (.aload_n 0, 1) := by decide +kernel
theorem dL_isStep_261 : decode cL_isStep 261 = .ok (.iload 10, 2) := by decide +kernel
theorem dL_isStep_263 : decode cL_isStep 263 = .ok (.iload 6, 2) := by decide +kernel
theorem dL_isStep_265 : decode cL_isStep 265 = .ok (.iload 7, 2) := by decide +kernel
theorem dL_isStep_267 : decode cL_isStep 267 = .ok (.invokevirtual 31, 3) := by decide +kernel
theorem dL_isStep_270 : decode cL_isStep 270 = .ok (.ldc 35, 2) := by decide +kernel
theorem dL_isStep_272 : decode cL_isStep 272 = .ok (.if_icmp .ne 7, 3) := by decide +kernel
theorem dL_isStep_275 : decode cL_isStep 275 = .ok (.iconst 1, 1) := by decide +kernel
theorem dL_isStep_276 : decode cL_isStep 276 = .ok (.goto 4, 3) := by decide +kernel
theorem dL_isStep_279 : decode cL_isStep 279 = .ok (.iconst 0, 1) := by decide +kernel
theorem dL_isStep_280 : decode cL_isStep 280 = .ok (.ireturn, 1) := by decide +kernel
theorem dL_isStep_281 : decode cL_isStep 281 = .ok (.iload 10, 2) := by decide +kernel
theorem dL_isStep_283 : decode cL_isStep 283 = .ok (.iconst 3, 1) := by decide +kernel
theorem dL_isStep_284 : decode cL_isStep 284 = .ok (.if_icmp .ne 64, 3) := by decide +kernel
theorem dL_isStep_287 : decode cL_isStep 287 = .ok (.aload_n 0, 1) := by decide +kernel
theorem dL_isStep_288 : decode cL_isStep 288 = .ok (.iconst 3, 1) := by decide +kernel
theorem dL_isStep_289 : decode cL_isStep 289 = .ok (.iload 6, 2) := by decide +kernel
theorem dL_isStep_291 : decode cL_isStep 291 = .ok (.iload 7, 2) := by decide +kernel
theorem dL_isStep_293 : decode cL_isStep 293 = .ok (.invokevirtual 31, 3) := by decide +kernel
theorem dL_isStep_296 : decode cL_isStep 296 = .ok (.iload 4, 2) := by decide +kernel
theorem dL_isStep_298 : decode cL_isStep 298 = .ok (.if_icmp .ne 48, 3) := by decide +kernel
theorem dL_isStep_301 : decode cL_isStep 301 = .ok (.aload_n 1, 1) := by decide +kernel
theorem dL_isStep_302 : decode cL_isStep 302 = .ok (.iconst 3, 1) := by decide +kernel
theorem dL_isStep_303 : decode cL_isStep 303 = .ok (.iconst 2, 1) := by decide +kernel
theorem dL_isStep_304 : decode cL_isStep 304 = .ok (.iload 6, 2) := by decide +kernel
theorem dL_isStep_306 : decode cL_isStep 306 = .ok (.imul, 1) := by decide +kernel
theorem dL_isStep_307 : decode cL_isStep 307 = .ok (.iconst 1, 1) := by decide +kernel
theorem dL_isStep_308 : decode cL_isStep 308 = .ok (.iadd, 1) := by decide +kernel
theorem dL_isStep_309 : decode cL_isStep 309 = .ok (.iconst 2, 1) := by decide +kernel
theorem dL_isStep_310 : decode cL_isStep 310 = .ok (.iload 7, 2) := by decide +kernel
theorem dL_isStep_312 : decode cL_isStep 312 = .ok (.imul, 1) := by decide +kernel
theorem dL_isStep_313 : decode cL_isStep 313 = .ok (.iconst 1, 1) := by decide +kernel
theorem dL_isStep_314 : decode cL_isStep 314 = .ok (.iadd, 1) := by decide +kernel
theorem dL_isStep_315 : decode cL_isStep 315 = .ok (.invokevirtual 31, 3) := by decide +kernel
theorem dL_isStep_318 : decode cL_isStep 318 = .ok (.iconst 2, 1) := by decide +kernel
theorem dL_isStep_319 : decode cL_isStep 319 = .ok (.iload 4, 2) := by decide +kernel
theorem dL_isStep_321 : decode cL_isStep 321 = .ok (.imul, 1) := by decide +kernel
theorem dL_isStep_322 : decode cL_isStep 322 = .ok (.if_icmp .ne 24, 3) := by decide +kernel
theorem dL_isStep_325 : decode cL_isStep 325 = .ok (.aload_n 1, 1) := by decide +kernel
theorem dL_isStep_326 : decode cL_isStep 326 = .ok (.iconst 2, 1) := by decide +kernel
theorem dL_isStep_327 : decode cL_isStep 327 = .ok (.iload 4, 2) := by decide +kernel
theorem dL_isStep_329 : decode cL_isStep 329 = .ok (.imul, 1) := by decide +kernel
theorem dL_isStep_330 : decode cL_isStep 330 = .ok (.invokevirtual 28, 3) := by decide +kernel
theorem dL_isStep_333 : decode cL_isStep 333 = .ok (.iconst 2, 1) := by decide +kernel
theorem dL_isStep_334 : decode cL_isStep 334 = .ok (.iload 4, 2) := by decide +kernel
theorem dL_isStep_336 : decode cL_isStep 336 = .ok (.imul, 1) := by decide +kernel
theorem dL_isStep_337 : decode cL_isStep 337 = .ok (.iconst 1, 1) := by decide +kernel
theorem dL_isStep_338 : decode cL_isStep 338 = .ok (.iadd, 1) := by decide +kernel
theorem dL_isStep_339 : decode cL_isStep 339 = .ok (.if_icmp .ne 7, 3) := by decide +kernel
theorem dL_isStep_342 : decode cL_isStep 342 = .ok (.iconst 1, 1) := by decide +kernel
theorem dL_isStep_343 : decode cL_isStep 343 = .ok (.goto 4, 3) := by decide +kernel
theorem dL_isStep_346 : decode cL_isStep 346 = .ok (.iconst 0, 1) := by decide +kernel
theorem dL_isStep_347 : decode cL_isStep 347 = .ok (.ireturn, 1) := by decide +kernel
theorem dL_isStep_348 : decode cL_isStep 348 = .ok (.aload_n 0, 1) := by decide +kernel
theorem dL_isStep_349 : decode cL_isStep 349 = .ok (.iload 10, 2) := by decide +kernel
theorem dL_isStep_351 : decode cL_isStep 351 = .ok (.iload 6, 2) := by decide +kernel
theorem dL_isStep_353 : decode cL_isStep 353 = .ok (.iload 7, 2) := by decide +kernel
theorem dL_isStep_355 : decode cL_isStep 355 = .ok (.invokevirtual 31, 3) := by decide +kernel
theorem dL_isStep_358 : decode cL_isStep 358 = .ok (.iload 4, 2) := by decide +kernel
theorem dL_isStep_360 : decode cL_isStep 360 = .ok (.if_icmp .ne 95, 3) := by decide +kernel
theorem dL_isStep_363 : decode cL_isStep 363 = .ok (.aload_n 1, 1) := by decide +kernel
theorem dL_isStep_364 : decode cL_isStep 364 = .ok (.iconst 3, 1) := by decide +kernel
theorem dL_isStep_365 : decode cL_isStep 365 = .ok (.iload 10, 2) := by decide +kernel
theorem dL_isStep_367 : decode cL_isStep 367 = .ok (.isub, 1) := by decide +kernel
theorem dL_isStep_368 : decode cL_isStep 368 = .ok (.iconst 2, 1) := by decide +kernel
theorem dL_isStep_369 : decode cL_isStep 369 = .ok (.iload 6, 2) := by decide +kernel
theorem dL_isStep_371 : decode cL_isStep 371 = .ok (.imul, 1) := by decide +kernel
theorem dL_isStep_372 : decode cL_isStep 372 = .ok (.iconst 1, 1) := by decide +kernel
theorem dL_isStep_373 : decode cL_isStep 373 = .ok (.iadd, 1) := by decide +kernel
theorem dL_isStep_374 : decode cL_isStep 374 = .ok (.iconst 2, 1) := by decide +kernel
theorem dL_isStep_375 : decode cL_isStep 375 = .ok (.iload 7, 2) := by decide +kernel
theorem dL_isStep_377 : decode cL_isStep 377 = .ok (.imul, 1) := by decide +kernel
theorem dL_isStep_378 : decode cL_isStep 378 = .ok (.iconst 1, 1) := by decide +kernel
theorem dL_isStep_379 : decode cL_isStep 379 = .ok (.iadd, 1) := by decide +kernel
theorem dL_isStep_380 : decode cL_isStep 380 = .ok (.invokevirtual 31, 3) := by decide +kernel
theorem dL_isStep_383 : decode cL_isStep 383 = .ok (.iconst 2, 1) := by decide +kernel
theorem dL_isStep_384 : decode cL_isStep 384 = .ok (.iload 4, 2) := by decide +kernel
theorem dL_isStep_386 : decode cL_isStep 386 = .ok (.imul, 1) := by decide +kernel
theorem dL_isStep_387 : decode cL_isStep 387 = .ok (.if_icmp .ne 68, 3) := by decide +kernel
theorem dL_isStep_390 : decode cL_isStep 390 = .ok (.aload_n 1, 1) := by decide +kernel
theorem dL_isStep_391 : decode cL_isStep 391 = .ok (.iconst 2, 1) := by decide +kernel
theorem dL_isStep_392 : decode cL_isStep 392 = .ok (.iload 4, 2) := by decide +kernel
theorem dL_isStep_394 : decode cL_isStep 394 = .ok (.imul, 1) := by decide +kernel
theorem dL_isStep_395 : decode cL_isStep 395 = .ok (.invokevirtual 28, 3) := by decide +kernel
theorem dL_isStep_398 : decode cL_isStep 398 = .ok (.iconst 2, 1) := by decide +kernel
theorem dL_isStep_399 : decode cL_isStep 399 = .ok (.iload 4, 2) := by decide +kernel
theorem dL_isStep_401 : decode cL_isStep 401 = .ok (.imul, 1) := by decide +kernel
theorem dL_isStep_402 : decode cL_isStep 402 = .ok (.iconst 1, 1) := by decide +kernel
theorem dL_isStep_403 : decode cL_isStep 403 = .ok (.iadd, 1) := by decide +kernel
theorem dL_isStep_404 : decode cL_isStep 404 = .ok (.if_icmp .ne 51, 3) := by decide +kernel
theorem dL_isStep_407 : decode cL_isStep 407 = .ok (.aload_n 1, 1) := by decide +kernel
theorem dL_isStep_408 : decode cL_isStep 408 = .ok (.iconst 2, 1) := by decide +kernel
theorem dL_isStep_409 : decode cL_isStep 409 = .ok (.iload 4, 2) := by decide +kernel
theorem dL_isStep_411 : decode cL_isStep 411 = .ok (.imul, 1) := by decide +kernel
theorem dL_isStep_412 : decode cL_isStep 412 = .ok (.iconst 1, 1) := by decide +kernel
theorem dL_isStep_413 : decode cL_isStep 413 = .ok (.iadd, 1) := by decide +kernel
theorem dL_isStep_414 : decode cL_isStep 414 = .ok (.iconst 4, 1) := by decide +kernel
theorem dL_isStep_415 : decode cL_isStep 415 = .ok (.invokevirtual 36, 3) := by decide +kernel
theorem dL_isStep_418 : decode cL_isStep 418 = .ok (.aload_n 0, 1) := by decide +kernel
theorem dL_isStep_419 : decode cL_isStep 419 = .ok (.iload 4, 2) := by decide +kernel
theorem dL_isStep_421 : decode cL_isStep 421 = .ok (.iconst 4, 1) := by decide +kernel
theorem dL_isStep_422 : decode cL_isStep 422 = .ok (.invokevirtual 36, 3) := by decide +kernel
theorem dL_isStep_425 : decode cL_isStep 425 = .ok (.if_icmp .ne 30, 3) := by decide +kernel
theorem dL_isStep_428 : decode cL_isStep 428 = .ok (.aload_n 1, 1) := by decide +kernel
theorem dL_isStep_429 : decode cL_isStep 429 = .ok (.iconst 2, 1) := by decide +kernel
theorem dL_isStep_430 : decode cL_isStep 430 = .ok (.iload 4, 2) := by decide +kernel
theorem dL_isStep_432 : decode cL_isStep 432 = .ok (.imul, 1) := by decide +kernel
theorem dL_isStep_433 : decode cL_isStep 433 = .ok (.bipush 33, 2) := by decide +kernel
theorem dL_isStep_435 : decode cL_isStep 435 = .ok (.invokevirtual 39, 3) := by decide +kernel
theorem dL_isStep_438 : decode cL_isStep 438 = .ok (.iconst 1, 1) := by decide +kernel
theorem dL_isStep_439 : decode cL_isStep 439 = .ok (.aload_n 0, 1) := by decide +kernel
theorem dL_isStep_440 : decode cL_isStep 440 = .ok (.iload 4, 2) := by decide +kernel
theorem dL_isStep_442 : decode cL_isStep 442 = .ok (.bipush 33, 2) := by decide +kernel
theorem dL_isStep_444 : decode cL_isStep 444 = .ok (.invokevirtual 39, 3) := by decide +kernel
theorem dL_isStep_447 : decode cL_isStep 447 = .ok (.isub, 1) := by decide +kernel
theorem dL_isStep_448 : decode cL_isStep 448 = .ok (.if_icmp .ne 7, 3) := by decide +kernel
theorem dL_isStep_451 : decode cL_isStep 451 = .ok (.iconst 1, 1) := by decide +kernel
theorem dL_isStep_452 : decode cL_isStep 452 = .ok (.goto 4, 3) := by decide +kernel
theorem dL_isStep_455 : decode cL_isStep 455 = .ok (.iconst 0, 1) := by decide +kernel
theorem dL_isStep_456 : decode cL_isStep 456 = .ok (.istore 11, 2) := by decide +kernel
theorem dL_isStep_458 : decode cL_isStep 458 = .ok (.iload 11, 2) := by decide +kernel
theorem dL_isStep_460 : decode cL_isStep 460 = .ok (.ifCond .eq 69, 3) := by decide +kernel
theorem dL_isStep_463 : decode cL_isStep 463 = .ok (.aload_n 1, 1) := by decide +kernel
theorem dL_isStep_464 : decode cL_isStep 464 = .ok (.invokevirtual 21, 3) := by decide +kernel
theorem dL_isStep_467 : decode cL_isStep 467 = .ok (.iconst 2, 1) := by decide +kernel
theorem dL_isStep_468 : decode cL_isStep 468 = .ok (.iload 4, 2) := by decide +kernel
theorem dL_isStep_470 : decode cL_isStep 470 = .ok (.imul, 1) := by decide +kernel
theorem dL_isStep_471 : decode cL_isStep 471 = .ok (.iconst 1, 1) := by decide +kernel
theorem dL_isStep_472 : decode cL_isStep 472 = .ok (.iadd, 1) := by decide +kernel
theorem dL_isStep_473 : decode cL_isStep 473 = .ok (.if_icmp .ne 56, 3) := by decide +kernel
theorem dL_isStep_476 : decode cL_isStep 476 = .ok (.aload_n 1, 1) := by decide +kernel
theorem dL_isStep_477 : decode cL_isStep 477 = .ok (.invokevirtual 21, 3) := by decide +kernel
theorem dL_isStep_480 : decode cL_isStep 480 = .ok (.iconst 2, 1) := by decide +kernel
theorem dL_isStep_481 : decode cL_isStep 481 = .ok (.iload 4, 2) := by decide +kernel
theorem dL_isStep_483 : decode cL_isStep 483 = .ok (.imul, 1) := by decide +kernel
theorem dL_isStep_484 : decode cL_isStep 484 = .ok (.if_icmp .ne 45, 3) := by decide +kernel
theorem dL_isStep_487 : decode cL_isStep 487 = .ok (.aload_n 1, 1) := by decide +kernel
theorem dL_isStep_488 : decode cL_isStep 488 = .ok (.iload 10, 2) := by decide +kernel
theorem dL_isStep_490 : decode cL_isStep 490 = .ok (.iconst 2, 1) := by decide +kernel
theorem dL_isStep_491 : decode cL_isStep 491 = .ok (.iload 6, 2) := by decide +kernel
theorem dL_isStep_493 : decode cL_isStep 493 = .ok (.imul, 1) := by decide +kernel
theorem dL_isStep_494 : decode cL_isStep 494 = .ok (.iconst 2, 1) := by decide +kernel
theorem dL_isStep_495 : decode cL_isStep 495 = .ok (.iload 7, 2) := by decide +kernel
theorem dL_isStep_497 : decode cL_isStep 497 = .ok (.imul, 1) := by decide +kernel
theorem dL_isStep_498 : decode cL_isStep 498 = .ok (.invokevirtual 31, 3) := by decide +kernel
theorem dL_isStep_501 : decode cL_isStep 501 = .ok (.iconst 2, 1) := by decide +kernel
theorem dL_isStep_502 : decode cL_isStep 502 = .ok (.iload 4, 2) := by decide +kernel
theorem dL_isStep_504 : decode cL_isStep 504 = .ok (.imul, 1) := by decide +kernel
theorem dL_isStep_505 : decode cL_isStep 505 = .ok (.if_icmp .ne 24, 3) := by decide +kernel
theorem dL_isStep_508 : decode cL_isStep 508 = .ok (.aload_n 1, 1) := by decide +kernel
theorem dL_isStep_509 : decode cL_isStep 509 = .ok (.iconst 2, 1) := by decide +kernel
