theorem dX3_init_0 : decode cX3_init 0 = .ok (.aload_n 0, 1) := by decide +kernel
theorem dX3_init_1 : decode cX3_init 1 = .ok (.invokespecial 3, 3) := by decide +kernel
theorem dX3_init_4 : decode cX3_init 4 = .ok (.aload_n 0, 1) := by decide +kernel
theorem dX3_init_5 : decode cX3_init 5 = .ok (.new 9, 3) := by decide +kernel
theorem dX3_init_8 : decode cX3_init 8 = .ok (.dup, 1) := by decide +kernel
theorem dX3_init_9 : decode cX3_init 9 = .ok (.invokespecial 11, 3) := by decide +kernel
theorem dX3_init_12 : decode cX3_init 12 = .ok (.putfield 12, 3) := by decide +kernel
theorem dX3_init_15 : decode cX3_init 15 = .ok (.aload_n 0, 1) := by decide +kernel
theorem dX3_init_16 : decode cX3_init 16 = .ok (.new 18, 3) := by decide +kernel
theorem dX3_init_19 : decode cX3_init 19 = .ok (.dup, 1) := by decide +kernel
theorem dX3_init_20 : decode cX3_init 20 = .ok (.invokespecial 20, 3) := by decide +kernel
theorem dX3_init_23 : decode cX3_init 23 = .ok (.putfield 21, 3) := by decide +kernel
theorem dX3_init_26 : decode cX3_init 26 = .ok (.aload_n 0, 1) := by decide +kernel
theorem dX3_init_27 : decode cX3_init 27 = .ok (.bipush 8, 2) := by decide +kernel
theorem dX3_init_29 : decode cX3_init 29 = .ok (.newarray .int, 2) := by decide +kernel
theorem dX3_init_31 : decode cX3_init 31 = .ok (.putfield 25, 3) := by decide +kernel
theorem dX3_init_34 : decode cX3_init 34 = .ok (.aload_n 0, 1) := by decide +kernel
theorem dX3_init_35 : decode cX3_init 35 = .ok (.iconst 1, 1) := by decide +kernel
theorem dX3_init_36 : decode cX3_init 36 = .ok (.putfield 29, 3) := by decide +kernel
theorem dX3_init_39 : decode cX3_init 39 = .ok (.return_, 1) := by decide +kernel
theorem dX3_takeTurn_0 : decode cX3_takeTurn 0 = .ok (.aload_n 1, 1) := by decide +kernel
theorem dX3_takeTurn_1 : decode cX3_takeTurn 1 = .ok (.getfield 33, 3) := by decide +kernel
theorem dX3_takeTurn_4 : decode cX3_takeTurn 4 = .ok (.iconst 2, 1) := by decide +kernel
theorem dX3_takeTurn_5 : decode cX3_takeTurn 5 = .ok (.aaload, 1) := by decide +kernel
theorem dX3_takeTurn_6 : decode cX3_takeTurn 6 = .ok (.astore_n 2, 1) := by decide +kernel
theorem dX3_takeTurn_7 : decode cX3_takeTurn 7 = .ok (.aload_n 2, 1) := by decide +kernel
theorem dX3_takeTurn_8 : decode cX3_takeTurn 8 = .ok (.aload_n 0, 1) := by decide +kernel
theorem dX3_takeTurn_9 : decode cX3_takeTurn 9 = .ok (.getfield 39, 3) := by decide +kernel
theorem dX3_takeTurn_12 : decode cX3_takeTurn 12 = .ok (.ifCond .eq 11, 3) := by decide +kernel
theorem dX3_takeTurn_15 : decode cX3_takeTurn 15 = .ok (.aload_n 2, 1) := by decide +kernel
theorem dX3_takeTurn_16 : decode cX3_takeTurn 16 = .ok (.iconst 3, 1) := by decide +kernel
theorem dX3_takeTurn_17 : decode cX3_takeTurn 17 = .ok (.invokevirtual 43, 3) := by decide +kernel
theorem dX3_takeTurn_20 : decode cX3_takeTurn 20 = .ok (.goto 4, 3) := by decide +kernel
theorem dX3_takeTurn_23 : decode cX3_takeTurn 23 = .ok (.iconst 0, 1) := by decide +kernel
theorem dX3_takeTurn_24 : decode cX3_takeTurn 24 = .ok (.invokevirtual 49, 3) := by decide +kernel
theorem dX3_takeTurn_27 : decode cX3_takeTurn 27 = .ok (.astore_n 3, 1) := by decide +kernel
theorem dX3_takeTurn_28 : decode cX3_takeTurn 28 = .ok (.aload_n 3, 1) := by decide +kernel
theorem dX3_takeTurn_29 : decode cX3_takeTurn 29 = .ok (.ifnonnull 4, 3) := by decide +kernel
theorem dX3_takeTurn_32 : decode cX3_takeTurn 32 = .ok (.return_, 1) := by decide +kernel
theorem dX3_takeTurn_33 : decode cX3_takeTurn 33 = .ok (.aload_n 3, 1) := by decide +kernel
theorem dX3_takeTurn_34 : decode cX3_takeTurn 34 = .ok (.getfield 53, 3) := by decide +kernel
theorem dX3_takeTurn_37 : decode cX3_takeTurn 37 = .ok (.tableswitch 380 1 42 #[183, 345, 233, 249, 345, 210, 345, 380, 380, 380, 380, 380, 380, 380, 380, 380, 380, 380, 380, 380, 380, 269, 380, 380, 380, 380, 380, 380, 380, 293, 321, 380, 380, 380, 380, 380, 380, 380, 380, 380, 380, 281], 183) := by decide +kernel
theorem dX3_takeTurn_220 : decode cX3_takeTurn 220 = .ok (.aload_n 1, 1) := by decide +kernel
theorem dX3_takeTurn_221 : decode cX3_takeTurn 221 = .ok (.iconst 2, 1) := by decide +kernel
theorem dX3_takeTurn_222 : decode cX3_takeTurn 222 = .ok (.aload_n 3, 1) := by decide +kernel
theorem dX3_takeTurn_223 : decode cX3_takeTurn 223 = .ok (.getfield 58, 3) := by decide +kernel
theorem dX3_takeTurn_226 : decode cX3_takeTurn 226 = .ok (.bipush 50, 2) := by decide +kernel
theorem dX3_takeTurn_228 : decode cX3_takeTurn 228 = .ok (.aload_n 0, 1) := by decide +kernel
theorem dX3_takeTurn_229 : decode cX3_takeTurn 229 = .ok (.aload_n 3, 1) := by decide +kernel
theorem dX3_takeTurn_230 : decode cX3_takeTurn 230 = .ok (.getfield 58, 3) := by decide +kernel
theorem dX3_takeTurn_233 : decode cX3_takeTurn 233 = .ok (.aload_n 3, 1) := by decide +kernel
theorem dX3_takeTurn_234 : decode cX3_takeTurn 234 = .ok (.getfield 61, 3) := by decide +kernel
theorem dX3_takeTurn_237 : decode cX3_takeTurn 237 = .ok (.invokevirtual 64, 3) := by decide +kernel
theorem dX3_takeTurn_240 : decode cX3_takeTurn 240 = .ok (.iconst 0, 1) := by decide +kernel
theorem dX3_takeTurn_241 : decode cX3_takeTurn 241 = .ok (.invokevirtual 68, 3) := by decide +kernel
theorem dX3_takeTurn_244 : decode cX3_takeTurn 244 = .ok (.goto 173, 3) := by decide +kernel
theorem dX3_takeTurn_247 : decode cX3_takeTurn 247 = .ok (.aload_n 1, 1) := by decide +kernel
theorem dX3_takeTurn_248 : decode cX3_takeTurn 248 = .ok (.iconst 2, 1) := by decide +kernel
theorem dX3_takeTurn_249 : decode cX3_takeTurn 249 = .ok (.aload_n 3, 1) := by decide +kernel
theorem dX3_takeTurn_250 : decode cX3_takeTurn 250 = .ok (.getfield 58, 3) := by decide +kernel
theorem dX3_takeTurn_253 : decode cX3_takeTurn 253 = .ok (.bipush 50, 2) := by decide +kernel
theorem dX3_takeTurn_255 : decode cX3_takeTurn 255 = .ok (.aload_n 0, 1) := by decide +kernel
theorem dX3_takeTurn_256 : decode cX3_takeTurn 256 = .ok (.aload_n 3, 1) := by decide +kernel
theorem dX3_takeTurn_257 : decode cX3_takeTurn 257 = .ok (.getfield 61, 3) := by decide +kernel
theorem dX3_takeTurn_260 : decode cX3_takeTurn 260 = .ok (.invokevirtual 72, 3) := by decide +kernel
theorem dX3_takeTurn_263 : decode cX3_takeTurn 263 = .ok (.iconst 0, 1) := by decide +kernel
theorem dX3_takeTurn_264 : decode cX3_takeTurn 264 = .ok (.invokevirtual 68, 3) := by decide +kernel
theorem dX3_takeTurn_267 : decode cX3_takeTurn 267 = .ok (.goto 150, 3) := by decide +kernel
theorem dX3_takeTurn_270 : decode cX3_takeTurn 270 = .ok (.aload_n 0, 1) := by decide +kernel
theorem dX3_takeTurn_271 : decode cX3_takeTurn 271 = .ok (.aload_n 1, 1) := by decide +kernel
theorem dX3_takeTurn_272 : decode cX3_takeTurn 272 = .ok (.aload_n 3, 1) := by decide +kernel
theorem dX3_takeTurn_273 : decode cX3_takeTurn 273 = .ok (.getfield 58, 3) := by decide +kernel
theorem dX3_takeTurn_276 : decode cX3_takeTurn 276 = .ok (.aload_n 3, 1) := by decide +kernel
theorem dX3_takeTurn_277 : decode cX3_takeTurn 277 = .ok (.getfield 61, 3) := by decide +kernel
theorem dX3_takeTurn_280 : decode cX3_takeTurn 280 = .ok (.invokevirtual 75, 3) := by decide +kernel
theorem dX3_takeTurn_283 : decode cX3_takeTurn 283 = .ok (.goto 134, 3) := by decide +kernel
theorem dX3_takeTurn_286 : decode cX3_takeTurn 286 = .ok (.aload_n 0, 1) := by decide +kernel
theorem dX3_takeTurn_287 : decode cX3_takeTurn 287 = .ok (.aload_n 1, 1) := by decide +kernel
theorem dX3_takeTurn_288 : decode cX3_takeTurn 288 = .ok (.aload_n 3, 1) := by decide +kernel
theorem dX3_takeTurn_289 : decode cX3_takeTurn 289 = .ok (.getfield 58, 3) := by decide +kernel
theorem dX3_takeTurn_292 : decode cX3_takeTurn 292 = .ok (.aload_n 3, 1) := by decide +kernel
theorem dX3_takeTurn_293 : decode cX3_takeTurn 293 = .ok (.getfield 61, 3) := by decide +kernel
theorem dX3_takeTurn_296 : decode cX3_takeTurn 296 = .ok (.aload_n 3, 1) := by decide +kernel
theorem dX3_takeTurn_297 : decode cX3_takeTurn 297 = .ok (.getfield 79, 3) := by decide +kernel
theorem dX3_takeTurn_300 : decode cX3_takeTurn 300 = .ok (.invokevirtual 82, 3) := by decide +kernel
theorem dX3_takeTurn_303 : decode cX3_takeTurn 303 = .ok (.goto 114, 3) := by decide +kernel
theorem dX3_takeTurn_306 : decode cX3_takeTurn 306 = .ok (.aload_n 0, 1) := by decide +kernel
theorem dX3_takeTurn_307 : decode cX3_takeTurn 307 = .ok (.aload_n 1, 1) := by decide +kernel
theorem dX3_takeTurn_308 : decode cX3_takeTurn 308 = .ok (.aload_n 3, 1) := by decide +kernel
theorem dX3_takeTurn_309 : decode cX3_takeTurn 309 = .ok (.getfield 86, 3) := by decide +kernel
theorem dX3_takeTurn_312 : decode cX3_takeTurn 312 = .ok (.invokevirtual 87, 3) := by decide +kernel
theorem dX3_takeTurn_315 : decode cX3_takeTurn 315 = .ok (.goto 102, 3) := by decide +kernel
theorem dX3_takeTurn_318 : decode cX3_takeTurn 318 = .ok (.aload_n 0, 1) := by decide +kernel
theorem dX3_takeTurn_319 : decode cX3_takeTurn 319 = .ok (.aload_n 1, 1) := by decide +kernel
theorem dX3_takeTurn_320 : decode cX3_takeTurn 320 = .ok (.aload_n 3, 1) := by decide +kernel
theorem dX3_takeTurn_321 : decode cX3_takeTurn 321 = .ok (.getfield 61, 3) := by decide +kernel
theorem dX3_takeTurn_324 : decode cX3_takeTurn 324 = .ok (.invokevirtual 91, 3) := by decide +kernel
theorem dX3_takeTurn_327 : decode cX3_takeTurn 327 = .ok (.goto 90, 3) := by decide +kernel
theorem dX3_takeTurn_330 : decode cX3_takeTurn 330 = .ok (.aload_n 0, 1) := by decide +kernel
theorem dX3_takeTurn_331 : decode cX3_takeTurn 331 = .ok (.getfield 21, 3) := by decide +kernel
theorem dX3_takeTurn_334 : decode cX3_takeTurn 334 = .ok (.aload_n 3, 1) := by decide +kernel
theorem dX3_takeTurn_335 : decode cX3_takeTurn 335 = .ok (.getfield 61, 3) := by decide +kernel
theorem dX3_takeTurn_338 : decode cX3_takeTurn 338 = .ok (.aload_n 3, 1) := by decide +kernel
theorem dX3_takeTurn_339 : decode cX3_takeTurn 339 = .ok (.getfield 79, 3) := by decide +kernel
theorem dX3_takeTurn_342 : decode cX3_takeTurn 342 = .ok (.invokevirtual 95, 3) := by decide +kernel
theorem dX3_takeTurn_345 : decode cX3_takeTurn 345 = .ok (.aload_n 1, 1) := by decide +kernel
theorem dX3_takeTurn_346 : decode cX3_takeTurn 346 = .ok (.iconst 2, 1) := by decide +kernel
theorem dX3_takeTurn_347 : decode cX3_takeTurn 347 = .ok (.iconst 3, 1) := by decide +kernel
theorem dX3_takeTurn_348 : decode cX3_takeTurn 348 = .ok (.bipush 32, 2) := by decide +kernel
theorem dX3_takeTurn_350 : decode cX3_takeTurn 350 = .ok (.iconst 0, 1) := by decide +kernel
theorem dX3_takeTurn_351 : decode cX3_takeTurn 351 = .ok (.iconst 0, 1) := by decide +kernel
theorem dX3_takeTurn_352 : decode cX3_takeTurn 352 = .ok (.invokevirtual 68, 3) := by decide +kernel
theorem dX3_takeTurn_355 : decode cX3_takeTurn 355 = .ok (.goto 62, 3) := by decide +kernel
theorem dX3_takeTurn_358 : decode cX3_takeTurn 358 = .ok (.aload_n 0, 1) := by decide +kernel
theorem dX3_takeTurn_359 : decode cX3_takeTurn 359 = .ok (.getfield 21, 3) := by decide +kernel
theorem dX3_takeTurn_362 : decode cX3_takeTurn 362 = .ok (.aload_n 3, 1) := by decide +kernel
theorem dX3_takeTurn_363 : decode cX3_takeTurn 363 = .ok (.getfield 61, 3) := by decide +kernel
theorem dX3_takeTurn_366 : decode cX3_takeTurn 366 = .ok (.invokevirtual 99, 3) := by decide +kernel
theorem dX3_takeTurn_369 : decode cX3_takeTurn 369 = .ok (.aload_n 1, 1) := by decide +kernel
theorem dX3_takeTurn_370 : decode cX3_takeTurn 370 = .ok (.iconst 2, 1) := by decide +kernel
theorem dX3_takeTurn_371 : decode cX3_takeTurn 371 = .ok (.iconst 3, 1) := by decide +kernel
theorem dX3_takeTurn_372 : decode cX3_takeTurn 372 = .ok (.bipush 32, 2) := by decide +kernel
theorem dX3_takeTurn_374 : decode cX3_takeTurn 374 = .ok (.iconst 0, 1) := by decide +kernel
theorem dX3_takeTurn_375 : decode cX3_takeTurn 375 = .ok (.iconst 0, 1) := by decide +kernel
theorem dX3_takeTurn_376 : decode cX3_takeTurn 376 = .ok (.invokevirtual 68, 3) := by decide +kernel
theorem dX3_takeTurn_379 : decode cX3_takeTurn 379 = .ok (.goto 38, 3) := by decide +kernel
theorem dX3_takeTurn_382 : decode cX3_takeTurn 382 = .ok (.aload_n 1, 1) := by decide +kernel
theorem dX3_takeTurn_383 : decode cX3_takeTurn 383 = .ok (.iconst 2, 1) := by decide +kernel
theorem dX3_takeTurn_384 : decode cX3_takeTurn 384 = .ok (.aload_n 3, 1) := by decide +kernel
theorem dX3_takeTurn_385 : decode cX3_takeTurn 385 = .ok (.getfield 58, 3) := by decide +kernel
theorem dX3_takeTurn_388 : decode cX3_takeTurn 388 = .ok (.bipush 50, 2) := by decide +kernel
theorem dX3_takeTurn_390 : decode cX3_takeTurn 390 = .ok (.aload_n 0, 1) := by decide +kernel
theorem dX3_takeTurn_391 : decode cX3_takeTurn 391 = .ok (.aload_n 3, 1) := by decide +kernel
theorem dX3_takeTurn_392 : decode cX3_takeTurn 392 = .ok (.getfield 58, 3) := by decide +kernel
theorem dX3_takeTurn_395 : decode cX3_takeTurn 395 = .ok (.aload_n 3, 1) := by decide +kernel
theorem dX3_takeTurn_396 : decode cX3_takeTurn 396 = .ok (.getfield 53, 3) := by decide +kernel
theorem dX3_takeTurn_399 : decode cX3_takeTurn 399 = .ok (.aload_n 3, 1) := by decide +kernel
theorem dX3_takeTurn_400 : decode cX3_takeTurn 400 = .ok (.getfield 61, 3) := by decide +kernel
theorem dX3_takeTurn_403 : decode cX3_takeTurn 403 = .ok (.aload_n 3, 1) := by decide +kernel
theorem dX3_takeTurn_404 : decode cX3_takeTurn 404 = .ok (.getfield 79, 3) := by decide +kernel
theorem dX3_takeTurn_407 : decode cX3_takeTurn 407 = .ok (.invokevirtual 103, 3) := by decide +kernel
theorem dX3_takeTurn_410 : decode cX3_takeTurn 410 = .ok (.iconst 0, 1) := by decide +kernel
theorem dX3_takeTurn_411 : decode cX3_takeTurn 411 = .ok (.invokevirtual 68, 3) := by decide +kernel
theorem dX3_takeTurn_414 : decode cX3_takeTurn 414 = .ok (.goto 3, 3) := by decide +kernel
theorem dX3_takeTurn_417 : decode cX3_takeTurn 417 = .ok (.return_, 1) := by decide +kernel
theorem dX3_handle_0 : decode cX3_handle 0 = .ok (.aload_n 0, 1) := by decide +kernel
theorem dX3_handle_1 : decode cX3_handle 1 = .ok (.getfield 21, 3) := by decide +kernel
theorem dX3_handle_4 : decode cX3_handle 4 = .ok (.iload_n 1, 1) := by decide +kernel
theorem dX3_handle_5 : decode cX3_handle 5 = .ok (.iload_n 3, 1) := by decide +kernel
theorem dX3_handle_6 : decode cX3_handle 6 = .ok (.invokevirtual 107, 3) := by decide +kernel
theorem dX3_handle_9 : decode cX3_handle 9 = .ok (.istore 5, 2) := by decide +kernel
theorem dX3_handle_11 : decode cX3_handle 11 = .ok (.iload 5, 2) := by decide +kernel
theorem dX3_handle_13 : decode cX3_handle 13 = .ok (.iconst (-1), 1) := by decide +kernel
theorem dX3_handle_14 : decode cX3_handle 14 = .ok (.if_icmp .ne 6, 3) := by decide +kernel
theorem dX3_handle_17 : decode cX3_handle 17 = .ok (.bipush (-8), 2) := by decide +kernel
theorem dX3_handle_19 : decode cX3_handle 19 = .ok (.ireturn, 1) := by decide +kernel
theorem dX3_handle_20 : decode cX3_handle 20 = .ok (.iload_n 2, 1) := by decide +kernel
theorem dX3_handle_21 : decode cX3_handle 21 = .ok (.bipush 7, 2) := by decide +kernel
theorem dX3_handle_23 : decode cX3_handle 23 = .ok (.if_icmp .ne 13, 3) := by decide +kernel
theorem dX3_handle_26 : decode cX3_handle 26 = .ok (.aload_n 0, 1) := by decide +kernel
theorem dX3_handle_27 : decode cX3_handle 27 = .ok (.getfield 12, 3) := by decide +kernel
theorem dX3_handle_30 : decode cX3_handle 30 = .ok (.iload 5, 2) := by decide +kernel
theorem dX3_handle_32 : decode cX3_handle 32 = .ok (.invokevirtual 110, 3) := by decide +kernel
theorem dX3_handle_35 : decode cX3_handle 35 = .ok (.ireturn, 1) := by decide +kernel
theorem dX3_handle_36 : decode cX3_handle 36 = .ok (.iload_n 2, 1) := by decide +kernel
theorem dX3_handle_37 : decode cX3_handle 37 = .ok (.iconst 2, 1) := by decide +kernel
theorem dX3_handle_38 : decode cX3_handle 38 = .ok (.if_icmp .ne 16, 3) := by decide +kernel
theorem dX3_handle_41 : decode cX3_handle 41 = .ok (.aload_n 0, 1) := by decide +kernel
theorem dX3_handle_42 : decode cX3_handle 42 = .ok (.getfield 21, 3) := by decide +kernel
theorem dX3_handle_45 : decode cX3_handle 45 = .ok (.iload_n 1, 1) := by decide +kernel
theorem dX3_handle_46 : decode cX3_handle 46 = .ok (.iload_n 3, 1) := by decide +kernel
theorem dX3_handle_47 : decode cX3_handle 47 = .ok (.iconst (-1), 1) := by decide +kernel
theorem dX3_handle_48 : decode cX3_handle 48 = .ok (.iconst 0, 1) := by decide +kernel
theorem dX3_handle_49 : decode cX3_handle 49 = .ok (.invokevirtual 113, 3) := by decide +kernel
theorem dX3_handle_52 : decode cX3_handle 52 = .ok (.iconst 0, 1) := by decide +kernel
theorem dX3_handle_53 : decode cX3_handle 53 = .ok (.ireturn, 1) := by decide +kernel
theorem dX3_handle_54 : decode cX3_handle 54 = .ok (.iload 4, 2) := by decide +kernel
theorem dX3_handle_56 : decode cX3_handle 56 = .ok (.ifCond .lt 17, 3) := by decide +kernel
theorem dX3_handle_59 : decode cX3_handle 59 = .ok (.iload 4, 2) := by decide +kernel
theorem dX3_handle_61 : decode cX3_handle 61 = .ok (.aload_n 0, 1) := by decide +kernel
theorem dX3_handle_62 : decode cX3_handle 62 = .ok (.getfield 12, 3) := by decide +kernel
theorem dX3_handle_65 : decode cX3_handle 65 = .ok (.iload 5, 2) := by decide +kernel
theorem dX3_handle_67 : decode cX3_handle 67 = .ok (.invokevirtual 110, 3) := by decide +kernel
theorem dX3_handle_70 : decode cX3_handle 70 = .ok (.if_icmp .le 5, 3) := by decide +kernel
theorem dX3_handle_73 : decode cX3_handle 73 = .ok (.iconst (-1), 1) := by decide +kernel
theorem dX3_handle_74 : decode cX3_handle 74 = .ok (.ireturn, 1) := by decide +kernel
theorem dX3_handle_75 : decode cX3_handle 75 = .ok (.aload_n 0, 1) := by decide +kernel
theorem dX3_handle_76 : decode cX3_handle 76 = .ok (.getfield 21, 3) := by decide +kernel
theorem dX3_handle_79 : decode cX3_handle 79 = .ok (.iload_n 1, 1) := by decide +kernel
theorem dX3_handle_80 : decode cX3_handle 80 = .ok (.iload_n 3, 1) := by decide +kernel
theorem dX3_handle_81 : decode cX3_handle 81 = .ok (.iload 4, 2) := by decide +kernel
theorem dX3_handle_83 : decode cX3_handle 83 = .ok (.invokevirtual 117, 3) := by decide +kernel
theorem dX3_handle_86 : decode cX3_handle 86 = .ok (.iconst 0, 1) := by decide +kernel
theorem dX3_handle_87 : decode cX3_handle 87 = .ok (.ireturn, 1) := by decide +kernel
theorem dX3_openFile_0 : decode cX3_openFile 0 = .ok (.iload_n 2, 1) := by decide +kernel
theorem dX3_openFile_1 : decode cX3_openFile 1 = .ok (.ifCond .lt 9, 3) := by decide +kernel
theorem dX3_openFile_4 : decode cX3_openFile 4 = .ok (.iload_n 2, 1) := by decide +kernel
theorem dX3_openFile_5 : decode cX3_openFile 5 = .ok (.bipush 16, 2) := by decide +kernel
theorem dX3_openFile_7 : decode cX3_openFile 7 = .ok (.if_icmp .lt 5, 3) := by decide +kernel
theorem dX3_openFile_10 : decode cX3_openFile 10 = .ok (.iconst (-1), 1) := by decide +kernel
theorem dX3_openFile_11 : decode cX3_openFile 11 = .ok (.ireturn, 1) := by decide +kernel
theorem dX3_openFile_12 : decode cX3_openFile 12 = .ok (.aload_n 0, 1) := by decide +kernel
theorem dX3_openFile_13 : decode cX3_openFile 13 = .ok (.getfield 21, 3) := by decide +kernel
theorem dX3_openFile_16 : decode cX3_openFile 16 = .ok (.iload_n 1, 1) := by decide +kernel
theorem dX3_openFile_17 : decode cX3_openFile 17 = .ok (.invokevirtual 121, 3) := by decide +kernel
theorem dX3_openFile_20 : decode cX3_openFile 20 = .ok (.istore_n 3, 1) := by decide +kernel
theorem dX3_openFile_21 : decode cX3_openFile 21 = .ok (.iload_n 3, 1) := by decide +kernel
theorem dX3_openFile_22 : decode cX3_openFile 22 = .ok (.iconst (-1), 1) := by decide +kernel
theorem dX3_openFile_23 : decode cX3_openFile 23 = .ok (.if_icmp .ne 6, 3) := by decide +kernel
theorem dX3_openFile_26 : decode cX3_openFile 26 = .ok (.bipush (-2), 2) := by decide +kernel
theorem dX3_openFile_28 : decode cX3_openFile 28 = .ok (.ireturn, 1) := by decide +kernel
theorem dX3_openFile_29 : decode cX3_openFile 29 = .ok (.aload_n 0, 1) := by decide +kernel
theorem dX3_openFile_30 : decode cX3_openFile 30 = .ok (.getfield 12, 3) := by decide +kernel
theorem dX3_openFile_33 : decode cX3_openFile 33 = .ok (.iload_n 2, 1) := by decide +kernel
theorem dX3_openFile_34 : decode cX3_openFile 34 = .ok (.invokevirtual 124, 3) := by decide +kernel
theorem dX3_openFile_37 : decode cX3_openFile 37 = .ok (.ifCond .ne 26, 3) := by decide +kernel
theorem dX3_openFile_40 : decode cX3_openFile 40 = .ok (.aload_n 0, 1) := by decide +kernel
theorem dX3_openFile_41 : decode cX3_openFile 41 = .ok (.getfield 12, 3) := by decide +kernel
theorem dX3_openFile_44 : decode cX3_openFile 44 = .ok (.getfield 128, 3) := by decide +kernel
theorem dX3_openFile_47 : decode cX3_openFile 47 = .ok (.bipush 8, 2) := by decide +kernel
theorem dX3_openFile_49 : decode cX3_openFile 49 = .ok (.if_icmp .lt 6, 3) := by decide +kernel
theorem dX3_openFile_52 : decode cX3_openFile 52 = .ok (.bipush (-3), 2) := by decide +kernel
theorem dX3_openFile_54 : decode cX3_openFile 54 = .ok (.ireturn, 1) := by decide +kernel
theorem dX3_openFile_55 : decode cX3_openFile 55 = .ok (.aload_n 0, 1) := by decide +kernel
theorem dX3_openFile_56 : decode cX3_openFile 56 = .ok (.getfield 12, 3) := by decide +kernel
theorem dX3_openFile_59 : decode cX3_openFile 59 = .ok (.iload_n 2, 1) := by decide +kernel
theorem dX3_openFile_60 : decode cX3_openFile 60 = .ok (.invokevirtual 131, 3) := by decide +kernel
theorem dX3_openFile_63 : decode cX3_openFile 63 = .ok (.aload_n 0, 1) := by decide +kernel
theorem dX3_openFile_64 : decode cX3_openFile 64 = .ok (.getfield 21, 3) := by decide +kernel
theorem dX3_openFile_67 : decode cX3_openFile 67 = .ok (.iload_n 1, 1) := by decide +kernel
theorem dX3_openFile_68 : decode cX3_openFile 68 = .ok (.iload_n 3, 1) := by decide +kernel
theorem dX3_openFile_69 : decode cX3_openFile 69 = .ok (.iload_n 2, 1) := by decide +kernel
theorem dX3_openFile_70 : decode cX3_openFile 70 = .ok (.iconst 0, 1) := by decide +kernel
theorem dX3_openFile_71 : decode cX3_openFile 71 = .ok (.invokevirtual 113, 3) := by decide +kernel
theorem dX3_openFile_74 : decode cX3_openFile 74 = .ok (.iload_n 3, 1) := by decide +kernel
theorem dX3_openFile_75 : decode cX3_openFile 75 = .ok (.ireturn, 1) := by decide +kernel
theorem dX3_removeFile_0 : decode cX3_removeFile 0 = .ok (.aload_n 0, 1) := by decide +kernel
theorem dX3_removeFile_1 : decode cX3_removeFile 1 = .ok (.getfield 12, 3) := by decide +kernel
theorem dX3_removeFile_4 : decode cX3_removeFile 4 = .ok (.iload_n 1, 1) := by decide +kernel
theorem dX3_removeFile_5 : decode cX3_removeFile 5 = .ok (.invokevirtual 124, 3) := by decide +kernel
theorem dX3_removeFile_8 : decode cX3_removeFile 8 = .ok (.ifCond .ne 5, 3) := by decide +kernel
theorem dX3_removeFile_11 : decode cX3_removeFile 11 = .ok (.iconst (-1), 1) := by decide +kernel
theorem dX3_removeFile_12 : decode cX3_removeFile 12 = .ok (.ireturn, 1) := by decide +kernel
theorem dX3_removeFile_13 : decode cX3_removeFile 13 = .ok (.aload_n 0, 1) := by decide +kernel
theorem dX3_removeFile_14 : decode cX3_removeFile 14 = .ok (.getfield 21, 3) := by decide +kernel
theorem dX3_removeFile_17 : decode cX3_removeFile 17 = .ok (.iload_n 1, 1) := by decide +kernel
theorem dX3_removeFile_18 : decode cX3_removeFile 18 = .ok (.invokevirtual 134, 3) := by decide +kernel
theorem dX3_removeFile_21 : decode cX3_removeFile 21 = .ok (.ifCond .eq 6, 3) := by decide +kernel
theorem dX3_removeFile_24 : decode cX3_removeFile 24 = .ok (.bipush (-7), 2) := by decide +kernel
theorem dX3_removeFile_26 : decode cX3_removeFile 26 = .ok (.ireturn, 1) := by decide +kernel
theorem dX3_removeFile_27 : decode cX3_removeFile 27 = .ok (.aload_n 0, 1) := by decide +kernel
theorem dX3_removeFile_28 : decode cX3_removeFile 28 = .ok (.getfield 12, 3) := by decide +kernel
theorem dX3_removeFile_31 : decode cX3_removeFile 31 = .ok (.iload_n 1, 1) := by decide +kernel
theorem dX3_removeFile_32 : decode cX3_removeFile 32 = .ok (.invokevirtual 137, 3) := by decide +kernel
theorem dX3_removeFile_35 : decode cX3_removeFile 35 = .ok (.iconst 0, 1) := by decide +kernel
theorem dX3_removeFile_36 : decode cX3_removeFile 36 = .ok (.ireturn, 1) := by decide +kernel
theorem dX3_read_0 : decode cX3_read 0 = .ok (.aload_n 0, 1) := by decide +kernel
theorem dX3_read_1 : decode cX3_read 1 = .ok (.getfield 21, 3) := by decide +kernel
theorem dX3_read_4 : decode cX3_read 4 = .ok (.iload_n 2, 1) := by decide +kernel
theorem dX3_read_5 : decode cX3_read 5 = .ok (.iload_n 3, 1) := by decide +kernel
theorem dX3_read_6 : decode cX3_read 6 = .ok (.invokevirtual 107, 3) := by decide +kernel
theorem dX3_read_9 : decode cX3_read 9 = .ok (.istore 4, 2) := by decide +kernel
theorem dX3_read_11 : decode cX3_read 11 = .ok (.aload_n 0, 1) := by decide +kernel
theorem dX3_read_12 : decode cX3_read 12 = .ok (.getfield 21, 3) := by decide +kernel
theorem dX3_read_15 : decode cX3_read 15 = .ok (.iload_n 2, 1) := by decide +kernel
theorem dX3_read_16 : decode cX3_read 16 = .ok (.iload_n 3, 1) := by decide +kernel
theorem dX3_read_17 : decode cX3_read 17 = .ok (.invokevirtual 140, 3) := by decide +kernel
theorem dX3_read_20 : decode cX3_read 20 = .ok (.istore 5, 2) := by decide +kernel
theorem dX3_read_22 : decode cX3_read 22 = .ok (.iload 4, 2) := by decide +kernel
theorem dX3_read_24 : decode cX3_read 24 = .ok (.iconst (-1), 1) := by decide +kernel
theorem dX3_read_25 : decode cX3_read 25 = .ok (.if_icmp .eq 17, 3) := by decide +kernel
theorem dX3_read_28 : decode cX3_read 28 = .ok (.iload 5, 2) := by decide +kernel
theorem dX3_read_30 : decode cX3_read 30 = .ok (.aload_n 0, 1) := by decide +kernel
theorem dX3_read_31 : decode cX3_read 31 = .ok (.getfield 12, 3) := by decide +kernel
theorem dX3_read_34 : decode cX3_read 34 = .ok (.iload 4, 2) := by decide +kernel
theorem dX3_read_36 : decode cX3_read 36 = .ok (.invokevirtual 110, 3) := by decide +kernel
theorem dX3_read_39 : decode cX3_read 39 = .ok (.if_icmp .lt 26, 3) := by decide +kernel
theorem dX3_read_42 : decode cX3_read 42 = .ok (.aload_n 1, 1) := by decide +kernel
theorem dX3_read_43 : decode cX3_read 43 = .ok (.iconst 2, 1) := by decide +kernel
theorem dX3_read_44 : decode cX3_read 44 = .ok (.iload_n 2, 1) := by decide +kernel
theorem dX3_read_45 : decode cX3_read 45 = .ok (.bipush 50, 2) := by decide +kernel
theorem dX3_read_47 : decode cX3_read 47 = .ok (.iload 4, 2) := by decide +kernel
theorem dX3_read_49 : decode cX3_read 49 = .ok (.iconst (-1), 1) := by decide +kernel
theorem dX3_read_50 : decode cX3_read 50 = .ok (.if_icmp .ne 8, 3) := by decide +kernel
theorem dX3_read_53 : decode cX3_read 53 = .ok (.bipush (-8), 2) := by decide +kernel
theorem dX3_read_55 : decode cX3_read 55 = .ok (.goto 5, 3) := by decide +kernel
theorem dX3_read_58 : decode cX3_read 58 = .ok (.bipush (-5), 2) := by decide +kernel
theorem dX3_read_60 : decode cX3_read 60 = .ok (.iconst 0, 1) := by decide +kernel
theorem dX3_read_61 : decode cX3_read 61 = .ok (.invokevirtual 68, 3) := by decide +kernel
theorem dX3_read_64 : decode cX3_read 64 = .ok (.return_, 1) := by decide +kernel
theorem dX3_read_65 : decode cX3_read 65 = .ok (.aload_n 0, 1) := by decide +kernel
theorem dX3_read_66 : decode cX3_read 66 = .ok (.iload_n 2, 1) := by decide +kernel
theorem dX3_read_67 : decode cX3_read 67 = .ok (.iload_n 3, 1) := by decide +kernel
theorem dX3_read_68 : decode cX3_read 68 = .ok (.iconst 1, 1) := by decide +kernel
theorem dX3_read_69 : decode cX3_read 69 = .ok (.iconst 0, 1) := by decide +kernel
theorem dX3_read_70 : decode cX3_read 70 = .ok (.invokevirtual 143, 3) := by decide +kernel
theorem dX3_read_73 : decode cX3_read 73 = .ok (.aload_n 0, 1) := by decide +kernel
theorem dX3_read_74 : decode cX3_read 74 = .ok (.aload_n 0, 1) := by decide +kernel
theorem dX3_read_75 : decode cX3_read 75 = .ok (.getfield 12, 3) := by decide +kernel
theorem dX3_read_78 : decode cX3_read 78 = .ok (.iload 4, 2) := by decide +kernel
theorem dX3_read_80 : decode cX3_read 80 = .ok (.iload 5, 2) := by decide +kernel
theorem dX3_read_82 : decode cX3_read 82 = .ok (.bipush 8, 2) := by decide +kernel
theorem dX3_read_84 : decode cX3_read 84 = .ok (.idiv, 1) := by decide +kernel
theorem dX3_read_85 : decode cX3_read 85 = .ok (.i2l, 1) := by decide +kernel
theorem dX3_read_86 : decode cX3_read 86 = .ok (.invokevirtual 147, 3) := by decide +kernel
theorem dX3_read_89 : decode cX3_read 89 = .ok (.putfield 151, 3) := by decide +kernel
theorem dX3_read_92 : decode cX3_read 92 = .ok (.aload_n 0, 1) := by decide +kernel
theorem dX3_read_93 : decode cX3_read 93 = .ok (.aload_n 1, 1) := by decide +kernel
theorem dX3_read_94 : decode cX3_read 94 = .ok (.bipush 20, 2) := by decide +kernel
theorem dX3_read_96 : decode cX3_read 96 = .ok (.invokevirtual 154, 3) := by decide +kernel
theorem dX3_read_99 : decode cX3_read 99 = .ok (.return_, 1) := by decide +kernel
theorem dX3_write_0 : decode cX3_write 0 = .ok (.aload_n 0, 1) := by decide +kernel
theorem dX3_write_1 : decode cX3_write 1 = .ok (.getfield 21, 3) := by decide +kernel
theorem dX3_write_4 : decode cX3_write 4 = .ok (.iload_n 2, 1) := by decide +kernel
theorem dX3_write_5 : decode cX3_write 5 = .ok (.iload_n 3, 1) := by decide +kernel
theorem dX3_write_6 : decode cX3_write 6 = .ok (.invokevirtual 107, 3) := by decide +kernel
theorem dX3_write_9 : decode cX3_write 9 = .ok (.istore 5, 2) := by decide +kernel
theorem dX3_write_11 : decode cX3_write 11 = .ok (.aload_n 0, 1) := by decide +kernel
theorem dX3_write_12 : decode cX3_write 12 = .ok (.getfield 21, 3) := by decide +kernel
theorem dX3_write_15 : decode cX3_write 15 = .ok (.iload_n 2, 1) := by decide +kernel
theorem dX3_write_16 : decode cX3_write 16 = .ok (.iload_n 3, 1) := by decide +kernel
theorem dX3_write_17 : decode cX3_write 17 = .ok (.invokevirtual 140, 3) := by decide +kernel
theorem dX3_write_20 : decode cX3_write 20 = .ok (.istore 6, 2) := by decide +kernel
theorem dX3_write_22 : decode cX3_write 22 = .ok (.aload_n 0, 1) := by decide +kernel
theorem dX3_write_23 : decode cX3_write 23 = .ok (.iload 5, 2) := by decide +kernel
theorem dX3_write_25 : decode cX3_write 25 = .ok (.iload 6, 2) := by decide +kernel
theorem dX3_write_27 : decode cX3_write 27 = .ok (.invokevirtual 157, 3) := by decide +kernel
theorem dX3_write_30 : decode cX3_write 30 = .ok (.istore 7, 2) := by decide +kernel
theorem dX3_write_32 : decode cX3_write 32 = .ok (.iload 7, 2) := by decide +kernel
theorem dX3_write_34 : decode cX3_write 34 = .ok (.ifCond .eq 15, 3) := by decide +kernel
theorem dX3_write_37 : decode cX3_write 37 = .ok (.aload_n 1, 1) := by decide +kernel
theorem dX3_write_38 : decode cX3_write 38 = .ok (.iconst 2, 1) := by decide +kernel
theorem dX3_write_39 : decode cX3_write 39 = .ok (.iload_n 2, 1) := by decide +kernel
theorem dX3_write_40 : decode cX3_write 40 = .ok (.bipush 50, 2) := by decide +kernel
theorem dX3_write_42 : decode cX3_write 42 = .ok (.iload 7, 2) := by decide +kernel
theorem dX3_write_44 : decode cX3_write 44 = .ok (.iconst 0, 1) := by decide +kernel
theorem dX3_write_45 : decode cX3_write 45 = .ok (.invokevirtual 68, 3) := by decide +kernel
theorem dX3_write_48 : decode cX3_write 48 = .ok (.return_, 1) := by decide +kernel
theorem dX3_write_49 : decode cX3_write 49 = .ok (.aload_n 0, 1) := by decide +kernel
theorem dX3_write_50 : decode cX3_write 50 = .ok (.iload_n 2, 1) := by decide +kernel
theorem dX3_write_51 : decode cX3_write 51 = .ok (.iload_n 3, 1) := by decide +kernel
theorem dX3_write_52 : decode cX3_write 52 = .ok (.iconst 0, 1) := by decide +kernel
theorem dX3_write_53 : decode cX3_write 53 = .ok (.iload 4, 2) := by decide +kernel
theorem dX3_write_55 : decode cX3_write 55 = .ok (.invokevirtual 143, 3) := by decide +kernel
theorem dX3_write_58 : decode cX3_write 58 = .ok (.aload_n 0, 1) := by decide +kernel
theorem dX3_write_59 : decode cX3_write 59 = .ok (.getfield 12, 3) := by decide +kernel
theorem dX3_write_62 : decode cX3_write 62 = .ok (.iload 5, 2) := by decide +kernel
theorem dX3_write_64 : decode cX3_write 64 = .ok (.iload 6, 2) := by decide +kernel
theorem dX3_write_66 : decode cX3_write 66 = .ok (.invokevirtual 160, 3) := by decide +kernel
theorem dX3_write_69 : decode cX3_write 69 = .ok (.ifCond .ne 30, 3) := by decide +kernel
theorem dX3_write_72 : decode cX3_write 72 = .ok (.aload_n 0, 1) := by decide +kernel
theorem dX3_write_73 : decode cX3_write 73 = .ok (.aload_n 0, 1) := by decide +kernel
theorem dX3_write_74 : decode cX3_write 74 = .ok (.getfield 12, 3) := by decide +kernel
theorem dX3_write_77 : decode cX3_write 77 = .ok (.iload 5, 2) := by decide +kernel
theorem dX3_write_79 : decode cX3_write 79 = .ok (.iload 6, 2) := by decide +kernel
theorem dX3_write_81 : decode cX3_write 81 = .ok (.bipush 8, 2) := by decide +kernel
theorem dX3_write_83 : decode cX3_write 83 = .ok (.idiv, 1) := by decide +kernel
theorem dX3_write_84 : decode cX3_write 84 = .ok (.i2l, 1) := by decide +kernel
theorem dX3_write_85 : decode cX3_write 85 = .ok (.invokevirtual 147, 3) := by decide +kernel
theorem dX3_write_88 : decode cX3_write 88 = .ok (.putfield 151, 3) := by decide +kernel
theorem dX3_write_91 : decode cX3_write 91 = .ok (.aload_n 0, 1) := by decide +kernel
theorem dX3_write_92 : decode cX3_write 92 = .ok (.aload_n 1, 1) := by decide +kernel
theorem dX3_write_93 : decode cX3_write 93 = .ok (.bipush 20, 2) := by decide +kernel
theorem dX3_write_95 : decode cX3_write 95 = .ok (.invokevirtual 154, 3) := by decide +kernel
theorem dX3_write_98 : decode cX3_write 98 = .ok (.return_, 1) := by decide +kernel
theorem dX3_write_99 : decode cX3_write 99 = .ok (.aload_n 0, 1) := by decide +kernel
theorem dX3_write_100 : decode cX3_write 100 = .ok (.aload_n 0, 1) := by decide +kernel
theorem dX3_write_101 : decode cX3_write 101 = .ok (.getfield 12, 3) := by decide +kernel
theorem dX3_write_104 : decode cX3_write 104 = .ok (.iload 5, 2) := by decide +kernel
theorem dX3_write_106 : decode cX3_write 106 = .ok (.iload 6, 2) := by decide +kernel
theorem dX3_write_108 : decode cX3_write 108 = .ok (.invokevirtual 164, 3) := by decide +kernel
theorem dX3_write_111 : decode cX3_write 111 = .ok (.putfield 151, 3) := by decide +kernel
theorem dX3_write_114 : decode cX3_write 114 = .ok (.iconst 0, 1) := by decide +kernel
theorem dX3_write_115 : decode cX3_write 115 = .ok (.istore 8, 2) := by decide +kernel
theorem dX3_write_117 : decode cX3_write 117 = .ok (.iload 8, 2) := by decide +kernel
theorem dX3_write_119 : decode cX3_write 119 = .ok (.bipush 8, 2) := by decide +kernel
theorem dX3_write_121 : decode cX3_write 121 = .ok (.if_icmp .ge 27, 3) := by decide +kernel
theorem dX3_write_124 : decode cX3_write 124 = .ok (.aload_n 0, 1) := by decide +kernel
theorem dX3_write_125 : decode cX3_write 125 = .ok (.getfield 25, 3) := by decide +kernel
theorem dX3_write_128 : decode cX3_write 128 = .ok (.iload 8, 2) := by decide +kernel
theorem dX3_write_130 : decode cX3_write 130 = .ok (.iload 8, 2) := by decide +kernel
theorem dX3_write_132 : decode cX3_write 132 = .ok (.ifCond .ne 8, 3) := by decide +kernel
theorem dX3_write_135 : decode cX3_write 135 = .ok (.iload 4, 2) := by decide +kernel
theorem dX3_write_137 : decode cX3_write 137 = .ok (.goto 4, 3) := by decide +kernel
theorem dX3_write_140 : decode cX3_write 140 = .ok (.iconst 0, 1) := by decide +kernel
theorem dX3_write_141 : decode cX3_write 141 = .ok (.iastore, 1) := by decide +kernel
theorem dX3_write_142 : decode cX3_write 142 = .ok (.iinc 8 1, 3) := by decide +kernel
theorem dX3_write_145 : decode cX3_write 145 = .ok (.goto (-28), 3) := by decide +kernel
theorem dX3_write_148 : decode cX3_write 148 = .ok (.aload_n 0, 1) := by decide +kernel
theorem dX3_write_149 : decode cX3_write 149 = .ok (.aload_n 1, 1) := by decide +kernel
theorem dX3_write_150 : decode cX3_write 150 = .ok (.bipush 21, 2) := by decide +kernel
theorem dX3_write_152 : decode cX3_write 152 = .ok (.invokevirtual 154, 3) := by decide +kernel
theorem dX3_write_155 : decode cX3_write 155 = .ok (.return_, 1) := by decide +kernel
theorem dX3_whyNotWrite_0 : decode cX3_whyNotWrite 0 = .ok (.iload_n 1, 1) := by decide +kernel
theorem dX3_whyNotWrite_1 : decode cX3_whyNotWrite 1 = .ok (.iconst (-1), 1) := by decide +kernel
theorem dX3_whyNotWrite_2 : decode cX3_whyNotWrite 2 = .ok (.if_icmp .ne 6, 3) := by decide +kernel
theorem dX3_whyNotWrite_5 : decode cX3_whyNotWrite 5 = .ok (.bipush (-8), 2) := by decide +kernel
theorem dX3_whyNotWrite_7 : decode cX3_whyNotWrite 7 = .ok (.ireturn, 1) := by decide +kernel
theorem dX3_whyNotWrite_8 : decode cX3_whyNotWrite 8 = .ok (.iload_n 2, 1) := by decide +kernel
theorem dX3_whyNotWrite_9 : decode cX3_whyNotWrite 9 = .ok (.bipush 32, 2) := by decide +kernel
theorem dX3_whyNotWrite_11 : decode cX3_whyNotWrite 11 = .ok (.if_icmp .lt 6, 3) := by decide +kernel
theorem dX3_whyNotWrite_14 : decode cX3_whyNotWrite 14 = .ok (.bipush (-4), 2) := by decide +kernel
theorem dX3_whyNotWrite_16 : decode cX3_whyNotWrite 16 = .ok (.ireturn, 1) := by decide +kernel
theorem dX3_whyNotWrite_17 : decode cX3_whyNotWrite 17 = .ok (.aload_n 0, 1) := by decide +kernel
theorem dX3_whyNotWrite_18 : decode cX3_whyNotWrite 18 = .ok (.getfield 12, 3) := by decide +kernel
theorem dX3_whyNotWrite_21 : decode cX3_whyNotWrite 21 = .ok (.iload_n 1, 1) := by decide +kernel
theorem dX3_whyNotWrite_22 : decode cX3_whyNotWrite 22 = .ok (.iload_n 2, 1) := by decide +kernel
theorem dX3_whyNotWrite_23 : decode cX3_whyNotWrite 23 = .ok (.invokevirtual 160, 3) := by decide +kernel
theorem dX3_whyNotWrite_26 : decode cX3_whyNotWrite 26 = .ok (.ifCond .eq 18, 3) := by decide +kernel
theorem dX3_whyNotWrite_29 : decode cX3_whyNotWrite 29 = .ok (.aload_n 0, 1) := by decide +kernel
theorem dX3_whyNotWrite_30 : decode cX3_whyNotWrite 30 = .ok (.getfield 12, 3) := by decide +kernel
theorem dX3_whyNotWrite_33 : decode cX3_whyNotWrite 33 = .ok (.getfield 167, 3) := by decide +kernel
theorem dX3_whyNotWrite_36 : decode cX3_whyNotWrite 36 = .ok (.ifCond .ne 8, 3) := by decide +kernel
theorem dX3_whyNotWrite_39 : decode cX3_whyNotWrite 39 = .ok (.bipush (-6), 2) := by decide +kernel
theorem dX3_whyNotWrite_41 : decode cX3_whyNotWrite 41 = .ok (.goto 4, 3) := by decide +kernel
theorem dX3_whyNotWrite_44 : decode cX3_whyNotWrite 44 = .ok (.iconst 0, 1) := by decide +kernel
theorem dX3_whyNotWrite_45 : decode cX3_whyNotWrite 45 = .ok (.ireturn, 1) := by decide +kernel
theorem dX3_takeInHand_0 : decode cX3_takeInHand 0 = .ok (.aload_n 0, 1) := by decide +kernel
theorem dX3_takeInHand_1 : decode cX3_takeInHand 1 = .ok (.iload_n 1, 1) := by decide +kernel
theorem dX3_takeInHand_2 : decode cX3_takeInHand 2 = .ok (.putfield 170, 3) := by decide +kernel
theorem dX3_takeInHand_5 : decode cX3_takeInHand 5 = .ok (.aload_n 0, 1) := by decide +kernel
theorem dX3_takeInHand_6 : decode cX3_takeInHand 6 = .ok (.iload_n 2, 1) := by decide +kernel
theorem dX3_takeInHand_7 : decode cX3_takeInHand 7 = .ok (.putfield 173, 3) := by decide +kernel
theorem dX3_takeInHand_10 : decode cX3_takeInHand 10 = .ok (.aload_n 0, 1) := by decide +kernel
theorem dX3_takeInHand_11 : decode cX3_takeInHand 11 = .ok (.iload_n 3, 1) := by decide +kernel
theorem dX3_takeInHand_12 : decode cX3_takeInHand 12 = .ok (.putfield 176, 3) := by decide +kernel
theorem dX3_takeInHand_15 : decode cX3_takeInHand 15 = .ok (.aload_n 0, 1) := by decide +kernel
theorem dX3_takeInHand_16 : decode cX3_takeInHand 16 = .ok (.iload 4, 2) := by decide +kernel
theorem dX3_takeInHand_18 : decode cX3_takeInHand 18 = .ok (.putfield 179, 3) := by decide +kernel
theorem dX3_takeInHand_21 : decode cX3_takeInHand 21 = .ok (.return_, 1) := by decide +kernel
theorem dX3_ask_0 : decode cX3_ask 0 = .ok (.aload_n 0, 1) := by decide +kernel
theorem dX3_ask_1 : decode cX3_ask 1 = .ok (.iload_n 2, 1) := by decide +kernel
theorem dX3_ask_2 : decode cX3_ask 2 = .ok (.putfield 182, 3) := by decide +kernel
theorem dX3_ask_5 : decode cX3_ask 5 = .ok (.aload_n 0, 1) := by decide +kernel
theorem dX3_ask_6 : decode cX3_ask 6 = .ok (.iconst 1, 1) := by decide +kernel
theorem dX3_ask_7 : decode cX3_ask 7 = .ok (.putfield 39, 3) := by decide +kernel
theorem dX3_ask_10 : decode cX3_ask 10 = .ok (.aload_n 1, 1) := by decide +kernel
theorem dX3_ask_11 : decode cX3_ask 11 = .ok (.iconst 2, 1) := by decide +kernel
theorem dX3_ask_12 : decode cX3_ask 12 = .ok (.iload_n 2, 1) := by decide +kernel
theorem dX3_ask_13 : decode cX3_ask 13 = .ok (.aload_n 0, 1) := by decide +kernel
theorem dX3_ask_14 : decode cX3_ask 14 = .ok (.getfield 151, 3) := by decide +kernel
theorem dX3_ask_17 : decode cX3_ask 17 = .ok (.iconst 0, 1) := by decide +kernel
theorem dX3_ask_18 : decode cX3_ask 18 = .ok (.invokevirtual 185, 3) := by decide +kernel
theorem dX3_ask_21 : decode cX3_ask 21 = .ok (.astore_n 3, 1) := by decide +kernel
theorem dX3_ask_22 : decode cX3_ask 22 = .ok (.aload_n 3, 1) := by decide +kernel
theorem dX3_ask_23 : decode cX3_ask 23 = .ok (.ifnonnull 4, 3) := by decide +kernel
theorem dX3_ask_26 : decode cX3_ask 26 = .ok (.return_, 1) := by decide +kernel
theorem dX3_ask_27 : decode cX3_ask 27 = .ok (.aload_n 3, 1) := by decide +kernel
theorem dX3_ask_28 : decode cX3_ask 28 = .ok (.aload_n 0, 1) := by decide +kernel
theorem dX3_ask_29 : decode cX3_ask 29 = .ok (.getfield 29, 3) := by decide +kernel
theorem dX3_ask_32 : decode cX3_ask 32 = .ok (.putfield 189, 3) := by decide +kernel
theorem dX3_ask_35 : decode cX3_ask 35 = .ok (.iload_n 2, 1) := by decide +kernel
theorem dX3_ask_36 : decode cX3_ask 36 = .ok (.bipush 21, 2) := by decide +kernel
theorem dX3_ask_38 : decode cX3_ask 38 = .ok (.if_icmp .ne 12, 3) := by decide +kernel
theorem dX3_ask_41 : decode cX3_ask 41 = .ok (.aload_n 3, 1) := by decide +kernel
theorem dX3_ask_42 : decode cX3_ask 42 = .ok (.aload_n 0, 1) := by decide +kernel
theorem dX3_ask_43 : decode cX3_ask 43 = .ok (.getfield 25, 3) := by decide +kernel
theorem dX3_ask_46 : decode cX3_ask 46 = .ok (.iconst 0, 1) := by decide +kernel
theorem dX3_ask_47 : decode cX3_ask 47 = .ok (.invokevirtual 192, 3) := by decide +kernel
theorem dX3_ask_50 : decode cX3_ask 50 = .ok (.aload_n 1, 1) := by decide +kernel
theorem dX3_ask_51 : decode cX3_ask 51 = .ok (.aload_n 3, 1) := by decide +kernel
theorem dX3_ask_52 : decode cX3_ask 52 = .ok (.iconst 1, 1) := by decide +kernel
theorem dX3_ask_53 : decode cX3_ask 53 = .ok (.invokevirtual 196, 3) := by decide +kernel
theorem dX3_ask_56 : decode cX3_ask 56 = .ok (.pop, 1) := by decide +kernel
theorem dX3_ask_57 : decode cX3_ask 57 = .ok (.return_, 1) := by decide +kernel
theorem dX3_hearOfLife_0 : decode cX3_hearOfLife 0 = .ok (.aload_n 0, 1) := by decide +kernel
theorem dX3_hearOfLife_1 : decode cX3_hearOfLife 1 = .ok (.iload_n 2, 1) := by decide +kernel
theorem dX3_hearOfLife_2 : decode cX3_hearOfLife 2 = .ok (.putfield 29, 3) := by decide +kernel
theorem dX3_hearOfLife_5 : decode cX3_hearOfLife 5 = .ok (.aload_n 0, 1) := by decide +kernel
theorem dX3_hearOfLife_6 : decode cX3_hearOfLife 6 = .ok (.getfield 39, 3) := by decide +kernel
theorem dX3_hearOfLife_9 : decode cX3_hearOfLife 9 = .ok (.ifCond .eq 12, 3) := by decide +kernel
theorem dX3_hearOfLife_12 : decode cX3_hearOfLife 12 = .ok (.aload_n 0, 1) := by decide +kernel
theorem dX3_hearOfLife_13 : decode cX3_hearOfLife 13 = .ok (.aload_n 1, 1) := by decide +kernel
theorem dX3_hearOfLife_14 : decode cX3_hearOfLife 14 = .ok (.aload_n 0, 1) := by decide +kernel
theorem dX3_hearOfLife_15 : decode cX3_hearOfLife 15 = .ok (.getfield 182, 3) := by decide +kernel
theorem dX3_hearOfLife_18 : decode cX3_hearOfLife 18 = .ok (.invokevirtual 154, 3) := by decide +kernel
theorem dX3_hearOfLife_21 : decode cX3_hearOfLife 21 = .ok (.return_, 1) := by decide +kernel
theorem dX3_goOn_0 : decode cX3_goOn 0 = .ok (.aload_n 0, 1) := by decide +kernel
theorem dX3_goOn_1 : decode cX3_goOn 1 = .ok (.getfield 39, 3) := by decide +kernel
theorem dX3_goOn_4 : decode cX3_goOn 4 = .ok (.ifCond .ne 4, 3) := by decide +kernel
theorem dX3_goOn_7 : decode cX3_goOn 7 = .ok (.return_, 1) := by decide +kernel
theorem dX3_goOn_8 : decode cX3_goOn 8 = .ok (.aload_n 0, 1) := by decide +kernel
theorem dX3_goOn_9 : decode cX3_goOn 9 = .ok (.getfield 21, 3) := by decide +kernel
theorem dX3_goOn_12 : decode cX3_goOn 12 = .ok (.aload_n 0, 1) := by decide +kernel
theorem dX3_goOn_13 : decode cX3_goOn 13 = .ok (.getfield 170, 3) := by decide +kernel
theorem dX3_goOn_16 : decode cX3_goOn 16 = .ok (.aload_n 0, 1) := by decide +kernel
theorem dX3_goOn_17 : decode cX3_goOn 17 = .ok (.getfield 173, 3) := by decide +kernel
theorem dX3_goOn_20 : decode cX3_goOn 20 = .ok (.invokevirtual 140, 3) := by decide +kernel
theorem dX3_goOn_23 : decode cX3_goOn 23 = .ok (.istore_n 3, 1) := by decide +kernel
theorem dX3_goOn_24 : decode cX3_goOn 24 = .ok (.iload_n 3, 1) := by decide +kernel
theorem dX3_goOn_25 : decode cX3_goOn 25 = .ok (.bipush 8, 2) := by decide +kernel
theorem dX3_goOn_27 : decode cX3_goOn 27 = .ok (.invokestatic 200, 3) := by decide +kernel
theorem dX3_goOn_30 : decode cX3_goOn 30 = .ok (.istore 4, 2) := by decide +kernel
theorem dX3_goOn_32 : decode cX3_goOn 32 = .ok (.aload_n 0, 1) := by decide +kernel
theorem dX3_goOn_33 : decode cX3_goOn 33 = .ok (.getfield 176, 3) := by decide +kernel
theorem dX3_goOn_36 : decode cX3_goOn 36 = .ok (.ifCond .ne 61, 3) := by decide +kernel
theorem dX3_goOn_39 : decode cX3_goOn 39 = .ok (.aload_n 0, 1) := by decide +kernel
theorem dX3_goOn_40 : decode cX3_goOn 40 = .ok (.getfield 182, 3) := by decide +kernel
theorem dX3_goOn_43 : decode cX3_goOn 43 = .ok (.bipush 20, 2) := by decide +kernel
theorem dX3_goOn_45 : decode cX3_goOn 45 = .ok (.if_icmp .ne 52, 3) := by decide +kernel
theorem dX3_goOn_48 : decode cX3_goOn 48 = .ok (.iconst 0, 1) := by decide +kernel
theorem dX3_goOn_49 : decode cX3_goOn 49 = .ok (.istore 5, 2) := by decide +kernel
theorem dX3_goOn_51 : decode cX3_goOn 51 = .ok (.iload 5, 2) := by decide +kernel
theorem dX3_goOn_53 : decode cX3_goOn 53 = .ok (.bipush 8, 2) := by decide +kernel
theorem dX3_goOn_55 : decode cX3_goOn 55 = .ok (.if_icmp .ge 34, 3) := by decide +kernel
theorem dX3_goOn_58 : decode cX3_goOn 58 = .ok (.aload_n 0, 1) := by decide +kernel
theorem dX3_goOn_59 : decode cX3_goOn 59 = .ok (.getfield 25, 3) := by decide +kernel
theorem dX3_goOn_62 : decode cX3_goOn 62 = .ok (.iload 5, 2) := by decide +kernel
theorem dX3_goOn_64 : decode cX3_goOn 64 = .ok (.iload 5, 2) := by decide +kernel
theorem dX3_goOn_66 : decode cX3_goOn 66 = .ok (.iload 4, 2) := by decide +kernel
theorem dX3_goOn_68 : decode cX3_goOn 68 = .ok (.if_icmp .ne 10, 3) := by decide +kernel
theorem dX3_goOn_71 : decode cX3_goOn 71 = .ok (.aload_n 0, 1) := by decide +kernel
theorem dX3_goOn_72 : decode cX3_goOn 72 = .ok (.getfield 179, 3) := by decide +kernel
theorem dX3_goOn_75 : decode cX3_goOn 75 = .ok (.goto 7, 3) := by decide +kernel
theorem dX3_goOn_78 : decode cX3_goOn 78 = .ok (.aload_n 2, 1) := by decide +kernel
theorem dX3_goOn_79 : decode cX3_goOn 79 = .ok (.iload 5, 2) := by decide +kernel
theorem dX3_goOn_81 : decode cX3_goOn 81 = .ok (.iaload, 1) := by decide +kernel
theorem dX3_goOn_82 : decode cX3_goOn 82 = .ok (.iastore, 1) := by decide +kernel
theorem dX3_goOn_83 : decode cX3_goOn 83 = .ok (.iinc 5 1, 3) := by decide +kernel
theorem dX3_goOn_86 : decode cX3_goOn 86 = .ok (.goto (-35), 3) := by decide +kernel
theorem dX3_goOn_89 : decode cX3_goOn 89 = .ok (.aload_n 0, 1) := by decide +kernel
theorem dX3_goOn_90 : decode cX3_goOn 90 = .ok (.aload_n 1, 1) := by decide +kernel
theorem dX3_goOn_91 : decode cX3_goOn 91 = .ok (.bipush 21, 2) := by decide +kernel
theorem dX3_goOn_93 : decode cX3_goOn 93 = .ok (.invokevirtual 154, 3) := by decide +kernel
theorem dX3_goOn_96 : decode cX3_goOn 96 = .ok (.return_, 1) := by decide +kernel
theorem dX3_goOn_97 : decode cX3_goOn 97 = .ok (.aload_n 0, 1) := by decide +kernel
theorem dX3_goOn_98 : decode cX3_goOn 98 = .ok (.iconst 0, 1) := by decide +kernel
theorem dX3_goOn_99 : decode cX3_goOn 99 = .ok (.putfield 39, 3) := by decide +kernel
theorem dX3_goOn_102 : decode cX3_goOn 102 = .ok (.aload_n 0, 1) := by decide +kernel
theorem dX3_goOn_103 : decode cX3_goOn 103 = .ok (.getfield 176, 3) := by decide +kernel
theorem dX3_goOn_106 : decode cX3_goOn 106 = .ok (.ifCond .ne 26, 3) := by decide +kernel
theorem dX3_goOn_109 : decode cX3_goOn 109 = .ok (.aload_n 0, 1) := by decide +kernel
theorem dX3_goOn_110 : decode cX3_goOn 110 = .ok (.getfield 12, 3) := by decide +kernel
theorem dX3_goOn_113 : decode cX3_goOn 113 = .ok (.aload_n 0, 1) := by decide +kernel
theorem dX3_goOn_114 : decode cX3_goOn 114 = .ok (.getfield 21, 3) := by decide +kernel
theorem dX3_goOn_117 : decode cX3_goOn 117 = .ok (.aload_n 0, 1) := by decide +kernel
theorem dX3_goOn_118 : decode cX3_goOn 118 = .ok (.getfield 170, 3) := by decide +kernel
theorem dX3_goOn_121 : decode cX3_goOn 121 = .ok (.aload_n 0, 1) := by decide +kernel
theorem dX3_goOn_122 : decode cX3_goOn 122 = .ok (.getfield 173, 3) := by decide +kernel
theorem dX3_goOn_125 : decode cX3_goOn 125 = .ok (.invokevirtual 107, 3) := by decide +kernel
theorem dX3_goOn_128 : decode cX3_goOn 128 = .ok (.iload_n 3, 1) := by decide +kernel
theorem dX3_goOn_129 : decode cX3_goOn 129 = .ok (.invokevirtual 205, 3) := by decide +kernel
theorem dX3_goOn_132 : decode cX3_goOn 132 = .ok (.aload_n 0, 1) := by decide +kernel
theorem dX3_goOn_133 : decode cX3_goOn 133 = .ok (.getfield 21, 3) := by decide +kernel
theorem dX3_goOn_136 : decode cX3_goOn 136 = .ok (.aload_n 0, 1) := by decide +kernel
theorem dX3_goOn_137 : decode cX3_goOn 137 = .ok (.getfield 170, 3) := by decide +kernel
theorem dX3_goOn_140 : decode cX3_goOn 140 = .ok (.aload_n 0, 1) := by decide +kernel
theorem dX3_goOn_141 : decode cX3_goOn 141 = .ok (.getfield 173, 3) := by decide +kernel
theorem dX3_goOn_144 : decode cX3_goOn 144 = .ok (.iload_n 3, 1) := by decide +kernel
theorem dX3_goOn_145 : decode cX3_goOn 145 = .ok (.iconst 1, 1) := by decide +kernel
theorem dX3_goOn_146 : decode cX3_goOn 146 = .ok (.iadd, 1) := by decide +kernel
theorem dX3_goOn_147 : decode cX3_goOn 147 = .ok (.invokevirtual 117, 3) := by decide +kernel
theorem dX3_goOn_150 : decode cX3_goOn 150 = .ok (.aload_n 1, 1) := by decide +kernel
theorem dX3_goOn_151 : decode cX3_goOn 151 = .ok (.iconst 2, 1) := by decide +kernel
theorem dX3_goOn_152 : decode cX3_goOn 152 = .ok (.aload_n 0, 1) := by decide +kernel
theorem dX3_goOn_153 : decode cX3_goOn 153 = .ok (.getfield 170, 3) := by decide +kernel
theorem dX3_goOn_156 : decode cX3_goOn 156 = .ok (.bipush 50, 2) := by decide +kernel
theorem dX3_goOn_158 : decode cX3_goOn 158 = .ok (.aload_n 0, 1) := by decide +kernel
theorem dX3_goOn_159 : decode cX3_goOn 159 = .ok (.getfield 176, 3) := by decide +kernel
theorem dX3_goOn_162 : decode cX3_goOn 162 = .ok (.ifCond .eq 10, 3) := by decide +kernel
theorem dX3_goOn_165 : decode cX3_goOn 165 = .ok (.aload_n 2, 1) := by decide +kernel
theorem dX3_goOn_166 : decode cX3_goOn 166 = .ok (.iload 4, 2) := by decide +kernel
theorem dX3_goOn_168 : decode cX3_goOn 168 = .ok (.iaload, 1) := by decide +kernel
theorem dX3_goOn_169 : decode cX3_goOn 169 = .ok (.goto 4, 3) := by decide +kernel
theorem dX3_goOn_172 : decode cX3_goOn 172 = .ok (.iconst 0, 1) := by decide +kernel
theorem dX3_goOn_173 : decode cX3_goOn 173 = .ok (.iconst 0, 1) := by decide +kernel
theorem dX3_goOn_174 : decode cX3_goOn 174 = .ok (.invokevirtual 68, 3) := by decide +kernel
theorem dX3_goOn_177 : decode cX3_goOn 177 = .ok (.return_, 1) := by decide +kernel
