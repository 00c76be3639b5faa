theorem dX8_readToken_313 : decode cX8_readToken 313 = .ok (.if_icmp .eq 63, 3) := by decide +kernel
theorem dX8_readToken_316 : decode cX8_readToken 316 = .ok (.iload_n 2, 1) := by decide +kernel
theorem dX8_readToken_317 : decode cX8_readToken 317 = .ok (.bipush 43, 2) := by decide +kernel
theorem dX8_readToken_319 : decode cX8_readToken 319 = .ok (.if_icmp .eq 57, 3) := by decide +kernel
theorem dX8_readToken_322 : decode cX8_readToken 322 = .ok (.iload_n 2, 1) := by decide +kernel
theorem dX8_readToken_323 : decode cX8_readToken 323 = .ok (.bipush 45, 2) := by decide +kernel
theorem dX8_readToken_325 : decode cX8_readToken 325 = .ok (.if_icmp .eq 51, 3) := by decide +kernel
theorem dX8_readToken_328 : decode cX8_readToken 328 = .ok (.iload_n 2, 1) := by decide +kernel
theorem dX8_readToken_329 : decode cX8_readToken 329 = .ok (.bipush 42, 2) := by decide +kernel
theorem dX8_readToken_331 : decode cX8_readToken 331 = .ok (.if_icmp .eq 45, 3) := by decide +kernel
theorem dX8_readToken_334 : decode cX8_readToken 334 = .ok (.iload_n 2, 1) := by decide +kernel
theorem dX8_readToken_335 : decode cX8_readToken 335 = .ok (.bipush 47, 2) := by decide +kernel
theorem dX8_readToken_337 : decode cX8_readToken 337 = .ok (.if_icmp .eq 39, 3) := by decide +kernel
theorem dX8_readToken_340 : decode cX8_readToken 340 = .ok (.iload_n 2, 1) := by decide +kernel
theorem dX8_readToken_341 : decode cX8_readToken 341 = .ok (.bipush 37, 2) := by decide +kernel
theorem dX8_readToken_343 : decode cX8_readToken 343 = .ok (.if_icmp .eq 33, 3) := by decide +kernel
theorem dX8_readToken_346 : decode cX8_readToken 346 = .ok (.iload_n 2, 1) := by decide +kernel
theorem dX8_readToken_347 : decode cX8_readToken 347 = .ok (.bipush 38, 2) := by decide +kernel
theorem dX8_readToken_349 : decode cX8_readToken 349 = .ok (.if_icmp .eq 27, 3) := by decide +kernel
theorem dX8_readToken_352 : decode cX8_readToken 352 = .ok (.iload_n 2, 1) := by decide +kernel
theorem dX8_readToken_353 : decode cX8_readToken 353 = .ok (.bipush 124, 2) := by decide +kernel
theorem dX8_readToken_355 : decode cX8_readToken 355 = .ok (.if_icmp .eq 21, 3) := by decide +kernel
theorem dX8_readToken_358 : decode cX8_readToken 358 = .ok (.iload_n 2, 1) := by decide +kernel
theorem dX8_readToken_359 : decode cX8_readToken 359 = .ok (.bipush 94, 2) := by decide +kernel
theorem dX8_readToken_361 : decode cX8_readToken 361 = .ok (.if_icmp .eq 15, 3) := by decide +kernel
theorem dX8_readToken_364 : decode cX8_readToken 364 = .ok (.iload_n 2, 1) := by decide +kernel
theorem dX8_readToken_365 : decode cX8_readToken 365 = .ok (.bipush 126, 2) := by decide +kernel
theorem dX8_readToken_367 : decode cX8_readToken 367 = .ok (.if_icmp .eq 9, 3) := by decide +kernel
theorem dX8_readToken_370 : decode cX8_readToken 370 = .ok (.iload_n 2, 1) := by decide +kernel
theorem dX8_readToken_371 : decode cX8_readToken 371 = .ok (.bipush 36, 2) := by decide +kernel
theorem dX8_readToken_373 : decode cX8_readToken 373 = .ok (.if_icmp .ne 7, 3) := by decide +kernel
theorem dX8_readToken_376 : decode cX8_readToken 376 = .ok (.iconst 1, 1) := by decide +kernel
theorem dX8_readToken_377 : decode cX8_readToken 377 = .ok (.goto 4, 3) := by decide +kernel
theorem dX8_readToken_380 : decode cX8_readToken 380 = .ok (.iconst 0, 1) := by decide +kernel
theorem dX8_readToken_381 : decode cX8_readToken 381 = .ok (.istore 4, 2) := by decide +kernel
theorem dX8_readToken_383 : decode cX8_readToken 383 = .ok (.iload 4, 2) := by decide +kernel
theorem dX8_readToken_385 : decode cX8_readToken 385 = .ok (.ifCond .ne 9, 3) := by decide +kernel
theorem dX8_readToken_388 : decode cX8_readToken 388 = .ok (.iload_n 3, 1) := by decide +kernel
theorem dX8_readToken_389 : decode cX8_readToken 389 = .ok (.ifCond .ne 5, 3) := by decide +kernel
theorem dX8_readToken_392 : decode cX8_readToken 392 = .ok (.iconst (-1), 1) := by decide +kernel
theorem dX8_readToken_393 : decode cX8_readToken 393 = .ok (.ireturn, 1) := by decide +kernel
theorem dX8_readToken_394 : decode cX8_readToken 394 = .ok (.aload_n 0, 1) := by decide +kernel
theorem dX8_readToken_395 : decode cX8_readToken 395 = .ok (.iconst 4, 1) := by decide +kernel
theorem dX8_readToken_396 : decode cX8_readToken 396 = .ok (.iload_n 1, 1) := by decide +kernel
theorem dX8_readToken_397 : decode cX8_readToken 397 = .ok (.iload_n 3, 1) := by decide +kernel
theorem dX8_readToken_398 : decode cX8_readToken 398 = .ok (.ifCond .eq 9, 3) := by decide +kernel
theorem dX8_readToken_401 : decode cX8_readToken 401 = .ok (.iload_n 1, 1) := by decide +kernel
theorem dX8_readToken_402 : decode cX8_readToken 402 = .ok (.iconst 2, 1) := by decide +kernel
theorem dX8_readToken_403 : decode cX8_readToken 403 = .ok (.iadd, 1) := by decide +kernel
theorem dX8_readToken_404 : decode cX8_readToken 404 = .ok (.goto 6, 3) := by decide +kernel
theorem dX8_readToken_407 : decode cX8_readToken 407 = .ok (.iload_n 1, 1) := by decide +kernel
theorem dX8_readToken_408 : decode cX8_readToken 408 = .ok (.iconst 1, 1) := by decide +kernel
theorem dX8_readToken_409 : decode cX8_readToken 409 = .ok (.iadd, 1) := by decide +kernel
theorem dX8_readToken_410 : decode cX8_readToken 410 = .ok (.iload_n 3, 1) := by decide +kernel
theorem dX8_readToken_411 : decode cX8_readToken 411 = .ok (.ifCond .eq 21, 3) := by decide +kernel
theorem dX8_readToken_414 : decode cX8_readToken 414 = .ok (.iload_n 2, 1) := by decide +kernel
theorem dX8_readToken_415 : decode cX8_readToken 415 = .ok (.bipush 60, 2) := by decide +kernel
theorem dX8_readToken_417 : decode cX8_readToken 417 = .ok (.if_icmp .ne 9, 3) := by decide +kernel
theorem dX8_readToken_420 : decode cX8_readToken 420 = .ok (.ldc2_w 238, 3) := by decide +kernel
theorem dX8_readToken_423 : decode cX8_readToken 423 = .ok (.goto 11, 3) := by decide +kernel
theorem dX8_readToken_426 : decode cX8_readToken 426 = .ok (.ldc2_w 240, 3) := by decide +kernel
theorem dX8_readToken_429 : decode cX8_readToken 429 = .ok (.goto 5, 3) := by decide +kernel
theorem dX8_readToken_432 : decode cX8_readToken 432 = .ok (.iload_n 2, 1) := by decide +kernel
theorem dX8_readToken_433 : decode cX8_readToken 433 = .ok (.i2l, 1) := by decide +kernel
theorem dX8_readToken_434 : decode cX8_readToken 434 = .ok (.invokevirtual 229, 3) := by decide +kernel
theorem dX8_readToken_437 : decode cX8_readToken 437 = .ok (.iload_n 3, 1) := by decide +kernel
theorem dX8_readToken_438 : decode cX8_readToken 438 = .ok (.ifCond .eq 9, 3) := by decide +kernel
theorem dX8_readToken_441 : decode cX8_readToken 441 = .ok (.iload_n 1, 1) := by decide +kernel
theorem dX8_readToken_442 : decode cX8_readToken 442 = .ok (.iconst 2, 1) := by decide +kernel
theorem dX8_readToken_443 : decode cX8_readToken 443 = .ok (.iadd, 1) := by decide +kernel
theorem dX8_readToken_444 : decode cX8_readToken 444 = .ok (.goto 6, 3) := by decide +kernel
theorem dX8_readToken_447 : decode cX8_readToken 447 = .ok (.iload_n 1, 1) := by decide +kernel
theorem dX8_readToken_448 : decode cX8_readToken 448 = .ok (.iconst 1, 1) := by decide +kernel
theorem dX8_readToken_449 : decode cX8_readToken 449 = .ok (.iadd, 1) := by decide +kernel
theorem dX8_readToken_450 : decode cX8_readToken 450 = .ok (.ireturn, 1) := by decide +kernel
theorem dX8_readTokens_0 : decode cX8_readTokens 0 = .ok (.aload_n 0, 1) := by decide +kernel
theorem dX8_readTokens_1 : decode cX8_readTokens 1 = .ok (.iconst 0, 1) := by decide +kernel
theorem dX8_readTokens_2 : decode cX8_readTokens 2 = .ok (.putfield 215, 3) := by decide +kernel
theorem dX8_readTokens_5 : decode cX8_readTokens 5 = .ok (.iconst 0, 1) := by decide +kernel
theorem dX8_readTokens_6 : decode cX8_readTokens 6 = .ok (.istore_n 1, 1) := by decide +kernel
theorem dX8_readTokens_7 : decode cX8_readTokens 7 = .ok (.iload_n 1, 1) := by decide +kernel
theorem dX8_readTokens_8 : decode cX8_readTokens 8 = .ok (.aload_n 0, 1) := by decide +kernel
theorem dX8_readTokens_9 : decode cX8_readTokens 9 = .ok (.getfield 199, 3) := by decide +kernel
theorem dX8_readTokens_12 : decode cX8_readTokens 12 = .ok (.if_icmp .ge 89, 3) := by decide +kernel
theorem dX8_readTokens_15 : decode cX8_readTokens 15 = .ok (.aload_n 0, 1) := by decide +kernel
theorem dX8_readTokens_16 : decode cX8_readTokens 16 = .ok (.getfield 21, 3) := by decide +kernel
theorem dX8_readTokens_19 : decode cX8_readTokens 19 = .ok (.iload_n 1, 1) := by decide +kernel
theorem dX8_readTokens_20 : decode cX8_readTokens 20 = .ok (.baload, 1) := by decide +kernel
theorem dX8_readTokens_21 : decode cX8_readTokens 21 = .ok (.bipush 59, 2) := by decide +kernel
theorem dX8_readTokens_23 : decode cX8_readTokens 23 = .ok (.if_icmp .eq 78, 3) := by decide +kernel
theorem dX8_readTokens_26 : decode cX8_readTokens 26 = .ok (.aload_n 0, 1) := by decide +kernel
theorem dX8_readTokens_27 : decode cX8_readTokens 27 = .ok (.getfield 21, 3) := by decide +kernel
theorem dX8_readTokens_30 : decode cX8_readTokens 30 = .ok (.iload_n 1, 1) := by decide +kernel
theorem dX8_readTokens_31 : decode cX8_readTokens 31 = .ok (.baload, 1) := by decide +kernel
theorem dX8_readTokens_32 : decode cX8_readTokens 32 = .ok (.bipush 32, 2) := by decide +kernel
theorem dX8_readTokens_34 : decode cX8_readTokens 34 = .ok (.if_icmp .eq 14, 3) := by decide +kernel
theorem dX8_readTokens_37 : decode cX8_readTokens 37 = .ok (.aload_n 0, 1) := by decide +kernel
theorem dX8_readTokens_38 : decode cX8_readTokens 38 = .ok (.getfield 21, 3) := by decide +kernel
theorem dX8_readTokens_41 : decode cX8_readTokens 41 = .ok (.iload_n 1, 1) := by decide +kernel
theorem dX8_readTokens_42 : decode cX8_readTokens 42 = .ok (.baload, 1) := by decide +kernel
theorem dX8_readTokens_43 : decode cX8_readTokens 43 = .ok (.bipush 9, 2) := by decide +kernel
theorem dX8_readTokens_45 : decode cX8_readTokens 45 = .ok (.if_icmp .ne 9, 3) := by decide +kernel
theorem dX8_readTokens_48 : decode cX8_readTokens 48 = .ok (.iinc 1 1, 3) := by decide +kernel
theorem dX8_readTokens_51 : decode cX8_readTokens 51 = .ok (.goto (-44), 3) := by decide +kernel
theorem dX8_readTokens_54 : decode cX8_readTokens 54 = .ok (.aload_n 0, 1) := by decide +kernel
theorem dX8_readTokens_55 : decode cX8_readTokens 55 = .ok (.getfield 21, 3) := by decide +kernel
theorem dX8_readTokens_58 : decode cX8_readTokens 58 = .ok (.iload_n 1, 1) := by decide +kernel
theorem dX8_readTokens_59 : decode cX8_readTokens 59 = .ok (.baload, 1) := by decide +kernel
theorem dX8_readTokens_60 : decode cX8_readTokens 60 = .ok (.bipush 32, 2) := by decide +kernel
theorem dX8_readTokens_62 : decode cX8_readTokens 62 = .ok (.if_icmp .lt 14, 3) := by decide +kernel
theorem dX8_readTokens_65 : decode cX8_readTokens 65 = .ok (.aload_n 0, 1) := by decide +kernel
theorem dX8_readTokens_66 : decode cX8_readTokens 66 = .ok (.getfield 21, 3) := by decide +kernel
theorem dX8_readTokens_69 : decode cX8_readTokens 69 = .ok (.iload_n 1, 1) := by decide +kernel
theorem dX8_readTokens_70 : decode cX8_readTokens 70 = .ok (.baload, 1) := by decide +kernel
theorem dX8_readTokens_71 : decode cX8_readTokens 71 = .ok (.bipush 126, 2) := by decide +kernel
theorem dX8_readTokens_73 : decode cX8_readTokens 73 = .ok (.if_icmp .le 7, 3) := by decide +kernel
theorem dX8_readTokens_76 : decode cX8_readTokens 76 = .ok (.iconst (-1), 1) := by decide +kernel
theorem dX8_readTokens_77 : decode cX8_readTokens 77 = .ok (.goto 8, 3) := by decide +kernel
theorem dX8_readTokens_80 : decode cX8_readTokens 80 = .ok (.aload_n 0, 1) := by decide +kernel
theorem dX8_readTokens_81 : decode cX8_readTokens 81 = .ok (.iload_n 1, 1) := by decide +kernel
theorem dX8_readTokens_82 : decode cX8_readTokens 82 = .ok (.invokevirtual 242, 3) := by decide +kernel
theorem dX8_readTokens_85 : decode cX8_readTokens 85 = .ok (.istore_n 2, 1) := by decide +kernel
theorem dX8_readTokens_86 : decode cX8_readTokens 86 = .ok (.iload_n 2, 1) := by decide +kernel
theorem dX8_readTokens_87 : decode cX8_readTokens 87 = .ok (.ifCond .ge 9, 3) := by decide +kernel
theorem dX8_readTokens_90 : decode cX8_readTokens 90 = .ok (.aload_n 0, 1) := by decide +kernel
theorem dX8_readTokens_91 : decode cX8_readTokens 91 = .ok (.iconst 1, 1) := by decide +kernel
theorem dX8_readTokens_92 : decode cX8_readTokens 92 = .ok (.invokevirtual 189, 3) := by decide +kernel
theorem dX8_readTokens_95 : decode cX8_readTokens 95 = .ok (.return_, 1) := by decide +kernel
theorem dX8_readTokens_96 : decode cX8_readTokens 96 = .ok (.iload_n 2, 1) := by decide +kernel
theorem dX8_readTokens_97 : decode cX8_readTokens 97 = .ok (.istore_n 1, 1) := by decide +kernel
theorem dX8_readTokens_98 : decode cX8_readTokens 98 = .ok (.goto (-91), 3) := by decide +kernel
theorem dX8_readTokens_101 : decode cX8_readTokens 101 = .ok (.aload_n 0, 1) := by decide +kernel
theorem dX8_readTokens_102 : decode cX8_readTokens 102 = .ok (.iconst 0, 1) := by decide +kernel
theorem dX8_readTokens_103 : decode cX8_readTokens 103 = .ok (.iload_n 1, 1) := by decide +kernel
theorem dX8_readTokens_104 : decode cX8_readTokens 104 = .ok (.iload_n 1, 1) := by decide +kernel
theorem dX8_readTokens_105 : decode cX8_readTokens 105 = .ok (.lconst 0, 1) := by decide +kernel
theorem dX8_readTokens_106 : decode cX8_readTokens 106 = .ok (.invokevirtual 229, 3) := by decide +kernel
theorem dX8_readTokens_109 : decode cX8_readTokens 109 = .ok (.aload_n 0, 1) := by decide +kernel
theorem dX8_readTokens_110 : decode cX8_readTokens 110 = .ok (.dup, 1) := by decide +kernel
theorem dX8_readTokens_111 : decode cX8_readTokens 111 = .ok (.getfield 215, 3) := by decide +kernel
theorem dX8_readTokens_114 : decode cX8_readTokens 114 = .ok (.iconst 1, 1) := by decide +kernel
theorem dX8_readTokens_115 : decode cX8_readTokens 115 = .ok (.isub, 1) := by decide +kernel
theorem dX8_readTokens_116 : decode cX8_readTokens 116 = .ok (.putfield 215, 3) := by decide +kernel
theorem dX8_readTokens_119 : decode cX8_readTokens 119 = .ok (.return_, 1) := by decide +kernel
theorem dX8_isSign_0 : decode cX8_isSign 0 = .ok (.iload_n 1, 1) := by decide +kernel
theorem dX8_isSign_1 : decode cX8_isSign 1 = .ok (.aload_n 0, 1) := by decide +kernel
theorem dX8_isSign_2 : decode cX8_isSign 2 = .ok (.getfield 215, 3) := by decide +kernel
theorem dX8_isSign_5 : decode cX8_isSign 5 = .ok (.if_icmp .ge 29, 3) := by decide +kernel
theorem dX8_isSign_8 : decode cX8_isSign 8 = .ok (.aload_n 0, 1) := by decide +kernel
theorem dX8_isSign_9 : decode cX8_isSign 9 = .ok (.getfield 90, 3) := by decide +kernel
theorem dX8_isSign_12 : decode cX8_isSign 12 = .ok (.iload_n 1, 1) := by decide +kernel
theorem dX8_isSign_13 : decode cX8_isSign 13 = .ok (.iaload, 1) := by decide +kernel
theorem dX8_isSign_14 : decode cX8_isSign 14 = .ok (.iconst 4, 1) := by decide +kernel
theorem dX8_isSign_15 : decode cX8_isSign 15 = .ok (.if_icmp .ne 19, 3) := by decide +kernel
theorem dX8_isSign_18 : decode cX8_isSign 18 = .ok (.aload_n 0, 1) := by decide +kernel
theorem dX8_isSign_19 : decode cX8_isSign 19 = .ok (.getfield 99, 3) := by decide +kernel
theorem dX8_isSign_22 : decode cX8_isSign 22 = .ok (.iload_n 1, 1) := by decide +kernel
theorem dX8_isSign_23 : decode cX8_isSign 23 = .ok (.laload, 1) := by decide +kernel
theorem dX8_isSign_24 : decode cX8_isSign 24 = .ok (.iload_n 2, 1) := by decide +kernel
theorem dX8_isSign_25 : decode cX8_isSign 25 = .ok (.i2l, 1) := by decide +kernel
theorem dX8_isSign_26 : decode cX8_isSign 26 = .ok (.lcmp, 1) := by decide +kernel
theorem dX8_isSign_27 : decode cX8_isSign 27 = .ok (.ifCond .ne 7, 3) := by decide +kernel
theorem dX8_isSign_30 : decode cX8_isSign 30 = .ok (.iconst 1, 1) := by decide +kernel
theorem dX8_isSign_31 : decode cX8_isSign 31 = .ok (.goto 4, 3) := by decide +kernel
theorem dX8_isSign_34 : decode cX8_isSign 34 = .ok (.iconst 0, 1) := by decide +kernel
theorem dX8_isSign_35 : decode cX8_isSign 35 = .ok (.ireturn, 1) := by decide +kernel
theorem dX8_isName_0 : decode cX8_isName 0 = .ok (.iload_n 1, 1) := by decide +kernel
theorem dX8_isName_1 : decode cX8_isName 1 = .ok (.aload_n 0, 1) := by decide +kernel
theorem dX8_isName_2 : decode cX8_isName 2 = .ok (.getfield 215, 3) := by decide +kernel
theorem dX8_isName_5 : decode cX8_isName 5 = .ok (.if_icmp .ge 17, 3) := by decide +kernel
theorem dX8_isName_8 : decode cX8_isName 8 = .ok (.aload_n 0, 1) := by decide +kernel
theorem dX8_isName_9 : decode cX8_isName 9 = .ok (.getfield 90, 3) := by decide +kernel
theorem dX8_isName_12 : decode cX8_isName 12 = .ok (.iload_n 1, 1) := by decide +kernel
theorem dX8_isName_13 : decode cX8_isName 13 = .ok (.iaload, 1) := by decide +kernel
theorem dX8_isName_14 : decode cX8_isName 14 = .ok (.iconst 1, 1) := by decide +kernel
theorem dX8_isName_15 : decode cX8_isName 15 = .ok (.if_icmp .ne 7, 3) := by decide +kernel
theorem dX8_isName_18 : decode cX8_isName 18 = .ok (.iconst 1, 1) := by decide +kernel
theorem dX8_isName_19 : decode cX8_isName 19 = .ok (.goto 4, 3) := by decide +kernel
theorem dX8_isName_22 : decode cX8_isName 22 = .ok (.iconst 0, 1) := by decide +kernel
theorem dX8_isName_23 : decode cX8_isName 23 = .ok (.ireturn, 1) := by decide +kernel
theorem dX8_macroNamed_0 : decode cX8_macroNamed 0 = .ok (.iconst 0, 1) := by decide +kernel
theorem dX8_macroNamed_1 : decode cX8_macroNamed 1 = .ok (.istore_n 2, 1) := by decide +kernel
theorem dX8_macroNamed_2 : decode cX8_macroNamed 2 = .ok (.iload_n 2, 1) := by decide +kernel
theorem dX8_macroNamed_3 : decode cX8_macroNamed 3 = .ok (.aload_n 0, 1) := by decide +kernel
theorem dX8_macroNamed_4 : decode cX8_macroNamed 4 = .ok (.getfield 245, 3) := by decide +kernel
theorem dX8_macroNamed_7 : decode cX8_macroNamed 7 = .ok (.if_icmp .ge 105, 3) := by decide +kernel
theorem dX8_macroNamed_10 : decode cX8_macroNamed 10 = .ok (.aload_n 0, 1) := by decide +kernel
theorem dX8_macroNamed_11 : decode cX8_macroNamed 11 = .ok (.iload_n 1, 1) := by decide +kernel
theorem dX8_macroNamed_12 : decode cX8_macroNamed 12 = .ok (.invokevirtual 248, 3) := by decide +kernel
theorem dX8_macroNamed_15 : decode cX8_macroNamed 15 = .ok (.ifCond .eq 97, 3) := by decide +kernel
theorem dX8_macroNamed_18 : decode cX8_macroNamed 18 = .ok (.aload_n 0, 1) := by decide +kernel
theorem dX8_macroNamed_19 : decode cX8_macroNamed 19 = .ok (.getfield 72, 3) := by decide +kernel
theorem dX8_macroNamed_22 : decode cX8_macroNamed 22 = .ok (.iload_n 2, 1) := by decide +kernel
theorem dX8_macroNamed_23 : decode cX8_macroNamed 23 = .ok (.iaload, 1) := by decide +kernel
theorem dX8_macroNamed_24 : decode cX8_macroNamed 24 = .ok (.aload_n 0, 1) := by decide +kernel
theorem dX8_macroNamed_25 : decode cX8_macroNamed 25 = .ok (.getfield 96, 3) := by decide +kernel
theorem dX8_macroNamed_28 : decode cX8_macroNamed 28 = .ok (.iload_n 1, 1) := by decide +kernel
theorem dX8_macroNamed_29 : decode cX8_macroNamed 29 = .ok (.iaload, 1) := by decide +kernel
theorem dX8_macroNamed_30 : decode cX8_macroNamed 30 = .ok (.if_icmp .ne 7, 3) := by decide +kernel
theorem dX8_macroNamed_33 : decode cX8_macroNamed 33 = .ok (.iconst 1, 1) := by decide +kernel
theorem dX8_macroNamed_34 : decode cX8_macroNamed 34 = .ok (.goto 4, 3) := by decide +kernel
theorem dX8_macroNamed_37 : decode cX8_macroNamed 37 = .ok (.iconst 0, 1) := by decide +kernel
theorem dX8_macroNamed_38 : decode cX8_macroNamed 38 = .ok (.istore_n 3, 1) := by decide +kernel
theorem dX8_macroNamed_39 : decode cX8_macroNamed 39 = .ok (.iconst 0, 1) := by decide +kernel
theorem dX8_macroNamed_40 : decode cX8_macroNamed 40 = .ok (.istore 4, 2) := by decide +kernel
theorem dX8_macroNamed_42 : decode cX8_macroNamed 42 = .ok (.iload 4, 2) := by decide +kernel
theorem dX8_macroNamed_44 : decode cX8_macroNamed 44 = .ok (.aload_n 0, 1) := by decide +kernel
theorem dX8_macroNamed_45 : decode cX8_macroNamed 45 = .ok (.getfield 96, 3) := by decide +kernel
theorem dX8_macroNamed_48 : decode cX8_macroNamed 48 = .ok (.iload_n 1, 1) := by decide +kernel
theorem dX8_macroNamed_49 : decode cX8_macroNamed 49 = .ok (.iaload, 1) := by decide +kernel
theorem dX8_macroNamed_50 : decode cX8_macroNamed 50 = .ok (.if_icmp .ge 50, 3) := by decide +kernel
theorem dX8_macroNamed_53 : decode cX8_macroNamed 53 = .ok (.iload_n 3, 1) := by decide +kernel
theorem dX8_macroNamed_54 : decode cX8_macroNamed 54 = .ok (.ifCond .eq 46, 3) := by decide +kernel
theorem dX8_macroNamed_57 : decode cX8_macroNamed 57 = .ok (.aload_n 0, 1) := by decide +kernel
theorem dX8_macroNamed_58 : decode cX8_macroNamed 58 = .ok (.getfield 14, 3) := by decide +kernel
theorem dX8_macroNamed_61 : decode cX8_macroNamed 61 = .ok (.aload_n 0, 1) := by decide +kernel
theorem dX8_macroNamed_62 : decode cX8_macroNamed 62 = .ok (.getfield 69, 3) := by decide +kernel
theorem dX8_macroNamed_65 : decode cX8_macroNamed 65 = .ok (.iload_n 2, 1) := by decide +kernel
theorem dX8_macroNamed_66 : decode cX8_macroNamed 66 = .ok (.iaload, 1) := by decide +kernel
theorem dX8_macroNamed_67 : decode cX8_macroNamed 67 = .ok (.iload 4, 2) := by decide +kernel
theorem dX8_macroNamed_69 : decode cX8_macroNamed 69 = .ok (.iadd, 1) := by decide +kernel
theorem dX8_macroNamed_70 : decode cX8_macroNamed 70 = .ok (.baload, 1) := by decide +kernel
theorem dX8_macroNamed_71 : decode cX8_macroNamed 71 = .ok (.aload_n 0, 1) := by decide +kernel
theorem dX8_macroNamed_72 : decode cX8_macroNamed 72 = .ok (.getfield 21, 3) := by decide +kernel
theorem dX8_macroNamed_75 : decode cX8_macroNamed 75 = .ok (.aload_n 0, 1) := by decide +kernel
theorem dX8_macroNamed_76 : decode cX8_macroNamed 76 = .ok (.getfield 93, 3) := by decide +kernel
theorem dX8_macroNamed_79 : decode cX8_macroNamed 79 = .ok (.iload_n 1, 1) := by decide +kernel
theorem dX8_macroNamed_80 : decode cX8_macroNamed 80 = .ok (.iaload, 1) := by decide +kernel
theorem dX8_macroNamed_81 : decode cX8_macroNamed 81 = .ok (.iload 4, 2) := by decide +kernel
theorem dX8_macroNamed_83 : decode cX8_macroNamed 83 = .ok (.iadd, 1) := by decide +kernel
theorem dX8_macroNamed_84 : decode cX8_macroNamed 84 = .ok (.baload, 1) := by decide +kernel
theorem dX8_macroNamed_85 : decode cX8_macroNamed 85 = .ok (.if_icmp .ne 7, 3) := by decide +kernel
theorem dX8_macroNamed_88 : decode cX8_macroNamed 88 = .ok (.iconst 1, 1) := by decide +kernel
theorem dX8_macroNamed_89 : decode cX8_macroNamed 89 = .ok (.goto 4, 3) := by decide +kernel
theorem dX8_macroNamed_92 : decode cX8_macroNamed 92 = .ok (.iconst 0, 1) := by decide +kernel
theorem dX8_macroNamed_93 : decode cX8_macroNamed 93 = .ok (.istore_n 3, 1) := by decide +kernel
theorem dX8_macroNamed_94 : decode cX8_macroNamed 94 = .ok (.iinc 4 1, 3) := by decide +kernel
theorem dX8_macroNamed_97 : decode cX8_macroNamed 97 = .ok (.goto (-55), 3) := by decide +kernel
theorem dX8_macroNamed_100 : decode cX8_macroNamed 100 = .ok (.iload_n 3, 1) := by decide +kernel
theorem dX8_macroNamed_101 : decode cX8_macroNamed 101 = .ok (.ifCond .eq 5, 3) := by decide +kernel
theorem dX8_macroNamed_104 : decode cX8_macroNamed 104 = .ok (.iload_n 2, 1) := by decide +kernel
theorem dX8_macroNamed_105 : decode cX8_macroNamed 105 = .ok (.ireturn, 1) := by decide +kernel
theorem dX8_macroNamed_106 : decode cX8_macroNamed 106 = .ok (.iinc 2 1, 3) := by decide +kernel
theorem dX8_macroNamed_109 : decode cX8_macroNamed 109 = .ok (.goto (-107), 3) := by decide +kernel
theorem dX8_macroNamed_112 : decode cX8_macroNamed 112 = .ok (.iconst (-1), 1) := by decide +kernel
theorem dX8_macroNamed_113 : decode cX8_macroNamed 113 = .ok (.ireturn, 1) := by decide +kernel
theorem dX8_nesting_0 : decode cX8_nesting 0 = .ok (.iload_n 1, 1) := by decide +kernel
theorem dX8_nesting_1 : decode cX8_nesting 1 = .ok (.iconst 1, 1) := by decide +kernel
theorem dX8_nesting_2 : decode cX8_nesting 2 = .ok (.if_icmp .eq 14, 3) := by decide +kernel
theorem dX8_nesting_5 : decode cX8_nesting 5 = .ok (.iload_n 1, 1) := by decide +kernel
theorem dX8_nesting_6 : decode cX8_nesting 6 = .ok (.iconst 4, 1) := by decide +kernel
theorem dX8_nesting_7 : decode cX8_nesting 7 = .ok (.if_icmp .eq 9, 3) := by decide +kernel
theorem dX8_nesting_10 : decode cX8_nesting 10 = .ok (.iload_n 1, 1) := by decide +kernel
theorem dX8_nesting_11 : decode cX8_nesting 11 = .ok (.bipush 8, 2) := by decide +kernel
theorem dX8_nesting_13 : decode cX8_nesting 13 = .ok (.if_icmp .ne 18, 3) := by decide +kernel
theorem dX8_nesting_16 : decode cX8_nesting 16 = .ok (.aload_n 0, 1) := by decide +kernel
theorem dX8_nesting_17 : decode cX8_nesting 17 = .ok (.getfield 139, 3) := by decide +kernel
theorem dX8_nesting_20 : decode cX8_nesting 20 = .ok (.bipush 20, 2) := by decide +kernel
theorem dX8_nesting_22 : decode cX8_nesting 22 = .ok (.if_icmp .ne 9, 3) := by decide +kernel
theorem dX8_nesting_25 : decode cX8_nesting 25 = .ok (.aload_n 0, 1) := by decide +kernel
theorem dX8_nesting_26 : decode cX8_nesting 26 = .ok (.bipush 6, 2) := by decide +kernel
theorem dX8_nesting_28 : decode cX8_nesting 28 = .ok (.invokevirtual 189, 3) := by decide +kernel
theorem dX8_nesting_31 : decode cX8_nesting 31 = .ok (.aload_n 0, 1) := by decide +kernel
theorem dX8_nesting_32 : decode cX8_nesting 32 = .ok (.getfield 139, 3) := by decide +kernel
theorem dX8_nesting_35 : decode cX8_nesting 35 = .ok (.ifCond .le 22, 3) := by decide +kernel
theorem dX8_nesting_38 : decode cX8_nesting 38 = .ok (.aload_n 0, 1) := by decide +kernel
theorem dX8_nesting_39 : decode cX8_nesting 39 = .ok (.getfield 24, 3) := by decide +kernel
theorem dX8_nesting_42 : decode cX8_nesting 42 = .ok (.aload_n 0, 1) := by decide +kernel
theorem dX8_nesting_43 : decode cX8_nesting 43 = .ok (.getfield 139, 3) := by decide +kernel
theorem dX8_nesting_46 : decode cX8_nesting 46 = .ok (.iconst 1, 1) := by decide +kernel
theorem dX8_nesting_47 : decode cX8_nesting 47 = .ok (.isub, 1) := by decide +kernel
theorem dX8_nesting_48 : decode cX8_nesting 48 = .ok (.iaload, 1) := by decide +kernel
theorem dX8_nesting_49 : decode cX8_nesting 49 = .ok (.iconst 1, 1) := by decide +kernel
theorem dX8_nesting_50 : decode cX8_nesting 50 = .ok (.if_icmp .ne 7, 3) := by decide +kernel
theorem dX8_nesting_53 : decode cX8_nesting 53 = .ok (.iconst 1, 1) := by decide +kernel
theorem dX8_nesting_54 : decode cX8_nesting 54 = .ok (.goto 4, 3) := by decide +kernel
theorem dX8_nesting_57 : decode cX8_nesting 57 = .ok (.iconst 0, 1) := by decide +kernel
theorem dX8_nesting_58 : decode cX8_nesting 58 = .ok (.istore_n 3, 1) := by decide +kernel
theorem dX8_nesting_59 : decode cX8_nesting 59 = .ok (.iload_n 1, 1) := by decide +kernel
theorem dX8_nesting_60 : decode cX8_nesting 60 = .ok (.iconst 2, 1) := by decide +kernel
theorem dX8_nesting_61 : decode cX8_nesting 61 = .ok (.if_icmp .ne 21, 3) := by decide +kernel
theorem dX8_nesting_64 : decode cX8_nesting 64 = .ok (.iload_n 3, 1) := by decide +kernel
theorem dX8_nesting_65 : decode cX8_nesting 65 = .ok (.ifCond .eq 37, 3) := by decide +kernel
theorem dX8_nesting_68 : decode cX8_nesting 68 = .ok (.aload_n 0, 1) := by decide +kernel
theorem dX8_nesting_69 : decode cX8_nesting 69 = .ok (.getfield 52, 3) := by decide +kernel
theorem dX8_nesting_72 : decode cX8_nesting 72 = .ok (.aload_n 0, 1) := by decide +kernel
theorem dX8_nesting_73 : decode cX8_nesting 73 = .ok (.getfield 139, 3) := by decide +kernel
theorem dX8_nesting_76 : decode cX8_nesting 76 = .ok (.iconst 1, 1) := by decide +kernel
theorem dX8_nesting_77 : decode cX8_nesting 77 = .ok (.isub, 1) := by decide +kernel
theorem dX8_nesting_78 : decode cX8_nesting 78 = .ok (.baload, 1) := by decide +kernel
theorem dX8_nesting_79 : decode cX8_nesting 79 = .ok (.ifCond .ne 23, 3) := by decide +kernel
theorem dX8_nesting_82 : decode cX8_nesting 82 = .ok (.iload_n 1, 1) := by decide +kernel
theorem dX8_nesting_83 : decode cX8_nesting 83 = .ok (.iconst 3, 1) := by decide +kernel
theorem dX8_nesting_84 : decode cX8_nesting 84 = .ok (.if_icmp .ne 7, 3) := by decide +kernel
theorem dX8_nesting_87 : decode cX8_nesting 87 = .ok (.iload_n 3, 1) := by decide +kernel
theorem dX8_nesting_88 : decode cX8_nesting 88 = .ok (.ifCond .eq 14, 3) := by decide +kernel
theorem dX8_nesting_91 : decode cX8_nesting 91 = .ok (.iload_n 1, 1) := by decide +kernel
theorem dX8_nesting_92 : decode cX8_nesting 92 = .ok (.iconst 5, 1) := by decide +kernel
theorem dX8_nesting_93 : decode cX8_nesting 93 = .ok (.if_icmp .eq 9, 3) := by decide +kernel
theorem dX8_nesting_96 : decode cX8_nesting 96 = .ok (.iload_n 1, 1) := by decide +kernel
theorem dX8_nesting_97 : decode cX8_nesting 97 = .ok (.bipush 7, 2) := by decide +kernel
theorem dX8_nesting_99 : decode cX8_nesting 99 = .ok (.if_icmp .ne 9, 3) := by decide +kernel
theorem dX8_nesting_102 : decode cX8_nesting 102 = .ok (.aload_n 0, 1) := by decide +kernel
theorem dX8_nesting_103 : decode cX8_nesting 103 = .ok (.bipush 6, 2) := by decide +kernel
theorem dX8_nesting_105 : decode cX8_nesting 105 = .ok (.invokevirtual 189, 3) := by decide +kernel
theorem dX8_nesting_108 : decode cX8_nesting 108 = .ok (.aload_n 0, 1) := by decide +kernel
theorem dX8_nesting_109 : decode cX8_nesting 109 = .ok (.invokevirtual 183, 3) := by decide +kernel
theorem dX8_nesting_112 : decode cX8_nesting 112 = .ok (.istore 4, 2) := by decide +kernel
theorem dX8_nesting_114 : decode cX8_nesting 114 = .ok (.iload_n 1, 1) := by decide +kernel
theorem dX8_nesting_115 : decode cX8_nesting 115 = .ok (.bipush 6, 2) := by decide +kernel
theorem dX8_nesting_117 : decode cX8_nesting 117 = .ok (.if_icmp .ne 14, 3) := by decide +kernel
theorem dX8_nesting_120 : decode cX8_nesting 120 = .ok (.iload 4, 2) := by decide +kernel
theorem dX8_nesting_122 : decode cX8_nesting 122 = .ok (.ifCond .lt 9, 3) := by decide +kernel
theorem dX8_nesting_125 : decode cX8_nesting 125 = .ok (.aload_n 0, 1) := by decide +kernel
theorem dX8_nesting_126 : decode cX8_nesting 126 = .ok (.bipush 6, 2) := by decide +kernel
theorem dX8_nesting_128 : decode cX8_nesting 128 = .ok (.invokevirtual 189, 3) := by decide +kernel
theorem dX8_nesting_131 : decode cX8_nesting 131 = .ok (.iload_n 1, 1) := by decide +kernel
theorem dX8_nesting_132 : decode cX8_nesting 132 = .ok (.iconst 1, 1) := by decide +kernel
theorem dX8_nesting_133 : decode cX8_nesting 133 = .ok (.if_icmp .eq 8, 3) := by decide +kernel
theorem dX8_nesting_136 : decode cX8_nesting 136 = .ok (.iload_n 1, 1) := by decide +kernel
theorem dX8_nesting_137 : decode cX8_nesting 137 = .ok (.iconst 4, 1) := by decide +kernel
theorem dX8_nesting_138 : decode cX8_nesting 138 = .ok (.if_icmp .ne 50, 3) := by decide +kernel
theorem dX8_nesting_141 : decode cX8_nesting 141 = .ok (.iload 4, 2) := by decide +kernel
theorem dX8_nesting_143 : decode cX8_nesting 143 = .ok (.ifCond .lt 45, 3) := by decide +kernel
theorem dX8_nesting_146 : decode cX8_nesting 146 = .ok (.aload_n 0, 1) := by decide +kernel
theorem dX8_nesting_147 : decode cX8_nesting 147 = .ok (.aload_n 0, 1) := by decide +kernel
theorem dX8_nesting_148 : decode cX8_nesting 148 = .ok (.getfield 186, 3) := by decide +kernel
theorem dX8_nesting_151 : decode cX8_nesting 151 = .ok (.aload_n 0, 1) := by decide +kernel
theorem dX8_nesting_152 : decode cX8_nesting 152 = .ok (.getfield 136, 3) := by decide +kernel
theorem dX8_nesting_155 : decode cX8_nesting 155 = .ok (.iconst 1, 1) := by decide +kernel
theorem dX8_nesting_156 : decode cX8_nesting 156 = .ok (.iadd, 1) := by decide +kernel
theorem dX8_nesting_157 : decode cX8_nesting 157 = .ok (.aload_n 0, 1) := by decide +kernel
theorem dX8_nesting_158 : decode cX8_nesting 158 = .ok (.getfield 28, 3) := by decide +kernel
theorem dX8_nesting_161 : decode cX8_nesting 161 = .ok (.iload 4, 2) := by decide +kernel
theorem dX8_nesting_163 : decode cX8_nesting 163 = .ok (.iaload, 1) := by decide +kernel
theorem dX8_nesting_164 : decode cX8_nesting 164 = .ok (.iload_n 1, 1) := by decide +kernel
theorem dX8_nesting_165 : decode cX8_nesting 165 = .ok (.iload_n 1, 1) := by decide +kernel
theorem dX8_nesting_166 : decode cX8_nesting 166 = .ok (.iconst 1, 1) := by decide +kernel
theorem dX8_nesting_167 : decode cX8_nesting 167 = .ok (.if_icmp .ne 7, 3) := by decide +kernel
theorem dX8_nesting_170 : decode cX8_nesting 170 = .ok (.iconst 3, 1) := by decide +kernel
theorem dX8_nesting_171 : decode cX8_nesting 171 = .ok (.goto 4, 3) := by decide +kernel
theorem dX8_nesting_174 : decode cX8_nesting 174 = .ok (.iconst 5, 1) := by decide +kernel
theorem dX8_nesting_175 : decode cX8_nesting 175 = .ok (.iconst 0, 1) := by decide +kernel
theorem dX8_nesting_176 : decode cX8_nesting 176 = .ok (.invokevirtual 251, 3) := by decide +kernel
theorem dX8_nesting_179 : decode cX8_nesting 179 = .ok (.ifCond .ne 9, 3) := by decide +kernel
theorem dX8_nesting_182 : decode cX8_nesting 182 = .ok (.aload_n 0, 1) := by decide +kernel
theorem dX8_nesting_183 : decode cX8_nesting 183 = .ok (.bipush 6, 2) := by decide +kernel
theorem dX8_nesting_185 : decode cX8_nesting 185 = .ok (.invokevirtual 189, 3) := by decide +kernel
theorem dX8_nesting_188 : decode cX8_nesting 188 = .ok (.iload_n 1, 1) := by decide +kernel
theorem dX8_nesting_189 : decode cX8_nesting 189 = .ok (.iconst 2, 1) := by decide +kernel
theorem dX8_nesting_190 : decode cX8_nesting 190 = .ok (.if_icmp .ne 48, 3) := by decide +kernel
theorem dX8_nesting_193 : decode cX8_nesting 193 = .ok (.aload_n 0, 1) := by decide +kernel
theorem dX8_nesting_194 : decode cX8_nesting 194 = .ok (.getfield 142, 3) := by decide +kernel
theorem dX8_nesting_197 : decode cX8_nesting 197 = .ok (.ifCond .ne 41, 3) := by decide +kernel
theorem dX8_nesting_200 : decode cX8_nesting 200 = .ok (.iload 4, 2) := by decide +kernel
theorem dX8_nesting_202 : decode cX8_nesting 202 = .ok (.ifCond .lt 36, 3) := by decide +kernel
theorem dX8_nesting_205 : decode cX8_nesting 205 = .ok (.aload_n 0, 1) := by decide +kernel
theorem dX8_nesting_206 : decode cX8_nesting 206 = .ok (.aload_n 0, 1) := by decide +kernel
theorem dX8_nesting_207 : decode cX8_nesting 207 = .ok (.getfield 186, 3) := by decide +kernel
theorem dX8_nesting_210 : decode cX8_nesting 210 = .ok (.aload_n 0, 1) := by decide +kernel
theorem dX8_nesting_211 : decode cX8_nesting 211 = .ok (.getfield 136, 3) := by decide +kernel
theorem dX8_nesting_214 : decode cX8_nesting 214 = .ok (.iconst 1, 1) := by decide +kernel
theorem dX8_nesting_215 : decode cX8_nesting 215 = .ok (.iadd, 1) := by decide +kernel
theorem dX8_nesting_216 : decode cX8_nesting 216 = .ok (.aload_n 0, 1) := by decide +kernel
theorem dX8_nesting_217 : decode cX8_nesting 217 = .ok (.getfield 28, 3) := by decide +kernel
theorem dX8_nesting_220 : decode cX8_nesting 220 = .ok (.iload 4, 2) := by decide +kernel
theorem dX8_nesting_222 : decode cX8_nesting 222 = .ok (.iaload, 1) := by decide +kernel
theorem dX8_nesting_223 : decode cX8_nesting 223 = .ok (.iconst 1, 1) := by decide +kernel
theorem dX8_nesting_224 : decode cX8_nesting 224 = .ok (.iconst 3, 1) := by decide +kernel
theorem dX8_nesting_225 : decode cX8_nesting 225 = .ok (.iconst 0, 1) := by decide +kernel
theorem dX8_nesting_226 : decode cX8_nesting 226 = .ok (.invokevirtual 251, 3) := by decide +kernel
theorem dX8_nesting_229 : decode cX8_nesting 229 = .ok (.ifCond .ne 9, 3) := by decide +kernel
theorem dX8_nesting_232 : decode cX8_nesting 232 = .ok (.aload_n 0, 1) := by decide +kernel
theorem dX8_nesting_233 : decode cX8_nesting 233 = .ok (.bipush 6, 2) := by decide +kernel
theorem dX8_nesting_235 : decode cX8_nesting 235 = .ok (.invokevirtual 189, 3) := by decide +kernel
theorem dX8_nesting_238 : decode cX8_nesting 238 = .ok (.iload_n 1, 1) := by decide +kernel
theorem dX8_nesting_239 : decode cX8_nesting 239 = .ok (.bipush 8, 2) := by decide +kernel
theorem dX8_nesting_241 : decode cX8_nesting 241 = .ok (.if_icmp .ne 37, 3) := by decide +kernel
theorem dX8_nesting_244 : decode cX8_nesting 244 = .ok (.aload_n 0, 1) := by decide +kernel
theorem dX8_nesting_245 : decode cX8_nesting 245 = .ok (.getfield 142, 3) := by decide +kernel
theorem dX8_nesting_248 : decode cX8_nesting 248 = .ok (.ifCond .ne 30, 3) := by decide +kernel
theorem dX8_nesting_251 : decode cX8_nesting 251 = .ok (.aload_n 0, 1) := by decide +kernel
theorem dX8_nesting_252 : decode cX8_nesting 252 = .ok (.invokevirtual 255, 3) := by decide +kernel
theorem dX8_nesting_255 : decode cX8_nesting 255 = .ok (.aload_n 0, 1) := by decide +kernel
theorem dX8_nesting_256 : decode cX8_nesting 256 = .ok (.getfield 66, 3) := by decide +kernel
theorem dX8_nesting_259 : decode cX8_nesting 259 = .ok (.aload_n 0, 1) := by decide +kernel
theorem dX8_nesting_260 : decode cX8_nesting 260 = .ok (.getfield 139, 3) := by decide +kernel
theorem dX8_nesting_263 : decode cX8_nesting 263 = .ok (.iaload, 1) := by decide +kernel
theorem dX8_nesting_264 : decode cX8_nesting 264 = .ok (.aload_n 0, 1) := by decide +kernel
theorem dX8_nesting_265 : decode cX8_nesting 265 = .ok (.iload_n 2, 1) := by decide +kernel
theorem dX8_nesting_266 : decode cX8_nesting 266 = .ok (.invokevirtual 258, 3) := by decide +kernel
theorem dX8_nesting_269 : decode cX8_nesting 269 = .ok (.if_icmp .le 9, 3) := by decide +kernel
theorem dX8_nesting_272 : decode cX8_nesting 272 = .ok (.aload_n 0, 1) := by decide +kernel
theorem dX8_nesting_273 : decode cX8_nesting 273 = .ok (.bipush 6, 2) := by decide +kernel
theorem dX8_nesting_275 : decode cX8_nesting 275 = .ok (.invokevirtual 189, 3) := by decide +kernel
theorem dX8_nesting_278 : decode cX8_nesting 278 = .ok (.return_, 1) := by decide +kernel
theorem dX8_parametersOf_0 : decode cX8_parametersOf 0 = .ok (.aload_n 0, 1) := by decide +kernel
theorem dX8_parametersOf_1 : decode cX8_parametersOf 1 = .ok (.getfield 75, 3) := by decide +kernel
theorem dX8_parametersOf_4 : decode cX8_parametersOf 4 = .ok (.iload_n 1, 1) := by decide +kernel
theorem dX8_parametersOf_5 : decode cX8_parametersOf 5 = .ok (.iaload, 1) := by decide +kernel
theorem dX8_parametersOf_6 : decode cX8_parametersOf 6 = .ok (.istore_n 2, 1) := by decide +kernel
theorem dX8_parametersOf_7 : decode cX8_parametersOf 7 = .ok (.aload_n 0, 1) := by decide +kernel
theorem dX8_parametersOf_8 : decode cX8_parametersOf 8 = .ok (.iload_n 2, 1) := by decide +kernel
theorem dX8_parametersOf_9 : decode cX8_parametersOf 9 = .ok (.invokevirtual 163, 3) := by decide +kernel
theorem dX8_parametersOf_12 : decode cX8_parametersOf 12 = .ok (.istore_n 3, 1) := by decide +kernel
theorem dX8_parametersOf_13 : decode cX8_parametersOf 13 = .ok (.iconst 0, 1) := by decide +kernel
theorem dX8_parametersOf_14 : decode cX8_parametersOf 14 = .ok (.istore 4, 2) := by decide +kernel
theorem dX8_parametersOf_16 : decode cX8_parametersOf 16 = .ok (.iload_n 2, 1) := by decide +kernel
theorem dX8_parametersOf_17 : decode cX8_parametersOf 17 = .ok (.iload_n 3, 1) := by decide +kernel
theorem dX8_parametersOf_18 : decode cX8_parametersOf 18 = .ok (.if_icmp .ge 49, 3) := by decide +kernel
theorem dX8_parametersOf_21 : decode cX8_parametersOf 21 = .ok (.aload_n 0, 1) := by decide +kernel
theorem dX8_parametersOf_22 : decode cX8_parametersOf 22 = .ok (.getfield 14, 3) := by decide +kernel
theorem dX8_parametersOf_25 : decode cX8_parametersOf 25 = .ok (.iload_n 2, 1) := by decide +kernel
theorem dX8_parametersOf_26 : decode cX8_parametersOf 26 = .ok (.baload, 1) := by decide +kernel
theorem dX8_parametersOf_27 : decode cX8_parametersOf 27 = .ok (.bipush 59, 2) := by decide +kernel
theorem dX8_parametersOf_29 : decode cX8_parametersOf 29 = .ok (.if_icmp .eq 38, 3) := by decide +kernel
theorem dX8_parametersOf_32 : decode cX8_parametersOf 32 = .ok (.aload_n 0, 1) := by decide +kernel
theorem dX8_parametersOf_33 : decode cX8_parametersOf 33 = .ok (.getfield 14, 3) := by decide +kernel
theorem dX8_parametersOf_36 : decode cX8_parametersOf 36 = .ok (.iload_n 2, 1) := by decide +kernel
theorem dX8_parametersOf_37 : decode cX8_parametersOf 37 = .ok (.baload, 1) := by decide +kernel
theorem dX8_parametersOf_38 : decode cX8_parametersOf 38 = .ok (.invokestatic 117, 3) := by decide +kernel
theorem dX8_parametersOf_41 : decode cX8_parametersOf 41 = .ok (.ifCond .eq 20, 3) := by decide +kernel
theorem dX8_parametersOf_44 : decode cX8_parametersOf 44 = .ok (.aload_n 0, 1) := by decide +kernel
theorem dX8_parametersOf_45 : decode cX8_parametersOf 45 = .ok (.getfield 14, 3) := by decide +kernel
theorem dX8_parametersOf_48 : decode cX8_parametersOf 48 = .ok (.iload_n 2, 1) := by decide +kernel
theorem dX8_parametersOf_49 : decode cX8_parametersOf 49 = .ok (.iconst 1, 1) := by decide +kernel
theorem dX8_parametersOf_50 : decode cX8_parametersOf 50 = .ok (.isub, 1) := by decide +kernel
theorem dX8_parametersOf_51 : decode cX8_parametersOf 51 = .ok (.baload, 1) := by decide +kernel
theorem dX8_parametersOf_52 : decode cX8_parametersOf 52 = .ok (.invokestatic 117, 3) := by decide +kernel
theorem dX8_parametersOf_55 : decode cX8_parametersOf 55 = .ok (.ifCond .ne 6, 3) := by decide +kernel
theorem dX8_parametersOf_58 : decode cX8_parametersOf 58 = .ok (.iinc 4 1, 3) := by decide +kernel
theorem dX8_parametersOf_61 : decode cX8_parametersOf 61 = .ok (.iinc 2 1, 3) := by decide +kernel
theorem dX8_parametersOf_64 : decode cX8_parametersOf 64 = .ok (.goto (-48), 3) := by decide +kernel
theorem dX8_parametersOf_67 : decode cX8_parametersOf 67 = .ok (.iload 4, 2) := by decide +kernel
theorem dX8_parametersOf_69 : decode cX8_parametersOf 69 = .ok (.ireturn, 1) := by decide +kernel
theorem dX8_split_0 : decode cX8_split 0 = .ok (.aload_n 0, 1) := by decide +kernel
theorem dX8_split_1 : decode cX8_split 1 = .ok (.getfield 139, 3) := by decide +kernel
theorem dX8_split_4 : decode cX8_split 4 = .ok (.istore_n 1, 1) := by decide +kernel
theorem dX8_split_5 : decode cX8_split 5 = .ok (.aload_n 0, 1) := by decide +kernel
theorem dX8_split_6 : decode cX8_split 6 = .ok (.getfield 66, 3) := by decide +kernel
theorem dX8_split_9 : decode cX8_split 9 = .ok (.iload_n 1, 1) := by decide +kernel
theorem dX8_split_10 : decode cX8_split 10 = .ok (.iconst 0, 1) := by decide +kernel
theorem dX8_split_11 : decode cX8_split 11 = .ok (.iastore, 1) := by decide +kernel
theorem dX8_split_12 : decode cX8_split 12 = .ok (.iconst 0, 1) := by decide +kernel
theorem dX8_split_13 : decode cX8_split 13 = .ok (.istore_n 2, 1) := by decide +kernel
theorem dX8_split_14 : decode cX8_split 14 = .ok (.aload_n 0, 1) := by decide +kernel
theorem dX8_split_15 : decode cX8_split 15 = .ok (.getfield 215, 3) := by decide +kernel
theorem dX8_split_18 : decode cX8_split 18 = .ok (.iconst 1, 1) := by decide +kernel
theorem dX8_split_19 : decode cX8_split 19 = .ok (.if_icmp .ne 4, 3) := by decide +kernel
theorem dX8_split_22 : decode cX8_split 22 = .ok (.return_, 1) := by decide +kernel
theorem dX8_split_23 : decode cX8_split 23 = .ok (.iconst 0, 1) := by decide +kernel
theorem dX8_split_24 : decode cX8_split 24 = .ok (.istore_n 3, 1) := by decide +kernel
theorem dX8_split_25 : decode cX8_split 25 = .ok (.aload_n 0, 1) := by decide +kernel
theorem dX8_split_26 : decode cX8_split 26 = .ok (.getfield 93, 3) := by decide +kernel
theorem dX8_split_29 : decode cX8_split 29 = .ok (.iconst 0, 1) := by decide +kernel
theorem dX8_split_30 : decode cX8_split 30 = .ok (.iaload, 1) := by decide +kernel
theorem dX8_split_31 : decode cX8_split 31 = .ok (.aload_n 0, 1) := by decide +kernel
theorem dX8_split_32 : decode cX8_split 32 = .ok (.getfield 96, 3) := by decide +kernel
theorem dX8_split_35 : decode cX8_split 35 = .ok (.iconst 0, 1) := by decide +kernel
theorem dX8_split_36 : decode cX8_split 36 = .ok (.iaload, 1) := by decide +kernel
theorem dX8_split_37 : decode cX8_split 37 = .ok (.iadd, 1) := by decide +kernel
theorem dX8_split_38 : decode cX8_split 38 = .ok (.istore 4, 2) := by decide +kernel
theorem dX8_split_40 : decode cX8_split 40 = .ok (.iconst 1, 1) := by decide +kernel
theorem dX8_split_41 : decode cX8_split 41 = .ok (.istore 5, 2) := by decide +kernel
theorem dX8_split_43 : decode cX8_split 43 = .ok (.iload 5, 2) := by decide +kernel
theorem dX8_split_45 : decode cX8_split 45 = .ok (.aload_n 0, 1) := by decide +kernel
theorem dX8_split_46 : decode cX8_split 46 = .ok (.getfield 215, 3) := by decide +kernel
theorem dX8_split_49 : decode cX8_split 49 = .ok (.if_icmp .gt 279, 3) := by decide +kernel
theorem dX8_split_52 : decode cX8_split 52 = .ok (.aload_n 0, 1) := by decide +kernel
theorem dX8_split_53 : decode cX8_split 53 = .ok (.iload 5, 2) := by decide +kernel
theorem dX8_split_55 : decode cX8_split 55 = .ok (.bipush 40, 2) := by decide +kernel
theorem dX8_split_57 : decode cX8_split 57 = .ok (.invokevirtual 261, 3) := by decide +kernel
theorem dX8_split_60 : decode cX8_split 60 = .ok (.ifCond .ne 14, 3) := by decide +kernel
theorem dX8_split_63 : decode cX8_split 63 = .ok (.aload_n 0, 1) := by decide +kernel
theorem dX8_split_64 : decode cX8_split 64 = .ok (.iload 5, 2) := by decide +kernel
theorem dX8_split_66 : decode cX8_split 66 = .ok (.bipush 91, 2) := by decide +kernel
theorem dX8_split_68 : decode cX8_split 68 = .ok (.invokevirtual 261, 3) := by decide +kernel
theorem dX8_split_71 : decode cX8_split 71 = .ok (.ifCond .eq 6, 3) := by decide +kernel
theorem dX8_split_74 : decode cX8_split 74 = .ok (.iinc 3 1, 3) := by decide +kernel
theorem dX8_split_77 : decode cX8_split 77 = .ok (.aload_n 0, 1) := by decide +kernel
theorem dX8_split_78 : decode cX8_split 78 = .ok (.iload 5, 2) := by decide +kernel
theorem dX8_split_80 : decode cX8_split 80 = .ok (.bipush 41, 2) := by decide +kernel
theorem dX8_split_82 : decode cX8_split 82 = .ok (.invokevirtual 261, 3) := by decide +kernel
theorem dX8_split_85 : decode cX8_split 85 = .ok (.ifCond .ne 14, 3) := by decide +kernel
theorem dX8_split_88 : decode cX8_split 88 = .ok (.aload_n 0, 1) := by decide +kernel
theorem dX8_split_89 : decode cX8_split 89 = .ok (.iload 5, 2) := by decide +kernel
theorem dX8_split_91 : decode cX8_split 91 = .ok (.bipush 93, 2) := by decide +kernel
theorem dX8_split_93 : decode cX8_split 93 = .ok (.invokevirtual 261, 3) := by decide +kernel
theorem dX8_split_96 : decode cX8_split 96 = .ok (.ifCond .eq 10, 3) := by decide +kernel
theorem dX8_split_99 : decode cX8_split 99 = .ok (.iload_n 3, 1) := by decide +kernel
theorem dX8_split_100 : decode cX8_split 100 = .ok (.ifCond .le 6, 3) := by decide +kernel
theorem dX8_split_103 : decode cX8_split 103 = .ok (.iinc 3 (-1), 3) := by decide +kernel
theorem dX8_split_106 : decode cX8_split 106 = .ok (.iload 5, 2) := by decide +kernel
theorem dX8_split_108 : decode cX8_split 108 = .ok (.aload_n 0, 1) := by decide +kernel
theorem dX8_split_109 : decode cX8_split 109 = .ok (.getfield 215, 3) := by decide +kernel
theorem dX8_split_112 : decode cX8_split 112 = .ok (.if_icmp .eq 18, 3) := by decide +kernel
theorem dX8_split_115 : decode cX8_split 115 = .ok (.iload_n 3, 1) := by decide +kernel
theorem dX8_split_116 : decode cX8_split 116 = .ok (.ifCond .ne 18, 3) := by decide +kernel
theorem dX8_split_119 : decode cX8_split 119 = .ok (.aload_n 0, 1) := by decide +kernel
theorem dX8_split_120 : decode cX8_split 120 = .ok (.iload 5, 2) := by decide +kernel
theorem dX8_split_122 : decode cX8_split 122 = .ok (.bipush 44, 2) := by decide +kernel
theorem dX8_split_124 : decode cX8_split 124 = .ok (.invokevirtual 261, 3) := by decide +kernel
theorem dX8_split_127 : decode cX8_split 127 = .ok (.ifCond .eq 7, 3) := by decide +kernel
theorem dX8_split_130 : decode cX8_split 130 = .ok (.iconst 1, 1) := by decide +kernel
theorem dX8_split_131 : decode cX8_split 131 = .ok (.goto 4, 3) := by decide +kernel
theorem dX8_split_134 : decode cX8_split 134 = .ok (.iconst 0, 1) := by decide +kernel
theorem dX8_split_135 : decode cX8_split 135 = .ok (.istore 6, 2) := by decide +kernel
theorem dX8_split_137 : decode cX8_split 137 = .ok (.iload 6, 2) := by decide +kernel
theorem dX8_split_139 : decode cX8_split 139 = .ok (.ifCond .ne 6, 3) := by decide +kernel
theorem dX8_split_142 : decode cX8_split 142 = .ok (.goto 180, 3) := by decide +kernel
theorem dX8_split_145 : decode cX8_split 145 = .ok (.aload_n 0, 1) := by decide +kernel
theorem dX8_split_146 : decode cX8_split 146 = .ok (.getfield 93, 3) := by decide +kernel
theorem dX8_split_149 : decode cX8_split 149 = .ok (.iload 5, 2) := by decide +kernel
theorem dX8_split_151 : decode cX8_split 151 = .ok (.iaload, 1) := by decide +kernel
theorem dX8_split_152 : decode cX8_split 152 = .ok (.istore 7, 2) := by decide +kernel
theorem dX8_split_154 : decode cX8_split 154 = .ok (.iload 4, 2) := by decide +kernel
theorem dX8_split_156 : decode cX8_split 156 = .ok (.iload 7, 2) := by decide +kernel
theorem dX8_split_158 : decode cX8_split 158 = .ok (.if_icmp .ge 33, 3) := by decide +kernel
theorem dX8_split_161 : decode cX8_split 161 = .ok (.aload_n 0, 1) := by decide +kernel
theorem dX8_split_162 : decode cX8_split 162 = .ok (.getfield 21, 3) := by decide +kernel
theorem dX8_split_165 : decode cX8_split 165 = .ok (.iload 4, 2) := by decide +kernel
theorem dX8_split_167 : decode cX8_split 167 = .ok (.baload, 1) := by decide +kernel
theorem dX8_split_168 : decode cX8_split 168 = .ok (.bipush 32, 2) := by decide +kernel
theorem dX8_split_170 : decode cX8_split 170 = .ok (.if_icmp .eq 15, 3) := by decide +kernel
theorem dX8_split_173 : decode cX8_split 173 = .ok (.aload_n 0, 1) := by decide +kernel
theorem dX8_split_174 : decode cX8_split 174 = .ok (.getfield 21, 3) := by decide +kernel
theorem dX8_split_177 : decode cX8_split 177 = .ok (.iload 4, 2) := by decide +kernel
theorem dX8_split_179 : decode cX8_split 179 = .ok (.baload, 1) := by decide +kernel
theorem dX8_split_180 : decode cX8_split 180 = .ok (.bipush 9, 2) := by decide +kernel
theorem dX8_split_182 : decode cX8_split 182 = .ok (.if_icmp .ne 9, 3) := by decide +kernel
theorem dX8_split_185 : decode cX8_split 185 = .ok (.iinc 4 1, 3) := by decide +kernel
theorem dX8_split_188 : decode cX8_split 188 = .ok (.goto (-34), 3) := by decide +kernel
theorem dX8_split_191 : decode cX8_split 191 = .ok (.iload 7, 2) := by decide +kernel
theorem dX8_split_193 : decode cX8_split 193 = .ok (.iload 4, 2) := by decide +kernel
theorem dX8_split_195 : decode cX8_split 195 = .ok (.if_icmp .le 37, 3) := by decide +kernel
theorem dX8_split_198 : decode cX8_split 198 = .ok (.aload_n 0, 1) := by decide +kernel
theorem dX8_split_199 : decode cX8_split 199 = .ok (.getfield 21, 3) := by decide +kernel
theorem dX8_split_202 : decode cX8_split 202 = .ok (.iload 7, 2) := by decide +kernel
theorem dX8_split_204 : decode cX8_split 204 = .ok (.iconst 1, 1) := by decide +kernel
theorem dX8_split_205 : decode cX8_split 205 = .ok (.isub, 1) := by decide +kernel
theorem dX8_split_206 : decode cX8_split 206 = .ok (.baload, 1) := by decide +kernel
theorem dX8_split_207 : decode cX8_split 207 = .ok (.bipush 32, 2) := by decide +kernel
theorem dX8_split_209 : decode cX8_split 209 = .ok (.if_icmp .eq 17, 3) := by decide +kernel
theorem dX8_split_212 : decode cX8_split 212 = .ok (.aload_n 0, 1) := by decide +kernel
theorem dX8_split_213 : decode cX8_split 213 = .ok (.getfield 21, 3) := by decide +kernel
theorem dX8_split_216 : decode cX8_split 216 = .ok (.iload 7, 2) := by decide +kernel
theorem dX8_split_218 : decode cX8_split 218 = .ok (.iconst 1, 1) := by decide +kernel
theorem dX8_split_219 : decode cX8_split 219 = .ok (.isub, 1) := by decide +kernel
theorem dX8_split_220 : decode cX8_split 220 = .ok (.baload, 1) := by decide +kernel
theorem dX8_split_221 : decode cX8_split 221 = .ok (.bipush 9, 2) := by decide +kernel
theorem dX8_split_223 : decode cX8_split 223 = .ok (.if_icmp .ne 9, 3) := by decide +kernel
theorem dX8_split_226 : decode cX8_split 226 = .ok (.iinc 7 (-1), 3) := by decide +kernel
theorem dX8_split_229 : decode cX8_split 229 = .ok (.goto (-38), 3) := by decide +kernel
theorem dX8_split_232 : decode cX8_split 232 = .ok (.aload_n 0, 1) := by decide +kernel
theorem dX8_split_233 : decode cX8_split 233 = .ok (.getfield 66, 3) := by decide +kernel
theorem dX8_split_236 : decode cX8_split 236 = .ok (.iload_n 1, 1) := by decide +kernel
theorem dX8_split_237 : decode cX8_split 237 = .ok (.iaload, 1) := by decide +kernel
theorem dX8_split_238 : decode cX8_split 238 = .ok (.istore 8, 2) := by decide +kernel
theorem dX8_split_240 : decode cX8_split 240 = .ok (.aload_n 0, 1) := by decide +kernel
theorem dX8_split_241 : decode cX8_split 241 = .ok (.getfield 63, 3) := by decide +kernel
theorem dX8_split_244 : decode cX8_split 244 = .ok (.iload_n 1, 1) := by decide +kernel
theorem dX8_split_245 : decode cX8_split 245 = .ok (.aaload, 1) := by decide +kernel
theorem dX8_split_246 : decode cX8_split 246 = .ok (.iconst 2, 1) := by decide +kernel
theorem dX8_split_247 : decode cX8_split 247 = .ok (.iload 8, 2) := by decide +kernel
theorem dX8_split_249 : decode cX8_split 249 = .ok (.imul, 1) := by decide +kernel
theorem dX8_split_250 : decode cX8_split 250 = .ok (.iload_n 2, 1) := by decide +kernel
theorem dX8_split_251 : decode cX8_split 251 = .ok (.iastore, 1) := by decide +kernel
theorem dX8_split_252 : decode cX8_split 252 = .ok (.iload 4, 2) := by decide +kernel
theorem dX8_split_254 : decode cX8_split 254 = .ok (.istore 9, 2) := by decide +kernel
theorem dX8_split_256 : decode cX8_split 256 = .ok (.iload 9, 2) := by decide +kernel
theorem dX8_split_258 : decode cX8_split 258 = .ok (.iload 7, 2) := by decide +kernel
theorem dX8_split_260 : decode cX8_split 260 = .ok (.if_icmp .ge 27, 3) := by decide +kernel
theorem dX8_split_263 : decode cX8_split 263 = .ok (.aload_n 0, 1) := by decide +kernel
theorem dX8_split_264 : decode cX8_split 264 = .ok (.getfield 58, 3) := by decide +kernel
theorem dX8_split_267 : decode cX8_split 267 = .ok (.iload_n 1, 1) := by decide +kernel
theorem dX8_split_268 : decode cX8_split 268 = .ok (.aaload, 1) := by decide +kernel
theorem dX8_split_269 : decode cX8_split 269 = .ok (.iload_n 2, 1) := by decide +kernel
theorem dX8_split_270 : decode cX8_split 270 = .ok (.aload_n 0, 1) := by decide +kernel
theorem dX8_split_271 : decode cX8_split 271 = .ok (.getfield 21, 3) := by decide +kernel
theorem dX8_split_274 : decode cX8_split 274 = .ok (.iload 9, 2) := by decide +kernel
theorem dX8_split_276 : decode cX8_split 276 = .ok (.baload, 1) := by decide +kernel
theorem dX8_split_277 : decode cX8_split 277 = .ok (.bastore, 1) := by decide +kernel
theorem dX8_split_278 : decode cX8_split 278 = .ok (.iinc 2 1, 3) := by decide +kernel
theorem dX8_split_281 : decode cX8_split 281 = .ok (.iinc 9 1, 3) := by decide +kernel
theorem dX8_split_284 : decode cX8_split 284 = .ok (.goto (-28), 3) := by decide +kernel
theorem dX8_split_287 : decode cX8_split 287 = .ok (.aload_n 0, 1) := by decide +kernel
theorem dX8_split_288 : decode cX8_split 288 = .ok (.getfield 63, 3) := by decide +kernel
theorem dX8_split_291 : decode cX8_split 291 = .ok (.iload_n 1, 1) := by decide +kernel
theorem dX8_split_292 : decode cX8_split 292 = .ok (.aaload, 1) := by decide +kernel
theorem dX8_split_293 : decode cX8_split 293 = .ok (.iconst 2, 1) := by decide +kernel
theorem dX8_split_294 : decode cX8_split 294 = .ok (.iload 8, 2) := by decide +kernel
theorem dX8_split_296 : decode cX8_split 296 = .ok (.imul, 1) := by decide +kernel
theorem dX8_split_297 : decode cX8_split 297 = .ok (.iconst 1, 1) := by decide +kernel
theorem dX8_split_298 : decode cX8_split 298 = .ok (.iadd, 1) := by decide +kernel
theorem dX8_split_299 : decode cX8_split 299 = .ok (.iload_n 2, 1) := by decide +kernel
theorem dX8_split_300 : decode cX8_split 300 = .ok (.iastore, 1) := by decide +kernel
theorem dX8_split_301 : decode cX8_split 301 = .ok (.aload_n 0, 1) := by decide +kernel
theorem dX8_split_302 : decode cX8_split 302 = .ok (.getfield 66, 3) := by decide +kernel
theorem dX8_split_305 : decode cX8_split 305 = .ok (.iload_n 1, 1) := by decide +kernel
theorem dX8_split_306 : decode cX8_split 306 = .ok (.dup2, 1) := by decide +kernel
theorem dX8_split_307 : decode cX8_split 307 = .ok (.iaload, 1) := by decide +kernel
theorem dX8_split_308 : decode cX8_split 308 = .ok (.iconst 1, 1) := by decide +kernel
theorem dX8_split_309 : decode cX8_split 309 = .ok (.iadd, 1) := by decide +kernel
theorem dX8_split_310 : decode cX8_split 310 = .ok (.iastore, 1) := by decide +kernel
theorem dX8_split_311 : decode cX8_split 311 = .ok (.aload_n 0, 1) := by decide +kernel
theorem dX8_split_312 : decode cX8_split 312 = .ok (.getfield 93, 3) := by decide +kernel
theorem dX8_split_315 : decode cX8_split 315 = .ok (.iload 5, 2) := by decide +kernel
theorem dX8_split_317 : decode cX8_split 317 = .ok (.iaload, 1) := by decide +kernel
theorem dX8_split_318 : decode cX8_split 318 = .ok (.iconst 1, 1) := by decide +kernel
theorem dX8_split_319 : decode cX8_split 319 = .ok (.iadd, 1) := by decide +kernel
theorem dX8_split_320 : decode cX8_split 320 = .ok (.istore 4, 2) := by decide +kernel
theorem dX8_split_322 : decode cX8_split 322 = .ok (.iinc 5 1, 3) := by decide +kernel
theorem dX8_split_325 : decode cX8_split 325 = .ok (.goto (-282), 3) := by decide +kernel
theorem dX8_split_328 : decode cX8_split 328 = .ok (.return_, 1) := by decide +kernel
theorem dX8_enter_0 : decode cX8_enter 0 = .ok (.aload_n 0, 1) := by decide +kernel
theorem dX8_enter_1 : decode cX8_enter 1 = .ok (.getfield 139, 3) := by decide +kernel
theorem dX8_enter_4 : decode cX8_enter 4 = .ok (.istore 4, 2) := by decide +kernel
theorem dX8_enter_6 : decode cX8_enter 6 = .ok (.aload_n 0, 1) := by decide +kernel
theorem dX8_enter_7 : decode cX8_enter 7 = .ok (.getfield 24, 3) := by decide +kernel
theorem dX8_enter_10 : decode cX8_enter 10 = .ok (.iload 4, 2) := by decide +kernel
theorem dX8_enter_12 : decode cX8_enter 12 = .ok (.iload_n 1, 1) := by decide +kernel
theorem dX8_enter_13 : decode cX8_enter 13 = .ok (.iastore, 1) := by decide +kernel
theorem dX8_enter_14 : decode cX8_enter 14 = .ok (.aload_n 0, 1) := by decide +kernel
theorem dX8_enter_15 : decode cX8_enter 15 = .ok (.getfield 28, 3) := by decide +kernel
theorem dX8_enter_18 : decode cX8_enter 18 = .ok (.iload 4, 2) := by decide +kernel
theorem dX8_enter_20 : decode cX8_enter 20 = .ok (.iload_n 2, 1) := by decide +kernel
theorem dX8_enter_21 : decode cX8_enter 21 = .ok (.iastore, 1) := by decide +kernel
theorem dX8_enter_22 : decode cX8_enter 22 = .ok (.aload_n 0, 1) := by decide +kernel
theorem dX8_enter_23 : decode cX8_enter 23 = .ok (.getfield 31, 3) := by decide +kernel
theorem dX8_enter_26 : decode cX8_enter 26 = .ok (.iload 4, 2) := by decide +kernel
theorem dX8_enter_28 : decode cX8_enter 28 = .ok (.iload_n 3, 1) := by decide +kernel
theorem dX8_enter_29 : decode cX8_enter 29 = .ok (.iastore, 1) := by decide +kernel
theorem dX8_enter_30 : decode cX8_enter 30 = .ok (.aload_n 0, 1) := by decide +kernel
theorem dX8_enter_31 : decode cX8_enter 31 = .ok (.getfield 34, 3) := by decide +kernel
theorem dX8_enter_34 : decode cX8_enter 34 = .ok (.iload 4, 2) := by decide +kernel
theorem dX8_enter_36 : decode cX8_enter 36 = .ok (.aload_n 0, 1) := by decide +kernel
theorem dX8_enter_37 : decode cX8_enter 37 = .ok (.getfield 186, 3) := by decide +kernel
theorem dX8_enter_40 : decode cX8_enter 40 = .ok (.iastore, 1) := by decide +kernel
theorem dX8_enter_41 : decode cX8_enter 41 = .ok (.aload_n 0, 1) := by decide +kernel
theorem dX8_enter_42 : decode cX8_enter 42 = .ok (.getfield 37, 3) := by decide +kernel
theorem dX8_enter_45 : decode cX8_enter 45 = .ok (.iload 4, 2) := by decide +kernel
theorem dX8_enter_47 : decode cX8_enter 47 = .ok (.aload_n 0, 1) := by decide +kernel
theorem dX8_enter_48 : decode cX8_enter 48 = .ok (.getfield 136, 3) := by decide +kernel
theorem dX8_enter_51 : decode cX8_enter 51 = .ok (.iastore, 1) := by decide +kernel
theorem dX8_enter_52 : decode cX8_enter 52 = .ok (.aload_n 0, 1) := by decide +kernel
theorem dX8_enter_53 : decode cX8_enter 53 = .ok (.getfield 43, 3) := by decide +kernel
theorem dX8_enter_56 : decode cX8_enter 56 = .ok (.iload 4, 2) := by decide +kernel
theorem dX8_enter_58 : decode cX8_enter 58 = .ok (.aload_n 0, 1) := by decide +kernel
theorem dX8_enter_59 : decode cX8_enter 59 = .ok (.getfield 136, 3) := by decide +kernel
theorem dX8_enter_62 : decode cX8_enter 62 = .ok (.iastore, 1) := by decide +kernel
theorem dX8_enter_63 : decode cX8_enter 63 = .ok (.aload_n 0, 1) := by decide +kernel
theorem dX8_enter_64 : decode cX8_enter 64 = .ok (.getfield 52, 3) := by decide +kernel
theorem dX8_enter_67 : decode cX8_enter 67 = .ok (.iload 4, 2) := by decide +kernel
theorem dX8_enter_69 : decode cX8_enter 69 = .ok (.iconst 0, 1) := by decide +kernel
theorem dX8_enter_70 : decode cX8_enter 70 = .ok (.bastore, 1) := by decide +kernel
theorem dX8_enter_71 : decode cX8_enter 71 = .ok (.aload_n 0, 1) := by decide +kernel
theorem dX8_enter_72 : decode cX8_enter 72 = .ok (.dup, 1) := by decide +kernel
theorem dX8_enter_73 : decode cX8_enter 73 = .ok (.getfield 139, 3) := by decide +kernel
theorem dX8_enter_76 : decode cX8_enter 76 = .ok (.iconst 1, 1) := by decide +kernel
theorem dX8_enter_77 : decode cX8_enter 77 = .ok (.iadd, 1) := by decide +kernel
theorem dX8_enter_78 : decode cX8_enter 78 = .ok (.putfield 139, 3) := by decide +kernel
theorem dX8_enter_81 : decode cX8_enter 81 = .ok (.return_, 1) := by decide +kernel
theorem dX8_goBehind_0 : decode cX8_goBehind 0 = .ok (.aload_n 0, 1) := by decide +kernel
theorem dX8_goBehind_1 : decode cX8_goBehind 1 = .ok (.aload_n 0, 1) := by decide +kernel
theorem dX8_goBehind_2 : decode cX8_goBehind 2 = .ok (.getfield 180, 3) := by decide +kernel
theorem dX8_goBehind_5 : decode cX8_goBehind 5 = .ok (.putfield 186, 3) := by decide +kernel
theorem dX8_goBehind_8 : decode cX8_goBehind 8 = .ok (.aload_n 0, 1) := by decide +kernel
theorem dX8_goBehind_9 : decode cX8_goBehind 9 = .ok (.aload_n 0, 1) := by decide +kernel
theorem dX8_goBehind_10 : decode cX8_goBehind 10 = .ok (.getfield 174, 3) := by decide +kernel
theorem dX8_goBehind_13 : decode cX8_goBehind 13 = .ok (.putfield 136, 3) := by decide +kernel
theorem dX8_goBehind_16 : decode cX8_goBehind 16 = .ok (.return_, 1) := by decide +kernel
theorem dX8_call_0 : decode cX8_call 0 = .ok (.aload_n 0, 1) := by decide +kernel
theorem dX8_call_1 : decode cX8_call 1 = .ok (.bipush 6, 2) := by decide +kernel
theorem dX8_call_3 : decode cX8_call 3 = .ok (.aload_n 0, 1) := by decide +kernel
theorem dX8_call_4 : decode cX8_call 4 = .ok (.getfield 84, 3) := by decide +kernel
theorem dX8_call_7 : decode cX8_call 7 = .ok (.iload_n 1, 1) := by decide +kernel
theorem dX8_call_8 : decode cX8_call 8 = .ok (.iaload, 1) := by decide +kernel
theorem dX8_call_9 : decode cX8_call 9 = .ok (.aload_n 0, 1) := by decide +kernel
theorem dX8_call_10 : decode cX8_call 10 = .ok (.getfield 87, 3) := by decide +kernel
theorem dX8_call_13 : decode cX8_call 13 = .ok (.iload_n 1, 1) := by decide +kernel
theorem dX8_call_14 : decode cX8_call 14 = .ok (.iaload, 1) := by decide +kernel
theorem dX8_call_15 : decode cX8_call 15 = .ok (.invokevirtual 265, 3) := by decide +kernel
theorem dX8_call_18 : decode cX8_call 18 = .ok (.aload_n 0, 1) := by decide +kernel
theorem dX8_call_19 : decode cX8_call 19 = .ok (.getfield 139, 3) := by decide +kernel
theorem dX8_call_22 : decode cX8_call 22 = .ok (.iconst 1, 1) := by decide +kernel
theorem dX8_call_23 : decode cX8_call 23 = .ok (.isub, 1) := by decide +kernel
theorem dX8_call_24 : decode cX8_call 24 = .ok (.istore_n 2, 1) := by decide +kernel
theorem dX8_call_25 : decode cX8_call 25 = .ok (.aload_n 0, 1) := by decide +kernel
theorem dX8_call_26 : decode cX8_call 26 = .ok (.getfield 46, 3) := by decide +kernel
theorem dX8_call_29 : decode cX8_call 29 = .ok (.iload_n 2, 1) := by decide +kernel
theorem dX8_call_30 : decode cX8_call 30 = .ok (.iload_n 1, 1) := by decide +kernel
theorem dX8_call_31 : decode cX8_call 31 = .ok (.iastore, 1) := by decide +kernel
theorem dX8_call_32 : decode cX8_call 32 = .ok (.aload_n 0, 1) := by decide +kernel
theorem dX8_call_33 : decode cX8_call 33 = .ok (.getfield 49, 3) := by decide +kernel
theorem dX8_call_36 : decode cX8_call 36 = .ok (.iload_n 2, 1) := by decide +kernel
theorem dX8_call_37 : decode cX8_call 37 = .ok (.aload_n 0, 1) := by decide +kernel
theorem dX8_call_38 : decode cX8_call 38 = .ok (.getfield 269, 3) := by decide +kernel
theorem dX8_call_41 : decode cX8_call 41 = .ok (.iastore, 1) := by decide +kernel
theorem dX8_call_42 : decode cX8_call 42 = .ok (.aload_n 0, 1) := by decide +kernel
theorem dX8_call_43 : decode cX8_call 43 = .ok (.getfield 40, 3) := by decide +kernel
theorem dX8_call_46 : decode cX8_call 46 = .ok (.iload_n 2, 1) := by decide +kernel
theorem dX8_call_47 : decode cX8_call 47 = .ok (.iconst 1, 1) := by decide +kernel
theorem dX8_call_48 : decode cX8_call 48 = .ok (.iastore, 1) := by decide +kernel
theorem dX8_call_49 : decode cX8_call 49 = .ok (.aload_n 0, 1) := by decide +kernel
theorem dX8_call_50 : decode cX8_call 50 = .ok (.dup, 1) := by decide +kernel
theorem dX8_call_51 : decode cX8_call 51 = .ok (.getfield 269, 3) := by decide +kernel
theorem dX8_call_54 : decode cX8_call 54 = .ok (.iconst 1, 1) := by decide +kernel
theorem dX8_call_55 : decode cX8_call 55 = .ok (.iadd, 1) := by decide +kernel
theorem dX8_call_56 : decode cX8_call 56 = .ok (.putfield 269, 3) := by decide +kernel
theorem dX8_call_59 : decode cX8_call 59 = .ok (.aload_n 0, 1) := by decide +kernel
theorem dX8_call_60 : decode cX8_call 60 = .ok (.aload_n 0, 1) := by decide +kernel
theorem dX8_call_61 : decode cX8_call 61 = .ok (.getfield 78, 3) := by decide +kernel
theorem dX8_call_64 : decode cX8_call 64 = .ok (.iload_n 1, 1) := by decide +kernel
theorem dX8_call_65 : decode cX8_call 65 = .ok (.iaload, 1) := by decide +kernel
theorem dX8_call_66 : decode cX8_call 66 = .ok (.putfield 186, 3) := by decide +kernel
theorem dX8_call_69 : decode cX8_call 69 = .ok (.aload_n 0, 1) := by decide +kernel
theorem dX8_call_70 : decode cX8_call 70 = .ok (.aload_n 0, 1) := by decide +kernel
theorem dX8_call_71 : decode cX8_call 71 = .ok (.getfield 81, 3) := by decide +kernel
theorem dX8_call_74 : decode cX8_call 74 = .ok (.iload_n 1, 1) := by decide +kernel
theorem dX8_call_75 : decode cX8_call 75 = .ok (.iaload, 1) := by decide +kernel
theorem dX8_call_76 : decode cX8_call 76 = .ok (.putfield 136, 3) := by decide +kernel
theorem dX8_call_79 : decode cX8_call 79 = .ok (.return_, 1) := by decide +kernel
theorem dX8_structure_0 : decode cX8_structure 0 = .ok (.aload_n 0, 1) := by decide +kernel
theorem dX8_structure_1 : decode cX8_structure 1 = .ok (.invokevirtual 183, 3) := by decide +kernel
theorem dX8_structure_4 : decode cX8_structure 4 = .ok (.istore_n 2, 1) := by decide +kernel
theorem dX8_structure_5 : decode cX8_structure 5 = .ok (.iload_n 2, 1) := by decide +kernel
theorem dX8_structure_6 : decode cX8_structure 6 = .ok (.ifCond .lt 12, 3) := by decide +kernel
theorem dX8_structure_9 : decode cX8_structure 9 = .ok (.aload_n 0, 1) := by decide +kernel
theorem dX8_structure_10 : decode cX8_structure 10 = .ok (.getfield 28, 3) := by decide +kernel
theorem dX8_structure_13 : decode cX8_structure 13 = .ok (.iload_n 2, 1) := by decide +kernel
theorem dX8_structure_14 : decode cX8_structure 14 = .ok (.iaload, 1) := by decide +kernel
theorem dX8_structure_15 : decode cX8_structure 15 = .ok (.goto 7, 3) := by decide +kernel
theorem dX8_structure_18 : decode cX8_structure 18 = .ok (.aload_n 0, 1) := by decide +kernel
theorem dX8_structure_19 : decode cX8_structure 19 = .ok (.getfield 160, 3) := by decide +kernel
theorem dX8_structure_22 : decode cX8_structure 22 = .ok (.istore_n 3, 1) := by decide +kernel
theorem dX8_structure_23 : decode cX8_structure 23 = .ok (.iload_n 1, 1) := by decide +kernel
theorem dX8_structure_24 : decode cX8_structure 24 = .ok (.bipush 6, 2) := by decide +kernel
theorem dX8_structure_26 : decode cX8_structure 26 = .ok (.if_icmp .ne 8, 3) := by decide +kernel
theorem dX8_structure_29 : decode cX8_structure 29 = .ok (.aload_n 0, 1) := by decide +kernel
theorem dX8_structure_30 : decode cX8_structure 30 = .ok (.invokevirtual 272, 3) := by decide +kernel
theorem dX8_structure_33 : decode cX8_structure 33 = .ok (.return_, 1) := by decide +kernel
theorem dX8_structure_34 : decode cX8_structure 34 = .ok (.iload_n 1, 1) := by decide +kernel
theorem dX8_structure_35 : decode cX8_structure 35 = .ok (.iconst 2, 1) := by decide +kernel
theorem dX8_structure_36 : decode cX8_structure 36 = .ok (.if_icmp .eq 8, 3) := by decide +kernel
theorem dX8_structure_39 : decode cX8_structure 39 = .ok (.iload_n 1, 1) := by decide +kernel
theorem dX8_structure_40 : decode cX8_structure 40 = .ok (.iconst 3, 1) := by decide +kernel
theorem dX8_structure_41 : decode cX8_structure 41 = .ok (.if_icmp .ne 7, 3) := by decide +kernel
theorem dX8_structure_44 : decode cX8_structure 44 = .ok (.iconst 1, 1) := by decide +kernel
theorem dX8_structure_45 : decode cX8_structure 45 = .ok (.goto 4, 3) := by decide +kernel
theorem dX8_structure_48 : decode cX8_structure 48 = .ok (.iconst 0, 1) := by decide +kernel
theorem dX8_structure_49 : decode cX8_structure 49 = .ok (.istore 4, 2) := by decide +kernel
theorem dX8_structure_51 : decode cX8_structure 51 = .ok (.iload 4, 2) := by decide +kernel
theorem dX8_structure_53 : decode cX8_structure 53 = .ok (.ifCond .eq 14, 3) := by decide +kernel
theorem dX8_structure_56 : decode cX8_structure 56 = .ok (.aload_n 0, 1) := by decide +kernel
theorem dX8_structure_57 : decode cX8_structure 57 = .ok (.getfield 215, 3) := by decide +kernel
theorem dX8_structure_60 : decode cX8_structure 60 = .ok (.iconst 1, 1) := by decide +kernel
theorem dX8_structure_61 : decode cX8_structure 61 = .ok (.if_icmp .le 29, 3) := by decide +kernel
theorem dX8_structure_64 : decode cX8_structure 64 = .ok (.goto 21, 3) := by decide +kernel
theorem dX8_structure_67 : decode cX8_structure 67 = .ok (.aload_n 0, 1) := by decide +kernel
theorem dX8_structure_68 : decode cX8_structure 68 = .ok (.getfield 215, 3) := by decide +kernel
theorem dX8_structure_71 : decode cX8_structure 71 = .ok (.iconst 2, 1) := by decide +kernel
theorem dX8_structure_72 : decode cX8_structure 72 = .ok (.if_icmp .ne 13, 3) := by decide +kernel
theorem dX8_structure_75 : decode cX8_structure 75 = .ok (.aload_n 0, 1) := by decide +kernel
theorem dX8_structure_76 : decode cX8_structure 76 = .ok (.getfield 90, 3) := by decide +kernel
theorem dX8_structure_79 : decode cX8_structure 79 = .ok (.iconst 1, 1) := by decide +kernel
theorem dX8_structure_80 : decode cX8_structure 80 = .ok (.iaload, 1) := by decide +kernel
theorem dX8_structure_81 : decode cX8_structure 81 = .ok (.iconst 2, 1) := by decide +kernel
theorem dX8_structure_82 : decode cX8_structure 82 = .ok (.if_icmp .eq 8, 3) := by decide +kernel
theorem dX8_structure_85 : decode cX8_structure 85 = .ok (.aload_n 0, 1) := by decide +kernel
theorem dX8_structure_86 : decode cX8_structure 86 = .ok (.iconst 1, 1) := by decide +kernel
theorem dX8_structure_87 : decode cX8_structure 87 = .ok (.invokevirtual 189, 3) := by decide +kernel
theorem dX8_structure_90 : decode cX8_structure 90 = .ok (.aload_n 0, 1) := by decide +kernel
theorem dX8_structure_91 : decode cX8_structure 91 = .ok (.getfield 142, 3) := by decide +kernel
theorem dX8_structure_94 : decode cX8_structure 94 = .ok (.ifCond .eq 4, 3) := by decide +kernel
theorem dX8_structure_97 : decode cX8_structure 97 = .ok (.return_, 1) := by decide +kernel
theorem dX8_structure_98 : decode cX8_structure 98 = .ok (.iload 4, 2) := by decide +kernel
theorem dX8_structure_100 : decode cX8_structure 100 = .ok (.ifCond .eq 77, 3) := by decide +kernel
theorem dX8_structure_103 : decode cX8_structure 103 = .ok (.iload_n 1, 1) := by decide +kernel
theorem dX8_structure_104 : decode cX8_structure 104 = .ok (.iconst 3, 1) := by decide +kernel
theorem dX8_structure_105 : decode cX8_structure 105 = .ok (.if_icmp .eq 24, 3) := by decide +kernel
theorem dX8_structure_108 : decode cX8_structure 108 = .ok (.aload_n 0, 1) := by decide +kernel
theorem dX8_structure_109 : decode cX8_structure 109 = .ok (.aload_n 0, 1) := by decide +kernel
theorem dX8_structure_110 : decode cX8_structure 110 = .ok (.getfield 186, 3) := by decide +kernel
theorem dX8_structure_113 : decode cX8_structure 113 = .ok (.aload_n 0, 1) := by decide +kernel
theorem dX8_structure_114 : decode cX8_structure 114 = .ok (.getfield 136, 3) := by decide +kernel
theorem dX8_structure_117 : decode cX8_structure 117 = .ok (.iconst 1, 1) := by decide +kernel
theorem dX8_structure_118 : decode cX8_structure 118 = .ok (.iadd, 1) := by decide +kernel
theorem dX8_structure_119 : decode cX8_structure 119 = .ok (.iload_n 3, 1) := by decide +kernel
theorem dX8_structure_120 : decode cX8_structure 120 = .ok (.iconst 1, 1) := by decide +kernel
theorem dX8_structure_121 : decode cX8_structure 121 = .ok (.iconst 3, 1) := by decide +kernel
theorem dX8_structure_122 : decode cX8_structure 122 = .ok (.iconst 0, 1) := by decide +kernel
theorem dX8_structure_123 : decode cX8_structure 123 = .ok (.invokevirtual 251, 3) := by decide +kernel
theorem dX8_structure_126 : decode cX8_structure 126 = .ok (.ifCond .eq 7, 3) := by decide +kernel
theorem dX8_structure_129 : decode cX8_structure 129 = .ok (.iconst 1, 1) := by decide +kernel
theorem dX8_structure_130 : decode cX8_structure 130 = .ok (.goto 4, 3) := by decide +kernel
theorem dX8_structure_133 : decode cX8_structure 133 = .ok (.iconst 0, 1) := by decide +kernel
theorem dX8_structure_134 : decode cX8_structure 134 = .ok (.istore 5, 2) := by decide +kernel
theorem dX8_structure_136 : decode cX8_structure 136 = .ok (.iload 5, 2) := by decide +kernel
theorem dX8_structure_138 : decode cX8_structure 138 = .ok (.ifCond .eq 16, 3) := by decide +kernel
theorem dX8_structure_141 : decode cX8_structure 141 = .ok (.aload_n 0, 1) := by decide +kernel
theorem dX8_structure_142 : decode cX8_structure 142 = .ok (.dup, 1) := by decide +kernel
theorem dX8_structure_143 : decode cX8_structure 143 = .ok (.getfield 139, 3) := by decide +kernel
theorem dX8_structure_146 : decode cX8_structure 146 = .ok (.iconst 1, 1) := by decide +kernel
theorem dX8_structure_147 : decode cX8_structure 147 = .ok (.isub, 1) := by decide +kernel
theorem dX8_structure_148 : decode cX8_structure 148 = .ok (.putfield 139, 3) := by decide +kernel
theorem dX8_structure_151 : decode cX8_structure 151 = .ok (.goto 11, 3) := by decide +kernel
theorem dX8_structure_154 : decode cX8_structure 154 = .ok (.aload_n 0, 1) := by decide +kernel
theorem dX8_structure_155 : decode cX8_structure 155 = .ok (.aload_n 0, 1) := by decide +kernel
theorem dX8_structure_156 : decode cX8_structure 156 = .ok (.getfield 160, 3) := by decide +kernel
theorem dX8_structure_159 : decode cX8_structure 159 = .ok (.putfield 186, 3) := by decide +kernel
theorem dX8_structure_162 : decode cX8_structure 162 = .ok (.iload 5, 2) := by decide +kernel
theorem dX8_structure_164 : decode cX8_structure 164 = .ok (.ifCond .eq 12, 3) := by decide +kernel
theorem dX8_structure_167 : decode cX8_structure 167 = .ok (.iload_n 1, 1) := by decide +kernel
theorem dX8_structure_168 : decode cX8_structure 168 = .ok (.iconst 2, 1) := by decide +kernel
theorem dX8_structure_169 : decode cX8_structure 169 = .ok (.if_icmp .ne 7, 3) := by decide +kernel
theorem dX8_structure_172 : decode cX8_structure 172 = .ok (.aload_n 0, 1) := by decide +kernel
theorem dX8_structure_173 : decode cX8_structure 173 = .ok (.invokevirtual 275, 3) := by decide +kernel
theorem dX8_structure_176 : decode cX8_structure 176 = .ok (.return_, 1) := by decide +kernel
theorem dX8_structure_177 : decode cX8_structure 177 = .ok (.aload_n 0, 1) := by decide +kernel
theorem dX8_structure_178 : decode cX8_structure 178 = .ok (.getfield 99, 3) := by decide +kernel
theorem dX8_structure_181 : decode cX8_structure 181 = .ok (.iconst 1, 1) := by decide +kernel
theorem dX8_structure_182 : decode cX8_structure 182 = .ok (.laload, 1) := by decide +kernel
theorem dX8_structure_183 : decode cX8_structure 183 = .ok (.lstore 5, 2) := by decide +kernel
theorem dX8_structure_185 : decode cX8_structure 185 = .ok (.iload_n 1, 1) := by decide +kernel
theorem dX8_structure_186 : decode cX8_structure 186 = .ok (.iconst 4, 1) := by decide +kernel
theorem dX8_structure_187 : decode cX8_structure 187 = .ok (.if_icmp .ne 26, 3) := by decide +kernel
theorem dX8_structure_190 : decode cX8_structure 190 = .ok (.lload 5, 2) := by decide +kernel
theorem dX8_structure_192 : decode cX8_structure 192 = .ok (.lconst 0, 1) := by decide +kernel
theorem dX8_structure_193 : decode cX8_structure 193 = .ok (.lcmp, 1) := by decide +kernel
theorem dX8_structure_194 : decode cX8_structure 194 = .ok (.ifCond .lt 12, 3) := by decide +kernel
theorem dX8_structure_197 : decode cX8_structure 197 = .ok (.lload 5, 2) := by decide +kernel
theorem dX8_structure_199 : decode cX8_structure 199 = .ok (.ldc2_w 278, 3) := by decide +kernel
theorem dX8_structure_202 : decode cX8_structure 202 = .ok (.lcmp, 1) := by decide +kernel
theorem dX8_structure_203 : decode cX8_structure 203 = .ok (.ifCond .le 10, 3) := by decide +kernel
theorem dX8_structure_206 : decode cX8_structure 206 = .ok (.aload_n 0, 1) := by decide +kernel
theorem dX8_structure_207 : decode cX8_structure 207 = .ok (.bipush 7, 2) := by decide +kernel
theorem dX8_structure_209 : decode cX8_structure 209 = .ok (.invokevirtual 189, 3) := by decide +kernel
theorem dX8_structure_212 : decode cX8_structure 212 = .ok (.return_, 1) := by decide +kernel
theorem dX8_structure_213 : decode cX8_structure 213 = .ok (.iload_n 1, 1) := by decide +kernel
theorem dX8_structure_214 : decode cX8_structure 214 = .ok (.iconst 1, 1) := by decide +kernel
theorem dX8_structure_215 : decode cX8_structure 215 = .ok (.if_icmp .ne 18, 3) := by decide +kernel
theorem dX8_structure_218 : decode cX8_structure 218 = .ok (.lload 5, 2) := by decide +kernel
theorem dX8_structure_220 : decode cX8_structure 220 = .ok (.lconst 0, 1) := by decide +kernel
theorem dX8_structure_221 : decode cX8_structure 221 = .ok (.lcmp, 1) := by decide +kernel
theorem dX8_structure_222 : decode cX8_structure 222 = .ok (.ifCond .eq 11, 3) := by decide +kernel
theorem dX8_structure_225 : decode cX8_structure 225 = .ok (.aload_n 0, 1) := by decide +kernel
theorem dX8_structure_226 : decode cX8_structure 226 = .ok (.iconst 1, 1) := by decide +kernel
theorem dX8_structure_227 : decode cX8_structure 227 = .ok (.iconst 0, 1) := by decide +kernel
theorem dX8_structure_228 : decode cX8_structure 228 = .ok (.iconst 0, 1) := by decide +kernel
theorem dX8_structure_229 : decode cX8_structure 229 = .ok (.invokevirtual 265, 3) := by decide +kernel
theorem dX8_structure_232 : decode cX8_structure 232 = .ok (.return_, 1) := by decide +kernel
theorem dX8_structure_233 : decode cX8_structure 233 = .ok (.aload_n 0, 1) := by decide +kernel
theorem dX8_structure_234 : decode cX8_structure 234 = .ok (.aload_n 0, 1) := by decide +kernel
theorem dX8_structure_235 : decode cX8_structure 235 = .ok (.getfield 186, 3) := by decide +kernel
theorem dX8_structure_238 : decode cX8_structure 238 = .ok (.aload_n 0, 1) := by decide +kernel
theorem dX8_structure_239 : decode cX8_structure 239 = .ok (.getfield 136, 3) := by decide +kernel
theorem dX8_structure_242 : decode cX8_structure 242 = .ok (.iconst 1, 1) := by decide +kernel
theorem dX8_structure_243 : decode cX8_structure 243 = .ok (.iadd, 1) := by decide +kernel
theorem dX8_structure_244 : decode cX8_structure 244 = .ok (.iload_n 3, 1) := by decide +kernel
theorem dX8_structure_245 : decode cX8_structure 245 = .ok (.iload_n 1, 1) := by decide +kernel
theorem dX8_structure_246 : decode cX8_structure 246 = .ok (.iload_n 1, 1) := by decide +kernel
theorem dX8_structure_247 : decode cX8_structure 247 = .ok (.iconst 1, 1) := by decide +kernel
theorem dX8_structure_248 : decode cX8_structure 248 = .ok (.if_icmp .ne 7, 3) := by decide +kernel
theorem dX8_structure_251 : decode cX8_structure 251 = .ok (.iconst 3, 1) := by decide +kernel
theorem dX8_structure_252 : decode cX8_structure 252 = .ok (.goto 4, 3) := by decide +kernel
theorem dX8_structure_255 : decode cX8_structure 255 = .ok (.iconst 5, 1) := by decide +kernel
theorem dX8_structure_256 : decode cX8_structure 256 = .ok (.iload_n 1, 1) := by decide +kernel
theorem dX8_structure_257 : decode cX8_structure 257 = .ok (.iconst 1, 1) := by decide +kernel
theorem dX8_structure_258 : decode cX8_structure 258 = .ok (.if_icmp .ne 7, 3) := by decide +kernel
theorem dX8_structure_261 : decode cX8_structure 261 = .ok (.iconst 1, 1) := by decide +kernel
theorem dX8_structure_262 : decode cX8_structure 262 = .ok (.goto 4, 3) := by decide +kernel
theorem dX8_structure_265 : decode cX8_structure 265 = .ok (.iconst 0, 1) := by decide +kernel
theorem dX8_structure_266 : decode cX8_structure 266 = .ok (.invokevirtual 251, 3) := by decide +kernel
theorem dX8_structure_269 : decode cX8_structure 269 = .ok (.istore 7, 2) := by decide +kernel
theorem dX8_structure_271 : decode cX8_structure 271 = .ok (.iload 7, 2) := by decide +kernel
theorem dX8_structure_273 : decode cX8_structure 273 = .ok (.ifCond .ne 19, 3) := by decide +kernel
theorem dX8_structure_276 : decode cX8_structure 276 = .ok (.aload_n 0, 1) := by decide +kernel
theorem dX8_structure_277 : decode cX8_structure 277 = .ok (.iconst 1, 1) := by decide +kernel
theorem dX8_structure_278 : decode cX8_structure 278 = .ok (.putfield 280, 3) := by decide +kernel
theorem dX8_structure_281 : decode cX8_structure 281 = .ok (.aload_n 0, 1) := by decide +kernel
theorem dX8_structure_282 : decode cX8_structure 282 = .ok (.aload_n 0, 1) := by decide +kernel
theorem dX8_structure_283 : decode cX8_structure 283 = .ok (.getfield 160, 3) := by decide +kernel
theorem dX8_structure_286 : decode cX8_structure 286 = .ok (.putfield 186, 3) := by decide +kernel
theorem dX8_structure_289 : decode cX8_structure 289 = .ok (.goto 93, 3) := by decide +kernel
theorem dX8_structure_292 : decode cX8_structure 292 = .ok (.iload_n 1, 1) := by decide +kernel
theorem dX8_structure_293 : decode cX8_structure 293 = .ok (.iconst 4, 1) := by decide +kernel
theorem dX8_structure_294 : decode cX8_structure 294 = .ok (.if_icmp .ne 40, 3) := by decide +kernel
theorem dX8_structure_297 : decode cX8_structure 297 = .ok (.lload 5, 2) := by decide +kernel
theorem dX8_structure_299 : decode cX8_structure 299 = .ok (.lconst 0, 1) := by decide +kernel
theorem dX8_structure_300 : decode cX8_structure 300 = .ok (.lcmp, 1) := by decide +kernel
theorem dX8_structure_301 : decode cX8_structure 301 = .ok (.ifCond .le 33, 3) := by decide +kernel
theorem dX8_structure_304 : decode cX8_structure 304 = .ok (.aload_n 0, 1) := by decide +kernel
theorem dX8_structure_305 : decode cX8_structure 305 = .ok (.iconst 4, 1) := by decide +kernel
theorem dX8_structure_306 : decode cX8_structure 306 = .ok (.aload_n 0, 1) := by decide +kernel
theorem dX8_structure_307 : decode cX8_structure 307 = .ok (.getfield 171, 3) := by decide +kernel
theorem dX8_structure_310 : decode cX8_structure 310 = .ok (.aload_n 0, 1) := by decide +kernel
theorem dX8_structure_311 : decode cX8_structure 311 = .ok (.getfield 174, 3) := by decide +kernel
theorem dX8_structure_314 : decode cX8_structure 314 = .ok (.invokevirtual 265, 3) := by decide +kernel
theorem dX8_structure_317 : decode cX8_structure 317 = .ok (.aload_n 0, 1) := by decide +kernel
theorem dX8_structure_318 : decode cX8_structure 318 = .ok (.getfield 40, 3) := by decide +kernel
theorem dX8_structure_321 : decode cX8_structure 321 = .ok (.aload_n 0, 1) := by decide +kernel
theorem dX8_structure_322 : decode cX8_structure 322 = .ok (.getfield 139, 3) := by decide +kernel
theorem dX8_structure_325 : decode cX8_structure 325 = .ok (.iconst 1, 1) := by decide +kernel
theorem dX8_structure_326 : decode cX8_structure 326 = .ok (.isub, 1) := by decide +kernel
theorem dX8_structure_327 : decode cX8_structure 327 = .ok (.lload 5, 2) := by decide +kernel
theorem dX8_structure_329 : decode cX8_structure 329 = .ok (.l2i, 1) := by decide +kernel
theorem dX8_structure_330 : decode cX8_structure 330 = .ok (.iastore, 1) := by decide +kernel
theorem dX8_structure_331 : decode cX8_structure 331 = .ok (.goto 51, 3) := by decide +kernel
theorem dX8_structure_334 : decode cX8_structure 334 = .ok (.aload_n 0, 1) := by decide +kernel
theorem dX8_structure_335 : decode cX8_structure 335 = .ok (.getfield 177, 3) := by decide +kernel
theorem dX8_structure_338 : decode cX8_structure 338 = .ok (.iconst 2, 1) := by decide +kernel
theorem dX8_structure_339 : decode cX8_structure 339 = .ok (.if_icmp .ne 7, 3) := by decide +kernel
theorem dX8_structure_342 : decode cX8_structure 342 = .ok (.iconst 1, 1) := by decide +kernel
theorem dX8_structure_343 : decode cX8_structure 343 = .ok (.goto 4, 3) := by decide +kernel
theorem dX8_structure_346 : decode cX8_structure 346 = .ok (.iconst 0, 1) := by decide +kernel
theorem dX8_structure_347 : decode cX8_structure 347 = .ok (.istore 8, 2) := by decide +kernel
theorem dX8_structure_349 : decode cX8_structure 349 = .ok (.aload_n 0, 1) := by decide +kernel
theorem dX8_structure_350 : decode cX8_structure 350 = .ok (.invokevirtual 275, 3) := by decide +kernel
theorem dX8_structure_353 : decode cX8_structure 353 = .ok (.iload 8, 2) := by decide +kernel
theorem dX8_structure_355 : decode cX8_structure 355 = .ok (.ifCond .eq 10, 3) := by decide +kernel
theorem dX8_structure_358 : decode cX8_structure 358 = .ok (.aload_n 0, 1) := by decide +kernel
theorem dX8_structure_359 : decode cX8_structure 359 = .ok (.iconst 1, 1) := by decide +kernel
theorem dX8_structure_360 : decode cX8_structure 360 = .ok (.iconst 0, 1) := by decide +kernel
theorem dX8_structure_361 : decode cX8_structure 361 = .ok (.iconst 0, 1) := by decide +kernel
theorem dX8_structure_362 : decode cX8_structure 362 = .ok (.invokevirtual 265, 3) := by decide +kernel
theorem dX8_structure_365 : decode cX8_structure 365 = .ok (.iload 8, 2) := by decide +kernel
theorem dX8_structure_367 : decode cX8_structure 367 = .ok (.ifCond .eq 15, 3) := by decide +kernel
theorem dX8_structure_370 : decode cX8_structure 370 = .ok (.aload_n 0, 1) := by decide +kernel
theorem dX8_structure_371 : decode cX8_structure 371 = .ok (.getfield 52, 3) := by decide +kernel
theorem dX8_structure_374 : decode cX8_structure 374 = .ok (.aload_n 0, 1) := by decide +kernel
theorem dX8_structure_375 : decode cX8_structure 375 = .ok (.getfield 139, 3) := by decide +kernel
theorem dX8_structure_378 : decode cX8_structure 378 = .ok (.iconst 1, 1) := by decide +kernel
theorem dX8_structure_379 : decode cX8_structure 379 = .ok (.isub, 1) := by decide +kernel
theorem dX8_structure_380 : decode cX8_structure 380 = .ok (.iconst 1, 1) := by decide +kernel
theorem dX8_structure_381 : decode cX8_structure 381 = .ok (.bastore, 1) := by decide +kernel
theorem dX8_structure_382 : decode cX8_structure 382 = .ok (.return_, 1) := by decide +kernel
theorem dX8_macro_0 : decode cX8_macro 0 = .ok (.aload_n 0, 1) := by decide +kernel
theorem dX8_macro_1 : decode cX8_macro 1 = .ok (.iconst 1, 1) := by decide +kernel
theorem dX8_macro_2 : decode cX8_macro 2 = .ok (.invokevirtual 248, 3) := by decide +kernel
theorem dX8_macro_5 : decode cX8_macro 5 = .ok (.ifCond .eq 29, 3) := by decide +kernel
theorem dX8_macro_8 : decode cX8_macro 8 = .ok (.aload_n 0, 1) := by decide +kernel
theorem dX8_macro_9 : decode cX8_macro 9 = .ok (.getfield 99, 3) := by decide +kernel
theorem dX8_macro_12 : decode cX8_macro 12 = .ok (.iconst 1, 1) := by decide +kernel
theorem dX8_macro_13 : decode cX8_macro 13 = .ok (.laload, 1) := by decide +kernel
theorem dX8_macro_14 : decode cX8_macro 14 = .ok (.invokestatic 156, 3) := by decide +kernel
theorem dX8_macro_17 : decode cX8_macro 17 = .ok (.iconst (-1), 1) := by decide +kernel
theorem dX8_macro_18 : decode cX8_macro 18 = .ok (.if_icmp .ne 11, 3) := by decide +kernel
theorem dX8_macro_21 : decode cX8_macro 21 = .ok (.aload_n 0, 1) := by decide +kernel
theorem dX8_macro_22 : decode cX8_macro 22 = .ok (.iconst 1, 1) := by decide +kernel
theorem dX8_macro_23 : decode cX8_macro 23 = .ok (.invokevirtual 283, 3) := by decide +kernel
theorem dX8_macro_26 : decode cX8_macro 26 = .ok (.ifCond .lt 8, 3) := by decide +kernel
theorem dX8_macro_29 : decode cX8_macro 29 = .ok (.aload_n 0, 1) := by decide +kernel
theorem dX8_macro_30 : decode cX8_macro 30 = .ok (.iconst 3, 1) := by decide +kernel
theorem dX8_macro_31 : decode cX8_macro 31 = .ok (.invokevirtual 189, 3) := by decide +kernel
theorem dX8_macro_34 : decode cX8_macro 34 = .ok (.iconst 2, 1) := by decide +kernel
theorem dX8_macro_35 : decode cX8_macro 35 = .ok (.istore_n 1, 1) := by decide +kernel
theorem dX8_macro_36 : decode cX8_macro 36 = .ok (.aload_n 0, 1) := by decide +kernel
theorem dX8_macro_37 : decode cX8_macro 37 = .ok (.iconst 1, 1) := by decide +kernel
theorem dX8_macro_38 : decode cX8_macro 38 = .ok (.invokevirtual 248, 3) := by decide +kernel
theorem dX8_macro_41 : decode cX8_macro 41 = .ok (.istore_n 2, 1) := by decide +kernel
theorem dX8_macro_42 : decode cX8_macro 42 = .ok (.iload_n 2, 1) := by decide +kernel
theorem dX8_macro_43 : decode cX8_macro 43 = .ok (.ifCond .eq 63, 3) := by decide +kernel
theorem dX8_macro_46 : decode cX8_macro 46 = .ok (.iload_n 1, 1) := by decide +kernel
theorem dX8_macro_47 : decode cX8_macro 47 = .ok (.aload_n 0, 1) := by decide +kernel
theorem dX8_macro_48 : decode cX8_macro 48 = .ok (.getfield 215, 3) := by decide +kernel
theorem dX8_macro_51 : decode cX8_macro 51 = .ok (.if_icmp .ge 55, 3) := by decide +kernel
theorem dX8_macro_54 : decode cX8_macro 54 = .ok (.aload_n 0, 1) := by decide +kernel
theorem dX8_macro_55 : decode cX8_macro 55 = .ok (.iload_n 1, 1) := by decide +kernel
theorem dX8_macro_56 : decode cX8_macro 56 = .ok (.invokevirtual 248, 3) := by decide +kernel
theorem dX8_macro_59 : decode cX8_macro 59 = .ok (.ifCond .eq 39, 3) := by decide +kernel
theorem dX8_macro_62 : decode cX8_macro 62 = .ok (.iload_n 1, 1) := by decide +kernel
theorem dX8_macro_63 : decode cX8_macro 63 = .ok (.iconst 1, 1) := by decide +kernel
theorem dX8_macro_64 : decode cX8_macro 64 = .ok (.iadd, 1) := by decide +kernel
theorem dX8_macro_65 : decode cX8_macro 65 = .ok (.aload_n 0, 1) := by decide +kernel
theorem dX8_macro_66 : decode cX8_macro 66 = .ok (.getfield 215, 3) := by decide +kernel
theorem dX8_macro_69 : decode cX8_macro 69 = .ok (.if_icmp .eq 25, 3) := by decide +kernel
theorem dX8_macro_72 : decode cX8_macro 72 = .ok (.aload_n 0, 1) := by decide +kernel
theorem dX8_macro_73 : decode cX8_macro 73 = .ok (.iload_n 1, 1) := by decide +kernel
theorem dX8_macro_74 : decode cX8_macro 74 = .ok (.iconst 1, 1) := by decide +kernel
theorem dX8_macro_75 : decode cX8_macro 75 = .ok (.iadd, 1) := by decide +kernel
theorem dX8_macro_76 : decode cX8_macro 76 = .ok (.bipush 44, 2) := by decide +kernel
theorem dX8_macro_78 : decode cX8_macro 78 = .ok (.invokevirtual 261, 3) := by decide +kernel
theorem dX8_macro_81 : decode cX8_macro 81 = .ok (.ifCond .eq 17, 3) := by decide +kernel
theorem dX8_macro_84 : decode cX8_macro 84 = .ok (.iload_n 1, 1) := by decide +kernel
theorem dX8_macro_85 : decode cX8_macro 85 = .ok (.iconst 2, 1) := by decide +kernel
theorem dX8_macro_86 : decode cX8_macro 86 = .ok (.iadd, 1) := by decide +kernel
theorem dX8_macro_87 : decode cX8_macro 87 = .ok (.aload_n 0, 1) := by decide +kernel
theorem dX8_macro_88 : decode cX8_macro 88 = .ok (.getfield 215, 3) := by decide +kernel
theorem dX8_macro_91 : decode cX8_macro 91 = .ok (.if_icmp .ge 7, 3) := by decide +kernel
theorem dX8_macro_94 : decode cX8_macro 94 = .ok (.iconst 1, 1) := by decide +kernel
theorem dX8_macro_95 : decode cX8_macro 95 = .ok (.goto 4, 3) := by decide +kernel
theorem dX8_macro_98 : decode cX8_macro 98 = .ok (.iconst 0, 1) := by decide +kernel
theorem dX8_macro_99 : decode cX8_macro 99 = .ok (.istore_n 2, 1) := by decide +kernel
theorem dX8_macro_100 : decode cX8_macro 100 = .ok (.iinc 1 2, 3) := by decide +kernel
theorem dX8_macro_103 : decode cX8_macro 103 = .ok (.goto (-61), 3) := by decide +kernel
theorem dX8_macro_106 : decode cX8_macro 106 = .ok (.iload_n 2, 1) := by decide +kernel
theorem dX8_macro_107 : decode cX8_macro 107 = .ok (.ifCond .ne 8, 3) := by decide +kernel
theorem dX8_macro_110 : decode cX8_macro 110 = .ok (.aload_n 0, 1) := by decide +kernel
theorem dX8_macro_111 : decode cX8_macro 111 = .ok (.iconst 1, 1) := by decide +kernel
theorem dX8_macro_112 : decode cX8_macro 112 = .ok (.invokevirtual 189, 3) := by decide +kernel
