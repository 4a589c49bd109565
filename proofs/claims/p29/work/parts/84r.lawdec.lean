theorem dL_text_251 : decode cL_text 251 = .ok (.ifCond .eq 8, 3) := by decide +kernel
theorem dL_text_254 : decode cL_text 254 = .ok (.bipush 119, 2) := by decide +kernel
theorem dL_text_256 : decode cL_text 256 = .ok (.goto 5, 3) := by decide +kernel
theorem dL_text_259 : decode cL_text 259 = .ok (.bipush 114, 2) := by decide +kernel
theorem dL_text_261 : decode cL_text 261 = .ok (.bipush 59, 2) := by decide +kernel
theorem dL_text_263 : decode cL_text 263 = .ok (.bipush 116, 2) := by decide +kernel
theorem dL_text_265 : decode cL_text 265 = .ok (.bipush 48, 2) := by decide +kernel
theorem dL_text_267 : decode cL_text 267 = .ok (.iload 7, 2) := by decide +kernel
theorem dL_text_269 : decode cL_text 269 = .ok (.iadd, 1) := by decide +kernel
theorem dL_text_270 : decode cL_text 270 = .ok (.iconst 0, 1) := by decide +kernel
theorem dL_text_271 : decode cL_text 271 = .ok (.iconst 0, 1) := by decide +kernel
theorem dL_text_272 : decode cL_text 272 = .ok (.iconst 0, 1) := by decide +kernel
theorem dL_text_273 : decode cL_text 273 = .ok (.iconst 0, 1) := by decide +kernel
theorem dL_text_274 : decode cL_text 274 = .ok (.invokestatic 126, 3) := by decide +kernel
theorem dL_text_277 : decode cL_text 277 = .ok (.ifCond .eq 12, 3) := by decide +kernel
theorem dL_text_280 : decode cL_text 280 = .ok (.aload_n 0, 1) := by decide +kernel
theorem dL_text_281 : decode cL_text 281 = .ok (.invokevirtual 130, 3) := by decide +kernel
theorem dL_text_284 : decode cL_text 284 = .ok (.bipush (-6), 2) := by decide +kernel
theorem dL_text_286 : decode cL_text 286 = .ok (.if_icmp .eq 5, 3) := by decide +kernel
theorem dL_text_289 : decode cL_text 289 = .ok (.iconst 0, 1) := by decide +kernel
theorem dL_text_290 : decode cL_text 290 = .ok (.ireturn, 1) := by decide +kernel
theorem dL_text_291 : decode cL_text 291 = .ok (.aload_n 0, 1) := by decide +kernel
theorem dL_text_292 : decode cL_text 292 = .ok (.invokestatic 133, 3) := by decide +kernel
theorem dL_text_295 : decode cL_text 295 = .ok (.lstore 13, 2) := by decide +kernel
theorem dL_text_297 : decode cL_text 297 = .ok (.aload_n 0, 1) := by decide +kernel
theorem dL_text_298 : decode cL_text 298 = .ok (.invokevirtual 137, 3) := by decide +kernel
theorem dL_text_301 : decode cL_text 301 = .ok (.istore 15, 2) := by decide +kernel
theorem dL_text_303 : decode cL_text 303 = .ok (.iload 15, 2) := by decide +kernel
theorem dL_text_305 : decode cL_text 305 = .ok (.ifCond .lt 12, 3) := by decide +kernel
theorem dL_text_308 : decode cL_text 308 = .ok (.aload_n 0, 1) := by decide +kernel
theorem dL_text_309 : decode cL_text 309 = .ok (.bipush 13, 2) := by decide +kernel
theorem dL_text_311 : decode cL_text 311 = .ok (.invokevirtual 46, 3) := by decide +kernel
theorem dL_text_314 : decode cL_text 314 = .ok (.ifCond .eq 5, 3) := by decide +kernel
theorem dL_text_317 : decode cL_text 317 = .ok (.iconst 0, 1) := by decide +kernel
theorem dL_text_318 : decode cL_text 318 = .ok (.ireturn, 1) := by decide +kernel
theorem dL_text_319 : decode cL_text 319 = .ok (.aload_n 0, 1) := by decide +kernel
theorem dL_text_320 : decode cL_text 320 = .ok (.invokestatic 133, 3) := by decide +kernel
theorem dL_text_323 : decode cL_text 323 = .ok (.lstore 16, 2) := by decide +kernel
theorem dL_text_325 : decode cL_text 325 = .ok (.aload_n 0, 1) := by decide +kernel
theorem dL_text_326 : decode cL_text 326 = .ok (.invokevirtual 140, 3) := by decide +kernel
theorem dL_text_329 : decode cL_text 329 = .ok (.ifCond .lt 13, 3) := by decide +kernel
theorem dL_text_332 : decode cL_text 332 = .ok (.aload_n 0, 1) := by decide +kernel
theorem dL_text_333 : decode cL_text 333 = .ok (.invokestatic 133, 3) := by decide +kernel
theorem dL_text_336 : decode cL_text 336 = .ok (.lload 13, 2) := by decide +kernel
theorem dL_text_338 : decode cL_text 338 = .ok (.lcmp, 1) := by decide +kernel
theorem dL_text_339 : decode cL_text 339 = .ok (.ifCond .eq 5, 3) := by decide +kernel
theorem dL_text_342 : decode cL_text 342 = .ok (.iconst 0, 1) := by decide +kernel
theorem dL_text_343 : decode cL_text 343 = .ok (.ireturn, 1) := by decide +kernel
theorem dL_text_344 : decode cL_text 344 = .ok (.iconst 0, 1) := by decide +kernel
theorem dL_text_345 : decode cL_text 345 = .ok (.istore 18, 2) := by decide +kernel
theorem dL_text_347 : decode cL_text 347 = .ok (.aload_n 0, 1) := by decide +kernel
theorem dL_text_348 : decode cL_text 348 = .ok (.iload_n 3, 1) := by decide +kernel
theorem dL_text_349 : decode cL_text 349 = .ok (.iload 4, 2) := by decide +kernel
theorem dL_text_351 : decode cL_text 351 = .ok (.invokevirtual 108, 3) := by decide +kernel
theorem dL_text_354 : decode cL_text 354 = .ok (.ifCond .lt 7, 3) := by decide +kernel
theorem dL_text_357 : decode cL_text 357 = .ok (.iconst 1, 1) := by decide +kernel
theorem dL_text_358 : decode cL_text 358 = .ok (.goto 4, 3) := by decide +kernel
theorem dL_text_361 : decode cL_text 361 = .ok (.iconst 0, 1) := by decide +kernel
theorem dL_text_362 : decode cL_text 362 = .ok (.istore 19, 2) := by decide +kernel
theorem dL_text_364 : decode cL_text 364 = .ok (.iload 19, 2) := by decide +kernel
theorem dL_text_366 : decode cL_text 366 = .ok (.ifCond .eq 6, 3) := by decide +kernel
theorem dL_text_369 : decode cL_text 369 = .ok (.iinc 18 1, 3) := by decide +kernel
theorem dL_text_372 : decode cL_text 372 = .ok (.iload 19, 2) := by decide +kernel
theorem dL_text_374 : decode cL_text 374 = .ok (.ifCond .eq 21, 3) := by decide +kernel
theorem dL_text_377 : decode cL_text 377 = .ok (.aload_n 0, 1) := by decide +kernel
theorem dL_text_378 : decode cL_text 378 = .ok (.iload 4, 2) := by decide +kernel
theorem dL_text_380 : decode cL_text 380 = .ok (.iload 5, 2) := by decide +kernel
theorem dL_text_382 : decode cL_text 382 = .ok (.iload_n 3, 1) := by decide +kernel
theorem dL_text_383 : decode cL_text 383 = .ok (.iload 6, 2) := by decide +kernel
theorem dL_text_385 : decode cL_text 385 = .ok (.invokevirtual 72, 3) := by decide +kernel
theorem dL_text_388 : decode cL_text 388 = .ok (.ifCond .lt 7, 3) := by decide +kernel
theorem dL_text_391 : decode cL_text 391 = .ok (.iconst 1, 1) := by decide +kernel
theorem dL_text_392 : decode cL_text 392 = .ok (.goto 4, 3) := by decide +kernel
theorem dL_text_395 : decode cL_text 395 = .ok (.iconst 0, 1) := by decide +kernel
theorem dL_text_396 : decode cL_text 396 = .ok (.istore 19, 2) := by decide +kernel
theorem dL_text_398 : decode cL_text 398 = .ok (.iload 19, 2) := by decide +kernel
theorem dL_text_400 : decode cL_text 400 = .ok (.ifCond .eq 6, 3) := by decide +kernel
theorem dL_text_403 : decode cL_text 403 = .ok (.iinc 18 1, 3) := by decide +kernel
theorem dL_text_406 : decode cL_text 406 = .ok (.iload 19, 2) := by decide +kernel
theorem dL_text_408 : decode cL_text 408 = .ok (.ifCond .eq 20, 3) := by decide +kernel
theorem dL_text_411 : decode cL_text 411 = .ok (.aload_n 0, 1) := by decide +kernel
theorem dL_text_412 : decode cL_text 412 = .ok (.iload 7, 2) := by decide +kernel
theorem dL_text_414 : decode cL_text 414 = .ok (.iload 8, 2) := by decide +kernel
theorem dL_text_416 : decode cL_text 416 = .ok (.iload 9, 2) := by decide +kernel
theorem dL_text_418 : decode cL_text 418 = .ok (.invokevirtual 80, 3) := by decide +kernel
theorem dL_text_421 : decode cL_text 421 = .ok (.ifCond .lt 7, 3) := by decide +kernel
theorem dL_text_424 : decode cL_text 424 = .ok (.iconst 1, 1) := by decide +kernel
theorem dL_text_425 : decode cL_text 425 = .ok (.goto 4, 3) := by decide +kernel
theorem dL_text_428 : decode cL_text 428 = .ok (.iconst 0, 1) := by decide +kernel
theorem dL_text_429 : decode cL_text 429 = .ok (.istore 19, 2) := by decide +kernel
theorem dL_text_431 : decode cL_text 431 = .ok (.iload 19, 2) := by decide +kernel
theorem dL_text_433 : decode cL_text 433 = .ok (.ifCond .eq 6, 3) := by decide +kernel
theorem dL_text_436 : decode cL_text 436 = .ok (.iinc 18 1, 3) := by decide +kernel
theorem dL_text_439 : decode cL_text 439 = .ok (.iload 19, 2) := by decide +kernel
theorem dL_text_441 : decode cL_text 441 = .ok (.ifCond .eq 20, 3) := by decide +kernel
theorem dL_text_444 : decode cL_text 444 = .ok (.aload_n 0, 1) := by decide +kernel
theorem dL_text_445 : decode cL_text 445 = .ok (.iload 8, 2) := by decide +kernel
theorem dL_text_447 : decode cL_text 447 = .ok (.iload 10, 2) := by decide +kernel
theorem dL_text_449 : decode cL_text 449 = .ok (.iload 11, 2) := by decide +kernel
theorem dL_text_451 : decode cL_text 451 = .ok (.invokevirtual 91, 3) := by decide +kernel
theorem dL_text_454 : decode cL_text 454 = .ok (.ifCond .lt 7, 3) := by decide +kernel
theorem dL_text_457 : decode cL_text 457 = .ok (.iconst 1, 1) := by decide +kernel
theorem dL_text_458 : decode cL_text 458 = .ok (.goto 4, 3) := by decide +kernel
theorem dL_text_461 : decode cL_text 461 = .ok (.iconst 0, 1) := by decide +kernel
theorem dL_text_462 : decode cL_text 462 = .ok (.istore 19, 2) := by decide +kernel
theorem dL_text_464 : decode cL_text 464 = .ok (.iload 19, 2) := by decide +kernel
theorem dL_text_466 : decode cL_text 466 = .ok (.ifCond .eq 6, 3) := by decide +kernel
theorem dL_text_469 : decode cL_text 469 = .ok (.iinc 18 1, 3) := by decide +kernel
theorem dL_text_472 : decode cL_text 472 = .ok (.iload 19, 2) := by decide +kernel
theorem dL_text_474 : decode cL_text 474 = .ok (.ifCond .eq 28, 3) := by decide +kernel
theorem dL_text_477 : decode cL_text 477 = .ok (.aload_n 0, 1) := by decide +kernel
theorem dL_text_478 : decode cL_text 478 = .ok (.iload 8, 2) := by decide +kernel
theorem dL_text_480 : decode cL_text 480 = .ok (.iload 10, 2) := by decide +kernel
theorem dL_text_482 : decode cL_text 482 = .ok (.iload 12, 2) := by decide +kernel
theorem dL_text_484 : decode cL_text 484 = .ok (.ifCond .eq 7, 3) := by decide +kernel
theorem dL_text_487 : decode cL_text 487 = .ok (.iconst 2, 1) := by decide +kernel
theorem dL_text_488 : decode cL_text 488 = .ok (.goto 4, 3) := by decide +kernel
theorem dL_text_491 : decode cL_text 491 = .ok (.iconst 1, 1) := by decide +kernel
theorem dL_text_492 : decode cL_text 492 = .ok (.invokevirtual 117, 3) := by decide +kernel
theorem dL_text_495 : decode cL_text 495 = .ok (.ifCond .lt 7, 3) := by decide +kernel
theorem dL_text_498 : decode cL_text 498 = .ok (.iconst 1, 1) := by decide +kernel
theorem dL_text_499 : decode cL_text 499 = .ok (.goto 4, 3) := by decide +kernel
theorem dL_text_502 : decode cL_text 502 = .ok (.iconst 0, 1) := by decide +kernel
theorem dL_text_503 : decode cL_text 503 = .ok (.istore 19, 2) := by decide +kernel
theorem dL_text_505 : decode cL_text 505 = .ok (.iload 19, 2) := by decide +kernel
theorem dL_text_507 : decode cL_text 507 = .ok (.ifCond .eq 6, 3) := by decide +kernel
theorem dL_text_510 : decode cL_text 510 = .ok (.iinc 18 1, 3) := by decide +kernel
theorem dL_text_513 : decode cL_text 513 = .ok (.iload 19, 2) := by decide +kernel
theorem dL_text_515 : decode cL_text 515 = .ok (.ifCond .eq 16, 3) := by decide +kernel
theorem dL_text_518 : decode cL_text 518 = .ok (.aload_n 0, 1) := by decide +kernel
theorem dL_text_519 : decode cL_text 519 = .ok (.iload 7, 2) := by decide +kernel
theorem dL_text_521 : decode cL_text 521 = .ok (.invokevirtual 69, 3) := by decide +kernel
theorem dL_text_524 : decode cL_text 524 = .ok (.ifCond .lt 7, 3) := by decide +kernel
theorem dL_text_527 : decode cL_text 527 = .ok (.iconst 1, 1) := by decide +kernel
theorem dL_text_528 : decode cL_text 528 = .ok (.goto 4, 3) := by decide +kernel
theorem dL_text_531 : decode cL_text 531 = .ok (.iconst 0, 1) := by decide +kernel
theorem dL_text_532 : decode cL_text 532 = .ok (.istore 19, 2) := by decide +kernel
theorem dL_text_534 : decode cL_text 534 = .ok (.iload 19, 2) := by decide +kernel
theorem dL_text_536 : decode cL_text 536 = .ok (.ifCond .eq 6, 3) := by decide +kernel
theorem dL_text_539 : decode cL_text 539 = .ok (.iinc 18 1, 3) := by decide +kernel
theorem dL_text_542 : decode cL_text 542 = .ok (.iload 18, 2) := by decide +kernel
theorem dL_text_544 : decode cL_text 544 = .ok (.iload 15, 2) := by decide +kernel
theorem dL_text_546 : decode cL_text 546 = .ok (.if_icmp .ne 17, 3) := by decide +kernel
theorem dL_text_549 : decode cL_text 549 = .ok (.aload_n 0, 1) := by decide +kernel
theorem dL_text_550 : decode cL_text 550 = .ok (.invokestatic 133, 3) := by decide +kernel
theorem dL_text_553 : decode cL_text 553 = .ok (.lload 16, 2) := by decide +kernel
theorem dL_text_555 : decode cL_text 555 = .ok (.lcmp, 1) := by decide +kernel
theorem dL_text_556 : decode cL_text 556 = .ok (.ifCond .ne 7, 3) := by decide +kernel
theorem dL_text_559 : decode cL_text 559 = .ok (.iconst 1, 1) := by decide +kernel
theorem dL_text_560 : decode cL_text 560 = .ok (.goto 4, 3) := by decide +kernel
theorem dL_text_563 : decode cL_text 563 = .ok (.iconst 0, 1) := by decide +kernel
theorem dL_text_564 : decode cL_text 564 = .ok (.ireturn, 1) := by decide +kernel
theorem dL_who_0 : decode cL_who 0 = .ok (.aload_n 0, 1) := by decide +kernel
theorem dL_who_1 : decode cL_who 1 = .ok (.iload_n 1, 1) := by decide +kernel
theorem dL_who_2 : decode cL_who 2 = .ok (.iconst 0, 1) := by decide +kernel
theorem dL_who_3 : decode cL_who 3 = .ok (.invokevirtual 43, 3) := by decide +kernel
theorem dL_who_6 : decode cL_who 6 = .ok (.ifCond .lt 14, 3) := by decide +kernel
theorem dL_who_9 : decode cL_who 9 = .ok (.iconst 1, 1) := by decide +kernel
theorem dL_who_10 : decode cL_who 10 = .ok (.aload_n 0, 1) := by decide +kernel
theorem dL_who_11 : decode cL_who 11 = .ok (.iload_n 1, 1) := by decide +kernel
theorem dL_who_12 : decode cL_who 12 = .ok (.iconst 0, 1) := by decide +kernel
theorem dL_who_13 : decode cL_who 13 = .ok (.invokevirtual 43, 3) := by decide +kernel
theorem dL_who_16 : decode cL_who 16 = .ok (.ishl, 1) := by decide +kernel
theorem dL_who_17 : decode cL_who 17 = .ok (.goto 4, 3) := by decide +kernel
theorem dL_who_20 : decode cL_who 20 = .ok (.iconst 0, 1) := by decide +kernel
theorem dL_who_21 : decode cL_who 21 = .ok (.istore 4, 2) := by decide +kernel
theorem dL_who_23 : decode cL_who 23 = .ok (.iconst 0, 1) := by decide +kernel
theorem dL_who_24 : decode cL_who 24 = .ok (.istore 5, 2) := by decide +kernel
theorem dL_who_26 : decode cL_who 26 = .ok (.iload 5, 2) := by decide +kernel
theorem dL_who_28 : decode cL_who 28 = .ok (.aload_n 0, 1) := by decide +kernel
theorem dL_who_29 : decode cL_who 29 = .ok (.iconst 0, 1) := by decide +kernel
theorem dL_who_30 : decode cL_who 30 = .ok (.invokevirtual 46, 3) := by decide +kernel
theorem dL_who_33 : decode cL_who 33 = .ok (.if_icmp .ge 96, 3) := by decide +kernel
theorem dL_who_36 : decode cL_who 36 = .ok (.aload_n 0, 1) := by decide +kernel
theorem dL_who_37 : decode cL_who 37 = .ok (.iload 5, 2) := by decide +kernel
theorem dL_who_39 : decode cL_who 39 = .ok (.iconst 0, 1) := by decide +kernel
theorem dL_who_40 : decode cL_who 40 = .ok (.invokevirtual 50, 3) := by decide +kernel
theorem dL_who_43 : decode cL_who 43 = .ok (.iload_n 1, 1) := by decide +kernel
theorem dL_who_44 : decode cL_who 44 = .ok (.if_icmp .ne 79, 3) := by decide +kernel
theorem dL_who_47 : decode cL_who 47 = .ok (.aload_n 0, 1) := by decide +kernel
theorem dL_who_48 : decode cL_who 48 = .ok (.iload 5, 2) := by decide +kernel
theorem dL_who_50 : decode cL_who 50 = .ok (.iconst 3, 1) := by decide +kernel
theorem dL_who_51 : decode cL_who 51 = .ok (.invokevirtual 50, 3) := by decide +kernel
theorem dL_who_54 : decode cL_who 54 = .ok (.iload_n 2, 1) := by decide +kernel
theorem dL_who_55 : decode cL_who 55 = .ok (.iand, 1) := by decide +kernel
theorem dL_who_56 : decode cL_who 56 = .ok (.ifCond .eq 67, 3) := by decide +kernel
theorem dL_who_59 : decode cL_who 59 = .ok (.aload_n 0, 1) := by decide +kernel
theorem dL_who_60 : decode cL_who 60 = .ok (.iload 5, 2) := by decide +kernel
theorem dL_who_62 : decode cL_who 62 = .ok (.invokestatic 84, 3) := by decide +kernel
theorem dL_who_65 : decode cL_who 65 = .ok (.ifCond .ne 6, 3) := by decide +kernel
theorem dL_who_68 : decode cL_who 68 = .ok (.goto 55, 3) := by decide +kernel
theorem dL_who_71 : decode cL_who 71 = .ok (.iconst 0, 1) := by decide +kernel
theorem dL_who_72 : decode cL_who 72 = .ok (.istore 6, 2) := by decide +kernel
theorem dL_who_74 : decode cL_who 74 = .ok (.iload 5, 2) := by decide +kernel
theorem dL_who_76 : decode cL_who 76 = .ok (.istore 7, 2) := by decide +kernel
theorem dL_who_78 : decode cL_who 78 = .ok (.iload 7, 2) := by decide +kernel
theorem dL_who_80 : decode cL_who 80 = .ok (.ifCond .lt 24, 3) := by decide +kernel
theorem dL_who_83 : decode cL_who 83 = .ok (.iload 7, 2) := by decide +kernel
theorem dL_who_85 : decode cL_who 85 = .ok (.iload_n 3, 1) := by decide +kernel
theorem dL_who_86 : decode cL_who 86 = .ok (.if_icmp .ne 6, 3) := by decide +kernel
theorem dL_who_89 : decode cL_who 89 = .ok (.iconst 1, 1) := by decide +kernel
theorem dL_who_90 : decode cL_who 90 = .ok (.istore 6, 2) := by decide +kernel
theorem dL_who_92 : decode cL_who 92 = .ok (.aload_n 0, 1) := by decide +kernel
theorem dL_who_93 : decode cL_who 93 = .ok (.iload 7, 2) := by decide +kernel
theorem dL_who_95 : decode cL_who 95 = .ok (.iconst 4, 1) := by decide +kernel
theorem dL_who_96 : decode cL_who 96 = .ok (.invokevirtual 50, 3) := by decide +kernel
theorem dL_who_99 : decode cL_who 99 = .ok (.istore 7, 2) := by decide +kernel
theorem dL_who_101 : decode cL_who 101 = .ok (.goto (-23), 3) := by decide +kernel
theorem dL_who_104 : decode cL_who 104 = .ok (.iload 6, 2) := by decide +kernel
theorem dL_who_106 : decode cL_who 106 = .ok (.ifCond .ne 17, 3) := by decide +kernel
theorem dL_who_109 : decode cL_who 109 = .ok (.iload 4, 2) := by decide +kernel
theorem dL_who_111 : decode cL_who 111 = .ok (.iconst 1, 1) := by decide +kernel
theorem dL_who_112 : decode cL_who 112 = .ok (.aload_n 0, 1) := by decide +kernel
theorem dL_who_113 : decode cL_who 113 = .ok (.iload 5, 2) := by decide +kernel
theorem dL_who_115 : decode cL_who 115 = .ok (.iconst 2, 1) := by decide +kernel
theorem dL_who_116 : decode cL_who 116 = .ok (.invokevirtual 50, 3) := by decide +kernel
theorem dL_who_119 : decode cL_who 119 = .ok (.ishl, 1) := by decide +kernel
theorem dL_who_120 : decode cL_who 120 = .ok (.ior, 1) := by decide +kernel
theorem dL_who_121 : decode cL_who 121 = .ok (.istore 4, 2) := by decide +kernel
theorem dL_who_123 : decode cL_who 123 = .ok (.iinc 5 1, 3) := by decide +kernel
theorem dL_who_126 : decode cL_who 126 = .ok (.goto (-100), 3) := by decide +kernel
theorem dL_who_129 : decode cL_who 129 = .ok (.iload 4, 2) := by decide +kernel
theorem dL_who_131 : decode cL_who 131 = .ok (.ireturn, 1) := by decide +kernel
theorem dL_sound_0 : decode cL_sound 0 = .ok (.aload_n 0, 1) := by decide +kernel
theorem dL_sound_1 : decode cL_sound 1 = .ok (.iconst 0, 1) := by decide +kernel
theorem dL_sound_2 : decode cL_sound 2 = .ok (.invokevirtual 46, 3) := by decide +kernel
theorem dL_sound_5 : decode cL_sound 5 = .ok (.istore_n 2, 1) := by decide +kernel
theorem dL_sound_6 : decode cL_sound 6 = .ok (.iconst 0, 1) := by decide +kernel
theorem dL_sound_7 : decode cL_sound 7 = .ok (.istore_n 3, 1) := by decide +kernel
theorem dL_sound_8 : decode cL_sound 8 = .ok (.bipush (-6), 2) := by decide +kernel
theorem dL_sound_10 : decode cL_sound 10 = .ok (.istore 4, 2) := by decide +kernel
theorem dL_sound_12 : decode cL_sound 12 = .ok (.iconst 0, 1) := by decide +kernel
theorem dL_sound_13 : decode cL_sound 13 = .ok (.istore 5, 2) := by decide +kernel
theorem dL_sound_15 : decode cL_sound 15 = .ok (.iload_n 1, 1) := by decide +kernel
theorem dL_sound_16 : decode cL_sound 16 = .ok (.iconst 2, 1) := by decide +kernel
theorem dL_sound_17 : decode cL_sound 17 = .ok (.invokestatic 22, 3) := by decide +kernel
theorem dL_sound_20 : decode cL_sound 20 = .ok (.ifCond .ne 13, 3) := by decide +kernel
theorem dL_sound_23 : decode cL_sound 23 = .ok (.iload_n 1, 1) := by decide +kernel
theorem dL_sound_24 : decode cL_sound 24 = .ok (.iconst 1, 1) := by decide +kernel
theorem dL_sound_25 : decode cL_sound 25 = .ok (.ishr, 1) := by decide +kernel
theorem dL_sound_26 : decode cL_sound 26 = .ok (.iconst 2, 1) := by decide +kernel
theorem dL_sound_27 : decode cL_sound 27 = .ok (.invokestatic 22, 3) := by decide +kernel
theorem dL_sound_30 : decode cL_sound 30 = .ok (.goto 11, 3) := by decide +kernel
theorem dL_sound_33 : decode cL_sound 33 = .ok (.iload_n 1, 1) := by decide +kernel
theorem dL_sound_34 : decode cL_sound 34 = .ok (.iconst 1, 1) := by decide +kernel
theorem dL_sound_35 : decode cL_sound 35 = .ok (.ishr, 1) := by decide +kernel
theorem dL_sound_36 : decode cL_sound 36 = .ok (.bipush 12, 2) := by decide +kernel
theorem dL_sound_38 : decode cL_sound 38 = .ok (.invokestatic 22, 3) := by decide +kernel
theorem dL_sound_41 : decode cL_sound 41 = .ok (.istore 6, 2) := by decide +kernel
theorem dL_sound_43 : decode cL_sound 43 = .ok (.iconst 0, 1) := by decide +kernel
theorem dL_sound_44 : decode cL_sound 44 = .ok (.istore 7, 2) := by decide +kernel
theorem dL_sound_46 : decode cL_sound 46 = .ok (.lconst 0, 1) := by decide +kernel
theorem dL_sound_47 : decode cL_sound 47 = .ok (.lstore 8, 2) := by decide +kernel
theorem dL_sound_49 : decode cL_sound 49 = .ok (.iconst 0, 1) := by decide +kernel
theorem dL_sound_50 : decode cL_sound 50 = .ok (.istore 10, 2) := by decide +kernel
theorem dL_sound_52 : decode cL_sound 52 = .ok (.iload 10, 2) := by decide +kernel
theorem dL_sound_54 : decode cL_sound 54 = .ok (.iload_n 2, 1) := by decide +kernel
theorem dL_sound_55 : decode cL_sound 55 = .ok (.if_icmp .ge 244, 3) := by decide +kernel
theorem dL_sound_58 : decode cL_sound 58 = .ok (.aload_n 0, 1) := by decide +kernel
theorem dL_sound_59 : decode cL_sound 59 = .ok (.iload 10, 2) := by decide +kernel
theorem dL_sound_61 : decode cL_sound 61 = .ok (.invokestatic 84, 3) := by decide +kernel
theorem dL_sound_64 : decode cL_sound 64 = .ok (.istore 11, 2) := by decide +kernel
theorem dL_sound_66 : decode cL_sound 66 = .ok (.iconst 0, 1) := by decide +kernel
theorem dL_sound_67 : decode cL_sound 67 = .ok (.istore 12, 2) := by decide +kernel
theorem dL_sound_69 : decode cL_sound 69 = .ok (.iload 10, 2) := by decide +kernel
theorem dL_sound_71 : decode cL_sound 71 = .ok (.istore 13, 2) := by decide +kernel
theorem dL_sound_73 : decode cL_sound 73 = .ok (.iload 13, 2) := by decide +kernel
theorem dL_sound_75 : decode cL_sound 75 = .ok (.ifCond .lt 18, 3) := by decide +kernel
theorem dL_sound_78 : decode cL_sound 78 = .ok (.iinc 12 1, 3) := by decide +kernel
theorem dL_sound_81 : decode cL_sound 81 = .ok (.aload_n 0, 1) := by decide +kernel
theorem dL_sound_82 : decode cL_sound 82 = .ok (.iload 13, 2) := by decide +kernel
theorem dL_sound_84 : decode cL_sound 84 = .ok (.iconst 4, 1) := by decide +kernel
theorem dL_sound_85 : decode cL_sound 85 = .ok (.invokevirtual 50, 3) := by decide +kernel
theorem dL_sound_88 : decode cL_sound 88 = .ok (.istore 13, 2) := by decide +kernel
theorem dL_sound_90 : decode cL_sound 90 = .ok (.goto (-17), 3) := by decide +kernel
theorem dL_sound_93 : decode cL_sound 93 = .ok (.iconst 0, 1) := by decide +kernel
theorem dL_sound_94 : decode cL_sound 94 = .ok (.istore 13, 2) := by decide +kernel
theorem dL_sound_96 : decode cL_sound 96 = .ok (.iload 10, 2) := by decide +kernel
theorem dL_sound_98 : decode cL_sound 98 = .ok (.iconst 1, 1) := by decide +kernel
theorem dL_sound_99 : decode cL_sound 99 = .ok (.iadd, 1) := by decide +kernel
theorem dL_sound_100 : decode cL_sound 100 = .ok (.istore 14, 2) := by decide +kernel
theorem dL_sound_102 : decode cL_sound 102 = .ok (.iload 14, 2) := by decide +kernel
theorem dL_sound_104 : decode cL_sound 104 = .ok (.iload_n 2, 1) := by decide +kernel
theorem dL_sound_105 : decode cL_sound 105 = .ok (.if_icmp .ge 42, 3) := by decide +kernel
theorem dL_sound_108 : decode cL_sound 108 = .ok (.iload 14, 2) := by decide +kernel
theorem dL_sound_110 : decode cL_sound 110 = .ok (.istore 15, 2) := by decide +kernel
theorem dL_sound_112 : decode cL_sound 112 = .ok (.iload 15, 2) := by decide +kernel
theorem dL_sound_114 : decode cL_sound 114 = .ok (.iload 10, 2) := by decide +kernel
theorem dL_sound_116 : decode cL_sound 116 = .ok (.if_icmp .lt 25, 3) := by decide +kernel
theorem dL_sound_119 : decode cL_sound 119 = .ok (.iload 15, 2) := by decide +kernel
theorem dL_sound_121 : decode cL_sound 121 = .ok (.iload 10, 2) := by decide +kernel
theorem dL_sound_123 : decode cL_sound 123 = .ok (.if_icmp .ne 6, 3) := by decide +kernel
theorem dL_sound_126 : decode cL_sound 126 = .ok (.iinc 13 1, 3) := by decide +kernel
theorem dL_sound_129 : decode cL_sound 129 = .ok (.aload_n 0, 1) := by decide +kernel
theorem dL_sound_130 : decode cL_sound 130 = .ok (.iload 15, 2) := by decide +kernel
theorem dL_sound_132 : decode cL_sound 132 = .ok (.iconst 4, 1) := by decide +kernel
theorem dL_sound_133 : decode cL_sound 133 = .ok (.invokevirtual 50, 3) := by decide +kernel
theorem dL_sound_136 : decode cL_sound 136 = .ok (.istore 15, 2) := by decide +kernel
theorem dL_sound_138 : decode cL_sound 138 = .ok (.goto (-26), 3) := by decide +kernel
theorem dL_sound_141 : decode cL_sound 141 = .ok (.iinc 14 1, 3) := by decide +kernel
theorem dL_sound_144 : decode cL_sound 144 = .ok (.goto (-42), 3) := by decide +kernel
theorem dL_sound_147 : decode cL_sound 147 = .ok (.aload_n 0, 1) := by decide +kernel
theorem dL_sound_148 : decode cL_sound 148 = .ok (.iload 10, 2) := by decide +kernel
theorem dL_sound_150 : decode cL_sound 150 = .ok (.bipush 7, 2) := by decide +kernel
theorem dL_sound_152 : decode cL_sound 152 = .ok (.invokevirtual 50, 3) := by decide +kernel
theorem dL_sound_155 : decode cL_sound 155 = .ok (.iload 11, 2) := by decide +kernel
theorem dL_sound_157 : decode cL_sound 157 = .ok (.ifCond .eq 7, 3) := by decide +kernel
theorem dL_sound_160 : decode cL_sound 160 = .ok (.iconst 1, 1) := by decide +kernel
theorem dL_sound_161 : decode cL_sound 161 = .ok (.goto 4, 3) := by decide +kernel
theorem dL_sound_164 : decode cL_sound 164 = .ok (.iconst 0, 1) := by decide +kernel
theorem dL_sound_165 : decode cL_sound 165 = .ok (.if_icmp .ne 29, 3) := by decide +kernel
theorem dL_sound_168 : decode cL_sound 168 = .ok (.aload_n 0, 1) := by decide +kernel
theorem dL_sound_169 : decode cL_sound 169 = .ok (.iload 10, 2) := by decide +kernel
theorem dL_sound_171 : decode cL_sound 171 = .ok (.bipush 8, 2) := by decide +kernel
theorem dL_sound_173 : decode cL_sound 173 = .ok (.invokevirtual 50, 3) := by decide +kernel
theorem dL_sound_176 : decode cL_sound 176 = .ok (.iload 12, 2) := by decide +kernel
theorem dL_sound_178 : decode cL_sound 178 = .ok (.if_icmp .ne 16, 3) := by decide +kernel
theorem dL_sound_181 : decode cL_sound 181 = .ok (.aload_n 0, 1) := by decide +kernel
theorem dL_sound_182 : decode cL_sound 182 = .ok (.iload 10, 2) := by decide +kernel
theorem dL_sound_184 : decode cL_sound 184 = .ok (.bipush 9, 2) := by decide +kernel
theorem dL_sound_186 : decode cL_sound 186 = .ok (.invokevirtual 50, 3) := by decide +kernel
theorem dL_sound_189 : decode cL_sound 189 = .ok (.iload 13, 2) := by decide +kernel
theorem dL_sound_191 : decode cL_sound 191 = .ok (.if_icmp .eq 5, 3) := by decide +kernel
theorem dL_sound_194 : decode cL_sound 194 = .ok (.iconst 0, 1) := by decide +kernel
theorem dL_sound_195 : decode cL_sound 195 = .ok (.ireturn, 1) := by decide +kernel
theorem dL_sound_196 : decode cL_sound 196 = .ok (.aload_n 0, 1) := by decide +kernel
theorem dL_sound_197 : decode cL_sound 197 = .ok (.iload 10, 2) := by decide +kernel
theorem dL_sound_199 : decode cL_sound 199 = .ok (.iconst 0, 1) := by decide +kernel
theorem dL_sound_200 : decode cL_sound 200 = .ok (.invokevirtual 50, 3) := by decide +kernel
theorem dL_sound_203 : decode cL_sound 203 = .ok (.istore 14, 2) := by decide +kernel
theorem dL_sound_205 : decode cL_sound 205 = .ok (.aload_n 0, 1) := by decide +kernel
theorem dL_sound_206 : decode cL_sound 206 = .ok (.iload 14, 2) := by decide +kernel
theorem dL_sound_208 : decode cL_sound 208 = .ok (.iconst 1, 1) := by decide +kernel
theorem dL_sound_209 : decode cL_sound 209 = .ok (.iconst (-1), 1) := by decide +kernel
theorem dL_sound_210 : decode cL_sound 210 = .ok (.invokestatic 143, 3) := by decide +kernel
theorem dL_sound_213 : decode cL_sound 213 = .ok (.aload_n 0, 1) := by decide +kernel
theorem dL_sound_214 : decode cL_sound 214 = .ok (.iload 14, 2) := by decide +kernel
theorem dL_sound_216 : decode cL_sound 216 = .ok (.iconst 1, 1) := by decide +kernel
theorem dL_sound_217 : decode cL_sound 217 = .ok (.iload 10, 2) := by decide +kernel
theorem dL_sound_219 : decode cL_sound 219 = .ok (.invokestatic 143, 3) := by decide +kernel
theorem dL_sound_222 : decode cL_sound 222 = .ok (.iconst (-1), 1) := by decide +kernel
theorem dL_sound_223 : decode cL_sound 223 = .ok (.ixor, 1) := by decide +kernel
theorem dL_sound_224 : decode cL_sound 224 = .ok (.iand, 1) := by decide +kernel
theorem dL_sound_225 : decode cL_sound 225 = .ok (.istore 15, 2) := by decide +kernel
theorem dL_sound_227 : decode cL_sound 227 = .ok (.aload_n 0, 1) := by decide +kernel
theorem dL_sound_228 : decode cL_sound 228 = .ok (.iload 10, 2) := by decide +kernel
theorem dL_sound_230 : decode cL_sound 230 = .ok (.invokevirtual 146, 3) := by decide +kernel
theorem dL_sound_233 : decode cL_sound 233 = .ok (.iload 15, 2) := by decide +kernel
theorem dL_sound_235 : decode cL_sound 235 = .ok (.if_icmp .eq 5, 3) := by decide +kernel
theorem dL_sound_238 : decode cL_sound 238 = .ok (.iconst 0, 1) := by decide +kernel
theorem dL_sound_239 : decode cL_sound 239 = .ok (.ireturn, 1) := by decide +kernel
theorem dL_sound_240 : decode cL_sound 240 = .ok (.iload 11, 2) := by decide +kernel
theorem dL_sound_242 : decode cL_sound 242 = .ok (.ifCond .ne 6, 3) := by decide +kernel
theorem dL_sound_245 : decode cL_sound 245 = .ok (.goto 48, 3) := by decide +kernel
theorem dL_sound_248 : decode cL_sound 248 = .ok (.iinc 3 1, 3) := by decide +kernel
theorem dL_sound_251 : decode cL_sound 251 = .ok (.iload 12, 2) := by decide +kernel
theorem dL_sound_253 : decode cL_sound 253 = .ok (.iload 5, 2) := by decide +kernel
theorem dL_sound_255 : decode cL_sound 255 = .ok (.if_icmp .le 11, 3) := by decide +kernel
theorem dL_sound_258 : decode cL_sound 258 = .ok (.iload 12, 2) := by decide +kernel
theorem dL_sound_260 : decode cL_sound 260 = .ok (.istore 5, 2) := by decide +kernel
theorem dL_sound_262 : decode cL_sound 262 = .ok (.iload 10, 2) := by decide +kernel
theorem dL_sound_264 : decode cL_sound 264 = .ok (.istore 4, 2) := by decide +kernel
theorem dL_sound_266 : decode cL_sound 266 = .ok (.iload 14, 2) := by decide +kernel
theorem dL_sound_268 : decode cL_sound 268 = .ok (.iload 6, 2) := by decide +kernel
theorem dL_sound_270 : decode cL_sound 270 = .ok (.if_icmp .eq 6, 3) := by decide +kernel
theorem dL_sound_273 : decode cL_sound 273 = .ok (.goto 20, 3) := by decide +kernel
theorem dL_sound_276 : decode cL_sound 276 = .ok (.iinc 7 1, 3) := by decide +kernel
theorem dL_sound_279 : decode cL_sound 279 = .ok (.iload 15, 2) := by decide +kernel
theorem dL_sound_281 : decode cL_sound 281 = .ok (.ifCond .ne 12, 3) := by decide +kernel
theorem dL_sound_284 : decode cL_sound 284 = .ok (.lload 8, 2) := by decide +kernel
theorem dL_sound_286 : decode cL_sound 286 = .ok (.lconst 1, 1) := by decide +kernel
theorem dL_sound_287 : decode cL_sound 287 = .ok (.iload 10, 2) := by decide +kernel
theorem dL_sound_289 : decode cL_sound 289 = .ok (.lshl, 1) := by decide +kernel
theorem dL_sound_290 : decode cL_sound 290 = .ok (.lor, 1) := by decide +kernel
theorem dL_sound_291 : decode cL_sound 291 = .ok (.lstore 8, 2) := by decide +kernel
theorem dL_sound_293 : decode cL_sound 293 = .ok (.iinc 10 1, 3) := by decide +kernel
theorem dL_sound_296 : decode cL_sound 296 = .ok (.goto (-244), 3) := by decide +kernel
theorem dL_sound_299 : decode cL_sound 299 = .ok (.aload_n 0, 1) := by decide +kernel
theorem dL_sound_300 : decode cL_sound 300 = .ok (.iconst 1, 1) := by decide +kernel
theorem dL_sound_301 : decode cL_sound 301 = .ok (.invokevirtual 46, 3) := by decide +kernel
theorem dL_sound_304 : decode cL_sound 304 = .ok (.iload_n 3, 1) := by decide +kernel
theorem dL_sound_305 : decode cL_sound 305 = .ok (.if_icmp .ne 72, 3) := by decide +kernel
theorem dL_sound_308 : decode cL_sound 308 = .ok (.aload_n 0, 1) := by decide +kernel
theorem dL_sound_309 : decode cL_sound 309 = .ok (.invokevirtual 149, 3) := by decide +kernel
theorem dL_sound_312 : decode cL_sound 312 = .ok (.iload 4, 2) := by decide +kernel
theorem dL_sound_314 : decode cL_sound 314 = .ok (.if_icmp .ne 63, 3) := by decide +kernel
theorem dL_sound_317 : decode cL_sound 317 = .ok (.aload_n 0, 1) := by decide +kernel
theorem dL_sound_318 : decode cL_sound 318 = .ok (.iload 6, 2) := by decide +kernel
theorem dL_sound_320 : decode cL_sound 320 = .ok (.iconst 3, 1) := by decide +kernel
theorem dL_sound_321 : decode cL_sound 321 = .ok (.invokevirtual 43, 3) := by decide +kernel
theorem dL_sound_324 : decode cL_sound 324 = .ok (.iload 7, 2) := by decide +kernel
theorem dL_sound_326 : decode cL_sound 326 = .ok (.if_icmp .ne 51, 3) := by decide +kernel
theorem dL_sound_329 : decode cL_sound 329 = .ok (.aload_n 0, 1) := by decide +kernel
theorem dL_sound_330 : decode cL_sound 330 = .ok (.iload 6, 2) := by decide +kernel
theorem dL_sound_332 : decode cL_sound 332 = .ok (.invokevirtual 152, 3) := by decide +kernel
theorem dL_sound_335 : decode cL_sound 335 = .ok (.lload 8, 2) := by decide +kernel
theorem dL_sound_337 : decode cL_sound 337 = .ok (.lcmp, 1) := by decide +kernel
theorem dL_sound_338 : decode cL_sound 338 = .ok (.ifCond .ne 39, 3) := by decide +kernel
theorem dL_sound_341 : decode cL_sound 341 = .ok (.aload_n 0, 1) := by decide +kernel
theorem dL_sound_342 : decode cL_sound 342 = .ok (.iload 6, 2) := by decide +kernel
theorem dL_sound_344 : decode cL_sound 344 = .ok (.iconst 1, 1) := by decide +kernel
theorem dL_sound_345 : decode cL_sound 345 = .ok (.invokevirtual 43, 3) := by decide +kernel
theorem dL_sound_348 : decode cL_sound 348 = .ok (.aload_n 0, 1) := by decide +kernel
theorem dL_sound_349 : decode cL_sound 349 = .ok (.iload 6, 2) := by decide +kernel
theorem dL_sound_351 : decode cL_sound 351 = .ok (.iconst 1, 1) := by decide +kernel
theorem dL_sound_352 : decode cL_sound 352 = .ok (.iconst (-1), 1) := by decide +kernel
theorem dL_sound_353 : decode cL_sound 353 = .ok (.invokestatic 143, 3) := by decide +kernel
theorem dL_sound_356 : decode cL_sound 356 = .ok (.if_icmp .ne 21, 3) := by decide +kernel
theorem dL_sound_359 : decode cL_sound 359 = .ok (.aload_n 0, 1) := by decide +kernel
theorem dL_sound_360 : decode cL_sound 360 = .ok (.iload 6, 2) := by decide +kernel
theorem dL_sound_362 : decode cL_sound 362 = .ok (.iconst 2, 1) := by decide +kernel
theorem dL_sound_363 : decode cL_sound 363 = .ok (.invokevirtual 43, 3) := by decide +kernel
theorem dL_sound_366 : decode cL_sound 366 = .ok (.aload_n 0, 1) := by decide +kernel
theorem dL_sound_367 : decode cL_sound 367 = .ok (.iload 6, 2) := by decide +kernel
theorem dL_sound_369 : decode cL_sound 369 = .ok (.iconst 2, 1) := by decide +kernel
theorem dL_sound_370 : decode cL_sound 370 = .ok (.iconst (-1), 1) := by decide +kernel
theorem dL_sound_371 : decode cL_sound 371 = .ok (.invokestatic 143, 3) := by decide +kernel
theorem dL_sound_374 : decode cL_sound 374 = .ok (.if_icmp .eq 5, 3) := by decide +kernel
theorem dL_sound_377 : decode cL_sound 377 = .ok (.iconst 0, 1) := by decide +kernel
theorem dL_sound_378 : decode cL_sound 378 = .ok (.ireturn, 1) := by decide +kernel
theorem dL_sound_379 : decode cL_sound 379 = .ok (.iconst 0, 1) := by decide +kernel
theorem dL_sound_380 : decode cL_sound 380 = .ok (.istore 10, 2) := by decide +kernel
theorem dL_sound_382 : decode cL_sound 382 = .ok (.iconst 0, 1) := by decide +kernel
theorem dL_sound_383 : decode cL_sound 383 = .ok (.istore 11, 2) := by decide +kernel
theorem dL_sound_385 : decode cL_sound 385 = .ok (.iload 11, 2) := by decide +kernel
theorem dL_sound_387 : decode cL_sound 387 = .ok (.bipush 7, 2) := by decide +kernel
theorem dL_sound_389 : decode cL_sound 389 = .ok (.if_icmp .ge 20, 3) := by decide +kernel
theorem dL_sound_392 : decode cL_sound 392 = .ok (.iload 10, 2) := by decide +kernel
theorem dL_sound_394 : decode cL_sound 394 = .ok (.aload_n 0, 1) := by decide +kernel
theorem dL_sound_395 : decode cL_sound 395 = .ok (.iload 11, 2) := by decide +kernel
theorem dL_sound_397 : decode cL_sound 397 = .ok (.invokevirtual 59, 3) := by decide +kernel
theorem dL_sound_400 : decode cL_sound 400 = .ok (.iadd, 1) := by decide +kernel
theorem dL_sound_401 : decode cL_sound 401 = .ok (.istore 10, 2) := by decide +kernel
theorem dL_sound_403 : decode cL_sound 403 = .ok (.iinc 11 1, 3) := by decide +kernel
theorem dL_sound_406 : decode cL_sound 406 = .ok (.goto (-21), 3) := by decide +kernel
theorem dL_sound_409 : decode cL_sound 409 = .ok (.iload 10, 2) := by decide +kernel
theorem dL_sound_411 : decode cL_sound 411 = .ok (.aload_n 0, 1) := by decide +kernel
theorem dL_sound_412 : decode cL_sound 412 = .ok (.iconst 4, 1) := by decide +kernel
theorem dL_sound_413 : decode cL_sound 413 = .ok (.invokevirtual 46, 3) := by decide +kernel
theorem dL_sound_416 : decode cL_sound 416 = .ok (.if_icmp .ne 30, 3) := by decide +kernel
theorem dL_sound_419 : decode cL_sound 419 = .ok (.aload_n 0, 1) := by decide +kernel
theorem dL_sound_420 : decode cL_sound 420 = .ok (.iconst 5, 1) := by decide +kernel
theorem dL_sound_421 : decode cL_sound 421 = .ok (.invokevirtual 46, 3) := by decide +kernel
theorem dL_sound_424 : decode cL_sound 424 = .ok (.aload_n 0, 1) := by decide +kernel
theorem dL_sound_425 : decode cL_sound 425 = .ok (.iconst 0, 1) := by decide +kernel
theorem dL_sound_426 : decode cL_sound 426 = .ok (.invokevirtual 59, 3) := by decide +kernel
theorem dL_sound_429 : decode cL_sound 429 = .ok (.if_icmp .gt 17, 3) := by decide +kernel
theorem dL_sound_432 : decode cL_sound 432 = .ok (.aload_n 0, 1) := by decide +kernel
theorem dL_sound_433 : decode cL_sound 433 = .ok (.iconst 2, 1) := by decide +kernel
theorem dL_sound_434 : decode cL_sound 434 = .ok (.invokevirtual 46, 3) := by decide +kernel
theorem dL_sound_437 : decode cL_sound 437 = .ok (.aload_n 0, 1) := by decide +kernel
theorem dL_sound_438 : decode cL_sound 438 = .ok (.bipush 9, 2) := by decide +kernel
theorem dL_sound_440 : decode cL_sound 440 = .ok (.invokevirtual 46, 3) := by decide +kernel
theorem dL_sound_443 : decode cL_sound 443 = .ok (.if_icmp .le 5, 3) := by decide +kernel
theorem dL_sound_446 : decode cL_sound 446 = .ok (.iconst 0, 1) := by decide +kernel
theorem dL_sound_447 : decode cL_sound 447 = .ok (.ireturn, 1) := by decide +kernel
theorem dL_sound_448 : decode cL_sound 448 = .ok (.iconst 0, 1) := by decide +kernel
theorem dL_sound_449 : decode cL_sound 449 = .ok (.istore 11, 2) := by decide +kernel
theorem dL_sound_451 : decode cL_sound 451 = .ok (.iload 11, 2) := by decide +kernel
theorem dL_sound_453 : decode cL_sound 453 = .ok (.aload_n 0, 1) := by decide +kernel
theorem dL_sound_454 : decode cL_sound 454 = .ok (.iconst 2, 1) := by decide +kernel
theorem dL_sound_455 : decode cL_sound 455 = .ok (.invokevirtual 46, 3) := by decide +kernel
theorem dL_sound_458 : decode cL_sound 458 = .ok (.if_icmp .ge 153, 3) := by decide +kernel
theorem dL_sound_461 : decode cL_sound 461 = .ok (.aload_n 0, 1) := by decide +kernel
theorem dL_sound_462 : decode cL_sound 462 = .ok (.aload_n 0, 1) := by decide +kernel
theorem dL_sound_463 : decode cL_sound 463 = .ok (.iload 11, 2) := by decide +kernel
theorem dL_sound_465 : decode cL_sound 465 = .ok (.iconst 0, 1) := by decide +kernel
theorem dL_sound_466 : decode cL_sound 466 = .ok (.invokevirtual 56, 3) := by decide +kernel
theorem dL_sound_469 : decode cL_sound 469 = .ok (.aload_n 0, 1) := by decide +kernel
theorem dL_sound_470 : decode cL_sound 470 = .ok (.iload 11, 2) := by decide +kernel
theorem dL_sound_472 : decode cL_sound 472 = .ok (.iconst 1, 1) := by decide +kernel
theorem dL_sound_473 : decode cL_sound 473 = .ok (.invokevirtual 56, 3) := by decide +kernel
theorem dL_sound_476 : decode cL_sound 476 = .ok (.invokevirtual 53, 3) := by decide +kernel
theorem dL_sound_479 : decode cL_sound 479 = .ok (.istore 12, 2) := by decide +kernel
theorem dL_sound_481 : decode cL_sound 481 = .ok (.iload 12, 2) := by decide +kernel
theorem dL_sound_483 : decode cL_sound 483 = .ok (.ifCond .lt 51, 3) := by decide +kernel
theorem dL_sound_486 : decode cL_sound 486 = .ok (.aload_n 0, 1) := by decide +kernel
theorem dL_sound_487 : decode cL_sound 487 = .ok (.iload 12, 2) := by decide +kernel
theorem dL_sound_489 : decode cL_sound 489 = .ok (.iconst 0, 1) := by decide +kernel
theorem dL_sound_490 : decode cL_sound 490 = .ok (.invokevirtual 50, 3) := by decide +kernel
theorem dL_sound_493 : decode cL_sound 493 = .ok (.aload_n 0, 1) := by decide +kernel
theorem dL_sound_494 : decode cL_sound 494 = .ok (.iload 11, 2) := by decide +kernel
theorem dL_sound_496 : decode cL_sound 496 = .ok (.iconst 3, 1) := by decide +kernel
theorem dL_sound_497 : decode cL_sound 497 = .ok (.invokevirtual 56, 3) := by decide +kernel
theorem dL_sound_500 : decode cL_sound 500 = .ok (.if_icmp .ne 34, 3) := by decide +kernel
theorem dL_sound_503 : decode cL_sound 503 = .ok (.aload_n 0, 1) := by decide +kernel
theorem dL_sound_504 : decode cL_sound 504 = .ok (.aload_n 0, 1) := by decide +kernel
theorem dL_sound_505 : decode cL_sound 505 = .ok (.iload 11, 2) := by decide +kernel
theorem dL_sound_507 : decode cL_sound 507 = .ok (.iconst 0, 1) := by decide +kernel
theorem dL_sound_508 : decode cL_sound 508 = .ok (.invokevirtual 56, 3) := by decide +kernel
theorem dL_sound_511 : decode cL_sound 511 = .ok (.aload_n 0, 1) := by decide +kernel
theorem dL_sound_512 : decode cL_sound 512 = .ok (.iload 11, 2) := by decide +kernel
theorem dL_sound_514 : decode cL_sound 514 = .ok (.iconst 1, 1) := by decide +kernel
theorem dL_sound_515 : decode cL_sound 515 = .ok (.invokevirtual 56, 3) := by decide +kernel
theorem dL_sound_518 : decode cL_sound 518 = .ok (.aload_n 0, 1) := by decide +kernel
theorem dL_sound_519 : decode cL_sound 519 = .ok (.iload 11, 2) := by decide +kernel
theorem dL_sound_521 : decode cL_sound 521 = .ok (.iconst 2, 1) := by decide +kernel
theorem dL_sound_522 : decode cL_sound 522 = .ok (.invokevirtual 56, 3) := by decide +kernel
theorem dL_sound_525 : decode cL_sound 525 = .ok (.invokestatic 111, 3) := by decide +kernel
theorem dL_sound_528 : decode cL_sound 528 = .ok (.bipush 10, 2) := by decide +kernel
theorem dL_sound_530 : decode cL_sound 530 = .ok (.irem, 1) := by decide +kernel
theorem dL_sound_531 : decode cL_sound 531 = .ok (.ifCond .eq 5, 3) := by decide +kernel
theorem dL_sound_534 : decode cL_sound 534 = .ok (.iconst 0, 1) := by decide +kernel
theorem dL_sound_535 : decode cL_sound 535 = .ok (.ireturn, 1) := by decide +kernel
theorem dL_sound_536 : decode cL_sound 536 = .ok (.iconst 0, 1) := by decide +kernel
theorem dL_sound_537 : decode cL_sound 537 = .ok (.istore 13, 2) := by decide +kernel
theorem dL_sound_539 : decode cL_sound 539 = .ok (.iload 13, 2) := by decide +kernel
theorem dL_sound_541 : decode cL_sound 541 = .ok (.iload 11, 2) := by decide +kernel
theorem dL_sound_543 : decode cL_sound 543 = .ok (.if_icmp .ge 62, 3) := by decide +kernel
theorem dL_sound_546 : decode cL_sound 546 = .ok (.aload_n 0, 1) := by decide +kernel
theorem dL_sound_547 : decode cL_sound 547 = .ok (.iload 13, 2) := by decide +kernel
theorem dL_sound_549 : decode cL_sound 549 = .ok (.iconst 0, 1) := by decide +kernel
theorem dL_sound_550 : decode cL_sound 550 = .ok (.invokevirtual 56, 3) := by decide +kernel
theorem dL_sound_553 : decode cL_sound 553 = .ok (.aload_n 0, 1) := by decide +kernel
theorem dL_sound_554 : decode cL_sound 554 = .ok (.iload 11, 2) := by decide +kernel
theorem dL_sound_556 : decode cL_sound 556 = .ok (.iconst 0, 1) := by decide +kernel
theorem dL_sound_557 : decode cL_sound 557 = .ok (.invokevirtual 56, 3) := by decide +kernel
theorem dL_sound_560 : decode cL_sound 560 = .ok (.if_icmp .ne 39, 3) := by decide +kernel
theorem dL_sound_563 : decode cL_sound 563 = .ok (.aload_n 0, 1) := by decide +kernel
theorem dL_sound_564 : decode cL_sound 564 = .ok (.iload 13, 2) := by decide +kernel
theorem dL_sound_566 : decode cL_sound 566 = .ok (.iconst 1, 1) := by decide +kernel
theorem dL_sound_567 : decode cL_sound 567 = .ok (.invokevirtual 56, 3) := by decide +kernel
theorem dL_sound_570 : decode cL_sound 570 = .ok (.aload_n 0, 1) := by decide +kernel
theorem dL_sound_571 : decode cL_sound 571 = .ok (.iload 11, 2) := by decide +kernel
theorem dL_sound_573 : decode cL_sound 573 = .ok (.iconst 1, 1) := by decide +kernel
theorem dL_sound_574 : decode cL_sound 574 = .ok (.invokevirtual 56, 3) := by decide +kernel
theorem dL_sound_577 : decode cL_sound 577 = .ok (.if_icmp .ne 22, 3) := by decide +kernel
theorem dL_sound_580 : decode cL_sound 580 = .ok (.aload_n 0, 1) := by decide +kernel
theorem dL_sound_581 : decode cL_sound 581 = .ok (.iload 13, 2) := by decide +kernel
theorem dL_sound_583 : decode cL_sound 583 = .ok (.iconst 2, 1) := by decide +kernel
theorem dL_sound_584 : decode cL_sound 584 = .ok (.invokevirtual 56, 3) := by decide +kernel
theorem dL_sound_587 : decode cL_sound 587 = .ok (.aload_n 0, 1) := by decide +kernel
theorem dL_sound_588 : decode cL_sound 588 = .ok (.iload 11, 2) := by decide +kernel
theorem dL_sound_590 : decode cL_sound 590 = .ok (.iconst 2, 1) := by decide +kernel
theorem dL_sound_591 : decode cL_sound 591 = .ok (.invokevirtual 56, 3) := by decide +kernel
theorem dL_sound_594 : decode cL_sound 594 = .ok (.if_icmp .ne 5, 3) := by decide +kernel
theorem dL_sound_597 : decode cL_sound 597 = .ok (.iconst 0, 1) := by decide +kernel
theorem dL_sound_598 : decode cL_sound 598 = .ok (.ireturn, 1) := by decide +kernel
theorem dL_sound_599 : decode cL_sound 599 = .ok (.iinc 13 1, 3) := by decide +kernel
theorem dL_sound_602 : decode cL_sound 602 = .ok (.goto (-63), 3) := by decide +kernel
theorem dL_sound_605 : decode cL_sound 605 = .ok (.iinc 11 1, 3) := by decide +kernel
theorem dL_sound_608 : decode cL_sound 608 = .ok (.goto (-157), 3) := by decide +kernel
theorem dL_sound_611 : decode cL_sound 611 = .ok (.aload_n 0, 1) := by decide +kernel
theorem dL_sound_612 : decode cL_sound 612 = .ok (.aload_n 0, 1) := by decide +kernel
theorem dL_sound_613 : decode cL_sound 613 = .ok (.iconst 2, 1) := by decide +kernel
theorem dL_sound_614 : decode cL_sound 614 = .ok (.invokevirtual 46, 3) := by decide +kernel
theorem dL_sound_617 : decode cL_sound 617 = .ok (.iconst 0, 1) := by decide +kernel
theorem dL_sound_618 : decode cL_sound 618 = .ok (.invokevirtual 56, 3) := by decide +kernel
theorem dL_sound_621 : decode cL_sound 621 = .ok (.iconst (-1), 1) := by decide +kernel
theorem dL_sound_622 : decode cL_sound 622 = .ok (.if_icmp .ne 17, 3) := by decide +kernel
theorem dL_sound_625 : decode cL_sound 625 = .ok (.aload_n 0, 1) := by decide +kernel
theorem dL_sound_626 : decode cL_sound 626 = .ok (.iload_n 2, 1) := by decide +kernel
theorem dL_sound_627 : decode cL_sound 627 = .ok (.iconst 0, 1) := by decide +kernel
theorem dL_sound_628 : decode cL_sound 628 = .ok (.invokevirtual 50, 3) := by decide +kernel
theorem dL_sound_631 : decode cL_sound 631 = .ok (.iconst (-1), 1) := by decide +kernel
theorem dL_sound_632 : decode cL_sound 632 = .ok (.if_icmp .ne 7, 3) := by decide +kernel
theorem dL_sound_635 : decode cL_sound 635 = .ok (.iconst 1, 1) := by decide +kernel
theorem dL_sound_636 : decode cL_sound 636 = .ok (.goto 4, 3) := by decide +kernel
theorem dL_sound_639 : decode cL_sound 639 = .ok (.iconst 0, 1) := by decide +kernel
theorem dL_sound_640 : decode cL_sound 640 = .ok (.ireturn, 1) := by decide +kernel
theorem dL_back_0 : decode cL_back 0 = .ok (.aload_n 0, 1) := by decide +kernel
theorem dL_back_1 : decode cL_back 1 = .ok (.invokestatic 133, 3) := by decide +kernel
theorem dL_back_4 : decode cL_back 4 = .ok (.lstore_n 2, 1) := by decide +kernel
theorem dL_back_5 : decode cL_back 5 = .ok (.aload_n 0, 1) := by decide +kernel
theorem dL_back_6 : decode cL_back 6 = .ok (.iconst 0, 1) := by decide +kernel
theorem dL_back_7 : decode cL_back 7 = .ok (.invokevirtual 46, 3) := by decide +kernel
theorem dL_back_10 : decode cL_back 10 = .ok (.istore 4, 2) := by decide +kernel
theorem dL_back_12 : decode cL_back 12 = .ok (.aload_n 0, 1) := by decide +kernel
theorem dL_back_13 : decode cL_back 13 = .ok (.iload_n 1, 1) := by decide +kernel
theorem dL_back_14 : decode cL_back 14 = .ok (.iconst 2, 1) := by decide +kernel
theorem dL_back_15 : decode cL_back 15 = .ok (.invokestatic 22, 3) := by decide +kernel
theorem dL_back_18 : decode cL_back 18 = .ok (.invokevirtual 156, 3) := by decide +kernel
theorem dL_back_21 : decode cL_back 21 = .ok (.iload 4, 2) := by decide +kernel
theorem dL_back_23 : decode cL_back 23 = .ok (.if_icmp .eq 5, 3) := by decide +kernel
theorem dL_back_26 : decode cL_back 26 = .ok (.iconst 0, 1) := by decide +kernel
theorem dL_back_27 : decode cL_back 27 = .ok (.ireturn, 1) := by decide +kernel
theorem dL_back_28 : decode cL_back 28 = .ok (.iconst 2, 1) := by decide +kernel
theorem dL_back_29 : decode cL_back 29 = .ok (.istore 5, 2) := by decide +kernel
theorem dL_back_31 : decode cL_back 31 = .ok (.aload_n 0, 1) := by decide +kernel
theorem dL_back_32 : decode cL_back 32 = .ok (.iconst 0, 1) := by decide +kernel
theorem dL_back_33 : decode cL_back 33 = .ok (.iload_n 1, 1) := by decide +kernel
theorem dL_back_34 : decode cL_back 34 = .ok (.iconst 1, 1) := by decide +kernel
theorem dL_back_35 : decode cL_back 35 = .ok (.ishr, 1) := by decide +kernel
theorem dL_back_36 : decode cL_back 36 = .ok (.bipush 6, 2) := by decide +kernel
theorem dL_back_38 : decode cL_back 38 = .ok (.invokestatic 22, 3) := by decide +kernel
theorem dL_back_41 : decode cL_back 41 = .ok (.invokevirtual 108, 3) := by decide +kernel
theorem dL_back_44 : decode cL_back 44 = .ok (.ifCond .lt 10, 3) := by decide +kernel
theorem dL_back_47 : decode cL_back 47 = .ok (.aload_n 0, 1) := by decide +kernel
theorem dL_back_48 : decode cL_back 48 = .ok (.invokevirtual 104, 3) := by decide +kernel
theorem dL_back_51 : decode cL_back 51 = .ok (.ifCond .ge 5, 3) := by decide +kernel
theorem dL_back_54 : decode cL_back 54 = .ok (.iconst 0, 1) := by decide +kernel
theorem dL_back_55 : decode cL_back 55 = .ok (.ireturn, 1) := by decide +kernel
theorem dL_back_56 : decode cL_back 56 = .ok (.aload_n 0, 1) := by decide +kernel
theorem dL_back_57 : decode cL_back 57 = .ok (.iconst 0, 1) := by decide +kernel
theorem dL_back_58 : decode cL_back 58 = .ok (.iconst 1, 1) := by decide +kernel
theorem dL_back_59 : decode cL_back 59 = .ok (.iconst 2, 1) := by decide +kernel
theorem dL_back_60 : decode cL_back 60 = .ok (.iconst 3, 1) := by decide +kernel
theorem dL_back_61 : decode cL_back 61 = .ok (.bipush (-6), 2) := by decide +kernel
theorem dL_back_63 : decode cL_back 63 = .ok (.invokevirtual 87, 3) := by decide +kernel
theorem dL_back_66 : decode cL_back 66 = .ok (.ifCond .lt 6, 3) := by decide +kernel
theorem dL_back_69 : decode cL_back 69 = .ok (.iinc 5 1, 3) := by decide +kernel
theorem dL_back_72 : decode cL_back 72 = .ok (.aload_n 0, 1) := by decide +kernel
theorem dL_back_73 : decode cL_back 73 = .ok (.iload_n 1, 1) := by decide +kernel
theorem dL_back_74 : decode cL_back 74 = .ok (.iconst 4, 1) := by decide +kernel
theorem dL_back_75 : decode cL_back 75 = .ok (.ishr, 1) := by decide +kernel
theorem dL_back_76 : decode cL_back 76 = .ok (.bipush 40, 2) := by decide +kernel
theorem dL_back_78 : decode cL_back 78 = .ok (.invokestatic 22, 3) := by decide +kernel
theorem dL_back_81 : decode cL_back 81 = .ok (.invokevirtual 69, 3) := by decide +kernel
theorem dL_back_84 : decode cL_back 84 = .ok (.ifCond .lt 6, 3) := by decide +kernel
theorem dL_back_87 : decode cL_back 87 = .ok (.iinc 5 1, 3) := by decide +kernel
theorem dL_back_90 : decode cL_back 90 = .ok (.aload_n 0, 1) := by decide +kernel
theorem dL_back_91 : decode cL_back 91 = .ok (.iload_n 1, 1) := by decide +kernel
theorem dL_back_92 : decode cL_back 92 = .ok (.bipush 6, 2) := by decide +kernel
theorem dL_back_94 : decode cL_back 94 = .ok (.ishr, 1) := by decide +kernel
theorem dL_back_95 : decode cL_back 95 = .ok (.bipush 6, 2) := by decide +kernel
theorem dL_back_97 : decode cL_back 97 = .ok (.invokestatic 22, 3) := by decide +kernel
theorem dL_back_100 : decode cL_back 100 = .ok (.iconst 0, 1) := by decide +kernel
theorem dL_back_101 : decode cL_back 101 = .ok (.iconst 1, 1) := by decide +kernel
theorem dL_back_102 : decode cL_back 102 = .ok (.invokevirtual 117, 3) := by decide +kernel
theorem dL_back_105 : decode cL_back 105 = .ok (.ifCond .lt 6, 3) := by decide +kernel
theorem dL_back_108 : decode cL_back 108 = .ok (.iinc 5 1, 3) := by decide +kernel
theorem dL_back_111 : decode cL_back 111 = .ok (.iconst 0, 1) := by decide +kernel
theorem dL_back_112 : decode cL_back 112 = .ok (.istore 6, 2) := by decide +kernel
theorem dL_back_114 : decode cL_back 114 = .ok (.iload 6, 2) := by decide +kernel
theorem dL_back_116 : decode cL_back 116 = .ok (.iload 5, 2) := by decide +kernel
theorem dL_back_118 : decode cL_back 118 = .ok (.if_icmp .ge 18, 3) := by decide +kernel
theorem dL_back_121 : decode cL_back 121 = .ok (.aload_n 0, 1) := by decide +kernel
theorem dL_back_122 : decode cL_back 122 = .ok (.invokevirtual 140, 3) := by decide +kernel
theorem dL_back_125 : decode cL_back 125 = .ok (.ifCond .ge 5, 3) := by decide +kernel
theorem dL_back_128 : decode cL_back 128 = .ok (.iconst 0, 1) := by decide +kernel
theorem dL_back_129 : decode cL_back 129 = .ok (.ireturn, 1) := by decide +kernel
theorem dL_back_130 : decode cL_back 130 = .ok (.iinc 6 1, 3) := by decide +kernel
theorem dL_back_133 : decode cL_back 133 = .ok (.goto (-19), 3) := by decide +kernel
theorem dL_back_136 : decode cL_back 136 = .ok (.aload_n 0, 1) := by decide +kernel
theorem dL_back_137 : decode cL_back 137 = .ok (.invokestatic 133, 3) := by decide +kernel
theorem dL_back_140 : decode cL_back 140 = .ok (.lload_n 2, 1) := by decide +kernel
theorem dL_back_141 : decode cL_back 141 = .ok (.lcmp, 1) := by decide +kernel
theorem dL_back_142 : decode cL_back 142 = .ok (.ifCond .eq 5, 3) := by decide +kernel
theorem dL_back_145 : decode cL_back 145 = .ok (.iconst 0, 1) := by decide +kernel
theorem dL_back_146 : decode cL_back 146 = .ok (.ireturn, 1) := by decide +kernel
theorem dL_back_147 : decode cL_back 147 = .ok (.aload_n 0, 1) := by decide +kernel
theorem dL_back_148 : decode cL_back 148 = .ok (.iconst 5, 1) := by decide +kernel
theorem dL_back_149 : decode cL_back 149 = .ok (.bipush 9, 2) := by decide +kernel
theorem dL_back_151 : decode cL_back 151 = .ok (.iconst 2, 1) := by decide +kernel
theorem dL_back_152 : decode cL_back 152 = .ok (.invokevirtual 117, 3) := by decide +kernel
theorem dL_back_155 : decode cL_back 155 = .ok (.pop, 1) := by decide +kernel
theorem dL_back_156 : decode cL_back 156 = .ok (.aload_n 0, 1) := by decide +kernel
theorem dL_back_157 : decode cL_back 157 = .ok (.iload_n 1, 1) := by decide +kernel
theorem dL_back_158 : decode cL_back 158 = .ok (.iconst 2, 1) := by decide +kernel
theorem dL_back_159 : decode cL_back 159 = .ok (.invokestatic 22, 3) := by decide +kernel
theorem dL_back_162 : decode cL_back 162 = .ok (.invokevirtual 159, 3) := by decide +kernel
theorem dL_back_165 : decode cL_back 165 = .ok (.iload 4, 2) := by decide +kernel
theorem dL_back_167 : decode cL_back 167 = .ok (.if_icmp .ne 32, 3) := by decide +kernel
theorem dL_back_170 : decode cL_back 170 = .ok (.aload_n 0, 1) := by decide +kernel
theorem dL_back_171 : decode cL_back 171 = .ok (.invokestatic 133, 3) := by decide +kernel
theorem dL_back_174 : decode cL_back 174 = .ok (.lload_n 2, 1) := by decide +kernel
theorem dL_back_175 : decode cL_back 175 = .ok (.lcmp, 1) := by decide +kernel
theorem dL_back_176 : decode cL_back 176 = .ok (.ifCond .ne 23, 3) := by decide +kernel
theorem dL_back_179 : decode cL_back 179 = .ok (.aload_n 0, 1) := by decide +kernel
theorem dL_back_180 : decode cL_back 180 = .ok (.iconst 1, 1) := by decide +kernel
theorem dL_back_181 : decode cL_back 181 = .ok (.iload_n 1, 1) := by decide +kernel
theorem dL_back_182 : decode cL_back 182 = .ok (.iconst 2, 1) := by decide +kernel
theorem dL_back_183 : decode cL_back 183 = .ok (.invokestatic 22, 3) := by decide +kernel
theorem dL_back_186 : decode cL_back 186 = .ok (.isub, 1) := by decide +kernel
theorem dL_back_187 : decode cL_back 187 = .ok (.invokevirtual 159, 3) := by decide +kernel
theorem dL_back_190 : decode cL_back 190 = .ok (.bipush (-5), 2) := by decide +kernel
theorem dL_back_192 : decode cL_back 192 = .ok (.if_icmp .ne 7, 3) := by decide +kernel
theorem dL_back_195 : decode cL_back 195 = .ok (.iconst 1, 1) := by decide +kernel
theorem dL_back_196 : decode cL_back 196 = .ok (.goto 4, 3) := by decide +kernel
theorem dL_back_199 : decode cL_back 199 = .ok (.iconst 0, 1) := by decide +kernel
theorem dL_back_200 : decode cL_back 200 = .ok (.ireturn, 1) := by decide +kernel
theorem dL_refused_0 : decode cL_refused 0 = .ok (.iload_n 1, 1) := by decide +kernel
theorem dL_refused_1 : decode cL_refused 1 = .ok (.iconst 2, 1) := by decide +kernel
theorem dL_refused_2 : decode cL_refused 2 = .ok (.invokestatic 22, 3) := by decide +kernel
theorem dL_refused_5 : decode cL_refused 5 = .ok (.ifCond .ne 17, 3) := by decide +kernel
theorem dL_refused_8 : decode cL_refused 8 = .ok (.bipush (-7), 2) := by decide +kernel
theorem dL_refused_10 : decode cL_refused 10 = .ok (.iload_n 1, 1) := by decide +kernel
theorem dL_refused_11 : decode cL_refused 11 = .ok (.iconst 1, 1) := by decide +kernel
theorem dL_refused_12 : decode cL_refused 12 = .ok (.ishr, 1) := by decide +kernel
theorem dL_refused_13 : decode cL_refused 13 = .ok (.ldc 162, 2) := by decide +kernel
theorem dL_refused_15 : decode cL_refused 15 = .ok (.invokestatic 22, 3) := by decide +kernel
theorem dL_refused_18 : decode cL_refused 18 = .ok (.isub, 1) := by decide +kernel
theorem dL_refused_19 : decode cL_refused 19 = .ok (.goto 14, 3) := by decide +kernel
theorem dL_refused_22 : decode cL_refused 22 = .ok (.bipush 15, 2) := by decide +kernel
theorem dL_refused_24 : decode cL_refused 24 = .ok (.iload_n 1, 1) := by decide +kernel
theorem dL_refused_25 : decode cL_refused 25 = .ok (.iconst 1, 1) := by decide +kernel
theorem dL_refused_26 : decode cL_refused 26 = .ok (.ishr, 1) := by decide +kernel
theorem dL_refused_27 : decode cL_refused 27 = .ok (.ldc 162, 2) := by decide +kernel
theorem dL_refused_29 : decode cL_refused 29 = .ok (.invokestatic 22, 3) := by decide +kernel
theorem dL_refused_32 : decode cL_refused 32 = .ok (.iadd, 1) := by decide +kernel
theorem dL_refused_33 : decode cL_refused 33 = .ok (.istore_n 2, 1) := by decide +kernel
theorem dL_refused_34 : decode cL_refused 34 = .ok (.aload_n 0, 1) := by decide +kernel
theorem dL_refused_35 : decode cL_refused 35 = .ok (.iload_n 2, 1) := by decide +kernel
theorem dL_refused_36 : decode cL_refused 36 = .ok (.iconst 1, 1) := by decide +kernel
theorem dL_refused_37 : decode cL_refused 37 = .ok (.invokevirtual 26, 3) := by decide +kernel
theorem dL_refused_40 : decode cL_refused 40 = .ok (.bipush (-2), 2) := by decide +kernel
theorem dL_refused_42 : decode cL_refused 42 = .ok (.if_icmp .ne 414, 3) := by decide +kernel
theorem dL_refused_45 : decode cL_refused 45 = .ok (.aload_n 0, 1) := by decide +kernel
theorem dL_refused_46 : decode cL_refused 46 = .ok (.iconst 0, 1) := by decide +kernel
theorem dL_refused_47 : decode cL_refused 47 = .ok (.iload_n 2, 1) := by decide +kernel
theorem dL_refused_48 : decode cL_refused 48 = .ok (.invokevirtual 26, 3) := by decide +kernel
theorem dL_refused_51 : decode cL_refused 51 = .ok (.bipush (-2), 2) := by decide +kernel
theorem dL_refused_53 : decode cL_refused 53 = .ok (.if_icmp .ne 403, 3) := by decide +kernel
theorem dL_refused_56 : decode cL_refused 56 = .ok (.aload_n 0, 1) := by decide +kernel
theorem dL_refused_57 : decode cL_refused 57 = .ok (.iload_n 2, 1) := by decide +kernel
theorem dL_refused_58 : decode cL_refused 58 = .ok (.iconst 0, 1) := by decide +kernel
theorem dL_refused_59 : decode cL_refused 59 = .ok (.invokevirtual 108, 3) := by decide +kernel
theorem dL_refused_62 : decode cL_refused 62 = .ok (.iconst (-1), 1) := by decide +kernel
theorem dL_refused_63 : decode cL_refused 63 = .ok (.if_icmp .ne 393, 3) := by decide +kernel
theorem dL_refused_66 : decode cL_refused 66 = .ok (.aload_n 0, 1) := by decide +kernel
theorem dL_refused_67 : decode cL_refused 67 = .ok (.iconst 0, 1) := by decide +kernel
theorem dL_refused_68 : decode cL_refused 68 = .ok (.iload_n 2, 1) := by decide +kernel
theorem dL_refused_69 : decode cL_refused 69 = .ok (.invokevirtual 108, 3) := by decide +kernel
theorem dL_refused_72 : decode cL_refused 72 = .ok (.iconst (-1), 1) := by decide +kernel
theorem dL_refused_73 : decode cL_refused 73 = .ok (.if_icmp .ne 383, 3) := by decide +kernel
theorem dL_refused_76 : decode cL_refused 76 = .ok (.aload_n 0, 1) := by decide +kernel
theorem dL_refused_77 : decode cL_refused 77 = .ok (.iload_n 2, 1) := by decide +kernel
theorem dL_refused_78 : decode cL_refused 78 = .ok (.iconst 0, 1) := by decide +kernel
theorem dL_refused_79 : decode cL_refused 79 = .ok (.iconst 0, 1) := by decide +kernel
theorem dL_refused_80 : decode cL_refused 80 = .ok (.iconst 1, 1) := by decide +kernel
theorem dL_refused_81 : decode cL_refused 81 = .ok (.invokevirtual 72, 3) := by decide +kernel
theorem dL_refused_84 : decode cL_refused 84 = .ok (.iconst (-1), 1) := by decide +kernel
theorem dL_refused_85 : decode cL_refused 85 = .ok (.if_icmp .ne 371, 3) := by decide +kernel
theorem dL_refused_88 : decode cL_refused 88 = .ok (.aload_n 0, 1) := by decide +kernel
theorem dL_refused_89 : decode cL_refused 89 = .ok (.iconst 0, 1) := by decide +kernel
theorem dL_refused_90 : decode cL_refused 90 = .ok (.iconst 0, 1) := by decide +kernel
theorem dL_refused_91 : decode cL_refused 91 = .ok (.iload_n 2, 1) := by decide +kernel
theorem dL_refused_92 : decode cL_refused 92 = .ok (.iconst 1, 1) := by decide +kernel
theorem dL_refused_93 : decode cL_refused 93 = .ok (.invokevirtual 72, 3) := by decide +kernel
theorem dL_refused_96 : decode cL_refused 96 = .ok (.iconst (-1), 1) := by decide +kernel
theorem dL_refused_97 : decode cL_refused 97 = .ok (.if_icmp .ne 359, 3) := by decide +kernel
theorem dL_refused_100 : decode cL_refused 100 = .ok (.aload_n 0, 1) := by decide +kernel
theorem dL_refused_101 : decode cL_refused 101 = .ok (.iconst 0, 1) := by decide +kernel
theorem dL_refused_102 : decode cL_refused 102 = .ok (.iconst 0, 1) := by decide +kernel
theorem dL_refused_103 : decode cL_refused 103 = .ok (.iconst 0, 1) := by decide +kernel
theorem dL_refused_104 : decode cL_refused 104 = .ok (.iload_n 2, 1) := by decide +kernel
theorem dL_refused_105 : decode cL_refused 105 = .ok (.invokevirtual 72, 3) := by decide +kernel
theorem dL_refused_108 : decode cL_refused 108 = .ok (.bipush (-2), 2) := by decide +kernel
theorem dL_refused_110 : decode cL_refused 110 = .ok (.if_icmp .ne 346, 3) := by decide +kernel
theorem dL_refused_113 : decode cL_refused 113 = .ok (.aload_n 0, 1) := by decide +kernel
theorem dL_refused_114 : decode cL_refused 114 = .ok (.iconst 0, 1) := by decide +kernel
theorem dL_refused_115 : decode cL_refused 115 = .ok (.iconst 0, 1) := by decide +kernel
theorem dL_refused_116 : decode cL_refused 116 = .ok (.iconst 0, 1) := by decide +kernel
theorem dL_refused_117 : decode cL_refused 117 = .ok (.iconst 1, 1) := by decide +kernel
theorem dL_refused_118 : decode cL_refused 118 = .ok (.invokevirtual 72, 3) := by decide +kernel
theorem dL_refused_121 : decode cL_refused 121 = .ok (.bipush (-5), 2) := by decide +kernel
theorem dL_refused_123 : decode cL_refused 123 = .ok (.if_icmp .ne 333, 3) := by decide +kernel
theorem dL_refused_126 : decode cL_refused 126 = .ok (.aload_n 0, 1) := by decide +kernel
theorem dL_refused_127 : decode cL_refused 127 = .ok (.iload_n 2, 1) := by decide +kernel
theorem dL_refused_128 : decode cL_refused 128 = .ok (.iconst 0, 1) := by decide +kernel
theorem dL_refused_129 : decode cL_refused 129 = .ok (.iconst 1, 1) := by decide +kernel
theorem dL_refused_130 : decode cL_refused 130 = .ok (.invokevirtual 80, 3) := by decide +kernel
theorem dL_refused_133 : decode cL_refused 133 = .ok (.iconst (-1), 1) := by decide +kernel
theorem dL_refused_134 : decode cL_refused 134 = .ok (.if_icmp .ne 322, 3) := by decide +kernel
theorem dL_refused_137 : decode cL_refused 137 = .ok (.aload_n 0, 1) := by decide +kernel
theorem dL_refused_138 : decode cL_refused 138 = .ok (.iload_n 2, 1) := by decide +kernel
theorem dL_refused_139 : decode cL_refused 139 = .ok (.iconst 0, 1) := by decide +kernel
theorem dL_refused_140 : decode cL_refused 140 = .ok (.iconst 0, 1) := by decide +kernel
theorem dL_refused_141 : decode cL_refused 141 = .ok (.iconst 1, 1) := by decide +kernel
theorem dL_refused_142 : decode cL_refused 142 = .ok (.bipush (-6), 2) := by decide +kernel
theorem dL_refused_144 : decode cL_refused 144 = .ok (.invokevirtual 87, 3) := by decide +kernel
theorem dL_refused_147 : decode cL_refused 147 = .ok (.iconst (-1), 1) := by decide +kernel
theorem dL_refused_148 : decode cL_refused 148 = .ok (.if_icmp .ne 308, 3) := by decide +kernel
theorem dL_refused_151 : decode cL_refused 151 = .ok (.aload_n 0, 1) := by decide +kernel
theorem dL_refused_152 : decode cL_refused 152 = .ok (.iconst 0, 1) := by decide +kernel
theorem dL_refused_153 : decode cL_refused 153 = .ok (.iconst 0, 1) := by decide +kernel
theorem dL_refused_154 : decode cL_refused 154 = .ok (.iconst 0, 1) := by decide +kernel
theorem dL_refused_155 : decode cL_refused 155 = .ok (.iload_n 2, 1) := by decide +kernel
theorem dL_refused_156 : decode cL_refused 156 = .ok (.bipush (-6), 2) := by decide +kernel
theorem dL_refused_158 : decode cL_refused 158 = .ok (.invokevirtual 87, 3) := by decide +kernel
theorem dL_refused_161 : decode cL_refused 161 = .ok (.bipush (-2), 2) := by decide +kernel
theorem dL_refused_163 : decode cL_refused 163 = .ok (.if_icmp .ne 293, 3) := by decide +kernel
theorem dL_refused_166 : decode cL_refused 166 = .ok (.aload_n 0, 1) := by decide +kernel
theorem dL_refused_167 : decode cL_refused 167 = .ok (.iconst 0, 1) := by decide +kernel
theorem dL_refused_168 : decode cL_refused 168 = .ok (.iconst 0, 1) := by decide +kernel
theorem dL_refused_169 : decode cL_refused 169 = .ok (.iconst 0, 1) := by decide +kernel
theorem dL_refused_170 : decode cL_refused 170 = .ok (.iconst 1, 1) := by decide +kernel
theorem dL_refused_171 : decode cL_refused 171 = .ok (.iload_n 2, 1) := by decide +kernel
theorem dL_refused_172 : decode cL_refused 172 = .ok (.invokevirtual 87, 3) := by decide +kernel
theorem dL_refused_175 : decode cL_refused 175 = .ok (.iconst (-1), 1) := by decide +kernel
theorem dL_refused_176 : decode cL_refused 176 = .ok (.if_icmp .ne 280, 3) := by decide +kernel
theorem dL_refused_179 : decode cL_refused 179 = .ok (.aload_n 0, 1) := by decide +kernel
theorem dL_refused_180 : decode cL_refused 180 = .ok (.iload_n 2, 1) := by decide +kernel
theorem dL_refused_181 : decode cL_refused 181 = .ok (.invokevirtual 69, 3) := by decide +kernel
theorem dL_refused_184 : decode cL_refused 184 = .ok (.iconst (-1), 1) := by decide +kernel
theorem dL_refused_185 : decode cL_refused 185 = .ok (.if_icmp .ne 271, 3) := by decide +kernel
theorem dL_refused_188 : decode cL_refused 188 = .ok (.aload_n 0, 1) := by decide +kernel
theorem dL_refused_189 : decode cL_refused 189 = .ok (.iload_n 2, 1) := by decide +kernel
theorem dL_refused_190 : decode cL_refused 190 = .ok (.iconst 0, 1) := by decide +kernel
theorem dL_refused_191 : decode cL_refused 191 = .ok (.bipush (-6), 2) := by decide +kernel
theorem dL_refused_193 : decode cL_refused 193 = .ok (.invokevirtual 91, 3) := by decide +kernel
theorem dL_refused_196 : decode cL_refused 196 = .ok (.iconst (-1), 1) := by decide +kernel
theorem dL_refused_197 : decode cL_refused 197 = .ok (.if_icmp .ne 259, 3) := by decide +kernel
theorem dL_refused_200 : decode cL_refused 200 = .ok (.aload_n 0, 1) := by decide +kernel
theorem dL_refused_201 : decode cL_refused 201 = .ok (.iconst 0, 1) := by decide +kernel
theorem dL_refused_202 : decode cL_refused 202 = .ok (.iload_n 2, 1) := by decide +kernel
theorem dL_refused_203 : decode cL_refused 203 = .ok (.bipush (-6), 2) := by decide +kernel
theorem dL_refused_205 : decode cL_refused 205 = .ok (.invokevirtual 91, 3) := by decide +kernel
theorem dL_refused_208 : decode cL_refused 208 = .ok (.iconst (-1), 1) := by decide +kernel
theorem dL_refused_209 : decode cL_refused 209 = .ok (.if_icmp .ne 247, 3) := by decide +kernel
theorem dL_refused_212 : decode cL_refused 212 = .ok (.aload_n 0, 1) := by decide +kernel
theorem dL_refused_213 : decode cL_refused 213 = .ok (.iconst 0, 1) := by decide +kernel
theorem dL_refused_214 : decode cL_refused 214 = .ok (.iconst 0, 1) := by decide +kernel
theorem dL_refused_215 : decode cL_refused 215 = .ok (.iload_n 2, 1) := by decide +kernel
theorem dL_refused_216 : decode cL_refused 216 = .ok (.invokevirtual 91, 3) := by decide +kernel
theorem dL_refused_219 : decode cL_refused 219 = .ok (.iconst (-1), 1) := by decide +kernel
theorem dL_refused_220 : decode cL_refused 220 = .ok (.if_icmp .ne 236, 3) := by decide +kernel
theorem dL_refused_223 : decode cL_refused 223 = .ok (.aload_n 0, 1) := by decide +kernel
theorem dL_refused_224 : decode cL_refused 224 = .ok (.iload_n 2, 1) := by decide +kernel
theorem dL_refused_225 : decode cL_refused 225 = .ok (.iconst 0, 1) := by decide +kernel
theorem dL_refused_226 : decode cL_refused 226 = .ok (.iconst 1, 1) := by decide +kernel
theorem dL_refused_227 : decode cL_refused 227 = .ok (.invokevirtual 117, 3) := by decide +kernel
theorem dL_refused_230 : decode cL_refused 230 = .ok (.iconst (-1), 1) := by decide +kernel
theorem dL_refused_231 : decode cL_refused 231 = .ok (.if_icmp .ne 225, 3) := by decide +kernel
theorem dL_refused_234 : decode cL_refused 234 = .ok (.aload_n 0, 1) := by decide +kernel
theorem dL_refused_235 : decode cL_refused 235 = .ok (.iconst 0, 1) := by decide +kernel
theorem dL_refused_236 : decode cL_refused 236 = .ok (.iconst 0, 1) := by decide +kernel
theorem dL_refused_237 : decode cL_refused 237 = .ok (.iload_n 2, 1) := by decide +kernel
theorem dL_refused_238 : decode cL_refused 238 = .ok (.invokevirtual 117, 3) := by decide +kernel
theorem dL_refused_241 : decode cL_refused 241 = .ok (.bipush (-2), 2) := by decide +kernel
theorem dL_refused_243 : decode cL_refused 243 = .ok (.if_icmp .ne 213, 3) := by decide +kernel
theorem dL_refused_246 : decode cL_refused 246 = .ok (.aload_n 0, 1) := by decide +kernel
theorem dL_refused_247 : decode cL_refused 247 = .ok (.iload_n 2, 1) := by decide +kernel
theorem dL_refused_248 : decode cL_refused 248 = .ok (.iconst 0, 1) := by decide +kernel
theorem dL_refused_249 : decode cL_refused 249 = .ok (.invokevirtual 43, 3) := by decide +kernel
theorem dL_refused_252 : decode cL_refused 252 = .ok (.iconst (-1), 1) := by decide +kernel
theorem dL_refused_253 : decode cL_refused 253 = .ok (.if_icmp .ne 203, 3) := by decide +kernel
theorem dL_refused_256 : decode cL_refused 256 = .ok (.aload_n 0, 1) := by decide +kernel
theorem dL_refused_257 : decode cL_refused 257 = .ok (.iconst 0, 1) := by decide +kernel
theorem dL_refused_258 : decode cL_refused 258 = .ok (.iload_n 2, 1) := by decide +kernel
theorem dL_refused_259 : decode cL_refused 259 = .ok (.invokevirtual 43, 3) := by decide +kernel
theorem dL_refused_262 : decode cL_refused 262 = .ok (.bipush (-2), 2) := by decide +kernel
theorem dL_refused_264 : decode cL_refused 264 = .ok (.if_icmp .ne 192, 3) := by decide +kernel
theorem dL_refused_267 : decode cL_refused 267 = .ok (.aload_n 0, 1) := by decide +kernel
theorem dL_refused_268 : decode cL_refused 268 = .ok (.iload_n 2, 1) := by decide +kernel
theorem dL_refused_269 : decode cL_refused 269 = .ok (.iconst 0, 1) := by decide +kernel
theorem dL_refused_270 : decode cL_refused 270 = .ok (.invokevirtual 50, 3) := by decide +kernel
theorem dL_refused_273 : decode cL_refused 273 = .ok (.iconst (-1), 1) := by decide +kernel
theorem dL_refused_274 : decode cL_refused 274 = .ok (.if_icmp .ne 182, 3) := by decide +kernel
theorem dL_refused_277 : decode cL_refused 277 = .ok (.aload_n 0, 1) := by decide +kernel
theorem dL_refused_278 : decode cL_refused 278 = .ok (.iload_n 2, 1) := by decide +kernel
theorem dL_refused_279 : decode cL_refused 279 = .ok (.iconst 0, 1) := by decide +kernel
theorem dL_refused_280 : decode cL_refused 280 = .ok (.invokevirtual 53, 3) := by decide +kernel
theorem dL_refused_283 : decode cL_refused 283 = .ok (.iconst (-1), 1) := by decide +kernel
theorem dL_refused_284 : decode cL_refused 284 = .ok (.if_icmp .ne 172, 3) := by decide +kernel
theorem dL_refused_287 : decode cL_refused 287 = .ok (.aload_n 0, 1) := by decide +kernel
theorem dL_refused_288 : decode cL_refused 288 = .ok (.iload_n 2, 1) := by decide +kernel
theorem dL_refused_289 : decode cL_refused 289 = .ok (.iconst 0, 1) := by decide +kernel
theorem dL_refused_290 : decode cL_refused 290 = .ok (.invokevirtual 56, 3) := by decide +kernel
theorem dL_refused_293 : decode cL_refused 293 = .ok (.iconst (-1), 1) := by decide +kernel
theorem dL_refused_294 : decode cL_refused 294 = .ok (.if_icmp .ne 162, 3) := by decide +kernel
theorem dL_refused_297 : decode cL_refused 297 = .ok (.aload_n 0, 1) := by decide +kernel
theorem dL_refused_298 : decode cL_refused 298 = .ok (.iload_n 2, 1) := by decide +kernel
theorem dL_refused_299 : decode cL_refused 299 = .ok (.invokevirtual 46, 3) := by decide +kernel
theorem dL_refused_302 : decode cL_refused 302 = .ok (.bipush (-2), 2) := by decide +kernel
theorem dL_refused_304 : decode cL_refused 304 = .ok (.if_icmp .ne 152, 3) := by decide +kernel
theorem dL_refused_307 : decode cL_refused 307 = .ok (.aload_n 0, 1) := by decide +kernel
theorem dL_refused_308 : decode cL_refused 308 = .ok (.iload_n 2, 1) := by decide +kernel
theorem dL_refused_309 : decode cL_refused 309 = .ok (.invokevirtual 59, 3) := by decide +kernel
theorem dL_refused_312 : decode cL_refused 312 = .ok (.bipush (-2), 2) := by decide +kernel
theorem dL_refused_314 : decode cL_refused 314 = .ok (.if_icmp .ne 142, 3) := by decide +kernel
theorem dL_refused_317 : decode cL_refused 317 = .ok (.aload_n 0, 1) := by decide +kernel
theorem dL_refused_318 : decode cL_refused 318 = .ok (.iload_n 2, 1) := by decide +kernel
theorem dL_refused_319 : decode cL_refused 319 = .ok (.iconst 0, 1) := by decide +kernel
theorem dL_refused_320 : decode cL_refused 320 = .ok (.iconst 1, 1) := by decide +kernel
theorem dL_refused_321 : decode cL_refused 321 = .ok (.iconst 0, 1) := by decide +kernel
theorem dL_refused_322 : decode cL_refused 322 = .ok (.invokevirtual 115, 3) := by decide +kernel
theorem dL_refused_325 : decode cL_refused 325 = .ok (.iconst (-1), 1) := by decide +kernel
theorem dL_refused_326 : decode cL_refused 326 = .ok (.if_icmp .ne 130, 3) := by decide +kernel
theorem dL_refused_329 : decode cL_refused 329 = .ok (.aload_n 0, 1) := by decide +kernel
theorem dL_refused_330 : decode cL_refused 330 = .ok (.iconst 0, 1) := by decide +kernel
theorem dL_refused_331 : decode cL_refused 331 = .ok (.iconst 0, 1) := by decide +kernel
theorem dL_refused_332 : decode cL_refused 332 = .ok (.iload_n 2, 1) := by decide +kernel
theorem dL_refused_333 : decode cL_refused 333 = .ok (.iconst 0, 1) := by decide +kernel
theorem dL_refused_334 : decode cL_refused 334 = .ok (.invokevirtual 115, 3) := by decide +kernel
theorem dL_refused_337 : decode cL_refused 337 = .ok (.bipush (-2), 2) := by decide +kernel
theorem dL_refused_339 : decode cL_refused 339 = .ok (.if_icmp .ne 117, 3) := by decide +kernel
theorem dL_refused_342 : decode cL_refused 342 = .ok (.aload_n 0, 1) := by decide +kernel
theorem dL_refused_343 : decode cL_refused 343 = .ok (.iconst 0, 1) := by decide +kernel
theorem dL_refused_344 : decode cL_refused 344 = .ok (.iconst 0, 1) := by decide +kernel
theorem dL_refused_345 : decode cL_refused 345 = .ok (.iconst 1, 1) := by decide +kernel
theorem dL_refused_346 : decode cL_refused 346 = .ok (.iload_n 2, 1) := by decide +kernel
theorem dL_refused_347 : decode cL_refused 347 = .ok (.invokevirtual 115, 3) := by decide +kernel
theorem dL_refused_350 : decode cL_refused 350 = .ok (.bipush (-2), 2) := by decide +kernel
theorem dL_refused_352 : decode cL_refused 352 = .ok (.if_icmp .ne 104, 3) := by decide +kernel
theorem dL_refused_355 : decode cL_refused 355 = .ok (.aload_n 0, 1) := by decide +kernel
theorem dL_refused_356 : decode cL_refused 356 = .ok (.iload_n 2, 1) := by decide +kernel
theorem dL_refused_357 : decode cL_refused 357 = .ok (.invokevirtual 146, 3) := by decide +kernel
theorem dL_refused_360 : decode cL_refused 360 = .ok (.iconst (-1), 1) := by decide +kernel
theorem dL_refused_361 : decode cL_refused 361 = .ok (.if_icmp .ne 95, 3) := by decide +kernel
theorem dL_refused_364 : decode cL_refused 364 = .ok (.aload_n 0, 1) := by decide +kernel
theorem dL_refused_365 : decode cL_refused 365 = .ok (.iload_n 2, 1) := by decide +kernel
theorem dL_refused_366 : decode cL_refused 366 = .ok (.invokevirtual 152, 3) := by decide +kernel
theorem dL_refused_369 : decode cL_refused 369 = .ok (.ldc2_w 163, 3) := by decide +kernel
theorem dL_refused_372 : decode cL_refused 372 = .ok (.lcmp, 1) := by decide +kernel
theorem dL_refused_373 : decode cL_refused 373 = .ok (.ifCond .ne 83, 3) := by decide +kernel
theorem dL_refused_376 : decode cL_refused 376 = .ok (.aload_n 0, 1) := by decide +kernel
theorem dL_refused_377 : decode cL_refused 377 = .ok (.invokevirtual 149, 3) := by decide +kernel
theorem dL_refused_380 : decode cL_refused 380 = .ok (.bipush (-6), 2) := by decide +kernel
theorem dL_refused_382 : decode cL_refused 382 = .ok (.if_icmp .ne 74, 3) := by decide +kernel
theorem dL_refused_385 : decode cL_refused 385 = .ok (.aload_n 0, 1) := by decide +kernel
theorem dL_refused_386 : decode cL_refused 386 = .ok (.lconst 0, 1) := by decide +kernel
theorem dL_refused_387 : decode cL_refused 387 = .ok (.invokevirtual 119, 3) := by decide +kernel
theorem dL_refused_390 : decode cL_refused 390 = .ok (.bipush (-2), 2) := by decide +kernel
theorem dL_refused_392 : decode cL_refused 392 = .ok (.if_icmp .ne 64, 3) := by decide +kernel
theorem dL_refused_395 : decode cL_refused 395 = .ok (.aload_n 0, 1) := by decide +kernel
theorem dL_refused_396 : decode cL_refused 396 = .ok (.invokevirtual 137, 3) := by decide +kernel
theorem dL_refused_399 : decode cL_refused 399 = .ok (.bipush (-3), 2) := by decide +kernel
theorem dL_refused_401 : decode cL_refused 401 = .ok (.if_icmp .ne 55, 3) := by decide +kernel
theorem dL_refused_404 : decode cL_refused 404 = .ok (.aload_n 0, 1) := by decide +kernel
theorem dL_refused_405 : decode cL_refused 405 = .ok (.iload_n 2, 1) := by decide +kernel
theorem dL_refused_406 : decode cL_refused 406 = .ok (.invokevirtual 156, 3) := by decide +kernel
theorem dL_refused_409 : decode cL_refused 409 = .ok (.bipush (-2), 2) := by decide +kernel
theorem dL_refused_411 : decode cL_refused 411 = .ok (.if_icmp .ne 45, 3) := by decide +kernel
theorem dL_refused_414 : decode cL_refused 414 = .ok (.aload_n 0, 1) := by decide +kernel
theorem dL_refused_415 : decode cL_refused 415 = .ok (.iload_n 2, 1) := by decide +kernel
theorem dL_refused_416 : decode cL_refused 416 = .ok (.invokevirtual 159, 3) := by decide +kernel
theorem dL_refused_419 : decode cL_refused 419 = .ok (.bipush (-2), 2) := by decide +kernel
theorem dL_refused_421 : decode cL_refused 421 = .ok (.if_icmp .ne 35, 3) := by decide +kernel
theorem dL_refused_424 : decode cL_refused 424 = .ok (.aload_n 0, 1) := by decide +kernel
theorem dL_refused_425 : decode cL_refused 425 = .ok (.iconst 0, 1) := by decide +kernel
theorem dL_refused_426 : decode cL_refused 426 = .ok (.invokevirtual 159, 3) := by decide +kernel
theorem dL_refused_429 : decode cL_refused 429 = .ok (.bipush (-5), 2) := by decide +kernel
theorem dL_refused_431 : decode cL_refused 431 = .ok (.if_icmp .ne 25, 3) := by decide +kernel
theorem dL_refused_434 : decode cL_refused 434 = .ok (.aload_n 0, 1) := by decide +kernel
theorem dL_refused_435 : decode cL_refused 435 = .ok (.invokevirtual 140, 3) := by decide +kernel
theorem dL_refused_438 : decode cL_refused 438 = .ok (.bipush (-5), 2) := by decide +kernel
theorem dL_refused_440 : decode cL_refused 440 = .ok (.if_icmp .ne 16, 3) := by decide +kernel
theorem dL_refused_443 : decode cL_refused 443 = .ok (.aload_n 0, 1) := by decide +kernel
theorem dL_refused_444 : decode cL_refused 444 = .ok (.bipush 14, 2) := by decide +kernel
theorem dL_refused_446 : decode cL_refused 446 = .ok (.invokevirtual 46, 3) := by decide +kernel
theorem dL_refused_449 : decode cL_refused 449 = .ok (.ifCond .ne 7, 3) := by decide +kernel
theorem dL_refused_452 : decode cL_refused 452 = .ok (.iconst 1, 1) := by decide +kernel
theorem dL_refused_453 : decode cL_refused 453 = .ok (.goto 4, 3) := by decide +kernel
theorem dL_refused_456 : decode cL_refused 456 = .ok (.iconst 0, 1) := by decide +kernel
theorem dL_refused_457 : decode cL_refused 457 = .ok (.ireturn, 1) := by decide +kernel
