theorem ni_dL_law_0 : decode cL_law 0 = .ok (.new 8, 3) := by decide +kernel
theorem ni_dL_law_3 : decode cL_law 3 = .ok (.dup, 1) := by decide +kernel
theorem ni_dL_law_4 : decode cL_law 4 = .ok (.invokespecial 151, 3) := by decide +kernel
theorem ni_dL_law_7 : decode cL_law 7 = .ok (.astore_n 1, 1) := by decide +kernel
theorem ni_dL_law_8 : decode cL_law 8 = .ok (.new 152, 3) := by decide +kernel
theorem ni_dL_law_11 : decode cL_law 11 = .ok (.dup, 1) := by decide +kernel
theorem ni_dL_law_12 : decode cL_law 12 = .ok (.invokespecial 154, 3) := by decide +kernel
theorem ni_dL_law_15 : decode cL_law 15 = .ok (.astore_n 2, 1) := by decide +kernel
theorem ni_dL_law_16 : decode cL_law 16 = .ok (.iconst 1, 1) := by decide +kernel
theorem ni_dL_law_17 : decode cL_law 17 = .ok (.newarray .long, 2) := by decide +kernel
theorem ni_dL_law_19 : decode cL_law 19 = .ok (.astore_n 3, 1) := by decide +kernel
theorem ni_dL_law_20 : decode cL_law 20 = .ok (.iconst 1, 1) := by decide +kernel
theorem ni_dL_law_21 : decode cL_law 21 = .ok (.newarray .double, 2) := by decide +kernel
theorem ni_dL_law_23 : decode cL_law 23 = .ok (.astore 4, 2) := by decide +kernel
theorem ni_dL_law_25 : decode cL_law 25 = .ok (.iconst 0, 1) := by decide +kernel
theorem ni_dL_law_26 : decode cL_law 26 = .ok (.istore 5, 2) := by decide +kernel
theorem ni_dL_law_28 : decode cL_law 28 = .ok (.iload 5, 2) := by decide +kernel
theorem ni_dL_law_30 : decode cL_law 30 = .ok (.aload_n 0, 1) := by decide +kernel
theorem ni_dL_law_31 : decode cL_law 31 = .ok (.arraylength, 1) := by decide +kernel
theorem ni_dL_law_32 : decode cL_law 32 = .ok (.bipush 6, 2) := by decide +kernel
theorem ni_dL_law_34 : decode cL_law 34 = .ok (.isub, 1) := by decide +kernel
theorem ni_dL_law_35 : decode cL_law 35 = .ok (.if_icmp .gt 3288, 3) := by decide +kernel
theorem ni_dL_law_38 : decode cL_law 38 = .ok (.aload_n 0, 1) := by decide +kernel
theorem ni_dL_law_39 : decode cL_law 39 = .ok (.iload 5, 2) := by decide +kernel
theorem ni_dL_law_41 : decode cL_law 41 = .ok (.iaload, 1) := by decide +kernel
theorem ni_dL_law_42 : decode cL_law 42 = .ok (.bipush 63, 2) := by decide +kernel
theorem ni_dL_law_44 : decode cL_law 44 = .ok (.iand, 1) := by decide +kernel
theorem ni_dL_law_45 : decode cL_law 45 = .ok (.tableswitch 3272 0 49 #[215, 259, 363, 431, 522, 602, 658, 750, 806, 942, 1050, 1142, 1234, 1314, 1370, 1383, 1396, 1409, 1422, 1435, 1448, 1511, 1579, 1592, 1605, 1673, 1741, 1797, 1853, 1909, 1977, 2045, 2113, 2181, 2237, 2321, 2417, 2501, 2597, 2653, 2709, 2765, 2821, 2877, 2945, 3001, 3078, 3134, 3202, 3258], 215) := by decide +kernel
theorem ni_dL_law_260 : decode cL_law 260 = .ok (.aload_n 1, 1) := by decide +kernel
theorem ni_dL_law_261 : decode cL_law 261 = .ok (.aload_n 3, 1) := by decide +kernel
theorem ni_dL_law_262 : decode cL_law 262 = .ok (.invokestatic 155, 3) := by decide +kernel
theorem ni_dL_law_265 : decode cL_law 265 = .ok (.istore 6, 2) := by decide +kernel
theorem ni_dL_law_267 : decode cL_law 267 = .ok (.aload_n 2, 1) := by decide +kernel
theorem ni_dL_law_268 : decode cL_law 268 = .ok (.invokevirtual 160, 3) := by decide +kernel
theorem ni_dL_law_271 : decode cL_law 271 = .ok (.istore 7, 2) := by decide +kernel
theorem ni_dL_law_273 : decode cL_law 273 = .ok (.aload_n 2, 1) := by decide +kernel
theorem ni_dL_law_274 : decode cL_law 274 = .ok (.invokevirtual 161, 3) := by decide +kernel
theorem ni_dL_law_277 : decode cL_law 277 = .ok (.iload 6, 2) := by decide +kernel
theorem ni_dL_law_279 : decode cL_law 279 = .ok (.if_icmp .eq 5, 3) := by decide +kernel
theorem ni_dL_law_284 : decode cL_law 284 = .ok (.iload 6, 2) := by decide +kernel
theorem ni_dL_law_286 : decode cL_law 286 = .ok (.ifCond .ne 15, 3) := by decide +kernel
theorem ni_dL_law_289 : decode cL_law 289 = .ok (.aload_n 3, 1) := by decide +kernel
theorem ni_dL_law_290 : decode cL_law 290 = .ok (.iconst 0, 1) := by decide +kernel
theorem ni_dL_law_291 : decode cL_law 291 = .ok (.laload, 1) := by decide +kernel
theorem ni_dL_law_292 : decode cL_law 292 = .ok (.iload 7, 2) := by decide +kernel
theorem ni_dL_law_294 : decode cL_law 294 = .ok (.i2l, 1) := by decide +kernel
theorem ni_dL_law_295 : decode cL_law 295 = .ok (.lcmp, 1) := by decide +kernel
theorem ni_dL_law_296 : decode cL_law 296 = .ok (.ifCond .eq 5, 3) := by decide +kernel
theorem ni_dL_law_301 : decode cL_law 301 = .ok (.goto 3016, 3) := by decide +kernel
theorem ni_dL_law_304 : decode cL_law 304 = .ok (.aload_n 1, 1) := by decide +kernel
theorem ni_dL_law_305 : decode cL_law 305 = .ok (.aload_n 0, 1) := by decide +kernel
theorem ni_dL_law_306 : decode cL_law 306 = .ok (.iload 5, 2) := by decide +kernel
theorem ni_dL_law_308 : decode cL_law 308 = .ok (.iconst 1, 1) := by decide +kernel
theorem ni_dL_law_309 : decode cL_law 309 = .ok (.iadd, 1) := by decide +kernel
theorem ni_dL_law_310 : decode cL_law 310 = .ok (.iaload, 1) := by decide +kernel
theorem ni_dL_law_311 : decode cL_law 311 = .ok (.aload_n 0, 1) := by decide +kernel
theorem ni_dL_law_312 : decode cL_law 312 = .ok (.iload 5, 2) := by decide +kernel
theorem ni_dL_law_314 : decode cL_law 314 = .ok (.iconst 2, 1) := by decide +kernel
theorem ni_dL_law_315 : decode cL_law 315 = .ok (.iadd, 1) := by decide +kernel
theorem ni_dL_law_316 : decode cL_law 316 = .ok (.iaload, 1) := by decide +kernel
theorem ni_dL_law_317 : decode cL_law 317 = .ok (.aload_n 0, 1) := by decide +kernel
theorem ni_dL_law_318 : decode cL_law 318 = .ok (.iload 5, 2) := by decide +kernel
theorem ni_dL_law_320 : decode cL_law 320 = .ok (.iconst 3, 1) := by decide +kernel
theorem ni_dL_law_321 : decode cL_law 321 = .ok (.iadd, 1) := by decide +kernel
theorem ni_dL_law_322 : decode cL_law 322 = .ok (.iaload, 1) := by decide +kernel
theorem ni_dL_law_323 : decode cL_law 323 = .ok (.aload_n 0, 1) := by decide +kernel
theorem ni_dL_law_324 : decode cL_law 324 = .ok (.iload 5, 2) := by decide +kernel
theorem ni_dL_law_326 : decode cL_law 326 = .ok (.iconst 4, 1) := by decide +kernel
theorem ni_dL_law_327 : decode cL_law 327 = .ok (.iadd, 1) := by decide +kernel
theorem ni_dL_law_328 : decode cL_law 328 = .ok (.iaload, 1) := by decide +kernel
theorem ni_dL_law_329 : decode cL_law 329 = .ok (.aload_n 0, 1) := by decide +kernel
theorem ni_dL_law_330 : decode cL_law 330 = .ok (.iload 5, 2) := by decide +kernel
theorem ni_dL_law_332 : decode cL_law 332 = .ok (.iconst 5, 1) := by decide +kernel
theorem ni_dL_law_333 : decode cL_law 333 = .ok (.iadd, 1) := by decide +kernel
theorem ni_dL_law_334 : decode cL_law 334 = .ok (.iaload, 1) := by decide +kernel
theorem ni_dL_law_335 : decode cL_law 335 = .ok (.aload_n 3, 1) := by decide +kernel
theorem ni_dL_law_336 : decode cL_law 336 = .ok (.invokestatic 164, 3) := by decide +kernel
theorem ni_dL_law_339 : decode cL_law 339 = .ok (.istore 6, 2) := by decide +kernel
theorem ni_dL_law_341 : decode cL_law 341 = .ok (.aload_n 2, 1) := by decide +kernel
theorem ni_dL_law_342 : decode cL_law 342 = .ok (.aload_n 0, 1) := by decide +kernel
theorem ni_dL_law_343 : decode cL_law 343 = .ok (.iload 5, 2) := by decide +kernel
theorem ni_dL_law_345 : decode cL_law 345 = .ok (.iconst 1, 1) := by decide +kernel
theorem ni_dL_law_346 : decode cL_law 346 = .ok (.iadd, 1) := by decide +kernel
theorem ni_dL_law_347 : decode cL_law 347 = .ok (.iaload, 1) := by decide +kernel
theorem ni_dL_law_348 : decode cL_law 348 = .ok (.aload_n 0, 1) := by decide +kernel
theorem ni_dL_law_349 : decode cL_law 349 = .ok (.iload 5, 2) := by decide +kernel
theorem ni_dL_law_351 : decode cL_law 351 = .ok (.iconst 2, 1) := by decide +kernel
theorem ni_dL_law_352 : decode cL_law 352 = .ok (.iadd, 1) := by decide +kernel
theorem ni_dL_law_353 : decode cL_law 353 = .ok (.iaload, 1) := by decide +kernel
theorem ni_dL_law_354 : decode cL_law 354 = .ok (.aload_n 0, 1) := by decide +kernel
theorem ni_dL_law_355 : decode cL_law 355 = .ok (.iload 5, 2) := by decide +kernel
theorem ni_dL_law_357 : decode cL_law 357 = .ok (.iconst 3, 1) := by decide +kernel
theorem ni_dL_law_358 : decode cL_law 358 = .ok (.iadd, 1) := by decide +kernel
theorem ni_dL_law_359 : decode cL_law 359 = .ok (.iaload, 1) := by decide +kernel
theorem ni_dL_law_360 : decode cL_law 360 = .ok (.aload_n 0, 1) := by decide +kernel
theorem ni_dL_law_361 : decode cL_law 361 = .ok (.iload 5, 2) := by decide +kernel
theorem ni_dL_law_363 : decode cL_law 363 = .ok (.iconst 4, 1) := by decide +kernel
theorem ni_dL_law_364 : decode cL_law 364 = .ok (.iadd, 1) := by decide +kernel
theorem ni_dL_law_365 : decode cL_law 365 = .ok (.iaload, 1) := by decide +kernel
theorem ni_dL_law_366 : decode cL_law 366 = .ok (.aload_n 0, 1) := by decide +kernel
theorem ni_dL_law_367 : decode cL_law 367 = .ok (.iload 5, 2) := by decide +kernel
theorem ni_dL_law_369 : decode cL_law 369 = .ok (.iconst 5, 1) := by decide +kernel
theorem ni_dL_law_370 : decode cL_law 370 = .ok (.iadd, 1) := by decide +kernel
theorem ni_dL_law_371 : decode cL_law 371 = .ok (.iaload, 1) := by decide +kernel
theorem ni_dL_law_372 : decode cL_law 372 = .ok (.invokevirtual 167, 3) := by decide +kernel
theorem ni_dL_law_375 : decode cL_law 375 = .ok (.istore 7, 2) := by decide +kernel
theorem ni_dL_law_377 : decode cL_law 377 = .ok (.aload_n 2, 1) := by decide +kernel
theorem ni_dL_law_378 : decode cL_law 378 = .ok (.invokevirtual 161, 3) := by decide +kernel
theorem ni_dL_law_381 : decode cL_law 381 = .ok (.iload 6, 2) := by decide +kernel
theorem ni_dL_law_383 : decode cL_law 383 = .ok (.if_icmp .eq 5, 3) := by decide +kernel
theorem ni_dL_law_388 : decode cL_law 388 = .ok (.iload 6, 2) := by decide +kernel
theorem ni_dL_law_390 : decode cL_law 390 = .ok (.ifCond .ne 15, 3) := by decide +kernel
theorem ni_dL_law_405 : decode cL_law 405 = .ok (.goto 2912, 3) := by decide +kernel
theorem ni_dL_law_408 : decode cL_law 408 = .ok (.aload_n 1, 1) := by decide +kernel
theorem ni_dL_law_409 : decode cL_law 409 = .ok (.aload_n 0, 1) := by decide +kernel
theorem ni_dL_law_410 : decode cL_law 410 = .ok (.iload 5, 2) := by decide +kernel
theorem ni_dL_law_412 : decode cL_law 412 = .ok (.iconst 1, 1) := by decide +kernel
theorem ni_dL_law_413 : decode cL_law 413 = .ok (.iadd, 1) := by decide +kernel
theorem ni_dL_law_414 : decode cL_law 414 = .ok (.iaload, 1) := by decide +kernel
theorem ni_dL_law_415 : decode cL_law 415 = .ok (.aload_n 0, 1) := by decide +kernel
theorem ni_dL_law_416 : decode cL_law 416 = .ok (.iload 5, 2) := by decide +kernel
theorem ni_dL_law_418 : decode cL_law 418 = .ok (.iconst 2, 1) := by decide +kernel
theorem ni_dL_law_419 : decode cL_law 419 = .ok (.iadd, 1) := by decide +kernel
theorem ni_dL_law_420 : decode cL_law 420 = .ok (.iaload, 1) := by decide +kernel
theorem ni_dL_law_421 : decode cL_law 421 = .ok (.aload_n 3, 1) := by decide +kernel
theorem ni_dL_law_422 : decode cL_law 422 = .ok (.invokestatic 168, 3) := by decide +kernel
theorem ni_dL_law_425 : decode cL_law 425 = .ok (.istore 6, 2) := by decide +kernel
theorem ni_dL_law_427 : decode cL_law 427 = .ok (.aload_n 2, 1) := by decide +kernel
theorem ni_dL_law_428 : decode cL_law 428 = .ok (.aload_n 0, 1) := by decide +kernel
theorem ni_dL_law_429 : decode cL_law 429 = .ok (.iload 5, 2) := by decide +kernel
theorem ni_dL_law_431 : decode cL_law 431 = .ok (.iconst 1, 1) := by decide +kernel
theorem ni_dL_law_432 : decode cL_law 432 = .ok (.iadd, 1) := by decide +kernel
theorem ni_dL_law_433 : decode cL_law 433 = .ok (.iaload, 1) := by decide +kernel
theorem ni_dL_law_434 : decode cL_law 434 = .ok (.aload_n 0, 1) := by decide +kernel
theorem ni_dL_law_435 : decode cL_law 435 = .ok (.iload 5, 2) := by decide +kernel
theorem ni_dL_law_437 : decode cL_law 437 = .ok (.iconst 2, 1) := by decide +kernel
theorem ni_dL_law_438 : decode cL_law 438 = .ok (.iadd, 1) := by decide +kernel
theorem ni_dL_law_439 : decode cL_law 439 = .ok (.iaload, 1) := by decide +kernel
theorem ni_dL_law_440 : decode cL_law 440 = .ok (.invokevirtual 171, 3) := by decide +kernel
theorem ni_dL_law_443 : decode cL_law 443 = .ok (.istore 7, 2) := by decide +kernel
theorem ni_dL_law_445 : decode cL_law 445 = .ok (.aload_n 2, 1) := by decide +kernel
theorem ni_dL_law_446 : decode cL_law 446 = .ok (.invokevirtual 161, 3) := by decide +kernel
theorem ni_dL_law_449 : decode cL_law 449 = .ok (.iload 6, 2) := by decide +kernel
theorem ni_dL_law_451 : decode cL_law 451 = .ok (.if_icmp .eq 5, 3) := by decide +kernel
theorem ni_dL_law_456 : decode cL_law 456 = .ok (.iload 6, 2) := by decide +kernel
theorem ni_dL_law_458 : decode cL_law 458 = .ok (.ifCond .ne 15, 3) := by decide +kernel
theorem ni_dL_law_473 : decode cL_law 473 = .ok (.goto 2844, 3) := by decide +kernel
theorem ni_dL_law_476 : decode cL_law 476 = .ok (.aload_n 1, 1) := by decide +kernel
theorem ni_dL_law_477 : decode cL_law 477 = .ok (.aload_n 0, 1) := by decide +kernel
theorem ni_dL_law_478 : decode cL_law 478 = .ok (.iload 5, 2) := by decide +kernel
theorem ni_dL_law_480 : decode cL_law 480 = .ok (.iconst 1, 1) := by decide +kernel
theorem ni_dL_law_481 : decode cL_law 481 = .ok (.iadd, 1) := by decide +kernel
theorem ni_dL_law_482 : decode cL_law 482 = .ok (.iaload, 1) := by decide +kernel
theorem ni_dL_law_483 : decode cL_law 483 = .ok (.aload_n 0, 1) := by decide +kernel
theorem ni_dL_law_484 : decode cL_law 484 = .ok (.iload 5, 2) := by decide +kernel
theorem ni_dL_law_486 : decode cL_law 486 = .ok (.iconst 2, 1) := by decide +kernel
theorem ni_dL_law_487 : decode cL_law 487 = .ok (.iadd, 1) := by decide +kernel
theorem ni_dL_law_488 : decode cL_law 488 = .ok (.iaload, 1) := by decide +kernel
theorem ni_dL_law_489 : decode cL_law 489 = .ok (.ifCond .eq 7, 3) := by decide +kernel
theorem ni_dL_law_492 : decode cL_law 492 = .ok (.iconst 1, 1) := by decide +kernel
theorem ni_dL_law_493 : decode cL_law 493 = .ok (.goto 4, 3) := by decide +kernel
theorem ni_dL_law_496 : decode cL_law 496 = .ok (.iconst 0, 1) := by decide +kernel
theorem ni_dL_law_497 : decode cL_law 497 = .ok (.aload_n 3, 1) := by decide +kernel
theorem ni_dL_law_498 : decode cL_law 498 = .ok (.invokestatic 172, 3) := by decide +kernel
theorem ni_dL_law_501 : decode cL_law 501 = .ok (.istore 6, 2) := by decide +kernel
theorem ni_dL_law_503 : decode cL_law 503 = .ok (.aload_n 2, 1) := by decide +kernel
theorem ni_dL_law_504 : decode cL_law 504 = .ok (.aload_n 0, 1) := by decide +kernel
theorem ni_dL_law_505 : decode cL_law 505 = .ok (.iload 5, 2) := by decide +kernel
theorem ni_dL_law_507 : decode cL_law 507 = .ok (.iconst 1, 1) := by decide +kernel
theorem ni_dL_law_508 : decode cL_law 508 = .ok (.iadd, 1) := by decide +kernel
theorem ni_dL_law_509 : decode cL_law 509 = .ok (.iaload, 1) := by decide +kernel
theorem ni_dL_law_510 : decode cL_law 510 = .ok (.aload_n 0, 1) := by decide +kernel
theorem ni_dL_law_511 : decode cL_law 511 = .ok (.iload 5, 2) := by decide +kernel
theorem ni_dL_law_513 : decode cL_law 513 = .ok (.iconst 2, 1) := by decide +kernel
theorem ni_dL_law_514 : decode cL_law 514 = .ok (.iadd, 1) := by decide +kernel
theorem ni_dL_law_515 : decode cL_law 515 = .ok (.iaload, 1) := by decide +kernel
theorem ni_dL_law_516 : decode cL_law 516 = .ok (.ifCond .eq 7, 3) := by decide +kernel
theorem ni_dL_law_519 : decode cL_law 519 = .ok (.iconst 1, 1) := by decide +kernel
theorem ni_dL_law_520 : decode cL_law 520 = .ok (.goto 4, 3) := by decide +kernel
theorem ni_dL_law_523 : decode cL_law 523 = .ok (.iconst 0, 1) := by decide +kernel
theorem ni_dL_law_524 : decode cL_law 524 = .ok (.invokevirtual 175, 3) := by decide +kernel
theorem ni_dL_law_527 : decode cL_law 527 = .ok (.istore 7, 2) := by decide +kernel
theorem ni_dL_law_529 : decode cL_law 529 = .ok (.aload_n 2, 1) := by decide +kernel
theorem ni_dL_law_530 : decode cL_law 530 = .ok (.invokevirtual 161, 3) := by decide +kernel
theorem ni_dL_law_533 : decode cL_law 533 = .ok (.iload 6, 2) := by decide +kernel
theorem ni_dL_law_535 : decode cL_law 535 = .ok (.if_icmp .eq 5, 3) := by decide +kernel
theorem ni_dL_law_540 : decode cL_law 540 = .ok (.iload 6, 2) := by decide +kernel
theorem ni_dL_law_542 : decode cL_law 542 = .ok (.ifCond .ne 22, 3) := by decide +kernel
theorem ni_dL_law_564 : decode cL_law 564 = .ok (.goto 2753, 3) := by decide +kernel
theorem ni_dL_law_567 : decode cL_law 567 = .ok (.aload_n 1, 1) := by decide +kernel
theorem ni_dL_law_568 : decode cL_law 568 = .ok (.aload_n 0, 1) := by decide +kernel
theorem ni_dL_law_569 : decode cL_law 569 = .ok (.iload 5, 2) := by decide +kernel
theorem ni_dL_law_571 : decode cL_law 571 = .ok (.iconst 1, 1) := by decide +kernel
theorem ni_dL_law_572 : decode cL_law 572 = .ok (.iadd, 1) := by decide +kernel
theorem ni_dL_law_573 : decode cL_law 573 = .ok (.iaload, 1) := by decide +kernel
theorem ni_dL_law_574 : decode cL_law 574 = .ok (.aload_n 0, 1) := by decide +kernel
theorem ni_dL_law_575 : decode cL_law 575 = .ok (.iload 5, 2) := by decide +kernel
theorem ni_dL_law_577 : decode cL_law 577 = .ok (.iconst 2, 1) := by decide +kernel
theorem ni_dL_law_578 : decode cL_law 578 = .ok (.iadd, 1) := by decide +kernel
theorem ni_dL_law_579 : decode cL_law 579 = .ok (.iaload, 1) := by decide +kernel
