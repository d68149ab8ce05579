theorem ni_dL_law_387 : decode cL_law 387 = .ok (.goto 4, 3) := by decide +kernel
theorem ni_dL_law_390 : decode cL_law 390 = .ok (.iconst 0, 1) := by decide +kernel
theorem ni_dL_law_391 : decode cL_law 391 = .ok (.invokevirtual 134, 3) := by decide +kernel
theorem ni_dL_law_394 : decode cL_law 394 = .ok (.pop, 1) := by decide +kernel
theorem ni_dL_law_395 : decode cL_law 395 = .ok (.goto 72, 3) := by decide +kernel
theorem ni_dL_law_398 : decode cL_law 398 = .ok (.aload_n 1, 1) := by decide +kernel
theorem ni_dL_law_399 : decode cL_law 399 = .ok (.aload_n 3, 1) := by decide +kernel
theorem ni_dL_law_400 : decode cL_law 400 = .ok (.iload 7, 2) := by decide +kernel
theorem ni_dL_law_402 : decode cL_law 402 = .ok (.aaload, 1) := by decide +kernel
theorem ni_dL_law_403 : decode cL_law 403 = .ok (.iconst 0, 1) := by decide +kernel
theorem ni_dL_law_404 : decode cL_law 404 = .ok (.iaload, 1) := by decide +kernel
theorem ni_dL_law_405 : decode cL_law 405 = .ok (.iload 6, 2) := by decide +kernel
theorem ni_dL_law_407 : decode cL_law 407 = .ok (.iconst 5, 1) := by decide +kernel
theorem ni_dL_law_408 : decode cL_law 408 = .ok (.ishr, 1) := by decide +kernel
theorem ni_dL_law_409 : decode cL_law 409 = .ok (.iload 4, 2) := by decide +kernel
theorem ni_dL_law_411 : decode cL_law 411 = .ok (.invokestatic 21, 3) := by decide +kernel
theorem ni_dL_law_414 : decode cL_law 414 = .ok (.bipush 12, 2) := by decide +kernel
theorem ni_dL_law_416 : decode cL_law 416 = .ok (.ishl, 1) := by decide +kernel
theorem ni_dL_law_417 : decode cL_law 417 = .ok (.iconst 4, 1) := by decide +kernel
theorem ni_dL_law_418 : decode cL_law 418 = .ok (.iload 7, 2) := by decide +kernel
theorem ni_dL_law_420 : decode cL_law 420 = .ok (.invokevirtual 138, 3) := by decide +kernel
theorem ni_dL_law_423 : decode cL_law 423 = .ok (.pop, 1) := by decide +kernel
theorem ni_dL_law_424 : decode cL_law 424 = .ok (.goto 43, 3) := by decide +kernel
theorem ni_dL_law_427 : decode cL_law 427 = .ok (.aload_n 1, 1) := by decide +kernel
theorem ni_dL_law_428 : decode cL_law 428 = .ok (.iload 7, 2) := by decide +kernel
theorem ni_dL_law_430 : decode cL_law 430 = .ok (.iload 6, 2) := by decide +kernel
theorem ni_dL_law_432 : decode cL_law 432 = .ok (.iconst 2, 1) := by decide +kernel
theorem ni_dL_law_433 : decode cL_law 433 = .ok (.invokestatic 21, 3) := by decide +kernel
theorem ni_dL_law_436 : decode cL_law 436 = .ok (.ifCond .ne 7, 3) := by decide +kernel
theorem ni_dL_law_439 : decode cL_law 439 = .ok (.iconst 1, 1) := by decide +kernel
theorem ni_dL_law_440 : decode cL_law 440 = .ok (.goto 4, 3) := by decide +kernel
theorem ni_dL_law_443 : decode cL_law 443 = .ok (.iconst 0, 1) := by decide +kernel
theorem ni_dL_law_444 : decode cL_law 444 = .ok (.iload 6, 2) := by decide +kernel
theorem ni_dL_law_446 : decode cL_law 446 = .ok (.iconst 4, 1) := by decide +kernel
theorem ni_dL_law_447 : decode cL_law 447 = .ok (.ishr, 1) := by decide +kernel
theorem ni_dL_law_448 : decode cL_law 448 = .ok (.iconst 4, 1) := by decide +kernel
theorem ni_dL_law_449 : decode cL_law 449 = .ok (.invokestatic 21, 3) := by decide +kernel
theorem ni_dL_law_452 : decode cL_law 452 = .ok (.iconst 1, 1) := by decide +kernel
theorem ni_dL_law_453 : decode cL_law 453 = .ok (.iload 6, 2) := by decide +kernel
theorem ni_dL_law_455 : decode cL_law 455 = .ok (.bipush 6, 2) := by decide +kernel
theorem ni_dL_law_457 : decode cL_law 457 = .ok (.ishr, 1) := by decide +kernel
theorem ni_dL_law_458 : decode cL_law 458 = .ok (.iconst 4, 1) := by decide +kernel
theorem ni_dL_law_459 : decode cL_law 459 = .ok (.invokestatic 21, 3) := by decide +kernel
theorem ni_dL_law_462 : decode cL_law 462 = .ok (.iadd, 1) := by decide +kernel
theorem ni_dL_law_463 : decode cL_law 463 = .ok (.invokevirtual 141, 3) := by decide +kernel
theorem ni_dL_law_466 : decode cL_law 466 = .ok (.pop, 1) := by decide +kernel
theorem ni_dL_law_467 : decode cL_law 467 = .ok (.aload_n 1, 1) := by decide +kernel
theorem ni_dL_law_468 : decode cL_law 468 = .ok (.invokevirtual 145, 3) := by decide +kernel
theorem ni_dL_law_471 : decode cL_law 471 = .ok (.lstore 8, 2) := by decide +kernel
theorem ni_dL_law_473 : decode cL_law 473 = .ok (.iload 6, 2) := by decide +kernel
theorem ni_dL_law_475 : decode cL_law 475 = .ok (.iconst 4, 1) := by decide +kernel
theorem ni_dL_law_476 : decode cL_law 476 = .ok (.ishr, 1) := by decide +kernel
theorem ni_dL_law_477 : decode cL_law 477 = .ok (.iload 4, 2) := by decide +kernel
theorem ni_dL_law_479 : decode cL_law 479 = .ok (.invokestatic 21, 3) := by decide +kernel
theorem ni_dL_law_482 : decode cL_law 482 = .ok (.istore 10, 2) := by decide +kernel
theorem ni_dL_law_484 : decode cL_law 484 = .ok (.iconst 1, 1) := by decide +kernel
theorem ni_dL_law_485 : decode cL_law 485 = .ok (.iload 6, 2) := by decide +kernel
theorem ni_dL_law_487 : decode cL_law 487 = .ok (.bipush 7, 2) := by decide +kernel
theorem ni_dL_law_489 : decode cL_law 489 = .ok (.ishr, 1) := by decide +kernel
theorem ni_dL_law_490 : decode cL_law 490 = .ok (.bipush 6, 2) := by decide +kernel
theorem ni_dL_law_492 : decode cL_law 492 = .ok (.invokestatic 21, 3) := by decide +kernel
theorem ni_dL_law_495 : decode cL_law 495 = .ok (.iadd, 1) := by decide +kernel
theorem ni_dL_law_496 : decode cL_law 496 = .ok (.istore 11, 2) := by decide +kernel
theorem ni_dL_law_498 : decode cL_law 498 = .ok (.aload_n 1, 1) := by decide +kernel
theorem ni_dL_law_499 : decode cL_law 499 = .ok (.iload 10, 2) := by decide +kernel
theorem ni_dL_law_501 : decode cL_law 501 = .ok (.iload 11, 2) := by decide +kernel
theorem ni_dL_law_503 : decode cL_law 503 = .ok (.invokevirtual 149, 3) := by decide +kernel
theorem ni_dL_law_506 : decode cL_law 506 = .ok (.istore 12, 2) := by decide +kernel
theorem ni_dL_law_508 : decode cL_law 508 = .ok (.aload_n 1, 1) := by decide +kernel
theorem ni_dL_law_509 : decode cL_law 509 = .ok (.iload 11, 2) := by decide +kernel
theorem ni_dL_law_511 : decode cL_law 511 = .ok (.invokevirtual 152, 3) := by decide +kernel
theorem ni_dL_law_514 : decode cL_law 514 = .ok (.istore 13, 2) := by decide +kernel
theorem ni_dL_law_516 : decode cL_law 516 = .ok (.aload_n 1, 1) := by decide +kernel
theorem ni_dL_law_517 : decode cL_law 517 = .ok (.invokevirtual 145, 3) := by decide +kernel
theorem ni_dL_law_520 : decode cL_law 520 = .ok (.lload 8, 2) := by decide +kernel
theorem ni_dL_law_522 : decode cL_law 522 = .ok (.lcmp, 1) := by decide +kernel
theorem ni_dL_law_523 : decode cL_law 523 = .ok (.ifCond .ne 30, 3) := by decide +kernel
theorem ni_dL_law_526 : decode cL_law 526 = .ok (.aload_n 1, 1) := by decide +kernel
theorem ni_dL_law_527 : decode cL_law 527 = .ok (.aload_n 3, 1) := by decide +kernel
theorem ni_dL_law_528 : decode cL_law 528 = .ok (.iload 4, 2) := by decide +kernel
theorem ni_dL_law_530 : decode cL_law 530 = .ok (.invokestatic 155, 3) := by decide +kernel
theorem ni_dL_law_533 : decode cL_law 533 = .ok (.ifCond .eq 20, 3) := by decide +kernel
theorem ni_dL_law_536 : decode cL_law 536 = .ok (.aload_n 1, 1) := by decide +kernel
theorem ni_dL_law_537 : decode cL_law 537 = .ok (.invokevirtual 159, 3) := by decide +kernel
theorem ni_dL_law_540 : decode cL_law 540 = .ok (.iload 13, 2) := by decide +kernel
theorem ni_dL_law_542 : decode cL_law 542 = .ok (.ifCond .ne 7, 3) := by decide +kernel
theorem ni_dL_law_545 : decode cL_law 545 = .ok (.iconst 1, 1) := by decide +kernel
theorem ni_dL_law_546 : decode cL_law 546 = .ok (.goto 4, 3) := by decide +kernel
theorem ni_dL_law_549 : decode cL_law 549 = .ok (.iconst 0, 1) := by decide +kernel
theorem ni_dL_law_550 : decode cL_law 550 = .ok (.if_icmp .eq 5, 3) := by decide +kernel
theorem ni_dL_law_553 : decode cL_law 553 = .ok (.iconst 0, 1) := by decide +kernel
theorem ni_dL_law_554 : decode cL_law 554 = .ok (.ireturn, 1) := by decide +kernel
theorem ni_dL_law_555 : decode cL_law 555 = .ok (.aload_n 1, 1) := by decide +kernel
theorem ni_dL_law_556 : decode cL_law 556 = .ok (.invokevirtual 163, 3) := by decide +kernel
theorem ni_dL_law_559 : decode cL_law 559 = .ok (.istore 14, 2) := by decide +kernel
theorem ni_dL_law_561 : decode cL_law 561 = .ok (.aload_n 1, 1) := by decide +kernel
theorem ni_dL_law_562 : decode cL_law 562 = .ok (.iload 11, 2) := by decide +kernel
theorem ni_dL_law_564 : decode cL_law 564 = .ok (.invokevirtual 166, 3) := by decide +kernel
theorem ni_dL_law_567 : decode cL_law 567 = .ok (.iload 14, 2) := by decide +kernel
theorem ni_dL_law_569 : decode cL_law 569 = .ok (.iload 11, 2) := by decide +kernel
theorem ni_dL_law_571 : decode cL_law 571 = .ok (.iadd, 1) := by decide +kernel
theorem ni_dL_law_572 : decode cL_law 572 = .ok (.if_icmp .ne 38, 3) := by decide +kernel
theorem ni_dL_law_575 : decode cL_law 575 = .ok (.aload_n 1, 1) := by decide +kernel
theorem ni_dL_law_576 : decode cL_law 576 = .ok (.iload 10, 2) := by decide +kernel
theorem ni_dL_law_578 : decode cL_law 578 = .ok (.invokevirtual 41, 3) := by decide +kernel
theorem ni_dL_law_581 : decode cL_law 581 = .ok (.iload 12, 2) := by decide +kernel
theorem ni_dL_law_583 : decode cL_law 583 = .ok (.if_icmp .ne 27, 3) := by decide +kernel
theorem ni_dL_law_586 : decode cL_law 586 = .ok (.iload 13, 2) := by decide +kernel
theorem ni_dL_law_588 : decode cL_law 588 = .ok (.ifCond .lt 10, 3) := by decide +kernel
theorem ni_dL_law_591 : decode cL_law 591 = .ok (.aload_n 1, 1) := by decide +kernel
theorem ni_dL_law_592 : decode cL_law 592 = .ok (.invokevirtual 159, 3) := by decide +kernel
theorem ni_dL_law_595 : decode cL_law 595 = .ok (.ifCond .eq 15, 3) := by decide +kernel
theorem ni_dL_law_598 : decode cL_law 598 = .ok (.iload 13, 2) := by decide +kernel
theorem ni_dL_law_600 : decode cL_law 600 = .ok (.ifCond .ge 12, 3) := by decide +kernel
theorem ni_dL_law_603 : decode cL_law 603 = .ok (.aload_n 1, 1) := by decide +kernel
theorem ni_dL_law_604 : decode cL_law 604 = .ok (.invokevirtual 159, 3) := by decide +kernel
theorem ni_dL_law_607 : decode cL_law 607 = .ok (.ifCond .eq 5, 3) := by decide +kernel
theorem ni_dL_law_610 : decode cL_law 610 = .ok (.iconst 0, 1) := by decide +kernel
theorem ni_dL_law_611 : decode cL_law 611 = .ok (.ireturn, 1) := by decide +kernel
theorem ni_dL_law_612 : decode cL_law 612 = .ok (.iinc 5 1, 3) := by decide +kernel
theorem ni_dL_law_615 : decode cL_law 615 = .ok (.goto (-398), 3) := by decide +kernel
theorem ni_dL_law_618 : decode cL_law 618 = .ok (.aload_n 1, 1) := by decide +kernel
theorem ni_dL_law_619 : decode cL_law 619 = .ok (.aload_n 3, 1) := by decide +kernel
theorem ni_dL_law_620 : decode cL_law 620 = .ok (.iload 4, 2) := by decide +kernel
theorem ni_dL_law_622 : decode cL_law 622 = .ok (.invokestatic 155, 3) := by decide +kernel
theorem ni_dL_law_625 : decode cL_law 625 = .ok (.ireturn, 1) := by decide +kernel
