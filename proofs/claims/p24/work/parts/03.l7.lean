theorem dL_step_399 : decode cL_step 399 = .ok (.ifCond .eq 14, 3) := by decide +kernel
theorem dL_step_402 : decode cL_step 402 = .ok (.aload 5, 2) := by decide +kernel
theorem dL_step_404 : decode cL_step 404 = .ok (.iload 8, 2) := by decide +kernel
theorem dL_step_406 : decode cL_step 406 = .ok (.iaload, 1) := by decide +kernel
theorem dL_step_407 : decode cL_step 407 = .ok (.bipush 31, 2) := by decide +kernel
theorem dL_step_409 : decode cL_step 409 = .ok (.iand, 1) := by decide +kernel
theorem dL_step_410 : decode cL_step 410 = .ok (.goto 5, 3) := by decide +kernel
theorem dL_step_413 : decode cL_step 413 = .ok (.bipush (-7), 2) := by decide +kernel
theorem dL_step_415 : decode cL_step 415 = .ok (.istore 10, 2) := by decide +kernel
theorem dL_step_417 : decode cL_step 417 = .ok (.aload 5, 2) := by decide +kernel
theorem dL_step_419 : decode cL_step 419 = .ok (.iload 8, 2) := by decide +kernel
theorem dL_step_421 : decode cL_step 421 = .ok (.bipush 24, 2) := by decide +kernel
theorem dL_step_423 : decode cL_step 423 = .ok (.irem, 1) := by decide +kernel
theorem dL_step_424 : decode cL_step 424 = .ok (.dup2, 1) := by decide +kernel
theorem dL_step_425 : decode cL_step 425 = .ok (.iaload, 1) := by decide +kernel
theorem dL_step_426 : decode cL_step 426 = .ok (.iload 9, 2) := by decide +kernel
theorem dL_step_428 : decode cL_step 428 = .ok (.ifCond .eq 8, 3) := by decide +kernel
theorem dL_step_431 : decode cL_step 431 = .ok (.ldc 111, 2) := by decide +kernel
theorem dL_step_433 : decode cL_step 433 = .ok (.goto 4, 3) := by decide +kernel
theorem dL_step_436 : decode cL_step 436 = .ok (.iconst 0, 1) := by decide +kernel
theorem dL_step_437 : decode cL_step 437 = .ok (.ior, 1) := by decide +kernel
theorem dL_step_438 : decode cL_step 438 = .ok (.iastore, 1) := by decide +kernel
theorem dL_step_439 : decode cL_step 439 = .ok (.aload_n 0, 1) := by decide +kernel
theorem dL_step_440 : decode cL_step 440 = .ok (.iload 8, 2) := by decide +kernel
theorem dL_step_442 : decode cL_step 442 = .ok (.invokestatic 112, 3) := by decide +kernel
theorem dL_step_445 : decode cL_step 445 = .ok (.iload 10, 2) := by decide +kernel
theorem dL_step_447 : decode cL_step 447 = .ok (.if_icmp .ne 7, 3) := by decide +kernel
theorem dL_step_450 : decode cL_step 450 = .ok (.iconst 1, 1) := by decide +kernel
theorem dL_step_451 : decode cL_step 451 = .ok (.goto 4, 3) := by decide +kernel
theorem dL_step_454 : decode cL_step 454 = .ok (.iconst 0, 1) := by decide +kernel
theorem dL_step_455 : decode cL_step 455 = .ok (.ireturn, 1) := by decide +kernel
theorem dL_step_456 : decode cL_step 456 = .ok (.iload_n 1, 1) := by decide +kernel
theorem dL_step_457 : decode cL_step 457 = .ok (.bipush 7, 2) := by decide +kernel
theorem dL_step_459 : decode cL_step 459 = .ok (.if_icmp .ne 150, 3) := by decide +kernel
theorem dL_step_462 : decode cL_step 462 = .ok (.iconst 4, 1) := by decide +kernel
theorem dL_step_463 : decode cL_step 463 = .ok (.iload_n 2, 1) := by decide +kernel
theorem dL_step_464 : decode cL_step 464 = .ok (.bipush 14, 2) := by decide +kernel
theorem dL_step_466 : decode cL_step 466 = .ok (.irem, 1) := by decide +kernel
theorem dL_step_467 : decode cL_step 467 = .ok (.iadd, 1) := by decide +kernel
theorem dL_step_468 : decode cL_step 468 = .ok (.istore 8, 2) := by decide +kernel
theorem dL_step_470 : decode cL_step 470 = .ok (.iconst 1, 1) := by decide +kernel
theorem dL_step_471 : decode cL_step 471 = .ok (.iload_n 3, 1) := by decide +kernel
theorem dL_step_472 : decode cL_step 472 = .ok (.iload_n 2, 1) := by decide +kernel
theorem dL_step_473 : decode cL_step 473 = .ok (.iconst 3, 1) := by decide +kernel
theorem dL_step_474 : decode cL_step 474 = .ok (.irem, 1) := by decide +kernel
theorem dL_step_475 : decode cL_step 475 = .ok (.ifCond .ne 8, 3) := by decide +kernel
theorem dL_step_478 : decode cL_step 478 = .ok (.bipush 40, 2) := by decide +kernel
theorem dL_step_480 : decode cL_step 480 = .ok (.goto 5, 3) := by decide +kernel
theorem dL_step_483 : decode cL_step 483 = .ok (.bipush 20, 2) := by decide +kernel
theorem dL_step_485 : decode cL_step 485 = .ok (.irem, 1) := by decide +kernel
theorem dL_step_486 : decode cL_step 486 = .ok (.iadd, 1) := by decide +kernel
theorem dL_step_487 : decode cL_step 487 = .ok (.istore 9, 2) := by decide +kernel
theorem dL_step_489 : decode cL_step 489 = .ok (.iconst 1, 1) := by decide +kernel
theorem dL_step_490 : decode cL_step 490 = .ok (.istore 10, 2) := by decide +kernel
theorem dL_step_492 : decode cL_step 492 = .ok (.iconst 0, 1) := by decide +kernel
theorem dL_step_493 : decode cL_step 493 = .ok (.istore 11, 2) := by decide +kernel
theorem dL_step_495 : decode cL_step 495 = .ok (.iload 11, 2) := by decide +kernel
theorem dL_step_497 : decode cL_step 497 = .ok (.aload 6, 2) := by decide +kernel
theorem dL_step_499 : decode cL_step 499 = .ok (.iconst 1, 1) := by decide +kernel
theorem dL_step_500 : decode cL_step 500 = .ok (.iaload, 1) := by decide +kernel
theorem dL_step_501 : decode cL_step 501 = .ok (.if_icmp .ge 44, 3) := by decide +kernel
theorem dL_step_504 : decode cL_step 504 = .ok (.iload 10, 2) := by decide +kernel
theorem dL_step_506 : decode cL_step 506 = .ok (.ifCond .eq 30, 3) := by decide +kernel
theorem dL_step_509 : decode cL_step 509 = .ok (.aload 5, 2) := by decide +kernel
theorem dL_step_511 : decode cL_step 511 = .ok (.iload 11, 2) := by decide +kernel
theorem dL_step_513 : decode cL_step 513 = .ok (.invokestatic 10, 3) := by decide +kernel
theorem dL_step_516 : decode cL_step 516 = .ok (.ifCond .ne 16, 3) := by decide +kernel
theorem dL_step_519 : decode cL_step 519 = .ok (.aload 5, 2) := by decide +kernel
theorem dL_step_521 : decode cL_step 521 = .ok (.iload 11, 2) := by decide +kernel
theorem dL_step_523 : decode cL_step 523 = .ok (.iaload, 1) := by decide +kernel
theorem dL_step_524 : decode cL_step 524 = .ok (.bipush 31, 2) := by decide +kernel
theorem dL_step_526 : decode cL_step 526 = .ok (.iand, 1) := by decide +kernel
theorem dL_step_527 : decode cL_step 527 = .ok (.iload 8, 2) := by decide +kernel
theorem dL_step_529 : decode cL_step 529 = .ok (.if_icmp .ge 7, 3) := by decide +kernel
theorem dL_step_532 : decode cL_step 532 = .ok (.iconst 1, 1) := by decide +kernel
theorem dL_step_533 : decode cL_step 533 = .ok (.goto 4, 3) := by decide +kernel
theorem dL_step_536 : decode cL_step 536 = .ok (.iconst 0, 1) := by decide +kernel
theorem dL_step_537 : decode cL_step 537 = .ok (.istore 10, 2) := by decide +kernel
theorem dL_step_539 : decode cL_step 539 = .ok (.iinc 11 1, 3) := by decide +kernel
theorem dL_step_542 : decode cL_step 542 = .ok (.goto (-47), 3) := by decide +kernel
theorem dL_step_545 : decode cL_step 545 = .ok (.aload 6, 2) := by decide +kernel
theorem dL_step_547 : decode cL_step 547 = .ok (.iconst 2, 1) := by decide +kernel
theorem dL_step_548 : decode cL_step 548 = .ok (.iload 10, 2) := by decide +kernel
theorem dL_step_550 : decode cL_step 550 = .ok (.ifCond .eq 8, 3) := by decide +kernel
theorem dL_step_553 : decode cL_step 553 = .ok (.iload 8, 2) := by decide +kernel
theorem dL_step_555 : decode cL_step 555 = .ok (.goto 7, 3) := by decide +kernel
theorem dL_step_558 : decode cL_step 558 = .ok (.aload 6, 2) := by decide +kernel
theorem dL_step_560 : decode cL_step 560 = .ok (.iconst 2, 1) := by decide +kernel
theorem dL_step_561 : decode cL_step 561 = .ok (.iaload, 1) := by decide +kernel
theorem dL_step_562 : decode cL_step 562 = .ok (.iastore, 1) := by decide +kernel
theorem dL_step_563 : decode cL_step 563 = .ok (.aload 6, 2) := by decide +kernel
theorem dL_step_565 : decode cL_step 565 = .ok (.iconst 3, 1) := by decide +kernel
theorem dL_step_566 : decode cL_step 566 = .ok (.iload 10, 2) := by decide +kernel
theorem dL_step_568 : decode cL_step 568 = .ok (.ifCond .eq 8, 3) := by decide +kernel
theorem dL_step_571 : decode cL_step 571 = .ok (.iload 9, 2) := by decide +kernel
theorem dL_step_573 : decode cL_step 573 = .ok (.goto 7, 3) := by decide +kernel
theorem dL_step_576 : decode cL_step 576 = .ok (.aload 6, 2) := by decide +kernel
theorem dL_step_578 : decode cL_step 578 = .ok (.iconst 3, 1) := by decide +kernel
theorem dL_step_579 : decode cL_step 579 = .ok (.iaload, 1) := by decide +kernel
theorem dL_step_580 : decode cL_step 580 = .ok (.iastore, 1) := by decide +kernel
theorem dL_step_581 : decode cL_step 581 = .ok (.aload_n 0, 1) := by decide +kernel
theorem dL_step_582 : decode cL_step 582 = .ok (.iload 8, 2) := by decide +kernel
theorem dL_step_584 : decode cL_step 584 = .ok (.iload 9, 2) := by decide +kernel
theorem dL_step_586 : decode cL_step 586 = .ok (.invokestatic 115, 3) := by decide +kernel
theorem dL_step_589 : decode cL_step 589 = .ok (.iload 10, 2) := by decide +kernel
theorem dL_step_591 : decode cL_step 591 = .ok (.ifCond .eq 7, 3) := by decide +kernel
theorem dL_step_594 : decode cL_step 594 = .ok (.iconst 0, 1) := by decide +kernel
theorem dL_step_595 : decode cL_step 595 = .ok (.goto 5, 3) := by decide +kernel
theorem dL_step_598 : decode cL_step 598 = .ok (.bipush (-8), 2) := by decide +kernel
theorem dL_step_600 : decode cL_step 600 = .ok (.if_icmp .ne 7, 3) := by decide +kernel
theorem dL_step_603 : decode cL_step 603 = .ok (.iconst 1, 1) := by decide +kernel
theorem dL_step_604 : decode cL_step 604 = .ok (.goto 4, 3) := by decide +kernel
theorem dL_step_607 : decode cL_step 607 = .ok (.iconst 0, 1) := by decide +kernel
theorem dL_step_608 : decode cL_step 608 = .ok (.ireturn, 1) := by decide +kernel
theorem dL_step_609 : decode cL_step 609 = .ok (.iload_n 1, 1) := by decide +kernel
theorem dL_step_610 : decode cL_step 610 = .ok (.bipush 8, 2) := by decide +kernel
theorem dL_step_612 : decode cL_step 612 = .ok (.if_icmp .ne 40, 3) := by decide +kernel
theorem dL_step_615 : decode cL_step 615 = .ok (.aload 6, 2) := by decide +kernel
theorem dL_step_617 : decode cL_step 617 = .ok (.iconst 4, 1) := by decide +kernel
theorem dL_step_618 : decode cL_step 618 = .ok (.iaload, 1) := by decide +kernel
theorem dL_step_619 : decode cL_step 619 = .ok (.istore 8, 2) := by decide +kernel
theorem dL_step_621 : decode cL_step 621 = .ok (.aload 6, 2) := by decide +kernel
theorem dL_step_623 : decode cL_step 623 = .ok (.iconst 4, 1) := by decide +kernel
theorem dL_step_624 : decode cL_step 624 = .ok (.bipush 50, 2) := by decide +kernel
theorem dL_step_626 : decode cL_step 626 = .ok (.iload_n 2, 1) := by decide +kernel
theorem dL_step_627 : decode cL_step 627 = .ok (.sipush 151, 3) := by decide +kernel
theorem dL_step_630 : decode cL_step 630 = .ok (.irem, 1) := by decide +kernel
theorem dL_step_631 : decode cL_step 631 = .ok (.iadd, 1) := by decide +kernel
theorem dL_step_632 : decode cL_step 632 = .ok (.iastore, 1) := by decide +kernel
