theorem d_Law_law_484 : decode code 484 = .ok (.iload 4, 2) := by decide +kernel
theorem d_Law_law_486 : decode code 486 = .ok (.iconst 1, 1) := by decide +kernel
theorem d_Law_law_487 : decode code 487 = .ok (.iadd, 1) := by decide +kernel
theorem d_Law_law_488 : decode code 488 = .ok (.iaload, 1) := by decide +kernel
theorem d_Law_law_489 : decode code 489 = .ok (.aload_n 0, 1) := by decide +kernel
theorem d_Law_law_490 : decode code 490 = .ok (.iload 4, 2) := by decide +kernel
theorem d_Law_law_492 : decode code 492 = .ok (.iconst 2, 1) := by decide +kernel
theorem d_Law_law_493 : decode code 493 = .ok (.iadd, 1) := by decide +kernel
theorem d_Law_law_494 : decode code 494 = .ok (.iaload, 1) := by decide +kernel
theorem d_Law_law_495 : decode code 495 = .ok (.aload_n 0, 1) := by decide +kernel
theorem d_Law_law_496 : decode code 496 = .ok (.iload 4, 2) := by decide +kernel
theorem d_Law_law_498 : decode code 498 = .ok (.iconst 3, 1) := by decide +kernel
theorem d_Law_law_499 : decode code 499 = .ok (.iadd, 1) := by decide +kernel
theorem d_Law_law_500 : decode code 500 = .ok (.iaload, 1) := by decide +kernel
theorem d_Law_law_501 : decode code 501 = .ok (.invokevirtual 80, 3) := by decide +kernel
theorem d_Law_law_504 : decode code 504 = .ok (.istore 6, 2) := by decide +kernel
theorem d_Law_law_506 : decode code 506 = .ok (.aload_n 2, 1) := by decide +kernel
theorem d_Law_law_507 : decode code 507 = .ok (.invokevirtual 75, 3) := by decide +kernel
theorem d_Law_law_510 : decode code 510 = .ok (.iload 5, 2) := by decide +kernel
theorem d_Law_law_512 : decode code 512 = .ok (.if_icmp .eq 5, 3) := by decide +kernel
theorem d_Law_law_515 : decode code 515 = .ok (.iconst 0, 1) := by decide +kernel
theorem d_Law_law_517 : decode code 517 = .ok (.iload 5, 2) := by decide +kernel
theorem d_Law_law_519 : decode code 519 = .ok (.ifCond .ne 15, 3) := by decide +kernel
theorem d_Law_law_522 : decode code 522 = .ok (.aload_n 3, 1) := by decide +kernel
theorem d_Law_law_523 : decode code 523 = .ok (.iconst 0, 1) := by decide +kernel
theorem d_Law_law_524 : decode code 524 = .ok (.laload, 1) := by decide +kernel
theorem d_Law_law_525 : decode code 525 = .ok (.iload 6, 2) := by decide +kernel
theorem d_Law_law_527 : decode code 527 = .ok (.i2l, 1) := by decide +kernel
theorem d_Law_law_528 : decode code 528 = .ok (.lcmp, 1) := by decide +kernel
theorem d_Law_law_529 : decode code 529 = .ok (.ifCond .eq 5, 3) := by decide +kernel
theorem d_Law_law_532 : decode code 532 = .ok (.iconst 0, 1) := by decide +kernel
theorem d_Law_law_534 : decode code 534 = .ok (.goto 263, 3) := by decide +kernel
theorem d_Law_law_537 : decode code 537 = .ok (.aload_n 1, 1) := by decide +kernel
theorem d_Law_law_538 : decode code 538 = .ok (.aload_n 0, 1) := by decide +kernel
theorem d_Law_law_539 : decode code 539 = .ok (.iload 4, 2) := by decide +kernel
theorem d_Law_law_541 : decode code 541 = .ok (.iconst 1, 1) := by decide +kernel
theorem d_Law_law_542 : decode code 542 = .ok (.iadd, 1) := by decide +kernel
theorem d_Law_law_543 : decode code 543 = .ok (.iaload, 1) := by decide +kernel
theorem d_Law_law_544 : decode code 544 = .ok (.aload_n 0, 1) := by decide +kernel
theorem d_Law_law_545 : decode code 545 = .ok (.iload 4, 2) := by decide +kernel
theorem d_Law_law_547 : decode code 547 = .ok (.iconst 2, 1) := by decide +kernel
theorem d_Law_law_548 : decode code 548 = .ok (.iadd, 1) := by decide +kernel
theorem d_Law_law_549 : decode code 549 = .ok (.iaload, 1) := by decide +kernel
theorem d_Law_law_550 : decode code 550 = .ok (.invokevirtual 81, 3) := by decide +kernel
theorem d_Law_law_553 : decode code 553 = .ok (.aload_n 2, 1) := by decide +kernel
theorem d_Law_law_554 : decode code 554 = .ok (.aload_n 0, 1) := by decide +kernel
theorem d_Law_law_555 : decode code 555 = .ok (.iload 4, 2) := by decide +kernel
theorem d_Law_law_557 : decode code 557 = .ok (.iconst 1, 1) := by decide +kernel
theorem d_Law_law_558 : decode code 558 = .ok (.iadd, 1) := by decide +kernel
theorem d_Law_law_559 : decode code 559 = .ok (.iaload, 1) := by decide +kernel
theorem d_Law_law_560 : decode code 560 = .ok (.aload_n 0, 1) := by decide +kernel
theorem d_Law_law_561 : decode code 561 = .ok (.iload 4, 2) := by decide +kernel
theorem d_Law_law_563 : decode code 563 = .ok (.iconst 2, 1) := by decide +kernel
theorem d_Law_law_564 : decode code 564 = .ok (.iadd, 1) := by decide +kernel
theorem d_Law_law_565 : decode code 565 = .ok (.iaload, 1) := by decide +kernel
theorem d_Law_law_566 : decode code 566 = .ok (.invokevirtual 85, 3) := by decide +kernel
theorem d_Law_law_569 : decode code 569 = .ok (.if_icmp .eq 228, 3) := by decide +kernel
theorem d_Law_law_572 : decode code 572 = .ok (.iconst 0, 1) := by decide +kernel
theorem d_Law_law_574 : decode code 574 = .ok (.aload_n 1, 1) := by decide +kernel
theorem d_Law_law_575 : decode code 575 = .ok (.aload_n 0, 1) := by decide +kernel
theorem d_Law_law_576 : decode code 576 = .ok (.iload 4, 2) := by decide +kernel
theorem d_Law_law_578 : decode code 578 = .ok (.iconst 1, 1) := by decide +kernel
theorem d_Law_law_579 : decode code 579 = .ok (.iadd, 1) := by decide +kernel
theorem d_Law_law_580 : decode code 580 = .ok (.iaload, 1) := by decide +kernel
theorem d_Law_law_581 : decode code 581 = .ok (.aload_n 0, 1) := by decide +kernel
theorem d_Law_law_582 : decode code 582 = .ok (.iload 4, 2) := by decide +kernel
theorem d_Law_law_584 : decode code 584 = .ok (.iconst 2, 1) := by decide +kernel
theorem d_Law_law_585 : decode code 585 = .ok (.iadd, 1) := by decide +kernel
theorem d_Law_law_586 : decode code 586 = .ok (.iaload, 1) := by decide +kernel
theorem d_Law_law_587 : decode code 587 = .ok (.invokevirtual 86, 3) := by decide +kernel
theorem d_Law_law_590 : decode code 590 = .ok (.aload_n 2, 1) := by decide +kernel
theorem d_Law_law_591 : decode code 591 = .ok (.aload_n 0, 1) := by decide +kernel
theorem d_Law_law_592 : decode code 592 = .ok (.iload 4, 2) := by decide +kernel
theorem d_Law_law_594 : decode code 594 = .ok (.iconst 1, 1) := by decide +kernel
theorem d_Law_law_595 : decode code 595 = .ok (.iadd, 1) := by decide +kernel
theorem d_Law_law_596 : decode code 596 = .ok (.iaload, 1) := by decide +kernel
theorem d_Law_law_597 : decode code 597 = .ok (.aload_n 0, 1) := by decide +kernel
theorem d_Law_law_598 : decode code 598 = .ok (.iload 4, 2) := by decide +kernel
theorem d_Law_law_600 : decode code 600 = .ok (.iconst 2, 1) := by decide +kernel
theorem d_Law_law_601 : decode code 601 = .ok (.iadd, 1) := by decide +kernel
theorem d_Law_law_602 : decode code 602 = .ok (.iaload, 1) := by decide +kernel
theorem d_Law_law_603 : decode code 603 = .ok (.invokevirtual 89, 3) := by decide +kernel
theorem d_Law_law_606 : decode code 606 = .ok (.if_icmp .eq 191, 3) := by decide +kernel
theorem d_Law_law_609 : decode code 609 = .ok (.iconst 0, 1) := by decide +kernel
theorem d_Law_law_611 : decode code 611 = .ok (.aload_n 1, 1) := by decide +kernel
theorem d_Law_law_612 : decode code 612 = .ok (.aload_n 0, 1) := by decide +kernel
