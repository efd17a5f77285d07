/-! What each instruction of the law is. -/
theorem d_W_453 : decode code 453 = .ok (.invokevirtual 74, 3) := by decide +kernel
theorem d_W_456 : decode code 456 = .ok (.iload 5, 2) := by decide +kernel
theorem d_W_458 : decode code 458 = .ok (.if_icmp .eq 5, 3) := by decide +kernel
theorem d_W_461 : decode code 461 = .ok (.iconst 0, 1) := by decide +kernel
theorem d_W_462 : decode code 462 = .ok (.ireturn, 1) := by decide +kernel
theorem d_W_463 : decode code 463 = .ok (.iload 5, 2) := by decide +kernel
theorem d_W_465 : decode code 465 = .ok (.ifCond .ne 22, 3) := by decide +kernel
theorem d_W_468 : decode code 468 = .ok (.aload_n 3, 1) := by decide +kernel
theorem d_W_469 : decode code 469 = .ok (.iconst 0, 1) := by decide +kernel
theorem d_W_470 : decode code 470 = .ok (.laload, 1) := by decide +kernel
theorem d_W_471 : decode code 471 = .ok (.iload 6, 2) := by decide +kernel
theorem d_W_473 : decode code 473 = .ok (.ifCond .eq 7, 3) := by decide +kernel
theorem d_W_476 : decode code 476 = .ok (.lconst 1, 1) := by decide +kernel
theorem d_W_477 : decode code 477 = .ok (.goto 4, 3) := by decide +kernel
theorem d_W_480 : decode code 480 = .ok (.lconst 0, 1) := by decide +kernel
theorem d_W_481 : decode code 481 = .ok (.lcmp, 1) := by decide +kernel
theorem d_W_482 : decode code 482 = .ok (.ifCond .eq 5, 3) := by decide +kernel
theorem d_W_485 : decode code 485 = .ok (.iconst 0, 1) := by decide +kernel
theorem d_W_486 : decode code 486 = .ok (.ireturn, 1) := by decide +kernel
theorem d_W_487 : decode code 487 = .ok (.goto 354, 3) := by decide +kernel
theorem d_W_490 : decode code 490 = .ok (.aload_n 1, 1) := by decide +kernel
theorem d_W_491 : decode code 491 = .ok (.aload_n 0, 1) := by decide +kernel
theorem d_W_492 : decode code 492 = .ok (.iload 4, 2) := by decide +kernel
theorem d_W_494 : decode code 494 = .ok (.iconst 1, 1) := by decide +kernel
theorem d_W_495 : decode code 495 = .ok (.iadd, 1) := by decide +kernel
theorem d_W_496 : decode code 496 = .ok (.iaload, 1) := by decide +kernel
theorem d_W_497 : decode code 497 = .ok (.invokestatic 101, 3) := by decide +kernel
theorem d_W_500 : decode code 500 = .ok (.istore 5, 2) := by decide +kernel
theorem d_W_502 : decode code 502 = .ok (.aload_n 2, 1) := by decide +kernel
theorem d_W_503 : decode code 503 = .ok (.aload_n 0, 1) := by decide +kernel
theorem d_W_504 : decode code 504 = .ok (.iload 4, 2) := by decide +kernel
theorem d_W_506 : decode code 506 = .ok (.iconst 1, 1) := by decide +kernel
theorem d_W_507 : decode code 507 = .ok (.iadd, 1) := by decide +kernel
theorem d_W_508 : decode code 508 = .ok (.iaload, 1) := by decide +kernel
theorem d_W_509 : decode code 509 = .ok (.invokevirtual 103, 3) := by decide +kernel
theorem d_W_512 : decode code 512 = .ok (.aload_n 2, 1) := by decide +kernel
theorem d_W_513 : decode code 513 = .ok (.invokevirtual 74, 3) := by decide +kernel
theorem d_W_516 : decode code 516 = .ok (.iload 5, 2) := by decide +kernel
theorem d_W_518 : decode code 518 = .ok (.if_icmp .eq 5, 3) := by decide +kernel
theorem d_W_521 : decode code 521 = .ok (.iconst 0, 1) := by decide +kernel
theorem d_W_522 : decode code 522 = .ok (.ireturn, 1) := by decide +kernel
theorem d_W_523 : decode code 523 = .ok (.goto 318, 3) := by decide +kernel
theorem d_W_526 : decode code 526 = .ok (.aload_n 1, 1) := by decide +kernel
theorem d_W_527 : decode code 527 = .ok (.aload_n 0, 1) := by decide +kernel
theorem d_W_528 : decode code 528 = .ok (.iload 4, 2) := by decide +kernel
theorem d_W_530 : decode code 530 = .ok (.iconst 1, 1) := by decide +kernel
theorem d_W_531 : decode code 531 = .ok (.iadd, 1) := by decide +kernel
theorem d_W_532 : decode code 532 = .ok (.iaload, 1) := by decide +kernel
theorem d_W_533 : decode code 533 = .ok (.aload_n 0, 1) := by decide +kernel
theorem d_W_534 : decode code 534 = .ok (.iload 4, 2) := by decide +kernel
theorem d_W_536 : decode code 536 = .ok (.iconst 2, 1) := by decide +kernel
theorem d_W_537 : decode code 537 = .ok (.iadd, 1) := by decide +kernel
theorem d_W_538 : decode code 538 = .ok (.iaload, 1) := by decide +kernel
theorem d_W_539 : decode code 539 = .ok (.i2l, 1) := by decide +kernel
theorem d_W_540 : decode code 540 = .ok (.bipush 32, 2) := by decide +kernel
theorem d_W_542 : decode code 542 = .ok (.lshl, 1) := by decide +kernel
theorem d_W_543 : decode code 543 = .ok (.aload_n 0, 1) := by decide +kernel
theorem d_W_544 : decode code 544 = .ok (.iload 4, 2) := by decide +kernel
theorem d_W_546 : decode code 546 = .ok (.iconst 3, 1) := by decide +kernel
theorem d_W_547 : decode code 547 = .ok (.iadd, 1) := by decide +kernel
theorem d_W_548 : decode code 548 = .ok (.iaload, 1) := by decide +kernel
theorem d_W_549 : decode code 549 = .ok (.i2l, 1) := by decide +kernel
theorem d_W_550 : decode code 550 = .ok (.ldc2_w 82, 3) := by decide +kernel
theorem d_W_553 : decode code 553 = .ok (.land, 1) := by decide +kernel
theorem d_W_554 : decode code 554 = .ok (.lor, 1) := by decide +kernel
theorem d_W_555 : decode code 555 = .ok (.invokestatic 104, 3) := by decide +kernel
theorem d_W_558 : decode code 558 = .ok (.istore 5, 2) := by decide +kernel
theorem d_W_560 : decode code 560 = .ok (.aload_n 2, 1) := by decide +kernel
theorem d_W_561 : decode code 561 = .ok (.aload_n 0, 1) := by decide +kernel
theorem d_W_562 : decode code 562 = .ok (.iload 4, 2) := by decide +kernel
theorem d_W_564 : decode code 564 = .ok (.iconst 1, 1) := by decide +kernel
theorem d_W_565 : decode code 565 = .ok (.iadd, 1) := by decide +kernel
theorem d_W_566 : decode code 566 = .ok (.iaload, 1) := by decide +kernel
theorem d_W_567 : decode code 567 = .ok (.aload_n 0, 1) := by decide +kernel
theorem d_W_568 : decode code 568 = .ok (.iload 4, 2) := by decide +kernel
theorem d_W_570 : decode code 570 = .ok (.iconst 2, 1) := by decide +kernel
theorem d_W_571 : decode code 571 = .ok (.iadd, 1) := by decide +kernel
theorem d_W_572 : decode code 572 = .ok (.iaload, 1) := by decide +kernel
theorem d_W_573 : decode code 573 = .ok (.i2l, 1) := by decide +kernel
theorem d_W_574 : decode code 574 = .ok (.bipush 32, 2) := by decide +kernel
theorem d_W_576 : decode code 576 = .ok (.lshl, 1) := by decide +kernel
theorem d_W_577 : decode code 577 = .ok (.aload_n 0, 1) := by decide +kernel
theorem d_W_578 : decode code 578 = .ok (.iload 4, 2) := by decide +kernel
theorem d_W_580 : decode code 580 = .ok (.iconst 3, 1) := by decide +kernel
theorem d_W_581 : decode code 581 = .ok (.iadd, 1) := by decide +kernel
theorem d_W_582 : decode code 582 = .ok (.iaload, 1) := by decide +kernel
theorem d_W_583 : decode code 583 = .ok (.i2l, 1) := by decide +kernel
theorem d_W_584 : decode code 584 = .ok (.ldc2_w 82, 3) := by decide +kernel
theorem d_W_587 : decode code 587 = .ok (.land, 1) := by decide +kernel
theorem d_W_588 : decode code 588 = .ok (.lor, 1) := by decide +kernel
theorem d_W_589 : decode code 589 = .ok (.invokevirtual 107, 3) := by decide +kernel
theorem d_W_592 : decode code 592 = .ok (.aload_n 2, 1) := by decide +kernel
theorem d_W_593 : decode code 593 = .ok (.invokevirtual 74, 3) := by decide +kernel
theorem d_W_596 : decode code 596 = .ok (.iload 5, 2) := by decide +kernel
theorem d_W_598 : decode code 598 = .ok (.if_icmp .eq 5, 3) := by decide +kernel
theorem d_W_601 : decode code 601 = .ok (.iconst 0, 1) := by decide +kernel
theorem d_W_602 : decode code 602 = .ok (.ireturn, 1) := by decide +kernel
theorem d_W_603 : decode code 603 = .ok (.goto 238, 3) := by decide +kernel
theorem d_W_606 : decode code 606 = .ok (.aload_n 1, 1) := by decide +kernel
theorem d_W_607 : decode code 607 = .ok (.aload_n 0, 1) := by decide +kernel
theorem d_W_608 : decode code 608 = .ok (.iload 4, 2) := by decide +kernel
theorem d_W_610 : decode code 610 = .ok (.iconst 1, 1) := by decide +kernel
theorem d_W_611 : decode code 611 = .ok (.iadd, 1) := by decide +kernel
theorem d_W_612 : decode code 612 = .ok (.iaload, 1) := by decide +kernel
theorem d_W_613 : decode code 613 = .ok (.aload_n 3, 1) := by decide +kernel
theorem d_W_614 : decode code 614 = .ok (.invokestatic 108, 3) := by decide +kernel
theorem d_W_617 : decode code 617 = .ok (.istore 5, 2) := by decide +kernel
theorem d_W_619 : decode code 619 = .ok (.aload_n 2, 1) := by decide +kernel
theorem d_W_620 : decode code 620 = .ok (.aload_n 0, 1) := by decide +kernel
theorem d_W_621 : decode code 621 = .ok (.iload 4, 2) := by decide +kernel
theorem d_W_623 : decode code 623 = .ok (.iconst 1, 1) := by decide +kernel
theorem d_W_624 : decode code 624 = .ok (.iadd, 1) := by decide +kernel
theorem d_W_625 : decode code 625 = .ok (.iaload, 1) := by decide +kernel
theorem d_W_626 : decode code 626 = .ok (.invokevirtual 110, 3) := by decide +kernel
theorem d_W_629 : decode code 629 = .ok (.lstore 6, 2) := by decide +kernel
theorem d_W_631 : decode code 631 = .ok (.aload_n 2, 1) := by decide +kernel
theorem d_W_632 : decode code 632 = .ok (.invokevirtual 74, 3) := by decide +kernel
theorem d_W_635 : decode code 635 = .ok (.iload 5, 2) := by decide +kernel
theorem d_W_637 : decode code 637 = .ok (.if_icmp .eq 5, 3) := by decide +kernel
theorem d_W_640 : decode code 640 = .ok (.iconst 0, 1) := by decide +kernel
theorem d_W_641 : decode code 641 = .ok (.ireturn, 1) := by decide +kernel
theorem d_W_642 : decode code 642 = .ok (.iload 5, 2) := by decide +kernel
theorem d_W_644 : decode code 644 = .ok (.ifCond .ne 14, 3) := by decide +kernel
theorem d_W_647 : decode code 647 = .ok (.aload_n 3, 1) := by decide +kernel
theorem d_W_648 : decode code 648 = .ok (.iconst 0, 1) := by decide +kernel
theorem d_W_649 : decode code 649 = .ok (.laload, 1) := by decide +kernel
theorem d_W_650 : decode code 650 = .ok (.lload 6, 2) := by decide +kernel
