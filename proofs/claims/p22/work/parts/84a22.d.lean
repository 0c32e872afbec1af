theorem dL_areSound_481 : decode cL_areSound 481 = .ok (.lload 21, 2) := by decide +kernel
theorem dL_areSound_483 : decode cL_areSound 483 = .ok (.lload 13, 2) := by decide +kernel
theorem dL_areSound_485 : decode cL_areSound 485 = .ok (.lcmp, 1) := by decide +kernel
theorem dL_areSound_486 : decode cL_areSound 486 = .ok (.ifCond .gt 97, 3) := by decide +kernel
theorem dL_areSound_489 : decode cL_areSound 489 = .ok (.lload 21, 2) := by decide +kernel
theorem dL_areSound_491 : decode cL_areSound 491 = .ok (.lload 13, 2) := by decide +kernel
theorem dL_areSound_493 : decode cL_areSound 493 = .ok (.lcmp, 1) := by decide +kernel
theorem dL_areSound_494 : decode cL_areSound 494 = .ok (.ifCond .lt 10, 3) := by decide +kernel
theorem dL_areSound_497 : decode cL_areSound 497 = .ok (.iload 15, 2) := by decide +kernel
theorem dL_areSound_499 : decode cL_areSound 499 = .ok (.iload 12, 2) := by decide +kernel
theorem dL_areSound_501 : decode cL_areSound 501 = .ok (.if_icmp .lt 82, 3) := by decide +kernel
theorem dL_areSound_504 : decode cL_areSound 504 = .ok (.iload 20, 2) := by decide +kernel
theorem dL_areSound_506 : decode cL_areSound 506 = .ok (.ifCond .gt 17, 3) := by decide +kernel
theorem dL_areSound_509 : decode cL_areSound 509 = .ok (.lload 21, 2) := by decide +kernel
theorem dL_areSound_511 : decode cL_areSound 511 = .ok (.lconst 0, 1) := by decide +kernel
theorem dL_areSound_512 : decode cL_areSound 512 = .ok (.lcmp, 1) := by decide +kernel
theorem dL_areSound_513 : decode cL_areSound 513 = .ok (.ifCond .ne 70, 3) := by decide +kernel
theorem dL_areSound_516 : decode cL_areSound 516 = .ok (.lload 16, 2) := by decide +kernel
theorem dL_areSound_518 : decode cL_areSound 518 = .ok (.lconst 0, 1) := by decide +kernel
theorem dL_areSound_519 : decode cL_areSound 519 = .ok (.lcmp, 1) := by decide +kernel
theorem dL_areSound_520 : decode cL_areSound 520 = .ok (.ifCond .ne 63, 3) := by decide +kernel
theorem dL_areSound_523 : decode cL_areSound 523 = .ok (.iload 15, 2) := by decide +kernel
theorem dL_areSound_525 : decode cL_areSound 525 = .ok (.iload 4, 2) := by decide +kernel
theorem dL_areSound_527 : decode cL_areSound 527 = .ok (.aload_n 1, 1) := by decide +kernel
theorem dL_areSound_528 : decode cL_areSound 528 = .ok (.iconst 1, 1) := by decide +kernel
theorem dL_areSound_529 : decode cL_areSound 529 = .ok (.iaload, 1) := by decide +kernel
theorem dL_areSound_530 : decode cL_areSound 530 = .ok (.irem, 1) := by decide +kernel
theorem dL_areSound_531 : decode cL_areSound 531 = .ok (.if_icmp .ne 22, 3) := by decide +kernel
theorem dL_areSound_534 : decode cL_areSound 534 = .ok (.aload_n 1, 1) := by decide +kernel
theorem dL_areSound_535 : decode cL_areSound 535 = .ok (.iconst 1, 1) := by decide +kernel
theorem dL_areSound_536 : decode cL_areSound 536 = .ok (.iaload, 1) := by decide +kernel
theorem dL_areSound_537 : decode cL_areSound 537 = .ok (.bipush 8, 2) := by decide +kernel
theorem dL_areSound_539 : decode cL_areSound 539 = .ok (.if_icmp .gt 14, 3) := by decide +kernel
theorem dL_areSound_542 : decode cL_areSound 542 = .ok (.aload_n 0, 1) := by decide +kernel
theorem dL_areSound_543 : decode cL_areSound 543 = .ok (.iload 15, 2) := by decide +kernel
theorem dL_areSound_545 : decode cL_areSound 545 = .ok (.invokevirtual 50, 3) := by decide +kernel
theorem dL_areSound_548 : decode cL_areSound 548 = .ok (.iload 20, 2) := by decide +kernel
theorem dL_areSound_550 : decode cL_areSound 550 = .ok (.if_icmp .ne 33, 3) := by decide +kernel
theorem dL_areSound_553 : decode cL_areSound 553 = .ok (.aload_n 0, 1) := by decide +kernel
theorem dL_areSound_554 : decode cL_areSound 554 = .ok (.aload_n 3, 1) := by decide +kernel
theorem dL_areSound_555 : decode cL_areSound 555 = .ok (.iconst 5, 1) := by decide +kernel
theorem dL_areSound_556 : decode cL_areSound 556 = .ok (.iload 15, 2) := by decide +kernel
theorem dL_areSound_558 : decode cL_areSound 558 = .ok (.imul, 1) := by decide +kernel
theorem dL_areSound_559 : decode cL_areSound 559 = .ok (.iaload, 1) := by decide +kernel
theorem dL_areSound_560 : decode cL_areSound 560 = .ok (.invokevirtual 56, 3) := by decide +kernel
theorem dL_areSound_563 : decode cL_areSound 563 = .ok (.aload_n 0, 1) := by decide +kernel
theorem dL_areSound_564 : decode cL_areSound 564 = .ok (.aload_n 3, 1) := by decide +kernel
theorem dL_areSound_565 : decode cL_areSound 565 = .ok (.iconst 5, 1) := by decide +kernel
theorem dL_areSound_566 : decode cL_areSound 566 = .ok (.iload 15, 2) := by decide +kernel
theorem dL_areSound_568 : decode cL_areSound 568 = .ok (.imul, 1) := by decide +kernel
theorem dL_areSound_569 : decode cL_areSound 569 = .ok (.iconst 1, 1) := by decide +kernel
theorem dL_areSound_570 : decode cL_areSound 570 = .ok (.iadd, 1) := by decide +kernel
theorem dL_areSound_571 : decode cL_areSound 571 = .ok (.iaload, 1) := by decide +kernel
theorem dL_areSound_572 : decode cL_areSound 572 = .ok (.invokevirtual 56, 3) := by decide +kernel
theorem dL_areSound_575 : decode cL_areSound 575 = .ok (.lcmp, 1) := by decide +kernel
theorem dL_areSound_576 : decode cL_areSound 576 = .ok (.ifCond .ne 7, 3) := by decide +kernel
theorem dL_areSound_579 : decode cL_areSound 579 = .ok (.iconst 1, 1) := by decide +kernel
theorem dL_areSound_580 : decode cL_areSound 580 = .ok (.goto 4, 3) := by decide +kernel
theorem dL_areSound_583 : decode cL_areSound 583 = .ok (.iconst 0, 1) := by decide +kernel
theorem dL_areSound_584 : decode cL_areSound 584 = .ok (.istore 5, 2) := by decide +kernel
theorem dL_areSound_586 : decode cL_areSound 586 = .ok (.iinc 15 1, 3) := by decide +kernel
theorem dL_areSound_589 : decode cL_areSound 589 = .ok (.goto (-246), 3) := by decide +kernel
theorem dL_areSound_592 : decode cL_areSound 592 = .ok (.ldc2_w 104, 3) := by decide +kernel
theorem dL_areSound_595 : decode cL_areSound 595 = .ok (.iload 7, 2) := by decide +kernel
theorem dL_areSound_597 : decode cL_areSound 597 = .ok (.aload_n 1, 1) := by decide +kernel
theorem dL_areSound_598 : decode cL_areSound 598 = .ok (.iconst 0, 1) := by decide +kernel
theorem dL_areSound_599 : decode cL_areSound 599 = .ok (.iaload, 1) := by decide +kernel
theorem dL_areSound_600 : decode cL_areSound 600 = .ok (.isub, 1) := by decide +kernel
theorem dL_areSound_601 : decode cL_areSound 601 = .ok (.iload 6, 2) := by decide +kernel
theorem dL_areSound_603 : decode cL_areSound 603 = .ok (.iadd, 1) := by decide +kernel
theorem dL_areSound_604 : decode cL_areSound 604 = .ok (.i2l, 1) := by decide +kernel
theorem dL_areSound_605 : decode cL_areSound 605 = .ok (.lmul, 1) := by decide +kernel
theorem dL_areSound_606 : decode cL_areSound 606 = .ok (.lstore 15, 2) := by decide +kernel
theorem dL_areSound_608 : decode cL_areSound 608 = .ok (.iload 5, 2) := by decide +kernel
theorem dL_areSound_610 : decode cL_areSound 610 = .ok (.ifCond .eq 54, 3) := by decide +kernel
theorem dL_areSound_613 : decode cL_areSound 613 = .ok (.iload 6, 2) := by decide +kernel
theorem dL_areSound_615 : decode cL_areSound 615 = .ok (.ifCond .lt 49, 3) := by decide +kernel
theorem dL_areSound_618 : decode cL_areSound 618 = .ok (.iload 6, 2) := by decide +kernel
theorem dL_areSound_620 : decode cL_areSound 620 = .ok (.aload_n 1, 1) := by decide +kernel
theorem dL_areSound_621 : decode cL_areSound 621 = .ok (.iconst 0, 1) := by decide +kernel
theorem dL_areSound_622 : decode cL_areSound 622 = .ok (.iaload, 1) := by decide +kernel
theorem dL_areSound_623 : decode cL_areSound 623 = .ok (.if_icmp .gt 41, 3) := by decide +kernel
theorem dL_areSound_626 : decode cL_areSound 626 = .ok (.lload 10, 2) := by decide +kernel
theorem dL_areSound_628 : decode cL_areSound 628 = .ok (.lload 15, 2) := by decide +kernel
theorem dL_areSound_630 : decode cL_areSound 630 = .ok (.lcmp, 1) := by decide +kernel
theorem dL_areSound_631 : decode cL_areSound 631 = .ok (.ifCond .gt 33, 3) := by decide +kernel
theorem dL_areSound_634 : decode cL_areSound 634 = .ok (.lload 10, 2) := by decide +kernel
theorem dL_areSound_636 : decode cL_areSound 636 = .ok (.lload 15, 2) := by decide +kernel
theorem dL_areSound_638 : decode cL_areSound 638 = .ok (.iload 7, 2) := by decide +kernel
theorem dL_areSound_640 : decode cL_areSound 640 = .ok (.i2l, 1) := by decide +kernel
theorem dL_areSound_641 : decode cL_areSound 641 = .ok (.lsub, 1) := by decide +kernel
theorem dL_areSound_642 : decode cL_areSound 642 = .ok (.lconst 1, 1) := by decide +kernel
theorem dL_areSound_643 : decode cL_areSound 643 = .ok (.lsub, 1) := by decide +kernel
theorem dL_areSound_644 : decode cL_areSound 644 = .ok (.lcmp, 1) := by decide +kernel
theorem dL_areSound_645 : decode cL_areSound 645 = .ok (.ifCond .le 19, 3) := by decide +kernel
theorem dL_areSound_648 : decode cL_areSound 648 = .ok (.iload 12, 2) := by decide +kernel
theorem dL_areSound_650 : decode cL_areSound 650 = .ok (.ifCond .lt 10, 3) := by decide +kernel
theorem dL_areSound_653 : decode cL_areSound 653 = .ok (.lload 13, 2) := by decide +kernel
theorem dL_areSound_655 : decode cL_areSound 655 = .ok (.lconst 0, 1) := by decide +kernel
theorem dL_areSound_656 : decode cL_areSound 656 = .ok (.lcmp, 1) := by decide +kernel
theorem dL_areSound_657 : decode cL_areSound 657 = .ok (.ifCond .le 7, 3) := by decide +kernel
theorem dL_areSound_660 : decode cL_areSound 660 = .ok (.iconst 1, 1) := by decide +kernel
theorem dL_areSound_661 : decode cL_areSound 661 = .ok (.goto 4, 3) := by decide +kernel
theorem dL_areSound_664 : decode cL_areSound 664 = .ok (.iconst 0, 1) := by decide +kernel
theorem dL_areSound_665 : decode cL_areSound 665 = .ok (.ireturn, 1) := by decide +kernel
