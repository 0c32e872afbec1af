theorem dL_isRefused_489 : decode cL_isRefused 489 = .ok (.ifCond .ne 32, 3) := by decide +kernel
theorem dL_isRefused_492 : decode cL_isRefused 492 = .ok (.aload_n 1, 1) := by decide +kernel
theorem dL_isRefused_493 : decode cL_isRefused 493 = .ok (.iconst 2, 1) := by decide +kernel
theorem dL_isRefused_494 : decode cL_isRefused 494 = .ok (.iaload, 1) := by decide +kernel
theorem dL_isRefused_495 : decode cL_isRefused 495 = .ok (.bipush 10, 2) := by decide +kernel
theorem dL_isRefused_497 : decode cL_isRefused 497 = .ok (.if_icmp .lt 20, 3) := by decide +kernel
theorem dL_isRefused_500 : decode cL_isRefused 500 = .ok (.aload_n 0, 1) := by decide +kernel
theorem dL_isRefused_501 : decode cL_isRefused 501 = .ok (.iconst 5, 1) := by decide +kernel
theorem dL_isRefused_502 : decode cL_isRefused 502 = .ok (.iload 10, 2) := by decide +kernel
theorem dL_isRefused_504 : decode cL_isRefused 504 = .ok (.iconst 0, 1) := by decide +kernel
theorem dL_isRefused_505 : decode cL_isRefused 505 = .ok (.iconst 0, 1) := by decide +kernel
theorem dL_isRefused_506 : decode cL_isRefused 506 = .ok (.iconst 0, 1) := by decide +kernel
theorem dL_isRefused_507 : decode cL_isRefused 507 = .ok (.invokestatic 84, 3) := by decide +kernel
theorem dL_isRefused_510 : decode cL_isRefused 510 = .ok (.ldc2_w 69, 3) := by decide +kernel
theorem dL_isRefused_513 : decode cL_isRefused 513 = .ok (.lcmp, 1) := by decide +kernel
theorem dL_isRefused_514 : decode cL_isRefused 514 = .ok (.ifCond .ne 7, 3) := by decide +kernel
theorem dL_isRefused_517 : decode cL_isRefused 517 = .ok (.iconst 1, 1) := by decide +kernel
theorem dL_isRefused_518 : decode cL_isRefused 518 = .ok (.goto 4, 3) := by decide +kernel
theorem dL_isRefused_521 : decode cL_isRefused 521 = .ok (.iconst 0, 1) := by decide +kernel
theorem dL_isRefused_522 : decode cL_isRefused 522 = .ok (.istore 9, 2) := by decide +kernel
theorem dL_isRefused_524 : decode cL_isRefused 524 = .ok (.iinc 10 1, 3) := by decide +kernel
theorem dL_isRefused_527 : decode cL_isRefused 527 = .ok (.goto (-199), 3) := by decide +kernel
theorem dL_isRefused_530 : decode cL_isRefused 530 = .ok (.iconst 0, 1) := by decide +kernel
theorem dL_isRefused_531 : decode cL_isRefused 531 = .ok (.istore 10, 2) := by decide +kernel
theorem dL_isRefused_533 : decode cL_isRefused 533 = .ok (.iload 10, 2) := by decide +kernel
theorem dL_isRefused_535 : decode cL_isRefused 535 = .ok (.aload_n 1, 1) := by decide +kernel
theorem dL_isRefused_536 : decode cL_isRefused 536 = .ok (.iconst 1, 1) := by decide +kernel
theorem dL_isRefused_537 : decode cL_isRefused 537 = .ok (.iaload, 1) := by decide +kernel
theorem dL_isRefused_538 : decode cL_isRefused 538 = .ok (.if_icmp .ge 104, 3) := by decide +kernel
theorem dL_isRefused_541 : decode cL_isRefused 541 = .ok (.iload 9, 2) := by decide +kernel
theorem dL_isRefused_543 : decode cL_isRefused 543 = .ok (.ifCond .eq 99, 3) := by decide +kernel
theorem dL_isRefused_546 : decode cL_isRefused 546 = .ok (.aload_n 2, 1) := by decide +kernel
theorem dL_isRefused_547 : decode cL_isRefused 547 = .ok (.iconst 5, 1) := by decide +kernel
theorem dL_isRefused_548 : decode cL_isRefused 548 = .ok (.iload 10, 2) := by decide +kernel
theorem dL_isRefused_550 : decode cL_isRefused 550 = .ok (.imul, 1) := by decide +kernel
theorem dL_isRefused_551 : decode cL_isRefused 551 = .ok (.iconst 4, 1) := by decide +kernel
theorem dL_isRefused_552 : decode cL_isRefused 552 = .ok (.iadd, 1) := by decide +kernel
theorem dL_isRefused_553 : decode cL_isRefused 553 = .ok (.iaload, 1) := by decide +kernel
theorem dL_isRefused_554 : decode cL_isRefused 554 = .ok (.ifCond .eq 75, 3) := by decide +kernel
theorem dL_isRefused_557 : decode cL_isRefused 557 = .ok (.aload_n 0, 1) := by decide +kernel
theorem dL_isRefused_558 : decode cL_isRefused 558 = .ok (.bipush 9, 2) := by decide +kernel
theorem dL_isRefused_560 : decode cL_isRefused 560 = .ok (.iload 10, 2) := by decide +kernel
theorem dL_isRefused_562 : decode cL_isRefused 562 = .ok (.iconst 0, 1) := by decide +kernel
theorem dL_isRefused_563 : decode cL_isRefused 563 = .ok (.iconst 0, 1) := by decide +kernel
theorem dL_isRefused_564 : decode cL_isRefused 564 = .ok (.iconst 0, 1) := by decide +kernel
theorem dL_isRefused_565 : decode cL_isRefused 565 = .ok (.invokestatic 84, 3) := by decide +kernel
theorem dL_isRefused_568 : decode cL_isRefused 568 = .ok (.ldc2_w 69, 3) := by decide +kernel
theorem dL_isRefused_571 : decode cL_isRefused 571 = .ok (.lcmp, 1) := by decide +kernel
theorem dL_isRefused_572 : decode cL_isRefused 572 = .ok (.ifCond .ne 61, 3) := by decide +kernel
theorem dL_isRefused_575 : decode cL_isRefused 575 = .ok (.aload_n 0, 1) := by decide +kernel
theorem dL_isRefused_576 : decode cL_isRefused 576 = .ok (.bipush 10, 2) := by decide +kernel
theorem dL_isRefused_578 : decode cL_isRefused 578 = .ok (.iload 10, 2) := by decide +kernel
theorem dL_isRefused_580 : decode cL_isRefused 580 = .ok (.iconst 0, 1) := by decide +kernel
theorem dL_isRefused_581 : decode cL_isRefused 581 = .ok (.iconst 0, 1) := by decide +kernel
theorem dL_isRefused_582 : decode cL_isRefused 582 = .ok (.iconst 0, 1) := by decide +kernel
theorem dL_isRefused_583 : decode cL_isRefused 583 = .ok (.invokestatic 84, 3) := by decide +kernel
theorem dL_isRefused_586 : decode cL_isRefused 586 = .ok (.ldc2_w 69, 3) := by decide +kernel
theorem dL_isRefused_589 : decode cL_isRefused 589 = .ok (.lcmp, 1) := by decide +kernel
theorem dL_isRefused_590 : decode cL_isRefused 590 = .ok (.ifCond .ne 43, 3) := by decide +kernel
theorem dL_isRefused_593 : decode cL_isRefused 593 = .ok (.aload_n 0, 1) := by decide +kernel
theorem dL_isRefused_594 : decode cL_isRefused 594 = .ok (.bipush 11, 2) := by decide +kernel
theorem dL_isRefused_596 : decode cL_isRefused 596 = .ok (.iload 10, 2) := by decide +kernel
theorem dL_isRefused_598 : decode cL_isRefused 598 = .ok (.iconst 0, 1) := by decide +kernel
theorem dL_isRefused_599 : decode cL_isRefused 599 = .ok (.iconst 0, 1) := by decide +kernel
theorem dL_isRefused_600 : decode cL_isRefused 600 = .ok (.iconst 0, 1) := by decide +kernel
theorem dL_isRefused_601 : decode cL_isRefused 601 = .ok (.invokestatic 84, 3) := by decide +kernel
theorem dL_isRefused_604 : decode cL_isRefused 604 = .ok (.ldc2_w 69, 3) := by decide +kernel
theorem dL_isRefused_607 : decode cL_isRefused 607 = .ok (.lcmp, 1) := by decide +kernel
theorem dL_isRefused_608 : decode cL_isRefused 608 = .ok (.ifCond .ne 25, 3) := by decide +kernel
theorem dL_isRefused_611 : decode cL_isRefused 611 = .ok (.aload_n 0, 1) := by decide +kernel
theorem dL_isRefused_612 : decode cL_isRefused 612 = .ok (.bipush 12, 2) := by decide +kernel
theorem dL_isRefused_614 : decode cL_isRefused 614 = .ok (.iload 10, 2) := by decide +kernel
theorem dL_isRefused_616 : decode cL_isRefused 616 = .ok (.iconst 0, 1) := by decide +kernel
theorem dL_isRefused_617 : decode cL_isRefused 617 = .ok (.iconst 0, 1) := by decide +kernel
theorem dL_isRefused_618 : decode cL_isRefused 618 = .ok (.iconst 0, 1) := by decide +kernel
theorem dL_isRefused_619 : decode cL_isRefused 619 = .ok (.invokestatic 84, 3) := by decide +kernel
theorem dL_isRefused_622 : decode cL_isRefused 622 = .ok (.ldc2_w 69, 3) := by decide +kernel
theorem dL_isRefused_625 : decode cL_isRefused 625 = .ok (.lcmp, 1) := by decide +kernel
theorem dL_isRefused_626 : decode cL_isRefused 626 = .ok (.ifCond .ne 7, 3) := by decide +kernel
theorem dL_isRefused_629 : decode cL_isRefused 629 = .ok (.iconst 1, 1) := by decide +kernel
theorem dL_isRefused_630 : decode cL_isRefused 630 = .ok (.goto 4, 3) := by decide +kernel
theorem dL_isRefused_633 : decode cL_isRefused 633 = .ok (.iconst 0, 1) := by decide +kernel
theorem dL_isRefused_634 : decode cL_isRefused 634 = .ok (.istore 9, 2) := by decide +kernel
theorem dL_isRefused_636 : decode cL_isRefused 636 = .ok (.iinc 10 1, 3) := by decide +kernel
theorem dL_isRefused_639 : decode cL_isRefused 639 = .ok (.goto (-106), 3) := by decide +kernel
theorem dL_isRefused_642 : decode cL_isRefused 642 = .ok (.iload 9, 2) := by decide +kernel
theorem dL_isRefused_644 : decode cL_isRefused 644 = .ok (.ifCond .eq 66, 3) := by decide +kernel
theorem dL_isRefused_647 : decode cL_isRefused 647 = .ok (.aload_n 1, 1) := by decide +kernel
theorem dL_isRefused_648 : decode cL_isRefused 648 = .ok (.iconst 0, 1) := by decide +kernel
theorem dL_isRefused_649 : decode cL_isRefused 649 = .ok (.iaload, 1) := by decide +kernel
theorem dL_isRefused_650 : decode cL_isRefused 650 = .ok (.bipush 6, 2) := by decide +kernel
theorem dL_isRefused_652 : decode cL_isRefused 652 = .ok (.if_icmp .lt 19, 3) := by decide +kernel
theorem dL_isRefused_655 : decode cL_isRefused 655 = .ok (.aload_n 0, 1) := by decide +kernel
theorem dL_isRefused_656 : decode cL_isRefused 656 = .ok (.iconst 0, 1) := by decide +kernel
theorem dL_isRefused_657 : decode cL_isRefused 657 = .ok (.iconst 0, 1) := by decide +kernel
theorem dL_isRefused_658 : decode cL_isRefused 658 = .ok (.iconst 0, 1) := by decide +kernel
theorem dL_isRefused_659 : decode cL_isRefused 659 = .ok (.iconst 0, 1) := by decide +kernel
theorem dL_isRefused_660 : decode cL_isRefused 660 = .ok (.iconst 0, 1) := by decide +kernel
theorem dL_isRefused_661 : decode cL_isRefused 661 = .ok (.invokestatic 84, 3) := by decide +kernel
theorem dL_isRefused_664 : decode cL_isRefused 664 = .ok (.ldc2_w 69, 3) := by decide +kernel
theorem dL_isRefused_667 : decode cL_isRefused 667 = .ok (.lcmp, 1) := by decide +kernel
theorem dL_isRefused_668 : decode cL_isRefused 668 = .ok (.ifCond .ne 42, 3) := by decide +kernel
theorem dL_isRefused_671 : decode cL_isRefused 671 = .ok (.aload_n 1, 1) := by decide +kernel
theorem dL_isRefused_672 : decode cL_isRefused 672 = .ok (.iconst 1, 1) := by decide +kernel
theorem dL_isRefused_673 : decode cL_isRefused 673 = .ok (.iaload, 1) := by decide +kernel
theorem dL_isRefused_674 : decode cL_isRefused 674 = .ok (.bipush 14, 2) := by decide +kernel
theorem dL_isRefused_676 : decode cL_isRefused 676 = .ok (.if_icmp .lt 19, 3) := by decide +kernel
theorem dL_isRefused_679 : decode cL_isRefused 679 = .ok (.aload_n 0, 1) := by decide +kernel
theorem dL_isRefused_680 : decode cL_isRefused 680 = .ok (.iconst 2, 1) := by decide +kernel
theorem dL_isRefused_681 : decode cL_isRefused 681 = .ok (.iconst 0, 1) := by decide +kernel
theorem dL_isRefused_682 : decode cL_isRefused 682 = .ok (.iconst 1, 1) := by decide +kernel
theorem dL_isRefused_683 : decode cL_isRefused 683 = .ok (.iconst 5, 1) := by decide +kernel
theorem dL_isRefused_684 : decode cL_isRefused 684 = .ok (.iconst 1, 1) := by decide +kernel
theorem dL_isRefused_685 : decode cL_isRefused 685 = .ok (.invokestatic 84, 3) := by decide +kernel
theorem dL_isRefused_688 : decode cL_isRefused 688 = .ok (.ldc2_w 69, 3) := by decide +kernel
theorem dL_isRefused_691 : decode cL_isRefused 691 = .ok (.lcmp, 1) := by decide +kernel
theorem dL_isRefused_692 : decode cL_isRefused 692 = .ok (.ifCond .ne 18, 3) := by decide +kernel
theorem dL_isRefused_695 : decode cL_isRefused 695 = .ok (.aload_n 0, 1) := by decide +kernel
theorem dL_isRefused_696 : decode cL_isRefused 696 = .ok (.aload_n 1, 1) := by decide +kernel
theorem dL_isRefused_697 : decode cL_isRefused 697 = .ok (.invokestatic 92, 3) := by decide +kernel
theorem dL_isRefused_700 : decode cL_isRefused 700 = .ok (.lload 7, 2) := by decide +kernel
theorem dL_isRefused_702 : decode cL_isRefused 702 = .ok (.lcmp, 1) := by decide +kernel
theorem dL_isRefused_703 : decode cL_isRefused 703 = .ok (.ifCond .ne 7, 3) := by decide +kernel
theorem dL_isRefused_706 : decode cL_isRefused 706 = .ok (.iconst 1, 1) := by decide +kernel
theorem dL_isRefused_707 : decode cL_isRefused 707 = .ok (.goto 4, 3) := by decide +kernel
theorem dL_isRefused_710 : decode cL_isRefused 710 = .ok (.iconst 0, 1) := by decide +kernel
theorem dL_isRefused_711 : decode cL_isRefused 711 = .ok (.ireturn, 1) := by decide +kernel
