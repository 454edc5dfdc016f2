/-! decode rows of the law's body -/
theorem d_Law_law_510 : decode code 510 = .ok (.ireturn, 1) := by decide +kernel
theorem d_Law_law_511 : decode code 511 = .ok (.iload 5, 2) := by decide +kernel
theorem d_Law_law_513 : decode code 513 = .ok (.ifCond .ne 14, 3) := by decide +kernel
theorem d_Law_law_516 : decode code 516 = .ok (.aload_n 3, 1) := by decide +kernel
theorem d_Law_law_517 : decode code 517 = .ok (.iconst 0, 1) := by decide +kernel
theorem d_Law_law_518 : decode code 518 = .ok (.laload, 1) := by decide +kernel
theorem d_Law_law_519 : decode code 519 = .ok (.lload 6, 2) := by decide +kernel
theorem d_Law_law_521 : decode code 521 = .ok (.lcmp, 1) := by decide +kernel
theorem d_Law_law_522 : decode code 522 = .ok (.ifCond .eq 5, 3) := by decide +kernel
theorem d_Law_law_525 : decode code 525 = .ok (.iconst 0, 1) := by decide +kernel
theorem d_Law_law_526 : decode code 526 = .ok (.ireturn, 1) := by decide +kernel
theorem d_Law_law_527 : decode code 527 = .ok (.goto 655, 3) := by decide +kernel
theorem d_Law_law_530 : decode code 530 = .ok (.aload_n 1, 1) := by decide +kernel
theorem d_Law_law_531 : decode code 531 = .ok (.aload_n 0, 1) := by decide +kernel
theorem d_Law_law_532 : decode code 532 = .ok (.iload 4, 2) := by decide +kernel
theorem d_Law_law_534 : decode code 534 = .ok (.iconst 1, 1) := by decide +kernel
theorem d_Law_law_535 : decode code 535 = .ok (.iadd, 1) := by decide +kernel
theorem d_Law_law_536 : decode code 536 = .ok (.iaload, 1) := by decide +kernel
theorem d_Law_law_537 : decode code 537 = .ok (.aload_n 0, 1) := by decide +kernel
theorem d_Law_law_538 : decode code 538 = .ok (.iload 4, 2) := by decide +kernel
theorem d_Law_law_540 : decode code 540 = .ok (.iconst 2, 1) := by decide +kernel
theorem d_Law_law_541 : decode code 541 = .ok (.iadd, 1) := by decide +kernel
theorem d_Law_law_542 : decode code 542 = .ok (.iaload, 1) := by decide +kernel
theorem d_Law_law_543 : decode code 543 = .ok (.i2l, 1) := by decide +kernel
theorem d_Law_law_544 : decode code 544 = .ok (.bipush 32, 2) := by decide +kernel
theorem d_Law_law_546 : decode code 546 = .ok (.lshl, 1) := by decide +kernel
theorem d_Law_law_547 : decode code 547 = .ok (.aload_n 0, 1) := by decide +kernel
theorem d_Law_law_548 : decode code 548 = .ok (.iload 4, 2) := by decide +kernel
theorem d_Law_law_550 : decode code 550 = .ok (.iconst 3, 1) := by decide +kernel
theorem d_Law_law_551 : decode code 551 = .ok (.iadd, 1) := by decide +kernel
theorem d_Law_law_552 : decode code 552 = .ok (.iaload, 1) := by decide +kernel
theorem d_Law_law_553 : decode code 553 = .ok (.i2l, 1) := by decide +kernel
theorem d_Law_law_554 : decode code 554 = .ok (.ldc2_w 65, 3) := by decide +kernel
theorem d_Law_law_557 : decode code 557 = .ok (.land, 1) := by decide +kernel
theorem d_Law_law_558 : decode code 558 = .ok (.lor, 1) := by decide +kernel
theorem d_Law_law_559 : decode code 559 = .ok (.aload_n 0, 1) := by decide +kernel
theorem d_Law_law_560 : decode code 560 = .ok (.iload 4, 2) := by decide +kernel
theorem d_Law_law_562 : decode code 562 = .ok (.iconst 4, 1) := by decide +kernel
theorem d_Law_law_563 : decode code 563 = .ok (.iadd, 1) := by decide +kernel
theorem d_Law_law_564 : decode code 564 = .ok (.iaload, 1) := by decide +kernel
theorem d_Law_law_565 : decode code 565 = .ok (.ifCond .eq 7, 3) := by decide +kernel
theorem d_Law_law_568 : decode code 568 = .ok (.iconst 1, 1) := by decide +kernel
theorem d_Law_law_569 : decode code 569 = .ok (.goto 4, 3) := by decide +kernel
theorem d_Law_law_572 : decode code 572 = .ok (.iconst 0, 1) := by decide +kernel
theorem d_Law_law_573 : decode code 573 = .ok (.aload_n 3, 1) := by decide +kernel
theorem d_Law_law_574 : decode code 574 = .ok (.invokestatic 83, 3) := by decide +kernel
theorem d_Law_law_577 : decode code 577 = .ok (.istore 5, 2) := by decide +kernel
theorem d_Law_law_579 : decode code 579 = .ok (.aload_n 2, 1) := by decide +kernel
theorem d_Law_law_580 : decode code 580 = .ok (.aload_n 0, 1) := by decide +kernel
theorem d_Law_law_581 : decode code 581 = .ok (.iload 4, 2) := by decide +kernel
theorem d_Law_law_583 : decode code 583 = .ok (.iconst 1, 1) := by decide +kernel
theorem d_Law_law_584 : decode code 584 = .ok (.iadd, 1) := by decide +kernel
theorem d_Law_law_585 : decode code 585 = .ok (.iaload, 1) := by decide +kernel
theorem d_Law_law_586 : decode code 586 = .ok (.aload_n 0, 1) := by decide +kernel
theorem d_Law_law_587 : decode code 587 = .ok (.iload 4, 2) := by decide +kernel
theorem d_Law_law_589 : decode code 589 = .ok (.iconst 2, 1) := by decide +kernel
theorem d_Law_law_590 : decode code 590 = .ok (.iadd, 1) := by decide +kernel
theorem d_Law_law_591 : decode code 591 = .ok (.iaload, 1) := by decide +kernel
theorem d_Law_law_592 : decode code 592 = .ok (.i2l, 1) := by decide +kernel
theorem d_Law_law_593 : decode code 593 = .ok (.bipush 32, 2) := by decide +kernel
theorem d_Law_law_595 : decode code 595 = .ok (.lshl, 1) := by decide +kernel
theorem d_Law_law_596 : decode code 596 = .ok (.aload_n 0, 1) := by decide +kernel
theorem d_Law_law_597 : decode code 597 = .ok (.iload 4, 2) := by decide +kernel
theorem d_Law_law_599 : decode code 599 = .ok (.iconst 3, 1) := by decide +kernel
theorem d_Law_law_600 : decode code 600 = .ok (.iadd, 1) := by decide +kernel
theorem d_Law_law_601 : decode code 601 = .ok (.iaload, 1) := by decide +kernel
theorem d_Law_law_602 : decode code 602 = .ok (.i2l, 1) := by decide +kernel
theorem d_Law_law_603 : decode code 603 = .ok (.ldc2_w 65, 3) := by decide +kernel
theorem d_Law_law_606 : decode code 606 = .ok (.land, 1) := by decide +kernel
theorem d_Law_law_607 : decode code 607 = .ok (.lor, 1) := by decide +kernel
theorem d_Law_law_608 : decode code 608 = .ok (.aload_n 0, 1) := by decide +kernel
theorem d_Law_law_609 : decode code 609 = .ok (.iload 4, 2) := by decide +kernel
theorem d_Law_law_611 : decode code 611 = .ok (.iconst 4, 1) := by decide +kernel
theorem d_Law_law_612 : decode code 612 = .ok (.iadd, 1) := by decide +kernel
theorem d_Law_law_613 : decode code 613 = .ok (.iaload, 1) := by decide +kernel
theorem d_Law_law_614 : decode code 614 = .ok (.ifCond .eq 7, 3) := by decide +kernel
theorem d_Law_law_617 : decode code 617 = .ok (.iconst 1, 1) := by decide +kernel
theorem d_Law_law_618 : decode code 618 = .ok (.goto 4, 3) := by decide +kernel
theorem d_Law_law_621 : decode code 621 = .ok (.iconst 0, 1) := by decide +kernel
theorem d_Law_law_622 : decode code 622 = .ok (.invokevirtual 85, 3) := by decide +kernel
theorem d_Law_law_625 : decode code 625 = .ok (.lstore 6, 2) := by decide +kernel
theorem d_Law_law_627 : decode code 627 = .ok (.aload_n 2, 1) := by decide +kernel
theorem d_Law_law_628 : decode code 628 = .ok (.invokevirtual 71, 3) := by decide +kernel
theorem d_Law_law_631 : decode code 631 = .ok (.iload 5, 2) := by decide +kernel
theorem d_Law_law_633 : decode code 633 = .ok (.if_icmp .eq 5, 3) := by decide +kernel
theorem d_Law_law_636 : decode code 636 = .ok (.iconst 0, 1) := by decide +kernel
theorem d_Law_law_637 : decode code 637 = .ok (.ireturn, 1) := by decide +kernel
theorem d_Law_law_638 : decode code 638 = .ok (.iload 5, 2) := by decide +kernel
theorem d_Law_law_640 : decode code 640 = .ok (.ifCond .ne 14, 3) := by decide +kernel
theorem d_Law_law_643 : decode code 643 = .ok (.aload_n 3, 1) := by decide +kernel
theorem d_Law_law_644 : decode code 644 = .ok (.iconst 0, 1) := by decide +kernel
theorem d_Law_law_645 : decode code 645 = .ok (.laload, 1) := by decide +kernel
theorem d_Law_law_646 : decode code 646 = .ok (.lload 6, 2) := by decide +kernel
theorem d_Law_law_648 : decode code 648 = .ok (.lcmp, 1) := by decide +kernel
theorem d_Law_law_649 : decode code 649 = .ok (.ifCond .eq 5, 3) := by decide +kernel
theorem d_Law_law_652 : decode code 652 = .ok (.iconst 0, 1) := by decide +kernel
theorem d_Law_law_653 : decode code 653 = .ok (.ireturn, 1) := by decide +kernel
theorem d_Law_law_654 : decode code 654 = .ok (.goto 528, 3) := by decide +kernel
theorem d_Law_law_657 : decode code 657 = .ok (.aload_n 1, 1) := by decide +kernel
theorem d_Law_law_658 : decode code 658 = .ok (.aload_n 0, 1) := by decide +kernel
theorem d_Law_law_659 : decode code 659 = .ok (.iload 4, 2) := by decide +kernel
theorem d_Law_law_661 : decode code 661 = .ok (.iconst 1, 1) := by decide +kernel
theorem d_Law_law_662 : decode code 662 = .ok (.iadd, 1) := by decide +kernel
theorem d_Law_law_663 : decode code 663 = .ok (.iaload, 1) := by decide +kernel
theorem d_Law_law_664 : decode code 664 = .ok (.aload_n 3, 1) := by decide +kernel
theorem d_Law_law_665 : decode code 665 = .ok (.invokestatic 86, 3) := by decide +kernel
theorem d_Law_law_668 : decode code 668 = .ok (.istore 5, 2) := by decide +kernel
theorem d_Law_law_670 : decode code 670 = .ok (.aload_n 2, 1) := by decide +kernel
theorem d_Law_law_671 : decode code 671 = .ok (.aload_n 0, 1) := by decide +kernel
theorem d_Law_law_672 : decode code 672 = .ok (.iload 4, 2) := by decide +kernel
theorem d_Law_law_674 : decode code 674 = .ok (.iconst 1, 1) := by decide +kernel
theorem d_Law_law_675 : decode code 675 = .ok (.iadd, 1) := by decide +kernel
theorem d_Law_law_676 : decode code 676 = .ok (.iaload, 1) := by decide +kernel
theorem d_Law_law_677 : decode code 677 = .ok (.invokevirtual 89, 3) := by decide +kernel
theorem d_Law_law_680 : decode code 680 = .ok (.istore 6, 2) := by decide +kernel
theorem d_Law_law_682 : decode code 682 = .ok (.aload_n 2, 1) := by decide +kernel
theorem d_Law_law_683 : decode code 683 = .ok (.invokevirtual 71, 3) := by decide +kernel
theorem d_Law_law_686 : decode code 686 = .ok (.iload 5, 2) := by decide +kernel
theorem d_Law_law_688 : decode code 688 = .ok (.if_icmp .eq 5, 3) := by decide +kernel
theorem d_Law_law_691 : decode code 691 = .ok (.iconst 0, 1) := by decide +kernel
theorem d_Law_law_692 : decode code 692 = .ok (.ireturn, 1) := by decide +kernel
theorem d_Law_law_693 : decode code 693 = .ok (.iload 5, 2) := by decide +kernel
theorem d_Law_law_695 : decode code 695 = .ok (.ifCond .ne 15, 3) := by decide +kernel
theorem d_Law_law_698 : decode code 698 = .ok (.aload_n 3, 1) := by decide +kernel
theorem d_Law_law_699 : decode code 699 = .ok (.iconst 0, 1) := by decide +kernel
theorem d_Law_law_700 : decode code 700 = .ok (.laload, 1) := by decide +kernel
theorem d_Law_law_701 : decode code 701 = .ok (.iload 6, 2) := by decide +kernel
theorem d_Law_law_703 : decode code 703 = .ok (.i2l, 1) := by decide +kernel
theorem d_Law_law_704 : decode code 704 = .ok (.lcmp, 1) := by decide +kernel
theorem d_Law_law_705 : decode code 705 = .ok (.ifCond .eq 5, 3) := by decide +kernel
theorem d_Law_law_708 : decode code 708 = .ok (.iconst 0, 1) := by decide +kernel
theorem d_Law_law_709 : decode code 709 = .ok (.ireturn, 1) := by decide +kernel
theorem d_Law_law_710 : decode code 710 = .ok (.goto 472, 3) := by decide +kernel
theorem d_Law_law_713 : decode code 713 = .ok (.aload_n 1, 1) := by decide +kernel
theorem d_Law_law_714 : decode code 714 = .ok (.aload_n 0, 1) := by decide +kernel
theorem d_Law_law_715 : decode code 715 = .ok (.iload 4, 2) := by decide +kernel
theorem d_Law_law_717 : decode code 717 = .ok (.iconst 1, 1) := by decide +kernel
theorem d_Law_law_718 : decode code 718 = .ok (.iadd, 1) := by decide +kernel
theorem d_Law_law_719 : decode code 719 = .ok (.iaload, 1) := by decide +kernel
theorem d_Law_law_720 : decode code 720 = .ok (.aload_n 0, 1) := by decide +kernel
theorem d_Law_law_721 : decode code 721 = .ok (.iload 4, 2) := by decide +kernel
theorem d_Law_law_723 : decode code 723 = .ok (.iconst 2, 1) := by decide +kernel
theorem d_Law_law_724 : decode code 724 = .ok (.iadd, 1) := by decide +kernel
theorem d_Law_law_725 : decode code 725 = .ok (.iaload, 1) := by decide +kernel
theorem d_Law_law_726 : decode code 726 = .ok (.i2l, 1) := by decide +kernel
theorem d_Law_law_727 : decode code 727 = .ok (.bipush 32, 2) := by decide +kernel
theorem d_Law_law_729 : decode code 729 = .ok (.lshl, 1) := by decide +kernel
theorem d_Law_law_730 : decode code 730 = .ok (.aload_n 0, 1) := by decide +kernel
theorem d_Law_law_731 : decode code 731 = .ok (.iload 4, 2) := by decide +kernel
theorem d_Law_law_733 : decode code 733 = .ok (.iconst 3, 1) := by decide +kernel
