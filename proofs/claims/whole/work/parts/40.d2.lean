theorem d_L_law_538 : decode code 538 = .ok (.iadd, 1) := by decide +kernel
theorem d_L_law_539 : decode code 539 = .ok (.iaload, 1) := by decide +kernel
theorem d_L_law_540 : decode code 540 = .ok (.aload_n 0, 1) := by decide +kernel
theorem d_L_law_541 : decode code 541 = .ok (.iload 4, 2) := by decide +kernel
theorem d_L_law_543 : decode code 543 = .ok (.iconst 3, 1) := by decide +kernel
theorem d_L_law_544 : decode code 544 = .ok (.iadd, 1) := by decide +kernel
theorem d_L_law_545 : decode code 545 = .ok (.iaload, 1) := by decide +kernel
theorem d_L_law_546 : decode code 546 = .ok (.aload_n 3, 1) := by decide +kernel
theorem d_L_law_547 : decode code 547 = .ok (.invokestatic 110, 3) := by decide +kernel
theorem d_L_law_550 : decode code 550 = .ok (.istore 5, 2) := by decide +kernel
theorem d_L_law_552 : decode code 552 = .ok (.aload_n 2, 1) := by decide +kernel
theorem d_L_law_553 : decode code 553 = .ok (.aload_n 0, 1) := by decide +kernel
theorem d_L_law_554 : decode code 554 = .ok (.iload 4, 2) := by decide +kernel
theorem d_L_law_556 : decode code 556 = .ok (.iconst 1, 1) := by decide +kernel
theorem d_L_law_557 : decode code 557 = .ok (.iadd, 1) := by decide +kernel
theorem d_L_law_558 : decode code 558 = .ok (.iaload, 1) := by decide +kernel
theorem d_L_law_559 : decode code 559 = .ok (.aload_n 0, 1) := by decide +kernel
theorem d_L_law_560 : decode code 560 = .ok (.iload 4, 2) := by decide +kernel
theorem d_L_law_562 : decode code 562 = .ok (.iconst 2, 1) := by decide +kernel
theorem d_L_law_563 : decode code 563 = .ok (.iadd, 1) := by decide +kernel
theorem d_L_law_564 : decode code 564 = .ok (.iaload, 1) := by decide +kernel
theorem d_L_law_565 : decode code 565 = .ok (.aload_n 0, 1) := by decide +kernel
theorem d_L_law_566 : decode code 566 = .ok (.iload 4, 2) := by decide +kernel
theorem d_L_law_568 : decode code 568 = .ok (.iconst 3, 1) := by decide +kernel
theorem d_L_law_569 : decode code 569 = .ok (.iadd, 1) := by decide +kernel
theorem d_L_law_570 : decode code 570 = .ok (.iaload, 1) := by decide +kernel
theorem d_L_law_571 : decode code 571 = .ok (.invokevirtual 113, 3) := by decide +kernel
theorem d_L_law_574 : decode code 574 = .ok (.istore 6, 2) := by decide +kernel
theorem d_L_law_576 : decode code 576 = .ok (.aload_n 2, 1) := by decide +kernel
theorem d_L_law_577 : decode code 577 = .ok (.invokevirtual 90, 3) := by decide +kernel
theorem d_L_law_580 : decode code 580 = .ok (.iload 5, 2) := by decide +kernel
theorem d_L_law_582 : decode code 582 = .ok (.if_icmp .eq 5, 3) := by decide +kernel
theorem d_L_law_585 : decode code 585 = .ok (.iconst 0, 1) := by decide +kernel
theorem d_L_law_586 : decode code 586 = .ok (.ireturn, 1) := by decide +kernel
theorem d_L_law_587 : decode code 587 = .ok (.iload 5, 2) := by decide +kernel
theorem d_L_law_589 : decode code 589 = .ok (.ifCond .ne 15, 3) := by decide +kernel
theorem d_L_law_592 : decode code 592 = .ok (.aload_n 3, 1) := by decide +kernel
theorem d_L_law_593 : decode code 593 = .ok (.iconst 0, 1) := by decide +kernel
theorem d_L_law_594 : decode code 594 = .ok (.laload, 1) := by decide +kernel
theorem d_L_law_595 : decode code 595 = .ok (.iload 6, 2) := by decide +kernel
theorem d_L_law_597 : decode code 597 = .ok (.i2l, 1) := by decide +kernel
theorem d_L_law_598 : decode code 598 = .ok (.lcmp, 1) := by decide +kernel
theorem d_L_law_599 : decode code 599 = .ok (.ifCond .eq 5, 3) := by decide +kernel
theorem d_L_law_602 : decode code 602 = .ok (.iconst 0, 1) := by decide +kernel
theorem d_L_law_603 : decode code 603 = .ok (.ireturn, 1) := by decide +kernel
theorem d_L_law_604 : decode code 604 = .ok (.goto 711, 3) := by decide +kernel
theorem d_L_law_607 : decode code 607 = .ok (.aload_n 1, 1) := by decide +kernel
theorem d_L_law_608 : decode code 608 = .ok (.aload_n 0, 1) := by decide +kernel
theorem d_L_law_609 : decode code 609 = .ok (.iload 4, 2) := by decide +kernel
theorem d_L_law_611 : decode code 611 = .ok (.iconst 1, 1) := by decide +kernel
theorem d_L_law_612 : decode code 612 = .ok (.iadd, 1) := by decide +kernel
theorem d_L_law_613 : decode code 613 = .ok (.iaload, 1) := by decide +kernel
theorem d_L_law_614 : decode code 614 = .ok (.aload_n 0, 1) := by decide +kernel
theorem d_L_law_615 : decode code 615 = .ok (.iload 4, 2) := by decide +kernel
theorem d_L_law_617 : decode code 617 = .ok (.iconst 2, 1) := by decide +kernel
theorem d_L_law_618 : decode code 618 = .ok (.iadd, 1) := by decide +kernel
theorem d_L_law_619 : decode code 619 = .ok (.iaload, 1) := by decide +kernel
theorem d_L_law_620 : decode code 620 = .ok (.aload_n 3, 1) := by decide +kernel
theorem d_L_law_621 : decode code 621 = .ok (.invokestatic 114, 3) := by decide +kernel
theorem d_L_law_624 : decode code 624 = .ok (.istore 5, 2) := by decide +kernel
theorem d_L_law_626 : decode code 626 = .ok (.aload_n 2, 1) := by decide +kernel
theorem d_L_law_627 : decode code 627 = .ok (.aload_n 0, 1) := by decide +kernel
theorem d_L_law_628 : decode code 628 = .ok (.iload 4, 2) := by decide +kernel
theorem d_L_law_630 : decode code 630 = .ok (.iconst 1, 1) := by decide +kernel
theorem d_L_law_631 : decode code 631 = .ok (.iadd, 1) := by decide +kernel
theorem d_L_law_632 : decode code 632 = .ok (.iaload, 1) := by decide +kernel
theorem d_L_law_633 : decode code 633 = .ok (.aload_n 0, 1) := by decide +kernel
theorem d_L_law_634 : decode code 634 = .ok (.iload 4, 2) := by decide +kernel
theorem d_L_law_636 : decode code 636 = .ok (.iconst 2, 1) := by decide +kernel
theorem d_L_law_637 : decode code 637 = .ok (.iadd, 1) := by decide +kernel
theorem d_L_law_638 : decode code 638 = .ok (.iaload, 1) := by decide +kernel
theorem d_L_law_639 : decode code 639 = .ok (.invokevirtual 116, 3) := by decide +kernel
theorem d_L_law_642 : decode code 642 = .ok (.istore 6, 2) := by decide +kernel
theorem d_L_law_644 : decode code 644 = .ok (.aload_n 2, 1) := by decide +kernel
theorem d_L_law_645 : decode code 645 = .ok (.invokevirtual 90, 3) := by decide +kernel
theorem d_L_law_648 : decode code 648 = .ok (.iload 5, 2) := by decide +kernel
theorem d_L_law_650 : decode code 650 = .ok (.if_icmp .eq 5, 3) := by decide +kernel
theorem d_L_law_653 : decode code 653 = .ok (.iconst 0, 1) := by decide +kernel
theorem d_L_law_654 : decode code 654 = .ok (.ireturn, 1) := by decide +kernel
theorem d_L_law_655 : decode code 655 = .ok (.iload 5, 2) := by decide +kernel
theorem d_L_law_657 : decode code 657 = .ok (.ifCond .ne 15, 3) := by decide +kernel
theorem d_L_law_660 : decode code 660 = .ok (.aload_n 3, 1) := by decide +kernel
theorem d_L_law_661 : decode code 661 = .ok (.iconst 0, 1) := by decide +kernel
theorem d_L_law_662 : decode code 662 = .ok (.laload, 1) := by decide +kernel
theorem d_L_law_663 : decode code 663 = .ok (.iload 6, 2) := by decide +kernel
theorem d_L_law_665 : decode code 665 = .ok (.i2l, 1) := by decide +kernel
theorem d_L_law_666 : decode code 666 = .ok (.lcmp, 1) := by decide +kernel
theorem d_L_law_667 : decode code 667 = .ok (.ifCond .eq 5, 3) := by decide +kernel
theorem d_L_law_670 : decode code 670 = .ok (.iconst 0, 1) := by decide +kernel
theorem d_L_law_671 : decode code 671 = .ok (.ireturn, 1) := by decide +kernel
theorem d_L_law_672 : decode code 672 = .ok (.goto 643, 3) := by decide +kernel
theorem d_L_law_675 : decode code 675 = .ok (.aload_n 1, 1) := by decide +kernel
theorem d_L_law_676 : decode code 676 = .ok (.aload_n 0, 1) := by decide +kernel
theorem d_L_law_677 : decode code 677 = .ok (.iload 4, 2) := by decide +kernel
theorem d_L_law_679 : decode code 679 = .ok (.iconst 1, 1) := by decide +kernel
theorem d_L_law_680 : decode code 680 = .ok (.iadd, 1) := by decide +kernel
theorem d_L_law_681 : decode code 681 = .ok (.iaload, 1) := by decide +kernel
theorem d_L_law_682 : decode code 682 = .ok (.aload_n 3, 1) := by decide +kernel
theorem d_L_law_683 : decode code 683 = .ok (.invokestatic 117, 3) := by decide +kernel
theorem d_L_law_686 : decode code 686 = .ok (.istore 5, 2) := by decide +kernel
theorem d_L_law_688 : decode code 688 = .ok (.aload_n 2, 1) := by decide +kernel
theorem d_L_law_689 : decode code 689 = .ok (.aload_n 0, 1) := by decide +kernel
theorem d_L_law_690 : decode code 690 = .ok (.iload 4, 2) := by decide +kernel
theorem d_L_law_692 : decode code 692 = .ok (.iconst 1, 1) := by decide +kernel
theorem d_L_law_693 : decode code 693 = .ok (.iadd, 1) := by decide +kernel
theorem d_L_law_694 : decode code 694 = .ok (.iaload, 1) := by decide +kernel
theorem d_L_law_695 : decode code 695 = .ok (.invokevirtual 119, 3) := by decide +kernel
theorem d_L_law_698 : decode code 698 = .ok (.istore 6, 2) := by decide +kernel
theorem d_L_law_700 : decode code 700 = .ok (.aload_n 2, 1) := by decide +kernel
theorem d_L_law_701 : decode code 701 = .ok (.invokevirtual 90, 3) := by decide +kernel
theorem d_L_law_704 : decode code 704 = .ok (.iload 5, 2) := by decide +kernel
theorem d_L_law_706 : decode code 706 = .ok (.if_icmp .eq 5, 3) := by decide +kernel
theorem d_L_law_709 : decode code 709 = .ok (.iconst 0, 1) := by decide +kernel
theorem d_L_law_710 : decode code 710 = .ok (.ireturn, 1) := by decide +kernel
theorem d_L_law_711 : decode code 711 = .ok (.iload 5, 2) := by decide +kernel
theorem d_L_law_713 : decode code 713 = .ok (.ifCond .ne 15, 3) := by decide +kernel
theorem d_L_law_716 : decode code 716 = .ok (.aload_n 3, 1) := by decide +kernel
theorem d_L_law_717 : decode code 717 = .ok (.iconst 0, 1) := by decide +kernel
theorem d_L_law_718 : decode code 718 = .ok (.laload, 1) := by decide +kernel
theorem d_L_law_719 : decode code 719 = .ok (.iload 6, 2) := by decide +kernel
theorem d_L_law_721 : decode code 721 = .ok (.i2l, 1) := by decide +kernel
theorem d_L_law_722 : decode code 722 = .ok (.lcmp, 1) := by decide +kernel
theorem d_L_law_723 : decode code 723 = .ok (.ifCond .eq 5, 3) := by decide +kernel
theorem d_L_law_726 : decode code 726 = .ok (.iconst 0, 1) := by decide +kernel
theorem d_L_law_727 : decode code 727 = .ok (.ireturn, 1) := by decide +kernel
theorem d_L_law_728 : decode code 728 = .ok (.goto 587, 3) := by decide +kernel
theorem d_L_law_731 : decode code 731 = .ok (.aload_n 1, 1) := by decide +kernel
theorem d_L_law_732 : decode code 732 = .ok (.aload_n 0, 1) := by decide +kernel
theorem d_L_law_733 : decode code 733 = .ok (.iload 4, 2) := by decide +kernel
theorem d_L_law_735 : decode code 735 = .ok (.iconst 1, 1) := by decide +kernel
theorem d_L_law_736 : decode code 736 = .ok (.iadd, 1) := by decide +kernel
theorem d_L_law_737 : decode code 737 = .ok (.iaload, 1) := by decide +kernel
theorem d_L_law_738 : decode code 738 = .ok (.aload_n 3, 1) := by decide +kernel
theorem d_L_law_739 : decode code 739 = .ok (.invokestatic 120, 3) := by decide +kernel
theorem d_L_law_742 : decode code 742 = .ok (.istore 5, 2) := by decide +kernel
theorem d_L_law_744 : decode code 744 = .ok (.aload_n 2, 1) := by decide +kernel
theorem d_L_law_745 : decode code 745 = .ok (.aload_n 0, 1) := by decide +kernel
theorem d_L_law_746 : decode code 746 = .ok (.iload 4, 2) := by decide +kernel
theorem d_L_law_748 : decode code 748 = .ok (.iconst 1, 1) := by decide +kernel
theorem d_L_law_749 : decode code 749 = .ok (.iadd, 1) := by decide +kernel
theorem d_L_law_750 : decode code 750 = .ok (.iaload, 1) := by decide +kernel
theorem d_L_law_751 : decode code 751 = .ok (.invokevirtual 122, 3) := by decide +kernel
theorem d_L_law_754 : decode code 754 = .ok (.istore 6, 2) := by decide +kernel
theorem d_L_law_756 : decode code 756 = .ok (.aload_n 2, 1) := by decide +kernel
theorem d_L_law_757 : decode code 757 = .ok (.invokevirtual 90, 3) := by decide +kernel
theorem d_L_law_760 : decode code 760 = .ok (.iload 5, 2) := by decide +kernel
theorem d_L_law_762 : decode code 762 = .ok (.if_icmp .eq 5, 3) := by decide +kernel
theorem d_L_law_765 : decode code 765 = .ok (.iconst 0, 1) := by decide +kernel
theorem d_L_law_766 : decode code 766 = .ok (.ireturn, 1) := by decide +kernel
theorem d_L_law_767 : decode code 767 = .ok (.iload 5, 2) := by decide +kernel
