theorem d_law_497 : decode code 497 = .ok (.aload_n 1, 1) := by decide +kernel
theorem d_law_498 : decode code 498 = .ok (.aload_n 0, 1) := by decide +kernel
theorem d_law_499 : decode code 499 = .ok (.iload 4, 2) := by decide +kernel
theorem d_law_501 : decode code 501 = .ok (.iconst 1, 1) := by decide +kernel
theorem d_law_502 : decode code 502 = .ok (.iadd, 1) := by decide +kernel
theorem d_law_503 : decode code 503 = .ok (.iaload, 1) := by decide +kernel
theorem d_law_504 : decode code 504 = .ok (.aload_n 0, 1) := by decide +kernel
theorem d_law_505 : decode code 505 = .ok (.iload 4, 2) := by decide +kernel
theorem d_law_507 : decode code 507 = .ok (.iconst 2, 1) := by decide +kernel
theorem d_law_508 : decode code 508 = .ok (.iadd, 1) := by decide +kernel
theorem d_law_509 : decode code 509 = .ok (.iaload, 1) := by decide +kernel
theorem d_law_510 : decode code 510 = .ok (.ifCond .eq 7, 3) := by decide +kernel
theorem d_law_513 : decode code 513 = .ok (.iconst 1, 1) := by decide +kernel
theorem d_law_514 : decode code 514 = .ok (.goto 4, 3) := by decide +kernel
theorem d_law_517 : decode code 517 = .ok (.iconst 0, 1) := by decide +kernel
theorem d_law_518 : decode code 518 = .ok (.invokevirtual 81, 3) := by decide +kernel
theorem d_law_521 : decode code 521 = .ok (.aload_n 2, 1) := by decide +kernel
theorem d_law_522 : decode code 522 = .ok (.aload_n 0, 1) := by decide +kernel
theorem d_law_523 : decode code 523 = .ok (.iload 4, 2) := by decide +kernel
theorem d_law_525 : decode code 525 = .ok (.iconst 1, 1) := by decide +kernel
theorem d_law_526 : decode code 526 = .ok (.iadd, 1) := by decide +kernel
theorem d_law_527 : decode code 527 = .ok (.iaload, 1) := by decide +kernel
theorem d_law_528 : decode code 528 = .ok (.aload_n 0, 1) := by decide +kernel
theorem d_law_529 : decode code 529 = .ok (.iload 4, 2) := by decide +kernel
theorem d_law_531 : decode code 531 = .ok (.iconst 2, 1) := by decide +kernel
theorem d_law_532 : decode code 532 = .ok (.iadd, 1) := by decide +kernel
theorem d_law_533 : decode code 533 = .ok (.iaload, 1) := by decide +kernel
theorem d_law_534 : decode code 534 = .ok (.ifCond .eq 7, 3) := by decide +kernel
theorem d_law_537 : decode code 537 = .ok (.iconst 1, 1) := by decide +kernel
theorem d_law_538 : decode code 538 = .ok (.goto 4, 3) := by decide +kernel
theorem d_law_541 : decode code 541 = .ok (.iconst 0, 1) := by decide +kernel
theorem d_law_542 : decode code 542 = .ok (.invokevirtual 85, 3) := by decide +kernel
theorem d_law_545 : decode code 545 = .ok (.if_icmp .eq 378, 3) := by decide +kernel
theorem d_law_548 : decode code 548 = .ok (.iconst 0, 1) := by decide +kernel
theorem d_law_549 : decode code 549 = .ok (.ireturn, 1) := by decide +kernel
theorem d_law_550 : decode code 550 = .ok (.aload_n 1, 1) := by decide +kernel
theorem d_law_551 : decode code 551 = .ok (.aload_n 0, 1) := by decide +kernel
theorem d_law_552 : decode code 552 = .ok (.iload 4, 2) := by decide +kernel
theorem d_law_554 : decode code 554 = .ok (.iconst 1, 1) := by decide +kernel
theorem d_law_555 : decode code 555 = .ok (.iadd, 1) := by decide +kernel
theorem d_law_556 : decode code 556 = .ok (.iaload, 1) := by decide +kernel
theorem d_law_557 : decode code 557 = .ok (.invokevirtual 86, 3) := by decide +kernel
theorem d_law_560 : decode code 560 = .ok (.aload_n 2, 1) := by decide +kernel
theorem d_law_561 : decode code 561 = .ok (.aload_n 0, 1) := by decide +kernel
theorem d_law_562 : decode code 562 = .ok (.iload 4, 2) := by decide +kernel
theorem d_law_564 : decode code 564 = .ok (.iconst 1, 1) := by decide +kernel
theorem d_law_565 : decode code 565 = .ok (.iadd, 1) := by decide +kernel
theorem d_law_566 : decode code 566 = .ok (.iaload, 1) := by decide +kernel
theorem d_law_567 : decode code 567 = .ok (.invokevirtual 89, 3) := by decide +kernel
theorem d_law_570 : decode code 570 = .ok (.if_icmp .eq 353, 3) := by decide +kernel
theorem d_law_573 : decode code 573 = .ok (.iconst 0, 1) := by decide +kernel
theorem d_law_574 : decode code 574 = .ok (.ireturn, 1) := by decide +kernel
theorem d_law_575 : decode code 575 = .ok (.aload_n 1, 1) := by decide +kernel
theorem d_law_576 : decode code 576 = .ok (.invokevirtual 90, 3) := by decide +kernel
theorem d_law_579 : decode code 579 = .ok (.aload_n 2, 1) := by decide +kernel
theorem d_law_580 : decode code 580 = .ok (.invokevirtual 93, 3) := by decide +kernel
theorem d_law_583 : decode code 583 = .ok (.if_icmp .eq 340, 3) := by decide +kernel
theorem d_law_586 : decode code 586 = .ok (.iconst 0, 1) := by decide +kernel
theorem d_law_587 : decode code 587 = .ok (.ireturn, 1) := by decide +kernel
theorem d_law_588 : decode code 588 = .ok (.aload_n 1, 1) := by decide +kernel
theorem d_law_589 : decode code 589 = .ok (.aload_n 0, 1) := by decide +kernel
theorem d_law_590 : decode code 590 = .ok (.iload 4, 2) := by decide +kernel
theorem d_law_592 : decode code 592 = .ok (.iconst 1, 1) := by decide +kernel
theorem d_law_593 : decode code 593 = .ok (.iadd, 1) := by decide +kernel
theorem d_law_594 : decode code 594 = .ok (.iaload, 1) := by decide +kernel
theorem d_law_595 : decode code 595 = .ok (.invokevirtual 94, 3) := by decide +kernel
theorem d_law_598 : decode code 598 = .ok (.aload_n 2, 1) := by decide +kernel
theorem d_law_599 : decode code 599 = .ok (.aload_n 0, 1) := by decide +kernel
theorem d_law_600 : decode code 600 = .ok (.iload 4, 2) := by decide +kernel
theorem d_law_602 : decode code 602 = .ok (.iconst 1, 1) := by decide +kernel
theorem d_law_603 : decode code 603 = .ok (.iadd, 1) := by decide +kernel
theorem d_law_604 : decode code 604 = .ok (.iaload, 1) := by decide +kernel
theorem d_law_605 : decode code 605 = .ok (.invokevirtual 97, 3) := by decide +kernel
theorem d_law_608 : decode code 608 = .ok (.if_icmp .eq 315, 3) := by decide +kernel
theorem d_law_611 : decode code 611 = .ok (.iconst 0, 1) := by decide +kernel
theorem d_law_612 : decode code 612 = .ok (.ireturn, 1) := by decide +kernel
theorem d_law_613 : decode code 613 = .ok (.aload_n 1, 1) := by decide +kernel
theorem d_law_614 : decode code 614 = .ok (.aload_n 0, 1) := by decide +kernel
theorem d_law_615 : decode code 615 = .ok (.iload 4, 2) := by decide +kernel
theorem d_law_617 : decode code 617 = .ok (.iconst 1, 1) := by decide +kernel
theorem d_law_618 : decode code 618 = .ok (.iadd, 1) := by decide +kernel
theorem d_law_619 : decode code 619 = .ok (.iaload, 1) := by decide +kernel
theorem d_law_620 : decode code 620 = .ok (.aload_n 0, 1) := by decide +kernel
theorem d_law_621 : decode code 621 = .ok (.iload 4, 2) := by decide +kernel
theorem d_law_623 : decode code 623 = .ok (.iconst 2, 1) := by decide +kernel
theorem d_law_624 : decode code 624 = .ok (.iadd, 1) := by decide +kernel
theorem d_law_625 : decode code 625 = .ok (.iaload, 1) := by decide +kernel
theorem d_law_626 : decode code 626 = .ok (.aload_n 0, 1) := by decide +kernel
theorem d_law_627 : decode code 627 = .ok (.iload 4, 2) := by decide +kernel
theorem d_law_629 : decode code 629 = .ok (.iconst 3, 1) := by decide +kernel
theorem d_law_630 : decode code 630 = .ok (.iadd, 1) := by decide +kernel
theorem d_law_631 : decode code 631 = .ok (.iaload, 1) := by decide +kernel
theorem d_law_632 : decode code 632 = .ok (.aload_n 3, 1) := by decide +kernel
theorem d_law_633 : decode code 633 = .ok (.invokestatic 98, 3) := by decide +kernel
theorem d_law_636 : decode code 636 = .ok (.istore 5, 2) := by decide +kernel
theorem d_law_638 : decode code 638 = .ok (.aload_n 2, 1) := by decide +kernel
theorem d_law_639 : decode code 639 = .ok (.aload_n 0, 1) := by decide +kernel
theorem d_law_640 : decode code 640 = .ok (.iload 4, 2) := by decide +kernel
theorem d_law_642 : decode code 642 = .ok (.iconst 1, 1) := by decide +kernel
theorem d_law_643 : decode code 643 = .ok (.iadd, 1) := by decide +kernel
theorem d_law_644 : decode code 644 = .ok (.iaload, 1) := by decide +kernel
theorem d_law_645 : decode code 645 = .ok (.aload_n 0, 1) := by decide +kernel
theorem d_law_646 : decode code 646 = .ok (.iload 4, 2) := by decide +kernel
theorem d_law_648 : decode code 648 = .ok (.iconst 2, 1) := by decide +kernel
theorem d_law_649 : decode code 649 = .ok (.iadd, 1) := by decide +kernel
theorem d_law_650 : decode code 650 = .ok (.iaload, 1) := by decide +kernel
theorem d_law_651 : decode code 651 = .ok (.aload_n 0, 1) := by decide +kernel
theorem d_law_652 : decode code 652 = .ok (.iload 4, 2) := by decide +kernel
theorem d_law_654 : decode code 654 = .ok (.iconst 3, 1) := by decide +kernel
theorem d_law_655 : decode code 655 = .ok (.iadd, 1) := by decide +kernel
theorem d_law_656 : decode code 656 = .ok (.iaload, 1) := by decide +kernel
theorem d_law_657 : decode code 657 = .ok (.invokevirtual 101, 3) := by decide +kernel
theorem d_law_660 : decode code 660 = .ok (.istore 6, 2) := by decide +kernel
theorem d_law_662 : decode code 662 = .ok (.aload_n 2, 1) := by decide +kernel
theorem d_law_663 : decode code 663 = .ok (.invokevirtual 67, 3) := by decide +kernel
theorem d_law_666 : decode code 666 = .ok (.iload 5, 2) := by decide +kernel
theorem d_law_668 : decode code 668 = .ok (.if_icmp .eq 5, 3) := by decide +kernel
theorem d_law_671 : decode code 671 = .ok (.iconst 0, 1) := by decide +kernel
theorem d_law_672 : decode code 672 = .ok (.ireturn, 1) := by decide +kernel
theorem d_law_673 : decode code 673 = .ok (.iload 5, 2) := by decide +kernel
theorem d_law_675 : decode code 675 = .ok (.ifCond .ne 15, 3) := by decide +kernel
theorem d_law_678 : decode code 678 = .ok (.aload_n 3, 1) := by decide +kernel
theorem d_law_679 : decode code 679 = .ok (.iconst 0, 1) := by decide +kernel
theorem d_law_680 : decode code 680 = .ok (.laload, 1) := by decide +kernel
theorem d_law_681 : decode code 681 = .ok (.iload 6, 2) := by decide +kernel
theorem d_law_683 : decode code 683 = .ok (.i2l, 1) := by decide +kernel
theorem d_law_684 : decode code 684 = .ok (.lcmp, 1) := by decide +kernel
theorem d_law_685 : decode code 685 = .ok (.ifCond .eq 5, 3) := by decide +kernel
theorem d_law_688 : decode code 688 = .ok (.iconst 0, 1) := by decide +kernel
theorem d_law_689 : decode code 689 = .ok (.ireturn, 1) := by decide +kernel
theorem d_law_690 : decode code 690 = .ok (.goto 233, 3) := by decide +kernel
theorem d_law_693 : decode code 693 = .ok (.aload_n 1, 1) := by decide +kernel
theorem d_law_694 : decode code 694 = .ok (.aload_n 0, 1) := by decide +kernel
theorem d_law_695 : decode code 695 = .ok (.iload 4, 2) := by decide +kernel
theorem d_law_697 : decode code 697 = .ok (.iconst 1, 1) := by decide +kernel
theorem d_law_698 : decode code 698 = .ok (.iadd, 1) := by decide +kernel
theorem d_law_699 : decode code 699 = .ok (.iaload, 1) := by decide +kernel
theorem d_law_700 : decode code 700 = .ok (.aload_n 0, 1) := by decide +kernel
theorem d_law_701 : decode code 701 = .ok (.iload 4, 2) := by decide +kernel
theorem d_law_703 : decode code 703 = .ok (.iconst 2, 1) := by decide +kernel
theorem d_law_704 : decode code 704 = .ok (.iadd, 1) := by decide +kernel
theorem d_law_705 : decode code 705 = .ok (.iaload, 1) := by decide +kernel
theorem d_law_706 : decode code 706 = .ok (.aload_n 3, 1) := by decide +kernel
theorem d_law_707 : decode code 707 = .ok (.invokestatic 102, 3) := by decide +kernel
theorem d_law_710 : decode code 710 = .ok (.istore 5, 2) := by decide +kernel
theorem d_law_712 : decode code 712 = .ok (.aload_n 2, 1) := by decide +kernel
theorem d_law_713 : decode code 713 = .ok (.aload_n 0, 1) := by decide +kernel
theorem d_law_714 : decode code 714 = .ok (.iload 4, 2) := by decide +kernel
theorem d_law_716 : decode code 716 = .ok (.iconst 1, 1) := by decide +kernel
theorem d_law_717 : decode code 717 = .ok (.iadd, 1) := by decide +kernel
theorem d_law_718 : decode code 718 = .ok (.iaload, 1) := by decide +kernel
theorem d_law_719 : decode code 719 = .ok (.aload_n 0, 1) := by decide +kernel
theorem d_law_720 : decode code 720 = .ok (.iload 4, 2) := by decide +kernel
theorem d_law_722 : decode code 722 = .ok (.iconst 2, 1) := by decide +kernel
theorem d_law_723 : decode code 723 = .ok (.iadd, 1) := by decide +kernel
theorem d_law_724 : decode code 724 = .ok (.iaload, 1) := by decide +kernel
theorem d_law_725 : decode code 725 = .ok (.invokevirtual 104, 3) := by decide +kernel
theorem d_law_728 : decode code 728 = .ok (.istore 6, 2) := by decide +kernel
theorem d_law_730 : decode code 730 = .ok (.aload_n 2, 1) := by decide +kernel
theorem d_law_731 : decode code 731 = .ok (.invokevirtual 67, 3) := by decide +kernel
theorem d_law_734 : decode code 734 = .ok (.iload 5, 2) := by decide +kernel
theorem d_law_736 : decode code 736 = .ok (.if_icmp .eq 5, 3) := by decide +kernel
theorem d_law_739 : decode code 739 = .ok (.iconst 0, 1) := by decide +kernel
theorem d_law_740 : decode code 740 = .ok (.ireturn, 1) := by decide +kernel
theorem d_law_741 : decode code 741 = .ok (.iload 5, 2) := by decide +kernel
theorem d_law_743 : decode code 743 = .ok (.ifCond .ne 15, 3) := by decide +kernel
theorem d_law_746 : decode code 746 = .ok (.aload_n 3, 1) := by decide +kernel
theorem d_law_747 : decode code 747 = .ok (.iconst 0, 1) := by decide +kernel
theorem d_law_748 : decode code 748 = .ok (.laload, 1) := by decide +kernel
theorem d_law_749 : decode code 749 = .ok (.iload 6, 2) := by decide +kernel
theorem d_law_751 : decode code 751 = .ok (.i2l, 1) := by decide +kernel
theorem d_law_752 : decode code 752 = .ok (.lcmp, 1) := by decide +kernel
theorem d_law_753 : decode code 753 = .ok (.ifCond .eq 5, 3) := by decide +kernel
theorem d_law_756 : decode code 756 = .ok (.iconst 0, 1) := by decide +kernel
theorem d_law_757 : decode code 757 = .ok (.ireturn, 1) := by decide +kernel
theorem d_law_758 : decode code 758 = .ok (.goto 165, 3) := by decide +kernel
theorem d_law_761 : decode code 761 = .ok (.aload_n 1, 1) := by decide +kernel
theorem d_law_762 : decode code 762 = .ok (.aload_n 0, 1) := by decide +kernel
theorem d_law_763 : decode code 763 = .ok (.iload 4, 2) := by decide +kernel
theorem d_law_765 : decode code 765 = .ok (.iconst 1, 1) := by decide +kernel
theorem d_law_766 : decode code 766 = .ok (.iadd, 1) := by decide +kernel
theorem d_law_767 : decode code 767 = .ok (.iaload, 1) := by decide +kernel
theorem d_law_768 : decode code 768 = .ok (.aload_n 3, 1) := by decide +kernel
theorem d_law_769 : decode code 769 = .ok (.invokestatic 105, 3) := by decide +kernel
theorem d_law_772 : decode code 772 = .ok (.istore 5, 2) := by decide +kernel
theorem d_law_774 : decode code 774 = .ok (.aload_n 2, 1) := by decide +kernel
theorem d_law_775 : decode code 775 = .ok (.aload_n 0, 1) := by decide +kernel
theorem d_law_776 : decode code 776 = .ok (.iload 4, 2) := by decide +kernel
theorem d_law_778 : decode code 778 = .ok (.iconst 1, 1) := by decide +kernel
theorem d_law_779 : decode code 779 = .ok (.iadd, 1) := by decide +kernel
theorem d_law_780 : decode code 780 = .ok (.iaload, 1) := by decide +kernel
theorem d_law_781 : decode code 781 = .ok (.invokevirtual 108, 3) := by decide +kernel
theorem d_law_784 : decode code 784 = .ok (.istore 6, 2) := by decide +kernel
theorem d_law_786 : decode code 786 = .ok (.aload_n 2, 1) := by decide +kernel
theorem d_law_787 : decode code 787 = .ok (.invokevirtual 67, 3) := by decide +kernel
theorem d_law_790 : decode code 790 = .ok (.iload 5, 2) := by decide +kernel
theorem d_law_792 : decode code 792 = .ok (.if_icmp .eq 5, 3) := by decide +kernel
theorem d_law_795 : decode code 795 = .ok (.iconst 0, 1) := by decide +kernel
theorem d_law_796 : decode code 796 = .ok (.ireturn, 1) := by decide +kernel
theorem d_law_797 : decode code 797 = .ok (.iload 5, 2) := by decide +kernel
theorem d_law_799 : decode code 799 = .ok (.ifCond .ne 15, 3) := by decide +kernel
theorem d_law_802 : decode code 802 = .ok (.aload_n 3, 1) := by decide +kernel
theorem d_law_803 : decode code 803 = .ok (.iconst 0, 1) := by decide +kernel
theorem d_law_804 : decode code 804 = .ok (.laload, 1) := by decide +kernel
theorem d_law_805 : decode code 805 = .ok (.iload 6, 2) := by decide +kernel
theorem d_law_807 : decode code 807 = .ok (.i2l, 1) := by decide +kernel
theorem d_law_808 : decode code 808 = .ok (.lcmp, 1) := by decide +kernel
theorem d_law_809 : decode code 809 = .ok (.ifCond .eq 5, 3) := by decide +kernel
theorem d_law_812 : decode code 812 = .ok (.iconst 0, 1) := by decide +kernel
theorem d_law_813 : decode code 813 = .ok (.ireturn, 1) := by decide +kernel
theorem d_law_814 : decode code 814 = .ok (.goto 109, 3) := by decide +kernel
theorem d_law_817 : decode code 817 = .ok (.aload_n 1, 1) := by decide +kernel
theorem d_law_818 : decode code 818 = .ok (.aload_n 0, 1) := by decide +kernel
theorem d_law_819 : decode code 819 = .ok (.iload 4, 2) := by decide +kernel
theorem d_law_821 : decode code 821 = .ok (.iconst 1, 1) := by decide +kernel
theorem d_law_822 : decode code 822 = .ok (.iadd, 1) := by decide +kernel
theorem d_law_823 : decode code 823 = .ok (.iaload, 1) := by decide +kernel
theorem d_law_824 : decode code 824 = .ok (.aload_n 3, 1) := by decide +kernel
theorem d_law_825 : decode code 825 = .ok (.invokestatic 109, 3) := by decide +kernel
theorem d_law_828 : decode code 828 = .ok (.istore 5, 2) := by decide +kernel
theorem d_law_830 : decode code 830 = .ok (.aload_n 2, 1) := by decide +kernel
theorem d_law_831 : decode code 831 = .ok (.aload_n 0, 1) := by decide +kernel
theorem d_law_832 : decode code 832 = .ok (.iload 4, 2) := by decide +kernel
theorem d_law_834 : decode code 834 = .ok (.iconst 1, 1) := by decide +kernel
theorem d_law_835 : decode code 835 = .ok (.iadd, 1) := by decide +kernel
theorem d_law_836 : decode code 836 = .ok (.iaload, 1) := by decide +kernel
theorem d_law_837 : decode code 837 = .ok (.invokevirtual 111, 3) := by decide +kernel
theorem d_law_840 : decode code 840 = .ok (.istore 6, 2) := by decide +kernel
theorem d_law_842 : decode code 842 = .ok (.aload_n 2, 1) := by decide +kernel
theorem d_law_843 : decode code 843 = .ok (.invokevirtual 67, 3) := by decide +kernel
theorem d_law_846 : decode code 846 = .ok (.iload 5, 2) := by decide +kernel
theorem d_law_848 : decode code 848 = .ok (.if_icmp .eq 5, 3) := by decide +kernel
theorem d_law_851 : decode code 851 = .ok (.iconst 0, 1) := by decide +kernel
theorem d_law_852 : decode code 852 = .ok (.ireturn, 1) := by decide +kernel
theorem d_law_853 : decode code 853 = .ok (.iload 5, 2) := by decide +kernel
theorem d_law_855 : decode code 855 = .ok (.ifCond .ne 15, 3) := by decide +kernel
theorem d_law_858 : decode code 858 = .ok (.aload_n 3, 1) := by decide +kernel
theorem d_law_859 : decode code 859 = .ok (.iconst 0, 1) := by decide +kernel
theorem d_law_860 : decode code 860 = .ok (.laload, 1) := by decide +kernel
theorem d_law_861 : decode code 861 = .ok (.iload 6, 2) := by decide +kernel
theorem d_law_863 : decode code 863 = .ok (.i2l, 1) := by decide +kernel
theorem d_law_864 : decode code 864 = .ok (.lcmp, 1) := by decide +kernel
theorem d_law_865 : decode code 865 = .ok (.ifCond .eq 5, 3) := by decide +kernel
theorem d_law_868 : decode code 868 = .ok (.iconst 0, 1) := by decide +kernel
theorem d_law_869 : decode code 869 = .ok (.ireturn, 1) := by decide +kernel
theorem d_law_870 : decode code 870 = .ok (.goto 53, 3) := by decide +kernel
theorem d_law_873 : decode code 873 = .ok (.aload_n 1, 1) := by decide +kernel
theorem d_law_874 : decode code 874 = .ok (.aload_n 0, 1) := by decide +kernel
theorem d_law_875 : decode code 875 = .ok (.iload 4, 2) := by decide +kernel
theorem d_law_877 : decode code 877 = .ok (.iconst 1, 1) := by decide +kernel
theorem d_law_878 : decode code 878 = .ok (.iadd, 1) := by decide +kernel
theorem d_law_879 : decode code 879 = .ok (.iaload, 1) := by decide +kernel
theorem d_law_880 : decode code 880 = .ok (.invokevirtual 112, 3) := by decide +kernel
theorem d_law_883 : decode code 883 = .ok (.aload_n 2, 1) := by decide +kernel
theorem d_law_884 : decode code 884 = .ok (.aload_n 0, 1) := by decide +kernel
theorem d_law_885 : decode code 885 = .ok (.iload 4, 2) := by decide +kernel
theorem d_law_887 : decode code 887 = .ok (.iconst 1, 1) := by decide +kernel
theorem d_law_888 : decode code 888 = .ok (.iadd, 1) := by decide +kernel
theorem d_law_889 : decode code 889 = .ok (.iaload, 1) := by decide +kernel
theorem d_law_890 : decode code 890 = .ok (.invokevirtual 115, 3) := by decide +kernel
theorem d_law_893 : decode code 893 = .ok (.if_icmp .eq 30, 3) := by decide +kernel
theorem d_law_896 : decode code 896 = .ok (.iconst 0, 1) := by decide +kernel
theorem d_law_897 : decode code 897 = .ok (.ireturn, 1) := by decide +kernel
theorem d_law_898 : decode code 898 = .ok (.aload_n 1, 1) := by decide +kernel
theorem d_law_899 : decode code 899 = .ok (.aload_n 0, 1) := by decide +kernel
theorem d_law_900 : decode code 900 = .ok (.iload 4, 2) := by decide +kernel
theorem d_law_902 : decode code 902 = .ok (.iconst 1, 1) := by decide +kernel
theorem d_law_903 : decode code 903 = .ok (.iadd, 1) := by decide +kernel
theorem d_law_904 : decode code 904 = .ok (.iaload, 1) := by decide +kernel
theorem d_law_905 : decode code 905 = .ok (.invokevirtual 116, 3) := by decide +kernel
theorem d_law_908 : decode code 908 = .ok (.aload_n 2, 1) := by decide +kernel
theorem d_law_909 : decode code 909 = .ok (.aload_n 0, 1) := by decide +kernel
theorem d_law_910 : decode code 910 = .ok (.iload 4, 2) := by decide +kernel
theorem d_law_912 : decode code 912 = .ok (.iconst 1, 1) := by decide +kernel
theorem d_law_913 : decode code 913 = .ok (.iadd, 1) := by decide +kernel
theorem d_law_914 : decode code 914 = .ok (.iaload, 1) := by decide +kernel
theorem d_law_915 : decode code 915 = .ok (.invokevirtual 119, 3) := by decide +kernel
theorem d_law_918 : decode code 918 = .ok (.if_icmp .eq 5, 3) := by decide +kernel
theorem d_law_921 : decode code 921 = .ok (.iconst 0, 1) := by decide +kernel
theorem d_law_922 : decode code 922 = .ok (.ireturn, 1) := by decide +kernel
theorem d_law_923 : decode code 923 = .ok (.iinc 4 4, 3) := by decide +kernel
theorem d_law_926 : decode code 926 = .ok (.goto (-863), 3) := by decide +kernel
theorem d_law_929 : decode code 929 = .ok (.iconst 1, 1) := by decide +kernel
theorem d_law_930 : decode code 930 = .ok (.ireturn, 1) := by decide +kernel
