theorem dL_law_469 : decode cL_law 469 = .ok (.iload 12, 2) := by decide +kernel
theorem dL_law_471 : decode cL_law 471 = .ok (.iload 13, 2) := by decide +kernel
theorem dL_law_473 : decode cL_law 473 = .ok (.invokevirtual 37, 3) := by decide +kernel
theorem dL_law_476 : decode cL_law 476 = .ok (.istore 15, 2) := by decide +kernel
theorem dL_law_478 : decode cL_law 478 = .ok (.iload 14, 2) := by decide +kernel
theorem dL_law_480 : decode cL_law 480 = .ok (.ifCond .lt 14, 3) := by decide +kernel
theorem dL_law_483 : decode cL_law 483 = .ok (.aload_n 2, 1) := by decide +kernel
theorem dL_law_484 : decode cL_law 484 = .ok (.iload 12, 2) := by decide +kernel
theorem dL_law_486 : decode cL_law 486 = .ok (.iload 14, 2) := by decide +kernel
theorem dL_law_488 : decode cL_law 488 = .ok (.invokevirtual 37, 3) := by decide +kernel
theorem dL_law_491 : decode cL_law 491 = .ok (.ifCond .eq 63, 3) := by decide +kernel
theorem dL_law_494 : decode cL_law 494 = .ok (.iload 14, 2) := by decide +kernel
theorem dL_law_496 : decode cL_law 496 = .ok (.ifCond .ge 8, 3) := by decide +kernel
theorem dL_law_499 : decode cL_law 499 = .ok (.iload 15, 2) := by decide +kernel
theorem dL_law_501 : decode cL_law 501 = .ok (.ifCond .ne 53, 3) := by decide +kernel
theorem dL_law_504 : decode cL_law 504 = .ok (.iload 15, 2) := by decide +kernel
theorem dL_law_506 : decode cL_law 506 = .ok (.ifCond .eq 50, 3) := by decide +kernel
theorem dL_law_509 : decode cL_law 509 = .ok (.aload_n 2, 1) := by decide +kernel
theorem dL_law_510 : decode cL_law 510 = .ok (.iload 12, 2) := by decide +kernel
theorem dL_law_512 : decode cL_law 512 = .ok (.iload 13, 2) := by decide +kernel
theorem dL_law_514 : decode cL_law 514 = .ok (.invokestatic 129, 3) := by decide +kernel
theorem dL_law_517 : decode cL_law 517 = .ok (.aload_n 2, 1) := by decide +kernel
theorem dL_law_518 : decode cL_law 518 = .ok (.iload 12, 2) := by decide +kernel
theorem dL_law_520 : decode cL_law 520 = .ok (.iload 14, 2) := by decide +kernel
theorem dL_law_522 : decode cL_law 522 = .ok (.invokestatic 129, 3) := by decide +kernel
theorem dL_law_525 : decode cL_law 525 = .ok (.if_icmp .gt 29, 3) := by decide +kernel
theorem dL_law_528 : decode cL_law 528 = .ok (.aload_n 2, 1) := by decide +kernel
theorem dL_law_529 : decode cL_law 529 = .ok (.iload 12, 2) := by decide +kernel
theorem dL_law_531 : decode cL_law 531 = .ok (.iload 13, 2) := by decide +kernel
theorem dL_law_533 : decode cL_law 533 = .ok (.invokestatic 129, 3) := by decide +kernel
theorem dL_law_536 : decode cL_law 536 = .ok (.aload_n 2, 1) := by decide +kernel
theorem dL_law_537 : decode cL_law 537 = .ok (.iload 12, 2) := by decide +kernel
theorem dL_law_539 : decode cL_law 539 = .ok (.iload 14, 2) := by decide +kernel
theorem dL_law_541 : decode cL_law 541 = .ok (.invokestatic 129, 3) := by decide +kernel
theorem dL_law_544 : decode cL_law 544 = .ok (.if_icmp .ne 12, 3) := by decide +kernel
theorem dL_law_547 : decode cL_law 547 = .ok (.iload 13, 2) := by decide +kernel
theorem dL_law_549 : decode cL_law 549 = .ok (.iload 14, 2) := by decide +kernel
theorem dL_law_551 : decode cL_law 551 = .ok (.if_icmp .ge 5, 3) := by decide +kernel
theorem dL_law_554 : decode cL_law 554 = .ok (.iconst 0, 1) := by decide +kernel
theorem dL_law_555 : decode cL_law 555 = .ok (.ireturn, 1) := by decide +kernel
theorem dL_law_556 : decode cL_law 556 = .ok (.aload_n 2, 1) := by decide +kernel
theorem dL_law_557 : decode cL_law 557 = .ok (.invokevirtual 132, 3) := by decide +kernel
theorem dL_law_560 : decode cL_law 560 = .ok (.astore 16, 2) := by decide +kernel
theorem dL_law_562 : decode cL_law 562 = .ok (.aload_n 1, 1) := by decide +kernel
theorem dL_law_563 : decode cL_law 563 = .ok (.iload 12, 2) := by decide +kernel
theorem dL_law_565 : decode cL_law 565 = .ok (.invokevirtual 136, 3) := by decide +kernel
theorem dL_law_568 : decode cL_law 568 = .ok (.istore 17, 2) := by decide +kernel
theorem dL_law_570 : decode cL_law 570 = .ok (.iload 4, 2) := by decide +kernel
theorem dL_law_572 : decode cL_law 572 = .ok (.iconst 4, 1) := by decide +kernel
theorem dL_law_573 : decode cL_law 573 = .ok (.ishr, 1) := by decide +kernel
theorem dL_law_574 : decode cL_law 574 = .ok (.bipush 24, 2) := by decide +kernel
theorem dL_law_576 : decode cL_law 576 = .ok (.invokestatic 15, 3) := by decide +kernel
theorem dL_law_579 : decode cL_law 579 = .ok (.istore 18, 2) := by decide +kernel
theorem dL_law_581 : decode cL_law 581 = .ok (.iload 17, 2) := by decide +kernel
theorem dL_law_583 : decode cL_law 583 = .ok (.ifCond .lt 10, 3) := by decide +kernel
theorem dL_law_586 : decode cL_law 586 = .ok (.iload 17, 2) := by decide +kernel
theorem dL_law_588 : decode cL_law 588 = .ok (.bipush 23, 2) := by decide +kernel
theorem dL_law_590 : decode cL_law 590 = .ok (.if_icmp .le 5, 3) := by decide +kernel
theorem dL_law_593 : decode cL_law 593 = .ok (.iconst 0, 1) := by decide +kernel
theorem dL_law_594 : decode cL_law 594 = .ok (.ireturn, 1) := by decide +kernel
theorem dL_law_595 : decode cL_law 595 = .ok (.aload 16, 2) := by decide +kernel
theorem dL_law_597 : decode cL_law 597 = .ok (.iload 17, 2) := by decide +kernel
theorem dL_law_599 : decode cL_law 599 = .ok (.invokevirtual 64, 3) := by decide +kernel
theorem dL_law_602 : decode cL_law 602 = .ok (.pop, 1) := by decide +kernel
theorem dL_law_603 : decode cL_law 603 = .ok (.aload 16, 2) := by decide +kernel
theorem dL_law_605 : decode cL_law 605 = .ok (.iload 12, 2) := by decide +kernel
theorem dL_law_607 : decode cL_law 607 = .ok (.invokevirtual 51, 3) := by decide +kernel
theorem dL_law_610 : decode cL_law 610 = .ok (.istore 19, 2) := by decide +kernel
theorem dL_law_612 : decode cL_law 612 = .ok (.aload_n 2, 1) := by decide +kernel
theorem dL_law_613 : decode cL_law 613 = .ok (.invokevirtual 132, 3) := by decide +kernel
theorem dL_law_616 : decode cL_law 616 = .ok (.astore 16, 2) := by decide +kernel
theorem dL_law_618 : decode cL_law 618 = .ok (.aload 16, 2) := by decide +kernel
theorem dL_law_620 : decode cL_law 620 = .ok (.iload 18, 2) := by decide +kernel
theorem dL_law_622 : decode cL_law 622 = .ok (.invokevirtual 64, 3) := by decide +kernel
theorem dL_law_625 : decode cL_law 625 = .ok (.pop, 1) := by decide +kernel
theorem dL_law_626 : decode cL_law 626 = .ok (.aload 16, 2) := by decide +kernel
theorem dL_law_628 : decode cL_law 628 = .ok (.iload 12, 2) := by decide +kernel
theorem dL_law_630 : decode cL_law 630 = .ok (.invokevirtual 51, 3) := by decide +kernel
theorem dL_law_633 : decode cL_law 633 = .ok (.iload 19, 2) := by decide +kernel
theorem dL_law_635 : decode cL_law 635 = .ok (.if_icmp .gt 22, 3) := by decide +kernel
theorem dL_law_638 : decode cL_law 638 = .ok (.iload 18, 2) := by decide +kernel
theorem dL_law_640 : decode cL_law 640 = .ok (.iload 17, 2) := by decide +kernel
theorem dL_law_642 : decode cL_law 642 = .ok (.if_icmp .ge 17, 3) := by decide +kernel
theorem dL_law_645 : decode cL_law 645 = .ok (.aload 16, 2) := by decide +kernel
theorem dL_law_647 : decode cL_law 647 = .ok (.iload 12, 2) := by decide +kernel
theorem dL_law_649 : decode cL_law 649 = .ok (.invokevirtual 51, 3) := by decide +kernel
theorem dL_law_652 : decode cL_law 652 = .ok (.iload 19, 2) := by decide +kernel
theorem dL_law_654 : decode cL_law 654 = .ok (.if_icmp .ne 5, 3) := by decide +kernel
theorem dL_law_657 : decode cL_law 657 = .ok (.iconst 0, 1) := by decide +kernel
theorem dL_law_658 : decode cL_law 658 = .ok (.ireturn, 1) := by decide +kernel
theorem dL_law_659 : decode cL_law 659 = .ok (.aload_n 1, 1) := by decide +kernel
theorem dL_law_660 : decode cL_law 660 = .ok (.invokevirtual 139, 3) := by decide +kernel
theorem dL_law_663 : decode cL_law 663 = .ok (.istore 20, 2) := by decide +kernel
theorem dL_law_665 : decode cL_law 665 = .ok (.aload_n 1, 1) := by decide +kernel
theorem dL_law_666 : decode cL_law 666 = .ok (.invokevirtual 142, 3) := by decide +kernel
theorem dL_law_669 : decode cL_law 669 = .ok (.istore 21, 2) := by decide +kernel
theorem dL_law_671 : decode cL_law 671 = .ok (.iload 7, 2) := by decide +kernel
theorem dL_law_673 : decode cL_law 673 = .ok (.newarray .int, 2) := by decide +kernel
theorem dL_law_675 : decode cL_law 675 = .ok (.astore 22, 2) := by decide +kernel
theorem dL_law_677 : decode cL_law 677 = .ok (.iconst 0, 1) := by decide +kernel
theorem dL_law_678 : decode cL_law 678 = .ok (.istore 23, 2) := by decide +kernel
theorem dL_law_680 : decode cL_law 680 = .ok (.iload 23, 2) := by decide +kernel
theorem dL_law_682 : decode cL_law 682 = .ok (.iload 7, 2) := by decide +kernel
theorem dL_law_684 : decode cL_law 684 = .ok (.if_icmp .ge 45, 3) := by decide +kernel
theorem dL_law_687 : decode cL_law 687 = .ok (.aload 22, 2) := by decide +kernel
theorem dL_law_689 : decode cL_law 689 = .ok (.iload 23, 2) := by decide +kernel
theorem dL_law_691 : decode cL_law 691 = .ok (.aload_n 1, 1) := by decide +kernel
theorem dL_law_692 : decode cL_law 692 = .ok (.iload 23, 2) := by decide +kernel
theorem dL_law_694 : decode cL_law 694 = .ok (.invokevirtual 145, 3) := by decide +kernel
theorem dL_law_697 : decode cL_law 697 = .ok (.aload_n 1, 1) := by decide +kernel
theorem dL_law_698 : decode cL_law 698 = .ok (.iload 23, 2) := by decide +kernel
theorem dL_law_700 : decode cL_law 700 = .ok (.invokevirtual 148, 3) := by decide +kernel
theorem dL_law_703 : decode cL_law 703 = .ok (.iadd, 1) := by decide +kernel
theorem dL_law_704 : decode cL_law 704 = .ok (.iastore, 1) := by decide +kernel
theorem dL_law_705 : decode cL_law 705 = .ok (.aload 22, 2) := by decide +kernel
theorem dL_law_707 : decode cL_law 707 = .ok (.iload 23, 2) := by decide +kernel
theorem dL_law_709 : decode cL_law 709 = .ok (.iaload, 1) := by decide +kernel
theorem dL_law_710 : decode cL_law 710 = .ok (.aload_n 1, 1) := by decide +kernel
theorem dL_law_711 : decode cL_law 711 = .ok (.iload 23, 2) := by decide +kernel
theorem dL_law_713 : decode cL_law 713 = .ok (.invokevirtual 145, 3) := by decide +kernel
theorem dL_law_716 : decode cL_law 716 = .ok (.iconst 3, 1) := by decide +kernel
theorem dL_law_717 : decode cL_law 717 = .ok (.iadd, 1) := by decide +kernel
theorem dL_law_718 : decode cL_law 718 = .ok (.if_icmp .le 5, 3) := by decide +kernel
theorem dL_law_721 : decode cL_law 721 = .ok (.iconst 0, 1) := by decide +kernel
theorem dL_law_722 : decode cL_law 722 = .ok (.ireturn, 1) := by decide +kernel
theorem dL_law_723 : decode cL_law 723 = .ok (.iinc 23 1, 3) := by decide +kernel
theorem dL_law_726 : decode cL_law 726 = .ok (.goto (-46), 3) := by decide +kernel
theorem dL_law_729 : decode cL_law 729 = .ok (.iconst 0, 1) := by decide +kernel
theorem dL_law_730 : decode cL_law 730 = .ok (.istore 23, 2) := by decide +kernel
theorem dL_law_732 : decode cL_law 732 = .ok (.iload 23, 2) := by decide +kernel
theorem dL_law_734 : decode cL_law 734 = .ok (.iload 7, 2) := by decide +kernel
theorem dL_law_736 : decode cL_law 736 = .ok (.if_icmp .ge 44, 3) := by decide +kernel
theorem dL_law_739 : decode cL_law 739 = .ok (.aload 22, 2) := by decide +kernel
theorem dL_law_741 : decode cL_law 741 = .ok (.iload 23, 2) := by decide +kernel
theorem dL_law_743 : decode cL_law 743 = .ok (.iaload, 1) := by decide +kernel
theorem dL_law_744 : decode cL_law 744 = .ok (.aload 22, 2) := by decide +kernel
theorem dL_law_746 : decode cL_law 746 = .ok (.iload 21, 2) := by decide +kernel
theorem dL_law_748 : decode cL_law 748 = .ok (.iaload, 1) := by decide +kernel
theorem dL_law_749 : decode cL_law 749 = .ok (.if_icmp .gt 23, 3) := by decide +kernel
theorem dL_law_752 : decode cL_law 752 = .ok (.iload 23, 2) := by decide +kernel
theorem dL_law_754 : decode cL_law 754 = .ok (.iload 21, 2) := by decide +kernel
theorem dL_law_756 : decode cL_law 756 = .ok (.if_icmp .ge 18, 3) := by decide +kernel
theorem dL_law_759 : decode cL_law 759 = .ok (.aload 22, 2) := by decide +kernel
theorem dL_law_761 : decode cL_law 761 = .ok (.iload 23, 2) := by decide +kernel
theorem dL_law_763 : decode cL_law 763 = .ok (.iaload, 1) := by decide +kernel
theorem dL_law_764 : decode cL_law 764 = .ok (.aload 22, 2) := by decide +kernel
theorem dL_law_766 : decode cL_law 766 = .ok (.iload 21, 2) := by decide +kernel
theorem dL_law_768 : decode cL_law 768 = .ok (.iaload, 1) := by decide +kernel
theorem dL_law_769 : decode cL_law 769 = .ok (.if_icmp .ne 5, 3) := by decide +kernel
theorem dL_law_772 : decode cL_law 772 = .ok (.iconst 0, 1) := by decide +kernel
theorem dL_law_773 : decode cL_law 773 = .ok (.ireturn, 1) := by decide +kernel
theorem dL_law_774 : decode cL_law 774 = .ok (.iinc 23 1, 3) := by decide +kernel
theorem dL_law_777 : decode cL_law 777 = .ok (.goto (-45), 3) := by decide +kernel
theorem dL_law_780 : decode cL_law 780 = .ok (.iload 20, 2) := by decide +kernel
theorem dL_law_782 : decode cL_law 782 = .ok (.iconst 1, 1) := by decide +kernel
theorem dL_law_783 : decode cL_law 783 = .ok (.if_icmp .lt 20, 3) := by decide +kernel
theorem dL_law_786 : decode cL_law 786 = .ok (.iload 20, 2) := by decide +kernel
theorem dL_law_788 : decode cL_law 788 = .ok (.bipush 24, 2) := by decide +kernel
theorem dL_law_790 : decode cL_law 790 = .ok (.if_icmp .gt 13, 3) := by decide +kernel
theorem dL_law_793 : decode cL_law 793 = .ok (.aload_n 1, 1) := by decide +kernel
theorem dL_law_794 : decode cL_law 794 = .ok (.invokevirtual 82, 3) := by decide +kernel
theorem dL_law_797 : decode cL_law 797 = .ok (.lload 5, 2) := by decide +kernel
theorem dL_law_799 : decode cL_law 799 = .ok (.lcmp, 1) := by decide +kernel
theorem dL_law_800 : decode cL_law 800 = .ok (.ifCond .eq 5, 3) := by decide +kernel
theorem dL_law_803 : decode cL_law 803 = .ok (.iconst 0, 1) := by decide +kernel
theorem dL_law_804 : decode cL_law 804 = .ok (.ireturn, 1) := by decide +kernel
theorem dL_law_805 : decode cL_law 805 = .ok (.iload 4, 2) := by decide +kernel
theorem dL_law_807 : decode cL_law 807 = .ok (.iconst 3, 1) := by decide +kernel
theorem dL_law_808 : decode cL_law 808 = .ok (.invokestatic 15, 3) := by decide +kernel
theorem dL_law_811 : decode cL_law 811 = .ok (.ifCond .le 6, 3) := by decide +kernel
theorem dL_law_814 : decode cL_law 814 = .ok (.goto 147, 3) := by decide +kernel
theorem dL_law_817 : decode cL_law 817 = .ok (.aload_n 1, 1) := by decide +kernel
theorem dL_law_818 : decode cL_law 818 = .ok (.iload 20, 2) := by decide +kernel
theorem dL_law_820 : decode cL_law 820 = .ok (.invokevirtual 61, 3) := by decide +kernel
theorem dL_law_823 : decode cL_law 823 = .ok (.istore 23, 2) := by decide +kernel
theorem dL_law_825 : decode cL_law 825 = .ok (.iload 23, 2) := by decide +kernel
theorem dL_law_827 : decode cL_law 827 = .ok (.iload 9, 2) := by decide +kernel
theorem dL_law_829 : decode cL_law 829 = .ok (.iload 10, 2) := by decide +kernel
theorem dL_law_831 : decode cL_law 831 = .ok (.isub, 1) := by decide +kernel
theorem dL_law_832 : decode cL_law 832 = .ok (.if_icmp .ne 41, 3) := by decide +kernel
theorem dL_law_835 : decode cL_law 835 = .ok (.aload_n 2, 1) := by decide +kernel
theorem dL_law_836 : decode cL_law 836 = .ok (.iload 20, 2) := by decide +kernel
theorem dL_law_838 : decode cL_law 838 = .ok (.invokevirtual 64, 3) := by decide +kernel
theorem dL_law_841 : decode cL_law 841 = .ok (.iload 23, 2) := by decide +kernel
theorem dL_law_843 : decode cL_law 843 = .ok (.if_icmp .ne 30, 3) := by decide +kernel
theorem dL_law_846 : decode cL_law 846 = .ok (.aload_n 1, 1) := by decide +kernel
theorem dL_law_847 : decode cL_law 847 = .ok (.invokevirtual 89, 3) := by decide +kernel
theorem dL_law_850 : decode cL_law 850 = .ok (.bipush 12, 2) := by decide +kernel
theorem dL_law_852 : decode cL_law 852 = .ok (.if_icmp .ne 21, 3) := by decide +kernel
theorem dL_law_855 : decode cL_law 855 = .ok (.aload_n 1, 1) := by decide +kernel
theorem dL_law_856 : decode cL_law 856 = .ok (.invokevirtual 120, 3) := by decide +kernel
theorem dL_law_859 : decode cL_law 859 = .ok (.iload 10, 2) := by decide +kernel
theorem dL_law_861 : decode cL_law 861 = .ok (.if_icmp .ne 12, 3) := by decide +kernel
theorem dL_law_864 : decode cL_law 864 = .ok (.aload_n 1, 1) := by decide +kernel
theorem dL_law_865 : decode cL_law 865 = .ok (.invokevirtual 123, 3) := by decide +kernel
theorem dL_law_868 : decode cL_law 868 = .ok (.iload 10, 2) := by decide +kernel
theorem dL_law_870 : decode cL_law 870 = .ok (.if_icmp .eq 5, 3) := by decide +kernel
theorem dL_law_873 : decode cL_law 873 = .ok (.iconst 0, 1) := by decide +kernel
theorem dL_law_874 : decode cL_law 874 = .ok (.ireturn, 1) := by decide +kernel
theorem dL_law_875 : decode cL_law 875 = .ok (.iconst 0, 1) := by decide +kernel
theorem dL_law_876 : decode cL_law 876 = .ok (.istore 24, 2) := by decide +kernel
theorem dL_law_878 : decode cL_law 878 = .ok (.iload 24, 2) := by decide +kernel
theorem dL_law_880 : decode cL_law 880 = .ok (.iload 7, 2) := by decide +kernel
theorem dL_law_882 : decode cL_law 882 = .ok (.if_icmp .ge 79, 3) := by decide +kernel
theorem dL_law_885 : decode cL_law 885 = .ok (.aload_n 1, 1) := by decide +kernel
theorem dL_law_886 : decode cL_law 886 = .ok (.iload 24, 2) := by decide +kernel
theorem dL_law_888 : decode cL_law 888 = .ok (.invokevirtual 145, 3) := by decide +kernel
theorem dL_law_891 : decode cL_law 891 = .ok (.aload 22, 2) := by decide +kernel
theorem dL_law_893 : decode cL_law 893 = .ok (.iload 24, 2) := by decide +kernel
theorem dL_law_895 : decode cL_law 895 = .ok (.iaload, 1) := by decide +kernel
theorem dL_law_896 : decode cL_law 896 = .ok (.if_icmp .ne 57, 3) := by decide +kernel
theorem dL_law_899 : decode cL_law 899 = .ok (.aload_n 1, 1) := by decide +kernel
theorem dL_law_900 : decode cL_law 900 = .ok (.iload 24, 2) := by decide +kernel
theorem dL_law_902 : decode cL_law 902 = .ok (.invokevirtual 98, 3) := by decide +kernel
theorem dL_law_905 : decode cL_law 905 = .ok (.ifCond .ne 48, 3) := by decide +kernel
theorem dL_law_908 : decode cL_law 908 = .ok (.aload_n 1, 1) := by decide +kernel
theorem dL_law_909 : decode cL_law 909 = .ok (.iload 24, 2) := by decide +kernel
theorem dL_law_911 : decode cL_law 911 = .ok (.invokevirtual 92, 3) := by decide +kernel
theorem dL_law_914 : decode cL_law 914 = .ok (.aload_n 2, 1) := by decide +kernel
theorem dL_law_915 : decode cL_law 915 = .ok (.getfield 9, 3) := by decide +kernel
theorem dL_law_918 : decode cL_law 918 = .ok (.iload 24, 2) := by decide +kernel
theorem dL_law_920 : decode cL_law 920 = .ok (.aaload, 1) := by decide +kernel
theorem dL_law_921 : decode cL_law 921 = .ok (.iconst 1, 1) := by decide +kernel
theorem dL_law_922 : decode cL_law 922 = .ok (.iaload, 1) := by decide +kernel
theorem dL_law_923 : decode cL_law 923 = .ok (.ifCond .le 8, 3) := by decide +kernel
theorem dL_law_926 : decode cL_law 926 = .ok (.iload 24, 2) := by decide +kernel
theorem dL_law_928 : decode cL_law 928 = .ok (.goto 4, 3) := by decide +kernel
theorem dL_law_931 : decode cL_law 931 = .ok (.iconst (-1), 1) := by decide +kernel
theorem dL_law_932 : decode cL_law 932 = .ok (.if_icmp .ne 21, 3) := by decide +kernel
theorem dL_law_935 : decode cL_law 935 = .ok (.aload_n 1, 1) := by decide +kernel
theorem dL_law_936 : decode cL_law 936 = .ok (.iload 24, 2) := by decide +kernel
theorem dL_law_938 : decode cL_law 938 = .ok (.invokevirtual 117, 3) := by decide +kernel
theorem dL_law_941 : decode cL_law 941 = .ok (.ifCond .ne 12, 3) := by decide +kernel
theorem dL_law_944 : decode cL_law 944 = .ok (.aload_n 1, 1) := by decide +kernel
theorem dL_law_945 : decode cL_law 945 = .ok (.iload 24, 2) := by decide +kernel
theorem dL_law_947 : decode cL_law 947 = .ok (.invokevirtual 101, 3) := by decide +kernel
theorem dL_law_950 : decode cL_law 950 = .ok (.ifCond .eq 5, 3) := by decide +kernel
theorem dL_law_953 : decode cL_law 953 = .ok (.iconst 0, 1) := by decide +kernel
theorem dL_law_954 : decode cL_law 954 = .ok (.ireturn, 1) := by decide +kernel
theorem dL_law_955 : decode cL_law 955 = .ok (.iinc 24 1, 3) := by decide +kernel
theorem dL_law_958 : decode cL_law 958 = .ok (.goto (-80), 3) := by decide +kernel
theorem dL_law_961 : decode cL_law 961 = .ok (.iinc 3 1, 3) := by decide +kernel
theorem dL_law_964 : decode cL_law 964 = .ok (.goto (-942), 3) := by decide +kernel
theorem dL_law_967 : decode cL_law 967 = .ok (.aload_n 2, 1) := by decide +kernel
theorem dL_law_968 : decode cL_law 968 = .ok (.aload_n 1, 1) := by decide +kernel
theorem dL_law_969 : decode cL_law 969 = .ok (.invokevirtual 151, 3) := by decide +kernel
theorem dL_law_972 : decode cL_law 972 = .ok (.ireturn, 1) := by decide +kernel
