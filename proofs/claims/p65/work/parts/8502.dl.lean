theorem dL_law_573 : decode code 573 = .ok (.iload 16, 2) := by decide +kernel
theorem dL_law_575 : decode code 575 = .ok (.iload 13, 2) := by decide +kernel
theorem dL_law_577 : decode code 577 = .ok (.invokestatic 95, 3) := by decide +kernel
theorem dL_law_580 : decode code 580 = .ok (.iload 14, 2) := by decide +kernel
theorem dL_law_582 : decode code 582 = .ok (.invokestatic 193, 3) := by decide +kernel
theorem dL_law_585 : decode code 585 = .ok (.iadd, 1) := by decide +kernel
theorem dL_law_586 : decode code 586 = .ok (.istore 15, 2) := by decide +kernel
theorem dL_law_588 : decode code 588 = .ok (.iinc 16 1, 3) := by decide +kernel
theorem dL_law_591 : decode code 591 = .ok (.goto (-27), 3) := by decide +kernel
theorem dL_law_594 : decode code 594 = .ok (.aload_n 1, 1) := by decide +kernel
theorem dL_law_595 : decode code 595 = .ok (.iload 13, 2) := by decide +kernel
theorem dL_law_597 : decode code 597 = .ok (.invokestatic 95, 3) := by decide +kernel
theorem dL_law_600 : decode code 600 = .ok (.iload 14, 2) := by decide +kernel
theorem dL_law_602 : decode code 602 = .ok (.invokevirtual 251, 3) := by decide +kernel
theorem dL_law_605 : decode code 605 = .ok (.iload 15, 2) := by decide +kernel
theorem dL_law_607 : decode code 607 = .ok (.if_icmp .eq 5, 3) := by decide +kernel
theorem dL_law_610 : decode code 610 = .ok (.iconst 0, 1) := by decide +kernel
theorem dL_law_611 : decode code 611 = .ok (.ireturn, 1) := by decide +kernel
theorem dL_law_612 : decode code 612 = .ok (.iinc 14 6, 3) := by decide +kernel
theorem dL_law_615 : decode code 615 = .ok (.goto (-64), 3) := by decide +kernel
theorem dL_law_618 : decode code 618 = .ok (.aload_n 1, 1) := by decide +kernel
theorem dL_law_619 : decode code 619 = .ok (.iload 13, 2) := by decide +kernel
theorem dL_law_621 : decode code 621 = .ok (.invokestatic 95, 3) := by decide +kernel
theorem dL_law_624 : decode code 624 = .ok (.iload 12, 2) := by decide +kernel
theorem dL_law_626 : decode code 626 = .ok (.invokevirtual 251, 3) := by decide +kernel
theorem dL_law_629 : decode code 629 = .ok (.istore 14, 2) := by decide +kernel
theorem dL_law_631 : decode code 631 = .ok (.iload 14, 2) := by decide +kernel
theorem dL_law_633 : decode code 633 = .ok (.iload 10, 2) := by decide +kernel
theorem dL_law_635 : decode code 635 = .ok (.if_icmp .le 8, 3) := by decide +kernel
theorem dL_law_638 : decode code 638 = .ok (.iload 13, 2) := by decide +kernel
theorem dL_law_640 : decode code 640 = .ok (.goto 5, 3) := by decide +kernel
theorem dL_law_643 : decode code 643 = .ok (.iload 9, 2) := by decide +kernel
theorem dL_law_645 : decode code 645 = .ok (.istore 9, 2) := by decide +kernel
theorem dL_law_647 : decode code 647 = .ok (.iload 10, 2) := by decide +kernel
theorem dL_law_649 : decode code 649 = .ok (.iload 14, 2) := by decide +kernel
theorem dL_law_651 : decode code 651 = .ok (.invokestatic 159, 3) := by decide +kernel
theorem dL_law_654 : decode code 654 = .ok (.istore 10, 2) := by decide +kernel
theorem dL_law_656 : decode code 656 = .ok (.iinc 13 1, 3) := by decide +kernel
theorem dL_law_659 : decode code 659 = .ok (.goto (-117), 3) := by decide +kernel
theorem dL_law_662 : decode code 662 = .ok (.bipush 23, 2) := by decide +kernel
theorem dL_law_664 : decode code 664 = .ok (.istore 13, 2) := by decide +kernel
theorem dL_law_666 : decode code 666 = .ok (.iload 13, 2) := by decide +kernel
theorem dL_law_668 : decode code 668 = .ok (.ifCond .lt 98, 3) := by decide +kernel
theorem dL_law_671 : decode code 671 = .ok (.aload_n 1, 1) := by decide +kernel
theorem dL_law_672 : decode code 672 = .ok (.invokevirtual 254, 3) := by decide +kernel
theorem dL_law_675 : decode code 675 = .ok (.iload 13, 2) := by decide +kernel
theorem dL_law_677 : decode code 677 = .ok (.iadd, 1) := by decide +kernel
theorem dL_law_678 : decode code 678 = .ok (.bipush 24, 2) := by decide +kernel
theorem dL_law_680 : decode code 680 = .ok (.irem, 1) := by decide +kernel
theorem dL_law_681 : decode code 681 = .ok (.istore 14, 2) := by decide +kernel
theorem dL_law_683 : decode code 683 = .ok (.aload_n 1, 1) := by decide +kernel
theorem dL_law_684 : decode code 684 = .ok (.iload 14, 2) := by decide +kernel
theorem dL_law_686 : decode code 686 = .ok (.invokevirtual 257, 3) := by decide +kernel
theorem dL_law_689 : decode code 689 = .ok (.istore 15, 2) := by decide +kernel
theorem dL_law_691 : decode code 691 = .ok (.iload 7, 2) := by decide +kernel
theorem dL_law_693 : decode code 693 = .ok (.iload 15, 2) := by decide +kernel
theorem dL_law_695 : decode code 695 = .ok (.ifCond .eq 7, 3) := by decide +kernel
theorem dL_law_698 : decode code 698 = .ok (.iconst 1, 1) := by decide +kernel
theorem dL_law_699 : decode code 699 = .ok (.goto 4, 3) := by decide +kernel
theorem dL_law_702 : decode code 702 = .ok (.iconst 0, 1) := by decide +kernel
theorem dL_law_703 : decode code 703 = .ok (.iadd, 1) := by decide +kernel
theorem dL_law_704 : decode code 704 = .ok (.istore 7, 2) := by decide +kernel
theorem dL_law_706 : decode code 706 = .ok (.iload 15, 2) := by decide +kernel
theorem dL_law_708 : decode code 708 = .ok (.ifCond .eq 8, 3) := by decide +kernel
theorem dL_law_711 : decode code 711 = .ok (.iload 13, 2) := by decide +kernel
theorem dL_law_713 : decode code 713 = .ok (.goto 5, 3) := by decide +kernel
theorem dL_law_716 : decode code 716 = .ok (.iload 8, 2) := by decide +kernel
theorem dL_law_718 : decode code 718 = .ok (.istore 8, 2) := by decide +kernel
theorem dL_law_720 : decode code 720 = .ok (.iload 15, 2) := by decide +kernel
theorem dL_law_722 : decode code 722 = .ok (.aload_n 1, 1) := by decide +kernel
theorem dL_law_723 : decode code 723 = .ok (.iload 14, 2) := by decide +kernel
theorem dL_law_725 : decode code 725 = .ok (.invokestatic 260, 3) := by decide +kernel
theorem dL_law_728 : decode code 728 = .ok (.ifCond .le 7, 3) := by decide +kernel
theorem dL_law_731 : decode code 731 = .ok (.iconst 1, 1) := by decide +kernel
theorem dL_law_732 : decode code 732 = .ok (.goto 4, 3) := by decide +kernel
theorem dL_law_735 : decode code 735 = .ok (.iconst 0, 1) := by decide +kernel
theorem dL_law_736 : decode code 736 = .ok (.if_icmp .ne 22, 3) := by decide +kernel
theorem dL_law_739 : decode code 739 = .ok (.iload 15, 2) := by decide +kernel
theorem dL_law_741 : decode code 741 = .ok (.aload_n 1, 1) := by decide +kernel
theorem dL_law_742 : decode code 742 = .ok (.iload 14, 2) := by decide +kernel
theorem dL_law_744 : decode code 744 = .ok (.invokestatic 262, 3) := by decide +kernel
theorem dL_law_747 : decode code 747 = .ok (.ifCond .le 7, 3) := by decide +kernel
theorem dL_law_750 : decode code 750 = .ok (.iconst 1, 1) := by decide +kernel
theorem dL_law_751 : decode code 751 = .ok (.goto 4, 3) := by decide +kernel
theorem dL_law_754 : decode code 754 = .ok (.iconst 0, 1) := by decide +kernel
theorem dL_law_755 : decode code 755 = .ok (.if_icmp .eq 5, 3) := by decide +kernel
theorem dL_law_758 : decode code 758 = .ok (.iconst 0, 1) := by decide +kernel
theorem dL_law_759 : decode code 759 = .ok (.ireturn, 1) := by decide +kernel
theorem dL_law_760 : decode code 760 = .ok (.iinc 13 (-1), 3) := by decide +kernel
theorem dL_law_763 : decode code 763 = .ok (.goto (-97), 3) := by decide +kernel
theorem dL_law_766 : decode code 766 = .ok (.aload_n 1, 1) := by decide +kernel
theorem dL_law_767 : decode code 767 = .ok (.invokevirtual 264, 3) := by decide +kernel
theorem dL_law_770 : decode code 770 = .ok (.iload 4, 2) := by decide +kernel
theorem dL_law_772 : decode code 772 = .ok (.if_icmp .ne 137, 3) := by decide +kernel
theorem dL_law_775 : decode code 775 = .ok (.aload_n 1, 1) := by decide +kernel
theorem dL_law_776 : decode code 776 = .ok (.invokevirtual 267, 3) := by decide +kernel
theorem dL_law_779 : decode code 779 = .ok (.iload 4, 2) := by decide +kernel
theorem dL_law_781 : decode code 781 = .ok (.if_icmp .ne 128, 3) := by decide +kernel
theorem dL_law_784 : decode code 784 = .ok (.aload_n 1, 1) := by decide +kernel
theorem dL_law_785 : decode code 785 = .ok (.invokevirtual 270, 3) := by decide +kernel
theorem dL_law_788 : decode code 788 = .ok (.iload 9, 2) := by decide +kernel
theorem dL_law_790 : decode code 790 = .ok (.invokestatic 95, 3) := by decide +kernel
theorem dL_law_793 : decode code 793 = .ok (.if_icmp .ne 116, 3) := by decide +kernel
theorem dL_law_796 : decode code 796 = .ok (.aload_n 1, 1) := by decide +kernel
theorem dL_law_797 : decode code 797 = .ok (.invokestatic 273, 3) := by decide +kernel
theorem dL_law_800 : decode code 800 = .ok (.iload 8, 2) := by decide +kernel
theorem dL_law_802 : decode code 802 = .ok (.if_icmp .ne 107, 3) := by decide +kernel
theorem dL_law_805 : decode code 805 = .ok (.aload_n 1, 1) := by decide +kernel
theorem dL_law_806 : decode code 806 = .ok (.invokevirtual 276, 3) := by decide +kernel
theorem dL_law_809 : decode code 809 = .ok (.iconst 2, 1) := by decide +kernel
theorem dL_law_810 : decode code 810 = .ok (.iload 6, 2) := by decide +kernel
theorem dL_law_812 : decode code 812 = .ok (.isub, 1) := by decide +kernel
theorem dL_law_813 : decode code 813 = .ok (.if_icmp .ne 96, 3) := by decide +kernel
theorem dL_law_816 : decode code 816 = .ok (.aload_n 1, 1) := by decide +kernel
theorem dL_law_817 : decode code 817 = .ok (.invokevirtual 279, 3) := by decide +kernel
theorem dL_law_820 : decode code 820 = .ok (.ifCond .eq 89, 3) := by decide +kernel
theorem dL_law_823 : decode code 823 = .ok (.aload_n 1, 1) := by decide +kernel
theorem dL_law_824 : decode code 824 = .ok (.invokevirtual 283, 3) := by decide +kernel
theorem dL_law_827 : decode code 827 = .ok (.aload_n 1, 1) := by decide +kernel
theorem dL_law_828 : decode code 828 = .ok (.invokevirtual 287, 3) := by decide +kernel
theorem dL_law_831 : decode code 831 = .ok (.aload_n 1, 1) := by decide +kernel
theorem dL_law_832 : decode code 832 = .ok (.invokevirtual 290, 3) := by decide +kernel
theorem dL_law_835 : decode code 835 = .ok (.ladd, 1) := by decide +kernel
theorem dL_law_836 : decode code 836 = .ok (.aload_n 1, 1) := by decide +kernel
theorem dL_law_837 : decode code 837 = .ok (.invokevirtual 293, 3) := by decide +kernel
theorem dL_law_840 : decode code 840 = .ok (.ladd, 1) := by decide +kernel
theorem dL_law_841 : decode code 841 = .ok (.lcmp, 1) := by decide +kernel
theorem dL_law_842 : decode code 842 = .ok (.ifCond .ne 67, 3) := by decide +kernel
theorem dL_law_845 : decode code 845 = .ok (.aload_n 1, 1) := by decide +kernel
theorem dL_law_846 : decode code 846 = .ok (.invokevirtual 293, 3) := by decide +kernel
theorem dL_law_849 : decode code 849 = .ok (.lconst 0, 1) := by decide +kernel
theorem dL_law_850 : decode code 850 = .ok (.lcmp, 1) := by decide +kernel
theorem dL_law_851 : decode code 851 = .ok (.ifCond .lt 58, 3) := by decide +kernel
theorem dL_law_854 : decode code 854 = .ok (.iload_n 3, 1) := by decide +kernel
theorem dL_law_855 : decode code 855 = .ok (.ifCond .le 31, 3) := by decide +kernel
theorem dL_law_858 : decode code 858 = .ok (.aload_n 1, 1) := by decide +kernel
theorem dL_law_859 : decode code 859 = .ok (.invokevirtual 296, 3) := by decide +kernel
theorem dL_law_862 : decode code 862 = .ok (.iload 4, 2) := by decide +kernel
theorem dL_law_864 : decode code 864 = .ok (.i2d, 1) := by decide +kernel
theorem dL_law_865 : decode code 865 = .ok (.iload_n 3, 1) := by decide +kernel
