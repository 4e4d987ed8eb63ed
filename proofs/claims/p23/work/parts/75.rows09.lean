theorem dL_locks_563 : decode cL_locks 563 = .ok (.iconst (-1), 1) := by decide +kernel
theorem dL_locks_564 : decode cL_locks 564 = .ok (.iconst 4, 1) := by decide +kernel
theorem dL_locks_565 : decode cL_locks 565 = .ok (.invokevirtual 13, 3) := by decide +kernel
theorem dL_locks_568 : decode cL_locks 568 = .ok (.ifCond .ne 248, 3) := by decide +kernel
theorem dL_locks_571 : decode cL_locks 571 = .ok (.aload_n 0, 1) := by decide +kernel
theorem dL_locks_572 : decode cL_locks 572 = .ok (.bipush 11, 2) := by decide +kernel
theorem dL_locks_574 : decode cL_locks 574 = .ok (.iconst 0, 1) := by decide +kernel
theorem dL_locks_575 : decode cL_locks 575 = .ok (.bipush 124, 2) := by decide +kernel
theorem dL_locks_577 : decode cL_locks 577 = .ok (.iconst 5, 1) := by decide +kernel
theorem dL_locks_578 : decode cL_locks 578 = .ok (.iconst 0, 1) := by decide +kernel
theorem dL_locks_579 : decode cL_locks 579 = .ok (.invokestatic 85, 3) := by decide +kernel
theorem dL_locks_582 : decode cL_locks 582 = .ok (.sipush (-9003), 3) := by decide +kernel
theorem dL_locks_585 : decode cL_locks 585 = .ok (.if_icmp .ne 231, 3) := by decide +kernel
theorem dL_locks_588 : decode cL_locks 588 = .ok (.aload_n 0, 1) := by decide +kernel
theorem dL_locks_589 : decode cL_locks 589 = .ok (.iconst 2, 1) := by decide +kernel
theorem dL_locks_590 : decode cL_locks 590 = .ok (.bipush 124, 2) := by decide +kernel
theorem dL_locks_592 : decode cL_locks 592 = .ok (.iconst 0, 1) := by decide +kernel
theorem dL_locks_593 : decode cL_locks 593 = .ok (.iconst 1, 1) := by decide +kernel
theorem dL_locks_594 : decode cL_locks 594 = .ok (.iconst 5, 1) := by decide +kernel
theorem dL_locks_595 : decode cL_locks 595 = .ok (.iconst 4, 1) := by decide +kernel
theorem dL_locks_596 : decode cL_locks 596 = .ok (.invokevirtual 48, 3) := by decide +kernel
theorem dL_locks_599 : decode cL_locks 599 = .ok (.iconst 4, 1) := by decide +kernel
theorem dL_locks_600 : decode cL_locks 600 = .ok (.if_icmp .ne 216, 3) := by decide +kernel
theorem dL_locks_603 : decode cL_locks 603 = .ok (.aload_n 0, 1) := by decide +kernel
theorem dL_locks_604 : decode cL_locks 604 = .ok (.bipush 124, 2) := by decide +kernel
theorem dL_locks_606 : decode cL_locks 606 = .ok (.invokevirtual 34, 3) := by decide +kernel
theorem dL_locks_609 : decode cL_locks 609 = .ok (.ifCond .ne 207, 3) := by decide +kernel
theorem dL_locks_612 : decode cL_locks 612 = .ok (.aload_n 0, 1) := by decide +kernel
theorem dL_locks_613 : decode cL_locks 613 = .ok (.bipush 124, 2) := by decide +kernel
theorem dL_locks_615 : decode cL_locks 615 = .ok (.invokevirtual 31, 3) := by decide +kernel
theorem dL_locks_618 : decode cL_locks 618 = .ok (.iconst 1, 1) := by decide +kernel
theorem dL_locks_619 : decode cL_locks 619 = .ok (.if_icmp .ne 197, 3) := by decide +kernel
theorem dL_locks_622 : decode cL_locks 622 = .ok (.aload_n 0, 1) := by decide +kernel
theorem dL_locks_623 : decode cL_locks 623 = .ok (.bipush 12, 2) := by decide +kernel
theorem dL_locks_625 : decode cL_locks 625 = .ok (.bipush 121, 2) := by decide +kernel
theorem dL_locks_627 : decode cL_locks 627 = .ok (.bipush 123, 2) := by decide +kernel
theorem dL_locks_629 : decode cL_locks 629 = .ok (.bipush 124, 2) := by decide +kernel
theorem dL_locks_631 : decode cL_locks 631 = .ok (.invokestatic 96, 3) := by decide +kernel
theorem dL_locks_634 : decode cL_locks 634 = .ok (.ifCond .eq 182, 3) := by decide +kernel
theorem dL_locks_637 : decode cL_locks 637 = .ok (.aload_n 0, 1) := by decide +kernel
theorem dL_locks_638 : decode cL_locks 638 = .ok (.iconst 0, 1) := by decide +kernel
theorem dL_locks_639 : decode cL_locks 639 = .ok (.bipush 124, 2) := by decide +kernel
theorem dL_locks_641 : decode cL_locks 641 = .ok (.iconst 0, 1) := by decide +kernel
theorem dL_locks_642 : decode cL_locks 642 = .ok (.iconst 0, 1) := by decide +kernel
theorem dL_locks_643 : decode cL_locks 643 = .ok (.invokevirtual 44, 3) := by decide +kernel
theorem dL_locks_646 : decode cL_locks 646 = .ok (.iconst 4, 1) := by decide +kernel
theorem dL_locks_647 : decode cL_locks 647 = .ok (.if_icmp .ne 169, 3) := by decide +kernel
theorem dL_locks_650 : decode cL_locks 650 = .ok (.aload_n 0, 1) := by decide +kernel
theorem dL_locks_651 : decode cL_locks 651 = .ok (.iconst 3, 1) := by decide +kernel
theorem dL_locks_652 : decode cL_locks 652 = .ok (.bipush 124, 2) := by decide +kernel
theorem dL_locks_654 : decode cL_locks 654 = .ok (.iconst 0, 1) := by decide +kernel
theorem dL_locks_655 : decode cL_locks 655 = .ok (.bipush 8, 2) := by decide +kernel
theorem dL_locks_657 : decode cL_locks 657 = .ok (.invokevirtual 44, 3) := by decide +kernel
theorem dL_locks_660 : decode cL_locks 660 = .ok (.ifCond .ne 156, 3) := by decide +kernel
theorem dL_locks_663 : decode cL_locks 663 = .ok (.aload_n 0, 1) := by decide +kernel
theorem dL_locks_664 : decode cL_locks 664 = .ok (.bipush 12, 2) := by decide +kernel
theorem dL_locks_666 : decode cL_locks 666 = .ok (.bipush 124, 2) := by decide +kernel
theorem dL_locks_668 : decode cL_locks 668 = .ok (.bipush 121, 2) := by decide +kernel
theorem dL_locks_670 : decode cL_locks 670 = .ok (.bipush 123, 2) := by decide +kernel
theorem dL_locks_672 : decode cL_locks 672 = .ok (.invokestatic 96, 3) := by decide +kernel
theorem dL_locks_675 : decode cL_locks 675 = .ok (.ifCond .eq 141, 3) := by decide +kernel
theorem dL_locks_678 : decode cL_locks 678 = .ok (.aload_n 0, 1) := by decide +kernel
theorem dL_locks_679 : decode cL_locks 679 = .ok (.invokestatic 92, 3) := by decide +kernel
theorem dL_locks_682 : decode cL_locks 682 = .ok (.ifCond .eq 134, 3) := by decide +kernel
theorem dL_locks_685 : decode cL_locks 685 = .ok (.aload_n 0, 1) := by decide +kernel
theorem dL_locks_686 : decode cL_locks 686 = .ok (.iconst 4, 1) := by decide +kernel
theorem dL_locks_687 : decode cL_locks 687 = .ok (.invokevirtual 55, 3) := by decide +kernel
theorem dL_locks_690 : decode cL_locks 690 = .ok (.ifCond .ne 126, 3) := by decide +kernel
theorem dL_locks_693 : decode cL_locks 693 = .ok (.aload_n 0, 1) := by decide +kernel
theorem dL_locks_694 : decode cL_locks 694 = .ok (.iconst 1, 1) := by decide +kernel
theorem dL_locks_695 : decode cL_locks 695 = .ok (.invokevirtual 55, 3) := by decide +kernel
theorem dL_locks_698 : decode cL_locks 698 = .ok (.iconst 1, 1) := by decide +kernel
theorem dL_locks_699 : decode cL_locks 699 = .ok (.if_icmp .ne 117, 3) := by decide +kernel
theorem dL_locks_702 : decode cL_locks 702 = .ok (.aload_n 0, 1) := by decide +kernel
theorem dL_locks_703 : decode cL_locks 703 = .ok (.bipush 12, 2) := by decide +kernel
theorem dL_locks_705 : decode cL_locks 705 = .ok (.iconst 2, 1) := by decide +kernel
theorem dL_locks_706 : decode cL_locks 706 = .ok (.iconst 4, 1) := by decide +kernel
theorem dL_locks_707 : decode cL_locks 707 = .ok (.iconst 5, 1) := by decide +kernel
theorem dL_locks_708 : decode cL_locks 708 = .ok (.iconst 0, 1) := by decide +kernel
theorem dL_locks_709 : decode cL_locks 709 = .ok (.invokestatic 85, 3) := by decide +kernel
theorem dL_locks_712 : decode cL_locks 712 = .ok (.sipush (-9001), 3) := by decide +kernel
theorem dL_locks_715 : decode cL_locks 715 = .ok (.if_icmp .ne 101, 3) := by decide +kernel
theorem dL_locks_718 : decode cL_locks 718 = .ok (.aload_n 0, 1) := by decide +kernel
theorem dL_locks_719 : decode cL_locks 719 = .ok (.bipush 124, 2) := by decide +kernel
theorem dL_locks_721 : decode cL_locks 721 = .ok (.invokevirtual 58, 3) := by decide +kernel
theorem dL_locks_724 : decode cL_locks 724 = .ok (.ifCond .ne 92, 3) := by decide +kernel
theorem dL_locks_727 : decode cL_locks 727 = .ok (.aload_n 0, 1) := by decide +kernel
theorem dL_locks_728 : decode cL_locks 728 = .ok (.iconst 5, 1) := by decide +kernel
theorem dL_locks_729 : decode cL_locks 729 = .ok (.invokevirtual 55, 3) := by decide +kernel
theorem dL_locks_732 : decode cL_locks 732 = .ok (.iconst 1, 1) := by decide +kernel
theorem dL_locks_733 : decode cL_locks 733 = .ok (.if_icmp .ne 83, 3) := by decide +kernel
theorem dL_locks_736 : decode cL_locks 736 = .ok (.aload_n 0, 1) := by decide +kernel
theorem dL_locks_737 : decode cL_locks 737 = .ok (.iconst 2, 1) := by decide +kernel
theorem dL_locks_738 : decode cL_locks 738 = .ok (.iconst 2, 1) := by decide +kernel
theorem dL_locks_739 : decode cL_locks 739 = .ok (.bipush 100, 2) := by decide +kernel
theorem dL_locks_741 : decode cL_locks 741 = .ok (.invokevirtual 52, 3) := by decide +kernel
theorem dL_locks_744 : decode cL_locks 744 = .ok (.bipush 40, 2) := by decide +kernel
theorem dL_locks_746 : decode cL_locks 746 = .ok (.if_icmp .ne 70, 3) := by decide +kernel
theorem dL_locks_749 : decode cL_locks 749 = .ok (.aload_n 0, 1) := by decide +kernel
theorem dL_locks_750 : decode cL_locks 750 = .ok (.bipush 12, 2) := by decide +kernel
theorem dL_locks_752 : decode cL_locks 752 = .ok (.iconst 3, 1) := by decide +kernel
theorem dL_locks_753 : decode cL_locks 753 = .ok (.iconst 2, 1) := by decide +kernel
theorem dL_locks_754 : decode cL_locks 754 = .ok (.iconst 5, 1) := by decide +kernel
theorem dL_locks_755 : decode cL_locks 755 = .ok (.iconst 0, 1) := by decide +kernel
theorem dL_locks_756 : decode cL_locks 756 = .ok (.invokestatic 85, 3) := by decide +kernel
theorem dL_locks_759 : decode cL_locks 759 = .ok (.sipush (-9003), 3) := by decide +kernel
theorem dL_locks_762 : decode cL_locks 762 = .ok (.if_icmp .ne 54, 3) := by decide +kernel
theorem dL_locks_765 : decode cL_locks 765 = .ok (.aload_n 0, 1) := by decide +kernel
theorem dL_locks_766 : decode cL_locks 766 = .ok (.bipush 12, 2) := by decide +kernel
theorem dL_locks_768 : decode cL_locks 768 = .ok (.iconst 2, 1) := by decide +kernel
theorem dL_locks_769 : decode cL_locks 769 = .ok (.iconst 2, 1) := by decide +kernel
theorem dL_locks_770 : decode cL_locks 770 = .ok (.sipush 1001, 3) := by decide +kernel
theorem dL_locks_773 : decode cL_locks 773 = .ok (.iconst 0, 1) := by decide +kernel
theorem dL_locks_774 : decode cL_locks 774 = .ok (.invokestatic 85, 3) := by decide +kernel
theorem dL_locks_777 : decode cL_locks 777 = .ok (.sipush (-9002), 3) := by decide +kernel
theorem dL_locks_780 : decode cL_locks 780 = .ok (.if_icmp .ne 36, 3) := by decide +kernel
theorem dL_locks_783 : decode cL_locks 783 = .ok (.aload_n 0, 1) := by decide +kernel
theorem dL_locks_784 : decode cL_locks 784 = .ok (.iconst 2, 1) := by decide +kernel
theorem dL_locks_785 : decode cL_locks 785 = .ok (.iconst 2, 1) := by decide +kernel
theorem dL_locks_786 : decode cL_locks 786 = .ok (.iconst 0, 1) := by decide +kernel
theorem dL_locks_787 : decode cL_locks 787 = .ok (.invokevirtual 52, 3) := by decide +kernel
theorem dL_locks_790 : decode cL_locks 790 = .ok (.bipush 100, 2) := by decide +kernel
theorem dL_locks_792 : decode cL_locks 792 = .ok (.if_icmp .ne 24, 3) := by decide +kernel
theorem dL_locks_795 : decode cL_locks 795 = .ok (.aload_n 0, 1) := by decide +kernel
theorem dL_locks_796 : decode cL_locks 796 = .ok (.bipush 12, 2) := by decide +kernel
theorem dL_locks_798 : decode cL_locks 798 = .ok (.invokevirtual 58, 3) := by decide +kernel
theorem dL_locks_801 : decode cL_locks 801 = .ok (.ifCond .ne 15, 3) := by decide +kernel
theorem dL_locks_804 : decode cL_locks 804 = .ok (.aload_n 0, 1) := by decide +kernel
theorem dL_locks_805 : decode cL_locks 805 = .ok (.iconst 1, 1) := by decide +kernel
theorem dL_locks_806 : decode cL_locks 806 = .ok (.iconst 1, 1) := by decide +kernel
theorem dL_locks_807 : decode cL_locks 807 = .ok (.iconst 0, 1) := by decide +kernel
theorem dL_locks_808 : decode cL_locks 808 = .ok (.invokevirtual 52, 3) := by decide +kernel
theorem dL_locks_811 : decode cL_locks 811 = .ok (.bipush 90, 2) := by decide +kernel
theorem dL_locks_813 : decode cL_locks 813 = .ok (.if_icmp .eq 5, 3) := by decide +kernel
theorem dL_locks_816 : decode cL_locks 816 = .ok (.iconst 0, 1) := by decide +kernel
theorem dL_locks_817 : decode cL_locks 817 = .ok (.ireturn, 1) := by decide +kernel
theorem dL_locks_818 : decode cL_locks 818 = .ok (.aload_n 0, 1) := by decide +kernel
theorem dL_locks_819 : decode cL_locks 819 = .ok (.iconst 1, 1) := by decide +kernel
theorem dL_locks_820 : decode cL_locks 820 = .ok (.iconst 1, 1) := by decide +kernel
theorem dL_locks_821 : decode cL_locks 821 = .ok (.iconst 1, 1) := by decide +kernel
theorem dL_locks_822 : decode cL_locks 822 = .ok (.iconst 1, 1) := by decide +kernel
theorem dL_locks_823 : decode cL_locks 823 = .ok (.sipush 1000, 3) := by decide +kernel
theorem dL_locks_826 : decode cL_locks 826 = .ok (.iconst 0, 1) := by decide +kernel
theorem dL_locks_827 : decode cL_locks 827 = .ok (.invokevirtual 48, 3) := by decide +kernel
theorem dL_locks_830 : decode cL_locks 830 = .ok (.iconst 5, 1) := by decide +kernel
theorem dL_locks_831 : decode cL_locks 831 = .ok (.if_icmp .ne 299, 3) := by decide +kernel
theorem dL_locks_834 : decode cL_locks 834 = .ok (.aload_n 0, 1) := by decide +kernel
theorem dL_locks_835 : decode cL_locks 835 = .ok (.iconst 2, 1) := by decide +kernel
theorem dL_locks_836 : decode cL_locks 836 = .ok (.bipush 12, 2) := by decide +kernel
theorem dL_locks_838 : decode cL_locks 838 = .ok (.iconst 1, 1) := by decide +kernel
theorem dL_locks_839 : decode cL_locks 839 = .ok (.iconst 1, 1) := by decide +kernel
theorem dL_locks_840 : decode cL_locks 840 = .ok (.sipush 1000, 3) := by decide +kernel
theorem dL_locks_843 : decode cL_locks 843 = .ok (.iconst 0, 1) := by decide +kernel
theorem dL_locks_844 : decode cL_locks 844 = .ok (.invokevirtual 48, 3) := by decide +kernel
theorem dL_locks_847 : decode cL_locks 847 = .ok (.bipush 6, 2) := by decide +kernel
theorem dL_locks_849 : decode cL_locks 849 = .ok (.if_icmp .ne 281, 3) := by decide +kernel
theorem dL_locks_852 : decode cL_locks 852 = .ok (.aload_n 0, 1) := by decide +kernel
theorem dL_locks_853 : decode cL_locks 853 = .ok (.bipush 121, 2) := by decide +kernel
theorem dL_locks_855 : decode cL_locks 855 = .ok (.invokevirtual 58, 3) := by decide +kernel
theorem dL_locks_858 : decode cL_locks 858 = .ok (.bipush 96, 2) := by decide +kernel
theorem dL_locks_860 : decode cL_locks 860 = .ok (.if_icmp .ne 270, 3) := by decide +kernel
theorem dL_locks_863 : decode cL_locks 863 = .ok (.aload_n 0, 1) := by decide +kernel
theorem dL_locks_864 : decode cL_locks 864 = .ok (.iconst 1, 1) := by decide +kernel
theorem dL_locks_865 : decode cL_locks 865 = .ok (.bipush 121, 2) := by decide +kernel
theorem dL_locks_867 : decode cL_locks 867 = .ok (.bipush 32, 2) := by decide +kernel
theorem dL_locks_869 : decode cL_locks 869 = .ok (.invokevirtual 61, 3) := by decide +kernel
theorem dL_locks_872 : decode cL_locks 872 = .ok (.ifCond .eq 258, 3) := by decide +kernel
theorem dL_locks_875 : decode cL_locks 875 = .ok (.aload_n 0, 1) := by decide +kernel
theorem dL_locks_876 : decode cL_locks 876 = .ok (.iconst 2, 1) := by decide +kernel
theorem dL_locks_877 : decode cL_locks 877 = .ok (.bipush 121, 2) := by decide +kernel
theorem dL_locks_879 : decode cL_locks 879 = .ok (.bipush 32, 2) := by decide +kernel
theorem dL_locks_881 : decode cL_locks 881 = .ok (.invokevirtual 61, 3) := by decide +kernel
theorem dL_locks_884 : decode cL_locks 884 = .ok (.ifCond .ne 246, 3) := by decide +kernel
theorem dL_locks_887 : decode cL_locks 887 = .ok (.aload_n 0, 1) := by decide +kernel
theorem dL_locks_888 : decode cL_locks 888 = .ok (.iconst 2, 1) := by decide +kernel
theorem dL_locks_889 : decode cL_locks 889 = .ok (.bipush 121, 2) := by decide +kernel
theorem dL_locks_891 : decode cL_locks 891 = .ok (.bipush 64, 2) := by decide +kernel
theorem dL_locks_893 : decode cL_locks 893 = .ok (.invokevirtual 61, 3) := by decide +kernel
theorem dL_locks_896 : decode cL_locks 896 = .ok (.ifCond .eq 234, 3) := by decide +kernel
theorem dL_locks_899 : decode cL_locks 899 = .ok (.aload_n 0, 1) := by decide +kernel
theorem dL_locks_900 : decode cL_locks 900 = .ok (.iconst 1, 1) := by decide +kernel
theorem dL_locks_901 : decode cL_locks 901 = .ok (.invokevirtual 58, 3) := by decide +kernel
theorem dL_locks_904 : decode cL_locks 904 = .ok (.bipush 32, 2) := by decide +kernel
theorem dL_locks_906 : decode cL_locks 906 = .ok (.if_icmp .ne 224, 3) := by decide +kernel
theorem dL_locks_909 : decode cL_locks 909 = .ok (.aload_n 0, 1) := by decide +kernel
theorem dL_locks_910 : decode cL_locks 910 = .ok (.bipush 19, 2) := by decide +kernel
theorem dL_locks_912 : decode cL_locks 912 = .ok (.invokevirtual 58, 3) := by decide +kernel
theorem dL_locks_915 : decode cL_locks 915 = .ok (.bipush 32, 2) := by decide +kernel
theorem dL_locks_917 : decode cL_locks 917 = .ok (.if_icmp .ne 213, 3) := by decide +kernel
theorem dL_locks_920 : decode cL_locks 920 = .ok (.aload_n 0, 1) := by decide +kernel
theorem dL_locks_921 : decode cL_locks 921 = .ok (.iconst 0, 1) := by decide +kernel
theorem dL_locks_922 : decode cL_locks 922 = .ok (.bipush 19, 2) := by decide +kernel
theorem dL_locks_924 : decode cL_locks 924 = .ok (.iconst 1, 1) := by decide +kernel
theorem dL_locks_925 : decode cL_locks 925 = .ok (.iconst (-1), 1) := by decide +kernel
theorem dL_locks_926 : decode cL_locks 926 = .ok (.iconst 0, 1) := by decide +kernel
theorem dL_locks_927 : decode cL_locks 927 = .ok (.invokevirtual 13, 3) := by decide +kernel
theorem dL_locks_930 : decode cL_locks 930 = .ok (.iconst 4, 1) := by decide +kernel
theorem dL_locks_931 : decode cL_locks 931 = .ok (.if_icmp .ne 199, 3) := by decide +kernel
theorem dL_locks_934 : decode cL_locks 934 = .ok (.aload_n 0, 1) := by decide +kernel
theorem dL_locks_935 : decode cL_locks 935 = .ok (.iconst 0, 1) := by decide +kernel
