theorem dL_trees_542 : decode cL_trees 542 = .ok (.bipush 21, 2) := by decide +kernel
theorem dL_trees_544 : decode cL_trees 544 = .ok (.invokevirtual 34, 3) := by decide +kernel
theorem dL_trees_547 : decode cL_trees 547 = .ok (.bipush 6, 2) := by decide +kernel
theorem dL_trees_549 : decode cL_trees 549 = .ok (.if_icmp .ne 193, 3) := by decide +kernel
theorem dL_trees_552 : decode cL_trees 552 = .ok (.aload_n 0, 1) := by decide +kernel
theorem dL_trees_553 : decode cL_trees 553 = .ok (.iconst 0, 1) := by decide +kernel
theorem dL_trees_554 : decode cL_trees 554 = .ok (.bipush 21, 2) := by decide +kernel
theorem dL_trees_556 : decode cL_trees 556 = .ok (.iconst 0, 1) := by decide +kernel
theorem dL_trees_557 : decode cL_trees 557 = .ok (.iconst 0, 1) := by decide +kernel
theorem dL_trees_558 : decode cL_trees 558 = .ok (.invokevirtual 68, 3) := by decide +kernel
theorem dL_trees_561 : decode cL_trees 561 = .ok (.iconst 1, 1) := by decide +kernel
theorem dL_trees_562 : decode cL_trees 562 = .ok (.if_icmp .ne 180, 3) := by decide +kernel
theorem dL_trees_565 : decode cL_trees 565 = .ok (.aload_n 0, 1) := by decide +kernel
theorem dL_trees_566 : decode cL_trees 566 = .ok (.iconst 0, 1) := by decide +kernel
theorem dL_trees_567 : decode cL_trees 567 = .ok (.iconst 1, 1) := by decide +kernel
theorem dL_trees_568 : decode cL_trees 568 = .ok (.iconst 2, 1) := by decide +kernel
theorem dL_trees_569 : decode cL_trees 569 = .ok (.iconst 0, 1) := by decide +kernel
theorem dL_trees_570 : decode cL_trees 570 = .ok (.iconst 0, 1) := by decide +kernel
theorem dL_trees_571 : decode cL_trees 571 = .ok (.invokevirtual 24, 3) := by decide +kernel
theorem dL_trees_574 : decode cL_trees 574 = .ok (.iconst 2, 1) := by decide +kernel
theorem dL_trees_575 : decode cL_trees 575 = .ok (.if_icmp .ne 167, 3) := by decide +kernel
theorem dL_trees_578 : decode cL_trees 578 = .ok (.aload_n 0, 1) := by decide +kernel
theorem dL_trees_579 : decode cL_trees 579 = .ok (.iconst 0, 1) := by decide +kernel
theorem dL_trees_580 : decode cL_trees 580 = .ok (.iconst 3, 1) := by decide +kernel
theorem dL_trees_581 : decode cL_trees 581 = .ok (.iconst 4, 1) := by decide +kernel
theorem dL_trees_582 : decode cL_trees 582 = .ok (.iconst 0, 1) := by decide +kernel
theorem dL_trees_583 : decode cL_trees 583 = .ok (.iconst 0, 1) := by decide +kernel
theorem dL_trees_584 : decode cL_trees 584 = .ok (.invokevirtual 24, 3) := by decide +kernel
theorem dL_trees_587 : decode cL_trees 587 = .ok (.iconst 1, 1) := by decide +kernel
theorem dL_trees_588 : decode cL_trees 588 = .ok (.if_icmp .ne 154, 3) := by decide +kernel
theorem dL_trees_591 : decode cL_trees 591 = .ok (.aload_n 0, 1) := by decide +kernel
theorem dL_trees_592 : decode cL_trees 592 = .ok (.iconst 0, 1) := by decide +kernel
theorem dL_trees_593 : decode cL_trees 593 = .ok (.iconst 1, 1) := by decide +kernel
theorem dL_trees_594 : decode cL_trees 594 = .ok (.bipush 31, 2) := by decide +kernel
theorem dL_trees_596 : decode cL_trees 596 = .ok (.iconst 0, 1) := by decide +kernel
theorem dL_trees_597 : decode cL_trees 597 = .ok (.iconst 0, 1) := by decide +kernel
theorem dL_trees_598 : decode cL_trees 598 = .ok (.invokevirtual 24, 3) := by decide +kernel
theorem dL_trees_601 : decode cL_trees 601 = .ok (.iconst 1, 1) := by decide +kernel
theorem dL_trees_602 : decode cL_trees 602 = .ok (.if_icmp .ne 140, 3) := by decide +kernel
theorem dL_trees_605 : decode cL_trees 605 = .ok (.aload_n 0, 1) := by decide +kernel
theorem dL_trees_606 : decode cL_trees 606 = .ok (.iconst 0, 1) := by decide +kernel
theorem dL_trees_607 : decode cL_trees 607 = .ok (.bipush 12, 2) := by decide +kernel
theorem dL_trees_609 : decode cL_trees 609 = .ok (.sipush 224, 3) := by decide +kernel
theorem dL_trees_612 : decode cL_trees 612 = .ok (.iconst 0, 1) := by decide +kernel
theorem dL_trees_613 : decode cL_trees 613 = .ok (.iconst 0, 1) := by decide +kernel
theorem dL_trees_614 : decode cL_trees 614 = .ok (.invokevirtual 24, 3) := by decide +kernel
theorem dL_trees_617 : decode cL_trees 617 = .ok (.ifCond .ne 125, 3) := by decide +kernel
theorem dL_trees_620 : decode cL_trees 620 = .ok (.aload_n 0, 1) := by decide +kernel
theorem dL_trees_621 : decode cL_trees 621 = .ok (.sipush 2242, 3) := by decide +kernel
theorem dL_trees_624 : decode cL_trees 624 = .ok (.invokevirtual 34, 3) := by decide +kernel
theorem dL_trees_627 : decode cL_trees 627 = .ok (.bipush 8, 2) := by decide +kernel
theorem dL_trees_629 : decode cL_trees 629 = .ok (.if_icmp .ne 113, 3) := by decide +kernel
theorem dL_trees_632 : decode cL_trees 632 = .ok (.aload_n 0, 1) := by decide +kernel
theorem dL_trees_633 : decode cL_trees 633 = .ok (.bipush 22, 2) := by decide +kernel
theorem dL_trees_635 : decode cL_trees 635 = .ok (.sipush 221, 3) := by decide +kernel
theorem dL_trees_638 : decode cL_trees 638 = .ok (.sipush 222, 3) := by decide +kernel
theorem dL_trees_641 : decode cL_trees 641 = .ok (.sipush 224, 3) := by decide +kernel
theorem dL_trees_644 : decode cL_trees 644 = .ok (.invokestatic 96, 3) := by decide +kernel
theorem dL_trees_647 : decode cL_trees 647 = .ok (.ifCond .eq 95, 3) := by decide +kernel
theorem dL_trees_650 : decode cL_trees 650 = .ok (.aload_n 0, 1) := by decide +kernel
theorem dL_trees_651 : decode cL_trees 651 = .ok (.iconst 0, 1) := by decide +kernel
theorem dL_trees_652 : decode cL_trees 652 = .ok (.iconst 1, 1) := by decide +kernel
theorem dL_trees_653 : decode cL_trees 653 = .ok (.sipush 225, 3) := by decide +kernel
theorem dL_trees_656 : decode cL_trees 656 = .ok (.iconst 0, 1) := by decide +kernel
theorem dL_trees_657 : decode cL_trees 657 = .ok (.iconst 0, 1) := by decide +kernel
theorem dL_trees_658 : decode cL_trees 658 = .ok (.invokevirtual 24, 3) := by decide +kernel
theorem dL_trees_661 : decode cL_trees 661 = .ok (.iconst 1, 1) := by decide +kernel
theorem dL_trees_662 : decode cL_trees 662 = .ok (.if_icmp .ne 80, 3) := by decide +kernel
theorem dL_trees_665 : decode cL_trees 665 = .ok (.aload_n 0, 1) := by decide +kernel
theorem dL_trees_666 : decode cL_trees 666 = .ok (.iconst 0, 1) := by decide +kernel
theorem dL_trees_667 : decode cL_trees 667 = .ok (.sipush 224, 3) := by decide +kernel
theorem dL_trees_670 : decode cL_trees 670 = .ok (.iconst 1, 1) := by decide +kernel
theorem dL_trees_671 : decode cL_trees 671 = .ok (.iconst 0, 1) := by decide +kernel
theorem dL_trees_672 : decode cL_trees 672 = .ok (.invokevirtual 44, 3) := by decide +kernel
theorem dL_trees_675 : decode cL_trees 675 = .ok (.ifCond .ne 67, 3) := by decide +kernel
theorem dL_trees_678 : decode cL_trees 678 = .ok (.aload_n 0, 1) := by decide +kernel
theorem dL_trees_679 : decode cL_trees 679 = .ok (.bipush 22, 2) := by decide +kernel
theorem dL_trees_681 : decode cL_trees 681 = .ok (.sipush 221, 3) := by decide +kernel
theorem dL_trees_684 : decode cL_trees 684 = .ok (.sipush 224, 3) := by decide +kernel
theorem dL_trees_687 : decode cL_trees 687 = .ok (.sipush 222, 3) := by decide +kernel
theorem dL_trees_690 : decode cL_trees 690 = .ok (.invokestatic 96, 3) := by decide +kernel
theorem dL_trees_693 : decode cL_trees 693 = .ok (.ifCond .eq 49, 3) := by decide +kernel
theorem dL_trees_696 : decode cL_trees 696 = .ok (.aload_n 0, 1) := by decide +kernel
theorem dL_trees_697 : decode cL_trees 697 = .ok (.iconst 0, 1) := by decide +kernel
theorem dL_trees_698 : decode cL_trees 698 = .ok (.sipush 221, 3) := by decide +kernel
theorem dL_trees_701 : decode cL_trees 701 = .ok (.bipush 99, 2) := by decide +kernel
theorem dL_trees_703 : decode cL_trees 703 = .ok (.iconst 0, 1) := by decide +kernel
theorem dL_trees_704 : decode cL_trees 704 = .ok (.invokevirtual 44, 3) := by decide +kernel
theorem dL_trees_707 : decode cL_trees 707 = .ok (.ifCond .ne 35, 3) := by decide +kernel
theorem dL_trees_710 : decode cL_trees 710 = .ok (.aload_n 0, 1) := by decide +kernel
theorem dL_trees_711 : decode cL_trees 711 = .ok (.bipush 22, 2) := by decide +kernel
theorem dL_trees_713 : decode cL_trees 713 = .ok (.sipush 224, 3) := by decide +kernel
theorem dL_trees_716 : decode cL_trees 716 = .ok (.sipush 222, 3) := by decide +kernel
theorem dL_trees_719 : decode cL_trees 719 = .ok (.sipush 221, 3) := by decide +kernel
theorem dL_trees_722 : decode cL_trees 722 = .ok (.invokestatic 96, 3) := by decide +kernel
theorem dL_trees_725 : decode cL_trees 725 = .ok (.ifCond .eq 17, 3) := by decide +kernel
theorem dL_trees_728 : decode cL_trees 728 = .ok (.aload_n 0, 1) := by decide +kernel
theorem dL_trees_729 : decode cL_trees 729 = .ok (.iconst 0, 1) := by decide +kernel
theorem dL_trees_730 : decode cL_trees 730 = .ok (.sipush 229, 3) := by decide +kernel
theorem dL_trees_733 : decode cL_trees 733 = .ok (.iconst 0, 1) := by decide +kernel
theorem dL_trees_734 : decode cL_trees 734 = .ok (.iconst 0, 1) := by decide +kernel
theorem dL_trees_735 : decode cL_trees 735 = .ok (.invokevirtual 44, 3) := by decide +kernel
theorem dL_trees_738 : decode cL_trees 738 = .ok (.iconst 1, 1) := by decide +kernel
theorem dL_trees_739 : decode cL_trees 739 = .ok (.if_icmp .eq 5, 3) := by decide +kernel
theorem dL_trees_742 : decode cL_trees 742 = .ok (.iconst 0, 1) := by decide +kernel
theorem dL_trees_743 : decode cL_trees 743 = .ok (.ireturn, 1) := by decide +kernel
theorem dL_trees_744 : decode cL_trees 744 = .ok (.aload_n 0, 1) := by decide +kernel
theorem dL_trees_745 : decode cL_trees 745 = .ok (.iconst 0, 1) := by decide +kernel
theorem dL_trees_746 : decode cL_trees 746 = .ok (.bipush 11, 2) := by decide +kernel
theorem dL_trees_748 : decode cL_trees 748 = .ok (.bipush 23, 2) := by decide +kernel
theorem dL_trees_750 : decode cL_trees 750 = .ok (.iconst 0, 1) := by decide +kernel
theorem dL_trees_751 : decode cL_trees 751 = .ok (.iconst 0, 1) := by decide +kernel
theorem dL_trees_752 : decode cL_trees 752 = .ok (.invokevirtual 28, 3) := by decide +kernel
theorem dL_trees_755 : decode cL_trees 755 = .ok (.ifCond .ne 262, 3) := by decide +kernel
theorem dL_trees_758 : decode cL_trees 758 = .ok (.aload_n 0, 1) := by decide +kernel
theorem dL_trees_759 : decode cL_trees 759 = .ok (.bipush 11, 2) := by decide +kernel
theorem dL_trees_761 : decode cL_trees 761 = .ok (.invokevirtual 31, 3) := by decide +kernel
theorem dL_trees_764 : decode cL_trees 764 = .ok (.iconst (-1), 1) := by decide +kernel
theorem dL_trees_765 : decode cL_trees 765 = .ok (.if_icmp .ne 252, 3) := by decide +kernel
theorem dL_trees_768 : decode cL_trees 768 = .ok (.aload_n 0, 1) := by decide +kernel
theorem dL_trees_769 : decode cL_trees 769 = .ok (.bipush 23, 2) := by decide +kernel
theorem dL_trees_771 : decode cL_trees 771 = .ok (.invokevirtual 34, 3) := by decide +kernel
theorem dL_trees_774 : decode cL_trees 774 = .ok (.bipush 6, 2) := by decide +kernel
theorem dL_trees_776 : decode cL_trees 776 = .ok (.if_icmp .ne 241, 3) := by decide +kernel
theorem dL_trees_779 : decode cL_trees 779 = .ok (.aload_n 0, 1) := by decide +kernel
theorem dL_trees_780 : decode cL_trees 780 = .ok (.iconst 0, 1) := by decide +kernel
theorem dL_trees_781 : decode cL_trees 781 = .ok (.bipush 23, 2) := by decide +kernel
theorem dL_trees_783 : decode cL_trees 783 = .ok (.iconst 1, 1) := by decide +kernel
theorem dL_trees_784 : decode cL_trees 784 = .ok (.iconst 0, 1) := by decide +kernel
theorem dL_trees_785 : decode cL_trees 785 = .ok (.invokevirtual 68, 3) := by decide +kernel
theorem dL_trees_788 : decode cL_trees 788 = .ok (.ifCond .ne 229, 3) := by decide +kernel
theorem dL_trees_791 : decode cL_trees 791 = .ok (.aload_n 0, 1) := by decide +kernel
theorem dL_trees_792 : decode cL_trees 792 = .ok (.bipush 23, 2) := by decide +kernel
theorem dL_trees_794 : decode cL_trees 794 = .ok (.invokevirtual 34, 3) := by decide +kernel
theorem dL_trees_797 : decode cL_trees 797 = .ok (.iconst 1, 1) := by decide +kernel
theorem dL_trees_798 : decode cL_trees 798 = .ok (.if_icmp .ne 219, 3) := by decide +kernel
theorem dL_trees_801 : decode cL_trees 801 = .ok (.aload_n 0, 1) := by decide +kernel
theorem dL_trees_802 : decode cL_trees 802 = .ok (.iconst 2, 1) := by decide +kernel
theorem dL_trees_803 : decode cL_trees 803 = .ok (.bipush 21, 2) := by decide +kernel
theorem dL_trees_805 : decode cL_trees 805 = .ok (.bipush 22, 2) := by decide +kernel
theorem dL_trees_807 : decode cL_trees 807 = .ok (.bipush 23, 2) := by decide +kernel
theorem dL_trees_809 : decode cL_trees 809 = .ok (.invokestatic 96, 3) := by decide +kernel
theorem dL_trees_812 : decode cL_trees 812 = .ok (.ifCond .eq 205, 3) := by decide +kernel
theorem dL_trees_815 : decode cL_trees 815 = .ok (.aload_n 0, 1) := by decide +kernel
theorem dL_trees_816 : decode cL_trees 816 = .ok (.iconst 0, 1) := by decide +kernel
theorem dL_trees_817 : decode cL_trees 817 = .ok (.bipush 23, 2) := by decide +kernel
theorem dL_trees_819 : decode cL_trees 819 = .ok (.bipush 21, 2) := by decide +kernel
theorem dL_trees_821 : decode cL_trees 821 = .ok (.iconst 0, 1) := by decide +kernel
theorem dL_trees_822 : decode cL_trees 822 = .ok (.iconst 0, 1) := by decide +kernel
theorem dL_trees_823 : decode cL_trees 823 = .ok (.invokevirtual 28, 3) := by decide +kernel
theorem dL_trees_826 : decode cL_trees 826 = .ok (.iconst 2, 1) := by decide +kernel
theorem dL_trees_827 : decode cL_trees 827 = .ok (.if_icmp .ne 190, 3) := by decide +kernel
theorem dL_trees_830 : decode cL_trees 830 = .ok (.aload_n 0, 1) := by decide +kernel
theorem dL_trees_831 : decode cL_trees 831 = .ok (.iconst 0, 1) := by decide +kernel
theorem dL_trees_832 : decode cL_trees 832 = .ok (.bipush 23, 2) := by decide +kernel
theorem dL_trees_834 : decode cL_trees 834 = .ok (.bipush 21, 2) := by decide +kernel
theorem dL_trees_836 : decode cL_trees 836 = .ok (.iconst 1, 1) := by decide +kernel
theorem dL_trees_837 : decode cL_trees 837 = .ok (.iconst 0, 1) := by decide +kernel
theorem dL_trees_838 : decode cL_trees 838 = .ok (.invokevirtual 28, 3) := by decide +kernel
theorem dL_trees_841 : decode cL_trees 841 = .ok (.ifCond .ne 176, 3) := by decide +kernel
theorem dL_trees_844 : decode cL_trees 844 = .ok (.aload_n 0, 1) := by decide +kernel
theorem dL_trees_845 : decode cL_trees 845 = .ok (.iconst 2, 1) := by decide +kernel
theorem dL_trees_846 : decode cL_trees 846 = .ok (.bipush 22, 2) := by decide +kernel
theorem dL_trees_848 : decode cL_trees 848 = .ok (.bipush 21, 2) := by decide +kernel
theorem dL_trees_850 : decode cL_trees 850 = .ok (.iconst 0, 1) := by decide +kernel
theorem dL_trees_851 : decode cL_trees 851 = .ok (.invokestatic 96, 3) := by decide +kernel
theorem dL_trees_854 : decode cL_trees 854 = .ok (.ifCond .eq 163, 3) := by decide +kernel
theorem dL_trees_857 : decode cL_trees 857 = .ok (.aload_n 0, 1) := by decide +kernel
theorem dL_trees_858 : decode cL_trees 858 = .ok (.bipush 21, 2) := by decide +kernel
theorem dL_trees_860 : decode cL_trees 860 = .ok (.invokevirtual 34, 3) := by decide +kernel
theorem dL_trees_863 : decode cL_trees 863 = .ok (.iconst 1, 1) := by decide +kernel
theorem dL_trees_864 : decode cL_trees 864 = .ok (.if_icmp .ne 153, 3) := by decide +kernel
theorem dL_trees_867 : decode cL_trees 867 = .ok (.aload_n 0, 1) := by decide +kernel
theorem dL_trees_868 : decode cL_trees 868 = .ok (.iconst 0, 1) := by decide +kernel
theorem dL_trees_869 : decode cL_trees 869 = .ok (.bipush 21, 2) := by decide +kernel
theorem dL_trees_871 : decode cL_trees 871 = .ok (.iconst 0, 1) := by decide +kernel
theorem dL_trees_872 : decode cL_trees 872 = .ok (.iconst 0, 1) := by decide +kernel
theorem dL_trees_873 : decode cL_trees 873 = .ok (.invokevirtual 68, 3) := by decide +kernel
theorem dL_trees_876 : decode cL_trees 876 = .ok (.ifCond .ne 141, 3) := by decide +kernel
theorem dL_trees_879 : decode cL_trees 879 = .ok (.aload_n 0, 1) := by decide +kernel
theorem dL_trees_880 : decode cL_trees 880 = .ok (.bipush 21, 2) := by decide +kernel
theorem dL_trees_882 : decode cL_trees 882 = .ok (.invokevirtual 34, 3) := by decide +kernel
theorem dL_trees_885 : decode cL_trees 885 = .ok (.bipush 6, 2) := by decide +kernel
theorem dL_trees_887 : decode cL_trees 887 = .ok (.if_icmp .ne 130, 3) := by decide +kernel
theorem dL_trees_890 : decode cL_trees 890 = .ok (.aload_n 0, 1) := by decide +kernel
theorem dL_trees_891 : decode cL_trees 891 = .ok (.iconst 0, 1) := by decide +kernel
theorem dL_trees_892 : decode cL_trees 892 = .ok (.iconst 2, 1) := by decide +kernel
theorem dL_trees_893 : decode cL_trees 893 = .ok (.iconst 1, 1) := by decide +kernel
theorem dL_trees_894 : decode cL_trees 894 = .ok (.iconst 1, 1) := by decide +kernel
theorem dL_trees_895 : decode cL_trees 895 = .ok (.iconst 0, 1) := by decide +kernel
theorem dL_trees_896 : decode cL_trees 896 = .ok (.invokevirtual 28, 3) := by decide +kernel
theorem dL_trees_899 : decode cL_trees 899 = .ok (.ifCond .ne 118, 3) := by decide +kernel
theorem dL_trees_902 : decode cL_trees 902 = .ok (.aload_n 0, 1) := by decide +kernel
theorem dL_trees_903 : decode cL_trees 903 = .ok (.iconst 2, 1) := by decide +kernel
theorem dL_trees_904 : decode cL_trees 904 = .ok (.invokevirtual 31, 3) := by decide +kernel
theorem dL_trees_907 : decode cL_trees 907 = .ok (.iconst (-1), 1) := by decide +kernel
theorem dL_trees_908 : decode cL_trees 908 = .ok (.if_icmp .ne 109, 3) := by decide +kernel
theorem dL_trees_911 : decode cL_trees 911 = .ok (.aload_n 0, 1) := by decide +kernel
theorem dL_trees_912 : decode cL_trees 912 = .ok (.iconst 0, 1) := by decide +kernel
theorem dL_trees_913 : decode cL_trees 913 = .ok (.iconst 1, 1) := by decide +kernel
