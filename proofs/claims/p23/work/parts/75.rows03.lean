theorem dL_refuses_696 : decode cL_refuses 696 = .ok (.iload 12, 2) := by decide +kernel
theorem dL_refuses_698 : decode cL_refuses 698 = .ok (.iconst 0, 1) := by decide +kernel
theorem dL_refuses_699 : decode cL_refuses 699 = .ok (.iconst 0, 1) := by decide +kernel
theorem dL_refuses_700 : decode cL_refuses 700 = .ok (.invokestatic 85, 3) := by decide +kernel
theorem dL_refuses_703 : decode cL_refuses 703 = .ok (.iload 6, 2) := by decide +kernel
theorem dL_refuses_705 : decode cL_refuses 705 = .ok (.if_icmp .ne 403, 3) := by decide +kernel
theorem dL_refuses_708 : decode cL_refuses 708 = .ok (.aload_n 0, 1) := by decide +kernel
theorem dL_refuses_709 : decode cL_refuses 709 = .ok (.iconst 2, 1) := by decide +kernel
theorem dL_refuses_710 : decode cL_refuses 710 = .ok (.iconst 0, 1) := by decide +kernel
theorem dL_refuses_711 : decode cL_refuses 711 = .ok (.iload 11, 2) := by decide +kernel
theorem dL_refuses_713 : decode cL_refuses 713 = .ok (.iconst 0, 1) := by decide +kernel
theorem dL_refuses_714 : decode cL_refuses 714 = .ok (.iconst 0, 1) := by decide +kernel
theorem dL_refuses_715 : decode cL_refuses 715 = .ok (.invokestatic 85, 3) := by decide +kernel
theorem dL_refuses_718 : decode cL_refuses 718 = .ok (.iload 6, 2) := by decide +kernel
theorem dL_refuses_720 : decode cL_refuses 720 = .ok (.if_icmp .ne 388, 3) := by decide +kernel
theorem dL_refuses_723 : decode cL_refuses 723 = .ok (.aload_n 0, 1) := by decide +kernel
theorem dL_refuses_724 : decode cL_refuses 724 = .ok (.bipush 10, 2) := by decide +kernel
theorem dL_refuses_726 : decode cL_refuses 726 = .ok (.iconst 0, 1) := by decide +kernel
theorem dL_refuses_727 : decode cL_refuses 727 = .ok (.iload 12, 2) := by decide +kernel
theorem dL_refuses_729 : decode cL_refuses 729 = .ok (.iconst 0, 1) := by decide +kernel
theorem dL_refuses_730 : decode cL_refuses 730 = .ok (.iconst 0, 1) := by decide +kernel
theorem dL_refuses_731 : decode cL_refuses 731 = .ok (.invokestatic 85, 3) := by decide +kernel
theorem dL_refuses_734 : decode cL_refuses 734 = .ok (.iload 6, 2) := by decide +kernel
theorem dL_refuses_736 : decode cL_refuses 736 = .ok (.if_icmp .ne 372, 3) := by decide +kernel
theorem dL_refuses_739 : decode cL_refuses 739 = .ok (.aload_n 0, 1) := by decide +kernel
theorem dL_refuses_740 : decode cL_refuses 740 = .ok (.bipush 9, 2) := by decide +kernel
theorem dL_refuses_742 : decode cL_refuses 742 = .ok (.iload 11, 2) := by decide +kernel
theorem dL_refuses_744 : decode cL_refuses 744 = .ok (.iconst (-1), 1) := by decide +kernel
theorem dL_refuses_745 : decode cL_refuses 745 = .ok (.iconst 0, 1) := by decide +kernel
theorem dL_refuses_746 : decode cL_refuses 746 = .ok (.iconst 0, 1) := by decide +kernel
theorem dL_refuses_747 : decode cL_refuses 747 = .ok (.invokestatic 85, 3) := by decide +kernel
theorem dL_refuses_750 : decode cL_refuses 750 = .ok (.iload 6, 2) := by decide +kernel
theorem dL_refuses_752 : decode cL_refuses 752 = .ok (.if_icmp .ne 356, 3) := by decide +kernel
theorem dL_refuses_755 : decode cL_refuses 755 = .ok (.aload_n 0, 1) := by decide +kernel
theorem dL_refuses_756 : decode cL_refuses 756 = .ok (.bipush 9, 2) := by decide +kernel
theorem dL_refuses_758 : decode cL_refuses 758 = .ok (.iconst 0, 1) := by decide +kernel
theorem dL_refuses_759 : decode cL_refuses 759 = .ok (.iload 8, 2) := by decide +kernel
theorem dL_refuses_761 : decode cL_refuses 761 = .ok (.iconst 1, 1) := by decide +kernel
theorem dL_refuses_762 : decode cL_refuses 762 = .ok (.if_icmp .ne 7, 3) := by decide +kernel
theorem dL_refuses_765 : decode cL_refuses 765 = .ok (.iload_n 2, 1) := by decide +kernel
theorem dL_refuses_766 : decode cL_refuses 766 = .ok (.goto 5, 3) := by decide +kernel
theorem dL_refuses_769 : decode cL_refuses 769 = .ok (.iload 9, 2) := by decide +kernel
theorem dL_refuses_771 : decode cL_refuses 771 = .ok (.iconst 0, 1) := by decide +kernel
theorem dL_refuses_772 : decode cL_refuses 772 = .ok (.iconst 0, 1) := by decide +kernel
theorem dL_refuses_773 : decode cL_refuses 773 = .ok (.invokestatic 85, 3) := by decide +kernel
theorem dL_refuses_776 : decode cL_refuses 776 = .ok (.iload 5, 2) := by decide +kernel
theorem dL_refuses_778 : decode cL_refuses 778 = .ok (.if_icmp .ne 330, 3) := by decide +kernel
theorem dL_refuses_781 : decode cL_refuses 781 = .ok (.aload_n 0, 1) := by decide +kernel
theorem dL_refuses_782 : decode cL_refuses 782 = .ok (.bipush 11, 2) := by decide +kernel
theorem dL_refuses_784 : decode cL_refuses 784 = .ok (.iload 10, 2) := by decide +kernel
theorem dL_refuses_786 : decode cL_refuses 786 = .ok (.iconst 0, 1) := by decide +kernel
theorem dL_refuses_787 : decode cL_refuses 787 = .ok (.iconst 5, 1) := by decide +kernel
theorem dL_refuses_788 : decode cL_refuses 788 = .ok (.iconst 0, 1) := by decide +kernel
theorem dL_refuses_789 : decode cL_refuses 789 = .ok (.invokestatic 85, 3) := by decide +kernel
theorem dL_refuses_792 : decode cL_refuses 792 = .ok (.iload 6, 2) := by decide +kernel
theorem dL_refuses_794 : decode cL_refuses 794 = .ok (.if_icmp .ne 314, 3) := by decide +kernel
theorem dL_refuses_797 : decode cL_refuses 797 = .ok (.aload_n 0, 1) := by decide +kernel
theorem dL_refuses_798 : decode cL_refuses 798 = .ok (.bipush 11, 2) := by decide +kernel
theorem dL_refuses_800 : decode cL_refuses 800 = .ok (.iconst 0, 1) := by decide +kernel
theorem dL_refuses_801 : decode cL_refuses 801 = .ok (.iload 11, 2) := by decide +kernel
theorem dL_refuses_803 : decode cL_refuses 803 = .ok (.iconst 5, 1) := by decide +kernel
theorem dL_refuses_804 : decode cL_refuses 804 = .ok (.iconst 0, 1) := by decide +kernel
theorem dL_refuses_805 : decode cL_refuses 805 = .ok (.invokestatic 85, 3) := by decide +kernel
theorem dL_refuses_808 : decode cL_refuses 808 = .ok (.iload 6, 2) := by decide +kernel
theorem dL_refuses_810 : decode cL_refuses 810 = .ok (.if_icmp .ne 298, 3) := by decide +kernel
theorem dL_refuses_813 : decode cL_refuses 813 = .ok (.aload_n 0, 1) := by decide +kernel
theorem dL_refuses_814 : decode cL_refuses 814 = .ok (.bipush 11, 2) := by decide +kernel
theorem dL_refuses_816 : decode cL_refuses 816 = .ok (.iconst 0, 1) := by decide +kernel
theorem dL_refuses_817 : decode cL_refuses 817 = .ok (.iconst 0, 1) := by decide +kernel
theorem dL_refuses_818 : decode cL_refuses 818 = .ok (.iload 8, 2) := by decide +kernel
theorem dL_refuses_820 : decode cL_refuses 820 = .ok (.ifCond .ne 7, 3) := by decide +kernel
theorem dL_refuses_823 : decode cL_refuses 823 = .ok (.iconst 0, 1) := by decide +kernel
theorem dL_refuses_824 : decode cL_refuses 824 = .ok (.goto 17, 3) := by decide +kernel
theorem dL_refuses_827 : decode cL_refuses 827 = .ok (.iload 8, 2) := by decide +kernel
theorem dL_refuses_829 : decode cL_refuses 829 = .ok (.iconst 1, 1) := by decide +kernel
theorem dL_refuses_830 : decode cL_refuses 830 = .ok (.if_icmp .ne 9, 3) := by decide +kernel
theorem dL_refuses_833 : decode cL_refuses 833 = .ok (.sipush 1001, 3) := by decide +kernel
theorem dL_refuses_836 : decode cL_refuses 836 = .ok (.goto 5, 3) := by decide +kernel
theorem dL_refuses_839 : decode cL_refuses 839 = .ok (.iload 9, 2) := by decide +kernel
theorem dL_refuses_841 : decode cL_refuses 841 = .ok (.iconst 0, 1) := by decide +kernel
theorem dL_refuses_842 : decode cL_refuses 842 = .ok (.invokestatic 85, 3) := by decide +kernel
theorem dL_refuses_845 : decode cL_refuses 845 = .ok (.iload 6, 2) := by decide +kernel
theorem dL_refuses_847 : decode cL_refuses 847 = .ok (.if_icmp .ne 261, 3) := by decide +kernel
theorem dL_refuses_850 : decode cL_refuses 850 = .ok (.aload_n 0, 1) := by decide +kernel
theorem dL_refuses_851 : decode cL_refuses 851 = .ok (.bipush 11, 2) := by decide +kernel
theorem dL_refuses_853 : decode cL_refuses 853 = .ok (.iconst 0, 1) := by decide +kernel
theorem dL_refuses_854 : decode cL_refuses 854 = .ok (.iconst 0, 1) := by decide +kernel
theorem dL_refuses_855 : decode cL_refuses 855 = .ok (.iconst 5, 1) := by decide +kernel
theorem dL_refuses_856 : decode cL_refuses 856 = .ok (.iload 13, 2) := by decide +kernel
theorem dL_refuses_858 : decode cL_refuses 858 = .ok (.invokestatic 85, 3) := by decide +kernel
theorem dL_refuses_861 : decode cL_refuses 861 = .ok (.iload 6, 2) := by decide +kernel
theorem dL_refuses_863 : decode cL_refuses 863 = .ok (.if_icmp .ne 245, 3) := by decide +kernel
theorem dL_refuses_866 : decode cL_refuses 866 = .ok (.aload_n 0, 1) := by decide +kernel
theorem dL_refuses_867 : decode cL_refuses 867 = .ok (.bipush 12, 2) := by decide +kernel
theorem dL_refuses_869 : decode cL_refuses 869 = .ok (.iconst 0, 1) := by decide +kernel
theorem dL_refuses_870 : decode cL_refuses 870 = .ok (.iload 8, 2) := by decide +kernel
theorem dL_refuses_872 : decode cL_refuses 872 = .ok (.iconst 1, 1) := by decide +kernel
theorem dL_refuses_873 : decode cL_refuses 873 = .ok (.if_icmp .ne 8, 3) := by decide +kernel
theorem dL_refuses_876 : decode cL_refuses 876 = .ok (.bipush 30, 2) := by decide +kernel
theorem dL_refuses_878 : decode cL_refuses 878 = .ok (.goto 5, 3) := by decide +kernel
theorem dL_refuses_881 : decode cL_refuses 881 = .ok (.iload 9, 2) := by decide +kernel
theorem dL_refuses_883 : decode cL_refuses 883 = .ok (.iconst (-1), 1) := by decide +kernel
theorem dL_refuses_884 : decode cL_refuses 884 = .ok (.iconst 0, 1) := by decide +kernel
theorem dL_refuses_885 : decode cL_refuses 885 = .ok (.invokestatic 85, 3) := by decide +kernel
theorem dL_refuses_888 : decode cL_refuses 888 = .ok (.iload 5, 2) := by decide +kernel
theorem dL_refuses_890 : decode cL_refuses 890 = .ok (.if_icmp .ne 218, 3) := by decide +kernel
theorem dL_refuses_893 : decode cL_refuses 893 = .ok (.aload_n 0, 1) := by decide +kernel
theorem dL_refuses_894 : decode cL_refuses 894 = .ok (.bipush 13, 2) := by decide +kernel
theorem dL_refuses_896 : decode cL_refuses 896 = .ok (.iload 8, 2) := by decide +kernel
theorem dL_refuses_898 : decode cL_refuses 898 = .ok (.ifCond .ne 7, 3) := by decide +kernel
theorem dL_refuses_901 : decode cL_refuses 901 = .ok (.iconst 0, 1) := by decide +kernel
theorem dL_refuses_902 : decode cL_refuses 902 = .ok (.goto 17, 3) := by decide +kernel
theorem dL_refuses_905 : decode cL_refuses 905 = .ok (.iload 8, 2) := by decide +kernel
theorem dL_refuses_907 : decode cL_refuses 907 = .ok (.iconst 1, 1) := by decide +kernel
theorem dL_refuses_908 : decode cL_refuses 908 = .ok (.if_icmp .ne 9, 3) := by decide +kernel
theorem dL_refuses_911 : decode cL_refuses 911 = .ok (.sipush 1001, 3) := by decide +kernel
theorem dL_refuses_914 : decode cL_refuses 914 = .ok (.goto 5, 3) := by decide +kernel
theorem dL_refuses_917 : decode cL_refuses 917 = .ok (.iload 9, 2) := by decide +kernel
theorem dL_refuses_919 : decode cL_refuses 919 = .ok (.iconst 0, 1) := by decide +kernel
theorem dL_refuses_920 : decode cL_refuses 920 = .ok (.iconst 0, 1) := by decide +kernel
theorem dL_refuses_921 : decode cL_refuses 921 = .ok (.iconst 0, 1) := by decide +kernel
theorem dL_refuses_922 : decode cL_refuses 922 = .ok (.invokestatic 85, 3) := by decide +kernel
theorem dL_refuses_925 : decode cL_refuses 925 = .ok (.iload 6, 2) := by decide +kernel
theorem dL_refuses_927 : decode cL_refuses 927 = .ok (.if_icmp .ne 181, 3) := by decide +kernel
theorem dL_refuses_930 : decode cL_refuses 930 = .ok (.aload_n 0, 1) := by decide +kernel
theorem dL_refuses_931 : decode cL_refuses 931 = .ok (.bipush 14, 2) := by decide +kernel
theorem dL_refuses_933 : decode cL_refuses 933 = .ok (.iload 11, 2) := by decide +kernel
theorem dL_refuses_935 : decode cL_refuses 935 = .ok (.iconst 0, 1) := by decide +kernel
theorem dL_refuses_936 : decode cL_refuses 936 = .ok (.iconst 0, 1) := by decide +kernel
theorem dL_refuses_937 : decode cL_refuses 937 = .ok (.iconst 0, 1) := by decide +kernel
theorem dL_refuses_938 : decode cL_refuses 938 = .ok (.invokestatic 85, 3) := by decide +kernel
theorem dL_refuses_941 : decode cL_refuses 941 = .ok (.iload 6, 2) := by decide +kernel
theorem dL_refuses_943 : decode cL_refuses 943 = .ok (.if_icmp .ne 165, 3) := by decide +kernel
theorem dL_refuses_946 : decode cL_refuses 946 = .ok (.aload_n 0, 1) := by decide +kernel
theorem dL_refuses_947 : decode cL_refuses 947 = .ok (.bipush 15, 2) := by decide +kernel
theorem dL_refuses_949 : decode cL_refuses 949 = .ok (.iload 10, 2) := by decide +kernel
theorem dL_refuses_951 : decode cL_refuses 951 = .ok (.iconst 0, 1) := by decide +kernel
theorem dL_refuses_952 : decode cL_refuses 952 = .ok (.iconst 0, 1) := by decide +kernel
theorem dL_refuses_953 : decode cL_refuses 953 = .ok (.iconst 0, 1) := by decide +kernel
theorem dL_refuses_954 : decode cL_refuses 954 = .ok (.invokestatic 85, 3) := by decide +kernel
theorem dL_refuses_957 : decode cL_refuses 957 = .ok (.iload 6, 2) := by decide +kernel
theorem dL_refuses_959 : decode cL_refuses 959 = .ok (.if_icmp .ne 149, 3) := by decide +kernel
theorem dL_refuses_962 : decode cL_refuses 962 = .ok (.aload_n 0, 1) := by decide +kernel
theorem dL_refuses_963 : decode cL_refuses 963 = .ok (.bipush 15, 2) := by decide +kernel
theorem dL_refuses_965 : decode cL_refuses 965 = .ok (.iconst 0, 1) := by decide +kernel
theorem dL_refuses_966 : decode cL_refuses 966 = .ok (.iload 12, 2) := by decide +kernel
theorem dL_refuses_968 : decode cL_refuses 968 = .ok (.iconst 0, 1) := by decide +kernel
theorem dL_refuses_969 : decode cL_refuses 969 = .ok (.iconst 0, 1) := by decide +kernel
theorem dL_refuses_970 : decode cL_refuses 970 = .ok (.invokestatic 85, 3) := by decide +kernel
theorem dL_refuses_973 : decode cL_refuses 973 = .ok (.iload 6, 2) := by decide +kernel
theorem dL_refuses_975 : decode cL_refuses 975 = .ok (.if_icmp .ne 133, 3) := by decide +kernel
theorem dL_refuses_978 : decode cL_refuses 978 = .ok (.aload_n 0, 1) := by decide +kernel
theorem dL_refuses_979 : decode cL_refuses 979 = .ok (.bipush 15, 2) := by decide +kernel
theorem dL_refuses_981 : decode cL_refuses 981 = .ok (.iconst 0, 1) := by decide +kernel
theorem dL_refuses_982 : decode cL_refuses 982 = .ok (.iconst 0, 1) := by decide +kernel
theorem dL_refuses_983 : decode cL_refuses 983 = .ok (.iload 13, 2) := by decide +kernel
theorem dL_refuses_985 : decode cL_refuses 985 = .ok (.iconst 0, 1) := by decide +kernel
theorem dL_refuses_986 : decode cL_refuses 986 = .ok (.invokestatic 85, 3) := by decide +kernel
theorem dL_refuses_989 : decode cL_refuses 989 = .ok (.iload 6, 2) := by decide +kernel
theorem dL_refuses_991 : decode cL_refuses 991 = .ok (.if_icmp .ne 117, 3) := by decide +kernel
theorem dL_refuses_994 : decode cL_refuses 994 = .ok (.aload_n 0, 1) := by decide +kernel
theorem dL_refuses_995 : decode cL_refuses 995 = .ok (.bipush 16, 2) := by decide +kernel
theorem dL_refuses_997 : decode cL_refuses 997 = .ok (.iload 11, 2) := by decide +kernel
theorem dL_refuses_999 : decode cL_refuses 999 = .ok (.iconst 0, 1) := by decide +kernel
theorem dL_refuses_1000 : decode cL_refuses 1000 = .ok (.iconst 0, 1) := by decide +kernel
theorem dL_refuses_1001 : decode cL_refuses 1001 = .ok (.iconst 0, 1) := by decide +kernel
theorem dL_refuses_1002 : decode cL_refuses 1002 = .ok (.invokestatic 85, 3) := by decide +kernel
theorem dL_refuses_1005 : decode cL_refuses 1005 = .ok (.iload 6, 2) := by decide +kernel
theorem dL_refuses_1007 : decode cL_refuses 1007 = .ok (.if_icmp .ne 101, 3) := by decide +kernel
theorem dL_refuses_1010 : decode cL_refuses 1010 = .ok (.aload_n 0, 1) := by decide +kernel
theorem dL_refuses_1011 : decode cL_refuses 1011 = .ok (.bipush 16, 2) := by decide +kernel
theorem dL_refuses_1013 : decode cL_refuses 1013 = .ok (.iconst 0, 1) := by decide +kernel
theorem dL_refuses_1014 : decode cL_refuses 1014 = .ok (.iconst 0, 1) := by decide +kernel
theorem dL_refuses_1015 : decode cL_refuses 1015 = .ok (.iconst 0, 1) := by decide +kernel
theorem dL_refuses_1016 : decode cL_refuses 1016 = .ok (.iconst 0, 1) := by decide +kernel
theorem dL_refuses_1017 : decode cL_refuses 1017 = .ok (.invokestatic 85, 3) := by decide +kernel
theorem dL_refuses_1020 : decode cL_refuses 1020 = .ok (.sipush (-9003), 3) := by decide +kernel
theorem dL_refuses_1023 : decode cL_refuses 1023 = .ok (.if_icmp .ne 85, 3) := by decide +kernel
theorem dL_refuses_1026 : decode cL_refuses 1026 = .ok (.aload_n 0, 1) := by decide +kernel
theorem dL_refuses_1027 : decode cL_refuses 1027 = .ok (.bipush 17, 2) := by decide +kernel
theorem dL_refuses_1029 : decode cL_refuses 1029 = .ok (.iload 10, 2) := by decide +kernel
theorem dL_refuses_1031 : decode cL_refuses 1031 = .ok (.iconst 0, 1) := by decide +kernel
theorem dL_refuses_1032 : decode cL_refuses 1032 = .ok (.iconst 0, 1) := by decide +kernel
theorem dL_refuses_1033 : decode cL_refuses 1033 = .ok (.iconst 0, 1) := by decide +kernel
theorem dL_refuses_1034 : decode cL_refuses 1034 = .ok (.invokestatic 85, 3) := by decide +kernel
theorem dL_refuses_1037 : decode cL_refuses 1037 = .ok (.iload 6, 2) := by decide +kernel
theorem dL_refuses_1039 : decode cL_refuses 1039 = .ok (.if_icmp .ne 69, 3) := by decide +kernel
theorem dL_refuses_1042 : decode cL_refuses 1042 = .ok (.aload_n 0, 1) := by decide +kernel
theorem dL_refuses_1043 : decode cL_refuses 1043 = .ok (.bipush 17, 2) := by decide +kernel
theorem dL_refuses_1045 : decode cL_refuses 1045 = .ok (.iconst 0, 1) := by decide +kernel
theorem dL_refuses_1046 : decode cL_refuses 1046 = .ok (.iload 11, 2) := by decide +kernel
theorem dL_refuses_1048 : decode cL_refuses 1048 = .ok (.iconst 0, 1) := by decide +kernel
theorem dL_refuses_1049 : decode cL_refuses 1049 = .ok (.iconst 0, 1) := by decide +kernel
theorem dL_refuses_1050 : decode cL_refuses 1050 = .ok (.invokestatic 85, 3) := by decide +kernel
theorem dL_refuses_1053 : decode cL_refuses 1053 = .ok (.iload 6, 2) := by decide +kernel
theorem dL_refuses_1055 : decode cL_refuses 1055 = .ok (.if_icmp .ne 53, 3) := by decide +kernel
theorem dL_refuses_1058 : decode cL_refuses 1058 = .ok (.aload_n 0, 1) := by decide +kernel
theorem dL_refuses_1059 : decode cL_refuses 1059 = .ok (.bipush 17, 2) := by decide +kernel
theorem dL_refuses_1061 : decode cL_refuses 1061 = .ok (.iconst 0, 1) := by decide +kernel
theorem dL_refuses_1062 : decode cL_refuses 1062 = .ok (.iconst 0, 1) := by decide +kernel
