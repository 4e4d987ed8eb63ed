theorem dL_trees_914 : decode cL_trees 914 = .ok (.iconst 0, 1) := by decide +kernel
theorem dL_trees_915 : decode cL_trees 915 = .ok (.iconst 0, 1) := by decide +kernel
theorem dL_trees_916 : decode cL_trees 916 = .ok (.invokestatic 96, 3) := by decide +kernel
theorem dL_trees_919 : decode cL_trees 919 = .ok (.ifCond .eq 98, 3) := by decide +kernel
theorem dL_trees_922 : decode cL_trees 922 = .ok (.aload_n 0, 1) := by decide +kernel
theorem dL_trees_923 : decode cL_trees 923 = .ok (.iconst 1, 1) := by decide +kernel
theorem dL_trees_924 : decode cL_trees 924 = .ok (.bipush 12, 2) := by decide +kernel
theorem dL_trees_926 : decode cL_trees 926 = .ok (.bipush 11, 2) := by decide +kernel
theorem dL_trees_928 : decode cL_trees 928 = .ok (.iconst 0, 1) := by decide +kernel
theorem dL_trees_929 : decode cL_trees 929 = .ok (.invokestatic 96, 3) := by decide +kernel
theorem dL_trees_932 : decode cL_trees 932 = .ok (.ifCond .eq 85, 3) := by decide +kernel
theorem dL_trees_935 : decode cL_trees 935 = .ok (.aload_n 0, 1) := by decide +kernel
theorem dL_trees_936 : decode cL_trees 936 = .ok (.bipush 12, 2) := by decide +kernel
theorem dL_trees_938 : decode cL_trees 938 = .ok (.bipush 124, 2) := by decide +kernel
theorem dL_trees_940 : decode cL_trees 940 = .ok (.bipush 122, 2) := by decide +kernel
theorem dL_trees_942 : decode cL_trees 942 = .ok (.bipush 121, 2) := by decide +kernel
theorem dL_trees_944 : decode cL_trees 944 = .ok (.invokestatic 96, 3) := by decide +kernel
theorem dL_trees_947 : decode cL_trees 947 = .ok (.ifCond .eq 70, 3) := by decide +kernel
theorem dL_trees_950 : decode cL_trees 950 = .ok (.aload_n 0, 1) := by decide +kernel
theorem dL_trees_951 : decode cL_trees 951 = .ok (.sipush 1242, 3) := by decide +kernel
theorem dL_trees_954 : decode cL_trees 954 = .ok (.invokevirtual 34, 3) := by decide +kernel
theorem dL_trees_957 : decode cL_trees 957 = .ok (.bipush 8, 2) := by decide +kernel
theorem dL_trees_959 : decode cL_trees 959 = .ok (.if_icmp .ne 58, 3) := by decide +kernel
theorem dL_trees_962 : decode cL_trees 962 = .ok (.aload_n 0, 1) := by decide +kernel
theorem dL_trees_963 : decode cL_trees 963 = .ok (.bipush 11, 2) := by decide +kernel
theorem dL_trees_965 : decode cL_trees 965 = .ok (.invokevirtual 34, 3) := by decide +kernel
theorem dL_trees_968 : decode cL_trees 968 = .ok (.bipush 6, 2) := by decide +kernel
theorem dL_trees_970 : decode cL_trees 970 = .ok (.if_icmp .ne 47, 3) := by decide +kernel
theorem dL_trees_973 : decode cL_trees 973 = .ok (.aload_n 0, 1) := by decide +kernel
theorem dL_trees_974 : decode cL_trees 974 = .ok (.invokevirtual 77, 3) := by decide +kernel
theorem dL_trees_977 : decode cL_trees 977 = .ok (.bipush 8, 2) := by decide +kernel
theorem dL_trees_979 : decode cL_trees 979 = .ok (.if_icmp .ne 38, 3) := by decide +kernel
theorem dL_trees_982 : decode cL_trees 982 = .ok (.aload_n 0, 1) := by decide +kernel
theorem dL_trees_983 : decode cL_trees 983 = .ok (.iconst 2, 1) := by decide +kernel
theorem dL_trees_984 : decode cL_trees 984 = .ok (.iconst 1, 1) := by decide +kernel
theorem dL_trees_985 : decode cL_trees 985 = .ok (.iconst 0, 1) := by decide +kernel
theorem dL_trees_986 : decode cL_trees 986 = .ok (.invokevirtual 17, 3) := by decide +kernel
theorem dL_trees_989 : decode cL_trees 989 = .ok (.ifCond .ne 28, 3) := by decide +kernel
theorem dL_trees_992 : decode cL_trees 992 = .ok (.aload_n 0, 1) := by decide +kernel
theorem dL_trees_993 : decode cL_trees 993 = .ok (.invokevirtual 77, 3) := by decide +kernel
theorem dL_trees_996 : decode cL_trees 996 = .ok (.ifCond .ne 21, 3) := by decide +kernel
theorem dL_trees_999 : decode cL_trees 999 = .ok (.aload_n 0, 1) := by decide +kernel
theorem dL_trees_1000 : decode cL_trees 1000 = .ok (.invokevirtual 81, 3) := by decide +kernel
theorem dL_trees_1003 : decode cL_trees 1003 = .ok (.ifCond .ne 14, 3) := by decide +kernel
theorem dL_trees_1006 : decode cL_trees 1006 = .ok (.aload_n 0, 1) := by decide +kernel
theorem dL_trees_1007 : decode cL_trees 1007 = .ok (.invokestatic 92, 3) := by decide +kernel
theorem dL_trees_1010 : decode cL_trees 1010 = .ok (.ifCond .eq 7, 3) := by decide +kernel
theorem dL_trees_1013 : decode cL_trees 1013 = .ok (.iconst 1, 1) := by decide +kernel
theorem dL_trees_1014 : decode cL_trees 1014 = .ok (.goto 4, 3) := by decide +kernel
theorem dL_trees_1017 : decode cL_trees 1017 = .ok (.iconst 0, 1) := by decide +kernel
theorem dL_trees_1018 : decode cL_trees 1018 = .ok (.ireturn, 1) := by decide +kernel
theorem dL_shelf_0 : decode cL_shelf 0 = .ok (.aload_n 0, 1) := by decide +kernel
theorem dL_shelf_1 : decode cL_shelf 1 = .ok (.iconst 0, 1) := by decide +kernel
theorem dL_shelf_2 : decode cL_shelf 2 = .ok (.iconst 1, 1) := by decide +kernel
theorem dL_shelf_3 : decode cL_shelf 3 = .ok (.iconst 0, 1) := by decide +kernel
theorem dL_shelf_4 : decode cL_shelf 4 = .ok (.invokevirtual 7, 3) := by decide +kernel
theorem dL_shelf_7 : decode cL_shelf 7 = .ok (.ifCond .ne 59, 3) := by decide +kernel
theorem dL_shelf_10 : decode cL_shelf 10 = .ok (.aload_n 0, 1) := by decide +kernel
theorem dL_shelf_11 : decode cL_shelf 11 = .ok (.iconst 0, 1) := by decide +kernel
theorem dL_shelf_12 : decode cL_shelf 12 = .ok (.bipush 11, 2) := by decide +kernel
theorem dL_shelf_14 : decode cL_shelf 14 = .ok (.iconst 5, 1) := by decide +kernel
theorem dL_shelf_15 : decode cL_shelf 15 = .ok (.iconst (-1), 1) := by decide +kernel
theorem dL_shelf_16 : decode cL_shelf 16 = .ok (.iconst 0, 1) := by decide +kernel
theorem dL_shelf_17 : decode cL_shelf 17 = .ok (.invokevirtual 13, 3) := by decide +kernel
theorem dL_shelf_20 : decode cL_shelf 20 = .ok (.ifCond .ne 46, 3) := by decide +kernel
theorem dL_shelf_23 : decode cL_shelf 23 = .ok (.aload_n 0, 1) := by decide +kernel
theorem dL_shelf_24 : decode cL_shelf 24 = .ok (.iconst 0, 1) := by decide +kernel
theorem dL_shelf_25 : decode cL_shelf 25 = .ok (.bipush 12, 2) := by decide +kernel
theorem dL_shelf_27 : decode cL_shelf 27 = .ok (.iconst 0, 1) := by decide +kernel
theorem dL_shelf_28 : decode cL_shelf 28 = .ok (.invokevirtual 7, 3) := by decide +kernel
theorem dL_shelf_31 : decode cL_shelf 31 = .ok (.ifCond .ne 35, 3) := by decide +kernel
theorem dL_shelf_34 : decode cL_shelf 34 = .ok (.aload_n 0, 1) := by decide +kernel
theorem dL_shelf_35 : decode cL_shelf 35 = .ok (.iconst 0, 1) := by decide +kernel
theorem dL_shelf_36 : decode cL_shelf 36 = .ok (.bipush 121, 2) := by decide +kernel
theorem dL_shelf_38 : decode cL_shelf 38 = .ok (.bipush 7, 2) := by decide +kernel
theorem dL_shelf_40 : decode cL_shelf 40 = .ok (.iconst (-1), 1) := by decide +kernel
theorem dL_shelf_41 : decode cL_shelf 41 = .ok (.iconst 0, 1) := by decide +kernel
theorem dL_shelf_42 : decode cL_shelf 42 = .ok (.invokevirtual 13, 3) := by decide +kernel
theorem dL_shelf_45 : decode cL_shelf 45 = .ok (.ifCond .ne 21, 3) := by decide +kernel
theorem dL_shelf_48 : decode cL_shelf 48 = .ok (.aload_n 0, 1) := by decide +kernel
theorem dL_shelf_49 : decode cL_shelf 49 = .ok (.iconst 0, 1) := by decide +kernel
theorem dL_shelf_50 : decode cL_shelf 50 = .ok (.bipush 122, 2) := by decide +kernel
theorem dL_shelf_52 : decode cL_shelf 52 = .ok (.bipush 8, 2) := by decide +kernel
theorem dL_shelf_54 : decode cL_shelf 54 = .ok (.iconst (-1), 1) := by decide +kernel
theorem dL_shelf_55 : decode cL_shelf 55 = .ok (.iconst 0, 1) := by decide +kernel
theorem dL_shelf_56 : decode cL_shelf 56 = .ok (.invokevirtual 13, 3) := by decide +kernel
theorem dL_shelf_59 : decode cL_shelf 59 = .ok (.ifCond .ne 7, 3) := by decide +kernel
theorem dL_shelf_62 : decode cL_shelf 62 = .ok (.iconst 1, 1) := by decide +kernel
theorem dL_shelf_63 : decode cL_shelf 63 = .ok (.goto 4, 3) := by decide +kernel
theorem dL_shelf_66 : decode cL_shelf 66 = .ok (.iconst 0, 1) := by decide +kernel
theorem dL_shelf_67 : decode cL_shelf 67 = .ok (.ireturn, 1) := by decide +kernel
theorem dL_locks_0 : decode cL_locks 0 = .ok (.new 8, 3) := by decide +kernel
theorem dL_locks_3 : decode cL_locks 3 = .ok (.dup, 1) := by decide +kernel
theorem dL_locks_4 : decode cL_locks 4 = .ok (.invokespecial 91, 3) := by decide +kernel
theorem dL_locks_7 : decode cL_locks 7 = .ok (.astore_n 0, 1) := by decide +kernel
theorem dL_locks_8 : decode cL_locks 8 = .ok (.aload_n 0, 1) := by decide +kernel
theorem dL_locks_9 : decode cL_locks 9 = .ok (.invokestatic 99, 3) := by decide +kernel
theorem dL_locks_12 : decode cL_locks 12 = .ok (.ifCond .eq 357, 3) := by decide +kernel
theorem dL_locks_15 : decode cL_locks 15 = .ok (.aload_n 0, 1) := by decide +kernel
theorem dL_locks_16 : decode cL_locks 16 = .ok (.iconst 1, 1) := by decide +kernel
theorem dL_locks_17 : decode cL_locks 17 = .ok (.bipush 121, 2) := by decide +kernel
theorem dL_locks_19 : decode cL_locks 19 = .ok (.iconst 0, 1) := by decide +kernel
theorem dL_locks_20 : decode cL_locks 20 = .ok (.iconst 0, 1) := by decide +kernel
theorem dL_locks_21 : decode cL_locks 21 = .ok (.bipush 100, 2) := by decide +kernel
theorem dL_locks_23 : decode cL_locks 23 = .ok (.iconst 0, 1) := by decide +kernel
theorem dL_locks_24 : decode cL_locks 24 = .ok (.invokevirtual 48, 3) := by decide +kernel
theorem dL_locks_27 : decode cL_locks 27 = .ok (.ifCond .ne 342, 3) := by decide +kernel
theorem dL_locks_30 : decode cL_locks 30 = .ok (.aload_n 0, 1) := by decide +kernel
theorem dL_locks_31 : decode cL_locks 31 = .ok (.bipush 121, 2) := by decide +kernel
theorem dL_locks_33 : decode cL_locks 33 = .ok (.invokevirtual 58, 3) := by decide +kernel
theorem dL_locks_36 : decode cL_locks 36 = .ok (.iconst 1, 1) := by decide +kernel
theorem dL_locks_37 : decode cL_locks 37 = .ok (.if_icmp .ne 332, 3) := by decide +kernel
theorem dL_locks_40 : decode cL_locks 40 = .ok (.aload_n 0, 1) := by decide +kernel
theorem dL_locks_41 : decode cL_locks 41 = .ok (.bipush 12, 2) := by decide +kernel
theorem dL_locks_43 : decode cL_locks 43 = .ok (.invokevirtual 58, 3) := by decide +kernel
theorem dL_locks_46 : decode cL_locks 46 = .ok (.ifCond .ne 323, 3) := by decide +kernel
theorem dL_locks_49 : decode cL_locks 49 = .ok (.aload_n 0, 1) := by decide +kernel
theorem dL_locks_50 : decode cL_locks 50 = .ok (.iconst 1, 1) := by decide +kernel
theorem dL_locks_51 : decode cL_locks 51 = .ok (.bipush 121, 2) := by decide +kernel
theorem dL_locks_53 : decode cL_locks 53 = .ok (.iconst 1, 1) := by decide +kernel
theorem dL_locks_54 : decode cL_locks 54 = .ok (.invokevirtual 61, 3) := by decide +kernel
theorem dL_locks_57 : decode cL_locks 57 = .ok (.ifCond .eq 312, 3) := by decide +kernel
theorem dL_locks_60 : decode cL_locks 60 = .ok (.aload_n 0, 1) := by decide +kernel
theorem dL_locks_61 : decode cL_locks 61 = .ok (.iconst 1, 1) := by decide +kernel
theorem dL_locks_62 : decode cL_locks 62 = .ok (.bipush 121, 2) := by decide +kernel
theorem dL_locks_64 : decode cL_locks 64 = .ok (.iconst 0, 1) := by decide +kernel
theorem dL_locks_65 : decode cL_locks 65 = .ok (.invokevirtual 61, 3) := by decide +kernel
theorem dL_locks_68 : decode cL_locks 68 = .ok (.ifCond .ne 301, 3) := by decide +kernel
theorem dL_locks_71 : decode cL_locks 71 = .ok (.aload_n 0, 1) := by decide +kernel
theorem dL_locks_72 : decode cL_locks 72 = .ok (.iconst 0, 1) := by decide +kernel
theorem dL_locks_73 : decode cL_locks 73 = .ok (.bipush 121, 2) := by decide +kernel
theorem dL_locks_75 : decode cL_locks 75 = .ok (.iconst 1, 1) := by decide +kernel
theorem dL_locks_76 : decode cL_locks 76 = .ok (.invokevirtual 61, 3) := by decide +kernel
theorem dL_locks_79 : decode cL_locks 79 = .ok (.ifCond .ne 290, 3) := by decide +kernel
theorem dL_locks_82 : decode cL_locks 82 = .ok (.aload_n 0, 1) := by decide +kernel
theorem dL_locks_83 : decode cL_locks 83 = .ok (.iconst 0, 1) := by decide +kernel
theorem dL_locks_84 : decode cL_locks 84 = .ok (.bipush 122, 2) := by decide +kernel
theorem dL_locks_86 : decode cL_locks 86 = .ok (.iconst 0, 1) := by decide +kernel
theorem dL_locks_87 : decode cL_locks 87 = .ok (.invokevirtual 61, 3) := by decide +kernel
theorem dL_locks_90 : decode cL_locks 90 = .ok (.ifCond .eq 279, 3) := by decide +kernel
theorem dL_locks_93 : decode cL_locks 93 = .ok (.aload_n 0, 1) := by decide +kernel
theorem dL_locks_94 : decode cL_locks 94 = .ok (.iconst 0, 1) := by decide +kernel
theorem dL_locks_95 : decode cL_locks 95 = .ok (.bipush 121, 2) := by decide +kernel
theorem dL_locks_97 : decode cL_locks 97 = .ok (.bipush 9, 2) := by decide +kernel
theorem dL_locks_99 : decode cL_locks 99 = .ok (.iconst (-1), 1) := by decide +kernel
theorem dL_locks_100 : decode cL_locks 100 = .ok (.iconst 0, 1) := by decide +kernel
theorem dL_locks_101 : decode cL_locks 101 = .ok (.invokevirtual 13, 3) := by decide +kernel
theorem dL_locks_104 : decode cL_locks 104 = .ok (.iconst 4, 1) := by decide +kernel
theorem dL_locks_105 : decode cL_locks 105 = .ok (.if_icmp .ne 264, 3) := by decide +kernel
theorem dL_locks_108 : decode cL_locks 108 = .ok (.aload_n 0, 1) := by decide +kernel
theorem dL_locks_109 : decode cL_locks 109 = .ok (.iconst 1, 1) := by decide +kernel
theorem dL_locks_110 : decode cL_locks 110 = .ok (.bipush 121, 2) := by decide +kernel
theorem dL_locks_112 : decode cL_locks 112 = .ok (.bipush 9, 2) := by decide +kernel
theorem dL_locks_114 : decode cL_locks 114 = .ok (.iconst (-1), 1) := by decide +kernel
theorem dL_locks_115 : decode cL_locks 115 = .ok (.iconst 3, 1) := by decide +kernel
theorem dL_locks_116 : decode cL_locks 116 = .ok (.invokevirtual 13, 3) := by decide +kernel
theorem dL_locks_119 : decode cL_locks 119 = .ok (.ifCond .ne 250, 3) := by decide +kernel
theorem dL_locks_122 : decode cL_locks 122 = .ok (.aload_n 0, 1) := by decide +kernel
theorem dL_locks_123 : decode cL_locks 123 = .ok (.iconst 0, 1) := by decide +kernel
theorem dL_locks_124 : decode cL_locks 124 = .ok (.bipush 121, 2) := by decide +kernel
theorem dL_locks_126 : decode cL_locks 126 = .ok (.bipush 9, 2) := by decide +kernel
theorem dL_locks_128 : decode cL_locks 128 = .ok (.bipush 8, 2) := by decide +kernel
theorem dL_locks_130 : decode cL_locks 130 = .ok (.iconst 0, 1) := by decide +kernel
theorem dL_locks_131 : decode cL_locks 131 = .ok (.invokevirtual 13, 3) := by decide +kernel
theorem dL_locks_134 : decode cL_locks 134 = .ok (.iconst 3, 1) := by decide +kernel
theorem dL_locks_135 : decode cL_locks 135 = .ok (.if_icmp .ne 234, 3) := by decide +kernel
theorem dL_locks_138 : decode cL_locks 138 = .ok (.aload_n 0, 1) := by decide +kernel
theorem dL_locks_139 : decode cL_locks 139 = .ok (.iconst 0, 1) := by decide +kernel
theorem dL_locks_140 : decode cL_locks 140 = .ok (.bipush 121, 2) := by decide +kernel
theorem dL_locks_142 : decode cL_locks 142 = .ok (.iconst 0, 1) := by decide +kernel
theorem dL_locks_143 : decode cL_locks 143 = .ok (.iconst 0, 1) := by decide +kernel
theorem dL_locks_144 : decode cL_locks 144 = .ok (.invokevirtual 68, 3) := by decide +kernel
theorem dL_locks_147 : decode cL_locks 147 = .ok (.iconst 1, 1) := by decide +kernel
theorem dL_locks_148 : decode cL_locks 148 = .ok (.if_icmp .ne 221, 3) := by decide +kernel
theorem dL_locks_151 : decode cL_locks 151 = .ok (.aload_n 0, 1) := by decide +kernel
theorem dL_locks_152 : decode cL_locks 152 = .ok (.invokestatic 92, 3) := by decide +kernel
theorem dL_locks_155 : decode cL_locks 155 = .ok (.ifCond .eq 214, 3) := by decide +kernel
theorem dL_locks_158 : decode cL_locks 158 = .ok (.aload_n 0, 1) := by decide +kernel
theorem dL_locks_159 : decode cL_locks 159 = .ok (.iconst 0, 1) := by decide +kernel
theorem dL_locks_160 : decode cL_locks 160 = .ok (.iconst 1, 1) := by decide +kernel
theorem dL_locks_161 : decode cL_locks 161 = .ok (.iconst 0, 1) := by decide +kernel
theorem dL_locks_162 : decode cL_locks 162 = .ok (.invokevirtual 17, 3) := by decide +kernel
theorem dL_locks_165 : decode cL_locks 165 = .ok (.bipush 6, 2) := by decide +kernel
theorem dL_locks_167 : decode cL_locks 167 = .ok (.if_icmp .ne 202, 3) := by decide +kernel
theorem dL_locks_170 : decode cL_locks 170 = .ok (.aload_n 0, 1) := by decide +kernel
theorem dL_locks_171 : decode cL_locks 171 = .ok (.invokevirtual 81, 3) := by decide +kernel
theorem dL_locks_174 : decode cL_locks 174 = .ok (.iconst 1, 1) := by decide +kernel
theorem dL_locks_175 : decode cL_locks 175 = .ok (.if_icmp .ne 194, 3) := by decide +kernel
theorem dL_locks_178 : decode cL_locks 178 = .ok (.aload_n 0, 1) := by decide +kernel
theorem dL_locks_179 : decode cL_locks 179 = .ok (.iconst 0, 1) := by decide +kernel
theorem dL_locks_180 : decode cL_locks 180 = .ok (.invokevirtual 20, 3) := by decide +kernel
theorem dL_locks_183 : decode cL_locks 183 = .ok (.bipush 121, 2) := by decide +kernel
theorem dL_locks_185 : decode cL_locks 185 = .ok (.if_icmp .ne 184, 3) := by decide +kernel
theorem dL_locks_188 : decode cL_locks 188 = .ok (.aload_n 0, 1) := by decide +kernel
theorem dL_locks_189 : decode cL_locks 189 = .ok (.invokevirtual 77, 3) := by decide +kernel
theorem dL_locks_192 : decode cL_locks 192 = .ok (.iconst 3, 1) := by decide +kernel
theorem dL_locks_193 : decode cL_locks 193 = .ok (.if_icmp .ne 176, 3) := by decide +kernel
theorem dL_locks_196 : decode cL_locks 196 = .ok (.aload_n 0, 1) := by decide +kernel
theorem dL_locks_197 : decode cL_locks 197 = .ok (.bipush 11, 2) := by decide +kernel
theorem dL_locks_199 : decode cL_locks 199 = .ok (.invokevirtual 31, 3) := by decide +kernel
