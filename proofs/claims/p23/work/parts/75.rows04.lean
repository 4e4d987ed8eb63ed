theorem dL_refuses_1063 : decode cL_refuses 1063 = .ok (.iload 13, 2) := by decide +kernel
theorem dL_refuses_1065 : decode cL_refuses 1065 = .ok (.iconst 0, 1) := by decide +kernel
theorem dL_refuses_1066 : decode cL_refuses 1066 = .ok (.invokestatic 85, 3) := by decide +kernel
theorem dL_refuses_1069 : decode cL_refuses 1069 = .ok (.iload 6, 2) := by decide +kernel
theorem dL_refuses_1071 : decode cL_refuses 1071 = .ok (.if_icmp .ne 37, 3) := by decide +kernel
theorem dL_refuses_1074 : decode cL_refuses 1074 = .ok (.aload_n 0, 1) := by decide +kernel
theorem dL_refuses_1075 : decode cL_refuses 1075 = .ok (.bipush 17, 2) := by decide +kernel
theorem dL_refuses_1077 : decode cL_refuses 1077 = .ok (.iconst 0, 1) := by decide +kernel
theorem dL_refuses_1078 : decode cL_refuses 1078 = .ok (.iconst 0, 1) := by decide +kernel
theorem dL_refuses_1079 : decode cL_refuses 1079 = .ok (.iconst 0, 1) := by decide +kernel
theorem dL_refuses_1080 : decode cL_refuses 1080 = .ok (.iload 13, 2) := by decide +kernel
theorem dL_refuses_1082 : decode cL_refuses 1082 = .ok (.invokestatic 85, 3) := by decide +kernel
theorem dL_refuses_1085 : decode cL_refuses 1085 = .ok (.iload 6, 2) := by decide +kernel
theorem dL_refuses_1087 : decode cL_refuses 1087 = .ok (.if_icmp .ne 21, 3) := by decide +kernel
theorem dL_refuses_1090 : decode cL_refuses 1090 = .ok (.aload_n 0, 1) := by decide +kernel
theorem dL_refuses_1091 : decode cL_refuses 1091 = .ok (.bipush 17, 2) := by decide +kernel
theorem dL_refuses_1093 : decode cL_refuses 1093 = .ok (.iconst 0, 1) := by decide +kernel
theorem dL_refuses_1094 : decode cL_refuses 1094 = .ok (.iconst 0, 1) := by decide +kernel
theorem dL_refuses_1095 : decode cL_refuses 1095 = .ok (.iconst 0, 1) := by decide +kernel
theorem dL_refuses_1096 : decode cL_refuses 1096 = .ok (.iconst 0, 1) := by decide +kernel
theorem dL_refuses_1097 : decode cL_refuses 1097 = .ok (.invokestatic 85, 3) := by decide +kernel
theorem dL_refuses_1100 : decode cL_refuses 1100 = .ok (.iconst 1, 1) := by decide +kernel
theorem dL_refuses_1101 : decode cL_refuses 1101 = .ok (.if_icmp .ne 7, 3) := by decide +kernel
theorem dL_refuses_1104 : decode cL_refuses 1104 = .ok (.iconst 1, 1) := by decide +kernel
theorem dL_refuses_1105 : decode cL_refuses 1105 = .ok (.goto 4, 3) := by decide +kernel
theorem dL_refuses_1108 : decode cL_refuses 1108 = .ok (.iconst 0, 1) := by decide +kernel
theorem dL_refuses_1109 : decode cL_refuses 1109 = .ok (.istore 15, 2) := by decide +kernel
theorem dL_refuses_1111 : decode cL_refuses 1111 = .ok (.iload 15, 2) := by decide +kernel
theorem dL_refuses_1113 : decode cL_refuses 1113 = .ok (.ifCond .ne 5, 3) := by decide +kernel
theorem dL_refuses_1116 : decode cL_refuses 1116 = .ok (.iconst 0, 1) := by decide +kernel
theorem dL_refuses_1117 : decode cL_refuses 1117 = .ok (.ireturn, 1) := by decide +kernel
theorem dL_refuses_1118 : decode cL_refuses 1118 = .ok (.iinc 8 1, 3) := by decide +kernel
theorem dL_refuses_1121 : decode cL_refuses 1121 = .ok (.goto (-1081), 3) := by decide +kernel
theorem dL_refuses_1124 : decode cL_refuses 1124 = .ok (.aload_n 0, 1) := by decide +kernel
theorem dL_refuses_1125 : decode cL_refuses 1125 = .ok (.invokevirtual 77, 3) := by decide +kernel
theorem dL_refuses_1128 : decode cL_refuses 1128 = .ok (.iload_n 1, 1) := by decide +kernel
theorem dL_refuses_1129 : decode cL_refuses 1129 = .ok (.if_icmp .ne 34, 3) := by decide +kernel
theorem dL_refuses_1132 : decode cL_refuses 1132 = .ok (.aload_n 0, 1) := by decide +kernel
theorem dL_refuses_1133 : decode cL_refuses 1133 = .ok (.iconst 0, 1) := by decide +kernel
theorem dL_refuses_1134 : decode cL_refuses 1134 = .ok (.invokevirtual 37, 3) := by decide +kernel
theorem dL_refuses_1137 : decode cL_refuses 1137 = .ok (.iload_n 2, 1) := by decide +kernel
theorem dL_refuses_1138 : decode cL_refuses 1138 = .ok (.if_icmp .ne 25, 3) := by decide +kernel
theorem dL_refuses_1141 : decode cL_refuses 1141 = .ok (.aload_n 0, 1) := by decide +kernel
theorem dL_refuses_1142 : decode cL_refuses 1142 = .ok (.invokevirtual 81, 3) := by decide +kernel
theorem dL_refuses_1145 : decode cL_refuses 1145 = .ok (.iload_n 3, 1) := by decide +kernel
theorem dL_refuses_1146 : decode cL_refuses 1146 = .ok (.if_icmp .ne 17, 3) := by decide +kernel
theorem dL_refuses_1149 : decode cL_refuses 1149 = .ok (.aload_n 0, 1) := by decide +kernel
theorem dL_refuses_1150 : decode cL_refuses 1150 = .ok (.iconst 0, 1) := by decide +kernel
theorem dL_refuses_1151 : decode cL_refuses 1151 = .ok (.invokevirtual 58, 3) := by decide +kernel
theorem dL_refuses_1154 : decode cL_refuses 1154 = .ok (.iload 4, 2) := by decide +kernel
theorem dL_refuses_1156 : decode cL_refuses 1156 = .ok (.if_icmp .ne 7, 3) := by decide +kernel
theorem dL_refuses_1159 : decode cL_refuses 1159 = .ok (.iconst 1, 1) := by decide +kernel
theorem dL_refuses_1160 : decode cL_refuses 1160 = .ok (.goto 4, 3) := by decide +kernel
theorem dL_refuses_1163 : decode cL_refuses 1163 = .ok (.iconst 0, 1) := by decide +kernel
theorem dL_refuses_1164 : decode cL_refuses 1164 = .ok (.ireturn, 1) := by decide +kernel
theorem dL_order_0 : decode cL_order 0 = .ok (.iload_n 2, 1) := by decide +kernel
theorem dL_order_1 : decode cL_order 1 = .ok (.ifCond .ne 7, 3) := by decide +kernel
theorem dL_order_4 : decode cL_order 4 = .ok (.iconst 0, 1) := by decide +kernel
theorem dL_order_5 : decode cL_order 5 = .ok (.goto 21, 3) := by decide +kernel
theorem dL_order_8 : decode cL_order 8 = .ok (.iload_n 3, 1) := by decide +kernel
theorem dL_order_9 : decode cL_order 9 = .ok (.ifCond .ne 7, 3) := by decide +kernel
theorem dL_order_12 : decode cL_order 12 = .ok (.iconst 1, 1) := by decide +kernel
theorem dL_order_13 : decode cL_order 13 = .ok (.goto 13, 3) := by decide +kernel
theorem dL_order_16 : decode cL_order 16 = .ok (.iload 4, 2) := by decide +kernel
theorem dL_order_18 : decode cL_order 18 = .ok (.ifCond .ne 7, 3) := by decide +kernel
theorem dL_order_21 : decode cL_order 21 = .ok (.iconst 2, 1) := by decide +kernel
theorem dL_order_22 : decode cL_order 22 = .ok (.goto 4, 3) := by decide +kernel
theorem dL_order_25 : decode cL_order 25 = .ok (.iconst 3, 1) := by decide +kernel
theorem dL_order_26 : decode cL_order 26 = .ok (.istore 5, 2) := by decide +kernel
theorem dL_order_28 : decode cL_order 28 = .ok (.aload_n 0, 1) := by decide +kernel
theorem dL_order_29 : decode cL_order 29 = .ok (.iload_n 1, 1) := by decide +kernel
theorem dL_order_30 : decode cL_order 30 = .ok (.invokevirtual 37, 3) := by decide +kernel
theorem dL_order_33 : decode cL_order 33 = .ok (.iload 5, 2) := by decide +kernel
theorem dL_order_35 : decode cL_order 35 = .ok (.if_icmp .ne 56, 3) := by decide +kernel
theorem dL_order_38 : decode cL_order 38 = .ok (.iload 5, 2) := by decide +kernel
theorem dL_order_40 : decode cL_order 40 = .ok (.iconst 1, 1) := by decide +kernel
theorem dL_order_41 : decode cL_order 41 = .ok (.if_icmp .lt 13, 3) := by decide +kernel
theorem dL_order_44 : decode cL_order 44 = .ok (.aload_n 0, 1) := by decide +kernel
theorem dL_order_45 : decode cL_order 45 = .ok (.iload_n 1, 1) := by decide +kernel
theorem dL_order_46 : decode cL_order 46 = .ok (.iconst 0, 1) := by decide +kernel
theorem dL_order_47 : decode cL_order 47 = .ok (.invokevirtual 40, 3) := by decide +kernel
theorem dL_order_50 : decode cL_order 50 = .ok (.iload_n 2, 1) := by decide +kernel
theorem dL_order_51 : decode cL_order 51 = .ok (.if_icmp .ne 40, 3) := by decide +kernel
theorem dL_order_54 : decode cL_order 54 = .ok (.iload 5, 2) := by decide +kernel
theorem dL_order_56 : decode cL_order 56 = .ok (.iconst 2, 1) := by decide +kernel
theorem dL_order_57 : decode cL_order 57 = .ok (.if_icmp .lt 13, 3) := by decide +kernel
theorem dL_order_60 : decode cL_order 60 = .ok (.aload_n 0, 1) := by decide +kernel
theorem dL_order_61 : decode cL_order 61 = .ok (.iload_n 1, 1) := by decide +kernel
theorem dL_order_62 : decode cL_order 62 = .ok (.iconst 1, 1) := by decide +kernel
theorem dL_order_63 : decode cL_order 63 = .ok (.invokevirtual 40, 3) := by decide +kernel
theorem dL_order_66 : decode cL_order 66 = .ok (.iload_n 3, 1) := by decide +kernel
theorem dL_order_67 : decode cL_order 67 = .ok (.if_icmp .ne 24, 3) := by decide +kernel
theorem dL_order_70 : decode cL_order 70 = .ok (.iload 5, 2) := by decide +kernel
theorem dL_order_72 : decode cL_order 72 = .ok (.iconst 3, 1) := by decide +kernel
theorem dL_order_73 : decode cL_order 73 = .ok (.if_icmp .lt 14, 3) := by decide +kernel
theorem dL_order_76 : decode cL_order 76 = .ok (.aload_n 0, 1) := by decide +kernel
theorem dL_order_77 : decode cL_order 77 = .ok (.iload_n 1, 1) := by decide +kernel
theorem dL_order_78 : decode cL_order 78 = .ok (.iconst 2, 1) := by decide +kernel
theorem dL_order_79 : decode cL_order 79 = .ok (.invokevirtual 40, 3) := by decide +kernel
theorem dL_order_82 : decode cL_order 82 = .ok (.iload 4, 2) := by decide +kernel
theorem dL_order_84 : decode cL_order 84 = .ok (.if_icmp .ne 7, 3) := by decide +kernel
theorem dL_order_87 : decode cL_order 87 = .ok (.iconst 1, 1) := by decide +kernel
theorem dL_order_88 : decode cL_order 88 = .ok (.goto 4, 3) := by decide +kernel
theorem dL_order_91 : decode cL_order 91 = .ok (.iconst 0, 1) := by decide +kernel
theorem dL_order_92 : decode cL_order 92 = .ok (.ireturn, 1) := by decide +kernel
theorem dL_trees_0 : decode cL_trees 0 = .ok (.new 8, 3) := by decide +kernel
theorem dL_trees_3 : decode cL_trees 3 = .ok (.dup, 1) := by decide +kernel
theorem dL_trees_4 : decode cL_trees 4 = .ok (.invokespecial 91, 3) := by decide +kernel
theorem dL_trees_7 : decode cL_trees 7 = .ok (.astore_n 0, 1) := by decide +kernel
theorem dL_trees_8 : decode cL_trees 8 = .ok (.aload_n 0, 1) := by decide +kernel
theorem dL_trees_9 : decode cL_trees 9 = .ok (.invokevirtual 77, 3) := by decide +kernel
theorem dL_trees_12 : decode cL_trees 12 = .ok (.ifCond .ne 366, 3) := by decide +kernel
theorem dL_trees_15 : decode cL_trees 15 = .ok (.aload_n 0, 1) := by decide +kernel
theorem dL_trees_16 : decode cL_trees 16 = .ok (.iconst 0, 1) := by decide +kernel
theorem dL_trees_17 : decode cL_trees 17 = .ok (.invokevirtual 31, 3) := by decide +kernel
theorem dL_trees_20 : decode cL_trees 20 = .ok (.iconst 2, 1) := by decide +kernel
theorem dL_trees_21 : decode cL_trees 21 = .ok (.if_icmp .ne 357, 3) := by decide +kernel
theorem dL_trees_24 : decode cL_trees 24 = .ok (.aload_n 0, 1) := by decide +kernel
theorem dL_trees_25 : decode cL_trees 25 = .ok (.sipush 9999, 3) := by decide +kernel
theorem dL_trees_28 : decode cL_trees 28 = .ok (.invokevirtual 31, 3) := by decide +kernel
theorem dL_trees_31 : decode cL_trees 31 = .ok (.iconst (-1), 1) := by decide +kernel
theorem dL_trees_32 : decode cL_trees 32 = .ok (.if_icmp .ne 346, 3) := by decide +kernel
theorem dL_trees_35 : decode cL_trees 35 = .ok (.aload_n 0, 1) := by decide +kernel
theorem dL_trees_36 : decode cL_trees 36 = .ok (.iconst 0, 1) := by decide +kernel
theorem dL_trees_37 : decode cL_trees 37 = .ok (.invokevirtual 37, 3) := by decide +kernel
theorem dL_trees_40 : decode cL_trees 40 = .ok (.ifCond .ne 338, 3) := by decide +kernel
theorem dL_trees_43 : decode cL_trees 43 = .ok (.aload_n 0, 1) := by decide +kernel
theorem dL_trees_44 : decode cL_trees 44 = .ok (.invokevirtual 81, 3) := by decide +kernel
theorem dL_trees_47 : decode cL_trees 47 = .ok (.ifCond .ne 331, 3) := by decide +kernel
theorem dL_trees_50 : decode cL_trees 50 = .ok (.aload_n 0, 1) := by decide +kernel
theorem dL_trees_51 : decode cL_trees 51 = .ok (.invokestatic 92, 3) := by decide +kernel
theorem dL_trees_54 : decode cL_trees 54 = .ok (.ifCond .eq 324, 3) := by decide +kernel
theorem dL_trees_57 : decode cL_trees 57 = .ok (.aload_n 0, 1) := by decide +kernel
theorem dL_trees_58 : decode cL_trees 58 = .ok (.iconst 0, 1) := by decide +kernel
theorem dL_trees_59 : decode cL_trees 59 = .ok (.iconst 1, 1) := by decide +kernel
theorem dL_trees_60 : decode cL_trees 60 = .ok (.iconst 0, 1) := by decide +kernel
theorem dL_trees_61 : decode cL_trees 61 = .ok (.invokevirtual 7, 3) := by decide +kernel
theorem dL_trees_64 : decode cL_trees 64 = .ok (.ifCond .ne 314, 3) := by decide +kernel
theorem dL_trees_67 : decode cL_trees 67 = .ok (.aload_n 0, 1) := by decide +kernel
theorem dL_trees_68 : decode cL_trees 68 = .ok (.iconst 3, 1) := by decide +kernel
theorem dL_trees_69 : decode cL_trees 69 = .ok (.bipush 12, 2) := by decide +kernel
theorem dL_trees_71 : decode cL_trees 71 = .ok (.iconst 0, 1) := by decide +kernel
theorem dL_trees_72 : decode cL_trees 72 = .ok (.invokevirtual 7, 3) := by decide +kernel
theorem dL_trees_75 : decode cL_trees 75 = .ok (.ifCond .ne 303, 3) := by decide +kernel
theorem dL_trees_78 : decode cL_trees 78 = .ok (.aload_n 0, 1) := by decide +kernel
theorem dL_trees_79 : decode cL_trees 79 = .ok (.iconst 0, 1) := by decide +kernel
theorem dL_trees_80 : decode cL_trees 80 = .ok (.bipush 121, 2) := by decide +kernel
theorem dL_trees_82 : decode cL_trees 82 = .ok (.bipush 7, 2) := by decide +kernel
theorem dL_trees_84 : decode cL_trees 84 = .ok (.iconst (-1), 1) := by decide +kernel
theorem dL_trees_85 : decode cL_trees 85 = .ok (.iconst 0, 1) := by decide +kernel
theorem dL_trees_86 : decode cL_trees 86 = .ok (.invokevirtual 13, 3) := by decide +kernel
theorem dL_trees_89 : decode cL_trees 89 = .ok (.ifCond .ne 289, 3) := by decide +kernel
theorem dL_trees_92 : decode cL_trees 92 = .ok (.aload_n 0, 1) := by decide +kernel
theorem dL_trees_93 : decode cL_trees 93 = .ok (.iconst 0, 1) := by decide +kernel
theorem dL_trees_94 : decode cL_trees 94 = .ok (.bipush 122, 2) := by decide +kernel
theorem dL_trees_96 : decode cL_trees 96 = .ok (.bipush 8, 2) := by decide +kernel
theorem dL_trees_98 : decode cL_trees 98 = .ok (.iconst (-1), 1) := by decide +kernel
theorem dL_trees_99 : decode cL_trees 99 = .ok (.iconst 0, 1) := by decide +kernel
theorem dL_trees_100 : decode cL_trees 100 = .ok (.invokevirtual 13, 3) := by decide +kernel
theorem dL_trees_103 : decode cL_trees 103 = .ok (.ifCond .ne 275, 3) := by decide +kernel
theorem dL_trees_106 : decode cL_trees 106 = .ok (.aload_n 0, 1) := by decide +kernel
theorem dL_trees_107 : decode cL_trees 107 = .ok (.iconst 0, 1) := by decide +kernel
theorem dL_trees_108 : decode cL_trees 108 = .ok (.bipush 11, 2) := by decide +kernel
theorem dL_trees_110 : decode cL_trees 110 = .ok (.iconst 5, 1) := by decide +kernel
theorem dL_trees_111 : decode cL_trees 111 = .ok (.iconst (-1), 1) := by decide +kernel
theorem dL_trees_112 : decode cL_trees 112 = .ok (.iconst 0, 1) := by decide +kernel
theorem dL_trees_113 : decode cL_trees 113 = .ok (.invokevirtual 13, 3) := by decide +kernel
theorem dL_trees_116 : decode cL_trees 116 = .ok (.ifCond .ne 262, 3) := by decide +kernel
theorem dL_trees_119 : decode cL_trees 119 = .ok (.aload_n 0, 1) := by decide +kernel
theorem dL_trees_120 : decode cL_trees 120 = .ok (.invokevirtual 77, 3) := by decide +kernel
theorem dL_trees_123 : decode cL_trees 123 = .ok (.iconst 5, 1) := by decide +kernel
theorem dL_trees_124 : decode cL_trees 124 = .ok (.if_icmp .ne 254, 3) := by decide +kernel
theorem dL_trees_127 : decode cL_trees 127 = .ok (.aload_n 0, 1) := by decide +kernel
theorem dL_trees_128 : decode cL_trees 128 = .ok (.iconst 1, 1) := by decide +kernel
theorem dL_trees_129 : decode cL_trees 129 = .ok (.bipush 12, 2) := by decide +kernel
theorem dL_trees_131 : decode cL_trees 131 = .ok (.bipush 11, 2) := by decide +kernel
theorem dL_trees_133 : decode cL_trees 133 = .ok (.iconst 0, 1) := by decide +kernel
theorem dL_trees_134 : decode cL_trees 134 = .ok (.invokestatic 96, 3) := by decide +kernel
theorem dL_trees_137 : decode cL_trees 137 = .ok (.ifCond .eq 241, 3) := by decide +kernel
theorem dL_trees_140 : decode cL_trees 140 = .ok (.aload_n 0, 1) := by decide +kernel
theorem dL_trees_141 : decode cL_trees 141 = .ok (.bipush 12, 2) := by decide +kernel
theorem dL_trees_143 : decode cL_trees 143 = .ok (.bipush 121, 2) := by decide +kernel
theorem dL_trees_145 : decode cL_trees 145 = .ok (.bipush 122, 2) := by decide +kernel
theorem dL_trees_147 : decode cL_trees 147 = .ok (.iconst 0, 1) := by decide +kernel
theorem dL_trees_148 : decode cL_trees 148 = .ok (.invokestatic 96, 3) := by decide +kernel
theorem dL_trees_151 : decode cL_trees 151 = .ok (.ifCond .eq 227, 3) := by decide +kernel
theorem dL_trees_154 : decode cL_trees 154 = .ok (.aload_n 0, 1) := by decide +kernel
theorem dL_trees_155 : decode cL_trees 155 = .ok (.iconst 0, 1) := by decide +kernel
theorem dL_trees_156 : decode cL_trees 156 = .ok (.iconst 1, 1) := by decide +kernel
theorem dL_trees_157 : decode cL_trees 157 = .ok (.iconst 0, 1) := by decide +kernel
theorem dL_trees_158 : decode cL_trees 158 = .ok (.iconst 0, 1) := by decide +kernel
theorem dL_trees_159 : decode cL_trees 159 = .ok (.invokestatic 96, 3) := by decide +kernel
theorem dL_trees_162 : decode cL_trees 162 = .ok (.ifCond .eq 216, 3) := by decide +kernel
theorem dL_trees_165 : decode cL_trees 165 = .ok (.aload_n 0, 1) := by decide +kernel
theorem dL_trees_166 : decode cL_trees 166 = .ok (.iconst 0, 1) := by decide +kernel
theorem dL_trees_167 : decode cL_trees 167 = .ok (.bipush 11, 2) := by decide +kernel
theorem dL_trees_169 : decode cL_trees 169 = .ok (.iconst 0, 1) := by decide +kernel
theorem dL_trees_170 : decode cL_trees 170 = .ok (.iconst 0, 1) := by decide +kernel
theorem dL_trees_171 : decode cL_trees 171 = .ok (.invokevirtual 44, 3) := by decide +kernel
theorem dL_trees_174 : decode cL_trees 174 = .ok (.ifCond .ne 204, 3) := by decide +kernel
