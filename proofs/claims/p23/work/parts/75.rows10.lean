theorem dL_locks_936 : decode cL_locks 936 = .ok (.iconst 2, 1) := by decide +kernel
theorem dL_locks_937 : decode cL_locks 937 = .ok (.iconst 1, 1) := by decide +kernel
theorem dL_locks_938 : decode cL_locks 938 = .ok (.iconst (-1), 1) := by decide +kernel
theorem dL_locks_939 : decode cL_locks 939 = .ok (.iconst 0, 1) := by decide +kernel
theorem dL_locks_940 : decode cL_locks 940 = .ok (.invokevirtual 13, 3) := by decide +kernel
theorem dL_locks_943 : decode cL_locks 943 = .ok (.ifCond .ne 187, 3) := by decide +kernel
theorem dL_locks_946 : decode cL_locks 946 = .ok (.aload_n 0, 1) := by decide +kernel
theorem dL_locks_947 : decode cL_locks 947 = .ok (.iconst 0, 1) := by decide +kernel
theorem dL_locks_948 : decode cL_locks 948 = .ok (.iconst 2, 1) := by decide +kernel
theorem dL_locks_949 : decode cL_locks 949 = .ok (.bipush 19, 2) := by decide +kernel
theorem dL_locks_951 : decode cL_locks 951 = .ok (.iconst 0, 1) := by decide +kernel
theorem dL_locks_952 : decode cL_locks 952 = .ok (.iconst 0, 1) := by decide +kernel
theorem dL_locks_953 : decode cL_locks 953 = .ok (.invokevirtual 28, 3) := by decide +kernel
theorem dL_locks_956 : decode cL_locks 956 = .ok (.iconst 4, 1) := by decide +kernel
theorem dL_locks_957 : decode cL_locks 957 = .ok (.if_icmp .ne 173, 3) := by decide +kernel
theorem dL_locks_960 : decode cL_locks 960 = .ok (.aload_n 0, 1) := by decide +kernel
theorem dL_locks_961 : decode cL_locks 961 = .ok (.iconst 1, 1) := by decide +kernel
theorem dL_locks_962 : decode cL_locks 962 = .ok (.iconst 2, 1) := by decide +kernel
theorem dL_locks_963 : decode cL_locks 963 = .ok (.bipush 19, 2) := by decide +kernel
theorem dL_locks_965 : decode cL_locks 965 = .ok (.iconst 0, 1) := by decide +kernel
theorem dL_locks_966 : decode cL_locks 966 = .ok (.bipush 32, 2) := by decide +kernel
theorem dL_locks_968 : decode cL_locks 968 = .ok (.invokevirtual 28, 3) := by decide +kernel
theorem dL_locks_971 : decode cL_locks 971 = .ok (.ifCond .ne 159, 3) := by decide +kernel
theorem dL_locks_974 : decode cL_locks 974 = .ok (.aload_n 0, 1) := by decide +kernel
theorem dL_locks_975 : decode cL_locks 975 = .ok (.iconst 2, 1) := by decide +kernel
theorem dL_locks_976 : decode cL_locks 976 = .ok (.bipush 12, 2) := by decide +kernel
theorem dL_locks_978 : decode cL_locks 978 = .ok (.bipush 64, 2) := by decide +kernel
theorem dL_locks_980 : decode cL_locks 980 = .ok (.invokevirtual 17, 3) := by decide +kernel
theorem dL_locks_983 : decode cL_locks 983 = .ok (.iconst 4, 1) := by decide +kernel
theorem dL_locks_984 : decode cL_locks 984 = .ok (.if_icmp .ne 146, 3) := by decide +kernel
theorem dL_locks_987 : decode cL_locks 987 = .ok (.aload_n 0, 1) := by decide +kernel
theorem dL_locks_988 : decode cL_locks 988 = .ok (.iconst 1, 1) := by decide +kernel
theorem dL_locks_989 : decode cL_locks 989 = .ok (.bipush 12, 2) := by decide +kernel
theorem dL_locks_991 : decode cL_locks 991 = .ok (.bipush 32, 2) := by decide +kernel
theorem dL_locks_993 : decode cL_locks 993 = .ok (.invokevirtual 17, 3) := by decide +kernel
theorem dL_locks_996 : decode cL_locks 996 = .ok (.ifCond .ne 134, 3) := by decide +kernel
theorem dL_locks_999 : decode cL_locks 999 = .ok (.aload_n 0, 1) := by decide +kernel
theorem dL_locks_1000 : decode cL_locks 1000 = .ok (.bipush 12, 2) := by decide +kernel
theorem dL_locks_1002 : decode cL_locks 1002 = .ok (.invokevirtual 58, 3) := by decide +kernel
theorem dL_locks_1005 : decode cL_locks 1005 = .ok (.bipush 32, 2) := by decide +kernel
theorem dL_locks_1007 : decode cL_locks 1007 = .ok (.if_icmp .ne 123, 3) := by decide +kernel
theorem dL_locks_1010 : decode cL_locks 1010 = .ok (.aload_n 0, 1) := by decide +kernel
theorem dL_locks_1011 : decode cL_locks 1011 = .ok (.bipush 12, 2) := by decide +kernel
theorem dL_locks_1013 : decode cL_locks 1013 = .ok (.iconst 2, 1) := by decide +kernel
theorem dL_locks_1014 : decode cL_locks 1014 = .ok (.bipush 6, 2) := by decide +kernel
theorem dL_locks_1016 : decode cL_locks 1016 = .ok (.iconst 5, 1) := by decide +kernel
theorem dL_locks_1017 : decode cL_locks 1017 = .ok (.iconst 0, 1) := by decide +kernel
theorem dL_locks_1018 : decode cL_locks 1018 = .ok (.invokestatic 85, 3) := by decide +kernel
theorem dL_locks_1021 : decode cL_locks 1021 = .ok (.sipush (-9001), 3) := by decide +kernel
theorem dL_locks_1024 : decode cL_locks 1024 = .ok (.if_icmp .ne 106, 3) := by decide +kernel
theorem dL_locks_1027 : decode cL_locks 1027 = .ok (.aload_n 0, 1) := by decide +kernel
theorem dL_locks_1028 : decode cL_locks 1028 = .ok (.invokevirtual 77, 3) := by decide +kernel
theorem dL_locks_1031 : decode cL_locks 1031 = .ok (.iconst 3, 1) := by decide +kernel
theorem dL_locks_1032 : decode cL_locks 1032 = .ok (.if_icmp .ne 98, 3) := by decide +kernel
theorem dL_locks_1035 : decode cL_locks 1035 = .ok (.aload_n 0, 1) := by decide +kernel
theorem dL_locks_1036 : decode cL_locks 1036 = .ok (.iconst 3, 1) := by decide +kernel
theorem dL_locks_1037 : decode cL_locks 1037 = .ok (.iconst 0, 1) := by decide +kernel
theorem dL_locks_1038 : decode cL_locks 1038 = .ok (.iconst 1, 1) := by decide +kernel
theorem dL_locks_1039 : decode cL_locks 1039 = .ok (.iconst 0, 1) := by decide +kernel
theorem dL_locks_1040 : decode cL_locks 1040 = .ok (.bipush 7, 2) := by decide +kernel
theorem dL_locks_1042 : decode cL_locks 1042 = .ok (.iconst 0, 1) := by decide +kernel
theorem dL_locks_1043 : decode cL_locks 1043 = .ok (.invokevirtual 48, 3) := by decide +kernel
theorem dL_locks_1046 : decode cL_locks 1046 = .ok (.bipush 7, 2) := by decide +kernel
theorem dL_locks_1048 : decode cL_locks 1048 = .ok (.if_icmp .ne 82, 3) := by decide +kernel
theorem dL_locks_1051 : decode cL_locks 1051 = .ok (.aload_n 0, 1) := by decide +kernel
theorem dL_locks_1052 : decode cL_locks 1052 = .ok (.bipush 19, 2) := by decide +kernel
theorem dL_locks_1054 : decode cL_locks 1054 = .ok (.iconst 3, 1) := by decide +kernel
theorem dL_locks_1055 : decode cL_locks 1055 = .ok (.iconst 0, 1) := by decide +kernel
theorem dL_locks_1056 : decode cL_locks 1056 = .ok (.iconst 1, 1) := by decide +kernel
theorem dL_locks_1057 : decode cL_locks 1057 = .ok (.iconst 0, 1) := by decide +kernel
theorem dL_locks_1058 : decode cL_locks 1058 = .ok (.invokestatic 85, 3) := by decide +kernel
theorem dL_locks_1061 : decode cL_locks 1061 = .ok (.bipush 8, 2) := by decide +kernel
theorem dL_locks_1063 : decode cL_locks 1063 = .ok (.if_icmp .ne 67, 3) := by decide +kernel
theorem dL_locks_1066 : decode cL_locks 1066 = .ok (.aload_n 0, 1) := by decide +kernel
theorem dL_locks_1067 : decode cL_locks 1067 = .ok (.iconst 0, 1) := by decide +kernel
theorem dL_locks_1068 : decode cL_locks 1068 = .ok (.invokevirtual 58, 3) := by decide +kernel
theorem dL_locks_1071 : decode cL_locks 1071 = .ok (.sipush 384, 3) := by decide +kernel
theorem dL_locks_1074 : decode cL_locks 1074 = .ok (.if_icmp .ne 56, 3) := by decide +kernel
theorem dL_locks_1077 : decode cL_locks 1077 = .ok (.aload_n 0, 1) := by decide +kernel
theorem dL_locks_1078 : decode cL_locks 1078 = .ok (.iconst 5, 1) := by decide +kernel
theorem dL_locks_1079 : decode cL_locks 1079 = .ok (.invokevirtual 58, 3) := by decide +kernel
theorem dL_locks_1082 : decode cL_locks 1082 = .ok (.sipush 256, 3) := by decide +kernel
theorem dL_locks_1085 : decode cL_locks 1085 = .ok (.if_icmp .ne 45, 3) := by decide +kernel
theorem dL_locks_1088 : decode cL_locks 1088 = .ok (.aload_n 0, 1) := by decide +kernel
theorem dL_locks_1089 : decode cL_locks 1089 = .ok (.iconst 0, 1) := by decide +kernel
theorem dL_locks_1090 : decode cL_locks 1090 = .ok (.iconst 5, 1) := by decide +kernel
theorem dL_locks_1091 : decode cL_locks 1091 = .ok (.iconst 0, 1) := by decide +kernel
theorem dL_locks_1092 : decode cL_locks 1092 = .ok (.invokevirtual 7, 3) := by decide +kernel
theorem dL_locks_1095 : decode cL_locks 1095 = .ok (.iconst 4, 1) := by decide +kernel
theorem dL_locks_1096 : decode cL_locks 1096 = .ok (.if_icmp .ne 34, 3) := by decide +kernel
theorem dL_locks_1099 : decode cL_locks 1099 = .ok (.aload_n 0, 1) := by decide +kernel
theorem dL_locks_1100 : decode cL_locks 1100 = .ok (.iconst 3, 1) := by decide +kernel
theorem dL_locks_1101 : decode cL_locks 1101 = .ok (.iconst 5, 1) := by decide +kernel
theorem dL_locks_1102 : decode cL_locks 1102 = .ok (.sipush 256, 3) := by decide +kernel
theorem dL_locks_1105 : decode cL_locks 1105 = .ok (.invokevirtual 7, 3) := by decide +kernel
theorem dL_locks_1108 : decode cL_locks 1108 = .ok (.ifCond .ne 22, 3) := by decide +kernel
theorem dL_locks_1111 : decode cL_locks 1111 = .ok (.aload_n 0, 1) := by decide +kernel
theorem dL_locks_1112 : decode cL_locks 1112 = .ok (.bipush 7, 2) := by decide +kernel
theorem dL_locks_1114 : decode cL_locks 1114 = .ok (.invokevirtual 55, 3) := by decide +kernel
theorem dL_locks_1117 : decode cL_locks 1117 = .ok (.iconst 1, 1) := by decide +kernel
theorem dL_locks_1118 : decode cL_locks 1118 = .ok (.if_icmp .ne 12, 3) := by decide +kernel
theorem dL_locks_1121 : decode cL_locks 1121 = .ok (.aload_n 0, 1) := by decide +kernel
theorem dL_locks_1122 : decode cL_locks 1122 = .ok (.iconst 3, 1) := by decide +kernel
theorem dL_locks_1123 : decode cL_locks 1123 = .ok (.invokevirtual 55, 3) := by decide +kernel
theorem dL_locks_1126 : decode cL_locks 1126 = .ok (.iconst 1, 1) := by decide +kernel
theorem dL_locks_1127 : decode cL_locks 1127 = .ok (.if_icmp .eq 5, 3) := by decide +kernel
theorem dL_locks_1130 : decode cL_locks 1130 = .ok (.iconst 0, 1) := by decide +kernel
theorem dL_locks_1131 : decode cL_locks 1131 = .ok (.ireturn, 1) := by decide +kernel
theorem dL_locks_1132 : decode cL_locks 1132 = .ok (.aload_n 0, 1) := by decide +kernel
theorem dL_locks_1133 : decode cL_locks 1133 = .ok (.sipush 1000, 3) := by decide +kernel
theorem dL_locks_1136 : decode cL_locks 1136 = .ok (.invokevirtual 55, 3) := by decide +kernel
theorem dL_locks_1139 : decode cL_locks 1139 = .ok (.iconst 1, 1) := by decide +kernel
theorem dL_locks_1140 : decode cL_locks 1140 = .ok (.if_icmp .ne 54, 3) := by decide +kernel
theorem dL_locks_1143 : decode cL_locks 1143 = .ok (.aload_n 0, 1) := by decide +kernel
theorem dL_locks_1144 : decode cL_locks 1144 = .ok (.iconst 1, 1) := by decide +kernel
theorem dL_locks_1145 : decode cL_locks 1145 = .ok (.invokevirtual 58, 3) := by decide +kernel
theorem dL_locks_1148 : decode cL_locks 1148 = .ok (.ifCond .ne 46, 3) := by decide +kernel
theorem dL_locks_1151 : decode cL_locks 1151 = .ok (.aload_n 0, 1) := by decide +kernel
theorem dL_locks_1152 : decode cL_locks 1152 = .ok (.iconst 0, 1) := by decide +kernel
theorem dL_locks_1153 : decode cL_locks 1153 = .ok (.bipush 19, 2) := by decide +kernel
theorem dL_locks_1155 : decode cL_locks 1155 = .ok (.bipush 51, 2) := by decide +kernel
theorem dL_locks_1157 : decode cL_locks 1157 = .ok (.iconst 0, 1) := by decide +kernel
theorem dL_locks_1158 : decode cL_locks 1158 = .ok (.iconst 0, 1) := by decide +kernel
theorem dL_locks_1159 : decode cL_locks 1159 = .ok (.invokevirtual 28, 3) := by decide +kernel
theorem dL_locks_1162 : decode cL_locks 1162 = .ok (.ifCond .ne 32, 3) := by decide +kernel
theorem dL_locks_1165 : decode cL_locks 1165 = .ok (.aload_n 0, 1) := by decide +kernel
theorem dL_locks_1166 : decode cL_locks 1166 = .ok (.iconst 0, 1) := by decide +kernel
theorem dL_locks_1167 : decode cL_locks 1167 = .ok (.iconst 1, 1) := by decide +kernel
theorem dL_locks_1168 : decode cL_locks 1168 = .ok (.iconst 0, 1) := by decide +kernel
theorem dL_locks_1169 : decode cL_locks 1169 = .ok (.invokevirtual 17, 3) := by decide +kernel
theorem dL_locks_1172 : decode cL_locks 1172 = .ok (.ifCond .ne 22, 3) := by decide +kernel
theorem dL_locks_1175 : decode cL_locks 1175 = .ok (.aload_n 0, 1) := by decide +kernel
theorem dL_locks_1176 : decode cL_locks 1176 = .ok (.invokevirtual 77, 3) := by decide +kernel
theorem dL_locks_1179 : decode cL_locks 1179 = .ok (.iconst 2, 1) := by decide +kernel
theorem dL_locks_1180 : decode cL_locks 1180 = .ok (.if_icmp .ne 14, 3) := by decide +kernel
theorem dL_locks_1183 : decode cL_locks 1183 = .ok (.aload_n 0, 1) := by decide +kernel
theorem dL_locks_1184 : decode cL_locks 1184 = .ok (.invokestatic 92, 3) := by decide +kernel
theorem dL_locks_1187 : decode cL_locks 1187 = .ok (.ifCond .eq 7, 3) := by decide +kernel
theorem dL_locks_1190 : decode cL_locks 1190 = .ok (.iconst 1, 1) := by decide +kernel
theorem dL_locks_1191 : decode cL_locks 1191 = .ok (.goto 4, 3) := by decide +kernel
theorem dL_locks_1194 : decode cL_locks 1194 = .ok (.iconst 0, 1) := by decide +kernel
theorem dL_locks_1195 : decode cL_locks 1195 = .ok (.ireturn, 1) := by decide +kernel
theorem dL_partly_0 : decode cL_partly 0 = .ok (.new 8, 3) := by decide +kernel
theorem dL_partly_3 : decode cL_partly 3 = .ok (.dup, 1) := by decide +kernel
theorem dL_partly_4 : decode cL_partly 4 = .ok (.invokespecial 91, 3) := by decide +kernel
theorem dL_partly_7 : decode cL_partly 7 = .ok (.astore_n 0, 1) := by decide +kernel
theorem dL_partly_8 : decode cL_partly 8 = .ok (.aload_n 0, 1) := by decide +kernel
theorem dL_partly_9 : decode cL_partly 9 = .ok (.invokestatic 99, 3) := by decide +kernel
theorem dL_partly_12 : decode cL_partly 12 = .ok (.ifCond .eq 222, 3) := by decide +kernel
theorem dL_partly_15 : decode cL_partly 15 = .ok (.aload_n 0, 1) := by decide +kernel
theorem dL_partly_16 : decode cL_partly 16 = .ok (.iconst 0, 1) := by decide +kernel
theorem dL_partly_17 : decode cL_partly 17 = .ok (.bipush 13, 2) := by decide +kernel
theorem dL_partly_19 : decode cL_partly 19 = .ok (.iconst 0, 1) := by decide +kernel
theorem dL_partly_20 : decode cL_partly 20 = .ok (.invokevirtual 7, 3) := by decide +kernel
theorem dL_partly_23 : decode cL_partly 23 = .ok (.ifCond .ne 211, 3) := by decide +kernel
theorem dL_partly_26 : decode cL_partly 26 = .ok (.aload_n 0, 1) := by decide +kernel
theorem dL_partly_27 : decode cL_partly 27 = .ok (.iconst 0, 1) := by decide +kernel
theorem dL_partly_28 : decode cL_partly 28 = .ok (.sipush 131, 3) := by decide +kernel
theorem dL_partly_31 : decode cL_partly 31 = .ok (.iconst 3, 1) := by decide +kernel
theorem dL_partly_32 : decode cL_partly 32 = .ok (.iconst (-1), 1) := by decide +kernel
theorem dL_partly_33 : decode cL_partly 33 = .ok (.iconst 0, 1) := by decide +kernel
theorem dL_partly_34 : decode cL_partly 34 = .ok (.invokevirtual 13, 3) := by decide +kernel
theorem dL_partly_37 : decode cL_partly 37 = .ok (.ifCond .ne 197, 3) := by decide +kernel
theorem dL_partly_40 : decode cL_partly 40 = .ok (.aload_n 0, 1) := by decide +kernel
theorem dL_partly_41 : decode cL_partly 41 = .ok (.iconst 2, 1) := by decide +kernel
theorem dL_partly_42 : decode cL_partly 42 = .ok (.bipush 12, 2) := by decide +kernel
theorem dL_partly_44 : decode cL_partly 44 = .ok (.iconst 0, 1) := by decide +kernel
theorem dL_partly_45 : decode cL_partly 45 = .ok (.iconst 0, 1) := by decide +kernel
theorem dL_partly_46 : decode cL_partly 46 = .ok (.bipush 9, 2) := by decide +kernel
theorem dL_partly_48 : decode cL_partly 48 = .ok (.iconst 0, 1) := by decide +kernel
theorem dL_partly_49 : decode cL_partly 49 = .ok (.invokevirtual 48, 3) := by decide +kernel
theorem dL_partly_52 : decode cL_partly 52 = .ok (.ifCond .ne 182, 3) := by decide +kernel
theorem dL_partly_55 : decode cL_partly 55 = .ok (.aload_n 0, 1) := by decide +kernel
theorem dL_partly_56 : decode cL_partly 56 = .ok (.iconst 2, 1) := by decide +kernel
theorem dL_partly_57 : decode cL_partly 57 = .ok (.sipush 131, 3) := by decide +kernel
theorem dL_partly_60 : decode cL_partly 60 = .ok (.iconst 0, 1) := by decide +kernel
theorem dL_partly_61 : decode cL_partly 61 = .ok (.iconst 0, 1) := by decide +kernel
theorem dL_partly_62 : decode cL_partly 62 = .ok (.bipush 9, 2) := by decide +kernel
theorem dL_partly_64 : decode cL_partly 64 = .ok (.iconst 0, 1) := by decide +kernel
theorem dL_partly_65 : decode cL_partly 65 = .ok (.invokevirtual 48, 3) := by decide +kernel
theorem dL_partly_68 : decode cL_partly 68 = .ok (.iconst 1, 1) := by decide +kernel
theorem dL_partly_69 : decode cL_partly 69 = .ok (.if_icmp .ne 165, 3) := by decide +kernel
theorem dL_partly_72 : decode cL_partly 72 = .ok (.aload_n 0, 1) := by decide +kernel
theorem dL_partly_73 : decode cL_partly 73 = .ok (.iconst 3, 1) := by decide +kernel
theorem dL_partly_74 : decode cL_partly 74 = .ok (.bipush 11, 2) := by decide +kernel
theorem dL_partly_76 : decode cL_partly 76 = .ok (.iconst 0, 1) := by decide +kernel
theorem dL_partly_77 : decode cL_partly 77 = .ok (.iconst 0, 1) := by decide +kernel
theorem dL_partly_78 : decode cL_partly 78 = .ok (.bipush 9, 2) := by decide +kernel
theorem dL_partly_80 : decode cL_partly 80 = .ok (.iconst 0, 1) := by decide +kernel
theorem dL_partly_81 : decode cL_partly 81 = .ok (.invokevirtual 48, 3) := by decide +kernel
theorem dL_partly_84 : decode cL_partly 84 = .ok (.iconst 2, 1) := by decide +kernel
theorem dL_partly_85 : decode cL_partly 85 = .ok (.if_icmp .ne 149, 3) := by decide +kernel
theorem dL_partly_88 : decode cL_partly 88 = .ok (.aload_n 0, 1) := by decide +kernel
theorem dL_partly_89 : decode cL_partly 89 = .ok (.iconst 0, 1) := by decide +kernel
theorem dL_partly_90 : decode cL_partly 90 = .ok (.iconst 1, 1) := by decide +kernel
theorem dL_partly_91 : decode cL_partly 91 = .ok (.iconst 0, 1) := by decide +kernel
theorem dL_partly_92 : decode cL_partly 92 = .ok (.invokevirtual 17, 3) := by decide +kernel
theorem dL_partly_95 : decode cL_partly 95 = .ok (.bipush 6, 2) := by decide +kernel
theorem dL_partly_97 : decode cL_partly 97 = .ok (.if_icmp .ne 137, 3) := by decide +kernel
theorem dL_partly_100 : decode cL_partly 100 = .ok (.aload_n 0, 1) := by decide +kernel
