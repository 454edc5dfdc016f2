/-! decode rows of the law's body -/
theorem d_Law_law_970 : decode code 970 = .ok (.iconst 1, 1) := by decide +kernel
theorem d_Law_law_971 : decode code 971 = .ok (.iadd, 1) := by decide +kernel
theorem d_Law_law_972 : decode code 972 = .ok (.iaload, 1) := by decide +kernel
theorem d_Law_law_973 : decode code 973 = .ok (.aload_n 0, 1) := by decide +kernel
theorem d_Law_law_974 : decode code 974 = .ok (.iload 4, 2) := by decide +kernel
theorem d_Law_law_976 : decode code 976 = .ok (.iconst 2, 1) := by decide +kernel
theorem d_Law_law_977 : decode code 977 = .ok (.iadd, 1) := by decide +kernel
theorem d_Law_law_978 : decode code 978 = .ok (.iaload, 1) := by decide +kernel
theorem d_Law_law_979 : decode code 979 = .ok (.aload_n 3, 1) := by decide +kernel
theorem d_Law_law_980 : decode code 980 = .ok (.invokestatic 105, 3) := by decide +kernel
theorem d_Law_law_983 : decode code 983 = .ok (.istore 5, 2) := by decide +kernel
theorem d_Law_law_985 : decode code 985 = .ok (.aload_n 2, 1) := by decide +kernel
theorem d_Law_law_986 : decode code 986 = .ok (.aload_n 0, 1) := by decide +kernel
theorem d_Law_law_987 : decode code 987 = .ok (.iload 4, 2) := by decide +kernel
theorem d_Law_law_989 : decode code 989 = .ok (.iconst 1, 1) := by decide +kernel
theorem d_Law_law_990 : decode code 990 = .ok (.iadd, 1) := by decide +kernel
theorem d_Law_law_991 : decode code 991 = .ok (.iaload, 1) := by decide +kernel
theorem d_Law_law_992 : decode code 992 = .ok (.aload_n 0, 1) := by decide +kernel
theorem d_Law_law_993 : decode code 993 = .ok (.iload 4, 2) := by decide +kernel
theorem d_Law_law_995 : decode code 995 = .ok (.iconst 2, 1) := by decide +kernel
theorem d_Law_law_996 : decode code 996 = .ok (.iadd, 1) := by decide +kernel
theorem d_Law_law_997 : decode code 997 = .ok (.iaload, 1) := by decide +kernel
theorem d_Law_law_998 : decode code 998 = .ok (.invokevirtual 108, 3) := by decide +kernel
theorem d_Law_law_1001 : decode code 1001 = .ok (.lstore 6, 2) := by decide +kernel
theorem d_Law_law_1003 : decode code 1003 = .ok (.aload_n 2, 1) := by decide +kernel
theorem d_Law_law_1004 : decode code 1004 = .ok (.invokevirtual 71, 3) := by decide +kernel
theorem d_Law_law_1007 : decode code 1007 = .ok (.iload 5, 2) := by decide +kernel
theorem d_Law_law_1009 : decode code 1009 = .ok (.if_icmp .eq 5, 3) := by decide +kernel
theorem d_Law_law_1012 : decode code 1012 = .ok (.iconst 0, 1) := by decide +kernel
theorem d_Law_law_1013 : decode code 1013 = .ok (.ireturn, 1) := by decide +kernel
theorem d_Law_law_1014 : decode code 1014 = .ok (.iload 5, 2) := by decide +kernel
theorem d_Law_law_1016 : decode code 1016 = .ok (.ifCond .ne 14, 3) := by decide +kernel
theorem d_Law_law_1019 : decode code 1019 = .ok (.aload_n 3, 1) := by decide +kernel
theorem d_Law_law_1020 : decode code 1020 = .ok (.iconst 0, 1) := by decide +kernel
theorem d_Law_law_1021 : decode code 1021 = .ok (.laload, 1) := by decide +kernel
theorem d_Law_law_1022 : decode code 1022 = .ok (.lload 6, 2) := by decide +kernel
theorem d_Law_law_1024 : decode code 1024 = .ok (.lcmp, 1) := by decide +kernel
theorem d_Law_law_1025 : decode code 1025 = .ok (.ifCond .eq 5, 3) := by decide +kernel
theorem d_Law_law_1028 : decode code 1028 = .ok (.iconst 0, 1) := by decide +kernel
theorem d_Law_law_1029 : decode code 1029 = .ok (.ireturn, 1) := by decide +kernel
theorem d_Law_law_1030 : decode code 1030 = .ok (.goto 152, 3) := by decide +kernel
theorem d_Law_law_1033 : decode code 1033 = .ok (.aload_n 1, 1) := by decide +kernel
theorem d_Law_law_1034 : decode code 1034 = .ok (.aload_n 0, 1) := by decide +kernel
theorem d_Law_law_1035 : decode code 1035 = .ok (.iload 4, 2) := by decide +kernel
theorem d_Law_law_1037 : decode code 1037 = .ok (.iconst 1, 1) := by decide +kernel
theorem d_Law_law_1038 : decode code 1038 = .ok (.iadd, 1) := by decide +kernel
theorem d_Law_law_1039 : decode code 1039 = .ok (.iaload, 1) := by decide +kernel
theorem d_Law_law_1040 : decode code 1040 = .ok (.aload_n 0, 1) := by decide +kernel
theorem d_Law_law_1041 : decode code 1041 = .ok (.iload 4, 2) := by decide +kernel
theorem d_Law_law_1043 : decode code 1043 = .ok (.iconst 2, 1) := by decide +kernel
theorem d_Law_law_1044 : decode code 1044 = .ok (.iadd, 1) := by decide +kernel
theorem d_Law_law_1045 : decode code 1045 = .ok (.iaload, 1) := by decide +kernel
theorem d_Law_law_1046 : decode code 1046 = .ok (.aload_n 3, 1) := by decide +kernel
theorem d_Law_law_1047 : decode code 1047 = .ok (.invokestatic 109, 3) := by decide +kernel
theorem d_Law_law_1050 : decode code 1050 = .ok (.istore 5, 2) := by decide +kernel
theorem d_Law_law_1052 : decode code 1052 = .ok (.aload_n 2, 1) := by decide +kernel
theorem d_Law_law_1053 : decode code 1053 = .ok (.aload_n 0, 1) := by decide +kernel
theorem d_Law_law_1054 : decode code 1054 = .ok (.iload 4, 2) := by decide +kernel
theorem d_Law_law_1056 : decode code 1056 = .ok (.iconst 1, 1) := by decide +kernel
theorem d_Law_law_1057 : decode code 1057 = .ok (.iadd, 1) := by decide +kernel
theorem d_Law_law_1058 : decode code 1058 = .ok (.iaload, 1) := by decide +kernel
theorem d_Law_law_1059 : decode code 1059 = .ok (.aload_n 0, 1) := by decide +kernel
theorem d_Law_law_1060 : decode code 1060 = .ok (.iload 4, 2) := by decide +kernel
theorem d_Law_law_1062 : decode code 1062 = .ok (.iconst 2, 1) := by decide +kernel
theorem d_Law_law_1063 : decode code 1063 = .ok (.iadd, 1) := by decide +kernel
theorem d_Law_law_1064 : decode code 1064 = .ok (.iaload, 1) := by decide +kernel
theorem d_Law_law_1065 : decode code 1065 = .ok (.invokevirtual 111, 3) := by decide +kernel
theorem d_Law_law_1068 : decode code 1068 = .ok (.lstore 6, 2) := by decide +kernel
theorem d_Law_law_1070 : decode code 1070 = .ok (.aload_n 2, 1) := by decide +kernel
theorem d_Law_law_1071 : decode code 1071 = .ok (.invokevirtual 71, 3) := by decide +kernel
theorem d_Law_law_1074 : decode code 1074 = .ok (.iload 5, 2) := by decide +kernel
theorem d_Law_law_1076 : decode code 1076 = .ok (.if_icmp .eq 5, 3) := by decide +kernel
theorem d_Law_law_1079 : decode code 1079 = .ok (.iconst 0, 1) := by decide +kernel
theorem d_Law_law_1080 : decode code 1080 = .ok (.ireturn, 1) := by decide +kernel
theorem d_Law_law_1081 : decode code 1081 = .ok (.iload 5, 2) := by decide +kernel
theorem d_Law_law_1083 : decode code 1083 = .ok (.ifCond .ne 14, 3) := by decide +kernel
theorem d_Law_law_1086 : decode code 1086 = .ok (.aload_n 3, 1) := by decide +kernel
theorem d_Law_law_1087 : decode code 1087 = .ok (.iconst 0, 1) := by decide +kernel
theorem d_Law_law_1088 : decode code 1088 = .ok (.laload, 1) := by decide +kernel
theorem d_Law_law_1089 : decode code 1089 = .ok (.lload 6, 2) := by decide +kernel
theorem d_Law_law_1091 : decode code 1091 = .ok (.lcmp, 1) := by decide +kernel
theorem d_Law_law_1092 : decode code 1092 = .ok (.ifCond .eq 5, 3) := by decide +kernel
theorem d_Law_law_1095 : decode code 1095 = .ok (.iconst 0, 1) := by decide +kernel
theorem d_Law_law_1096 : decode code 1096 = .ok (.ireturn, 1) := by decide +kernel
theorem d_Law_law_1097 : decode code 1097 = .ok (.goto 85, 3) := by decide +kernel
theorem d_Law_law_1100 : decode code 1100 = .ok (.aload_n 1, 1) := by decide +kernel
theorem d_Law_law_1101 : decode code 1101 = .ok (.aload_n 0, 1) := by decide +kernel
theorem d_Law_law_1102 : decode code 1102 = .ok (.iload 4, 2) := by decide +kernel
theorem d_Law_law_1104 : decode code 1104 = .ok (.iconst 1, 1) := by decide +kernel
theorem d_Law_law_1105 : decode code 1105 = .ok (.iadd, 1) := by decide +kernel
theorem d_Law_law_1106 : decode code 1106 = .ok (.iaload, 1) := by decide +kernel
theorem d_Law_law_1107 : decode code 1107 = .ok (.aload_n 3, 1) := by decide +kernel
theorem d_Law_law_1108 : decode code 1108 = .ok (.invokestatic 112, 3) := by decide +kernel
theorem d_Law_law_1111 : decode code 1111 = .ok (.istore 5, 2) := by decide +kernel
theorem d_Law_law_1113 : decode code 1113 = .ok (.aload_n 2, 1) := by decide +kernel
theorem d_Law_law_1114 : decode code 1114 = .ok (.aload_n 0, 1) := by decide +kernel
theorem d_Law_law_1115 : decode code 1115 = .ok (.iload 4, 2) := by decide +kernel
theorem d_Law_law_1117 : decode code 1117 = .ok (.iconst 1, 1) := by decide +kernel
theorem d_Law_law_1118 : decode code 1118 = .ok (.iadd, 1) := by decide +kernel
theorem d_Law_law_1119 : decode code 1119 = .ok (.iaload, 1) := by decide +kernel
theorem d_Law_law_1120 : decode code 1120 = .ok (.invokevirtual 114, 3) := by decide +kernel
theorem d_Law_law_1123 : decode code 1123 = .ok (.istore 6, 2) := by decide +kernel
theorem d_Law_law_1125 : decode code 1125 = .ok (.aload_n 2, 1) := by decide +kernel
theorem d_Law_law_1126 : decode code 1126 = .ok (.invokevirtual 71, 3) := by decide +kernel
theorem d_Law_law_1129 : decode code 1129 = .ok (.iload 5, 2) := by decide +kernel
theorem d_Law_law_1131 : decode code 1131 = .ok (.if_icmp .eq 5, 3) := by decide +kernel
theorem d_Law_law_1134 : decode code 1134 = .ok (.iconst 0, 1) := by decide +kernel
theorem d_Law_law_1135 : decode code 1135 = .ok (.ireturn, 1) := by decide +kernel
theorem d_Law_law_1136 : decode code 1136 = .ok (.iload 5, 2) := by decide +kernel
theorem d_Law_law_1138 : decode code 1138 = .ok (.ifCond .ne 15, 3) := by decide +kernel
theorem d_Law_law_1141 : decode code 1141 = .ok (.aload_n 3, 1) := by decide +kernel
theorem d_Law_law_1142 : decode code 1142 = .ok (.iconst 0, 1) := by decide +kernel
theorem d_Law_law_1143 : decode code 1143 = .ok (.laload, 1) := by decide +kernel
theorem d_Law_law_1144 : decode code 1144 = .ok (.iload 6, 2) := by decide +kernel
theorem d_Law_law_1146 : decode code 1146 = .ok (.i2l, 1) := by decide +kernel
theorem d_Law_law_1147 : decode code 1147 = .ok (.lcmp, 1) := by decide +kernel
theorem d_Law_law_1148 : decode code 1148 = .ok (.ifCond .eq 5, 3) := by decide +kernel
theorem d_Law_law_1151 : decode code 1151 = .ok (.iconst 0, 1) := by decide +kernel
theorem d_Law_law_1152 : decode code 1152 = .ok (.ireturn, 1) := by decide +kernel
theorem d_Law_law_1153 : decode code 1153 = .ok (.goto 29, 3) := by decide +kernel
theorem d_Law_law_1156 : decode code 1156 = .ok (.aload_n 1, 1) := by decide +kernel
theorem d_Law_law_1157 : decode code 1157 = .ok (.invokevirtual 115, 3) := by decide +kernel
theorem d_Law_law_1160 : decode code 1160 = .ok (.aload_n 2, 1) := by decide +kernel
theorem d_Law_law_1161 : decode code 1161 = .ok (.invokevirtual 118, 3) := by decide +kernel
theorem d_Law_law_1164 : decode code 1164 = .ok (.if_icmp .eq 18, 3) := by decide +kernel
theorem d_Law_law_1167 : decode code 1167 = .ok (.iconst 0, 1) := by decide +kernel
theorem d_Law_law_1168 : decode code 1168 = .ok (.ireturn, 1) := by decide +kernel
theorem d_Law_law_1169 : decode code 1169 = .ok (.aload_n 1, 1) := by decide +kernel
theorem d_Law_law_1170 : decode code 1170 = .ok (.invokevirtual 119, 3) := by decide +kernel
theorem d_Law_law_1173 : decode code 1173 = .ok (.aload_n 2, 1) := by decide +kernel
theorem d_Law_law_1174 : decode code 1174 = .ok (.invokevirtual 122, 3) := by decide +kernel
theorem d_Law_law_1177 : decode code 1177 = .ok (.if_icmp .eq 5, 3) := by decide +kernel
theorem d_Law_law_1180 : decode code 1180 = .ok (.iconst 0, 1) := by decide +kernel
theorem d_Law_law_1181 : decode code 1181 = .ok (.ireturn, 1) := by decide +kernel
theorem d_Law_law_1182 : decode code 1182 = .ok (.iinc 4 6, 3) := by decide +kernel
theorem d_Law_law_1185 : decode code 1185 = .ok (.goto (-1142), 3) := by decide +kernel
theorem d_Law_law_1188 : decode code 1188 = .ok (.iconst 1, 1) := by decide +kernel
theorem d_Law_law_1189 : decode code 1189 = .ok (.ireturn, 1) := by decide +kernel
