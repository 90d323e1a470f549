theorem dL_step_950 : decode cL_step 950 = .ok (.iload 21, 2) := by decide +kernel
theorem dL_step_952 : decode cL_step 952 = .ok (.sipush (-200), 3) := by decide +kernel
theorem dL_step_955 : decode cL_step 955 = .ok (.if_icmp .ne 23, 3) := by decide +kernel
theorem dL_step_958 : decode cL_step 958 = .ok (.aload_n 0, 1) := by decide +kernel
theorem dL_step_959 : decode cL_step 959 = .ok (.iload 7, 2) := by decide +kernel
theorem dL_step_961 : decode cL_step 961 = .ok (.iconst 1, 1) := by decide +kernel
theorem dL_step_962 : decode cL_step 962 = .ok (.invokevirtual 84, 3) := by decide +kernel
theorem dL_step_965 : decode cL_step 965 = .ok (.bipush 24, 2) := by decide +kernel
theorem dL_step_967 : decode cL_step 967 = .ok (.if_icmp .ne 7, 3) := by decide +kernel
theorem dL_step_970 : decode cL_step 970 = .ok (.iconst 1, 1) := by decide +kernel
theorem dL_step_971 : decode cL_step 971 = .ok (.goto 38, 3) := by decide +kernel
theorem dL_step_974 : decode cL_step 974 = .ok (.iconst 0, 1) := by decide +kernel
theorem dL_step_975 : decode cL_step 975 = .ok (.goto 34, 3) := by decide +kernel
theorem dL_step_978 : decode cL_step 978 = .ok (.iload 21, 2) := by decide +kernel
theorem dL_step_980 : decode cL_step 980 = .ok (.aload_n 0, 1) := by decide +kernel
theorem dL_step_981 : decode cL_step 981 = .ok (.iload 7, 2) := by decide +kernel
theorem dL_step_983 : decode cL_step 983 = .ok (.iconst 1, 1) := by decide +kernel
theorem dL_step_984 : decode cL_step 984 = .ok (.invokevirtual 84, 3) := by decide +kernel
theorem dL_step_987 : decode cL_step 987 = .ok (.if_icmp .ne 21, 3) := by decide +kernel
theorem dL_step_990 : decode cL_step 990 = .ok (.aload_n 0, 1) := by decide +kernel
theorem dL_step_991 : decode cL_step 991 = .ok (.iload 7, 2) := by decide +kernel
theorem dL_step_993 : decode cL_step 993 = .ok (.iconst 2, 1) := by decide +kernel
theorem dL_step_994 : decode cL_step 994 = .ok (.invokevirtual 84, 3) := by decide +kernel
theorem dL_step_997 : decode cL_step 997 = .ok (.iload 21, 2) := by decide +kernel
theorem dL_step_999 : decode cL_step 999 = .ok (.iconst 4, 1) := by decide +kernel
theorem dL_step_1000 : decode cL_step 1000 = .ok (.idiv, 1) := by decide +kernel
theorem dL_step_1001 : decode cL_step 1001 = .ok (.if_icmp .ne 7, 3) := by decide +kernel
theorem dL_step_1004 : decode cL_step 1004 = .ok (.iconst 1, 1) := by decide +kernel
theorem dL_step_1005 : decode cL_step 1005 = .ok (.goto 4, 3) := by decide +kernel
theorem dL_step_1008 : decode cL_step 1008 = .ok (.iconst 0, 1) := by decide +kernel
theorem dL_step_1009 : decode cL_step 1009 = .ok (.ireturn, 1) := by decide +kernel
theorem dL_step_1010 : decode cL_step 1010 = .ok (.aload_n 0, 1) := by decide +kernel
theorem dL_step_1011 : decode cL_step 1011 = .ok (.iload 7, 2) := by decide +kernel
theorem dL_step_1013 : decode cL_step 1013 = .ok (.iconst 1, 1) := by decide +kernel
theorem dL_step_1014 : decode cL_step 1014 = .ok (.invokevirtual 84, 3) := by decide +kernel
theorem dL_step_1017 : decode cL_step 1017 = .ok (.ifCond .eq 30, 3) := by decide +kernel
theorem dL_step_1020 : decode cL_step 1020 = .ok (.aload_n 0, 1) := by decide +kernel
theorem dL_step_1021 : decode cL_step 1021 = .ok (.iload 7, 2) := by decide +kernel
theorem dL_step_1023 : decode cL_step 1023 = .ok (.iload 4, 2) := by decide +kernel
theorem dL_step_1025 : decode cL_step 1025 = .ok (.aload_n 0, 1) := by decide +kernel
theorem dL_step_1026 : decode cL_step 1026 = .ok (.iload 7, 2) := by decide +kernel
theorem dL_step_1028 : decode cL_step 1028 = .ok (.iconst 1, 1) := by decide +kernel
theorem dL_step_1029 : decode cL_step 1029 = .ok (.invokevirtual 84, 3) := by decide +kernel
theorem dL_step_1032 : decode cL_step 1032 = .ok (.irem, 1) := by decide +kernel
theorem dL_step_1033 : decode cL_step 1033 = .ok (.iload 4, 2) := by decide +kernel
theorem dL_step_1035 : decode cL_step 1035 = .ok (.bipush 24, 2) := by decide +kernel
theorem dL_step_1037 : decode cL_step 1037 = .ok (.idiv, 1) := by decide +kernel
theorem dL_step_1038 : decode cL_step 1038 = .ok (.bipush 12, 2) := by decide +kernel
theorem dL_step_1040 : decode cL_step 1040 = .ok (.irem, 1) := by decide +kernel
theorem dL_step_1041 : decode cL_step 1041 = .ok (.invokestatic 94, 3) := by decide +kernel
theorem dL_step_1044 : decode cL_step 1044 = .ok (.ifCond .eq 7, 3) := by decide +kernel
theorem dL_step_1047 : decode cL_step 1047 = .ok (.iconst 1, 1) := by decide +kernel
theorem dL_step_1048 : decode cL_step 1048 = .ok (.goto 4, 3) := by decide +kernel
theorem dL_step_1051 : decode cL_step 1051 = .ok (.iconst 0, 1) := by decide +kernel
theorem dL_step_1052 : decode cL_step 1052 = .ok (.ireturn, 1) := by decide +kernel
theorem dL_step_1053 : decode cL_step 1053 = .ok (.aload_n 0, 1) := by decide +kernel
theorem dL_step_1054 : decode cL_step 1054 = .ok (.iload 7, 2) := by decide +kernel
theorem dL_step_1056 : decode cL_step 1056 = .ok (.iconst 2, 1) := by decide +kernel
theorem dL_step_1057 : decode cL_step 1057 = .ok (.invokevirtual 84, 3) := by decide +kernel
theorem dL_step_1060 : decode cL_step 1060 = .ok (.istore 22, 2) := by decide +kernel
theorem dL_step_1062 : decode cL_step 1062 = .ok (.aload_n 0, 1) := by decide +kernel
theorem dL_step_1063 : decode cL_step 1063 = .ok (.iload 7, 2) := by decide +kernel
theorem dL_step_1065 : decode cL_step 1065 = .ok (.iconst 0, 1) := by decide +kernel
theorem dL_step_1066 : decode cL_step 1066 = .ok (.invokevirtual 84, 3) := by decide +kernel
theorem dL_step_1069 : decode cL_step 1069 = .ok (.istore 23, 2) := by decide +kernel
theorem dL_step_1071 : decode cL_step 1071 = .ok (.iload 22, 2) := by decide +kernel
theorem dL_step_1073 : decode cL_step 1073 = .ok (.ifCond .eq 8, 3) := by decide +kernel
theorem dL_step_1076 : decode cL_step 1076 = .ok (.iload 23, 2) := by decide +kernel
theorem dL_step_1078 : decode cL_step 1078 = .ok (.ifCond .ne 19, 3) := by decide +kernel
theorem dL_step_1081 : decode cL_step 1081 = .ok (.aload_n 0, 1) := by decide +kernel
theorem dL_step_1082 : decode cL_step 1082 = .ok (.iload 7, 2) := by decide +kernel
theorem dL_step_1084 : decode cL_step 1084 = .ok (.invokevirtual 98, 3) := by decide +kernel
theorem dL_step_1087 : decode cL_step 1087 = .ok (.iconst (-1), 1) := by decide +kernel
theorem dL_step_1088 : decode cL_step 1088 = .ok (.if_icmp .ne 7, 3) := by decide +kernel
theorem dL_step_1091 : decode cL_step 1091 = .ok (.iconst 1, 1) := by decide +kernel
theorem dL_step_1092 : decode cL_step 1092 = .ok (.goto 4, 3) := by decide +kernel
theorem dL_step_1095 : decode cL_step 1095 = .ok (.iconst 0, 1) := by decide +kernel
theorem dL_step_1096 : decode cL_step 1096 = .ok (.ireturn, 1) := by decide +kernel
theorem dL_step_1097 : decode cL_step 1097 = .ok (.aload_n 0, 1) := by decide +kernel
theorem dL_step_1098 : decode cL_step 1098 = .ok (.iload 7, 2) := by decide +kernel
theorem dL_step_1100 : decode cL_step 1100 = .ok (.iload 4, 2) := by decide +kernel
theorem dL_step_1102 : decode cL_step 1102 = .ok (.iload 23, 2) := by decide +kernel
theorem dL_step_1104 : decode cL_step 1104 = .ok (.irem, 1) := by decide +kernel
theorem dL_step_1105 : decode cL_step 1105 = .ok (.iload 4, 2) := by decide +kernel
theorem dL_step_1107 : decode cL_step 1107 = .ok (.bipush 8, 2) := by decide +kernel
theorem dL_step_1109 : decode cL_step 1109 = .ok (.idiv, 1) := by decide +kernel
theorem dL_step_1110 : decode cL_step 1110 = .ok (.iload 22, 2) := by decide +kernel
theorem dL_step_1112 : decode cL_step 1112 = .ok (.irem, 1) := by decide +kernel
theorem dL_step_1113 : decode cL_step 1113 = .ok (.invokevirtual 101, 3) := by decide +kernel
theorem dL_step_1116 : decode cL_step 1116 = .ok (.istore 24, 2) := by decide +kernel
theorem dL_step_1118 : decode cL_step 1118 = .ok (.iload 24, 2) := by decide +kernel
theorem dL_step_1120 : decode cL_step 1120 = .ok (.ifCond .lt 36, 3) := by decide +kernel
theorem dL_step_1123 : decode cL_step 1123 = .ok (.iload 24, 2) := by decide +kernel
theorem dL_step_1125 : decode cL_step 1125 = .ok (.iconst 3, 1) := by decide +kernel
theorem dL_step_1126 : decode cL_step 1126 = .ok (.if_icmp .ge 30, 3) := by decide +kernel
theorem dL_step_1129 : decode cL_step 1129 = .ok (.aload_n 0, 1) := by decide +kernel
theorem dL_step_1130 : decode cL_step 1130 = .ok (.iload 7, 2) := by decide +kernel
theorem dL_step_1132 : decode cL_step 1132 = .ok (.iload 4, 2) := by decide +kernel
theorem dL_step_1134 : decode cL_step 1134 = .ok (.iload 23, 2) := by decide +kernel
theorem dL_step_1136 : decode cL_step 1136 = .ok (.irem, 1) := by decide +kernel
theorem dL_step_1137 : decode cL_step 1137 = .ok (.iload 4, 2) := by decide +kernel
theorem dL_step_1139 : decode cL_step 1139 = .ok (.bipush 8, 2) := by decide +kernel
theorem dL_step_1141 : decode cL_step 1141 = .ok (.idiv, 1) := by decide +kernel
theorem dL_step_1142 : decode cL_step 1142 = .ok (.iload 22, 2) := by decide +kernel
theorem dL_step_1144 : decode cL_step 1144 = .ok (.irem, 1) := by decide +kernel
theorem dL_step_1145 : decode cL_step 1145 = .ok (.invokevirtual 104, 3) := by decide +kernel
theorem dL_step_1148 : decode cL_step 1148 = .ok (.iconst 1, 1) := by decide +kernel
theorem dL_step_1149 : decode cL_step 1149 = .ok (.if_icmp .ne 7, 3) := by decide +kernel
theorem dL_step_1152 : decode cL_step 1152 = .ok (.iconst 1, 1) := by decide +kernel
theorem dL_step_1153 : decode cL_step 1153 = .ok (.goto 4, 3) := by decide +kernel
theorem dL_step_1156 : decode cL_step 1156 = .ok (.iconst 0, 1) := by decide +kernel
theorem dL_step_1157 : decode cL_step 1157 = .ok (.ireturn, 1) := by decide +kernel
theorem dL_step_1158 : decode cL_step 1158 = .ok (.aload_n 0, 1) := by decide +kernel
theorem dL_step_1159 : decode cL_step 1159 = .ok (.iload 7, 2) := by decide +kernel
theorem dL_step_1161 : decode cL_step 1161 = .ok (.iconst 2, 1) := by decide +kernel
theorem dL_step_1162 : decode cL_step 1162 = .ok (.invokevirtual 84, 3) := by decide +kernel
theorem dL_step_1165 : decode cL_step 1165 = .ok (.ifCond .eq 22, 3) := by decide +kernel
theorem dL_step_1168 : decode cL_step 1168 = .ok (.aload_n 0, 1) := by decide +kernel
theorem dL_step_1169 : decode cL_step 1169 = .ok (.iload 7, 2) := by decide +kernel
theorem dL_step_1171 : decode cL_step 1171 = .ok (.iload 4, 2) := by decide +kernel
theorem dL_step_1173 : decode cL_step 1173 = .ok (.aload_n 0, 1) := by decide +kernel
theorem dL_step_1174 : decode cL_step 1174 = .ok (.iload 7, 2) := by decide +kernel
theorem dL_step_1176 : decode cL_step 1176 = .ok (.iconst 2, 1) := by decide +kernel
theorem dL_step_1177 : decode cL_step 1177 = .ok (.invokevirtual 84, 3) := by decide +kernel
theorem dL_step_1180 : decode cL_step 1180 = .ok (.irem, 1) := by decide +kernel
theorem dL_step_1181 : decode cL_step 1181 = .ok (.invokestatic 107, 3) := by decide +kernel
theorem dL_step_1184 : decode cL_step 1184 = .ok (.ifCond .eq 7, 3) := by decide +kernel
theorem dL_step_1187 : decode cL_step 1187 = .ok (.iconst 1, 1) := by decide +kernel
theorem dL_step_1188 : decode cL_step 1188 = .ok (.goto 4, 3) := by decide +kernel
theorem dL_step_1191 : decode cL_step 1191 = .ok (.iconst 0, 1) := by decide +kernel
theorem dL_step_1192 : decode cL_step 1192 = .ok (.ireturn, 1) := by decide +kernel
theorem dL_step_1193 : decode cL_step 1193 = .ok (.aload_n 1, 1) := by decide +kernel
theorem dL_step_1194 : decode cL_step 1194 = .ok (.iconst 2, 1) := by decide +kernel
theorem dL_step_1195 : decode cL_step 1195 = .ok (.iaload, 1) := by decide +kernel
theorem dL_step_1196 : decode cL_step 1196 = .ok (.sipush 900, 3) := by decide +kernel
theorem dL_step_1199 : decode cL_step 1199 = .ok (.if_icmp .le 7, 3) := by decide +kernel
theorem dL_step_1202 : decode cL_step 1202 = .ok (.iconst 0, 1) := by decide +kernel
theorem dL_step_1203 : decode cL_step 1203 = .ok (.goto 20, 3) := by decide +kernel
theorem dL_step_1206 : decode cL_step 1206 = .ok (.iconst 1, 1) := by decide +kernel
theorem dL_step_1207 : decode cL_step 1207 = .ok (.iload 4, 2) := by decide +kernel
theorem dL_step_1209 : decode cL_step 1209 = .ok (.iload_n 3, 1) := by decide +kernel
theorem dL_step_1210 : decode cL_step 1210 = .ok (.iconst 5, 1) := by decide +kernel
theorem dL_step_1211 : decode cL_step 1211 = .ok (.irem, 1) := by decide +kernel
theorem dL_step_1212 : decode cL_step 1212 = .ok (.ifCond .ne 8, 3) := by decide +kernel
theorem dL_step_1215 : decode cL_step 1215 = .ok (.bipush 30, 2) := by decide +kernel
theorem dL_step_1217 : decode cL_step 1217 = .ok (.goto 4, 3) := by decide +kernel
theorem dL_step_1220 : decode cL_step 1220 = .ok (.iconst 2, 1) := by decide +kernel
theorem dL_step_1221 : decode cL_step 1221 = .ok (.irem, 1) := by decide +kernel
theorem dL_step_1222 : decode cL_step 1222 = .ok (.iadd, 1) := by decide +kernel
theorem dL_step_1223 : decode cL_step 1223 = .ok (.istore 25, 2) := by decide +kernel
theorem dL_step_1225 : decode cL_step 1225 = .ok (.aload_n 1, 1) := by decide +kernel
theorem dL_step_1226 : decode cL_step 1226 = .ok (.iconst 2, 1) := by decide +kernel
theorem dL_step_1227 : decode cL_step 1227 = .ok (.dup2, 1) := by decide +kernel
theorem dL_step_1228 : decode cL_step 1228 = .ok (.iaload, 1) := by decide +kernel
theorem dL_step_1229 : decode cL_step 1229 = .ok (.iload 25, 2) := by decide +kernel
theorem dL_step_1231 : decode cL_step 1231 = .ok (.iadd, 1) := by decide +kernel
theorem dL_step_1232 : decode cL_step 1232 = .ok (.iastore, 1) := by decide +kernel
theorem dL_step_1233 : decode cL_step 1233 = .ok (.iload 25, 2) := by decide +kernel
theorem dL_step_1235 : decode cL_step 1235 = .ok (.ifCond .eq 25, 3) := by decide +kernel
theorem dL_step_1238 : decode cL_step 1238 = .ok (.aload_n 0, 1) := by decide +kernel
theorem dL_step_1239 : decode cL_step 1239 = .ok (.iload 25, 2) := by decide +kernel
