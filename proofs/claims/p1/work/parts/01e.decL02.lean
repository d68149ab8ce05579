theorem ni_dL_law_941 : decode cL_law 941 = .ok (.iadd, 1) := by decide +kernel
theorem ni_dL_law_942 : decode cL_law 942 = .ok (.iaload, 1) := by decide +kernel
theorem ni_dL_law_943 : decode cL_law 943 = .ok (.ifCond .eq 7, 3) := by decide +kernel
theorem ni_dL_law_946 : decode cL_law 946 = .ok (.iconst 1, 1) := by decide +kernel
theorem ni_dL_law_947 : decode cL_law 947 = .ok (.goto 4, 3) := by decide +kernel
theorem ni_dL_law_950 : decode cL_law 950 = .ok (.iconst 0, 1) := by decide +kernel
theorem ni_dL_law_951 : decode cL_law 951 = .ok (.invokevirtual 194, 3) := by decide +kernel
theorem ni_dL_law_954 : decode cL_law 954 = .ok (.istore 7, 2) := by decide +kernel
theorem ni_dL_law_956 : decode cL_law 956 = .ok (.aload_n 2, 1) := by decide +kernel
theorem ni_dL_law_957 : decode cL_law 957 = .ok (.invokevirtual 161, 3) := by decide +kernel
theorem ni_dL_law_960 : decode cL_law 960 = .ok (.iload 6, 2) := by decide +kernel
theorem ni_dL_law_962 : decode cL_law 962 = .ok (.if_icmp .eq 5, 3) := by decide +kernel
theorem ni_dL_law_967 : decode cL_law 967 = .ok (.iload 6, 2) := by decide +kernel
theorem ni_dL_law_969 : decode cL_law 969 = .ok (.ifCond .ne 15, 3) := by decide +kernel
theorem ni_dL_law_984 : decode cL_law 984 = .ok (.goto 2333, 3) := by decide +kernel
theorem ni_dL_law_987 : decode cL_law 987 = .ok (.aload_n 1, 1) := by decide +kernel
theorem ni_dL_law_988 : decode cL_law 988 = .ok (.aload_n 0, 1) := by decide +kernel
theorem ni_dL_law_989 : decode cL_law 989 = .ok (.iload 5, 2) := by decide +kernel
theorem ni_dL_law_991 : decode cL_law 991 = .ok (.iconst 1, 1) := by decide +kernel
theorem ni_dL_law_992 : decode cL_law 992 = .ok (.iadd, 1) := by decide +kernel
theorem ni_dL_law_993 : decode cL_law 993 = .ok (.iaload, 1) := by decide +kernel
theorem ni_dL_law_994 : decode cL_law 994 = .ok (.aload_n 0, 1) := by decide +kernel
theorem ni_dL_law_995 : decode cL_law 995 = .ok (.iload 5, 2) := by decide +kernel
theorem ni_dL_law_997 : decode cL_law 997 = .ok (.iconst 2, 1) := by decide +kernel
theorem ni_dL_law_998 : decode cL_law 998 = .ok (.iadd, 1) := by decide +kernel
theorem ni_dL_law_999 : decode cL_law 999 = .ok (.iaload, 1) := by decide +kernel
theorem ni_dL_law_1000 : decode cL_law 1000 = .ok (.ifCond .eq 7, 3) := by decide +kernel
theorem ni_dL_law_1003 : decode cL_law 1003 = .ok (.iconst 1, 1) := by decide +kernel
theorem ni_dL_law_1004 : decode cL_law 1004 = .ok (.goto 4, 3) := by decide +kernel
theorem ni_dL_law_1007 : decode cL_law 1007 = .ok (.iconst 0, 1) := by decide +kernel
theorem ni_dL_law_1008 : decode cL_law 1008 = .ok (.aload_n 0, 1) := by decide +kernel
theorem ni_dL_law_1009 : decode cL_law 1009 = .ok (.iload 5, 2) := by decide +kernel
theorem ni_dL_law_1011 : decode cL_law 1011 = .ok (.iconst 3, 1) := by decide +kernel
theorem ni_dL_law_1012 : decode cL_law 1012 = .ok (.iadd, 1) := by decide +kernel
theorem ni_dL_law_1013 : decode cL_law 1013 = .ok (.iaload, 1) := by decide +kernel
theorem ni_dL_law_1014 : decode cL_law 1014 = .ok (.aload_n 0, 1) := by decide +kernel
theorem ni_dL_law_1015 : decode cL_law 1015 = .ok (.iload 5, 2) := by decide +kernel
theorem ni_dL_law_1017 : decode cL_law 1017 = .ok (.iconst 4, 1) := by decide +kernel
theorem ni_dL_law_1018 : decode cL_law 1018 = .ok (.iadd, 1) := by decide +kernel
theorem ni_dL_law_1019 : decode cL_law 1019 = .ok (.iaload, 1) := by decide +kernel
theorem ni_dL_law_1020 : decode cL_law 1020 = .ok (.aload_n 3, 1) := by decide +kernel
theorem ni_dL_law_1021 : decode cL_law 1021 = .ok (.invokestatic 195, 3) := by decide +kernel
theorem ni_dL_law_1024 : decode cL_law 1024 = .ok (.istore 6, 2) := by decide +kernel
theorem ni_dL_law_1026 : decode cL_law 1026 = .ok (.aload_n 2, 1) := by decide +kernel
theorem ni_dL_law_1027 : decode cL_law 1027 = .ok (.aload_n 0, 1) := by decide +kernel
theorem ni_dL_law_1028 : decode cL_law 1028 = .ok (.iload 5, 2) := by decide +kernel
theorem ni_dL_law_1030 : decode cL_law 1030 = .ok (.iconst 1, 1) := by decide +kernel
theorem ni_dL_law_1031 : decode cL_law 1031 = .ok (.iadd, 1) := by decide +kernel
theorem ni_dL_law_1032 : decode cL_law 1032 = .ok (.iaload, 1) := by decide +kernel
theorem ni_dL_law_1033 : decode cL_law 1033 = .ok (.aload_n 0, 1) := by decide +kernel
theorem ni_dL_law_1034 : decode cL_law 1034 = .ok (.iload 5, 2) := by decide +kernel
theorem ni_dL_law_1036 : decode cL_law 1036 = .ok (.iconst 2, 1) := by decide +kernel
theorem ni_dL_law_1037 : decode cL_law 1037 = .ok (.iadd, 1) := by decide +kernel
theorem ni_dL_law_1038 : decode cL_law 1038 = .ok (.iaload, 1) := by decide +kernel
theorem ni_dL_law_1039 : decode cL_law 1039 = .ok (.ifCond .eq 7, 3) := by decide +kernel
theorem ni_dL_law_1042 : decode cL_law 1042 = .ok (.iconst 1, 1) := by decide +kernel
theorem ni_dL_law_1043 : decode cL_law 1043 = .ok (.goto 4, 3) := by decide +kernel
theorem ni_dL_law_1046 : decode cL_law 1046 = .ok (.iconst 0, 1) := by decide +kernel
theorem ni_dL_law_1047 : decode cL_law 1047 = .ok (.aload_n 0, 1) := by decide +kernel
theorem ni_dL_law_1048 : decode cL_law 1048 = .ok (.iload 5, 2) := by decide +kernel
theorem ni_dL_law_1050 : decode cL_law 1050 = .ok (.iconst 3, 1) := by decide +kernel
theorem ni_dL_law_1051 : decode cL_law 1051 = .ok (.iadd, 1) := by decide +kernel
theorem ni_dL_law_1052 : decode cL_law 1052 = .ok (.iaload, 1) := by decide +kernel
theorem ni_dL_law_1053 : decode cL_law 1053 = .ok (.aload_n 0, 1) := by decide +kernel
theorem ni_dL_law_1054 : decode cL_law 1054 = .ok (.iload 5, 2) := by decide +kernel
theorem ni_dL_law_1056 : decode cL_law 1056 = .ok (.iconst 4, 1) := by decide +kernel
theorem ni_dL_law_1057 : decode cL_law 1057 = .ok (.iadd, 1) := by decide +kernel
theorem ni_dL_law_1058 : decode cL_law 1058 = .ok (.iaload, 1) := by decide +kernel
theorem ni_dL_law_1059 : decode cL_law 1059 = .ok (.invokevirtual 198, 3) := by decide +kernel
theorem ni_dL_law_1062 : decode cL_law 1062 = .ok (.istore 7, 2) := by decide +kernel
theorem ni_dL_law_1064 : decode cL_law 1064 = .ok (.aload_n 2, 1) := by decide +kernel
theorem ni_dL_law_1065 : decode cL_law 1065 = .ok (.invokevirtual 161, 3) := by decide +kernel
theorem ni_dL_law_1068 : decode cL_law 1068 = .ok (.iload 6, 2) := by decide +kernel
theorem ni_dL_law_1070 : decode cL_law 1070 = .ok (.if_icmp .eq 5, 3) := by decide +kernel
theorem ni_dL_law_1075 : decode cL_law 1075 = .ok (.iload 6, 2) := by decide +kernel
theorem ni_dL_law_1077 : decode cL_law 1077 = .ok (.ifCond .ne 15, 3) := by decide +kernel
theorem ni_dL_law_1092 : decode cL_law 1092 = .ok (.goto 2225, 3) := by decide +kernel
theorem ni_dL_law_1095 : decode cL_law 1095 = .ok (.aload_n 1, 1) := by decide +kernel
theorem ni_dL_law_1096 : decode cL_law 1096 = .ok (.aload_n 0, 1) := by decide +kernel
theorem ni_dL_law_1097 : decode cL_law 1097 = .ok (.iload 5, 2) := by decide +kernel
theorem ni_dL_law_1099 : decode cL_law 1099 = .ok (.iconst 1, 1) := by decide +kernel
theorem ni_dL_law_1100 : decode cL_law 1100 = .ok (.iadd, 1) := by decide +kernel
theorem ni_dL_law_1101 : decode cL_law 1101 = .ok (.iaload, 1) := by decide +kernel
theorem ni_dL_law_1102 : decode cL_law 1102 = .ok (.aload_n 0, 1) := by decide +kernel
theorem ni_dL_law_1103 : decode cL_law 1103 = .ok (.iload 5, 2) := by decide +kernel
theorem ni_dL_law_1105 : decode cL_law 1105 = .ok (.iconst 2, 1) := by decide +kernel
theorem ni_dL_law_1106 : decode cL_law 1106 = .ok (.iadd, 1) := by decide +kernel
theorem ni_dL_law_1107 : decode cL_law 1107 = .ok (.iaload, 1) := by decide +kernel
theorem ni_dL_law_1108 : decode cL_law 1108 = .ok (.aload_n 0, 1) := by decide +kernel
theorem ni_dL_law_1109 : decode cL_law 1109 = .ok (.iload 5, 2) := by decide +kernel
theorem ni_dL_law_1111 : decode cL_law 1111 = .ok (.iconst 3, 1) := by decide +kernel
theorem ni_dL_law_1112 : decode cL_law 1112 = .ok (.iadd, 1) := by decide +kernel
theorem ni_dL_law_1113 : decode cL_law 1113 = .ok (.iaload, 1) := by decide +kernel
theorem ni_dL_law_1114 : decode cL_law 1114 = .ok (.aload_n 0, 1) := by decide +kernel
theorem ni_dL_law_1115 : decode cL_law 1115 = .ok (.iload 5, 2) := by decide +kernel
theorem ni_dL_law_1117 : decode cL_law 1117 = .ok (.iconst 4, 1) := by decide +kernel
theorem ni_dL_law_1118 : decode cL_law 1118 = .ok (.iadd, 1) := by decide +kernel
theorem ni_dL_law_1119 : decode cL_law 1119 = .ok (.iaload, 1) := by decide +kernel
theorem ni_dL_law_1120 : decode cL_law 1120 = .ok (.aload_n 3, 1) := by decide +kernel
theorem ni_dL_law_1121 : decode cL_law 1121 = .ok (.invokestatic 199, 3) := by decide +kernel
theorem ni_dL_law_1124 : decode cL_law 1124 = .ok (.istore 6, 2) := by decide +kernel
theorem ni_dL_law_1126 : decode cL_law 1126 = .ok (.aload_n 2, 1) := by decide +kernel
theorem ni_dL_law_1127 : decode cL_law 1127 = .ok (.aload_n 0, 1) := by decide +kernel
theorem ni_dL_law_1128 : decode cL_law 1128 = .ok (.iload 5, 2) := by decide +kernel
theorem ni_dL_law_1130 : decode cL_law 1130 = .ok (.iconst 1, 1) := by decide +kernel
theorem ni_dL_law_1131 : decode cL_law 1131 = .ok (.iadd, 1) := by decide +kernel
theorem ni_dL_law_1132 : decode cL_law 1132 = .ok (.iaload, 1) := by decide +kernel
theorem ni_dL_law_1133 : decode cL_law 1133 = .ok (.aload_n 0, 1) := by decide +kernel
theorem ni_dL_law_1134 : decode cL_law 1134 = .ok (.iload 5, 2) := by decide +kernel
theorem ni_dL_law_1136 : decode cL_law 1136 = .ok (.iconst 2, 1) := by decide +kernel
theorem ni_dL_law_1137 : decode cL_law 1137 = .ok (.iadd, 1) := by decide +kernel
theorem ni_dL_law_1138 : decode cL_law 1138 = .ok (.iaload, 1) := by decide +kernel
theorem ni_dL_law_1139 : decode cL_law 1139 = .ok (.aload_n 0, 1) := by decide +kernel
theorem ni_dL_law_1140 : decode cL_law 1140 = .ok (.iload 5, 2) := by decide +kernel
theorem ni_dL_law_1142 : decode cL_law 1142 = .ok (.iconst 3, 1) := by decide +kernel
theorem ni_dL_law_1143 : decode cL_law 1143 = .ok (.iadd, 1) := by decide +kernel
theorem ni_dL_law_1144 : decode cL_law 1144 = .ok (.iaload, 1) := by decide +kernel
theorem ni_dL_law_1145 : decode cL_law 1145 = .ok (.aload_n 0, 1) := by decide +kernel
theorem ni_dL_law_1146 : decode cL_law 1146 = .ok (.iload 5, 2) := by decide +kernel
theorem ni_dL_law_1148 : decode cL_law 1148 = .ok (.iconst 4, 1) := by decide +kernel
theorem ni_dL_law_1149 : decode cL_law 1149 = .ok (.iadd, 1) := by decide +kernel
theorem ni_dL_law_1150 : decode cL_law 1150 = .ok (.iaload, 1) := by decide +kernel
theorem ni_dL_law_1151 : decode cL_law 1151 = .ok (.invokevirtual 201, 3) := by decide +kernel
theorem ni_dL_law_1154 : decode cL_law 1154 = .ok (.istore 7, 2) := by decide +kernel
theorem ni_dL_law_1156 : decode cL_law 1156 = .ok (.aload_n 2, 1) := by decide +kernel
theorem ni_dL_law_1157 : decode cL_law 1157 = .ok (.invokevirtual 161, 3) := by decide +kernel
theorem ni_dL_law_1160 : decode cL_law 1160 = .ok (.iload 6, 2) := by decide +kernel
theorem ni_dL_law_1162 : decode cL_law 1162 = .ok (.if_icmp .eq 5, 3) := by decide +kernel
theorem ni_dL_law_1167 : decode cL_law 1167 = .ok (.iload 6, 2) := by decide +kernel
theorem ni_dL_law_1169 : decode cL_law 1169 = .ok (.ifCond .ne 15, 3) := by decide +kernel
theorem ni_dL_law_1184 : decode cL_law 1184 = .ok (.goto 2133, 3) := by decide +kernel
theorem ni_dL_law_1187 : decode cL_law 1187 = .ok (.aload_n 1, 1) := by decide +kernel
theorem ni_dL_law_1188 : decode cL_law 1188 = .ok (.aload_n 0, 1) := by decide +kernel
theorem ni_dL_law_1189 : decode cL_law 1189 = .ok (.iload 5, 2) := by decide +kernel
theorem ni_dL_law_1191 : decode cL_law 1191 = .ok (.iconst 1, 1) := by decide +kernel
theorem ni_dL_law_1192 : decode cL_law 1192 = .ok (.iadd, 1) := by decide +kernel
theorem ni_dL_law_1193 : decode cL_law 1193 = .ok (.iaload, 1) := by decide +kernel
theorem ni_dL_law_1194 : decode cL_law 1194 = .ok (.aload_n 0, 1) := by decide +kernel
theorem ni_dL_law_1195 : decode cL_law 1195 = .ok (.iload 5, 2) := by decide +kernel
theorem ni_dL_law_1197 : decode cL_law 1197 = .ok (.iconst 2, 1) := by decide +kernel
theorem ni_dL_law_1198 : decode cL_law 1198 = .ok (.iadd, 1) := by decide +kernel
theorem ni_dL_law_1199 : decode cL_law 1199 = .ok (.iaload, 1) := by decide +kernel
theorem ni_dL_law_1200 : decode cL_law 1200 = .ok (.aload_n 0, 1) := by decide +kernel
theorem ni_dL_law_1201 : decode cL_law 1201 = .ok (.iload 5, 2) := by decide +kernel
theorem ni_dL_law_1203 : decode cL_law 1203 = .ok (.iconst 3, 1) := by decide +kernel
theorem ni_dL_law_1204 : decode cL_law 1204 = .ok (.iadd, 1) := by decide +kernel
theorem ni_dL_law_1205 : decode cL_law 1205 = .ok (.iaload, 1) := by decide +kernel
theorem ni_dL_law_1206 : decode cL_law 1206 = .ok (.aload_n 0, 1) := by decide +kernel
theorem ni_dL_law_1207 : decode cL_law 1207 = .ok (.iload 5, 2) := by decide +kernel
theorem ni_dL_law_1209 : decode cL_law 1209 = .ok (.iconst 4, 1) := by decide +kernel
theorem ni_dL_law_1210 : decode cL_law 1210 = .ok (.iadd, 1) := by decide +kernel
theorem ni_dL_law_1211 : decode cL_law 1211 = .ok (.iaload, 1) := by decide +kernel
theorem ni_dL_law_1212 : decode cL_law 1212 = .ok (.aload_n 3, 1) := by decide +kernel
theorem ni_dL_law_1213 : decode cL_law 1213 = .ok (.invokestatic 202, 3) := by decide +kernel
theorem ni_dL_law_1216 : decode cL_law 1216 = .ok (.istore 6, 2) := by decide +kernel
theorem ni_dL_law_1218 : decode cL_law 1218 = .ok (.aload_n 2, 1) := by decide +kernel
theorem ni_dL_law_1219 : decode cL_law 1219 = .ok (.aload_n 0, 1) := by decide +kernel
theorem ni_dL_law_1220 : decode cL_law 1220 = .ok (.iload 5, 2) := by decide +kernel
theorem ni_dL_law_1222 : decode cL_law 1222 = .ok (.iconst 1, 1) := by decide +kernel
theorem ni_dL_law_1223 : decode cL_law 1223 = .ok (.iadd, 1) := by decide +kernel
theorem ni_dL_law_1224 : decode cL_law 1224 = .ok (.iaload, 1) := by decide +kernel
theorem ni_dL_law_1225 : decode cL_law 1225 = .ok (.aload_n 0, 1) := by decide +kernel
theorem ni_dL_law_1226 : decode cL_law 1226 = .ok (.iload 5, 2) := by decide +kernel
theorem ni_dL_law_1228 : decode cL_law 1228 = .ok (.iconst 2, 1) := by decide +kernel
theorem ni_dL_law_1229 : decode cL_law 1229 = .ok (.iadd, 1) := by decide +kernel
theorem ni_dL_law_1230 : decode cL_law 1230 = .ok (.iaload, 1) := by decide +kernel
theorem ni_dL_law_1231 : decode cL_law 1231 = .ok (.aload_n 0, 1) := by decide +kernel
theorem ni_dL_law_1232 : decode cL_law 1232 = .ok (.iload 5, 2) := by decide +kernel
theorem ni_dL_law_1234 : decode cL_law 1234 = .ok (.iconst 3, 1) := by decide +kernel
theorem ni_dL_law_1235 : decode cL_law 1235 = .ok (.iadd, 1) := by decide +kernel
theorem ni_dL_law_1236 : decode cL_law 1236 = .ok (.iaload, 1) := by decide +kernel
theorem ni_dL_law_1237 : decode cL_law 1237 = .ok (.aload_n 0, 1) := by decide +kernel
theorem ni_dL_law_1238 : decode cL_law 1238 = .ok (.iload 5, 2) := by decide +kernel
theorem ni_dL_law_1240 : decode cL_law 1240 = .ok (.iconst 4, 1) := by decide +kernel
theorem ni_dL_law_1241 : decode cL_law 1241 = .ok (.iadd, 1) := by decide +kernel
theorem ni_dL_law_1242 : decode cL_law 1242 = .ok (.iaload, 1) := by decide +kernel
theorem ni_dL_law_1243 : decode cL_law 1243 = .ok (.invokevirtual 204, 3) := by decide +kernel
theorem ni_dL_law_1246 : decode cL_law 1246 = .ok (.istore 7, 2) := by decide +kernel
theorem ni_dL_law_1248 : decode cL_law 1248 = .ok (.aload_n 2, 1) := by decide +kernel
theorem ni_dL_law_1249 : decode cL_law 1249 = .ok (.invokevirtual 161, 3) := by decide +kernel
theorem ni_dL_law_1252 : decode cL_law 1252 = .ok (.iload 6, 2) := by decide +kernel
theorem ni_dL_law_1254 : decode cL_law 1254 = .ok (.if_icmp .eq 5, 3) := by decide +kernel
theorem ni_dL_law_1259 : decode cL_law 1259 = .ok (.iload 6, 2) := by decide +kernel
theorem ni_dL_law_1261 : decode cL_law 1261 = .ok (.ifCond .ne 15, 3) := by decide +kernel
theorem ni_dL_law_1276 : decode cL_law 1276 = .ok (.goto 2041, 3) := by decide +kernel
theorem ni_dL_law_1279 : decode cL_law 1279 = .ok (.aload_n 1, 1) := by decide +kernel
theorem ni_dL_law_1280 : decode cL_law 1280 = .ok (.aload_n 0, 1) := by decide +kernel
theorem ni_dL_law_1281 : decode cL_law 1281 = .ok (.iload 5, 2) := by decide +kernel
theorem ni_dL_law_1283 : decode cL_law 1283 = .ok (.iconst 1, 1) := by decide +kernel
theorem ni_dL_law_1284 : decode cL_law 1284 = .ok (.iadd, 1) := by decide +kernel
theorem ni_dL_law_1285 : decode cL_law 1285 = .ok (.iaload, 1) := by decide +kernel
theorem ni_dL_law_1286 : decode cL_law 1286 = .ok (.aload_n 0, 1) := by decide +kernel
theorem ni_dL_law_1287 : decode cL_law 1287 = .ok (.iload 5, 2) := by decide +kernel
theorem ni_dL_law_1289 : decode cL_law 1289 = .ok (.iconst 2, 1) := by decide +kernel
theorem ni_dL_law_1290 : decode cL_law 1290 = .ok (.iadd, 1) := by decide +kernel
theorem ni_dL_law_1291 : decode cL_law 1291 = .ok (.iaload, 1) := by decide +kernel
theorem ni_dL_law_1292 : decode cL_law 1292 = .ok (.aload_n 0, 1) := by decide +kernel
theorem ni_dL_law_1293 : decode cL_law 1293 = .ok (.iload 5, 2) := by decide +kernel
theorem ni_dL_law_1295 : decode cL_law 1295 = .ok (.iconst 3, 1) := by decide +kernel
theorem ni_dL_law_1296 : decode cL_law 1296 = .ok (.iadd, 1) := by decide +kernel
