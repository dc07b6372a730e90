theorem d_Lw_law_1065 : decode code 1065 = .ok (.iload 4, 2) := by decide +kernel
theorem d_Lw_law_1067 : decode code 1067 = .ok (.iconst 3, 1) := by decide +kernel
theorem d_Lw_law_1068 : decode code 1068 = .ok (.iadd, 1) := by decide +kernel
theorem d_Lw_law_1069 : decode code 1069 = .ok (.iaload, 1) := by decide +kernel
theorem d_Lw_law_1070 : decode code 1070 = .ok (.aload_n 3, 1) := by decide +kernel
theorem d_Lw_law_1071 : decode code 1071 = .ok (.invokestatic 135, 3) := by decide +kernel
theorem d_Lw_law_1074 : decode code 1074 = .ok (.istore 5, 2) := by decide +kernel
theorem d_Lw_law_1076 : decode code 1076 = .ok (.aload_n 2, 1) := by decide +kernel
theorem d_Lw_law_1077 : decode code 1077 = .ok (.aload_n 0, 1) := by decide +kernel
theorem d_Lw_law_1078 : decode code 1078 = .ok (.iload 4, 2) := by decide +kernel
theorem d_Lw_law_1080 : decode code 1080 = .ok (.iconst 1, 1) := by decide +kernel
theorem d_Lw_law_1081 : decode code 1081 = .ok (.iadd, 1) := by decide +kernel
theorem d_Lw_law_1082 : decode code 1082 = .ok (.iaload, 1) := by decide +kernel
theorem d_Lw_law_1083 : decode code 1083 = .ok (.aload_n 0, 1) := by decide +kernel
theorem d_Lw_law_1084 : decode code 1084 = .ok (.iload 4, 2) := by decide +kernel
theorem d_Lw_law_1086 : decode code 1086 = .ok (.iconst 2, 1) := by decide +kernel
theorem d_Lw_law_1087 : decode code 1087 = .ok (.iadd, 1) := by decide +kernel
theorem d_Lw_law_1088 : decode code 1088 = .ok (.iaload, 1) := by decide +kernel
theorem d_Lw_law_1089 : decode code 1089 = .ok (.aload_n 0, 1) := by decide +kernel
theorem d_Lw_law_1090 : decode code 1090 = .ok (.iload 4, 2) := by decide +kernel
theorem d_Lw_law_1092 : decode code 1092 = .ok (.iconst 3, 1) := by decide +kernel
theorem d_Lw_law_1093 : decode code 1093 = .ok (.iadd, 1) := by decide +kernel
theorem d_Lw_law_1094 : decode code 1094 = .ok (.iaload, 1) := by decide +kernel
theorem d_Lw_law_1095 : decode code 1095 = .ok (.invokevirtual 137, 3) := by decide +kernel
theorem d_Lw_law_1098 : decode code 1098 = .ok (.istore 6, 2) := by decide +kernel
theorem d_Lw_law_1100 : decode code 1100 = .ok (.aload_n 2, 1) := by decide +kernel
theorem d_Lw_law_1101 : decode code 1101 = .ok (.invokevirtual 89, 3) := by decide +kernel
theorem d_Lw_law_1104 : decode code 1104 = .ok (.iload 5, 2) := by decide +kernel
theorem d_Lw_law_1106 : decode code 1106 = .ok (.if_icmp .eq 5, 3) := by decide +kernel
theorem d_Lw_law_1109 : decode code 1109 = .ok (.iconst 0, 1) := by decide +kernel
theorem d_Lw_law_1110 : decode code 1110 = .ok (.ireturn, 1) := by decide +kernel
theorem d_Lw_law_1111 : decode code 1111 = .ok (.iload 5, 2) := by decide +kernel
theorem d_Lw_law_1113 : decode code 1113 = .ok (.ifCond .ne 15, 3) := by decide +kernel
theorem d_Lw_law_1116 : decode code 1116 = .ok (.aload_n 3, 1) := by decide +kernel
theorem d_Lw_law_1117 : decode code 1117 = .ok (.iconst 0, 1) := by decide +kernel
theorem d_Lw_law_1118 : decode code 1118 = .ok (.laload, 1) := by decide +kernel
theorem d_Lw_law_1119 : decode code 1119 = .ok (.iload 6, 2) := by decide +kernel
theorem d_Lw_law_1121 : decode code 1121 = .ok (.i2l, 1) := by decide +kernel
theorem d_Lw_law_1122 : decode code 1122 = .ok (.lcmp, 1) := by decide +kernel
theorem d_Lw_law_1123 : decode code 1123 = .ok (.ifCond .eq 5, 3) := by decide +kernel
theorem d_Lw_law_1126 : decode code 1126 = .ok (.iconst 0, 1) := by decide +kernel
theorem d_Lw_law_1127 : decode code 1127 = .ok (.ireturn, 1) := by decide +kernel
theorem d_Lw_law_1128 : decode code 1128 = .ok (.goto 219, 3) := by decide +kernel
theorem d_Lw_law_1131 : decode code 1131 = .ok (.aload_n 1, 1) := by decide +kernel
theorem d_Lw_law_1132 : decode code 1132 = .ok (.aload_n 0, 1) := by decide +kernel
theorem d_Lw_law_1133 : decode code 1133 = .ok (.iload 4, 2) := by decide +kernel
theorem d_Lw_law_1135 : decode code 1135 = .ok (.iconst 1, 1) := by decide +kernel
theorem d_Lw_law_1136 : decode code 1136 = .ok (.iadd, 1) := by decide +kernel
theorem d_Lw_law_1137 : decode code 1137 = .ok (.iaload, 1) := by decide +kernel
theorem d_Lw_law_1138 : decode code 1138 = .ok (.aload_n 0, 1) := by decide +kernel
theorem d_Lw_law_1139 : decode code 1139 = .ok (.iload 4, 2) := by decide +kernel
theorem d_Lw_law_1141 : decode code 1141 = .ok (.iconst 2, 1) := by decide +kernel
theorem d_Lw_law_1142 : decode code 1142 = .ok (.iadd, 1) := by decide +kernel
theorem d_Lw_law_1143 : decode code 1143 = .ok (.iaload, 1) := by decide +kernel
theorem d_Lw_law_1144 : decode code 1144 = .ok (.aload_n 0, 1) := by decide +kernel
theorem d_Lw_law_1145 : decode code 1145 = .ok (.iload 4, 2) := by decide +kernel
theorem d_Lw_law_1147 : decode code 1147 = .ok (.iconst 3, 1) := by decide +kernel
theorem d_Lw_law_1148 : decode code 1148 = .ok (.iadd, 1) := by decide +kernel
theorem d_Lw_law_1149 : decode code 1149 = .ok (.iaload, 1) := by decide +kernel
theorem d_Lw_law_1150 : decode code 1150 = .ok (.aload_n 3, 1) := by decide +kernel
theorem d_Lw_law_1151 : decode code 1151 = .ok (.invokestatic 138, 3) := by decide +kernel
theorem d_Lw_law_1154 : decode code 1154 = .ok (.istore 5, 2) := by decide +kernel
theorem d_Lw_law_1156 : decode code 1156 = .ok (.aload_n 2, 1) := by decide +kernel
theorem d_Lw_law_1157 : decode code 1157 = .ok (.aload_n 0, 1) := by decide +kernel
theorem d_Lw_law_1158 : decode code 1158 = .ok (.iload 4, 2) := by decide +kernel
theorem d_Lw_law_1160 : decode code 1160 = .ok (.iconst 1, 1) := by decide +kernel
theorem d_Lw_law_1161 : decode code 1161 = .ok (.iadd, 1) := by decide +kernel
theorem d_Lw_law_1162 : decode code 1162 = .ok (.iaload, 1) := by decide +kernel
theorem d_Lw_law_1163 : decode code 1163 = .ok (.aload_n 0, 1) := by decide +kernel
theorem d_Lw_law_1164 : decode code 1164 = .ok (.iload 4, 2) := by decide +kernel
theorem d_Lw_law_1166 : decode code 1166 = .ok (.iconst 2, 1) := by decide +kernel
theorem d_Lw_law_1167 : decode code 1167 = .ok (.iadd, 1) := by decide +kernel
theorem d_Lw_law_1168 : decode code 1168 = .ok (.iaload, 1) := by decide +kernel
theorem d_Lw_law_1169 : decode code 1169 = .ok (.aload_n 0, 1) := by decide +kernel
theorem d_Lw_law_1170 : decode code 1170 = .ok (.iload 4, 2) := by decide +kernel
theorem d_Lw_law_1172 : decode code 1172 = .ok (.iconst 3, 1) := by decide +kernel
theorem d_Lw_law_1173 : decode code 1173 = .ok (.iadd, 1) := by decide +kernel
theorem d_Lw_law_1174 : decode code 1174 = .ok (.iaload, 1) := by decide +kernel
theorem d_Lw_law_1175 : decode code 1175 = .ok (.invokevirtual 140, 3) := by decide +kernel
theorem d_Lw_law_1178 : decode code 1178 = .ok (.istore 6, 2) := by decide +kernel
theorem d_Lw_law_1180 : decode code 1180 = .ok (.aload_n 2, 1) := by decide +kernel
theorem d_Lw_law_1181 : decode code 1181 = .ok (.invokevirtual 89, 3) := by decide +kernel
theorem d_Lw_law_1184 : decode code 1184 = .ok (.iload 5, 2) := by decide +kernel
theorem d_Lw_law_1186 : decode code 1186 = .ok (.if_icmp .eq 5, 3) := by decide +kernel
theorem d_Lw_law_1189 : decode code 1189 = .ok (.iconst 0, 1) := by decide +kernel
theorem d_Lw_law_1190 : decode code 1190 = .ok (.ireturn, 1) := by decide +kernel
theorem d_Lw_law_1191 : decode code 1191 = .ok (.iload 5, 2) := by decide +kernel
theorem d_Lw_law_1193 : decode code 1193 = .ok (.ifCond .ne 15, 3) := by decide +kernel
theorem d_Lw_law_1196 : decode code 1196 = .ok (.aload_n 3, 1) := by decide +kernel
theorem d_Lw_law_1197 : decode code 1197 = .ok (.iconst 0, 1) := by decide +kernel
theorem d_Lw_law_1198 : decode code 1198 = .ok (.laload, 1) := by decide +kernel
theorem d_Lw_law_1199 : decode code 1199 = .ok (.iload 6, 2) := by decide +kernel
theorem d_Lw_law_1201 : decode code 1201 = .ok (.i2l, 1) := by decide +kernel
theorem d_Lw_law_1202 : decode code 1202 = .ok (.lcmp, 1) := by decide +kernel
theorem d_Lw_law_1203 : decode code 1203 = .ok (.ifCond .eq 5, 3) := by decide +kernel
theorem d_Lw_law_1206 : decode code 1206 = .ok (.iconst 0, 1) := by decide +kernel
theorem d_Lw_law_1207 : decode code 1207 = .ok (.ireturn, 1) := by decide +kernel
theorem d_Lw_law_1208 : decode code 1208 = .ok (.goto 139, 3) := by decide +kernel
theorem d_Lw_law_1211 : decode code 1211 = .ok (.aload_n 1, 1) := by decide +kernel
theorem d_Lw_law_1212 : decode code 1212 = .ok (.aload_n 0, 1) := by decide +kernel
theorem d_Lw_law_1213 : decode code 1213 = .ok (.iload 4, 2) := by decide +kernel
theorem d_Lw_law_1215 : decode code 1215 = .ok (.iconst 1, 1) := by decide +kernel
theorem d_Lw_law_1216 : decode code 1216 = .ok (.iadd, 1) := by decide +kernel
theorem d_Lw_law_1217 : decode code 1217 = .ok (.iaload, 1) := by decide +kernel
theorem d_Lw_law_1218 : decode code 1218 = .ok (.aload_n 3, 1) := by decide +kernel
theorem d_Lw_law_1219 : decode code 1219 = .ok (.invokestatic 141, 3) := by decide +kernel
theorem d_Lw_law_1222 : decode code 1222 = .ok (.istore 5, 2) := by decide +kernel
theorem d_Lw_law_1224 : decode code 1224 = .ok (.aload_n 2, 1) := by decide +kernel
theorem d_Lw_law_1225 : decode code 1225 = .ok (.aload_n 0, 1) := by decide +kernel
theorem d_Lw_law_1226 : decode code 1226 = .ok (.iload 4, 2) := by decide +kernel
theorem d_Lw_law_1228 : decode code 1228 = .ok (.iconst 1, 1) := by decide +kernel
theorem d_Lw_law_1229 : decode code 1229 = .ok (.iadd, 1) := by decide +kernel
theorem d_Lw_law_1230 : decode code 1230 = .ok (.iaload, 1) := by decide +kernel
theorem d_Lw_law_1231 : decode code 1231 = .ok (.invokevirtual 143, 3) := by decide +kernel
theorem d_Lw_law_1234 : decode code 1234 = .ok (.istore 6, 2) := by decide +kernel
theorem d_Lw_law_1236 : decode code 1236 = .ok (.aload_n 2, 1) := by decide +kernel
theorem d_Lw_law_1237 : decode code 1237 = .ok (.invokevirtual 89, 3) := by decide +kernel
theorem d_Lw_law_1240 : decode code 1240 = .ok (.iload 5, 2) := by decide +kernel
theorem d_Lw_law_1242 : decode code 1242 = .ok (.if_icmp .eq 5, 3) := by decide +kernel
theorem d_Lw_law_1245 : decode code 1245 = .ok (.iconst 0, 1) := by decide +kernel
theorem d_Lw_law_1246 : decode code 1246 = .ok (.ireturn, 1) := by decide +kernel
theorem d_Lw_law_1247 : decode code 1247 = .ok (.iload 5, 2) := by decide +kernel
theorem d_Lw_law_1249 : decode code 1249 = .ok (.ifCond .ne 15, 3) := by decide +kernel
theorem d_Lw_law_1252 : decode code 1252 = .ok (.aload_n 3, 1) := by decide +kernel
theorem d_Lw_law_1253 : decode code 1253 = .ok (.iconst 0, 1) := by decide +kernel
theorem d_Lw_law_1254 : decode code 1254 = .ok (.laload, 1) := by decide +kernel
theorem d_Lw_law_1255 : decode code 1255 = .ok (.iload 6, 2) := by decide +kernel
theorem d_Lw_law_1257 : decode code 1257 = .ok (.i2l, 1) := by decide +kernel
theorem d_Lw_law_1258 : decode code 1258 = .ok (.lcmp, 1) := by decide +kernel
theorem d_Lw_law_1259 : decode code 1259 = .ok (.ifCond .eq 5, 3) := by decide +kernel
theorem d_Lw_law_1262 : decode code 1262 = .ok (.iconst 0, 1) := by decide +kernel
theorem d_Lw_law_1263 : decode code 1263 = .ok (.ireturn, 1) := by decide +kernel
theorem d_Lw_law_1264 : decode code 1264 = .ok (.goto 83, 3) := by decide +kernel
theorem d_Lw_law_1267 : decode code 1267 = .ok (.aload_n 1, 1) := by decide +kernel
theorem d_Lw_law_1268 : decode code 1268 = .ok (.aload_n 0, 1) := by decide +kernel
theorem d_Lw_law_1269 : decode code 1269 = .ok (.iload 4, 2) := by decide +kernel
theorem d_Lw_law_1271 : decode code 1271 = .ok (.iconst 1, 1) := by decide +kernel
theorem d_Lw_law_1272 : decode code 1272 = .ok (.iadd, 1) := by decide +kernel
theorem d_Lw_law_1273 : decode code 1273 = .ok (.iaload, 1) := by decide +kernel
theorem d_Lw_law_1274 : decode code 1274 = .ok (.aload_n 0, 1) := by decide +kernel
theorem d_Lw_law_1275 : decode code 1275 = .ok (.iload 4, 2) := by decide +kernel
theorem d_Lw_law_1277 : decode code 1277 = .ok (.iconst 2, 1) := by decide +kernel
theorem d_Lw_law_1278 : decode code 1278 = .ok (.iadd, 1) := by decide +kernel
theorem d_Lw_law_1279 : decode code 1279 = .ok (.iaload, 1) := by decide +kernel
theorem d_Lw_law_1280 : decode code 1280 = .ok (.aload_n 0, 1) := by decide +kernel
theorem d_Lw_law_1281 : decode code 1281 = .ok (.iload 4, 2) := by decide +kernel
theorem d_Lw_law_1283 : decode code 1283 = .ok (.iconst 3, 1) := by decide +kernel
theorem d_Lw_law_1284 : decode code 1284 = .ok (.iadd, 1) := by decide +kernel
theorem d_Lw_law_1285 : decode code 1285 = .ok (.iaload, 1) := by decide +kernel
theorem d_Lw_law_1286 : decode code 1286 = .ok (.aload_n 3, 1) := by decide +kernel
theorem d_Lw_law_1287 : decode code 1287 = .ok (.invokestatic 144, 3) := by decide +kernel
theorem d_Lw_law_1290 : decode code 1290 = .ok (.istore 5, 2) := by decide +kernel
theorem d_Lw_law_1292 : decode code 1292 = .ok (.aload_n 2, 1) := by decide +kernel
theorem d_Lw_law_1293 : decode code 1293 = .ok (.aload_n 0, 1) := by decide +kernel
theorem d_Lw_law_1294 : decode code 1294 = .ok (.iload 4, 2) := by decide +kernel
theorem d_Lw_law_1296 : decode code 1296 = .ok (.iconst 1, 1) := by decide +kernel
theorem d_Lw_law_1297 : decode code 1297 = .ok (.iadd, 1) := by decide +kernel
theorem d_Lw_law_1298 : decode code 1298 = .ok (.iaload, 1) := by decide +kernel
theorem d_Lw_law_1299 : decode code 1299 = .ok (.aload_n 0, 1) := by decide +kernel
theorem d_Lw_law_1300 : decode code 1300 = .ok (.iload 4, 2) := by decide +kernel
theorem d_Lw_law_1302 : decode code 1302 = .ok (.iconst 2, 1) := by decide +kernel
theorem d_Lw_law_1303 : decode code 1303 = .ok (.iadd, 1) := by decide +kernel
theorem d_Lw_law_1304 : decode code 1304 = .ok (.iaload, 1) := by decide +kernel
theorem d_Lw_law_1305 : decode code 1305 = .ok (.aload_n 0, 1) := by decide +kernel
theorem d_Lw_law_1306 : decode code 1306 = .ok (.iload 4, 2) := by decide +kernel
theorem d_Lw_law_1308 : decode code 1308 = .ok (.iconst 3, 1) := by decide +kernel
theorem d_Lw_law_1309 : decode code 1309 = .ok (.iadd, 1) := by decide +kernel
theorem d_Lw_law_1310 : decode code 1310 = .ok (.iaload, 1) := by decide +kernel
theorem d_Lw_law_1311 : decode code 1311 = .ok (.invokevirtual 146, 3) := by decide +kernel
theorem d_Lw_law_1314 : decode code 1314 = .ok (.istore 6, 2) := by decide +kernel
theorem d_Lw_law_1316 : decode code 1316 = .ok (.aload_n 2, 1) := by decide +kernel
theorem d_Lw_law_1317 : decode code 1317 = .ok (.invokevirtual 89, 3) := by decide +kernel
theorem d_Lw_law_1320 : decode code 1320 = .ok (.iload 5, 2) := by decide +kernel
theorem d_Lw_law_1322 : decode code 1322 = .ok (.if_icmp .eq 5, 3) := by decide +kernel
theorem d_Lw_law_1325 : decode code 1325 = .ok (.iconst 0, 1) := by decide +kernel
theorem d_Lw_law_1326 : decode code 1326 = .ok (.ireturn, 1) := by decide +kernel
theorem d_Lw_law_1327 : decode code 1327 = .ok (.iload 5, 2) := by decide +kernel
theorem d_Lw_law_1329 : decode code 1329 = .ok (.ifCond .ne 15, 3) := by decide +kernel
theorem d_Lw_law_1332 : decode code 1332 = .ok (.aload_n 3, 1) := by decide +kernel
theorem d_Lw_law_1333 : decode code 1333 = .ok (.iconst 0, 1) := by decide +kernel
theorem d_Lw_law_1334 : decode code 1334 = .ok (.laload, 1) := by decide +kernel
theorem d_Lw_law_1335 : decode code 1335 = .ok (.iload 6, 2) := by decide +kernel
theorem d_Lw_law_1337 : decode code 1337 = .ok (.i2l, 1) := by decide +kernel
theorem d_Lw_law_1338 : decode code 1338 = .ok (.lcmp, 1) := by decide +kernel
theorem d_Lw_law_1339 : decode code 1339 = .ok (.ifCond .eq 5, 3) := by decide +kernel
theorem d_Lw_law_1342 : decode code 1342 = .ok (.iconst 0, 1) := by decide +kernel
theorem d_Lw_law_1343 : decode code 1343 = .ok (.ireturn, 1) := by decide +kernel
theorem d_Lw_law_1344 : decode code 1344 = .ok (.goto 3, 3) := by decide +kernel
theorem d_Lw_law_1347 : decode code 1347 = .ok (.iinc 4 6, 3) := by decide +kernel
theorem d_Lw_law_1350 : decode code 1350 = .ok (.goto (-1327), 3) := by decide +kernel
theorem d_Lw_law_1353 : decode code 1353 = .ok (.iconst 1, 1) := by decide +kernel
theorem d_Lw_law_1354 : decode code 1354 = .ok (.ireturn, 1) := by decide +kernel
