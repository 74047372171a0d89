theorem dL_law__1087 : decode cL_law_ 1087 = .ok (.ifCond .ne 15, 3) := by decide +kernel
theorem dL_law__1090 : decode cL_law_ 1090 = .ok (.aload_n 3, 1) := by decide +kernel
theorem dL_law__1091 : decode cL_law_ 1091 = .ok (.iconst 0, 1) := by decide +kernel
theorem dL_law__1092 : decode cL_law_ 1092 = .ok (.laload, 1) := by decide +kernel
theorem dL_law__1093 : decode cL_law_ 1093 = .ok (.iload 6, 2) := by decide +kernel
theorem dL_law__1095 : decode cL_law_ 1095 = .ok (.i2l, 1) := by decide +kernel
theorem dL_law__1096 : decode cL_law_ 1096 = .ok (.lcmp, 1) := by decide +kernel
theorem dL_law__1097 : decode cL_law_ 1097 = .ok (.ifCond .eq 5, 3) := by decide +kernel
theorem dL_law__1100 : decode cL_law_ 1100 = .ok (.iconst 0, 1) := by decide +kernel
theorem dL_law__1101 : decode cL_law_ 1101 = .ok (.ireturn, 1) := by decide +kernel
theorem dL_law__1102 : decode cL_law_ 1102 = .ok (.goto 1705, 3) := by decide +kernel
theorem dL_law__1105 : decode cL_law_ 1105 = .ok (.aload_n 1, 1) := by decide +kernel
theorem dL_law__1106 : decode cL_law_ 1106 = .ok (.aload_n 0, 1) := by decide +kernel
theorem dL_law__1107 : decode cL_law_ 1107 = .ok (.iload 4, 2) := by decide +kernel
theorem dL_law__1109 : decode cL_law_ 1109 = .ok (.iconst 1, 1) := by decide +kernel
theorem dL_law__1110 : decode cL_law_ 1110 = .ok (.iadd, 1) := by decide +kernel
theorem dL_law__1111 : decode cL_law_ 1111 = .ok (.iaload, 1) := by decide +kernel
theorem dL_law__1112 : decode cL_law_ 1112 = .ok (.aload_n 3, 1) := by decide +kernel
theorem dL_law__1113 : decode cL_law_ 1113 = .ok (.invokestatic 182, 3) := by decide +kernel
theorem dL_law__1116 : decode cL_law_ 1116 = .ok (.istore 5, 2) := by decide +kernel
theorem dL_law__1118 : decode cL_law_ 1118 = .ok (.aload_n 2, 1) := by decide +kernel
theorem dL_law__1119 : decode cL_law_ 1119 = .ok (.aload_n 0, 1) := by decide +kernel
theorem dL_law__1120 : decode cL_law_ 1120 = .ok (.iload 4, 2) := by decide +kernel
theorem dL_law__1122 : decode cL_law_ 1122 = .ok (.iconst 1, 1) := by decide +kernel
theorem dL_law__1123 : decode cL_law_ 1123 = .ok (.iadd, 1) := by decide +kernel
theorem dL_law__1124 : decode cL_law_ 1124 = .ok (.iaload, 1) := by decide +kernel
theorem dL_law__1125 : decode cL_law_ 1125 = .ok (.invokevirtual 184, 3) := by decide +kernel
theorem dL_law__1128 : decode cL_law_ 1128 = .ok (.istore 6, 2) := by decide +kernel
theorem dL_law__1130 : decode cL_law_ 1130 = .ok (.aload_n 2, 1) := by decide +kernel
theorem dL_law__1131 : decode cL_law_ 1131 = .ok (.invokevirtual 137, 3) := by decide +kernel
theorem dL_law__1134 : decode cL_law_ 1134 = .ok (.iload 5, 2) := by decide +kernel
theorem dL_law__1136 : decode cL_law_ 1136 = .ok (.if_icmp .eq 5, 3) := by decide +kernel
theorem dL_law__1139 : decode cL_law_ 1139 = .ok (.iconst 0, 1) := by decide +kernel
theorem dL_law__1140 : decode cL_law_ 1140 = .ok (.ireturn, 1) := by decide +kernel
theorem dL_law__1141 : decode cL_law_ 1141 = .ok (.iload 5, 2) := by decide +kernel
theorem dL_law__1143 : decode cL_law_ 1143 = .ok (.ifCond .ne 15, 3) := by decide +kernel
theorem dL_law__1146 : decode cL_law_ 1146 = .ok (.aload_n 3, 1) := by decide +kernel
theorem dL_law__1147 : decode cL_law_ 1147 = .ok (.iconst 0, 1) := by decide +kernel
theorem dL_law__1148 : decode cL_law_ 1148 = .ok (.laload, 1) := by decide +kernel
theorem dL_law__1149 : decode cL_law_ 1149 = .ok (.iload 6, 2) := by decide +kernel
theorem dL_law__1151 : decode cL_law_ 1151 = .ok (.i2l, 1) := by decide +kernel
theorem dL_law__1152 : decode cL_law_ 1152 = .ok (.lcmp, 1) := by decide +kernel
theorem dL_law__1153 : decode cL_law_ 1153 = .ok (.ifCond .eq 5, 3) := by decide +kernel
theorem dL_law__1156 : decode cL_law_ 1156 = .ok (.iconst 0, 1) := by decide +kernel
theorem dL_law__1157 : decode cL_law_ 1157 = .ok (.ireturn, 1) := by decide +kernel
theorem dL_law__1158 : decode cL_law_ 1158 = .ok (.goto 1649, 3) := by decide +kernel
theorem dL_law__1161 : decode cL_law_ 1161 = .ok (.aload_n 1, 1) := by decide +kernel
theorem dL_law__1162 : decode cL_law_ 1162 = .ok (.aload_n 0, 1) := by decide +kernel
theorem dL_law__1163 : decode cL_law_ 1163 = .ok (.iload 4, 2) := by decide +kernel
theorem dL_law__1165 : decode cL_law_ 1165 = .ok (.iconst 1, 1) := by decide +kernel
theorem dL_law__1166 : decode cL_law_ 1166 = .ok (.iadd, 1) := by decide +kernel
theorem dL_law__1167 : decode cL_law_ 1167 = .ok (.iaload, 1) := by decide +kernel
theorem dL_law__1168 : decode cL_law_ 1168 = .ok (.aload_n 0, 1) := by decide +kernel
theorem dL_law__1169 : decode cL_law_ 1169 = .ok (.iload 4, 2) := by decide +kernel
theorem dL_law__1171 : decode cL_law_ 1171 = .ok (.iconst 2, 1) := by decide +kernel
theorem dL_law__1172 : decode cL_law_ 1172 = .ok (.iadd, 1) := by decide +kernel
theorem dL_law__1173 : decode cL_law_ 1173 = .ok (.iaload, 1) := by decide +kernel
theorem dL_law__1174 : decode cL_law_ 1174 = .ok (.aload_n 3, 1) := by decide +kernel
theorem dL_law__1175 : decode cL_law_ 1175 = .ok (.invokestatic 185, 3) := by decide +kernel
theorem dL_law__1178 : decode cL_law_ 1178 = .ok (.istore 5, 2) := by decide +kernel
theorem dL_law__1180 : decode cL_law_ 1180 = .ok (.aload_n 2, 1) := by decide +kernel
theorem dL_law__1181 : decode cL_law_ 1181 = .ok (.aload_n 0, 1) := by decide +kernel
theorem dL_law__1182 : decode cL_law_ 1182 = .ok (.iload 4, 2) := by decide +kernel
theorem dL_law__1184 : decode cL_law_ 1184 = .ok (.iconst 1, 1) := by decide +kernel
theorem dL_law__1185 : decode cL_law_ 1185 = .ok (.iadd, 1) := by decide +kernel
theorem dL_law__1186 : decode cL_law_ 1186 = .ok (.iaload, 1) := by decide +kernel
theorem dL_law__1187 : decode cL_law_ 1187 = .ok (.aload_n 0, 1) := by decide +kernel
theorem dL_law__1188 : decode cL_law_ 1188 = .ok (.iload 4, 2) := by decide +kernel
theorem dL_law__1190 : decode cL_law_ 1190 = .ok (.iconst 2, 1) := by decide +kernel
theorem dL_law__1191 : decode cL_law_ 1191 = .ok (.iadd, 1) := by decide +kernel
theorem dL_law__1192 : decode cL_law_ 1192 = .ok (.iaload, 1) := by decide +kernel
theorem dL_law__1193 : decode cL_law_ 1193 = .ok (.invokevirtual 187, 3) := by decide +kernel
theorem dL_law__1196 : decode cL_law_ 1196 = .ok (.istore 6, 2) := by decide +kernel
theorem dL_law__1198 : decode cL_law_ 1198 = .ok (.aload_n 2, 1) := by decide +kernel
theorem dL_law__1199 : decode cL_law_ 1199 = .ok (.invokevirtual 137, 3) := by decide +kernel
theorem dL_law__1202 : decode cL_law_ 1202 = .ok (.iload 5, 2) := by decide +kernel
theorem dL_law__1204 : decode cL_law_ 1204 = .ok (.if_icmp .eq 5, 3) := by decide +kernel
theorem dL_law__1207 : decode cL_law_ 1207 = .ok (.iconst 0, 1) := by decide +kernel
theorem dL_law__1208 : decode cL_law_ 1208 = .ok (.ireturn, 1) := by decide +kernel
theorem dL_law__1209 : decode cL_law_ 1209 = .ok (.iload 5, 2) := by decide +kernel
theorem dL_law__1211 : decode cL_law_ 1211 = .ok (.ifCond .ne 15, 3) := by decide +kernel
theorem dL_law__1214 : decode cL_law_ 1214 = .ok (.aload_n 3, 1) := by decide +kernel
theorem dL_law__1215 : decode cL_law_ 1215 = .ok (.iconst 0, 1) := by decide +kernel
theorem dL_law__1216 : decode cL_law_ 1216 = .ok (.laload, 1) := by decide +kernel
theorem dL_law__1217 : decode cL_law_ 1217 = .ok (.iload 6, 2) := by decide +kernel
theorem dL_law__1219 : decode cL_law_ 1219 = .ok (.i2l, 1) := by decide +kernel
theorem dL_law__1220 : decode cL_law_ 1220 = .ok (.lcmp, 1) := by decide +kernel
theorem dL_law__1221 : decode cL_law_ 1221 = .ok (.ifCond .eq 5, 3) := by decide +kernel
theorem dL_law__1224 : decode cL_law_ 1224 = .ok (.iconst 0, 1) := by decide +kernel
theorem dL_law__1225 : decode cL_law_ 1225 = .ok (.ireturn, 1) := by decide +kernel
theorem dL_law__1226 : decode cL_law_ 1226 = .ok (.goto 1581, 3) := by decide +kernel
theorem dL_law__1229 : decode cL_law_ 1229 = .ok (.aload_n 1, 1) := by decide +kernel
theorem dL_law__1230 : decode cL_law_ 1230 = .ok (.aload_n 0, 1) := by decide +kernel
theorem dL_law__1231 : decode cL_law_ 1231 = .ok (.iload 4, 2) := by decide +kernel
theorem dL_law__1233 : decode cL_law_ 1233 = .ok (.iconst 1, 1) := by decide +kernel
theorem dL_law__1234 : decode cL_law_ 1234 = .ok (.iadd, 1) := by decide +kernel
theorem dL_law__1235 : decode cL_law_ 1235 = .ok (.iaload, 1) := by decide +kernel
theorem dL_law__1236 : decode cL_law_ 1236 = .ok (.aload_n 0, 1) := by decide +kernel
theorem dL_law__1237 : decode cL_law_ 1237 = .ok (.iload 4, 2) := by decide +kernel
theorem dL_law__1239 : decode cL_law_ 1239 = .ok (.iconst 2, 1) := by decide +kernel
theorem dL_law__1240 : decode cL_law_ 1240 = .ok (.iadd, 1) := by decide +kernel
theorem dL_law__1241 : decode cL_law_ 1241 = .ok (.iaload, 1) := by decide +kernel
theorem dL_law__1242 : decode cL_law_ 1242 = .ok (.aload_n 3, 1) := by decide +kernel
theorem dL_law__1243 : decode cL_law_ 1243 = .ok (.invokestatic 188, 3) := by decide +kernel
theorem dL_law__1246 : decode cL_law_ 1246 = .ok (.istore 5, 2) := by decide +kernel
theorem dL_law__1248 : decode cL_law_ 1248 = .ok (.aload_n 2, 1) := by decide +kernel
theorem dL_law__1249 : decode cL_law_ 1249 = .ok (.aload_n 0, 1) := by decide +kernel
theorem dL_law__1250 : decode cL_law_ 1250 = .ok (.iload 4, 2) := by decide +kernel
theorem dL_law__1252 : decode cL_law_ 1252 = .ok (.iconst 1, 1) := by decide +kernel
theorem dL_law__1253 : decode cL_law_ 1253 = .ok (.iadd, 1) := by decide +kernel
theorem dL_law__1254 : decode cL_law_ 1254 = .ok (.iaload, 1) := by decide +kernel
theorem dL_law__1255 : decode cL_law_ 1255 = .ok (.aload_n 0, 1) := by decide +kernel
theorem dL_law__1256 : decode cL_law_ 1256 = .ok (.iload 4, 2) := by decide +kernel
theorem dL_law__1258 : decode cL_law_ 1258 = .ok (.iconst 2, 1) := by decide +kernel
theorem dL_law__1259 : decode cL_law_ 1259 = .ok (.iadd, 1) := by decide +kernel
theorem dL_law__1260 : decode cL_law_ 1260 = .ok (.iaload, 1) := by decide +kernel
theorem dL_law__1261 : decode cL_law_ 1261 = .ok (.invokevirtual 190, 3) := by decide +kernel
theorem dL_law__1264 : decode cL_law_ 1264 = .ok (.istore 6, 2) := by decide +kernel
theorem dL_law__1266 : decode cL_law_ 1266 = .ok (.aload_n 2, 1) := by decide +kernel
theorem dL_law__1267 : decode cL_law_ 1267 = .ok (.invokevirtual 137, 3) := by decide +kernel
theorem dL_law__1270 : decode cL_law_ 1270 = .ok (.iload 5, 2) := by decide +kernel
theorem dL_law__1272 : decode cL_law_ 1272 = .ok (.if_icmp .eq 5, 3) := by decide +kernel
theorem dL_law__1275 : decode cL_law_ 1275 = .ok (.iconst 0, 1) := by decide +kernel
theorem dL_law__1276 : decode cL_law_ 1276 = .ok (.ireturn, 1) := by decide +kernel
theorem dL_law__1277 : decode cL_law_ 1277 = .ok (.iload 5, 2) := by decide +kernel
theorem dL_law__1279 : decode cL_law_ 1279 = .ok (.ifCond .ne 15, 3) := by decide +kernel
theorem dL_law__1282 : decode cL_law_ 1282 = .ok (.aload_n 3, 1) := by decide +kernel
theorem dL_law__1283 : decode cL_law_ 1283 = .ok (.iconst 0, 1) := by decide +kernel
theorem dL_law__1284 : decode cL_law_ 1284 = .ok (.laload, 1) := by decide +kernel
theorem dL_law__1285 : decode cL_law_ 1285 = .ok (.iload 6, 2) := by decide +kernel
theorem dL_law__1287 : decode cL_law_ 1287 = .ok (.i2l, 1) := by decide +kernel
theorem dL_law__1288 : decode cL_law_ 1288 = .ok (.lcmp, 1) := by decide +kernel
theorem dL_law__1289 : decode cL_law_ 1289 = .ok (.ifCond .eq 5, 3) := by decide +kernel
theorem dL_law__1292 : decode cL_law_ 1292 = .ok (.iconst 0, 1) := by decide +kernel
theorem dL_law__1293 : decode cL_law_ 1293 = .ok (.ireturn, 1) := by decide +kernel
theorem dL_law__1294 : decode cL_law_ 1294 = .ok (.goto 1513, 3) := by decide +kernel
theorem dL_law__1297 : decode cL_law_ 1297 = .ok (.aload_n 1, 1) := by decide +kernel
theorem dL_law__1298 : decode cL_law_ 1298 = .ok (.aload_n 0, 1) := by decide +kernel
theorem dL_law__1299 : decode cL_law_ 1299 = .ok (.iload 4, 2) := by decide +kernel
theorem dL_law__1301 : decode cL_law_ 1301 = .ok (.iconst 1, 1) := by decide +kernel
theorem dL_law__1302 : decode cL_law_ 1302 = .ok (.iadd, 1) := by decide +kernel
theorem dL_law__1303 : decode cL_law_ 1303 = .ok (.iaload, 1) := by decide +kernel
theorem dL_law__1304 : decode cL_law_ 1304 = .ok (.aload_n 3, 1) := by decide +kernel
theorem dL_law__1305 : decode cL_law_ 1305 = .ok (.invokestatic 191, 3) := by decide +kernel
theorem dL_law__1308 : decode cL_law_ 1308 = .ok (.istore 5, 2) := by decide +kernel
theorem dL_law__1310 : decode cL_law_ 1310 = .ok (.aload_n 2, 1) := by decide +kernel
theorem dL_law__1311 : decode cL_law_ 1311 = .ok (.aload_n 0, 1) := by decide +kernel
theorem dL_law__1312 : decode cL_law_ 1312 = .ok (.iload 4, 2) := by decide +kernel
theorem dL_law__1314 : decode cL_law_ 1314 = .ok (.iconst 1, 1) := by decide +kernel
theorem dL_law__1315 : decode cL_law_ 1315 = .ok (.iadd, 1) := by decide +kernel
theorem dL_law__1316 : decode cL_law_ 1316 = .ok (.iaload, 1) := by decide +kernel
theorem dL_law__1317 : decode cL_law_ 1317 = .ok (.invokevirtual 193, 3) := by decide +kernel
theorem dL_law__1320 : decode cL_law_ 1320 = .ok (.istore 6, 2) := by decide +kernel
theorem dL_law__1322 : decode cL_law_ 1322 = .ok (.aload_n 2, 1) := by decide +kernel
theorem dL_law__1323 : decode cL_law_ 1323 = .ok (.invokevirtual 137, 3) := by decide +kernel
theorem dL_law__1326 : decode cL_law_ 1326 = .ok (.iload 5, 2) := by decide +kernel
theorem dL_law__1328 : decode cL_law_ 1328 = .ok (.if_icmp .eq 5, 3) := by decide +kernel
theorem dL_law__1331 : decode cL_law_ 1331 = .ok (.iconst 0, 1) := by decide +kernel
theorem dL_law__1332 : decode cL_law_ 1332 = .ok (.ireturn, 1) := by decide +kernel
theorem dL_law__1333 : decode cL_law_ 1333 = .ok (.iload 5, 2) := by decide +kernel
theorem dL_law__1335 : decode cL_law_ 1335 = .ok (.ifCond .ne 15, 3) := by decide +kernel
theorem dL_law__1338 : decode cL_law_ 1338 = .ok (.aload_n 3, 1) := by decide +kernel
theorem dL_law__1339 : decode cL_law_ 1339 = .ok (.iconst 0, 1) := by decide +kernel
theorem dL_law__1340 : decode cL_law_ 1340 = .ok (.laload, 1) := by decide +kernel
theorem dL_law__1341 : decode cL_law_ 1341 = .ok (.iload 6, 2) := by decide +kernel
theorem dL_law__1343 : decode cL_law_ 1343 = .ok (.i2l, 1) := by decide +kernel
theorem dL_law__1344 : decode cL_law_ 1344 = .ok (.lcmp, 1) := by decide +kernel
theorem dL_law__1345 : decode cL_law_ 1345 = .ok (.ifCond .eq 5, 3) := by decide +kernel
theorem dL_law__1348 : decode cL_law_ 1348 = .ok (.iconst 0, 1) := by decide +kernel
theorem dL_law__1349 : decode cL_law_ 1349 = .ok (.ireturn, 1) := by decide +kernel
theorem dL_law__1350 : decode cL_law_ 1350 = .ok (.goto 1457, 3) := by decide +kernel
theorem dL_law__1353 : decode cL_law_ 1353 = .ok (.aload_n 1, 1) := by decide +kernel
theorem dL_law__1354 : decode cL_law_ 1354 = .ok (.aload_n 0, 1) := by decide +kernel
theorem dL_law__1355 : decode cL_law_ 1355 = .ok (.iload 4, 2) := by decide +kernel
theorem dL_law__1357 : decode cL_law_ 1357 = .ok (.iconst 1, 1) := by decide +kernel
theorem dL_law__1358 : decode cL_law_ 1358 = .ok (.iadd, 1) := by decide +kernel
theorem dL_law__1359 : decode cL_law_ 1359 = .ok (.iaload, 1) := by decide +kernel
theorem dL_law__1360 : decode cL_law_ 1360 = .ok (.aload_n 3, 1) := by decide +kernel
theorem dL_law__1361 : decode cL_law_ 1361 = .ok (.invokestatic 194, 3) := by decide +kernel
theorem dL_law__1364 : decode cL_law_ 1364 = .ok (.istore 5, 2) := by decide +kernel
theorem dL_law__1366 : decode cL_law_ 1366 = .ok (.aload_n 2, 1) := by decide +kernel
theorem dL_law__1367 : decode cL_law_ 1367 = .ok (.aload_n 0, 1) := by decide +kernel
theorem dL_law__1368 : decode cL_law_ 1368 = .ok (.iload 4, 2) := by decide +kernel
theorem dL_law__1370 : decode cL_law_ 1370 = .ok (.iconst 1, 1) := by decide +kernel
theorem dL_law__1371 : decode cL_law_ 1371 = .ok (.iadd, 1) := by decide +kernel
theorem dL_law__1372 : decode cL_law_ 1372 = .ok (.iaload, 1) := by decide +kernel
theorem dL_law__1373 : decode cL_law_ 1373 = .ok (.invokevirtual 196, 3) := by decide +kernel
theorem dL_law__1376 : decode cL_law_ 1376 = .ok (.istore 6, 2) := by decide +kernel
theorem dL_law__1378 : decode cL_law_ 1378 = .ok (.aload_n 2, 1) := by decide +kernel
theorem dL_law__1379 : decode cL_law_ 1379 = .ok (.invokevirtual 137, 3) := by decide +kernel
theorem dL_law__1382 : decode cL_law_ 1382 = .ok (.iload 5, 2) := by decide +kernel
theorem dL_law__1384 : decode cL_law_ 1384 = .ok (.if_icmp .eq 5, 3) := by decide +kernel
theorem dL_law__1387 : decode cL_law_ 1387 = .ok (.iconst 0, 1) := by decide +kernel
theorem dL_law__1388 : decode cL_law_ 1388 = .ok (.ireturn, 1) := by decide +kernel
theorem dL_law__1389 : decode cL_law_ 1389 = .ok (.iload 5, 2) := by decide +kernel
theorem dL_law__1391 : decode cL_law_ 1391 = .ok (.ifCond .ne 15, 3) := by decide +kernel
theorem dL_law__1394 : decode cL_law_ 1394 = .ok (.aload_n 3, 1) := by decide +kernel
theorem dL_law__1395 : decode cL_law_ 1395 = .ok (.iconst 0, 1) := by decide +kernel
theorem dL_law__1396 : decode cL_law_ 1396 = .ok (.laload, 1) := by decide +kernel
theorem dL_law__1397 : decode cL_law_ 1397 = .ok (.iload 6, 2) := by decide +kernel
theorem dL_law__1399 : decode cL_law_ 1399 = .ok (.i2l, 1) := by decide +kernel
theorem dL_law__1400 : decode cL_law_ 1400 = .ok (.lcmp, 1) := by decide +kernel
theorem dL_law__1401 : decode cL_law_ 1401 = .ok (.ifCond .eq 5, 3) := by decide +kernel
theorem dL_law__1404 : decode cL_law_ 1404 = .ok (.iconst 0, 1) := by decide +kernel
theorem dL_law__1405 : decode cL_law_ 1405 = .ok (.ireturn, 1) := by decide +kernel
theorem dL_law__1406 : decode cL_law_ 1406 = .ok (.goto 1401, 3) := by decide +kernel
theorem dL_law__1409 : decode cL_law_ 1409 = .ok (.aload_n 1, 1) := by decide +kernel
theorem dL_law__1410 : decode cL_law_ 1410 = .ok (.aload_n 0, 1) := by decide +kernel
theorem dL_law__1411 : decode cL_law_ 1411 = .ok (.iload 4, 2) := by decide +kernel
theorem dL_law__1413 : decode cL_law_ 1413 = .ok (.iconst 1, 1) := by decide +kernel
theorem dL_law__1414 : decode cL_law_ 1414 = .ok (.iadd, 1) := by decide +kernel
theorem dL_law__1415 : decode cL_law_ 1415 = .ok (.iaload, 1) := by decide +kernel
theorem dL_law__1416 : decode cL_law_ 1416 = .ok (.aload_n 0, 1) := by decide +kernel
theorem dL_law__1417 : decode cL_law_ 1417 = .ok (.iload 4, 2) := by decide +kernel
theorem dL_law__1419 : decode cL_law_ 1419 = .ok (.iconst 2, 1) := by decide +kernel
theorem dL_law__1420 : decode cL_law_ 1420 = .ok (.iadd, 1) := by decide +kernel
theorem dL_law__1421 : decode cL_law_ 1421 = .ok (.iaload, 1) := by decide +kernel
theorem dL_law__1422 : decode cL_law_ 1422 = .ok (.aload_n 0, 1) := by decide +kernel
theorem dL_law__1423 : decode cL_law_ 1423 = .ok (.iload 4, 2) := by decide +kernel
theorem dL_law__1425 : decode cL_law_ 1425 = .ok (.iconst 3, 1) := by decide +kernel
theorem dL_law__1426 : decode cL_law_ 1426 = .ok (.iadd, 1) := by decide +kernel
theorem dL_law__1427 : decode cL_law_ 1427 = .ok (.iaload, 1) := by decide +kernel
theorem dL_law__1428 : decode cL_law_ 1428 = .ok (.aload_n 3, 1) := by decide +kernel
theorem dL_law__1429 : decode cL_law_ 1429 = .ok (.invokestatic 197, 3) := by decide +kernel
theorem dL_law__1432 : decode cL_law_ 1432 = .ok (.istore 5, 2) := by decide +kernel
theorem dL_law__1434 : decode cL_law_ 1434 = .ok (.aload_n 2, 1) := by decide +kernel
theorem dL_law__1435 : decode cL_law_ 1435 = .ok (.aload_n 0, 1) := by decide +kernel
theorem dL_law__1436 : decode cL_law_ 1436 = .ok (.iload 4, 2) := by decide +kernel
theorem dL_law__1438 : decode cL_law_ 1438 = .ok (.iconst 1, 1) := by decide +kernel
theorem dL_law__1439 : decode cL_law_ 1439 = .ok (.iadd, 1) := by decide +kernel
theorem dL_law__1440 : decode cL_law_ 1440 = .ok (.iaload, 1) := by decide +kernel
theorem dL_law__1441 : decode cL_law_ 1441 = .ok (.aload_n 0, 1) := by decide +kernel
theorem dL_law__1442 : decode cL_law_ 1442 = .ok (.iload 4, 2) := by decide +kernel
theorem dL_law__1444 : decode cL_law_ 1444 = .ok (.iconst 2, 1) := by decide +kernel
theorem dL_law__1445 : decode cL_law_ 1445 = .ok (.iadd, 1) := by decide +kernel
theorem dL_law__1446 : decode cL_law_ 1446 = .ok (.iaload, 1) := by decide +kernel
theorem dL_law__1447 : decode cL_law_ 1447 = .ok (.aload_n 0, 1) := by decide +kernel
theorem dL_law__1448 : decode cL_law_ 1448 = .ok (.iload 4, 2) := by decide +kernel
theorem dL_law__1450 : decode cL_law_ 1450 = .ok (.iconst 3, 1) := by decide +kernel
theorem dL_law__1451 : decode cL_law_ 1451 = .ok (.iadd, 1) := by decide +kernel
theorem dL_law__1452 : decode cL_law_ 1452 = .ok (.iaload, 1) := by decide +kernel
theorem dL_law__1453 : decode cL_law_ 1453 = .ok (.invokevirtual 199, 3) := by decide +kernel
theorem dL_law__1456 : decode cL_law_ 1456 = .ok (.lstore 6, 2) := by decide +kernel
theorem dL_law__1458 : decode cL_law_ 1458 = .ok (.aload_n 2, 1) := by decide +kernel
theorem dL_law__1459 : decode cL_law_ 1459 = .ok (.invokevirtual 137, 3) := by decide +kernel
theorem dL_law__1462 : decode cL_law_ 1462 = .ok (.iload 5, 2) := by decide +kernel
theorem dL_law__1464 : decode cL_law_ 1464 = .ok (.if_icmp .eq 5, 3) := by decide +kernel
theorem dL_law__1467 : decode cL_law_ 1467 = .ok (.iconst 0, 1) := by decide +kernel
theorem dL_law__1468 : decode cL_law_ 1468 = .ok (.ireturn, 1) := by decide +kernel
theorem dL_law__1469 : decode cL_law_ 1469 = .ok (.iload 5, 2) := by decide +kernel
theorem dL_law__1471 : decode cL_law_ 1471 = .ok (.ifCond .ne 14, 3) := by decide +kernel
theorem dL_law__1474 : decode cL_law_ 1474 = .ok (.aload_n 3, 1) := by decide +kernel
theorem dL_law__1475 : decode cL_law_ 1475 = .ok (.iconst 0, 1) := by decide +kernel
theorem dL_law__1476 : decode cL_law_ 1476 = .ok (.laload, 1) := by decide +kernel
theorem dL_law__1477 : decode cL_law_ 1477 = .ok (.lload 6, 2) := by decide +kernel
theorem dL_law__1479 : decode cL_law_ 1479 = .ok (.lcmp, 1) := by decide +kernel
theorem dL_law__1480 : decode cL_law_ 1480 = .ok (.ifCond .eq 5, 3) := by decide +kernel
theorem dL_law__1483 : decode cL_law_ 1483 = .ok (.iconst 0, 1) := by decide +kernel
theorem dL_law__1484 : decode cL_law_ 1484 = .ok (.ireturn, 1) := by decide +kernel
theorem dL_law__1485 : decode cL_law_ 1485 = .ok (.goto 1322, 3) := by decide +kernel
theorem dL_law__1488 : decode cL_law_ 1488 = .ok (.aload_n 1, 1) := by decide +kernel
theorem dL_law__1489 : decode cL_law_ 1489 = .ok (.aload_n 0, 1) := by decide +kernel
theorem dL_law__1490 : decode cL_law_ 1490 = .ok (.iload 4, 2) := by decide +kernel
theorem dL_law__1492 : decode cL_law_ 1492 = .ok (.iconst 1, 1) := by decide +kernel
theorem dL_law__1493 : decode cL_law_ 1493 = .ok (.iadd, 1) := by decide +kernel
theorem dL_law__1494 : decode cL_law_ 1494 = .ok (.iaload, 1) := by decide +kernel
theorem dL_law__1495 : decode cL_law_ 1495 = .ok (.aload_n 0, 1) := by decide +kernel
theorem dL_law__1496 : decode cL_law_ 1496 = .ok (.iload 4, 2) := by decide +kernel
theorem dL_law__1498 : decode cL_law_ 1498 = .ok (.iconst 2, 1) := by decide +kernel
theorem dL_law__1499 : decode cL_law_ 1499 = .ok (.iadd, 1) := by decide +kernel
theorem dL_law__1500 : decode cL_law_ 1500 = .ok (.iaload, 1) := by decide +kernel
theorem dL_law__1501 : decode cL_law_ 1501 = .ok (.aload_n 0, 1) := by decide +kernel
theorem dL_law__1502 : decode cL_law_ 1502 = .ok (.iload 4, 2) := by decide +kernel
theorem dL_law__1504 : decode cL_law_ 1504 = .ok (.iconst 3, 1) := by decide +kernel
theorem dL_law__1505 : decode cL_law_ 1505 = .ok (.iadd, 1) := by decide +kernel
theorem dL_law__1506 : decode cL_law_ 1506 = .ok (.iaload, 1) := by decide +kernel
theorem dL_law__1507 : decode cL_law_ 1507 = .ok (.aload_n 3, 1) := by decide +kernel
theorem dL_law__1508 : decode cL_law_ 1508 = .ok (.invokestatic 200, 3) := by decide +kernel
theorem dL_law__1511 : decode cL_law_ 1511 = .ok (.istore 5, 2) := by decide +kernel
theorem dL_law__1513 : decode cL_law_ 1513 = .ok (.aload_n 2, 1) := by decide +kernel
theorem dL_law__1514 : decode cL_law_ 1514 = .ok (.aload_n 0, 1) := by decide +kernel
theorem dL_law__1515 : decode cL_law_ 1515 = .ok (.iload 4, 2) := by decide +kernel
theorem dL_law__1517 : decode cL_law_ 1517 = .ok (.iconst 1, 1) := by decide +kernel
theorem dL_law__1518 : decode cL_law_ 1518 = .ok (.iadd, 1) := by decide +kernel
theorem dL_law__1519 : decode cL_law_ 1519 = .ok (.iaload, 1) := by decide +kernel
theorem dL_law__1520 : decode cL_law_ 1520 = .ok (.aload_n 0, 1) := by decide +kernel
theorem dL_law__1521 : decode cL_law_ 1521 = .ok (.iload 4, 2) := by decide +kernel
theorem dL_law__1523 : decode cL_law_ 1523 = .ok (.iconst 2, 1) := by decide +kernel
theorem dL_law__1524 : decode cL_law_ 1524 = .ok (.iadd, 1) := by decide +kernel
theorem dL_law__1525 : decode cL_law_ 1525 = .ok (.iaload, 1) := by decide +kernel
theorem dL_law__1526 : decode cL_law_ 1526 = .ok (.aload_n 0, 1) := by decide +kernel
theorem dL_law__1527 : decode cL_law_ 1527 = .ok (.iload 4, 2) := by decide +kernel
theorem dL_law__1529 : decode cL_law_ 1529 = .ok (.iconst 3, 1) := by decide +kernel
theorem dL_law__1530 : decode cL_law_ 1530 = .ok (.iadd, 1) := by decide +kernel
theorem dL_law__1531 : decode cL_law_ 1531 = .ok (.iaload, 1) := by decide +kernel
theorem dL_law__1532 : decode cL_law_ 1532 = .ok (.invokevirtual 202, 3) := by decide +kernel
theorem dL_law__1535 : decode cL_law_ 1535 = .ok (.lstore 6, 2) := by decide +kernel
theorem dL_law__1537 : decode cL_law_ 1537 = .ok (.aload_n 2, 1) := by decide +kernel
theorem dL_law__1538 : decode cL_law_ 1538 = .ok (.invokevirtual 137, 3) := by decide +kernel
theorem dL_law__1541 : decode cL_law_ 1541 = .ok (.iload 5, 2) := by decide +kernel
