theorem dL_law_1110 : decode cL_law 1110 = .ok (.ifCond .eq 8, 3) := by decide +kernel
theorem dL_law_1113 : decode cL_law 1113 = .ok (.iload 29, 2) := by decide +kernel
theorem dL_law_1115 : decode cL_law 1115 = .ok (.goto 6, 3) := by decide +kernel
theorem dL_law_1118 : decode cL_law 1118 = .ok (.iload 29, 2) := by decide +kernel
theorem dL_law_1120 : decode cL_law 1120 = .ok (.ineg, 1) := by decide +kernel
theorem dL_law_1121 : decode cL_law 1121 = .ok (.iload 31, 2) := by decide +kernel
theorem dL_law_1123 : decode cL_law 1123 = .ok (.invokestatic 173, 3) := by decide +kernel
theorem dL_law_1126 : decode cL_law 1126 = .ok (.iload 16, 2) := by decide +kernel
theorem dL_law_1128 : decode cL_law 1128 = .ok (.ifCond .eq 8, 3) := by decide +kernel
theorem dL_law_1131 : decode cL_law 1131 = .ok (.ldc 33, 2) := by decide +kernel
theorem dL_law_1133 : decode cL_law 1133 = .ok (.goto 5, 3) := by decide +kernel
theorem dL_law_1136 : decode cL_law 1136 = .ok (.iload 34, 2) := by decide +kernel
theorem dL_law_1138 : decode cL_law 1138 = .ok (.if_icmp .ne 7, 3) := by decide +kernel
theorem dL_law_1141 : decode cL_law 1141 = .ok (.iconst 1, 1) := by decide +kernel
theorem dL_law_1142 : decode cL_law 1142 = .ok (.goto 4, 3) := by decide +kernel
theorem dL_law_1145 : decode cL_law 1145 = .ok (.iconst 0, 1) := by decide +kernel
theorem dL_law_1146 : decode cL_law 1146 = .ok (.istore 17, 2) := by decide +kernel
theorem dL_law_1148 : decode cL_law 1148 = .ok (.iload 16, 2) := by decide +kernel
theorem dL_law_1150 : decode cL_law 1150 = .ok (.ifCond .eq 6, 3) := by decide +kernel
theorem dL_law_1153 : decode cL_law 1153 = .ok (.goto 886, 3) := by decide +kernel
theorem dL_law_1156 : decode cL_law 1156 = .ok (.aload 5, 2) := by decide +kernel
theorem dL_law_1158 : decode cL_law 1158 = .ok (.iload 30, 2) := by decide +kernel
theorem dL_law_1160 : decode cL_law 1160 = .ok (.ifCond .eq 8, 3) := by decide +kernel
theorem dL_law_1163 : decode cL_law 1163 = .ok (.bipush 18, 2) := by decide +kernel
theorem dL_law_1165 : decode cL_law 1165 = .ok (.goto 5, 3) := by decide +kernel
theorem dL_law_1168 : decode cL_law 1168 = .ok (.bipush 12, 2) := by decide +kernel
theorem dL_law_1170 : decode cL_law 1170 = .ok (.iload 12, 2) := by decide +kernel
theorem dL_law_1172 : decode cL_law 1172 = .ok (.iadd, 1) := by decide +kernel
theorem dL_law_1173 : decode cL_law 1173 = .ok (.dup2, 1) := by decide +kernel
theorem dL_law_1174 : decode cL_law 1174 = .ok (.iaload, 1) := by decide +kernel
theorem dL_law_1175 : decode cL_law 1175 = .ok (.iload 34, 2) := by decide +kernel
theorem dL_law_1177 : decode cL_law 1177 = .ok (.isub, 1) := by decide +kernel
theorem dL_law_1178 : decode cL_law 1178 = .ok (.iastore, 1) := by decide +kernel
theorem dL_law_1179 : decode cL_law 1179 = .ok (.iload 30, 2) := by decide +kernel
theorem dL_law_1181 : decode cL_law 1181 = .ok (.ifCond .eq 7, 3) := by decide +kernel
theorem dL_law_1184 : decode cL_law 1184 = .ok (.iconst 1, 1) := by decide +kernel
theorem dL_law_1185 : decode cL_law 1185 = .ok (.goto 4, 3) := by decide +kernel
theorem dL_law_1188 : decode cL_law 1188 = .ok (.iconst (-1), 1) := by decide +kernel
theorem dL_law_1189 : decode cL_law 1189 = .ok (.istore 35, 2) := by decide +kernel
theorem dL_law_1191 : decode cL_law 1191 = .ok (.aload_n 3, 1) := by decide +kernel
theorem dL_law_1192 : decode cL_law 1192 = .ok (.bipush 10, 2) := by decide +kernel
theorem dL_law_1194 : decode cL_law 1194 = .ok (.iload 12, 2) := by decide +kernel
theorem dL_law_1196 : decode cL_law 1196 = .ok (.imul, 1) := by decide +kernel
theorem dL_law_1197 : decode cL_law 1197 = .ok (.iload 13, 2) := by decide +kernel
theorem dL_law_1199 : decode cL_law 1199 = .ok (.iadd, 1) := by decide +kernel
theorem dL_law_1200 : decode cL_law 1200 = .ok (.dup2, 1) := by decide +kernel
theorem dL_law_1201 : decode cL_law 1201 = .ok (.iaload, 1) := by decide +kernel
theorem dL_law_1202 : decode cL_law 1202 = .ok (.iload 35, 2) := by decide +kernel
theorem dL_law_1204 : decode cL_law 1204 = .ok (.iload 34, 2) := by decide +kernel
theorem dL_law_1206 : decode cL_law 1206 = .ok (.imul, 1) := by decide +kernel
theorem dL_law_1207 : decode cL_law 1207 = .ok (.iadd, 1) := by decide +kernel
theorem dL_law_1208 : decode cL_law 1208 = .ok (.iastore, 1) := by decide +kernel
theorem dL_law_1209 : decode cL_law 1209 = .ok (.aload_n 3, 1) := by decide +kernel
theorem dL_law_1210 : decode cL_law 1210 = .ok (.bipush 10, 2) := by decide +kernel
theorem dL_law_1212 : decode cL_law 1212 = .ok (.iload 12, 2) := by decide +kernel
theorem dL_law_1214 : decode cL_law 1214 = .ok (.imul, 1) := by decide +kernel
theorem dL_law_1215 : decode cL_law 1215 = .ok (.bipush 6, 2) := by decide +kernel
theorem dL_law_1217 : decode cL_law 1217 = .ok (.iadd, 1) := by decide +kernel
theorem dL_law_1218 : decode cL_law 1218 = .ok (.dup2, 1) := by decide +kernel
theorem dL_law_1219 : decode cL_law 1219 = .ok (.iaload, 1) := by decide +kernel
theorem dL_law_1220 : decode cL_law 1220 = .ok (.iload 35, 2) := by decide +kernel
theorem dL_law_1222 : decode cL_law 1222 = .ok (.iload 34, 2) := by decide +kernel
theorem dL_law_1224 : decode cL_law 1224 = .ok (.imul, 1) := by decide +kernel
theorem dL_law_1225 : decode cL_law 1225 = .ok (.isub, 1) := by decide +kernel
theorem dL_law_1226 : decode cL_law 1226 = .ok (.iastore, 1) := by decide +kernel
theorem dL_law_1227 : decode cL_law 1227 = .ok (.aload 8, 2) := by decide +kernel
theorem dL_law_1229 : decode cL_law 1229 = .ok (.iload 13, 2) := by decide +kernel
theorem dL_law_1231 : decode cL_law 1231 = .ok (.dup2, 1) := by decide +kernel
theorem dL_law_1232 : decode cL_law 1232 = .ok (.laload, 1) := by decide +kernel
theorem dL_law_1233 : decode cL_law 1233 = .ok (.ldc2_w 104, 3) := by decide +kernel
theorem dL_law_1236 : decode cL_law 1236 = .ok (.iload 35, 2) := by decide +kernel
theorem dL_law_1238 : decode cL_law 1238 = .ok (.i2l, 1) := by decide +kernel
theorem dL_law_1239 : decode cL_law 1239 = .ok (.lmul, 1) := by decide +kernel
theorem dL_law_1240 : decode cL_law 1240 = .ok (.iload 34, 2) := by decide +kernel
theorem dL_law_1242 : decode cL_law 1242 = .ok (.i2l, 1) := by decide +kernel
theorem dL_law_1243 : decode cL_law 1243 = .ok (.lmul, 1) := by decide +kernel
theorem dL_law_1244 : decode cL_law 1244 = .ok (.iload 30, 2) := by decide +kernel
theorem dL_law_1246 : decode cL_law 1246 = .ok (.ifCond .eq 14, 3) := by decide +kernel
theorem dL_law_1249 : decode cL_law 1249 = .ok (.aload 5, 2) := by decide +kernel
theorem dL_law_1251 : decode cL_law 1251 = .ok (.bipush 6, 2) := by decide +kernel
theorem dL_law_1253 : decode cL_law 1253 = .ok (.iload 12, 2) := by decide +kernel
theorem dL_law_1255 : decode cL_law 1255 = .ok (.iadd, 1) := by decide +kernel
theorem dL_law_1256 : decode cL_law 1256 = .ok (.iaload, 1) := by decide +kernel
theorem dL_law_1257 : decode cL_law 1257 = .ok (.goto 8, 3) := by decide +kernel
theorem dL_law_1260 : decode cL_law 1260 = .ok (.aload 5, 2) := by decide +kernel
theorem dL_law_1262 : decode cL_law 1262 = .ok (.iload 12, 2) := by decide +kernel
theorem dL_law_1264 : decode cL_law 1264 = .ok (.iaload, 1) := by decide +kernel
theorem dL_law_1265 : decode cL_law 1265 = .ok (.i2l, 1) := by decide +kernel
theorem dL_law_1266 : decode cL_law 1266 = .ok (.lmul, 1) := by decide +kernel
theorem dL_law_1267 : decode cL_law 1267 = .ok (.lsub, 1) := by decide +kernel
theorem dL_law_1268 : decode cL_law 1268 = .ok (.lastore, 1) := by decide +kernel
theorem dL_law_1269 : decode cL_law 1269 = .ok (.aload 8, 2) := by decide +kernel
theorem dL_law_1271 : decode cL_law 1271 = .ok (.bipush 6, 2) := by decide +kernel
theorem dL_law_1273 : decode cL_law 1273 = .ok (.dup2, 1) := by decide +kernel
theorem dL_law_1274 : decode cL_law 1274 = .ok (.laload, 1) := by decide +kernel
theorem dL_law_1275 : decode cL_law 1275 = .ok (.ldc2_w 104, 3) := by decide +kernel
theorem dL_law_1278 : decode cL_law 1278 = .ok (.iload 35, 2) := by decide +kernel
theorem dL_law_1280 : decode cL_law 1280 = .ok (.i2l, 1) := by decide +kernel
theorem dL_law_1281 : decode cL_law 1281 = .ok (.lmul, 1) := by decide +kernel
theorem dL_law_1282 : decode cL_law 1282 = .ok (.iload 34, 2) := by decide +kernel
theorem dL_law_1284 : decode cL_law 1284 = .ok (.i2l, 1) := by decide +kernel
theorem dL_law_1285 : decode cL_law 1285 = .ok (.lmul, 1) := by decide +kernel
theorem dL_law_1286 : decode cL_law 1286 = .ok (.iload 30, 2) := by decide +kernel
theorem dL_law_1288 : decode cL_law 1288 = .ok (.ifCond .eq 14, 3) := by decide +kernel
theorem dL_law_1291 : decode cL_law 1291 = .ok (.aload 5, 2) := by decide +kernel
theorem dL_law_1293 : decode cL_law 1293 = .ok (.bipush 6, 2) := by decide +kernel
theorem dL_law_1295 : decode cL_law 1295 = .ok (.iload 12, 2) := by decide +kernel
theorem dL_law_1297 : decode cL_law 1297 = .ok (.iadd, 1) := by decide +kernel
theorem dL_law_1298 : decode cL_law 1298 = .ok (.iaload, 1) := by decide +kernel
theorem dL_law_1299 : decode cL_law 1299 = .ok (.goto 8, 3) := by decide +kernel
theorem dL_law_1302 : decode cL_law 1302 = .ok (.aload 5, 2) := by decide +kernel
theorem dL_law_1304 : decode cL_law 1304 = .ok (.iload 12, 2) := by decide +kernel
theorem dL_law_1306 : decode cL_law 1306 = .ok (.iaload, 1) := by decide +kernel
theorem dL_law_1307 : decode cL_law 1307 = .ok (.i2l, 1) := by decide +kernel
theorem dL_law_1308 : decode cL_law 1308 = .ok (.lmul, 1) := by decide +kernel
theorem dL_law_1309 : decode cL_law 1309 = .ok (.ladd, 1) := by decide +kernel
theorem dL_law_1310 : decode cL_law 1310 = .ok (.lastore, 1) := by decide +kernel
theorem dL_law_1311 : decode cL_law 1311 = .ok (.iconst 0, 1) := by decide +kernel
theorem dL_law_1312 : decode cL_law 1312 = .ok (.istore 18, 2) := by decide +kernel
theorem dL_law_1314 : decode cL_law 1314 = .ok (.goto 725, 3) := by decide +kernel
theorem dL_law_1317 : decode cL_law 1317 = .ok (.iload 11, 2) := by decide +kernel
theorem dL_law_1319 : decode cL_law 1319 = .ok (.sipush 201, 3) := by decide +kernel
theorem dL_law_1322 : decode cL_law 1322 = .ok (.invokestatic 158, 3) := by decide +kernel
theorem dL_law_1325 : decode cL_law 1325 = .ok (.bipush 100, 2) := by decide +kernel
theorem dL_law_1327 : decode cL_law 1327 = .ok (.isub, 1) := by decide +kernel
theorem dL_law_1328 : decode cL_law 1328 = .ok (.istore 36, 2) := by decide +kernel
theorem dL_law_1330 : decode cL_law 1330 = .ok (.aload 6, 2) := by decide +kernel
theorem dL_law_1332 : decode cL_law 1332 = .ok (.bipush 6, 2) := by decide +kernel
theorem dL_law_1334 : decode cL_law 1334 = .ok (.iload 11, 2) := by decide +kernel
theorem dL_law_1336 : decode cL_law 1336 = .ok (.bipush 8, 2) := by decide +kernel
theorem dL_law_1338 : decode cL_law 1338 = .ok (.ishr, 1) := by decide +kernel
theorem dL_law_1339 : decode cL_law 1339 = .ok (.sipush 1000, 3) := by decide +kernel
theorem dL_law_1342 : decode cL_law 1342 = .ok (.invokestatic 158, 3) := by decide +kernel
theorem dL_law_1345 : decode cL_law 1345 = .ok (.iastore, 1) := by decide +kernel
theorem dL_law_1346 : decode cL_law 1346 = .ok (.aload 6, 2) := by decide +kernel
theorem dL_law_1348 : decode cL_law 1348 = .ok (.iconst 5, 1) := by decide +kernel
theorem dL_law_1349 : decode cL_law 1349 = .ok (.dup2, 1) := by decide +kernel
theorem dL_law_1350 : decode cL_law 1350 = .ok (.iaload, 1) := by decide +kernel
theorem dL_law_1351 : decode cL_law 1351 = .ok (.iload 36, 2) := by decide +kernel
theorem dL_law_1353 : decode cL_law 1353 = .ok (.iadd, 1) := by decide +kernel
theorem dL_law_1354 : decode cL_law 1354 = .ok (.iastore, 1) := by decide +kernel
theorem dL_law_1355 : decode cL_law 1355 = .ok (.aload 8, 2) := by decide +kernel
theorem dL_law_1357 : decode cL_law 1357 = .ok (.bipush 6, 2) := by decide +kernel
theorem dL_law_1359 : decode cL_law 1359 = .ok (.dup2, 1) := by decide +kernel
theorem dL_law_1360 : decode cL_law 1360 = .ok (.laload, 1) := by decide +kernel
theorem dL_law_1361 : decode cL_law 1361 = .ok (.ldc2_w 104, 3) := by decide +kernel
theorem dL_law_1364 : decode cL_law 1364 = .ok (.aload 6, 2) := by decide +kernel
theorem dL_law_1366 : decode cL_law 1366 = .ok (.iconst 1, 1) := by decide +kernel
theorem dL_law_1367 : decode cL_law 1367 = .ok (.iaload, 1) := by decide +kernel
theorem dL_law_1368 : decode cL_law 1368 = .ok (.i2l, 1) := by decide +kernel
theorem dL_law_1369 : decode cL_law 1369 = .ok (.lmul, 1) := by decide +kernel
theorem dL_law_1370 : decode cL_law 1370 = .ok (.iload 36, 2) := by decide +kernel
theorem dL_law_1372 : decode cL_law 1372 = .ok (.i2l, 1) := by decide +kernel
theorem dL_law_1373 : decode cL_law 1373 = .ok (.lmul, 1) := by decide +kernel
theorem dL_law_1374 : decode cL_law 1374 = .ok (.aload 6, 2) := by decide +kernel
theorem dL_law_1376 : decode cL_law 1376 = .ok (.bipush 6, 2) := by decide +kernel
theorem dL_law_1378 : decode cL_law 1378 = .ok (.iaload, 1) := by decide +kernel
theorem dL_law_1379 : decode cL_law 1379 = .ok (.i2l, 1) := by decide +kernel
theorem dL_law_1380 : decode cL_law 1380 = .ok (.iload 36, 2) := by decide +kernel
theorem dL_law_1382 : decode cL_law 1382 = .ok (.ifCond .ge 9, 3) := by decide +kernel
theorem dL_law_1385 : decode cL_law 1385 = .ok (.iload 36, 2) := by decide +kernel
theorem dL_law_1387 : decode cL_law 1387 = .ok (.ineg, 1) := by decide +kernel
theorem dL_law_1388 : decode cL_law 1388 = .ok (.goto 5, 3) := by decide +kernel
theorem dL_law_1391 : decode cL_law 1391 = .ok (.iload 36, 2) := by decide +kernel
theorem dL_law_1393 : decode cL_law 1393 = .ok (.i2l, 1) := by decide +kernel
theorem dL_law_1394 : decode cL_law 1394 = .ok (.lmul, 1) := by decide +kernel
theorem dL_law_1395 : decode cL_law 1395 = .ok (.ladd, 1) := by decide +kernel
theorem dL_law_1396 : decode cL_law 1396 = .ok (.lsub, 1) := by decide +kernel
theorem dL_law_1397 : decode cL_law 1397 = .ok (.lastore, 1) := by decide +kernel
theorem dL_law_1398 : decode cL_law 1398 = .ok (.aload_n 1, 1) := by decide +kernel
theorem dL_law_1399 : decode cL_law 1399 = .ok (.iload 36, 2) := by decide +kernel
theorem dL_law_1401 : decode cL_law 1401 = .ok (.aload 6, 2) := by decide +kernel
theorem dL_law_1403 : decode cL_law 1403 = .ok (.bipush 6, 2) := by decide +kernel
theorem dL_law_1405 : decode cL_law 1405 = .ok (.iaload, 1) := by decide +kernel
theorem dL_law_1406 : decode cL_law 1406 = .ok (.invokestatic 175, 3) := by decide +kernel
theorem dL_law_1409 : decode cL_law 1409 = .ok (.aload 6, 2) := by decide +kernel
theorem dL_law_1411 : decode cL_law 1411 = .ok (.iconst 5, 1) := by decide +kernel
theorem dL_law_1412 : decode cL_law 1412 = .ok (.iaload, 1) := by decide +kernel
theorem dL_law_1413 : decode cL_law 1413 = .ok (.if_icmp .ne 7, 3) := by decide +kernel
theorem dL_law_1416 : decode cL_law 1416 = .ok (.iconst 1, 1) := by decide +kernel
theorem dL_law_1417 : decode cL_law 1417 = .ok (.goto 4, 3) := by decide +kernel
theorem dL_law_1420 : decode cL_law 1420 = .ok (.iconst 0, 1) := by decide +kernel
theorem dL_law_1421 : decode cL_law 1421 = .ok (.istore 17, 2) := by decide +kernel
theorem dL_law_1423 : decode cL_law 1423 = .ok (.iconst 3, 1) := by decide +kernel
theorem dL_law_1424 : decode cL_law 1424 = .ok (.istore 18, 2) := by decide +kernel
theorem dL_law_1426 : decode cL_law 1426 = .ok (.goto 613, 3) := by decide +kernel
theorem dL_law_1429 : decode cL_law 1429 = .ok (.aload 6, 2) := by decide +kernel
theorem dL_law_1431 : decode cL_law 1431 = .ok (.bipush 7, 2) := by decide +kernel
theorem dL_law_1433 : decode cL_law 1433 = .ok (.iaload, 1) := by decide +kernel
theorem dL_law_1434 : decode cL_law 1434 = .ok (.ifCond .ne 6, 3) := by decide +kernel
theorem dL_law_1437 : decode cL_law 1437 = .ok (.goto 602, 3) := by decide +kernel
theorem dL_law_1440 : decode cL_law 1440 = .ok (.iload 11, 2) := by decide +kernel
theorem dL_law_1442 : decode cL_law 1442 = .ok (.iconst 3, 1) := by decide +kernel
theorem dL_law_1443 : decode cL_law 1443 = .ok (.iand, 1) := by decide +kernel
theorem dL_law_1444 : decode cL_law 1444 = .ok (.ifCond .ne 48, 3) := by decide +kernel
theorem dL_law_1447 : decode cL_law 1447 = .ok (.aload_n 1, 1) := by decide +kernel
theorem dL_law_1448 : decode cL_law 1448 = .ok (.iload 11, 2) := by decide +kernel
theorem dL_law_1450 : decode cL_law 1450 = .ok (.iconst 2, 1) := by decide +kernel
theorem dL_law_1451 : decode cL_law 1451 = .ok (.ishr, 1) := by decide +kernel
theorem dL_law_1452 : decode cL_law 1452 = .ok (.sipush 150, 3) := by decide +kernel
theorem dL_law_1455 : decode cL_law 1455 = .ok (.invokestatic 158, 3) := by decide +kernel
theorem dL_law_1458 : decode cL_law 1458 = .ok (.invokestatic 177, 3) := by decide +kernel
theorem dL_law_1461 : decode cL_law 1461 = .ok (.aload 6, 2) := by decide +kernel
theorem dL_law_1463 : decode cL_law 1463 = .ok (.iconst 4, 1) := by decide +kernel
theorem dL_law_1464 : decode cL_law 1464 = .ok (.iaload, 1) := by decide +kernel
theorem dL_law_1465 : decode cL_law 1465 = .ok (.if_icmp .ne 7, 3) := by decide +kernel
theorem dL_law_1468 : decode cL_law 1468 = .ok (.iconst 1, 1) := by decide +kernel
theorem dL_law_1469 : decode cL_law 1469 = .ok (.goto 4, 3) := by decide +kernel
theorem dL_law_1472 : decode cL_law 1472 = .ok (.iconst 0, 1) := by decide +kernel
theorem dL_law_1473 : decode cL_law 1473 = .ok (.istore 17, 2) := by decide +kernel
theorem dL_law_1475 : decode cL_law 1475 = .ok (.aload 6, 2) := by decide +kernel
theorem dL_law_1477 : decode cL_law 1477 = .ok (.iconst 4, 1) := by decide +kernel
theorem dL_law_1478 : decode cL_law 1478 = .ok (.iload 11, 2) := by decide +kernel
theorem dL_law_1480 : decode cL_law 1480 = .ok (.iconst 2, 1) := by decide +kernel
theorem dL_law_1481 : decode cL_law 1481 = .ok (.ishr, 1) := by decide +kernel
theorem dL_law_1482 : decode cL_law 1482 = .ok (.sipush 150, 3) := by decide +kernel
theorem dL_law_1485 : decode cL_law 1485 = .ok (.invokestatic 158, 3) := by decide +kernel
theorem dL_law_1488 : decode cL_law 1488 = .ok (.iastore, 1) := by decide +kernel
theorem dL_law_1489 : decode cL_law 1489 = .ok (.goto 550, 3) := by decide +kernel
theorem dL_law_1492 : decode cL_law 1492 = .ok (.iconst 1, 1) := by decide +kernel
theorem dL_law_1493 : decode cL_law 1493 = .ok (.iload 11, 2) := by decide +kernel
theorem dL_law_1495 : decode cL_law 1495 = .ok (.iconst 2, 1) := by decide +kernel
theorem dL_law_1496 : decode cL_law 1496 = .ok (.ishr, 1) := by decide +kernel
theorem dL_law_1497 : decode cL_law 1497 = .ok (.iconst 4, 1) := by decide +kernel
theorem dL_law_1498 : decode cL_law 1498 = .ok (.invokestatic 158, 3) := by decide +kernel
theorem dL_law_1501 : decode cL_law 1501 = .ok (.iadd, 1) := by decide +kernel
theorem dL_law_1502 : decode cL_law 1502 = .ok (.istore 37, 2) := by decide +kernel
theorem dL_law_1504 : decode cL_law 1504 = .ok (.iload 16, 2) := by decide +kernel
theorem dL_law_1506 : decode cL_law 1506 = .ok (.ifCond .ne 49, 3) := by decide +kernel
theorem dL_law_1509 : decode cL_law 1509 = .ok (.aload_n 3, 1) := by decide +kernel
theorem dL_law_1510 : decode cL_law 1510 = .ok (.bipush 10, 2) := by decide +kernel
theorem dL_law_1512 : decode cL_law 1512 = .ok (.iload 12, 2) := by decide +kernel
theorem dL_law_1514 : decode cL_law 1514 = .ok (.imul, 1) := by decide +kernel
theorem dL_law_1515 : decode cL_law 1515 = .ok (.iload 13, 2) := by decide +kernel
theorem dL_law_1517 : decode cL_law 1517 = .ok (.iadd, 1) := by decide +kernel
theorem dL_law_1518 : decode cL_law 1518 = .ok (.iaload, 1) := by decide +kernel
theorem dL_law_1519 : decode cL_law 1519 = .ok (.iload 37, 2) := by decide +kernel
theorem dL_law_1521 : decode cL_law 1521 = .ok (.if_icmp .lt 34, 3) := by decide +kernel
theorem dL_law_1524 : decode cL_law 1524 = .ok (.aload_n 2, 1) := by decide +kernel
theorem dL_law_1525 : decode cL_law 1525 = .ok (.bipush 18, 2) := by decide +kernel
theorem dL_law_1527 : decode cL_law 1527 = .ok (.iload 12, 2) := by decide +kernel
theorem dL_law_1529 : decode cL_law 1529 = .ok (.iadd, 1) := by decide +kernel
theorem dL_law_1530 : decode cL_law 1530 = .ok (.iaload, 1) := by decide +kernel
theorem dL_law_1531 : decode cL_law 1531 = .ok (.iconst 1, 1) := by decide +kernel
theorem dL_law_1532 : decode cL_law 1532 = .ok (.iand, 1) := by decide +kernel
theorem dL_law_1533 : decode cL_law 1533 = .ok (.iconst 1, 1) := by decide +kernel
theorem dL_law_1534 : decode cL_law 1534 = .ok (.if_icmp .eq 17, 3) := by decide +kernel
theorem dL_law_1537 : decode cL_law 1537 = .ok (.aload_n 2, 1) := by decide +kernel
theorem dL_law_1538 : decode cL_law 1538 = .ok (.bipush 12, 2) := by decide +kernel
theorem dL_law_1540 : decode cL_law 1540 = .ok (.iload 12, 2) := by decide +kernel
theorem dL_law_1542 : decode cL_law 1542 = .ok (.iadd, 1) := by decide +kernel
theorem dL_law_1543 : decode cL_law 1543 = .ok (.iaload, 1) := by decide +kernel
theorem dL_law_1544 : decode cL_law 1544 = .ok (.aload 6, 2) := by decide +kernel
theorem dL_law_1546 : decode cL_law 1546 = .ok (.iconst 0, 1) := by decide +kernel
theorem dL_law_1547 : decode cL_law 1547 = .ok (.iaload, 1) := by decide +kernel
theorem dL_law_1548 : decode cL_law 1548 = .ok (.if_icmp .ne 7, 3) := by decide +kernel
theorem dL_law_1551 : decode cL_law 1551 = .ok (.iconst 1, 1) := by decide +kernel
theorem dL_law_1552 : decode cL_law 1552 = .ok (.goto 4, 3) := by decide +kernel
theorem dL_law_1555 : decode cL_law 1555 = .ok (.iconst 0, 1) := by decide +kernel
theorem dL_law_1556 : decode cL_law 1556 = .ok (.istore 38, 2) := by decide +kernel
theorem dL_law_1558 : decode cL_law 1558 = .ok (.iload 12, 2) := by decide +kernel
theorem dL_law_1560 : decode cL_law 1560 = .ok (.aload 6, 2) := by decide +kernel
theorem dL_law_1562 : decode cL_law 1562 = .ok (.iconst 1, 1) := by decide +kernel
theorem dL_law_1563 : decode cL_law 1563 = .ok (.iaload, 1) := by decide +kernel
theorem dL_law_1564 : decode cL_law 1564 = .ok (.i2l, 1) := by decide +kernel
theorem dL_law_1565 : decode cL_law 1565 = .ok (.aload_n 2, 1) := by decide +kernel
theorem dL_law_1566 : decode cL_law 1566 = .ok (.invokestatic 100, 3) := by decide +kernel
theorem dL_law_1569 : decode cL_law 1569 = .ok (.lstore 39, 2) := by decide +kernel
theorem dL_law_1571 : decode cL_law 1571 = .ok (.aload_n 1, 1) := by decide +kernel
theorem dL_law_1572 : decode cL_law 1572 = .ok (.iload 13, 2) := by decide +kernel
theorem dL_law_1574 : decode cL_law 1574 = .ok (.bipush 6, 2) := by decide +kernel
theorem dL_law_1576 : decode cL_law 1576 = .ok (.if_icmp .ne 7, 3) := by decide +kernel
theorem dL_law_1579 : decode cL_law 1579 = .ok (.iconst (-1), 1) := by decide +kernel
theorem dL_law_1580 : decode cL_law 1580 = .ok (.goto 5, 3) := by decide +kernel
theorem dL_law_1583 : decode cL_law 1583 = .ok (.iload 13, 2) := by decide +kernel
theorem dL_law_1585 : decode cL_law 1585 = .ok (.iload 12, 2) := by decide +kernel
theorem dL_law_1587 : decode cL_law 1587 = .ok (.iload 37, 2) := by decide +kernel
theorem dL_law_1589 : decode cL_law 1589 = .ok (.invokestatic 179, 3) := by decide +kernel
theorem dL_law_1592 : decode cL_law 1592 = .ok (.i2l, 1) := by decide +kernel
theorem dL_law_1593 : decode cL_law 1593 = .ok (.iload 38, 2) := by decide +kernel
theorem dL_law_1595 : decode cL_law 1595 = .ok (.ifCond .eq 8, 3) := by decide +kernel
theorem dL_law_1598 : decode cL_law 1598 = .ok (.lload 39, 2) := by decide +kernel
theorem dL_law_1600 : decode cL_law 1600 = .ok (.goto 6, 3) := by decide +kernel
theorem dL_law_1603 : decode cL_law 1603 = .ok (.ldc2_w 182, 3) := by decide +kernel
theorem dL_law_1606 : decode cL_law 1606 = .ok (.lcmp, 1) := by decide +kernel
theorem dL_law_1607 : decode cL_law 1607 = .ok (.ifCond .ne 7, 3) := by decide +kernel
theorem dL_law_1610 : decode cL_law 1610 = .ok (.iconst 1, 1) := by decide +kernel
theorem dL_law_1611 : decode cL_law 1611 = .ok (.goto 4, 3) := by decide +kernel
theorem dL_law_1614 : decode cL_law 1614 = .ok (.iconst 0, 1) := by decide +kernel
theorem dL_law_1615 : decode cL_law 1615 = .ok (.istore 17, 2) := by decide +kernel
theorem dL_law_1617 : decode cL_law 1617 = .ok (.iconst 0, 1) := by decide +kernel
theorem dL_law_1618 : decode cL_law 1618 = .ok (.istore 41, 2) := by decide +kernel
theorem dL_law_1620 : decode cL_law 1620 = .ok (.iload 41, 2) := by decide +kernel
theorem dL_law_1622 : decode cL_law 1622 = .ok (.iload 37, 2) := by decide +kernel
theorem dL_law_1624 : decode cL_law 1624 = .ok (.if_icmp .ge 26, 3) := by decide +kernel
theorem dL_law_1627 : decode cL_law 1627 = .ok (.iload 38, 2) := by decide +kernel
theorem dL_law_1629 : decode cL_law 1629 = .ok (.ifCond .eq 21, 3) := by decide +kernel
theorem dL_law_1632 : decode cL_law 1632 = .ok (.iload 13, 2) := by decide +kernel
theorem dL_law_1634 : decode cL_law 1634 = .ok (.iload 12, 2) := by decide +kernel
theorem dL_law_1636 : decode cL_law 1636 = .ok (.lload 39, 2) := by decide +kernel
theorem dL_law_1638 : decode cL_law 1638 = .ok (.aload_n 3, 1) := by decide +kernel
theorem dL_law_1639 : decode cL_law 1639 = .ok (.aload 8, 2) := by decide +kernel
theorem dL_law_1641 : decode cL_law 1641 = .ok (.invokestatic 184, 3) := by decide +kernel
theorem dL_law_1644 : decode cL_law 1644 = .ok (.iinc 41 1, 3) := by decide +kernel
theorem dL_law_1647 : decode cL_law 1647 = .ok (.goto (-27), 3) := by decide +kernel
theorem dL_law_1650 : decode cL_law 1650 = .ok (.iconst 4, 1) := by decide +kernel
theorem dL_law_1651 : decode cL_law 1651 = .ok (.istore 18, 2) := by decide +kernel
theorem dL_law_1653 : decode cL_law 1653 = .ok (.goto 386, 3) := by decide +kernel
theorem dL_law_1656 : decode cL_law 1656 = .ok (.aload 6, 2) := by decide +kernel
theorem dL_law_1658 : decode cL_law 1658 = .ok (.bipush 7, 2) := by decide +kernel
theorem dL_law_1660 : decode cL_law 1660 = .ok (.iaload, 1) := by decide +kernel
theorem dL_law_1661 : decode cL_law 1661 = .ok (.ifCond .eq 378, 3) := by decide +kernel
theorem dL_law_1664 : decode cL_law 1664 = .ok (.iload 13, 2) := by decide +kernel
theorem dL_law_1666 : decode cL_law 1666 = .ok (.bipush 6, 2) := by decide +kernel
theorem dL_law_1668 : decode cL_law 1668 = .ok (.if_icmp .ne 6, 3) := by decide +kernel
theorem dL_law_1671 : decode cL_law 1671 = .ok (.goto 368, 3) := by decide +kernel
theorem dL_law_1674 : decode cL_law 1674 = .ok (.iload 11, 2) := by decide +kernel
theorem dL_law_1676 : decode cL_law 1676 = .ok (.iconst 3, 1) := by decide +kernel
theorem dL_law_1677 : decode cL_law 1677 = .ok (.iand, 1) := by decide +kernel
theorem dL_law_1678 : decode cL_law 1678 = .ok (.ifCond .le 7, 3) := by decide +kernel
theorem dL_law_1681 : decode cL_law 1681 = .ok (.iconst 1, 1) := by decide +kernel
theorem dL_law_1682 : decode cL_law 1682 = .ok (.goto 4, 3) := by decide +kernel
theorem dL_law_1685 : decode cL_law 1685 = .ok (.iconst 0, 1) := by decide +kernel
theorem dL_law_1686 : decode cL_law 1686 = .ok (.istore 41, 2) := by decide +kernel
theorem dL_law_1688 : decode cL_law 1688 = .ok (.aload_n 1, 1) := by decide +kernel
theorem dL_law_1689 : decode cL_law 1689 = .ok (.iload 13, 2) := by decide +kernel
theorem dL_law_1691 : decode cL_law 1691 = .ok (.iload 12, 2) := by decide +kernel
theorem dL_law_1693 : decode cL_law 1693 = .ok (.iload 41, 2) := by decide +kernel
theorem dL_law_1695 : decode cL_law 1695 = .ok (.invokestatic 188, 3) := by decide +kernel
theorem dL_law_1698 : decode cL_law 1698 = .ok (.iload 16, 2) := by decide +kernel
theorem dL_law_1700 : decode cL_law 1700 = .ok (.ifCond .eq 8, 3) := by decide +kernel
theorem dL_law_1703 : decode cL_law 1703 = .ok (.ldc 33, 2) := by decide +kernel
theorem dL_law_1705 : decode cL_law 1705 = .ok (.goto 31, 3) := by decide +kernel
theorem dL_law_1708 : decode cL_law 1708 = .ok (.aload 4, 2) := by decide +kernel
theorem dL_law_1710 : decode cL_law 1710 = .ok (.iload 12, 2) := by decide +kernel
theorem dL_law_1712 : decode cL_law 1712 = .ok (.iaload, 1) := by decide +kernel
theorem dL_law_1713 : decode cL_law 1713 = .ok (.iload 13, 2) := by decide +kernel
theorem dL_law_1715 : decode cL_law 1715 = .ok (.ishr, 1) := by decide +kernel
theorem dL_law_1716 : decode cL_law 1716 = .ok (.iconst 1, 1) := by decide +kernel
theorem dL_law_1717 : decode cL_law 1717 = .ok (.iand, 1) := by decide +kernel
theorem dL_law_1718 : decode cL_law 1718 = .ok (.iload 41, 2) := by decide +kernel
theorem dL_law_1720 : decode cL_law 1720 = .ok (.ifCond .eq 7, 3) := by decide +kernel
theorem dL_law_1723 : decode cL_law 1723 = .ok (.iconst 1, 1) := by decide +kernel
theorem dL_law_1724 : decode cL_law 1724 = .ok (.goto 4, 3) := by decide +kernel
theorem dL_law_1727 : decode cL_law 1727 = .ok (.iconst 0, 1) := by decide +kernel
theorem dL_law_1728 : decode cL_law 1728 = .ok (.if_icmp .ne 7, 3) := by decide +kernel
theorem dL_law_1731 : decode cL_law 1731 = .ok (.iconst 0, 1) := by decide +kernel
theorem dL_law_1732 : decode cL_law 1732 = .ok (.goto 4, 3) := by decide +kernel
theorem dL_law_1735 : decode cL_law 1735 = .ok (.iconst 1, 1) := by decide +kernel
theorem dL_law_1736 : decode cL_law 1736 = .ok (.if_icmp .ne 7, 3) := by decide +kernel
theorem dL_law_1739 : decode cL_law 1739 = .ok (.iconst 1, 1) := by decide +kernel
theorem dL_law_1740 : decode cL_law 1740 = .ok (.goto 4, 3) := by decide +kernel
theorem dL_law_1743 : decode cL_law 1743 = .ok (.iconst 0, 1) := by decide +kernel
theorem dL_law_1744 : decode cL_law 1744 = .ok (.istore 17, 2) := by decide +kernel
theorem dL_law_1746 : decode cL_law 1746 = .ok (.aload 4, 2) := by decide +kernel
theorem dL_law_1748 : decode cL_law 1748 = .ok (.iload 12, 2) := by decide +kernel
theorem dL_law_1750 : decode cL_law 1750 = .ok (.iload 41, 2) := by decide +kernel
theorem dL_law_1752 : decode cL_law 1752 = .ok (.ifCond .eq 16, 3) := by decide +kernel
theorem dL_law_1755 : decode cL_law 1755 = .ok (.aload 4, 2) := by decide +kernel
theorem dL_law_1757 : decode cL_law 1757 = .ok (.iload 12, 2) := by decide +kernel
theorem dL_law_1759 : decode cL_law 1759 = .ok (.iaload, 1) := by decide +kernel
theorem dL_law_1760 : decode cL_law 1760 = .ok (.iconst 1, 1) := by decide +kernel
theorem dL_law_1761 : decode cL_law 1761 = .ok (.iload 13, 2) := by decide +kernel
theorem dL_law_1763 : decode cL_law 1763 = .ok (.ishl, 1) := by decide +kernel
theorem dL_law_1764 : decode cL_law 1764 = .ok (.ior, 1) := by decide +kernel
theorem dL_law_1765 : decode cL_law 1765 = .ok (.goto 15, 3) := by decide +kernel
theorem dL_law_1768 : decode cL_law 1768 = .ok (.aload 4, 2) := by decide +kernel
theorem dL_law_1770 : decode cL_law 1770 = .ok (.iload 12, 2) := by decide +kernel
theorem dL_law_1772 : decode cL_law 1772 = .ok (.iaload, 1) := by decide +kernel
theorem dL_law_1773 : decode cL_law 1773 = .ok (.iconst 1, 1) := by decide +kernel
theorem dL_law_1774 : decode cL_law 1774 = .ok (.iload 13, 2) := by decide +kernel
theorem dL_law_1776 : decode cL_law 1776 = .ok (.ishl, 1) := by decide +kernel
theorem dL_law_1777 : decode cL_law 1777 = .ok (.iconst (-1), 1) := by decide +kernel
theorem dL_law_1778 : decode cL_law 1778 = .ok (.ixor, 1) := by decide +kernel
theorem dL_law_1779 : decode cL_law 1779 = .ok (.iand, 1) := by decide +kernel
theorem dL_law_1780 : decode cL_law 1780 = .ok (.iastore, 1) := by decide +kernel
theorem dL_law_1781 : decode cL_law 1781 = .ok (.goto 258, 3) := by decide +kernel
theorem dL_law_1784 : decode cL_law 1784 = .ok (.aload 6, 2) := by decide +kernel
theorem dL_law_1786 : decode cL_law 1786 = .ok (.iconst 0, 1) := by decide +kernel
theorem dL_law_1787 : decode cL_law 1787 = .ok (.iaload, 1) := by decide +kernel
theorem dL_law_1788 : decode cL_law 1788 = .ok (.bipush 45, 2) := by decide +kernel
theorem dL_law_1790 : decode cL_law 1790 = .ok (.if_icmp .le 6, 3) := by decide +kernel
theorem dL_law_1793 : decode cL_law 1793 = .ok (.goto 246, 3) := by decide +kernel
theorem dL_law_1796 : decode cL_law 1796 = .ok (.iconst 0, 1) := by decide +kernel
theorem dL_law_1797 : decode cL_law 1797 = .ok (.istore 42, 2) := by decide +kernel
theorem dL_law_1799 : decode cL_law 1799 = .ok (.iload 42, 2) := by decide +kernel
theorem dL_law_1801 : decode cL_law 1801 = .ok (.aload 6, 2) := by decide +kernel
theorem dL_law_1803 : decode cL_law 1803 = .ok (.bipush 7, 2) := by decide +kernel
theorem dL_law_1805 : decode cL_law 1805 = .ok (.iaload, 1) := by decide +kernel
theorem dL_law_1806 : decode cL_law 1806 = .ok (.if_icmp .ge 170, 3) := by decide +kernel
theorem dL_law_1809 : decode cL_law 1809 = .ok (.aload_n 2, 1) := by decide +kernel
theorem dL_law_1810 : decode cL_law 1810 = .ok (.bipush 18, 2) := by decide +kernel
theorem dL_law_1812 : decode cL_law 1812 = .ok (.iload 42, 2) := by decide +kernel
theorem dL_law_1814 : decode cL_law 1814 = .ok (.iadd, 1) := by decide +kernel
theorem dL_law_1815 : decode cL_law 1815 = .ok (.iaload, 1) := by decide +kernel
theorem dL_law_1816 : decode cL_law 1816 = .ok (.iconst 1, 1) := by decide +kernel
theorem dL_law_1817 : decode cL_law 1817 = .ok (.if_icmp .gt 153, 3) := by decide +kernel
theorem dL_law_1820 : decode cL_law 1820 = .ok (.aload_n 2, 1) := by decide +kernel
theorem dL_law_1821 : decode cL_law 1821 = .ok (.bipush 12, 2) := by decide +kernel
theorem dL_law_1823 : decode cL_law 1823 = .ok (.iload 42, 2) := by decide +kernel
theorem dL_law_1825 : decode cL_law 1825 = .ok (.iadd, 1) := by decide +kernel
theorem dL_law_1826 : decode cL_law 1826 = .ok (.iaload, 1) := by decide +kernel
theorem dL_law_1827 : decode cL_law 1827 = .ok (.aload 6, 2) := by decide +kernel
theorem dL_law_1829 : decode cL_law 1829 = .ok (.iconst 0, 1) := by decide +kernel
theorem dL_law_1830 : decode cL_law 1830 = .ok (.iaload, 1) := by decide +kernel
theorem dL_law_1831 : decode cL_law 1831 = .ok (.if_icmp .eq 6, 3) := by decide +kernel
theorem dL_law_1834 : decode cL_law 1834 = .ok (.goto 136, 3) := by decide +kernel
theorem dL_law_1837 : decode cL_law 1837 = .ok (.iload 42, 2) := by decide +kernel
theorem dL_law_1839 : decode cL_law 1839 = .ok (.aload 6, 2) := by decide +kernel
theorem dL_law_1841 : decode cL_law 1841 = .ok (.iconst 1, 1) := by decide +kernel
theorem dL_law_1842 : decode cL_law 1842 = .ok (.iaload, 1) := by decide +kernel
theorem dL_law_1843 : decode cL_law 1843 = .ok (.i2l, 1) := by decide +kernel
theorem dL_law_1844 : decode cL_law 1844 = .ok (.aload_n 2, 1) := by decide +kernel
theorem dL_law_1845 : decode cL_law 1845 = .ok (.invokestatic 100, 3) := by decide +kernel
theorem dL_law_1848 : decode cL_law 1848 = .ok (.lstore 43, 2) := by decide +kernel
theorem dL_law_1850 : decode cL_law 1850 = .ok (.iconst 0, 1) := by decide +kernel
theorem dL_law_1851 : decode cL_law 1851 = .ok (.istore 45, 2) := by decide +kernel
theorem dL_law_1853 : decode cL_law 1853 = .ok (.iload 45, 2) := by decide +kernel
theorem dL_law_1855 : decode cL_law 1855 = .ok (.bipush 7, 2) := by decide +kernel
theorem dL_law_1857 : decode cL_law 1857 = .ok (.if_icmp .ge 57, 3) := by decide +kernel
theorem dL_law_1860 : decode cL_law 1860 = .ok (.lload 43, 2) := by decide +kernel
theorem dL_law_1862 : decode cL_law 1862 = .ok (.lconst 0, 1) := by decide +kernel
theorem dL_law_1863 : decode cL_law 1863 = .ok (.lcmp, 1) := by decide +kernel
theorem dL_law_1864 : decode cL_law 1864 = .ok (.ifCond .le 44, 3) := by decide +kernel
theorem dL_law_1867 : decode cL_law 1867 = .ok (.aload 4, 2) := by decide +kernel
theorem dL_law_1869 : decode cL_law 1869 = .ok (.iload 42, 2) := by decide +kernel
theorem dL_law_1871 : decode cL_law 1871 = .ok (.iaload, 1) := by decide +kernel
theorem dL_law_1872 : decode cL_law 1872 = .ok (.iload 45, 2) := by decide +kernel
theorem dL_law_1874 : decode cL_law 1874 = .ok (.ishr, 1) := by decide +kernel
theorem dL_law_1875 : decode cL_law 1875 = .ok (.iconst 1, 1) := by decide +kernel
theorem dL_law_1876 : decode cL_law 1876 = .ok (.iand, 1) := by decide +kernel
theorem dL_law_1877 : decode cL_law 1877 = .ok (.ifCond .ne 31, 3) := by decide +kernel
theorem dL_law_1880 : decode cL_law 1880 = .ok (.aload_n 3, 1) := by decide +kernel
theorem dL_law_1881 : decode cL_law 1881 = .ok (.bipush 10, 2) := by decide +kernel
theorem dL_law_1883 : decode cL_law 1883 = .ok (.iload 42, 2) := by decide +kernel
theorem dL_law_1885 : decode cL_law 1885 = .ok (.imul, 1) := by decide +kernel
theorem dL_law_1886 : decode cL_law 1886 = .ok (.iload 45, 2) := by decide +kernel
theorem dL_law_1888 : decode cL_law 1888 = .ok (.iadd, 1) := by decide +kernel
theorem dL_law_1889 : decode cL_law 1889 = .ok (.iaload, 1) := by decide +kernel
theorem dL_law_1890 : decode cL_law 1890 = .ok (.ifCond .le 18, 3) := by decide +kernel
theorem dL_law_1893 : decode cL_law 1893 = .ok (.iload 45, 2) := by decide +kernel
theorem dL_law_1895 : decode cL_law 1895 = .ok (.iload 42, 2) := by decide +kernel
theorem dL_law_1897 : decode cL_law 1897 = .ok (.lload 43, 2) := by decide +kernel
theorem dL_law_1899 : decode cL_law 1899 = .ok (.aload_n 3, 1) := by decide +kernel
theorem dL_law_1900 : decode cL_law 1900 = .ok (.aload 8, 2) := by decide +kernel
theorem dL_law_1902 : decode cL_law 1902 = .ok (.invokestatic 184, 3) := by decide +kernel
theorem dL_law_1905 : decode cL_law 1905 = .ok (.goto (-25), 3) := by decide +kernel
theorem dL_law_1908 : decode cL_law 1908 = .ok (.iinc 45 1, 3) := by decide +kernel
theorem dL_law_1911 : decode cL_law 1911 = .ok (.goto (-58), 3) := by decide +kernel
theorem dL_law_1914 : decode cL_law 1914 = .ok (.iconst 0, 1) := by decide +kernel
theorem dL_law_1915 : decode cL_law 1915 = .ok (.istore 45, 2) := by decide +kernel
theorem dL_law_1917 : decode cL_law 1917 = .ok (.iload 45, 2) := by decide +kernel
theorem dL_law_1919 : decode cL_law 1919 = .ok (.bipush 7, 2) := by decide +kernel
theorem dL_law_1921 : decode cL_law 1921 = .ok (.if_icmp .ge 20, 3) := by decide +kernel
theorem dL_law_1924 : decode cL_law 1924 = .ok (.aload_n 3, 1) := by decide +kernel
theorem dL_law_1925 : decode cL_law 1925 = .ok (.bipush 10, 2) := by decide +kernel
theorem dL_law_1927 : decode cL_law 1927 = .ok (.iload 42, 2) := by decide +kernel
theorem dL_law_1929 : decode cL_law 1929 = .ok (.imul, 1) := by decide +kernel
theorem dL_law_1930 : decode cL_law 1930 = .ok (.iload 45, 2) := by decide +kernel
theorem dL_law_1932 : decode cL_law 1932 = .ok (.iadd, 1) := by decide +kernel
theorem dL_law_1933 : decode cL_law 1933 = .ok (.iconst 0, 1) := by decide +kernel
theorem dL_law_1934 : decode cL_law 1934 = .ok (.iastore, 1) := by decide +kernel
theorem dL_law_1935 : decode cL_law 1935 = .ok (.iinc 45 1, 3) := by decide +kernel
theorem dL_law_1938 : decode cL_law 1938 = .ok (.goto (-21), 3) := by decide +kernel
theorem dL_law_1941 : decode cL_law 1941 = .ok (.aload_n 2, 1) := by decide +kernel
theorem dL_law_1942 : decode cL_law 1942 = .ok (.bipush 18, 2) := by decide +kernel
theorem dL_law_1944 : decode cL_law 1944 = .ok (.iload 42, 2) := by decide +kernel
theorem dL_law_1946 : decode cL_law 1946 = .ok (.iadd, 1) := by decide +kernel
theorem dL_law_1947 : decode cL_law 1947 = .ok (.dup2, 1) := by decide +kernel
theorem dL_law_1948 : decode cL_law 1948 = .ok (.iaload, 1) := by decide +kernel
theorem dL_law_1949 : decode cL_law 1949 = .ok (.iconst 2, 1) := by decide +kernel
theorem dL_law_1950 : decode cL_law 1950 = .ok (.ior, 1) := by decide +kernel
theorem dL_law_1951 : decode cL_law 1951 = .ok (.iastore, 1) := by decide +kernel
theorem dL_law_1952 : decode cL_law 1952 = .ok (.aload 5, 2) := by decide +kernel
theorem dL_law_1954 : decode cL_law 1954 = .ok (.bipush 12, 2) := by decide +kernel
theorem dL_law_1956 : decode cL_law 1956 = .ok (.iload 42, 2) := by decide +kernel
theorem dL_law_1958 : decode cL_law 1958 = .ok (.iadd, 1) := by decide +kernel
theorem dL_law_1959 : decode cL_law 1959 = .ok (.iconst 0, 1) := by decide +kernel
theorem dL_law_1960 : decode cL_law 1960 = .ok (.iastore, 1) := by decide +kernel
theorem dL_law_1961 : decode cL_law 1961 = .ok (.aload 5, 2) := by decide +kernel
theorem dL_law_1963 : decode cL_law 1963 = .ok (.bipush 18, 2) := by decide +kernel
theorem dL_law_1965 : decode cL_law 1965 = .ok (.iload 42, 2) := by decide +kernel
theorem dL_law_1967 : decode cL_law 1967 = .ok (.iadd, 1) := by decide +kernel
theorem dL_law_1968 : decode cL_law 1968 = .ok (.iconst 0, 1) := by decide +kernel
theorem dL_law_1969 : decode cL_law 1969 = .ok (.iastore, 1) := by decide +kernel
theorem dL_law_1970 : decode cL_law 1970 = .ok (.iinc 42 1, 3) := by decide +kernel
theorem dL_law_1973 : decode cL_law 1973 = .ok (.goto (-174), 3) := by decide +kernel
theorem dL_law_1976 : decode cL_law 1976 = .ok (.aload 6, 2) := by decide +kernel
theorem dL_law_1978 : decode cL_law 1978 = .ok (.iconst 1, 1) := by decide +kernel
theorem dL_law_1979 : decode cL_law 1979 = .ok (.iaload, 1) := by decide +kernel
theorem dL_law_1980 : decode cL_law 1980 = .ok (.aload_n 2, 1) := by decide +kernel
theorem dL_law_1981 : decode cL_law 1981 = .ok (.aload_n 3, 1) := by decide +kernel
theorem dL_law_1982 : decode cL_law 1982 = .ok (.aload 6, 2) := by decide +kernel
theorem dL_law_1984 : decode cL_law 1984 = .ok (.aload 7, 2) := by decide +kernel
theorem dL_law_1986 : decode cL_law 1986 = .ok (.aload 8, 2) := by decide +kernel
theorem dL_law_1988 : decode cL_law 1988 = .ok (.invokestatic 143, 3) := by decide +kernel
theorem dL_law_1991 : decode cL_law 1991 = .ok (.lstore 42, 2) := by decide +kernel
theorem dL_law_1993 : decode cL_law 1993 = .ok (.aload 8, 2) := by decide +kernel
theorem dL_law_1995 : decode cL_law 1995 = .ok (.bipush 12, 2) := by decide +kernel
theorem dL_law_1997 : decode cL_law 1997 = .ok (.dup2, 1) := by decide +kernel
theorem dL_law_1998 : decode cL_law 1998 = .ok (.laload, 1) := by decide +kernel
theorem dL_law_1999 : decode cL_law 1999 = .ok (.lload 42, 2) := by decide +kernel
theorem dL_law_2001 : decode cL_law 2001 = .ok (.lload 14, 2) := by decide +kernel
theorem dL_law_2003 : decode cL_law 2003 = .ok (.lsub, 1) := by decide +kernel
theorem dL_law_2004 : decode cL_law 2004 = .ok (.ladd, 1) := by decide +kernel
theorem dL_law_2005 : decode cL_law 2005 = .ok (.lastore, 1) := by decide +kernel
theorem dL_law_2006 : decode cL_law 2006 = .ok (.lload 42, 2) := by decide +kernel
theorem dL_law_2008 : decode cL_law 2008 = .ok (.lstore 14, 2) := by decide +kernel
theorem dL_law_2010 : decode cL_law 2010 = .ok (.aload 6, 2) := by decide +kernel
theorem dL_law_2012 : decode cL_law 2012 = .ok (.iconst 0, 1) := by decide +kernel
theorem dL_law_2013 : decode cL_law 2013 = .ok (.dup2, 1) := by decide +kernel
theorem dL_law_2014 : decode cL_law 2014 = .ok (.iaload, 1) := by decide +kernel
theorem dL_law_2015 : decode cL_law 2015 = .ok (.iconst 1, 1) := by decide +kernel
theorem dL_law_2016 : decode cL_law 2016 = .ok (.iadd, 1) := by decide +kernel
theorem dL_law_2017 : decode cL_law 2017 = .ok (.iastore, 1) := by decide +kernel
theorem dL_law_2018 : decode cL_law 2018 = .ok (.aload_n 1, 1) := by decide +kernel
theorem dL_law_2019 : decode cL_law 2019 = .ok (.invokestatic 191, 3) := by decide +kernel
theorem dL_law_2022 : decode cL_law 2022 = .ok (.aload 6, 2) := by decide +kernel
theorem dL_law_2024 : decode cL_law 2024 = .ok (.iconst 0, 1) := by decide +kernel
theorem dL_law_2025 : decode cL_law 2025 = .ok (.iaload, 1) := by decide +kernel
theorem dL_law_2026 : decode cL_law 2026 = .ok (.if_icmp .ne 7, 3) := by decide +kernel
theorem dL_law_2029 : decode cL_law 2029 = .ok (.iconst 1, 1) := by decide +kernel
theorem dL_law_2030 : decode cL_law 2030 = .ok (.goto 4, 3) := by decide +kernel
theorem dL_law_2033 : decode cL_law 2033 = .ok (.iconst 0, 1) := by decide +kernel
theorem dL_law_2034 : decode cL_law 2034 = .ok (.istore 17, 2) := by decide +kernel
theorem dL_law_2036 : decode cL_law 2036 = .ok (.iconst 2, 1) := by decide +kernel
theorem dL_law_2037 : decode cL_law 2037 = .ok (.istore 18, 2) := by decide +kernel
theorem dL_law_2039 : decode cL_law 2039 = .ok (.iload 18, 2) := by decide +kernel
theorem dL_law_2041 : decode cL_law 2041 = .ok (.iconst (-1), 1) := by decide +kernel
theorem dL_law_2042 : decode cL_law 2042 = .ok (.if_icmp .eq 32, 3) := by decide +kernel
theorem dL_law_2045 : decode cL_law 2045 = .ok (.aload 8, 2) := by decide +kernel
theorem dL_law_2047 : decode cL_law 2047 = .ok (.bipush 8, 2) := by decide +kernel
theorem dL_law_2049 : decode cL_law 2049 = .ok (.iload 18, 2) := by decide +kernel
theorem dL_law_2051 : decode cL_law 2051 = .ok (.iadd, 1) := by decide +kernel
theorem dL_law_2052 : decode cL_law 2052 = .ok (.dup2, 1) := by decide +kernel
theorem dL_law_2053 : decode cL_law 2053 = .ok (.laload, 1) := by decide +kernel
theorem dL_law_2054 : decode cL_law 2054 = .ok (.aload 6, 2) := by decide +kernel
theorem dL_law_2056 : decode cL_law 2056 = .ok (.iconst 1, 1) := by decide +kernel
theorem dL_law_2057 : decode cL_law 2057 = .ok (.iaload, 1) := by decide +kernel
theorem dL_law_2058 : decode cL_law 2058 = .ok (.aload_n 2, 1) := by decide +kernel
theorem dL_law_2059 : decode cL_law 2059 = .ok (.aload_n 3, 1) := by decide +kernel
theorem dL_law_2060 : decode cL_law 2060 = .ok (.aload 6, 2) := by decide +kernel
theorem dL_law_2062 : decode cL_law 2062 = .ok (.aload 7, 2) := by decide +kernel
theorem dL_law_2064 : decode cL_law 2064 = .ok (.aload 8, 2) := by decide +kernel
theorem dL_law_2066 : decode cL_law 2066 = .ok (.invokestatic 143, 3) := by decide +kernel
theorem dL_law_2069 : decode cL_law 2069 = .ok (.lload 14, 2) := by decide +kernel
theorem dL_law_2071 : decode cL_law 2071 = .ok (.lsub, 1) := by decide +kernel
theorem dL_law_2072 : decode cL_law 2072 = .ok (.ladd, 1) := by decide +kernel
theorem dL_law_2073 : decode cL_law 2073 = .ok (.lastore, 1) := by decide +kernel
theorem dL_law_2074 : decode cL_law 2074 = .ok (.iload 17, 2) := by decide +kernel
theorem dL_law_2076 : decode cL_law 2076 = .ok (.ifCond .eq 22, 3) := by decide +kernel
theorem dL_law_2079 : decode cL_law 2079 = .ok (.aload_n 1, 1) := by decide +kernel
theorem dL_law_2080 : decode cL_law 2080 = .ok (.iload 9, 2) := by decide +kernel
theorem dL_law_2082 : decode cL_law 2082 = .ok (.aload_n 2, 1) := by decide +kernel
theorem dL_law_2083 : decode cL_law 2083 = .ok (.aload_n 3, 1) := by decide +kernel
theorem dL_law_2084 : decode cL_law 2084 = .ok (.aload 5, 2) := by decide +kernel
theorem dL_law_2086 : decode cL_law 2086 = .ok (.aload 6, 2) := by decide +kernel
theorem dL_law_2088 : decode cL_law 2088 = .ok (.aload 7, 2) := by decide +kernel
theorem dL_law_2090 : decode cL_law 2090 = .ok (.aload 8, 2) := by decide +kernel
theorem dL_law_2092 : decode cL_law 2092 = .ok (.invokestatic 194, 3) := by decide +kernel
theorem dL_law_2095 : decode cL_law 2095 = .ok (.ifCond .ne 5, 3) := by decide +kernel
theorem dL_law_2098 : decode cL_law 2098 = .ok (.iconst 0, 1) := by decide +kernel
theorem dL_law_2099 : decode cL_law 2099 = .ok (.ireturn, 1) := by decide +kernel
theorem dL_law_2100 : decode cL_law 2100 = .ok (.iload 9, 2) := by decide +kernel
theorem dL_law_2102 : decode cL_law 2102 = .ok (.bipush 8, 2) := by decide +kernel
theorem dL_law_2104 : decode cL_law 2104 = .ok (.irem, 1) := by decide +kernel
theorem dL_law_2105 : decode cL_law 2105 = .ok (.bipush 7, 2) := by decide +kernel
theorem dL_law_2107 : decode cL_law 2107 = .ok (.if_icmp .eq 6, 3) := by decide +kernel
theorem dL_law_2110 : decode cL_law 2110 = .ok (.goto 127, 3) := by decide +kernel
theorem dL_law_2113 : decode cL_law 2113 = .ok (.iload 11, 2) := by decide +kernel
theorem dL_law_2115 : decode cL_law 2115 = .ok (.iconst 3, 1) := by decide +kernel
theorem dL_law_2116 : decode cL_law 2116 = .ok (.ishr, 1) := by decide +kernel
theorem dL_law_2117 : decode cL_law 2117 = .ok (.bipush 8, 2) := by decide +kernel
theorem dL_law_2119 : decode cL_law 2119 = .ok (.invokestatic 158, 3) := by decide +kernel
theorem dL_law_2122 : decode cL_law 2122 = .ok (.istore 19, 2) := by decide +kernel
theorem dL_law_2124 : decode cL_law 2124 = .ok (.aload 6, 2) := by decide +kernel
theorem dL_law_2126 : decode cL_law 2126 = .ok (.iconst 1, 1) := by decide +kernel
theorem dL_law_2127 : decode cL_law 2127 = .ok (.iaload, 1) := by decide +kernel
theorem dL_law_2128 : decode cL_law 2128 = .ok (.aload_n 2, 1) := by decide +kernel
theorem dL_law_2129 : decode cL_law 2129 = .ok (.aload_n 3, 1) := by decide +kernel
theorem dL_law_2130 : decode cL_law 2130 = .ok (.aload 6, 2) := by decide +kernel
theorem dL_law_2132 : decode cL_law 2132 = .ok (.aload 7, 2) := by decide +kernel
theorem dL_law_2134 : decode cL_law 2134 = .ok (.aload 8, 2) := by decide +kernel
theorem dL_law_2136 : decode cL_law 2136 = .ok (.invokestatic 143, 3) := by decide +kernel
theorem dL_law_2139 : decode cL_law 2139 = .ok (.lstore 20, 2) := by decide +kernel
theorem dL_law_2141 : decode cL_law 2141 = .ok (.lconst 0, 1) := by decide +kernel
theorem dL_law_2142 : decode cL_law 2142 = .ok (.lstore 22, 2) := by decide +kernel
theorem dL_law_2144 : decode cL_law 2144 = .ok (.iload 19, 2) := by decide +kernel
theorem dL_law_2146 : decode cL_law 2146 = .ok (.ineg, 1) := by decide +kernel
theorem dL_law_2147 : decode cL_law 2147 = .ok (.istore 24, 2) := by decide +kernel
theorem dL_law_2149 : decode cL_law 2149 = .ok (.iload 24, 2) := by decide +kernel
theorem dL_law_2151 : decode cL_law 2151 = .ok (.iload 19, 2) := by decide +kernel
theorem dL_law_2153 : decode cL_law 2153 = .ok (.if_icmp .gt 70, 3) := by decide +kernel
theorem dL_law_2156 : decode cL_law 2156 = .ok (.lload 20, 2) := by decide +kernel
theorem dL_law_2158 : decode cL_law 2158 = .ok (.aload 6, 2) := by decide +kernel
theorem dL_law_2160 : decode cL_law 2160 = .ok (.iconst 1, 1) := by decide +kernel
theorem dL_law_2161 : decode cL_law 2161 = .ok (.iaload, 1) := by decide +kernel
theorem dL_law_2162 : decode cL_law 2162 = .ok (.bipush 10, 2) := by decide +kernel
theorem dL_law_2164 : decode cL_law 2164 = .ok (.iload 24, 2) := by decide +kernel
theorem dL_law_2166 : decode cL_law 2166 = .ok (.imul, 1) := by decide +kernel
theorem dL_law_2167 : decode cL_law 2167 = .ok (.iadd, 1) := by decide +kernel
theorem dL_law_2168 : decode cL_law 2168 = .ok (.aload_n 2, 1) := by decide +kernel
theorem dL_law_2169 : decode cL_law 2169 = .ok (.aload_n 3, 1) := by decide +kernel
theorem dL_law_2170 : decode cL_law 2170 = .ok (.aload 6, 2) := by decide +kernel
theorem dL_law_2172 : decode cL_law 2172 = .ok (.aload 7, 2) := by decide +kernel
theorem dL_law_2174 : decode cL_law 2174 = .ok (.aload 8, 2) := by decide +kernel
theorem dL_law_2176 : decode cL_law 2176 = .ok (.invokestatic 143, 3) := by decide +kernel
theorem dL_law_2179 : decode cL_law 2179 = .ok (.lsub, 1) := by decide +kernel
theorem dL_law_2180 : decode cL_law 2180 = .ok (.lload 22, 2) := by decide +kernel
theorem dL_law_2182 : decode cL_law 2182 = .ok (.lcmp, 1) := by decide +kernel
theorem dL_law_2183 : decode cL_law 2183 = .ok (.ifCond .le 30, 3) := by decide +kernel
theorem dL_law_2186 : decode cL_law 2186 = .ok (.lload 20, 2) := by decide +kernel
theorem dL_law_2188 : decode cL_law 2188 = .ok (.aload 6, 2) := by decide +kernel
theorem dL_law_2190 : decode cL_law 2190 = .ok (.iconst 1, 1) := by decide +kernel
theorem dL_law_2191 : decode cL_law 2191 = .ok (.iaload, 1) := by decide +kernel
theorem dL_law_2192 : decode cL_law 2192 = .ok (.bipush 10, 2) := by decide +kernel
theorem dL_law_2194 : decode cL_law 2194 = .ok (.iload 24, 2) := by decide +kernel
theorem dL_law_2196 : decode cL_law 2196 = .ok (.imul, 1) := by decide +kernel
theorem dL_law_2197 : decode cL_law 2197 = .ok (.iadd, 1) := by decide +kernel
theorem dL_law_2198 : decode cL_law 2198 = .ok (.aload_n 2, 1) := by decide +kernel
theorem dL_law_2199 : decode cL_law 2199 = .ok (.aload_n 3, 1) := by decide +kernel
theorem dL_law_2200 : decode cL_law 2200 = .ok (.aload 6, 2) := by decide +kernel
theorem dL_law_2202 : decode cL_law 2202 = .ok (.aload 7, 2) := by decide +kernel
theorem dL_law_2204 : decode cL_law 2204 = .ok (.aload 8, 2) := by decide +kernel
theorem dL_law_2206 : decode cL_law 2206 = .ok (.invokestatic 143, 3) := by decide +kernel
theorem dL_law_2209 : decode cL_law 2209 = .ok (.lsub, 1) := by decide +kernel
theorem dL_law_2210 : decode cL_law 2210 = .ok (.goto 5, 3) := by decide +kernel
theorem dL_law_2213 : decode cL_law 2213 = .ok (.lload 22, 2) := by decide +kernel
theorem dL_law_2215 : decode cL_law 2215 = .ok (.lstore 22, 2) := by decide +kernel
theorem dL_law_2217 : decode cL_law 2217 = .ok (.iinc 24 1, 3) := by decide +kernel
theorem dL_law_2220 : decode cL_law 2220 = .ok (.goto (-71), 3) := by decide +kernel
theorem dL_law_2223 : decode cL_law 2223 = .ok (.aload_n 1, 1) := by decide +kernel
theorem dL_law_2224 : decode cL_law 2224 = .ok (.iload 19, 2) := by decide +kernel
theorem dL_law_2226 : decode cL_law 2226 = .ok (.invokestatic 198, 3) := by decide +kernel
theorem dL_law_2229 : decode cL_law 2229 = .ok (.lload 22, 2) := by decide +kernel
theorem dL_law_2231 : decode cL_law 2231 = .ok (.lcmp, 1) := by decide +kernel
theorem dL_law_2232 : decode cL_law 2232 = .ok (.ifCond .eq 5, 3) := by decide +kernel
theorem dL_law_2235 : decode cL_law 2235 = .ok (.iconst 0, 1) := by decide +kernel
theorem dL_law_2236 : decode cL_law 2236 = .ok (.ireturn, 1) := by decide +kernel
theorem dL_law_2237 : decode cL_law 2237 = .ok (.iinc 9 1, 3) := by decide +kernel
theorem dL_law_2240 : decode cL_law 2240 = .ok (.goto (-2156), 3) := by decide +kernel
theorem dL_law_2243 : decode cL_law 2243 = .ok (.aload_n 1, 1) := by decide +kernel
theorem dL_law_2244 : decode cL_law 2244 = .ok (.iconst (-1), 1) := by decide +kernel
theorem dL_law_2245 : decode cL_law 2245 = .ok (.invokestatic 200, 3) := by decide +kernel
theorem dL_law_2248 : decode cL_law 2248 = .ok (.ldc 16, 2) := by decide +kernel
theorem dL_law_2250 : decode cL_law 2250 = .ok (.if_icmp .ne 20, 3) := by decide +kernel
theorem dL_law_2253 : decode cL_law 2253 = .ok (.aload_n 1, 1) := by decide +kernel
theorem dL_law_2254 : decode cL_law 2254 = .ok (.bipush 6, 2) := by decide +kernel
theorem dL_law_2256 : decode cL_law 2256 = .ok (.invokestatic 134, 3) := by decide +kernel
theorem dL_law_2259 : decode cL_law 2259 = .ok (.ldc2_w 71, 3) := by decide +kernel
theorem dL_law_2262 : decode cL_law 2262 = .ok (.lcmp, 1) := by decide +kernel
theorem dL_law_2263 : decode cL_law 2263 = .ok (.ifCond .ne 7, 3) := by decide +kernel
theorem dL_law_2266 : decode cL_law 2266 = .ok (.iconst 1, 1) := by decide +kernel
theorem dL_law_2267 : decode cL_law 2267 = .ok (.goto 4, 3) := by decide +kernel
theorem dL_law_2270 : decode cL_law 2270 = .ok (.iconst 0, 1) := by decide +kernel
theorem dL_law_2271 : decode cL_law 2271 = .ok (.ireturn, 1) := by decide +kernel
abbrev vwCl : List vw_C := [(RJx4a65c, TJx4a65c, 3), (RX0, TX0, 10), (RX1, TX1, 1), (RX2, TX2, 6), (RX3, TX3, 8)]
