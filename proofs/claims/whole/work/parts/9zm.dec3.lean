/-! the law's decode rows -/
theorem dL_law__1169 : decode cL_law_ 1169 = .ok (.iadd, 1) := by decide +kernel
theorem dL_law__1170 : decode cL_law_ 1170 = .ok (.iaload, 1) := by decide +kernel
theorem dL_law__1171 : decode cL_law_ 1171 = .ok (.invokevirtual 188, 3) := by decide +kernel
theorem dL_law__1174 : decode cL_law_ 1174 = .ok (.istore 6, 2) := by decide +kernel
theorem dL_law__1176 : decode cL_law_ 1176 = .ok (.aload_n 2, 1) := by decide +kernel
theorem dL_law__1177 : decode cL_law_ 1177 = .ok (.invokevirtual 142, 3) := by decide +kernel
theorem dL_law__1180 : decode cL_law_ 1180 = .ok (.iload 5, 2) := by decide +kernel
theorem dL_law__1182 : decode cL_law_ 1182 = .ok (.if_icmp .eq 5, 3) := by decide +kernel
theorem dL_law__1185 : decode cL_law_ 1185 = .ok (.iconst 0, 1) := by decide +kernel
theorem dL_law__1186 : decode cL_law_ 1186 = .ok (.ireturn, 1) := by decide +kernel
theorem dL_law__1187 : decode cL_law_ 1187 = .ok (.iload 5, 2) := by decide +kernel
theorem dL_law__1189 : decode cL_law_ 1189 = .ok (.ifCond .ne 15, 3) := by decide +kernel
theorem dL_law__1192 : decode cL_law_ 1192 = .ok (.aload_n 3, 1) := by decide +kernel
theorem dL_law__1193 : decode cL_law_ 1193 = .ok (.iconst 0, 1) := by decide +kernel
theorem dL_law__1194 : decode cL_law_ 1194 = .ok (.laload, 1) := by decide +kernel
theorem dL_law__1195 : decode cL_law_ 1195 = .ok (.iload 6, 2) := by decide +kernel
theorem dL_law__1197 : decode cL_law_ 1197 = .ok (.i2l, 1) := by decide +kernel
theorem dL_law__1198 : decode cL_law_ 1198 = .ok (.lcmp, 1) := by decide +kernel
theorem dL_law__1199 : decode cL_law_ 1199 = .ok (.ifCond .eq 5, 3) := by decide +kernel
theorem dL_law__1202 : decode cL_law_ 1202 = .ok (.iconst 0, 1) := by decide +kernel
theorem dL_law__1203 : decode cL_law_ 1203 = .ok (.ireturn, 1) := by decide +kernel
theorem dL_law__1204 : decode cL_law_ 1204 = .ok (.goto 1594, 3) := by decide +kernel
theorem dL_law__1207 : decode cL_law_ 1207 = .ok (.aload_n 1, 1) := by decide +kernel
theorem dL_law__1208 : decode cL_law_ 1208 = .ok (.aload_n 0, 1) := by decide +kernel
theorem dL_law__1209 : decode cL_law_ 1209 = .ok (.iload 4, 2) := by decide +kernel
theorem dL_law__1211 : decode cL_law_ 1211 = .ok (.iconst 1, 1) := by decide +kernel
theorem dL_law__1212 : decode cL_law_ 1212 = .ok (.iadd, 1) := by decide +kernel
theorem dL_law__1213 : decode cL_law_ 1213 = .ok (.iaload, 1) := by decide +kernel
theorem dL_law__1214 : decode cL_law_ 1214 = .ok (.aload_n 3, 1) := by decide +kernel
theorem dL_law__1215 : decode cL_law_ 1215 = .ok (.invokestatic 189, 3) := by decide +kernel
theorem dL_law__1218 : decode cL_law_ 1218 = .ok (.istore 5, 2) := by decide +kernel
theorem dL_law__1220 : decode cL_law_ 1220 = .ok (.aload_n 2, 1) := by decide +kernel
theorem dL_law__1221 : decode cL_law_ 1221 = .ok (.aload_n 0, 1) := by decide +kernel
theorem dL_law__1222 : decode cL_law_ 1222 = .ok (.iload 4, 2) := by decide +kernel
theorem dL_law__1224 : decode cL_law_ 1224 = .ok (.iconst 1, 1) := by decide +kernel
theorem dL_law__1225 : decode cL_law_ 1225 = .ok (.iadd, 1) := by decide +kernel
theorem dL_law__1226 : decode cL_law_ 1226 = .ok (.iaload, 1) := by decide +kernel
theorem dL_law__1227 : decode cL_law_ 1227 = .ok (.invokevirtual 191, 3) := by decide +kernel
theorem dL_law__1230 : decode cL_law_ 1230 = .ok (.istore 6, 2) := by decide +kernel
theorem dL_law__1232 : decode cL_law_ 1232 = .ok (.aload_n 2, 1) := by decide +kernel
theorem dL_law__1233 : decode cL_law_ 1233 = .ok (.invokevirtual 142, 3) := by decide +kernel
theorem dL_law__1236 : decode cL_law_ 1236 = .ok (.iload 5, 2) := by decide +kernel
theorem dL_law__1238 : decode cL_law_ 1238 = .ok (.if_icmp .eq 5, 3) := by decide +kernel
theorem dL_law__1241 : decode cL_law_ 1241 = .ok (.iconst 0, 1) := by decide +kernel
theorem dL_law__1242 : decode cL_law_ 1242 = .ok (.ireturn, 1) := by decide +kernel
theorem dL_law__1243 : decode cL_law_ 1243 = .ok (.iload 5, 2) := by decide +kernel
theorem dL_law__1245 : decode cL_law_ 1245 = .ok (.ifCond .ne 15, 3) := by decide +kernel
theorem dL_law__1248 : decode cL_law_ 1248 = .ok (.aload_n 3, 1) := by decide +kernel
theorem dL_law__1249 : decode cL_law_ 1249 = .ok (.iconst 0, 1) := by decide +kernel
theorem dL_law__1250 : decode cL_law_ 1250 = .ok (.laload, 1) := by decide +kernel
theorem dL_law__1251 : decode cL_law_ 1251 = .ok (.iload 6, 2) := by decide +kernel
theorem dL_law__1253 : decode cL_law_ 1253 = .ok (.i2l, 1) := by decide +kernel
theorem dL_law__1254 : decode cL_law_ 1254 = .ok (.lcmp, 1) := by decide +kernel
theorem dL_law__1255 : decode cL_law_ 1255 = .ok (.ifCond .eq 5, 3) := by decide +kernel
theorem dL_law__1258 : decode cL_law_ 1258 = .ok (.iconst 0, 1) := by decide +kernel
theorem dL_law__1259 : decode cL_law_ 1259 = .ok (.ireturn, 1) := by decide +kernel
theorem dL_law__1260 : decode cL_law_ 1260 = .ok (.goto 1538, 3) := by decide +kernel
theorem dL_law__1263 : decode cL_law_ 1263 = .ok (.aload_n 1, 1) := by decide +kernel
theorem dL_law__1264 : decode cL_law_ 1264 = .ok (.aload_n 0, 1) := by decide +kernel
theorem dL_law__1265 : decode cL_law_ 1265 = .ok (.iload 4, 2) := by decide +kernel
theorem dL_law__1267 : decode cL_law_ 1267 = .ok (.iconst 1, 1) := by decide +kernel
theorem dL_law__1268 : decode cL_law_ 1268 = .ok (.iadd, 1) := by decide +kernel
theorem dL_law__1269 : decode cL_law_ 1269 = .ok (.iaload, 1) := by decide +kernel
theorem dL_law__1270 : decode cL_law_ 1270 = .ok (.aload_n 0, 1) := by decide +kernel
theorem dL_law__1271 : decode cL_law_ 1271 = .ok (.iload 4, 2) := by decide +kernel
theorem dL_law__1273 : decode cL_law_ 1273 = .ok (.iconst 2, 1) := by decide +kernel
theorem dL_law__1274 : decode cL_law_ 1274 = .ok (.iadd, 1) := by decide +kernel
theorem dL_law__1275 : decode cL_law_ 1275 = .ok (.iaload, 1) := by decide +kernel
theorem dL_law__1276 : decode cL_law_ 1276 = .ok (.aload_n 3, 1) := by decide +kernel
theorem dL_law__1277 : decode cL_law_ 1277 = .ok (.invokestatic 192, 3) := by decide +kernel
theorem dL_law__1280 : decode cL_law_ 1280 = .ok (.istore 5, 2) := by decide +kernel
theorem dL_law__1282 : decode cL_law_ 1282 = .ok (.aload_n 2, 1) := by decide +kernel
theorem dL_law__1283 : decode cL_law_ 1283 = .ok (.aload_n 0, 1) := by decide +kernel
theorem dL_law__1284 : decode cL_law_ 1284 = .ok (.iload 4, 2) := by decide +kernel
theorem dL_law__1286 : decode cL_law_ 1286 = .ok (.iconst 1, 1) := by decide +kernel
theorem dL_law__1287 : decode cL_law_ 1287 = .ok (.iadd, 1) := by decide +kernel
theorem dL_law__1288 : decode cL_law_ 1288 = .ok (.iaload, 1) := by decide +kernel
theorem dL_law__1289 : decode cL_law_ 1289 = .ok (.aload_n 0, 1) := by decide +kernel
theorem dL_law__1290 : decode cL_law_ 1290 = .ok (.iload 4, 2) := by decide +kernel
theorem dL_law__1292 : decode cL_law_ 1292 = .ok (.iconst 2, 1) := by decide +kernel
theorem dL_law__1293 : decode cL_law_ 1293 = .ok (.iadd, 1) := by decide +kernel
theorem dL_law__1294 : decode cL_law_ 1294 = .ok (.iaload, 1) := by decide +kernel
theorem dL_law__1295 : decode cL_law_ 1295 = .ok (.invokevirtual 194, 3) := by decide +kernel
theorem dL_law__1298 : decode cL_law_ 1298 = .ok (.istore 6, 2) := by decide +kernel
theorem dL_law__1300 : decode cL_law_ 1300 = .ok (.aload_n 2, 1) := by decide +kernel
theorem dL_law__1301 : decode cL_law_ 1301 = .ok (.invokevirtual 142, 3) := by decide +kernel
theorem dL_law__1304 : decode cL_law_ 1304 = .ok (.iload 5, 2) := by decide +kernel
theorem dL_law__1306 : decode cL_law_ 1306 = .ok (.if_icmp .eq 5, 3) := by decide +kernel
theorem dL_law__1309 : decode cL_law_ 1309 = .ok (.iconst 0, 1) := by decide +kernel
theorem dL_law__1310 : decode cL_law_ 1310 = .ok (.ireturn, 1) := by decide +kernel
theorem dL_law__1311 : decode cL_law_ 1311 = .ok (.iload 5, 2) := by decide +kernel
theorem dL_law__1313 : decode cL_law_ 1313 = .ok (.ifCond .ne 15, 3) := by decide +kernel
theorem dL_law__1316 : decode cL_law_ 1316 = .ok (.aload_n 3, 1) := by decide +kernel
theorem dL_law__1317 : decode cL_law_ 1317 = .ok (.iconst 0, 1) := by decide +kernel
theorem dL_law__1318 : decode cL_law_ 1318 = .ok (.laload, 1) := by decide +kernel
theorem dL_law__1319 : decode cL_law_ 1319 = .ok (.iload 6, 2) := by decide +kernel
theorem dL_law__1321 : decode cL_law_ 1321 = .ok (.i2l, 1) := by decide +kernel
theorem dL_law__1322 : decode cL_law_ 1322 = .ok (.lcmp, 1) := by decide +kernel
theorem dL_law__1323 : decode cL_law_ 1323 = .ok (.ifCond .eq 5, 3) := by decide +kernel
theorem dL_law__1326 : decode cL_law_ 1326 = .ok (.iconst 0, 1) := by decide +kernel
theorem dL_law__1327 : decode cL_law_ 1327 = .ok (.ireturn, 1) := by decide +kernel
theorem dL_law__1328 : decode cL_law_ 1328 = .ok (.goto 1470, 3) := by decide +kernel
theorem dL_law__1331 : decode cL_law_ 1331 = .ok (.aload_n 1, 1) := by decide +kernel
theorem dL_law__1332 : decode cL_law_ 1332 = .ok (.aload_n 0, 1) := by decide +kernel
theorem dL_law__1333 : decode cL_law_ 1333 = .ok (.iload 4, 2) := by decide +kernel
theorem dL_law__1335 : decode cL_law_ 1335 = .ok (.iconst 1, 1) := by decide +kernel
theorem dL_law__1336 : decode cL_law_ 1336 = .ok (.iadd, 1) := by decide +kernel
theorem dL_law__1337 : decode cL_law_ 1337 = .ok (.iaload, 1) := by decide +kernel
theorem dL_law__1338 : decode cL_law_ 1338 = .ok (.aload_n 0, 1) := by decide +kernel
theorem dL_law__1339 : decode cL_law_ 1339 = .ok (.iload 4, 2) := by decide +kernel
theorem dL_law__1341 : decode cL_law_ 1341 = .ok (.iconst 2, 1) := by decide +kernel
theorem dL_law__1342 : decode cL_law_ 1342 = .ok (.iadd, 1) := by decide +kernel
theorem dL_law__1343 : decode cL_law_ 1343 = .ok (.iaload, 1) := by decide +kernel
theorem dL_law__1344 : decode cL_law_ 1344 = .ok (.ifCond .eq 7, 3) := by decide +kernel
theorem dL_law__1347 : decode cL_law_ 1347 = .ok (.iconst 1, 1) := by decide +kernel
theorem dL_law__1348 : decode cL_law_ 1348 = .ok (.goto 4, 3) := by decide +kernel
theorem dL_law__1351 : decode cL_law_ 1351 = .ok (.iconst 0, 1) := by decide +kernel
theorem dL_law__1352 : decode cL_law_ 1352 = .ok (.aload_n 3, 1) := by decide +kernel
theorem dL_law__1353 : decode cL_law_ 1353 = .ok (.invokestatic 195, 3) := by decide +kernel
theorem dL_law__1356 : decode cL_law_ 1356 = .ok (.istore 5, 2) := by decide +kernel
theorem dL_law__1358 : decode cL_law_ 1358 = .ok (.aload_n 2, 1) := by decide +kernel
theorem dL_law__1359 : decode cL_law_ 1359 = .ok (.aload_n 0, 1) := by decide +kernel
theorem dL_law__1360 : decode cL_law_ 1360 = .ok (.iload 4, 2) := by decide +kernel
theorem dL_law__1362 : decode cL_law_ 1362 = .ok (.iconst 1, 1) := by decide +kernel
theorem dL_law__1363 : decode cL_law_ 1363 = .ok (.iadd, 1) := by decide +kernel
theorem dL_law__1364 : decode cL_law_ 1364 = .ok (.iaload, 1) := by decide +kernel
theorem dL_law__1365 : decode cL_law_ 1365 = .ok (.aload_n 0, 1) := by decide +kernel
theorem dL_law__1366 : decode cL_law_ 1366 = .ok (.iload 4, 2) := by decide +kernel
theorem dL_law__1368 : decode cL_law_ 1368 = .ok (.iconst 2, 1) := by decide +kernel
theorem dL_law__1369 : decode cL_law_ 1369 = .ok (.iadd, 1) := by decide +kernel
theorem dL_law__1370 : decode cL_law_ 1370 = .ok (.iaload, 1) := by decide +kernel
theorem dL_law__1371 : decode cL_law_ 1371 = .ok (.ifCond .eq 7, 3) := by decide +kernel
theorem dL_law__1374 : decode cL_law_ 1374 = .ok (.iconst 1, 1) := by decide +kernel
theorem dL_law__1375 : decode cL_law_ 1375 = .ok (.goto 4, 3) := by decide +kernel
theorem dL_law__1378 : decode cL_law_ 1378 = .ok (.iconst 0, 1) := by decide +kernel
theorem dL_law__1379 : decode cL_law_ 1379 = .ok (.invokevirtual 198, 3) := by decide +kernel
theorem dL_law__1382 : decode cL_law_ 1382 = .ok (.istore 6, 2) := by decide +kernel
theorem dL_law__1384 : decode cL_law_ 1384 = .ok (.aload_n 2, 1) := by decide +kernel
theorem dL_law__1385 : decode cL_law_ 1385 = .ok (.invokevirtual 142, 3) := by decide +kernel
theorem dL_law__1388 : decode cL_law_ 1388 = .ok (.iload 5, 2) := by decide +kernel
theorem dL_law__1390 : decode cL_law_ 1390 = .ok (.if_icmp .eq 5, 3) := by decide +kernel
theorem dL_law__1393 : decode cL_law_ 1393 = .ok (.iconst 0, 1) := by decide +kernel
theorem dL_law__1394 : decode cL_law_ 1394 = .ok (.ireturn, 1) := by decide +kernel
theorem dL_law__1395 : decode cL_law_ 1395 = .ok (.iload 5, 2) := by decide +kernel
theorem dL_law__1397 : decode cL_law_ 1397 = .ok (.ifCond .ne 15, 3) := by decide +kernel
theorem dL_law__1400 : decode cL_law_ 1400 = .ok (.aload_n 3, 1) := by decide +kernel
theorem dL_law__1401 : decode cL_law_ 1401 = .ok (.iconst 0, 1) := by decide +kernel
theorem dL_law__1402 : decode cL_law_ 1402 = .ok (.laload, 1) := by decide +kernel
theorem dL_law__1403 : decode cL_law_ 1403 = .ok (.iload 6, 2) := by decide +kernel
theorem dL_law__1405 : decode cL_law_ 1405 = .ok (.i2l, 1) := by decide +kernel
theorem dL_law__1406 : decode cL_law_ 1406 = .ok (.lcmp, 1) := by decide +kernel
theorem dL_law__1407 : decode cL_law_ 1407 = .ok (.ifCond .eq 5, 3) := by decide +kernel
theorem dL_law__1410 : decode cL_law_ 1410 = .ok (.iconst 0, 1) := by decide +kernel
theorem dL_law__1411 : decode cL_law_ 1411 = .ok (.ireturn, 1) := by decide +kernel
theorem dL_law__1412 : decode cL_law_ 1412 = .ok (.goto 1386, 3) := by decide +kernel
theorem dL_law__1415 : decode cL_law_ 1415 = .ok (.aload_n 1, 1) := by decide +kernel
theorem dL_law__1416 : decode cL_law_ 1416 = .ok (.aload_n 0, 1) := by decide +kernel
theorem dL_law__1417 : decode cL_law_ 1417 = .ok (.iload 4, 2) := by decide +kernel
theorem dL_law__1419 : decode cL_law_ 1419 = .ok (.iconst 1, 1) := by decide +kernel
theorem dL_law__1420 : decode cL_law_ 1420 = .ok (.iadd, 1) := by decide +kernel
theorem dL_law__1421 : decode cL_law_ 1421 = .ok (.iaload, 1) := by decide +kernel
theorem dL_law__1422 : decode cL_law_ 1422 = .ok (.aload_n 0, 1) := by decide +kernel
theorem dL_law__1423 : decode cL_law_ 1423 = .ok (.iload 4, 2) := by decide +kernel
theorem dL_law__1425 : decode cL_law_ 1425 = .ok (.iconst 2, 1) := by decide +kernel
theorem dL_law__1426 : decode cL_law_ 1426 = .ok (.iadd, 1) := by decide +kernel
theorem dL_law__1427 : decode cL_law_ 1427 = .ok (.iaload, 1) := by decide +kernel
theorem dL_law__1428 : decode cL_law_ 1428 = .ok (.aload_n 0, 1) := by decide +kernel
theorem dL_law__1429 : decode cL_law_ 1429 = .ok (.iload 4, 2) := by decide +kernel
theorem dL_law__1431 : decode cL_law_ 1431 = .ok (.iconst 3, 1) := by decide +kernel
theorem dL_law__1432 : decode cL_law_ 1432 = .ok (.iadd, 1) := by decide +kernel
theorem dL_law__1433 : decode cL_law_ 1433 = .ok (.iaload, 1) := by decide +kernel
theorem dL_law__1434 : decode cL_law_ 1434 = .ok (.ifCond .eq 7, 3) := by decide +kernel
theorem dL_law__1437 : decode cL_law_ 1437 = .ok (.iconst 1, 1) := by decide +kernel
theorem dL_law__1438 : decode cL_law_ 1438 = .ok (.goto 4, 3) := by decide +kernel
theorem dL_law__1441 : decode cL_law_ 1441 = .ok (.iconst 0, 1) := by decide +kernel
theorem dL_law__1442 : decode cL_law_ 1442 = .ok (.aload_n 3, 1) := by decide +kernel
theorem dL_law__1443 : decode cL_law_ 1443 = .ok (.invokestatic 199, 3) := by decide +kernel
theorem dL_law__1446 : decode cL_law_ 1446 = .ok (.istore 5, 2) := by decide +kernel
theorem dL_law__1448 : decode cL_law_ 1448 = .ok (.aload_n 2, 1) := by decide +kernel
theorem dL_law__1449 : decode cL_law_ 1449 = .ok (.aload_n 0, 1) := by decide +kernel
theorem dL_law__1450 : decode cL_law_ 1450 = .ok (.iload 4, 2) := by decide +kernel
theorem dL_law__1452 : decode cL_law_ 1452 = .ok (.iconst 1, 1) := by decide +kernel
theorem dL_law__1453 : decode cL_law_ 1453 = .ok (.iadd, 1) := by decide +kernel
theorem dL_law__1454 : decode cL_law_ 1454 = .ok (.iaload, 1) := by decide +kernel
theorem dL_law__1455 : decode cL_law_ 1455 = .ok (.aload_n 0, 1) := by decide +kernel
theorem dL_law__1456 : decode cL_law_ 1456 = .ok (.iload 4, 2) := by decide +kernel
theorem dL_law__1458 : decode cL_law_ 1458 = .ok (.iconst 2, 1) := by decide +kernel
theorem dL_law__1459 : decode cL_law_ 1459 = .ok (.iadd, 1) := by decide +kernel
theorem dL_law__1460 : decode cL_law_ 1460 = .ok (.iaload, 1) := by decide +kernel
theorem dL_law__1461 : decode cL_law_ 1461 = .ok (.aload_n 0, 1) := by decide +kernel
theorem dL_law__1462 : decode cL_law_ 1462 = .ok (.iload 4, 2) := by decide +kernel
theorem dL_law__1464 : decode cL_law_ 1464 = .ok (.iconst 3, 1) := by decide +kernel
theorem dL_law__1465 : decode cL_law_ 1465 = .ok (.iadd, 1) := by decide +kernel
theorem dL_law__1466 : decode cL_law_ 1466 = .ok (.iaload, 1) := by decide +kernel
theorem dL_law__1467 : decode cL_law_ 1467 = .ok (.ifCond .eq 7, 3) := by decide +kernel
theorem dL_law__1470 : decode cL_law_ 1470 = .ok (.iconst 1, 1) := by decide +kernel
theorem dL_law__1471 : decode cL_law_ 1471 = .ok (.goto 4, 3) := by decide +kernel
theorem dL_law__1474 : decode cL_law_ 1474 = .ok (.iconst 0, 1) := by decide +kernel
theorem dL_law__1475 : decode cL_law_ 1475 = .ok (.invokevirtual 201, 3) := by decide +kernel
theorem dL_law__1478 : decode cL_law_ 1478 = .ok (.istore 6, 2) := by decide +kernel
theorem dL_law__1480 : decode cL_law_ 1480 = .ok (.aload_n 2, 1) := by decide +kernel
theorem dL_law__1481 : decode cL_law_ 1481 = .ok (.invokevirtual 142, 3) := by decide +kernel
theorem dL_law__1484 : decode cL_law_ 1484 = .ok (.iload 5, 2) := by decide +kernel
theorem dL_law__1486 : decode cL_law_ 1486 = .ok (.if_icmp .eq 5, 3) := by decide +kernel
theorem dL_law__1489 : decode cL_law_ 1489 = .ok (.iconst 0, 1) := by decide +kernel
theorem dL_law__1490 : decode cL_law_ 1490 = .ok (.ireturn, 1) := by decide +kernel
theorem dL_law__1491 : decode cL_law_ 1491 = .ok (.iload 5, 2) := by decide +kernel
theorem dL_law__1493 : decode cL_law_ 1493 = .ok (.ifCond .ne 15, 3) := by decide +kernel
theorem dL_law__1496 : decode cL_law_ 1496 = .ok (.aload_n 3, 1) := by decide +kernel
theorem dL_law__1497 : decode cL_law_ 1497 = .ok (.iconst 0, 1) := by decide +kernel
theorem dL_law__1498 : decode cL_law_ 1498 = .ok (.laload, 1) := by decide +kernel
