theorem dL_law_1180 : decode cL_law 1180 = .ok (.iload 21, 2) := by decide +kernel
theorem dL_law_1182 : decode cL_law 1182 = .ok (.invokevirtual 207, 3) := by decide +kernel
theorem dL_law_1185 : decode cL_law 1185 = .ok (.iload 24, 2) := by decide +kernel
theorem dL_law_1187 : decode cL_law 1187 = .ok (.if_icmp .eq 5, 3) := by decide +kernel
theorem dL_law_1190 : decode cL_law 1190 = .ok (.iconst 0, 1) := by decide +kernel
theorem dL_law_1191 : decode cL_law 1191 = .ok (.ireturn, 1) := by decide +kernel
theorem dL_law_1192 : decode cL_law 1192 = .ok (.iload 23, 2) := by decide +kernel
theorem dL_law_1194 : decode cL_law 1194 = .ok (.i2l, 1) := by decide +kernel
theorem dL_law_1195 : decode cL_law 1195 = .ok (.lstore 25, 2) := by decide +kernel
theorem dL_law_1197 : decode cL_law 1197 = .ok (.iconst 0, 1) := by decide +kernel
theorem dL_law_1198 : decode cL_law 1198 = .ok (.istore 27, 2) := by decide +kernel
theorem dL_law_1200 : decode cL_law 1200 = .ok (.iload 27, 2) := by decide +kernel
theorem dL_law_1202 : decode cL_law 1202 = .ok (.iload 21, 2) := by decide +kernel
theorem dL_law_1204 : decode cL_law 1204 = .ok (.if_icmp .ge 54, 3) := by decide +kernel
theorem dL_law_1207 : decode cL_law 1207 = .ok (.ldc2_w 210, 3) := by decide +kernel
theorem dL_law_1210 : decode cL_law 1210 = .ok (.lload 25, 2) := by decide +kernel
theorem dL_law_1212 : decode cL_law 1212 = .ok (.lsub, 1) := by decide +kernel
theorem dL_law_1213 : decode cL_law 1213 = .ok (.lstore 28, 2) := by decide +kernel
theorem dL_law_1215 : decode cL_law 1215 = .ok (.lload 25, 2) := by decide +kernel
theorem dL_law_1217 : decode cL_law 1217 = .ok (.lload 25, 2) := by decide +kernel
theorem dL_law_1219 : decode cL_law 1219 = .ok (.lmul, 1) := by decide +kernel
theorem dL_law_1220 : decode cL_law 1220 = .ok (.lload 25, 2) := by decide +kernel
theorem dL_law_1222 : decode cL_law 1222 = .ok (.lload 25, 2) := by decide +kernel
theorem dL_law_1224 : decode cL_law 1224 = .ok (.lmul, 1) := by decide +kernel
theorem dL_law_1225 : decode cL_law 1225 = .ok (.ldc2_w 212, 3) := by decide +kernel
theorem dL_law_1228 : decode cL_law 1228 = .ok (.lload 25, 2) := by decide +kernel
theorem dL_law_1230 : decode cL_law 1230 = .ok (.lmul, 1) := by decide +kernel
theorem dL_law_1231 : decode cL_law 1231 = .ok (.lload 28, 2) := by decide +kernel
theorem dL_law_1233 : decode cL_law 1233 = .ok (.lmul, 1) := by decide +kernel
theorem dL_law_1234 : decode cL_law 1234 = .ok (.ladd, 1) := by decide +kernel
theorem dL_law_1235 : decode cL_law 1235 = .ok (.ldc2_w 214, 3) := by decide +kernel
theorem dL_law_1238 : decode cL_law 1238 = .ok (.lload 28, 2) := by decide +kernel
theorem dL_law_1240 : decode cL_law 1240 = .ok (.lmul, 1) := by decide +kernel
theorem dL_law_1241 : decode cL_law 1241 = .ok (.lload 28, 2) := by decide +kernel
theorem dL_law_1243 : decode cL_law 1243 = .ok (.lmul, 1) := by decide +kernel
theorem dL_law_1244 : decode cL_law 1244 = .ok (.ladd, 1) := by decide +kernel
theorem dL_law_1245 : decode cL_law 1245 = .ok (.lmul, 1) := by decide +kernel
theorem dL_law_1246 : decode cL_law 1246 = .ok (.ldc2_w 216, 3) := by decide +kernel
theorem dL_law_1249 : decode cL_law 1249 = .ok (.ldiv, 1) := by decide +kernel
theorem dL_law_1250 : decode cL_law 1250 = .ok (.lstore 25, 2) := by decide +kernel
theorem dL_law_1252 : decode cL_law 1252 = .ok (.iinc 27 1, 3) := by decide +kernel
theorem dL_law_1255 : decode cL_law 1255 = .ok (.goto (-55), 3) := by decide +kernel
theorem dL_law_1258 : decode cL_law 1258 = .ok (.aload_n 1, 1) := by decide +kernel
theorem dL_law_1259 : decode cL_law 1259 = .ok (.iload 23, 2) := by decide +kernel
theorem dL_law_1261 : decode cL_law 1261 = .ok (.iload 21, 2) := by decide +kernel
theorem dL_law_1263 : decode cL_law 1263 = .ok (.invokevirtual 218, 3) := by decide +kernel
theorem dL_law_1266 : decode cL_law 1266 = .ok (.i2l, 1) := by decide +kernel
theorem dL_law_1267 : decode cL_law 1267 = .ok (.lload 25, 2) := by decide +kernel
theorem dL_law_1269 : decode cL_law 1269 = .ok (.lcmp, 1) := by decide +kernel
theorem dL_law_1270 : decode cL_law 1270 = .ok (.ifCond .eq 5, 3) := by decide +kernel
theorem dL_law_1273 : decode cL_law 1273 = .ok (.iconst 0, 1) := by decide +kernel
theorem dL_law_1274 : decode cL_law 1274 = .ok (.ireturn, 1) := by decide +kernel
theorem dL_law_1275 : decode cL_law 1275 = .ok (.lload 9, 2) := by decide +kernel
theorem dL_law_1277 : decode cL_law 1277 = .ok (.lload 7, 2) := by decide +kernel
theorem dL_law_1279 : decode cL_law 1279 = .ok (.ldc2_w 38, 3) := by decide +kernel
theorem dL_law_1282 : decode cL_law 1282 = .ok (.lxor, 1) := by decide +kernel
theorem dL_law_1283 : decode cL_law 1283 = .ok (.land, 1) := by decide +kernel
theorem dL_law_1284 : decode cL_law 1284 = .ok (.lstore 9, 2) := by decide +kernel
theorem dL_law_1286 : decode cL_law 1286 = .ok (.lload 11, 2) := by decide +kernel
theorem dL_law_1288 : decode cL_law 1288 = .ok (.lload 7, 2) := by decide +kernel
theorem dL_law_1290 : decode cL_law 1290 = .ok (.ldc2_w 38, 3) := by decide +kernel
theorem dL_law_1293 : decode cL_law 1293 = .ok (.lxor, 1) := by decide +kernel
theorem dL_law_1294 : decode cL_law 1294 = .ok (.land, 1) := by decide +kernel
theorem dL_law_1295 : decode cL_law 1295 = .ok (.lstore 11, 2) := by decide +kernel
theorem dL_law_1297 : decode cL_law 1297 = .ok (.lload 13, 2) := by decide +kernel
theorem dL_law_1299 : decode cL_law 1299 = .ok (.lload 7, 2) := by decide +kernel
theorem dL_law_1301 : decode cL_law 1301 = .ok (.ldc2_w 38, 3) := by decide +kernel
theorem dL_law_1304 : decode cL_law 1304 = .ok (.lxor, 1) := by decide +kernel
theorem dL_law_1305 : decode cL_law 1305 = .ok (.land, 1) := by decide +kernel
theorem dL_law_1306 : decode cL_law 1306 = .ok (.lstore 13, 2) := by decide +kernel
theorem dL_law_1308 : decode cL_law 1308 = .ok (.iload 18, 2) := by decide +kernel
theorem dL_law_1310 : decode cL_law 1310 = .ok (.bipush 8, 2) := by decide +kernel
theorem dL_law_1312 : decode cL_law 1312 = .ok (.ishr, 1) := by decide +kernel
theorem dL_law_1313 : decode cL_law 1313 = .ok (.iconst 4, 1) := by decide +kernel
theorem dL_law_1314 : decode cL_law 1314 = .ok (.invokestatic 77, 3) := by decide +kernel
theorem dL_law_1317 : decode cL_law 1317 = .ok (.ifCond .ne 17, 3) := by decide +kernel
theorem dL_law_1320 : decode cL_law 1320 = .ok (.iload 18, 2) := by decide +kernel
theorem dL_law_1322 : decode cL_law 1322 = .ok (.bipush 9, 2) := by decide +kernel
theorem dL_law_1324 : decode cL_law 1324 = .ok (.ishr, 1) := by decide +kernel
theorem dL_law_1325 : decode cL_law 1325 = .ok (.sipush 1001, 3) := by decide +kernel
theorem dL_law_1328 : decode cL_law 1328 = .ok (.invokestatic 77, 3) := by decide +kernel
theorem dL_law_1331 : decode cL_law 1331 = .ok (.goto 18, 3) := by decide +kernel
theorem dL_law_1334 : decode cL_law 1334 = .ok (.sipush 300, 3) := by decide +kernel
theorem dL_law_1337 : decode cL_law 1337 = .ok (.iload 18, 2) := by decide +kernel
theorem dL_law_1339 : decode cL_law 1339 = .ok (.bipush 9, 2) := by decide +kernel
theorem dL_law_1341 : decode cL_law 1341 = .ok (.ishr, 1) := by decide +kernel
theorem dL_law_1342 : decode cL_law 1342 = .ok (.sipush 600, 3) := by decide +kernel
theorem dL_law_1345 : decode cL_law 1345 = .ok (.invokestatic 77, 3) := by decide +kernel
theorem dL_law_1348 : decode cL_law 1348 = .ok (.iadd, 1) := by decide +kernel
theorem dL_law_1349 : decode cL_law 1349 = .ok (.istore 21, 2) := by decide +kernel
theorem dL_law_1351 : decode cL_law 1351 = .ok (.aload_n 1, 1) := by decide +kernel
theorem dL_law_1352 : decode cL_law 1352 = .ok (.aload_n 2, 1) := by decide +kernel
theorem dL_law_1353 : decode cL_law 1353 = .ok (.aload_n 3, 1) := by decide +kernel
theorem dL_law_1354 : decode cL_law 1354 = .ok (.lload 7, 2) := by decide +kernel
theorem dL_law_1356 : decode cL_law 1356 = .ok (.iload 16, 2) := by decide +kernel
theorem dL_law_1358 : decode cL_law 1358 = .ok (.iconst 3, 1) := by decide +kernel
theorem dL_law_1359 : decode cL_law 1359 = .ok (.irem, 1) := by decide +kernel
theorem dL_law_1360 : decode cL_law 1360 = .ok (.iload 21, 2) := by decide +kernel
theorem dL_law_1362 : decode cL_law 1362 = .ok (.iload 17, 2) := by decide +kernel
theorem dL_law_1364 : decode cL_law 1364 = .ok (.invokestatic 221, 3) := by decide +kernel
theorem dL_law_1367 : decode cL_law 1367 = .ok (.ifCond .ne 5, 3) := by decide +kernel
theorem dL_law_1370 : decode cL_law 1370 = .ok (.iconst 0, 1) := by decide +kernel
theorem dL_law_1371 : decode cL_law 1371 = .ok (.ireturn, 1) := by decide +kernel
theorem dL_law_1372 : decode cL_law 1372 = .ok (.iload 16, 2) := by decide +kernel
theorem dL_law_1374 : decode cL_law 1374 = .ok (.iconst 5, 1) := by decide +kernel
theorem dL_law_1375 : decode cL_law 1375 = .ok (.irem, 1) := by decide +kernel
theorem dL_law_1376 : decode cL_law 1376 = .ok (.iconst 4, 1) := by decide +kernel
theorem dL_law_1377 : decode cL_law 1377 = .ok (.if_icmp .ne 21, 3) := by decide +kernel
theorem dL_law_1380 : decode cL_law 1380 = .ok (.aload_n 1, 1) := by decide +kernel
theorem dL_law_1381 : decode cL_law 1381 = .ok (.aload_n 2, 1) := by decide +kernel
theorem dL_law_1382 : decode cL_law 1382 = .ok (.lload 7, 2) := by decide +kernel
theorem dL_law_1384 : decode cL_law 1384 = .ok (.iload 17, 2) := by decide +kernel
theorem dL_law_1386 : decode cL_law 1386 = .ok (.iconst 3, 1) := by decide +kernel
theorem dL_law_1387 : decode cL_law 1387 = .ok (.ishr, 1) := by decide +kernel
theorem dL_law_1388 : decode cL_law 1388 = .ok (.iload 18, 2) := by decide +kernel
theorem dL_law_1390 : decode cL_law 1390 = .ok (.invokestatic 225, 3) := by decide +kernel
theorem dL_law_1393 : decode cL_law 1393 = .ok (.ifCond .ne 5, 3) := by decide +kernel
theorem dL_law_1396 : decode cL_law 1396 = .ok (.iconst 0, 1) := by decide +kernel
theorem dL_law_1397 : decode cL_law 1397 = .ok (.ireturn, 1) := by decide +kernel
theorem dL_law_1398 : decode cL_law 1398 = .ok (.lload 13, 2) := by decide +kernel
theorem dL_law_1400 : decode cL_law 1400 = .ok (.ldc2_w 38, 3) := by decide +kernel
theorem dL_law_1403 : decode cL_law 1403 = .ok (.lxor, 1) := by decide +kernel
theorem dL_law_1404 : decode cL_law 1404 = .ok (.lload 7, 2) := by decide +kernel
theorem dL_law_1406 : decode cL_law 1406 = .ok (.ldc2_w 38, 3) := by decide +kernel
theorem dL_law_1409 : decode cL_law 1409 = .ok (.lxor, 1) := by decide +kernel
theorem dL_law_1410 : decode cL_law 1410 = .ok (.land, 1) := by decide +kernel
theorem dL_law_1411 : decode cL_law 1411 = .ok (.ldc2_w 71, 3) := by decide +kernel
theorem dL_law_1414 : decode cL_law 1414 = .ok (.land, 1) := by decide +kernel
theorem dL_law_1415 : decode cL_law 1415 = .ok (.lstore 22, 2) := by decide +kernel
theorem dL_law_1417 : decode cL_law 1417 = .ok (.aload_n 1, 1) := by decide +kernel
theorem dL_law_1418 : decode cL_law 1418 = .ok (.iconst 1, 1) := by decide +kernel
theorem dL_law_1419 : decode cL_law 1419 = .ok (.invokevirtual 229, 3) := by decide +kernel
theorem dL_law_1422 : decode cL_law 1422 = .ok (.lload 13, 2) := by decide +kernel
theorem dL_law_1424 : decode cL_law 1424 = .ok (.lload 13, 2) := by decide +kernel
theorem dL_law_1426 : decode cL_law 1426 = .ok (.iconst 0, 1) := by decide +kernel
theorem dL_law_1427 : decode cL_law 1427 = .ok (.invokestatic 44, 3) := by decide +kernel
theorem dL_law_1430 : decode cL_law 1430 = .ok (.invokestatic 67, 3) := by decide +kernel
theorem dL_law_1433 : decode cL_law 1433 = .ok (.ldc2_w 38, 3) := by decide +kernel
theorem dL_law_1436 : decode cL_law 1436 = .ok (.lxor, 1) := by decide +kernel
theorem dL_law_1437 : decode cL_law 1437 = .ok (.land, 1) := by decide +kernel
theorem dL_law_1438 : decode cL_law 1438 = .ok (.invokestatic 59, 3) := by decide +kernel
theorem dL_law_1441 : decode cL_law 1441 = .ok (.if_icmp .ne 30, 3) := by decide +kernel
theorem dL_law_1444 : decode cL_law 1444 = .ok (.aload_n 1, 1) := by decide +kernel
theorem dL_law_1445 : decode cL_law 1445 = .ok (.iconst 0, 1) := by decide +kernel
theorem dL_law_1446 : decode cL_law 1446 = .ok (.invokevirtual 229, 3) := by decide +kernel
theorem dL_law_1449 : decode cL_law 1449 = .ok (.lload 22, 2) := by decide +kernel
theorem dL_law_1451 : decode cL_law 1451 = .ok (.lload 22, 2) := by decide +kernel
theorem dL_law_1453 : decode cL_law 1453 = .ok (.iconst 1, 1) := by decide +kernel
theorem dL_law_1454 : decode cL_law 1454 = .ok (.invokestatic 44, 3) := by decide +kernel
theorem dL_law_1457 : decode cL_law 1457 = .ok (.invokestatic 67, 3) := by decide +kernel
theorem dL_law_1460 : decode cL_law 1460 = .ok (.ldc2_w 38, 3) := by decide +kernel
theorem dL_law_1463 : decode cL_law 1463 = .ok (.lxor, 1) := by decide +kernel
theorem dL_law_1464 : decode cL_law 1464 = .ok (.land, 1) := by decide +kernel
theorem dL_law_1465 : decode cL_law 1465 = .ok (.invokestatic 59, 3) := by decide +kernel
theorem dL_law_1468 : decode cL_law 1468 = .ok (.if_icmp .eq 5, 3) := by decide +kernel
theorem dL_law_1471 : decode cL_law 1471 = .ok (.iconst 0, 1) := by decide +kernel
theorem dL_law_1472 : decode cL_law 1472 = .ok (.ireturn, 1) := by decide +kernel
theorem dL_law_1473 : decode cL_law 1473 = .ok (.aload_n 1, 1) := by decide +kernel
theorem dL_law_1474 : decode cL_law 1474 = .ok (.iconst 0, 1) := by decide +kernel
theorem dL_law_1475 : decode cL_law 1475 = .ok (.invokevirtual 232, 3) := by decide +kernel
theorem dL_law_1478 : decode cL_law 1478 = .ok (.lload 7, 2) := by decide +kernel
theorem dL_law_1480 : decode cL_law 1480 = .ok (.invokestatic 59, 3) := by decide +kernel
theorem dL_law_1483 : decode cL_law 1483 = .ok (.if_icmp .ne 42, 3) := by decide +kernel
theorem dL_law_1486 : decode cL_law 1486 = .ok (.aload_n 1, 1) := by decide +kernel
theorem dL_law_1487 : decode cL_law 1487 = .ok (.iconst 1, 1) := by decide +kernel
theorem dL_law_1488 : decode cL_law 1488 = .ok (.invokevirtual 232, 3) := by decide +kernel
theorem dL_law_1491 : decode cL_law 1491 = .ok (.lload 11, 2) := by decide +kernel
theorem dL_law_1493 : decode cL_law 1493 = .ok (.invokestatic 59, 3) := by decide +kernel
theorem dL_law_1496 : decode cL_law 1496 = .ok (.if_icmp .ne 29, 3) := by decide +kernel
theorem dL_law_1499 : decode cL_law 1499 = .ok (.aload_n 1, 1) := by decide +kernel
theorem dL_law_1500 : decode cL_law 1500 = .ok (.iconst 2, 1) := by decide +kernel
theorem dL_law_1501 : decode cL_law 1501 = .ok (.invokevirtual 232, 3) := by decide +kernel
theorem dL_law_1504 : decode cL_law 1504 = .ok (.lload 9, 2) := by decide +kernel
theorem dL_law_1506 : decode cL_law 1506 = .ok (.invokestatic 59, 3) := by decide +kernel
theorem dL_law_1509 : decode cL_law 1509 = .ok (.if_icmp .ne 16, 3) := by decide +kernel
theorem dL_law_1512 : decode cL_law 1512 = .ok (.aload_n 1, 1) := by decide +kernel
theorem dL_law_1513 : decode cL_law 1513 = .ok (.iconst 3, 1) := by decide +kernel
theorem dL_law_1514 : decode cL_law 1514 = .ok (.invokevirtual 232, 3) := by decide +kernel
theorem dL_law_1517 : decode cL_law 1517 = .ok (.lload 13, 2) := by decide +kernel
theorem dL_law_1519 : decode cL_law 1519 = .ok (.invokestatic 59, 3) := by decide +kernel
theorem dL_law_1522 : decode cL_law 1522 = .ok (.if_icmp .eq 5, 3) := by decide +kernel
theorem dL_law_1525 : decode cL_law 1525 = .ok (.iconst 0, 1) := by decide +kernel
theorem dL_law_1526 : decode cL_law 1526 = .ok (.ireturn, 1) := by decide +kernel
theorem dL_law_1527 : decode cL_law 1527 = .ok (.iload 17, 2) := by decide +kernel
theorem dL_law_1529 : decode cL_law 1529 = .ok (.bipush 11, 2) := by decide +kernel
theorem dL_law_1531 : decode cL_law 1531 = .ok (.ishr, 1) := by decide +kernel
theorem dL_law_1532 : decode cL_law 1532 = .ok (.bipush 60, 2) := by decide +kernel
theorem dL_law_1534 : decode cL_law 1534 = .ok (.invokestatic 77, 3) := by decide +kernel
theorem dL_law_1537 : decode cL_law 1537 = .ok (.istore 24, 2) := by decide +kernel
theorem dL_law_1539 : decode cL_law 1539 = .ok (.aload_n 3, 1) := by decide +kernel
theorem dL_law_1540 : decode cL_law 1540 = .ok (.iload 24, 2) := by decide +kernel
theorem dL_law_1542 : decode cL_law 1542 = .ok (.invokestatic 31, 3) := by decide +kernel
theorem dL_law_1545 : decode cL_law 1545 = .ok (.iaload, 1) := by decide +kernel
theorem dL_law_1546 : decode cL_law 1546 = .ok (.aload_n 3, 1) := by decide +kernel
theorem dL_law_1547 : decode cL_law 1547 = .ok (.iload 24, 2) := by decide +kernel
theorem dL_law_1549 : decode cL_law 1549 = .ok (.invokestatic 35, 3) := by decide +kernel
theorem dL_law_1552 : decode cL_law 1552 = .ok (.iaload, 1) := by decide +kernel
theorem dL_law_1553 : decode cL_law 1553 = .ok (.if_icmp .le 13, 3) := by decide +kernel
theorem dL_law_1556 : decode cL_law 1556 = .ok (.aload_n 3, 1) := by decide +kernel
theorem dL_law_1557 : decode cL_law 1557 = .ok (.iload 24, 2) := by decide +kernel
theorem dL_law_1559 : decode cL_law 1559 = .ok (.invokestatic 31, 3) := by decide +kernel
theorem dL_law_1562 : decode cL_law 1562 = .ok (.iaload, 1) := by decide +kernel
theorem dL_law_1563 : decode cL_law 1563 = .ok (.goto 10, 3) := by decide +kernel
theorem dL_law_1566 : decode cL_law 1566 = .ok (.aload_n 3, 1) := by decide +kernel
theorem dL_law_1567 : decode cL_law 1567 = .ok (.iload 24, 2) := by decide +kernel
theorem dL_law_1569 : decode cL_law 1569 = .ok (.invokestatic 35, 3) := by decide +kernel
theorem dL_law_1572 : decode cL_law 1572 = .ok (.iaload, 1) := by decide +kernel
theorem dL_law_1573 : decode cL_law 1573 = .ok (.istore 25, 2) := by decide +kernel
theorem dL_law_1575 : decode cL_law 1575 = .ok (.aload_n 1, 1) := by decide +kernel
theorem dL_law_1576 : decode cL_law 1576 = .ok (.iconst 0, 1) := by decide +kernel
theorem dL_law_1577 : decode cL_law 1577 = .ok (.iload 24, 2) := by decide +kernel
theorem dL_law_1579 : decode cL_law 1579 = .ok (.invokevirtual 235, 3) := by decide +kernel
theorem dL_law_1582 : decode cL_law 1582 = .ok (.aload_n 2, 1) := by decide +kernel
theorem dL_law_1583 : decode cL_law 1583 = .ok (.iload 24, 2) := by decide +kernel
theorem dL_law_1585 : decode cL_law 1585 = .ok (.iaload, 1) := by decide +kernel
theorem dL_law_1586 : decode cL_law 1586 = .ok (.if_icmp .ne 43, 3) := by decide +kernel
theorem dL_law_1589 : decode cL_law 1589 = .ok (.aload_n 1, 1) := by decide +kernel
theorem dL_law_1590 : decode cL_law 1590 = .ok (.iconst 1, 1) := by decide +kernel
theorem dL_law_1591 : decode cL_law 1591 = .ok (.iload 24, 2) := by decide +kernel
theorem dL_law_1593 : decode cL_law 1593 = .ok (.invokevirtual 235, 3) := by decide +kernel
theorem dL_law_1596 : decode cL_law 1596 = .ok (.iload 25, 2) := by decide +kernel
theorem dL_law_1598 : decode cL_law 1598 = .ok (.if_icmp .ne 31, 3) := by decide +kernel
theorem dL_law_1601 : decode cL_law 1601 = .ok (.aload_n 1, 1) := by decide +kernel
theorem dL_law_1602 : decode cL_law 1602 = .ok (.iconst 2, 1) := by decide +kernel
theorem dL_law_1603 : decode cL_law 1603 = .ok (.iload 24, 2) := by decide +kernel
theorem dL_law_1605 : decode cL_law 1605 = .ok (.invokevirtual 235, 3) := by decide +kernel
theorem dL_law_1608 : decode cL_law 1608 = .ok (.aload_n 2, 1) := by decide +kernel
theorem dL_law_1609 : decode cL_law 1609 = .ok (.iload 24, 2) := by decide +kernel
theorem dL_law_1611 : decode cL_law 1611 = .ok (.iaload, 1) := by decide +kernel
theorem dL_law_1612 : decode cL_law 1612 = .ok (.iload 25, 2) := by decide +kernel
theorem dL_law_1614 : decode cL_law 1614 = .ok (.if_icmp .le 10, 3) := by decide +kernel
theorem dL_law_1617 : decode cL_law 1617 = .ok (.aload_n 2, 1) := by decide +kernel
theorem dL_law_1618 : decode cL_law 1618 = .ok (.iload 24, 2) := by decide +kernel
theorem dL_law_1620 : decode cL_law 1620 = .ok (.iaload, 1) := by decide +kernel
theorem dL_law_1621 : decode cL_law 1621 = .ok (.goto 5, 3) := by decide +kernel
theorem dL_law_1624 : decode cL_law 1624 = .ok (.iload 25, 2) := by decide +kernel
theorem dL_law_1626 : decode cL_law 1626 = .ok (.if_icmp .eq 5, 3) := by decide +kernel
theorem dL_law_1629 : decode cL_law 1629 = .ok (.iconst 0, 1) := by decide +kernel
theorem dL_law_1630 : decode cL_law 1630 = .ok (.ireturn, 1) := by decide +kernel
theorem dL_law_1631 : decode cL_law 1631 = .ok (.iinc 16 1, 3) := by decide +kernel
theorem dL_law_1634 : decode cL_law 1634 = .ok (.goto (-1557), 3) := by decide +kernel
theorem dL_law_1637 : decode cL_law 1637 = .ok (.iconst 1, 1) := by decide +kernel
theorem dL_law_1638 : decode cL_law 1638 = .ok (.ireturn, 1) := by decide +kernel
