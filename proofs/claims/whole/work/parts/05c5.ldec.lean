theorem dL_law_1276 : decode cL_law 1276 = .ok (.istore 6, 2) := by decide +kernel
theorem dL_law_1278 : decode cL_law 1278 = .ok (.aload_n 2, 1) := by decide +kernel
theorem dL_law_1279 : decode cL_law 1279 = .ok (.invokevirtual 91, 3) := by decide +kernel
theorem dL_law_1282 : decode cL_law 1282 = .ok (.iload 5, 2) := by decide +kernel
theorem dL_law_1284 : decode cL_law 1284 = .ok (.if_icmp .eq 5, 3) := by decide +kernel
theorem dL_law_1287 : decode cL_law 1287 = .ok (.iconst 0, 1) := by decide +kernel
theorem dL_law_1288 : decode cL_law 1288 = .ok (.ireturn, 1) := by decide +kernel
theorem dL_law_1289 : decode cL_law 1289 = .ok (.iload 5, 2) := by decide +kernel
theorem dL_law_1291 : decode cL_law 1291 = .ok (.ifCond .ne 15, 3) := by decide +kernel
theorem dL_law_1294 : decode cL_law 1294 = .ok (.aload_n 3, 1) := by decide +kernel
theorem dL_law_1295 : decode cL_law 1295 = .ok (.iconst 0, 1) := by decide +kernel
theorem dL_law_1296 : decode cL_law 1296 = .ok (.laload, 1) := by decide +kernel
theorem dL_law_1297 : decode cL_law 1297 = .ok (.iload 6, 2) := by decide +kernel
theorem dL_law_1299 : decode cL_law 1299 = .ok (.i2l, 1) := by decide +kernel
theorem dL_law_1300 : decode cL_law 1300 = .ok (.lcmp, 1) := by decide +kernel
theorem dL_law_1301 : decode cL_law 1301 = .ok (.ifCond .eq 5, 3) := by decide +kernel
theorem dL_law_1304 : decode cL_law 1304 = .ok (.iconst 0, 1) := by decide +kernel
theorem dL_law_1305 : decode cL_law 1305 = .ok (.ireturn, 1) := by decide +kernel
theorem dL_law_1306 : decode cL_law 1306 = .ok (.goto 207, 3) := by decide +kernel
theorem dL_law_1309 : decode cL_law 1309 = .ok (.aload_n 1, 1) := by decide +kernel
theorem dL_law_1310 : decode cL_law 1310 = .ok (.aload_n 0, 1) := by decide +kernel
theorem dL_law_1311 : decode cL_law 1311 = .ok (.iload 4, 2) := by decide +kernel
theorem dL_law_1313 : decode cL_law 1313 = .ok (.iconst 1, 1) := by decide +kernel
theorem dL_law_1314 : decode cL_law 1314 = .ok (.iadd, 1) := by decide +kernel
theorem dL_law_1315 : decode cL_law 1315 = .ok (.iaload, 1) := by decide +kernel
theorem dL_law_1316 : decode cL_law 1316 = .ok (.aload_n 0, 1) := by decide +kernel
theorem dL_law_1317 : decode cL_law 1317 = .ok (.iload 4, 2) := by decide +kernel
theorem dL_law_1319 : decode cL_law 1319 = .ok (.iconst 2, 1) := by decide +kernel
theorem dL_law_1320 : decode cL_law 1320 = .ok (.iadd, 1) := by decide +kernel
theorem dL_law_1321 : decode cL_law 1321 = .ok (.iaload, 1) := by decide +kernel
theorem dL_law_1322 : decode cL_law 1322 = .ok (.aload_n 3, 1) := by decide +kernel
theorem dL_law_1323 : decode cL_law 1323 = .ok (.invokestatic 145, 3) := by decide +kernel
theorem dL_law_1326 : decode cL_law 1326 = .ok (.istore 5, 2) := by decide +kernel
theorem dL_law_1328 : decode cL_law 1328 = .ok (.aload_n 2, 1) := by decide +kernel
theorem dL_law_1329 : decode cL_law 1329 = .ok (.aload_n 0, 1) := by decide +kernel
theorem dL_law_1330 : decode cL_law 1330 = .ok (.iload 4, 2) := by decide +kernel
theorem dL_law_1332 : decode cL_law 1332 = .ok (.iconst 1, 1) := by decide +kernel
theorem dL_law_1333 : decode cL_law 1333 = .ok (.iadd, 1) := by decide +kernel
theorem dL_law_1334 : decode cL_law 1334 = .ok (.iaload, 1) := by decide +kernel
theorem dL_law_1335 : decode cL_law 1335 = .ok (.aload_n 0, 1) := by decide +kernel
theorem dL_law_1336 : decode cL_law 1336 = .ok (.iload 4, 2) := by decide +kernel
theorem dL_law_1338 : decode cL_law 1338 = .ok (.iconst 2, 1) := by decide +kernel
theorem dL_law_1339 : decode cL_law 1339 = .ok (.iadd, 1) := by decide +kernel
theorem dL_law_1340 : decode cL_law 1340 = .ok (.iaload, 1) := by decide +kernel
theorem dL_law_1341 : decode cL_law 1341 = .ok (.invokevirtual 147, 3) := by decide +kernel
theorem dL_law_1344 : decode cL_law 1344 = .ok (.istore 6, 2) := by decide +kernel
theorem dL_law_1346 : decode cL_law 1346 = .ok (.aload_n 2, 1) := by decide +kernel
theorem dL_law_1347 : decode cL_law 1347 = .ok (.invokevirtual 91, 3) := by decide +kernel
theorem dL_law_1350 : decode cL_law 1350 = .ok (.iload 5, 2) := by decide +kernel
theorem dL_law_1352 : decode cL_law 1352 = .ok (.if_icmp .eq 5, 3) := by decide +kernel
theorem dL_law_1355 : decode cL_law 1355 = .ok (.iconst 0, 1) := by decide +kernel
theorem dL_law_1356 : decode cL_law 1356 = .ok (.ireturn, 1) := by decide +kernel
theorem dL_law_1357 : decode cL_law 1357 = .ok (.iload 5, 2) := by decide +kernel
theorem dL_law_1359 : decode cL_law 1359 = .ok (.ifCond .ne 15, 3) := by decide +kernel
theorem dL_law_1362 : decode cL_law 1362 = .ok (.aload_n 3, 1) := by decide +kernel
theorem dL_law_1363 : decode cL_law 1363 = .ok (.iconst 0, 1) := by decide +kernel
theorem dL_law_1364 : decode cL_law 1364 = .ok (.laload, 1) := by decide +kernel
theorem dL_law_1365 : decode cL_law 1365 = .ok (.iload 6, 2) := by decide +kernel
theorem dL_law_1367 : decode cL_law 1367 = .ok (.i2l, 1) := by decide +kernel
theorem dL_law_1368 : decode cL_law 1368 = .ok (.lcmp, 1) := by decide +kernel
theorem dL_law_1369 : decode cL_law 1369 = .ok (.ifCond .eq 5, 3) := by decide +kernel
theorem dL_law_1372 : decode cL_law 1372 = .ok (.iconst 0, 1) := by decide +kernel
theorem dL_law_1373 : decode cL_law 1373 = .ok (.ireturn, 1) := by decide +kernel
theorem dL_law_1374 : decode cL_law 1374 = .ok (.goto 139, 3) := by decide +kernel
theorem dL_law_1377 : decode cL_law 1377 = .ok (.aload_n 1, 1) := by decide +kernel
theorem dL_law_1378 : decode cL_law 1378 = .ok (.aload_n 0, 1) := by decide +kernel
theorem dL_law_1379 : decode cL_law 1379 = .ok (.iload 4, 2) := by decide +kernel
theorem dL_law_1381 : decode cL_law 1381 = .ok (.iconst 1, 1) := by decide +kernel
theorem dL_law_1382 : decode cL_law 1382 = .ok (.iadd, 1) := by decide +kernel
theorem dL_law_1383 : decode cL_law 1383 = .ok (.iaload, 1) := by decide +kernel
theorem dL_law_1384 : decode cL_law 1384 = .ok (.aload_n 0, 1) := by decide +kernel
theorem dL_law_1385 : decode cL_law 1385 = .ok (.iload 4, 2) := by decide +kernel
theorem dL_law_1387 : decode cL_law 1387 = .ok (.iconst 2, 1) := by decide +kernel
theorem dL_law_1388 : decode cL_law 1388 = .ok (.iadd, 1) := by decide +kernel
theorem dL_law_1389 : decode cL_law 1389 = .ok (.iaload, 1) := by decide +kernel
theorem dL_law_1390 : decode cL_law 1390 = .ok (.aload_n 3, 1) := by decide +kernel
theorem dL_law_1391 : decode cL_law 1391 = .ok (.invokestatic 148, 3) := by decide +kernel
theorem dL_law_1394 : decode cL_law 1394 = .ok (.istore 5, 2) := by decide +kernel
theorem dL_law_1396 : decode cL_law 1396 = .ok (.aload_n 2, 1) := by decide +kernel
theorem dL_law_1397 : decode cL_law 1397 = .ok (.aload_n 0, 1) := by decide +kernel
theorem dL_law_1398 : decode cL_law 1398 = .ok (.iload 4, 2) := by decide +kernel
theorem dL_law_1400 : decode cL_law 1400 = .ok (.iconst 1, 1) := by decide +kernel
theorem dL_law_1401 : decode cL_law 1401 = .ok (.iadd, 1) := by decide +kernel
theorem dL_law_1402 : decode cL_law 1402 = .ok (.iaload, 1) := by decide +kernel
theorem dL_law_1403 : decode cL_law 1403 = .ok (.aload_n 0, 1) := by decide +kernel
theorem dL_law_1404 : decode cL_law 1404 = .ok (.iload 4, 2) := by decide +kernel
theorem dL_law_1406 : decode cL_law 1406 = .ok (.iconst 2, 1) := by decide +kernel
theorem dL_law_1407 : decode cL_law 1407 = .ok (.iadd, 1) := by decide +kernel
theorem dL_law_1408 : decode cL_law 1408 = .ok (.iaload, 1) := by decide +kernel
theorem dL_law_1409 : decode cL_law 1409 = .ok (.invokevirtual 150, 3) := by decide +kernel
theorem dL_law_1412 : decode cL_law 1412 = .ok (.istore 6, 2) := by decide +kernel
theorem dL_law_1414 : decode cL_law 1414 = .ok (.aload_n 2, 1) := by decide +kernel
theorem dL_law_1415 : decode cL_law 1415 = .ok (.invokevirtual 91, 3) := by decide +kernel
theorem dL_law_1418 : decode cL_law 1418 = .ok (.iload 5, 2) := by decide +kernel
theorem dL_law_1420 : decode cL_law 1420 = .ok (.if_icmp .eq 5, 3) := by decide +kernel
theorem dL_law_1423 : decode cL_law 1423 = .ok (.iconst 0, 1) := by decide +kernel
theorem dL_law_1424 : decode cL_law 1424 = .ok (.ireturn, 1) := by decide +kernel
theorem dL_law_1425 : decode cL_law 1425 = .ok (.iload 5, 2) := by decide +kernel
theorem dL_law_1427 : decode cL_law 1427 = .ok (.ifCond .ne 15, 3) := by decide +kernel
theorem dL_law_1430 : decode cL_law 1430 = .ok (.aload_n 3, 1) := by decide +kernel
theorem dL_law_1431 : decode cL_law 1431 = .ok (.iconst 0, 1) := by decide +kernel
theorem dL_law_1432 : decode cL_law 1432 = .ok (.laload, 1) := by decide +kernel
theorem dL_law_1433 : decode cL_law 1433 = .ok (.iload 6, 2) := by decide +kernel
theorem dL_law_1435 : decode cL_law 1435 = .ok (.i2l, 1) := by decide +kernel
theorem dL_law_1436 : decode cL_law 1436 = .ok (.lcmp, 1) := by decide +kernel
theorem dL_law_1437 : decode cL_law 1437 = .ok (.ifCond .eq 5, 3) := by decide +kernel
theorem dL_law_1440 : decode cL_law 1440 = .ok (.iconst 0, 1) := by decide +kernel
theorem dL_law_1441 : decode cL_law 1441 = .ok (.ireturn, 1) := by decide +kernel
theorem dL_law_1442 : decode cL_law 1442 = .ok (.goto 71, 3) := by decide +kernel
theorem dL_law_1445 : decode cL_law 1445 = .ok (.aload_n 1, 1) := by decide +kernel
theorem dL_law_1446 : decode cL_law 1446 = .ok (.aload_n 0, 1) := by decide +kernel
theorem dL_law_1447 : decode cL_law 1447 = .ok (.iload 4, 2) := by decide +kernel
theorem dL_law_1449 : decode cL_law 1449 = .ok (.iconst 1, 1) := by decide +kernel
theorem dL_law_1450 : decode cL_law 1450 = .ok (.iadd, 1) := by decide +kernel
theorem dL_law_1451 : decode cL_law 1451 = .ok (.iaload, 1) := by decide +kernel
theorem dL_law_1452 : decode cL_law 1452 = .ok (.aload_n 0, 1) := by decide +kernel
theorem dL_law_1453 : decode cL_law 1453 = .ok (.iload 4, 2) := by decide +kernel
theorem dL_law_1455 : decode cL_law 1455 = .ok (.iconst 2, 1) := by decide +kernel
theorem dL_law_1456 : decode cL_law 1456 = .ok (.iadd, 1) := by decide +kernel
theorem dL_law_1457 : decode cL_law 1457 = .ok (.iaload, 1) := by decide +kernel
theorem dL_law_1458 : decode cL_law 1458 = .ok (.aload_n 3, 1) := by decide +kernel
theorem dL_law_1459 : decode cL_law 1459 = .ok (.invokestatic 151, 3) := by decide +kernel
theorem dL_law_1462 : decode cL_law 1462 = .ok (.istore 5, 2) := by decide +kernel
theorem dL_law_1464 : decode cL_law 1464 = .ok (.aload_n 2, 1) := by decide +kernel
theorem dL_law_1465 : decode cL_law 1465 = .ok (.aload_n 0, 1) := by decide +kernel
theorem dL_law_1466 : decode cL_law 1466 = .ok (.iload 4, 2) := by decide +kernel
theorem dL_law_1468 : decode cL_law 1468 = .ok (.iconst 1, 1) := by decide +kernel
theorem dL_law_1469 : decode cL_law 1469 = .ok (.iadd, 1) := by decide +kernel
theorem dL_law_1470 : decode cL_law 1470 = .ok (.iaload, 1) := by decide +kernel
theorem dL_law_1471 : decode cL_law 1471 = .ok (.aload_n 0, 1) := by decide +kernel
theorem dL_law_1472 : decode cL_law 1472 = .ok (.iload 4, 2) := by decide +kernel
theorem dL_law_1474 : decode cL_law 1474 = .ok (.iconst 2, 1) := by decide +kernel
theorem dL_law_1475 : decode cL_law 1475 = .ok (.iadd, 1) := by decide +kernel
theorem dL_law_1476 : decode cL_law 1476 = .ok (.iaload, 1) := by decide +kernel
theorem dL_law_1477 : decode cL_law 1477 = .ok (.invokevirtual 153, 3) := by decide +kernel
theorem dL_law_1480 : decode cL_law 1480 = .ok (.istore 6, 2) := by decide +kernel
theorem dL_law_1482 : decode cL_law 1482 = .ok (.aload_n 2, 1) := by decide +kernel
theorem dL_law_1483 : decode cL_law 1483 = .ok (.invokevirtual 91, 3) := by decide +kernel
theorem dL_law_1486 : decode cL_law 1486 = .ok (.iload 5, 2) := by decide +kernel
theorem dL_law_1488 : decode cL_law 1488 = .ok (.if_icmp .eq 5, 3) := by decide +kernel
theorem dL_law_1491 : decode cL_law 1491 = .ok (.iconst 0, 1) := by decide +kernel
theorem dL_law_1492 : decode cL_law 1492 = .ok (.ireturn, 1) := by decide +kernel
theorem dL_law_1493 : decode cL_law 1493 = .ok (.iload 5, 2) := by decide +kernel
theorem dL_law_1495 : decode cL_law 1495 = .ok (.ifCond .ne 15, 3) := by decide +kernel
theorem dL_law_1498 : decode cL_law 1498 = .ok (.aload_n 3, 1) := by decide +kernel
theorem dL_law_1499 : decode cL_law 1499 = .ok (.iconst 0, 1) := by decide +kernel
theorem dL_law_1500 : decode cL_law 1500 = .ok (.laload, 1) := by decide +kernel
theorem dL_law_1501 : decode cL_law 1501 = .ok (.iload 6, 2) := by decide +kernel
theorem dL_law_1503 : decode cL_law 1503 = .ok (.i2l, 1) := by decide +kernel
theorem dL_law_1504 : decode cL_law 1504 = .ok (.lcmp, 1) := by decide +kernel
theorem dL_law_1505 : decode cL_law 1505 = .ok (.ifCond .eq 5, 3) := by decide +kernel
theorem dL_law_1508 : decode cL_law 1508 = .ok (.iconst 0, 1) := by decide +kernel
theorem dL_law_1509 : decode cL_law 1509 = .ok (.ireturn, 1) := by decide +kernel
theorem dL_law_1510 : decode cL_law 1510 = .ok (.goto 3, 3) := by decide +kernel
theorem dL_law_1513 : decode cL_law 1513 = .ok (.iinc 4 8, 3) := by decide +kernel
theorem dL_law_1516 : decode cL_law 1516 = .ok (.goto (-1493), 3) := by decide +kernel
theorem dL_law_1519 : decode cL_law 1519 = .ok (.iconst 1, 1) := by decide +kernel
theorem dL_law_1520 : decode cL_law 1520 = .ok (.ireturn, 1) := by decide +kernel
