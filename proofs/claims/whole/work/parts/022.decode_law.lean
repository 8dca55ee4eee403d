theorem dL_law_1296 : decode cL_law 1296 = .ok (.invokestatic 176, 3) := by decide +kernel
theorem dL_law_1299 : decode cL_law 1299 = .ok (.istore 5, 2) := by decide +kernel
theorem dL_law_1301 : decode cL_law 1301 = .ok (.aload_n 2, 1) := by decide +kernel
theorem dL_law_1302 : decode cL_law 1302 = .ok (.aload_n 0, 1) := by decide +kernel
theorem dL_law_1303 : decode cL_law 1303 = .ok (.iload 4, 2) := by decide +kernel
theorem dL_law_1305 : decode cL_law 1305 = .ok (.iconst 1, 1) := by decide +kernel
theorem dL_law_1306 : decode cL_law 1306 = .ok (.iadd, 1) := by decide +kernel
theorem dL_law_1307 : decode cL_law 1307 = .ok (.iaload, 1) := by decide +kernel
theorem dL_law_1308 : decode cL_law 1308 = .ok (.invokevirtual 178, 3) := by decide +kernel
theorem dL_law_1311 : decode cL_law 1311 = .ok (.istore 6, 2) := by decide +kernel
theorem dL_law_1313 : decode cL_law 1313 = .ok (.aload_n 2, 1) := by decide +kernel
theorem dL_law_1314 : decode cL_law 1314 = .ok (.invokevirtual 119, 3) := by decide +kernel
theorem dL_law_1317 : decode cL_law 1317 = .ok (.iload 5, 2) := by decide +kernel
theorem dL_law_1319 : decode cL_law 1319 = .ok (.if_icmp .eq 5, 3) := by decide +kernel
theorem dL_law_1322 : decode cL_law 1322 = .ok (.iconst 0, 1) := by decide +kernel
theorem dL_law_1323 : decode cL_law 1323 = .ok (.ireturn, 1) := by decide +kernel
theorem dL_law_1324 : decode cL_law 1324 = .ok (.iload 5, 2) := by decide +kernel
theorem dL_law_1326 : decode cL_law 1326 = .ok (.ifCond .ne 15, 3) := by decide +kernel
theorem dL_law_1329 : decode cL_law 1329 = .ok (.aload_n 3, 1) := by decide +kernel
theorem dL_law_1330 : decode cL_law 1330 = .ok (.iconst 0, 1) := by decide +kernel
theorem dL_law_1331 : decode cL_law 1331 = .ok (.laload, 1) := by decide +kernel
theorem dL_law_1332 : decode cL_law 1332 = .ok (.iload 6, 2) := by decide +kernel
theorem dL_law_1334 : decode cL_law 1334 = .ok (.i2l, 1) := by decide +kernel
theorem dL_law_1335 : decode cL_law 1335 = .ok (.lcmp, 1) := by decide +kernel
theorem dL_law_1336 : decode cL_law 1336 = .ok (.ifCond .eq 5, 3) := by decide +kernel
theorem dL_law_1339 : decode cL_law 1339 = .ok (.iconst 0, 1) := by decide +kernel
theorem dL_law_1340 : decode cL_law 1340 = .ok (.ireturn, 1) := by decide +kernel
theorem dL_law_1341 : decode cL_law 1341 = .ok (.goto 1041, 3) := by decide +kernel
theorem dL_law_1344 : decode cL_law 1344 = .ok (.aload_n 1, 1) := by decide +kernel
theorem dL_law_1345 : decode cL_law 1345 = .ok (.aload_n 0, 1) := by decide +kernel
theorem dL_law_1346 : decode cL_law 1346 = .ok (.iload 4, 2) := by decide +kernel
theorem dL_law_1348 : decode cL_law 1348 = .ok (.iconst 1, 1) := by decide +kernel
theorem dL_law_1349 : decode cL_law 1349 = .ok (.iadd, 1) := by decide +kernel
theorem dL_law_1350 : decode cL_law 1350 = .ok (.iaload, 1) := by decide +kernel
theorem dL_law_1351 : decode cL_law 1351 = .ok (.aload_n 0, 1) := by decide +kernel
theorem dL_law_1352 : decode cL_law 1352 = .ok (.iload 4, 2) := by decide +kernel
theorem dL_law_1354 : decode cL_law 1354 = .ok (.iconst 2, 1) := by decide +kernel
theorem dL_law_1355 : decode cL_law 1355 = .ok (.iadd, 1) := by decide +kernel
theorem dL_law_1356 : decode cL_law 1356 = .ok (.iaload, 1) := by decide +kernel
theorem dL_law_1357 : decode cL_law 1357 = .ok (.aload_n 0, 1) := by decide +kernel
theorem dL_law_1358 : decode cL_law 1358 = .ok (.iload 4, 2) := by decide +kernel
theorem dL_law_1360 : decode cL_law 1360 = .ok (.iconst 3, 1) := by decide +kernel
theorem dL_law_1361 : decode cL_law 1361 = .ok (.iadd, 1) := by decide +kernel
theorem dL_law_1362 : decode cL_law 1362 = .ok (.iaload, 1) := by decide +kernel
theorem dL_law_1363 : decode cL_law 1363 = .ok (.aload_n 3, 1) := by decide +kernel
theorem dL_law_1364 : decode cL_law 1364 = .ok (.invokestatic 179, 3) := by decide +kernel
theorem dL_law_1367 : decode cL_law 1367 = .ok (.istore 5, 2) := by decide +kernel
theorem dL_law_1369 : decode cL_law 1369 = .ok (.aload_n 2, 1) := by decide +kernel
theorem dL_law_1370 : decode cL_law 1370 = .ok (.aload_n 0, 1) := by decide +kernel
theorem dL_law_1371 : decode cL_law 1371 = .ok (.iload 4, 2) := by decide +kernel
theorem dL_law_1373 : decode cL_law 1373 = .ok (.iconst 1, 1) := by decide +kernel
theorem dL_law_1374 : decode cL_law 1374 = .ok (.iadd, 1) := by decide +kernel
theorem dL_law_1375 : decode cL_law 1375 = .ok (.iaload, 1) := by decide +kernel
theorem dL_law_1376 : decode cL_law 1376 = .ok (.aload_n 0, 1) := by decide +kernel
theorem dL_law_1377 : decode cL_law 1377 = .ok (.iload 4, 2) := by decide +kernel
theorem dL_law_1379 : decode cL_law 1379 = .ok (.iconst 2, 1) := by decide +kernel
theorem dL_law_1380 : decode cL_law 1380 = .ok (.iadd, 1) := by decide +kernel
theorem dL_law_1381 : decode cL_law 1381 = .ok (.iaload, 1) := by decide +kernel
theorem dL_law_1382 : decode cL_law 1382 = .ok (.aload_n 0, 1) := by decide +kernel
theorem dL_law_1383 : decode cL_law 1383 = .ok (.iload 4, 2) := by decide +kernel
theorem dL_law_1385 : decode cL_law 1385 = .ok (.iconst 3, 1) := by decide +kernel
theorem dL_law_1386 : decode cL_law 1386 = .ok (.iadd, 1) := by decide +kernel
theorem dL_law_1387 : decode cL_law 1387 = .ok (.iaload, 1) := by decide +kernel
theorem dL_law_1388 : decode cL_law 1388 = .ok (.invokevirtual 181, 3) := by decide +kernel
theorem dL_law_1391 : decode cL_law 1391 = .ok (.istore 6, 2) := by decide +kernel
theorem dL_law_1393 : decode cL_law 1393 = .ok (.aload_n 2, 1) := by decide +kernel
theorem dL_law_1394 : decode cL_law 1394 = .ok (.invokevirtual 119, 3) := by decide +kernel
theorem dL_law_1397 : decode cL_law 1397 = .ok (.iload 5, 2) := by decide +kernel
theorem dL_law_1399 : decode cL_law 1399 = .ok (.if_icmp .eq 5, 3) := by decide +kernel
theorem dL_law_1402 : decode cL_law 1402 = .ok (.iconst 0, 1) := by decide +kernel
theorem dL_law_1403 : decode cL_law 1403 = .ok (.ireturn, 1) := by decide +kernel
theorem dL_law_1404 : decode cL_law 1404 = .ok (.iload 5, 2) := by decide +kernel
theorem dL_law_1406 : decode cL_law 1406 = .ok (.ifCond .ne 15, 3) := by decide +kernel
theorem dL_law_1409 : decode cL_law 1409 = .ok (.aload_n 3, 1) := by decide +kernel
theorem dL_law_1410 : decode cL_law 1410 = .ok (.iconst 0, 1) := by decide +kernel
theorem dL_law_1411 : decode cL_law 1411 = .ok (.laload, 1) := by decide +kernel
theorem dL_law_1412 : decode cL_law 1412 = .ok (.iload 6, 2) := by decide +kernel
theorem dL_law_1414 : decode cL_law 1414 = .ok (.i2l, 1) := by decide +kernel
theorem dL_law_1415 : decode cL_law 1415 = .ok (.lcmp, 1) := by decide +kernel
theorem dL_law_1416 : decode cL_law 1416 = .ok (.ifCond .eq 5, 3) := by decide +kernel
theorem dL_law_1419 : decode cL_law 1419 = .ok (.iconst 0, 1) := by decide +kernel
theorem dL_law_1420 : decode cL_law 1420 = .ok (.ireturn, 1) := by decide +kernel
theorem dL_law_1421 : decode cL_law 1421 = .ok (.goto 961, 3) := by decide +kernel
theorem dL_law_1424 : decode cL_law 1424 = .ok (.aload_n 1, 1) := by decide +kernel
theorem dL_law_1425 : decode cL_law 1425 = .ok (.aload_n 0, 1) := by decide +kernel
theorem dL_law_1426 : decode cL_law 1426 = .ok (.iload 4, 2) := by decide +kernel
theorem dL_law_1428 : decode cL_law 1428 = .ok (.iconst 1, 1) := by decide +kernel
theorem dL_law_1429 : decode cL_law 1429 = .ok (.iadd, 1) := by decide +kernel
theorem dL_law_1430 : decode cL_law 1430 = .ok (.iaload, 1) := by decide +kernel
theorem dL_law_1431 : decode cL_law 1431 = .ok (.aload_n 3, 1) := by decide +kernel
theorem dL_law_1432 : decode cL_law 1432 = .ok (.invokestatic 182, 3) := by decide +kernel
theorem dL_law_1435 : decode cL_law 1435 = .ok (.istore 5, 2) := by decide +kernel
theorem dL_law_1437 : decode cL_law 1437 = .ok (.aload_n 2, 1) := by decide +kernel
theorem dL_law_1438 : decode cL_law 1438 = .ok (.aload_n 0, 1) := by decide +kernel
theorem dL_law_1439 : decode cL_law 1439 = .ok (.iload 4, 2) := by decide +kernel
theorem dL_law_1441 : decode cL_law 1441 = .ok (.iconst 1, 1) := by decide +kernel
theorem dL_law_1442 : decode cL_law 1442 = .ok (.iadd, 1) := by decide +kernel
theorem dL_law_1443 : decode cL_law 1443 = .ok (.iaload, 1) := by decide +kernel
theorem dL_law_1444 : decode cL_law 1444 = .ok (.invokevirtual 184, 3) := by decide +kernel
theorem dL_law_1447 : decode cL_law 1447 = .ok (.istore 6, 2) := by decide +kernel
theorem dL_law_1449 : decode cL_law 1449 = .ok (.aload_n 2, 1) := by decide +kernel
theorem dL_law_1450 : decode cL_law 1450 = .ok (.invokevirtual 119, 3) := by decide +kernel
theorem dL_law_1453 : decode cL_law 1453 = .ok (.iload 5, 2) := by decide +kernel
theorem dL_law_1455 : decode cL_law 1455 = .ok (.if_icmp .eq 5, 3) := by decide +kernel
theorem dL_law_1458 : decode cL_law 1458 = .ok (.iconst 0, 1) := by decide +kernel
theorem dL_law_1459 : decode cL_law 1459 = .ok (.ireturn, 1) := by decide +kernel
theorem dL_law_1460 : decode cL_law 1460 = .ok (.iload 5, 2) := by decide +kernel
theorem dL_law_1462 : decode cL_law 1462 = .ok (.ifCond .ne 15, 3) := by decide +kernel
theorem dL_law_1465 : decode cL_law 1465 = .ok (.aload_n 3, 1) := by decide +kernel
theorem dL_law_1466 : decode cL_law 1466 = .ok (.iconst 0, 1) := by decide +kernel
theorem dL_law_1467 : decode cL_law 1467 = .ok (.laload, 1) := by decide +kernel
theorem dL_law_1468 : decode cL_law 1468 = .ok (.iload 6, 2) := by decide +kernel
theorem dL_law_1470 : decode cL_law 1470 = .ok (.i2l, 1) := by decide +kernel
theorem dL_law_1471 : decode cL_law 1471 = .ok (.lcmp, 1) := by decide +kernel
theorem dL_law_1472 : decode cL_law 1472 = .ok (.ifCond .eq 5, 3) := by decide +kernel
theorem dL_law_1475 : decode cL_law 1475 = .ok (.iconst 0, 1) := by decide +kernel
theorem dL_law_1476 : decode cL_law 1476 = .ok (.ireturn, 1) := by decide +kernel
theorem dL_law_1477 : decode cL_law 1477 = .ok (.goto 905, 3) := by decide +kernel
theorem dL_law_1480 : decode cL_law 1480 = .ok (.aload_n 1, 1) := by decide +kernel
theorem dL_law_1481 : decode cL_law 1481 = .ok (.invokevirtual 185, 3) := by decide +kernel
theorem dL_law_1484 : decode cL_law 1484 = .ok (.aload_n 2, 1) := by decide +kernel
theorem dL_law_1485 : decode cL_law 1485 = .ok (.invokevirtual 188, 3) := by decide +kernel
theorem dL_law_1488 : decode cL_law 1488 = .ok (.if_icmp .eq 894, 3) := by decide +kernel
theorem dL_law_1491 : decode cL_law 1491 = .ok (.iconst 0, 1) := by decide +kernel
theorem dL_law_1492 : decode cL_law 1492 = .ok (.ireturn, 1) := by decide +kernel
theorem dL_law_1493 : decode cL_law 1493 = .ok (.aload_n 1, 1) := by decide +kernel
theorem dL_law_1494 : decode cL_law 1494 = .ok (.aload_n 0, 1) := by decide +kernel
theorem dL_law_1495 : decode cL_law 1495 = .ok (.iload 4, 2) := by decide +kernel
theorem dL_law_1497 : decode cL_law 1497 = .ok (.iconst 1, 1) := by decide +kernel
theorem dL_law_1498 : decode cL_law 1498 = .ok (.iadd, 1) := by decide +kernel
theorem dL_law_1499 : decode cL_law 1499 = .ok (.iaload, 1) := by decide +kernel
theorem dL_law_1500 : decode cL_law 1500 = .ok (.aload_n 0, 1) := by decide +kernel
theorem dL_law_1501 : decode cL_law 1501 = .ok (.iload 4, 2) := by decide +kernel
theorem dL_law_1503 : decode cL_law 1503 = .ok (.iconst 2, 1) := by decide +kernel
theorem dL_law_1504 : decode cL_law 1504 = .ok (.iadd, 1) := by decide +kernel
theorem dL_law_1505 : decode cL_law 1505 = .ok (.iaload, 1) := by decide +kernel
theorem dL_law_1506 : decode cL_law 1506 = .ok (.aload_n 3, 1) := by decide +kernel
theorem dL_law_1507 : decode cL_law 1507 = .ok (.invokestatic 189, 3) := by decide +kernel
theorem dL_law_1510 : decode cL_law 1510 = .ok (.istore 5, 2) := by decide +kernel
theorem dL_law_1512 : decode cL_law 1512 = .ok (.aload_n 2, 1) := by decide +kernel
theorem dL_law_1513 : decode cL_law 1513 = .ok (.aload_n 0, 1) := by decide +kernel
theorem dL_law_1514 : decode cL_law 1514 = .ok (.iload 4, 2) := by decide +kernel
theorem dL_law_1516 : decode cL_law 1516 = .ok (.iconst 1, 1) := by decide +kernel
theorem dL_law_1517 : decode cL_law 1517 = .ok (.iadd, 1) := by decide +kernel
theorem dL_law_1518 : decode cL_law 1518 = .ok (.iaload, 1) := by decide +kernel
theorem dL_law_1519 : decode cL_law 1519 = .ok (.aload_n 0, 1) := by decide +kernel
theorem dL_law_1520 : decode cL_law 1520 = .ok (.iload 4, 2) := by decide +kernel
theorem dL_law_1522 : decode cL_law 1522 = .ok (.iconst 2, 1) := by decide +kernel
theorem dL_law_1523 : decode cL_law 1523 = .ok (.iadd, 1) := by decide +kernel
theorem dL_law_1524 : decode cL_law 1524 = .ok (.iaload, 1) := by decide +kernel
theorem dL_law_1525 : decode cL_law 1525 = .ok (.invokevirtual 191, 3) := by decide +kernel
theorem dL_law_1528 : decode cL_law 1528 = .ok (.istore 6, 2) := by decide +kernel
theorem dL_law_1530 : decode cL_law 1530 = .ok (.aload_n 2, 1) := by decide +kernel
theorem dL_law_1531 : decode cL_law 1531 = .ok (.invokevirtual 119, 3) := by decide +kernel
theorem dL_law_1534 : decode cL_law 1534 = .ok (.iload 5, 2) := by decide +kernel
theorem dL_law_1536 : decode cL_law 1536 = .ok (.if_icmp .eq 5, 3) := by decide +kernel
theorem dL_law_1539 : decode cL_law 1539 = .ok (.iconst 0, 1) := by decide +kernel
theorem dL_law_1540 : decode cL_law 1540 = .ok (.ireturn, 1) := by decide +kernel
theorem dL_law_1541 : decode cL_law 1541 = .ok (.iload 5, 2) := by decide +kernel
theorem dL_law_1543 : decode cL_law 1543 = .ok (.ifCond .ne 15, 3) := by decide +kernel
theorem dL_law_1546 : decode cL_law 1546 = .ok (.aload_n 3, 1) := by decide +kernel
theorem dL_law_1547 : decode cL_law 1547 = .ok (.iconst 0, 1) := by decide +kernel
theorem dL_law_1548 : decode cL_law 1548 = .ok (.laload, 1) := by decide +kernel
theorem dL_law_1549 : decode cL_law 1549 = .ok (.iload 6, 2) := by decide +kernel
theorem dL_law_1551 : decode cL_law 1551 = .ok (.i2l, 1) := by decide +kernel
theorem dL_law_1552 : decode cL_law 1552 = .ok (.lcmp, 1) := by decide +kernel
theorem dL_law_1553 : decode cL_law 1553 = .ok (.ifCond .eq 5, 3) := by decide +kernel
theorem dL_law_1556 : decode cL_law 1556 = .ok (.iconst 0, 1) := by decide +kernel
theorem dL_law_1557 : decode cL_law 1557 = .ok (.ireturn, 1) := by decide +kernel
theorem dL_law_1558 : decode cL_law 1558 = .ok (.goto 824, 3) := by decide +kernel
theorem dL_law_1561 : decode cL_law 1561 = .ok (.aload_n 1, 1) := by decide +kernel
theorem dL_law_1562 : decode cL_law 1562 = .ok (.invokevirtual 192, 3) := by decide +kernel
theorem dL_law_1565 : decode cL_law 1565 = .ok (.aload_n 2, 1) := by decide +kernel
theorem dL_law_1566 : decode cL_law 1566 = .ok (.invokevirtual 195, 3) := by decide +kernel
theorem dL_law_1569 : decode cL_law 1569 = .ok (.if_icmp .eq 813, 3) := by decide +kernel
theorem dL_law_1572 : decode cL_law 1572 = .ok (.iconst 0, 1) := by decide +kernel
theorem dL_law_1573 : decode cL_law 1573 = .ok (.ireturn, 1) := by decide +kernel
theorem dL_law_1574 : decode cL_law 1574 = .ok (.aload_n 1, 1) := by decide +kernel
theorem dL_law_1575 : decode cL_law 1575 = .ok (.aload_n 0, 1) := by decide +kernel
theorem dL_law_1576 : decode cL_law 1576 = .ok (.iload 4, 2) := by decide +kernel
theorem dL_law_1578 : decode cL_law 1578 = .ok (.iconst 1, 1) := by decide +kernel
theorem dL_law_1579 : decode cL_law 1579 = .ok (.iadd, 1) := by decide +kernel
theorem dL_law_1580 : decode cL_law 1580 = .ok (.iaload, 1) := by decide +kernel
theorem dL_law_1581 : decode cL_law 1581 = .ok (.aload_n 0, 1) := by decide +kernel
theorem dL_law_1582 : decode cL_law 1582 = .ok (.iload 4, 2) := by decide +kernel
theorem dL_law_1584 : decode cL_law 1584 = .ok (.iconst 2, 1) := by decide +kernel
theorem dL_law_1585 : decode cL_law 1585 = .ok (.iadd, 1) := by decide +kernel
theorem dL_law_1586 : decode cL_law 1586 = .ok (.iaload, 1) := by decide +kernel
theorem dL_law_1587 : decode cL_law 1587 = .ok (.aload_n 3, 1) := by decide +kernel
theorem dL_law_1588 : decode cL_law 1588 = .ok (.invokestatic 196, 3) := by decide +kernel
theorem dL_law_1591 : decode cL_law 1591 = .ok (.istore 5, 2) := by decide +kernel
theorem dL_law_1593 : decode cL_law 1593 = .ok (.aload_n 2, 1) := by decide +kernel
theorem dL_law_1594 : decode cL_law 1594 = .ok (.aload_n 0, 1) := by decide +kernel
theorem dL_law_1595 : decode cL_law 1595 = .ok (.iload 4, 2) := by decide +kernel
theorem dL_law_1597 : decode cL_law 1597 = .ok (.iconst 1, 1) := by decide +kernel
theorem dL_law_1598 : decode cL_law 1598 = .ok (.iadd, 1) := by decide +kernel
theorem dL_law_1599 : decode cL_law 1599 = .ok (.iaload, 1) := by decide +kernel
theorem dL_law_1600 : decode cL_law 1600 = .ok (.aload_n 0, 1) := by decide +kernel
theorem dL_law_1601 : decode cL_law 1601 = .ok (.iload 4, 2) := by decide +kernel
theorem dL_law_1603 : decode cL_law 1603 = .ok (.iconst 2, 1) := by decide +kernel
theorem dL_law_1604 : decode cL_law 1604 = .ok (.iadd, 1) := by decide +kernel
theorem dL_law_1605 : decode cL_law 1605 = .ok (.iaload, 1) := by decide +kernel
theorem dL_law_1606 : decode cL_law 1606 = .ok (.invokevirtual 198, 3) := by decide +kernel
theorem dL_law_1609 : decode cL_law 1609 = .ok (.istore 6, 2) := by decide +kernel
theorem dL_law_1611 : decode cL_law 1611 = .ok (.aload_n 2, 1) := by decide +kernel
theorem dL_law_1612 : decode cL_law 1612 = .ok (.invokevirtual 119, 3) := by decide +kernel
theorem dL_law_1615 : decode cL_law 1615 = .ok (.iload 5, 2) := by decide +kernel
theorem dL_law_1617 : decode cL_law 1617 = .ok (.if_icmp .eq 5, 3) := by decide +kernel
theorem dL_law_1620 : decode cL_law 1620 = .ok (.iconst 0, 1) := by decide +kernel
theorem dL_law_1621 : decode cL_law 1621 = .ok (.ireturn, 1) := by decide +kernel
theorem dL_law_1622 : decode cL_law 1622 = .ok (.iload 5, 2) := by decide +kernel
theorem dL_law_1624 : decode cL_law 1624 = .ok (.ifCond .ne 15, 3) := by decide +kernel
theorem dL_law_1627 : decode cL_law 1627 = .ok (.aload_n 3, 1) := by decide +kernel
theorem dL_law_1628 : decode cL_law 1628 = .ok (.iconst 0, 1) := by decide +kernel
theorem dL_law_1629 : decode cL_law 1629 = .ok (.laload, 1) := by decide +kernel
theorem dL_law_1630 : decode cL_law 1630 = .ok (.iload 6, 2) := by decide +kernel
theorem dL_law_1632 : decode cL_law 1632 = .ok (.i2l, 1) := by decide +kernel
theorem dL_law_1633 : decode cL_law 1633 = .ok (.lcmp, 1) := by decide +kernel
theorem dL_law_1634 : decode cL_law 1634 = .ok (.ifCond .eq 5, 3) := by decide +kernel
theorem dL_law_1637 : decode cL_law 1637 = .ok (.iconst 0, 1) := by decide +kernel
theorem dL_law_1638 : decode cL_law 1638 = .ok (.ireturn, 1) := by decide +kernel
theorem dL_law_1639 : decode cL_law 1639 = .ok (.goto 743, 3) := by decide +kernel
theorem dL_law_1642 : decode cL_law 1642 = .ok (.aload_n 1, 1) := by decide +kernel
theorem dL_law_1643 : decode cL_law 1643 = .ok (.aload_n 0, 1) := by decide +kernel
theorem dL_law_1644 : decode cL_law 1644 = .ok (.iload 4, 2) := by decide +kernel
theorem dL_law_1646 : decode cL_law 1646 = .ok (.iconst 1, 1) := by decide +kernel
theorem dL_law_1647 : decode cL_law 1647 = .ok (.iadd, 1) := by decide +kernel
theorem dL_law_1648 : decode cL_law 1648 = .ok (.iaload, 1) := by decide +kernel
theorem dL_law_1649 : decode cL_law 1649 = .ok (.aload_n 3, 1) := by decide +kernel
theorem dL_law_1650 : decode cL_law 1650 = .ok (.invokestatic 199, 3) := by decide +kernel
theorem dL_law_1653 : decode cL_law 1653 = .ok (.istore 5, 2) := by decide +kernel
theorem dL_law_1655 : decode cL_law 1655 = .ok (.aload_n 2, 1) := by decide +kernel
theorem dL_law_1656 : decode cL_law 1656 = .ok (.aload_n 0, 1) := by decide +kernel
theorem dL_law_1657 : decode cL_law 1657 = .ok (.iload 4, 2) := by decide +kernel
theorem dL_law_1659 : decode cL_law 1659 = .ok (.iconst 1, 1) := by decide +kernel
theorem dL_law_1660 : decode cL_law 1660 = .ok (.iadd, 1) := by decide +kernel
theorem dL_law_1661 : decode cL_law 1661 = .ok (.iaload, 1) := by decide +kernel
theorem dL_law_1662 : decode cL_law 1662 = .ok (.invokevirtual 201, 3) := by decide +kernel
theorem dL_law_1665 : decode cL_law 1665 = .ok (.istore 6, 2) := by decide +kernel
theorem dL_law_1667 : decode cL_law 1667 = .ok (.aload_n 2, 1) := by decide +kernel
theorem dL_law_1668 : decode cL_law 1668 = .ok (.invokevirtual 119, 3) := by decide +kernel
theorem dL_law_1671 : decode cL_law 1671 = .ok (.iload 5, 2) := by decide +kernel
theorem dL_law_1673 : decode cL_law 1673 = .ok (.if_icmp .eq 5, 3) := by decide +kernel
theorem dL_law_1676 : decode cL_law 1676 = .ok (.iconst 0, 1) := by decide +kernel
theorem dL_law_1677 : decode cL_law 1677 = .ok (.ireturn, 1) := by decide +kernel
theorem dL_law_1678 : decode cL_law 1678 = .ok (.iload 5, 2) := by decide +kernel
theorem dL_law_1680 : decode cL_law 1680 = .ok (.ifCond .ne 15, 3) := by decide +kernel
theorem dL_law_1683 : decode cL_law 1683 = .ok (.aload_n 3, 1) := by decide +kernel
theorem dL_law_1684 : decode cL_law 1684 = .ok (.iconst 0, 1) := by decide +kernel
theorem dL_law_1685 : decode cL_law 1685 = .ok (.laload, 1) := by decide +kernel
