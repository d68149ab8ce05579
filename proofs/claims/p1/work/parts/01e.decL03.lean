theorem ni_dL_law_1297 : decode cL_law 1297 = .ok (.iaload, 1) := by decide +kernel
theorem ni_dL_law_1298 : decode cL_law 1298 = .ok (.aload_n 3, 1) := by decide +kernel
theorem ni_dL_law_1299 : decode cL_law 1299 = .ok (.invokestatic 205, 3) := by decide +kernel
theorem ni_dL_law_1302 : decode cL_law 1302 = .ok (.istore 6, 2) := by decide +kernel
theorem ni_dL_law_1304 : decode cL_law 1304 = .ok (.aload_n 2, 1) := by decide +kernel
theorem ni_dL_law_1305 : decode cL_law 1305 = .ok (.aload_n 0, 1) := by decide +kernel
theorem ni_dL_law_1306 : decode cL_law 1306 = .ok (.iload 5, 2) := by decide +kernel
theorem ni_dL_law_1308 : decode cL_law 1308 = .ok (.iconst 1, 1) := by decide +kernel
theorem ni_dL_law_1309 : decode cL_law 1309 = .ok (.iadd, 1) := by decide +kernel
theorem ni_dL_law_1310 : decode cL_law 1310 = .ok (.iaload, 1) := by decide +kernel
theorem ni_dL_law_1311 : decode cL_law 1311 = .ok (.aload_n 0, 1) := by decide +kernel
theorem ni_dL_law_1312 : decode cL_law 1312 = .ok (.iload 5, 2) := by decide +kernel
theorem ni_dL_law_1314 : decode cL_law 1314 = .ok (.iconst 2, 1) := by decide +kernel
theorem ni_dL_law_1315 : decode cL_law 1315 = .ok (.iadd, 1) := by decide +kernel
theorem ni_dL_law_1316 : decode cL_law 1316 = .ok (.iaload, 1) := by decide +kernel
theorem ni_dL_law_1317 : decode cL_law 1317 = .ok (.aload_n 0, 1) := by decide +kernel
theorem ni_dL_law_1318 : decode cL_law 1318 = .ok (.iload 5, 2) := by decide +kernel
theorem ni_dL_law_1320 : decode cL_law 1320 = .ok (.iconst 3, 1) := by decide +kernel
theorem ni_dL_law_1321 : decode cL_law 1321 = .ok (.iadd, 1) := by decide +kernel
theorem ni_dL_law_1322 : decode cL_law 1322 = .ok (.iaload, 1) := by decide +kernel
theorem ni_dL_law_1323 : decode cL_law 1323 = .ok (.invokevirtual 207, 3) := by decide +kernel
theorem ni_dL_law_1326 : decode cL_law 1326 = .ok (.istore 7, 2) := by decide +kernel
theorem ni_dL_law_1328 : decode cL_law 1328 = .ok (.aload_n 2, 1) := by decide +kernel
theorem ni_dL_law_1329 : decode cL_law 1329 = .ok (.invokevirtual 161, 3) := by decide +kernel
theorem ni_dL_law_1332 : decode cL_law 1332 = .ok (.iload 6, 2) := by decide +kernel
theorem ni_dL_law_1334 : decode cL_law 1334 = .ok (.if_icmp .eq 5, 3) := by decide +kernel
theorem ni_dL_law_1339 : decode cL_law 1339 = .ok (.iload 6, 2) := by decide +kernel
theorem ni_dL_law_1341 : decode cL_law 1341 = .ok (.ifCond .ne 15, 3) := by decide +kernel
theorem ni_dL_law_1356 : decode cL_law 1356 = .ok (.goto 1961, 3) := by decide +kernel
theorem ni_dL_law_1359 : decode cL_law 1359 = .ok (.aload_n 1, 1) := by decide +kernel
theorem ni_dL_law_1360 : decode cL_law 1360 = .ok (.aload_n 0, 1) := by decide +kernel
theorem ni_dL_law_1361 : decode cL_law 1361 = .ok (.iload 5, 2) := by decide +kernel
theorem ni_dL_law_1363 : decode cL_law 1363 = .ok (.iconst 1, 1) := by decide +kernel
theorem ni_dL_law_1364 : decode cL_law 1364 = .ok (.iadd, 1) := by decide +kernel
theorem ni_dL_law_1365 : decode cL_law 1365 = .ok (.iaload, 1) := by decide +kernel
theorem ni_dL_law_1366 : decode cL_law 1366 = .ok (.aload_n 3, 1) := by decide +kernel
theorem ni_dL_law_1367 : decode cL_law 1367 = .ok (.invokestatic 208, 3) := by decide +kernel
theorem ni_dL_law_1370 : decode cL_law 1370 = .ok (.istore 6, 2) := by decide +kernel
theorem ni_dL_law_1372 : decode cL_law 1372 = .ok (.aload_n 2, 1) := by decide +kernel
theorem ni_dL_law_1373 : decode cL_law 1373 = .ok (.aload_n 0, 1) := by decide +kernel
theorem ni_dL_law_1374 : decode cL_law 1374 = .ok (.iload 5, 2) := by decide +kernel
theorem ni_dL_law_1376 : decode cL_law 1376 = .ok (.iconst 1, 1) := by decide +kernel
theorem ni_dL_law_1377 : decode cL_law 1377 = .ok (.iadd, 1) := by decide +kernel
theorem ni_dL_law_1378 : decode cL_law 1378 = .ok (.iaload, 1) := by decide +kernel
theorem ni_dL_law_1379 : decode cL_law 1379 = .ok (.invokevirtual 210, 3) := by decide +kernel
theorem ni_dL_law_1382 : decode cL_law 1382 = .ok (.istore 7, 2) := by decide +kernel
theorem ni_dL_law_1384 : decode cL_law 1384 = .ok (.aload_n 2, 1) := by decide +kernel
theorem ni_dL_law_1385 : decode cL_law 1385 = .ok (.invokevirtual 161, 3) := by decide +kernel
theorem ni_dL_law_1388 : decode cL_law 1388 = .ok (.iload 6, 2) := by decide +kernel
theorem ni_dL_law_1390 : decode cL_law 1390 = .ok (.if_icmp .eq 5, 3) := by decide +kernel
theorem ni_dL_law_1395 : decode cL_law 1395 = .ok (.iload 6, 2) := by decide +kernel
theorem ni_dL_law_1397 : decode cL_law 1397 = .ok (.ifCond .ne 15, 3) := by decide +kernel
theorem ni_dL_law_1400 : decode cL_law 1400 = .ok (.aload_n 3, 1) := by decide +kernel
theorem ni_dL_law_1401 : decode cL_law 1401 = .ok (.iconst 0, 1) := by decide +kernel
theorem ni_dL_law_1402 : decode cL_law 1402 = .ok (.laload, 1) := by decide +kernel
theorem ni_dL_law_1403 : decode cL_law 1403 = .ok (.iload 7, 2) := by decide +kernel
theorem ni_dL_law_1405 : decode cL_law 1405 = .ok (.i2l, 1) := by decide +kernel
theorem ni_dL_law_1406 : decode cL_law 1406 = .ok (.lcmp, 1) := by decide +kernel
theorem ni_dL_law_1407 : decode cL_law 1407 = .ok (.ifCond .eq 5, 3) := by decide +kernel
theorem ni_dL_law_1412 : decode cL_law 1412 = .ok (.goto 1905, 3) := by decide +kernel
theorem ni_dL_law_1415 : decode cL_law 1415 = .ok (.aload_n 1, 1) := by decide +kernel
theorem ni_dL_law_1416 : decode cL_law 1416 = .ok (.invokevirtual 211, 3) := by decide +kernel
theorem ni_dL_law_1419 : decode cL_law 1419 = .ok (.aload_n 2, 1) := by decide +kernel
theorem ni_dL_law_1420 : decode cL_law 1420 = .ok (.invokevirtual 214, 3) := by decide +kernel
theorem ni_dL_law_1423 : decode cL_law 1423 = .ok (.if_icmp .eq 1894, 3) := by decide +kernel
theorem ni_dL_law_1428 : decode cL_law 1428 = .ok (.aload_n 1, 1) := by decide +kernel
theorem ni_dL_law_1429 : decode cL_law 1429 = .ok (.invokevirtual 215, 3) := by decide +kernel
theorem ni_dL_law_1432 : decode cL_law 1432 = .ok (.aload_n 2, 1) := by decide +kernel
theorem ni_dL_law_1433 : decode cL_law 1433 = .ok (.invokevirtual 218, 3) := by decide +kernel
theorem ni_dL_law_1436 : decode cL_law 1436 = .ok (.if_icmp .eq 1881, 3) := by decide +kernel
theorem ni_dL_law_1441 : decode cL_law 1441 = .ok (.aload_n 1, 1) := by decide +kernel
theorem ni_dL_law_1442 : decode cL_law 1442 = .ok (.invokevirtual 219, 3) := by decide +kernel
theorem ni_dL_law_1445 : decode cL_law 1445 = .ok (.aload_n 2, 1) := by decide +kernel
theorem ni_dL_law_1446 : decode cL_law 1446 = .ok (.invokevirtual 222, 3) := by decide +kernel
theorem ni_dL_law_1449 : decode cL_law 1449 = .ok (.if_icmp .eq 1868, 3) := by decide +kernel
theorem ni_dL_law_1454 : decode cL_law 1454 = .ok (.aload_n 1, 1) := by decide +kernel
theorem ni_dL_law_1455 : decode cL_law 1455 = .ok (.invokevirtual 223, 3) := by decide +kernel
theorem ni_dL_law_1458 : decode cL_law 1458 = .ok (.aload_n 2, 1) := by decide +kernel
theorem ni_dL_law_1459 : decode cL_law 1459 = .ok (.invokevirtual 226, 3) := by decide +kernel
theorem ni_dL_law_1462 : decode cL_law 1462 = .ok (.if_icmp .eq 1855, 3) := by decide +kernel
theorem ni_dL_law_1467 : decode cL_law 1467 = .ok (.aload_n 1, 1) := by decide +kernel
theorem ni_dL_law_1468 : decode cL_law 1468 = .ok (.invokevirtual 227, 3) := by decide +kernel
theorem ni_dL_law_1471 : decode cL_law 1471 = .ok (.aload_n 2, 1) := by decide +kernel
theorem ni_dL_law_1472 : decode cL_law 1472 = .ok (.invokevirtual 230, 3) := by decide +kernel
theorem ni_dL_law_1475 : decode cL_law 1475 = .ok (.if_icmp .eq 1842, 3) := by decide +kernel
theorem ni_dL_law_1480 : decode cL_law 1480 = .ok (.aload_n 1, 1) := by decide +kernel
theorem ni_dL_law_1481 : decode cL_law 1481 = .ok (.invokevirtual 231, 3) := by decide +kernel
theorem ni_dL_law_1484 : decode cL_law 1484 = .ok (.aload_n 2, 1) := by decide +kernel
theorem ni_dL_law_1485 : decode cL_law 1485 = .ok (.invokevirtual 234, 3) := by decide +kernel
theorem ni_dL_law_1488 : decode cL_law 1488 = .ok (.if_icmp .eq 1829, 3) := by decide +kernel
theorem ni_dL_law_1493 : decode cL_law 1493 = .ok (.aload_n 1, 1) := by decide +kernel
theorem ni_dL_law_1494 : decode cL_law 1494 = .ok (.aload_n 0, 1) := by decide +kernel
theorem ni_dL_law_1495 : decode cL_law 1495 = .ok (.iload 5, 2) := by decide +kernel
theorem ni_dL_law_1497 : decode cL_law 1497 = .ok (.iconst 1, 1) := by decide +kernel
theorem ni_dL_law_1498 : decode cL_law 1498 = .ok (.iadd, 1) := by decide +kernel
theorem ni_dL_law_1499 : decode cL_law 1499 = .ok (.iaload, 1) := by decide +kernel
theorem ni_dL_law_1500 : decode cL_law 1500 = .ok (.aload_n 3, 1) := by decide +kernel
theorem ni_dL_law_1501 : decode cL_law 1501 = .ok (.invokestatic 235, 3) := by decide +kernel
theorem ni_dL_law_1504 : decode cL_law 1504 = .ok (.istore 6, 2) := by decide +kernel
theorem ni_dL_law_1506 : decode cL_law 1506 = .ok (.aload_n 2, 1) := by decide +kernel
theorem ni_dL_law_1507 : decode cL_law 1507 = .ok (.aload_n 0, 1) := by decide +kernel
theorem ni_dL_law_1508 : decode cL_law 1508 = .ok (.iload 5, 2) := by decide +kernel
theorem ni_dL_law_1510 : decode cL_law 1510 = .ok (.iconst 1, 1) := by decide +kernel
theorem ni_dL_law_1511 : decode cL_law 1511 = .ok (.iadd, 1) := by decide +kernel
theorem ni_dL_law_1512 : decode cL_law 1512 = .ok (.iaload, 1) := by decide +kernel
theorem ni_dL_law_1513 : decode cL_law 1513 = .ok (.invokevirtual 237, 3) := by decide +kernel
theorem ni_dL_law_1516 : decode cL_law 1516 = .ok (.istore 7, 2) := by decide +kernel
theorem ni_dL_law_1518 : decode cL_law 1518 = .ok (.aload_n 2, 1) := by decide +kernel
theorem ni_dL_law_1519 : decode cL_law 1519 = .ok (.invokevirtual 161, 3) := by decide +kernel
theorem ni_dL_law_1522 : decode cL_law 1522 = .ok (.iload 6, 2) := by decide +kernel
theorem ni_dL_law_1524 : decode cL_law 1524 = .ok (.if_icmp .eq 5, 3) := by decide +kernel
theorem ni_dL_law_1529 : decode cL_law 1529 = .ok (.iload 6, 2) := by decide +kernel
theorem ni_dL_law_1531 : decode cL_law 1531 = .ok (.ifCond .ne 22, 3) := by decide +kernel
theorem ni_dL_law_1553 : decode cL_law 1553 = .ok (.goto 1764, 3) := by decide +kernel
theorem ni_dL_law_1556 : decode cL_law 1556 = .ok (.aload_n 1, 1) := by decide +kernel
theorem ni_dL_law_1557 : decode cL_law 1557 = .ok (.aload_n 0, 1) := by decide +kernel
theorem ni_dL_law_1558 : decode cL_law 1558 = .ok (.iload 5, 2) := by decide +kernel
theorem ni_dL_law_1560 : decode cL_law 1560 = .ok (.iconst 1, 1) := by decide +kernel
theorem ni_dL_law_1561 : decode cL_law 1561 = .ok (.iadd, 1) := by decide +kernel
theorem ni_dL_law_1562 : decode cL_law 1562 = .ok (.iaload, 1) := by decide +kernel
theorem ni_dL_law_1563 : decode cL_law 1563 = .ok (.aload_n 0, 1) := by decide +kernel
theorem ni_dL_law_1564 : decode cL_law 1564 = .ok (.iload 5, 2) := by decide +kernel
theorem ni_dL_law_1566 : decode cL_law 1566 = .ok (.iconst 2, 1) := by decide +kernel
theorem ni_dL_law_1567 : decode cL_law 1567 = .ok (.iadd, 1) := by decide +kernel
theorem ni_dL_law_1568 : decode cL_law 1568 = .ok (.iaload, 1) := by decide +kernel
theorem ni_dL_law_1569 : decode cL_law 1569 = .ok (.aload_n 3, 1) := by decide +kernel
theorem ni_dL_law_1570 : decode cL_law 1570 = .ok (.invokestatic 238, 3) := by decide +kernel
theorem ni_dL_law_1573 : decode cL_law 1573 = .ok (.istore 6, 2) := by decide +kernel
theorem ni_dL_law_1575 : decode cL_law 1575 = .ok (.aload_n 2, 1) := by decide +kernel
theorem ni_dL_law_1576 : decode cL_law 1576 = .ok (.aload_n 0, 1) := by decide +kernel
theorem ni_dL_law_1577 : decode cL_law 1577 = .ok (.iload 5, 2) := by decide +kernel
theorem ni_dL_law_1579 : decode cL_law 1579 = .ok (.iconst 1, 1) := by decide +kernel
theorem ni_dL_law_1580 : decode cL_law 1580 = .ok (.iadd, 1) := by decide +kernel
theorem ni_dL_law_1581 : decode cL_law 1581 = .ok (.iaload, 1) := by decide +kernel
theorem ni_dL_law_1582 : decode cL_law 1582 = .ok (.aload_n 0, 1) := by decide +kernel
theorem ni_dL_law_1583 : decode cL_law 1583 = .ok (.iload 5, 2) := by decide +kernel
theorem ni_dL_law_1585 : decode cL_law 1585 = .ok (.iconst 2, 1) := by decide +kernel
theorem ni_dL_law_1586 : decode cL_law 1586 = .ok (.iadd, 1) := by decide +kernel
theorem ni_dL_law_1587 : decode cL_law 1587 = .ok (.iaload, 1) := by decide +kernel
theorem ni_dL_law_1588 : decode cL_law 1588 = .ok (.invokevirtual 240, 3) := by decide +kernel
theorem ni_dL_law_1591 : decode cL_law 1591 = .ok (.istore 7, 2) := by decide +kernel
theorem ni_dL_law_1593 : decode cL_law 1593 = .ok (.aload_n 2, 1) := by decide +kernel
theorem ni_dL_law_1594 : decode cL_law 1594 = .ok (.invokevirtual 161, 3) := by decide +kernel
theorem ni_dL_law_1597 : decode cL_law 1597 = .ok (.iload 6, 2) := by decide +kernel
theorem ni_dL_law_1599 : decode cL_law 1599 = .ok (.if_icmp .eq 5, 3) := by decide +kernel
theorem ni_dL_law_1604 : decode cL_law 1604 = .ok (.iload 6, 2) := by decide +kernel
theorem ni_dL_law_1606 : decode cL_law 1606 = .ok (.ifCond .ne 15, 3) := by decide +kernel
theorem ni_dL_law_1621 : decode cL_law 1621 = .ok (.goto 1696, 3) := by decide +kernel
theorem ni_dL_law_1624 : decode cL_law 1624 = .ok (.aload_n 1, 1) := by decide +kernel
theorem ni_dL_law_1625 : decode cL_law 1625 = .ok (.invokevirtual 241, 3) := by decide +kernel
theorem ni_dL_law_1628 : decode cL_law 1628 = .ok (.aload_n 2, 1) := by decide +kernel
theorem ni_dL_law_1629 : decode cL_law 1629 = .ok (.invokevirtual 244, 3) := by decide +kernel
theorem ni_dL_law_1632 : decode cL_law 1632 = .ok (.if_icmp .eq 1685, 3) := by decide +kernel
theorem ni_dL_law_1637 : decode cL_law 1637 = .ok (.aload_n 1, 1) := by decide +kernel
theorem ni_dL_law_1638 : decode cL_law 1638 = .ok (.invokevirtual 245, 3) := by decide +kernel
theorem ni_dL_law_1641 : decode cL_law 1641 = .ok (.aload_n 2, 1) := by decide +kernel
theorem ni_dL_law_1642 : decode cL_law 1642 = .ok (.invokevirtual 249, 3) := by decide +kernel
theorem ni_dL_law_1645 : decode cL_law 1645 = .ok (.if_icmp .eq 1672, 3) := by decide +kernel
theorem ni_dL_law_1650 : decode cL_law 1650 = .ok (.aload_n 1, 1) := by decide +kernel
theorem ni_dL_law_1651 : decode cL_law 1651 = .ok (.aload_n 0, 1) := by decide +kernel
theorem ni_dL_law_1652 : decode cL_law 1652 = .ok (.iload 5, 2) := by decide +kernel
theorem ni_dL_law_1654 : decode cL_law 1654 = .ok (.iconst 1, 1) := by decide +kernel
theorem ni_dL_law_1655 : decode cL_law 1655 = .ok (.iadd, 1) := by decide +kernel
theorem ni_dL_law_1656 : decode cL_law 1656 = .ok (.iaload, 1) := by decide +kernel
theorem ni_dL_law_1657 : decode cL_law 1657 = .ok (.aload_n 0, 1) := by decide +kernel
theorem ni_dL_law_1658 : decode cL_law 1658 = .ok (.iload 5, 2) := by decide +kernel
theorem ni_dL_law_1660 : decode cL_law 1660 = .ok (.iconst 2, 1) := by decide +kernel
theorem ni_dL_law_1661 : decode cL_law 1661 = .ok (.iadd, 1) := by decide +kernel
theorem ni_dL_law_1662 : decode cL_law 1662 = .ok (.iaload, 1) := by decide +kernel
theorem ni_dL_law_1663 : decode cL_law 1663 = .ok (.aload_n 3, 1) := by decide +kernel
theorem ni_dL_law_1664 : decode cL_law 1664 = .ok (.invokestatic 250, 3) := by decide +kernel
theorem ni_dL_law_1667 : decode cL_law 1667 = .ok (.istore 6, 2) := by decide +kernel
theorem ni_dL_law_1669 : decode cL_law 1669 = .ok (.aload_n 2, 1) := by decide +kernel
theorem ni_dL_law_1670 : decode cL_law 1670 = .ok (.aload_n 0, 1) := by decide +kernel
theorem ni_dL_law_1671 : decode cL_law 1671 = .ok (.iload 5, 2) := by decide +kernel
theorem ni_dL_law_1673 : decode cL_law 1673 = .ok (.iconst 1, 1) := by decide +kernel
theorem ni_dL_law_1674 : decode cL_law 1674 = .ok (.iadd, 1) := by decide +kernel
theorem ni_dL_law_1675 : decode cL_law 1675 = .ok (.iaload, 1) := by decide +kernel
theorem ni_dL_law_1676 : decode cL_law 1676 = .ok (.aload_n 0, 1) := by decide +kernel
theorem ni_dL_law_1677 : decode cL_law 1677 = .ok (.iload 5, 2) := by decide +kernel
theorem ni_dL_law_1679 : decode cL_law 1679 = .ok (.iconst 2, 1) := by decide +kernel
theorem ni_dL_law_1680 : decode cL_law 1680 = .ok (.iadd, 1) := by decide +kernel
theorem ni_dL_law_1681 : decode cL_law 1681 = .ok (.iaload, 1) := by decide +kernel
theorem ni_dL_law_1682 : decode cL_law 1682 = .ok (.invokevirtual 252, 3) := by decide +kernel
theorem ni_dL_law_1685 : decode cL_law 1685 = .ok (.istore 7, 2) := by decide +kernel
theorem ni_dL_law_1687 : decode cL_law 1687 = .ok (.aload_n 2, 1) := by decide +kernel
theorem ni_dL_law_1688 : decode cL_law 1688 = .ok (.invokevirtual 161, 3) := by decide +kernel
theorem ni_dL_law_1691 : decode cL_law 1691 = .ok (.iload 6, 2) := by decide +kernel
theorem ni_dL_law_1693 : decode cL_law 1693 = .ok (.if_icmp .eq 5, 3) := by decide +kernel
theorem ni_dL_law_1698 : decode cL_law 1698 = .ok (.iload 6, 2) := by decide +kernel
theorem ni_dL_law_1700 : decode cL_law 1700 = .ok (.ifCond .ne 15, 3) := by decide +kernel
theorem ni_dL_law_1715 : decode cL_law 1715 = .ok (.goto 1602, 3) := by decide +kernel
theorem ni_dL_law_1718 : decode cL_law 1718 = .ok (.aload_n 1, 1) := by decide +kernel
theorem ni_dL_law_1719 : decode cL_law 1719 = .ok (.aload_n 0, 1) := by decide +kernel
theorem ni_dL_law_1720 : decode cL_law 1720 = .ok (.iload 5, 2) := by decide +kernel
theorem ni_dL_law_1722 : decode cL_law 1722 = .ok (.iconst 1, 1) := by decide +kernel
theorem ni_dL_law_1723 : decode cL_law 1723 = .ok (.iadd, 1) := by decide +kernel
theorem ni_dL_law_1724 : decode cL_law 1724 = .ok (.iaload, 1) := by decide +kernel
theorem ni_dL_law_1725 : decode cL_law 1725 = .ok (.aload_n 0, 1) := by decide +kernel
theorem ni_dL_law_1726 : decode cL_law 1726 = .ok (.iload 5, 2) := by decide +kernel
