/-! WHAT STANDS AT EVERY PLACE OF THE LAW, 4 -/
theorem cl361_20 : ([(1406, .if_icmp .eq 5, 1409), (1409, .iconst 0, 1410), (1410, .ireturn, 1411), (1411, .iload 5, 1413), (1413, .ifCond .ne 15, 1416), (1416, .aload_n 3, 1417), (1417, .iconst 0, 1418), (1418, .laload, 1419), (1419, .iload 6, 1421), (1421, .i2l, 1422), (1422, .lcmp, 1423), (1423, .ifCond .eq 5, 1426), (1426, .iconst 0, 1427), (1427, .ireturn, 1428), (1428, .goto 1148, 1431), (1431, .aload_n 1, 1432), (1432, .aload_n 0, 1433), (1433, .iload 4, 1435), (1435, .iconst 1, 1436), (1436, .iadd, 1437), (1437, .iaload, 1438), (1438, .aload_n 3, 1439), (1439, .invokestatic 198, 1442), (1442, .istore 5, 1444), (1444, .aload_n 2, 1445), (1445, .aload_n 0, 1446), (1446, .iload 4, 1448), (1448, .iconst 1, 1449), (1449, .iadd, 1450), (1450, .iaload, 1451), (1451, .invokevirtual 200, 1454), (1454, .istore 6, 1456), (1456, .aload_n 2, 1457), (1457, .invokevirtual 128, 1460), (1460, .iload 5, 1462), (1462, .if_icmp .eq 5, 1465), (1465, .iconst 0, 1466), (1466, .ireturn, 1467), (1467, .iload 5, 1469), (1469, .ifCond .ne 15, 1472)] : List (Nat × Instr × Nat)).all (fun q => decide (pm_code 361 q.1 = some q.2)) = true := by decide +kernel
theorem c361_1406 : pm_code 361 1406 = some (.if_icmp .eq 5, 1409) := pm_of cl361_20 0 (q := (1406, .if_icmp .eq 5, 1409)) rfl
theorem c361_1409 : pm_code 361 1409 = some (.iconst 0, 1410) := pm_of cl361_20 1 (q := (1409, .iconst 0, 1410)) rfl
theorem c361_1410 : pm_code 361 1410 = some (.ireturn, 1411) := pm_of cl361_20 2 (q := (1410, .ireturn, 1411)) rfl
theorem c361_1411 : pm_code 361 1411 = some (.iload 5, 1413) := pm_of cl361_20 3 (q := (1411, .iload 5, 1413)) rfl
theorem c361_1413 : pm_code 361 1413 = some (.ifCond .ne 15, 1416) := pm_of cl361_20 4 (q := (1413, .ifCond .ne 15, 1416)) rfl
theorem c361_1416 : pm_code 361 1416 = some (.aload_n 3, 1417) := pm_of cl361_20 5 (q := (1416, .aload_n 3, 1417)) rfl
theorem c361_1417 : pm_code 361 1417 = some (.iconst 0, 1418) := pm_of cl361_20 6 (q := (1417, .iconst 0, 1418)) rfl
theorem c361_1418 : pm_code 361 1418 = some (.laload, 1419) := pm_of cl361_20 7 (q := (1418, .laload, 1419)) rfl
theorem c361_1419 : pm_code 361 1419 = some (.iload 6, 1421) := pm_of cl361_20 8 (q := (1419, .iload 6, 1421)) rfl
theorem c361_1421 : pm_code 361 1421 = some (.i2l, 1422) := pm_of cl361_20 9 (q := (1421, .i2l, 1422)) rfl
theorem c361_1422 : pm_code 361 1422 = some (.lcmp, 1423) := pm_of cl361_20 10 (q := (1422, .lcmp, 1423)) rfl
theorem c361_1423 : pm_code 361 1423 = some (.ifCond .eq 5, 1426) := pm_of cl361_20 11 (q := (1423, .ifCond .eq 5, 1426)) rfl
theorem c361_1426 : pm_code 361 1426 = some (.iconst 0, 1427) := pm_of cl361_20 12 (q := (1426, .iconst 0, 1427)) rfl
theorem c361_1427 : pm_code 361 1427 = some (.ireturn, 1428) := pm_of cl361_20 13 (q := (1427, .ireturn, 1428)) rfl
theorem c361_1428 : pm_code 361 1428 = some (.goto 1148, 1431) := pm_of cl361_20 14 (q := (1428, .goto 1148, 1431)) rfl
theorem c361_1431 : pm_code 361 1431 = some (.aload_n 1, 1432) := pm_of cl361_20 15 (q := (1431, .aload_n 1, 1432)) rfl
theorem c361_1432 : pm_code 361 1432 = some (.aload_n 0, 1433) := pm_of cl361_20 16 (q := (1432, .aload_n 0, 1433)) rfl
theorem c361_1433 : pm_code 361 1433 = some (.iload 4, 1435) := pm_of cl361_20 17 (q := (1433, .iload 4, 1435)) rfl
theorem c361_1435 : pm_code 361 1435 = some (.iconst 1, 1436) := pm_of cl361_20 18 (q := (1435, .iconst 1, 1436)) rfl
theorem c361_1436 : pm_code 361 1436 = some (.iadd, 1437) := pm_of cl361_20 19 (q := (1436, .iadd, 1437)) rfl
theorem c361_1437 : pm_code 361 1437 = some (.iaload, 1438) := pm_of cl361_20 20 (q := (1437, .iaload, 1438)) rfl
theorem c361_1438 : pm_code 361 1438 = some (.aload_n 3, 1439) := pm_of cl361_20 21 (q := (1438, .aload_n 3, 1439)) rfl
theorem c361_1439 : pm_code 361 1439 = some (.invokestatic 198, 1442) := pm_of cl361_20 22 (q := (1439, .invokestatic 198, 1442)) rfl
theorem c361_1442 : pm_code 361 1442 = some (.istore 5, 1444) := pm_of cl361_20 23 (q := (1442, .istore 5, 1444)) rfl
theorem c361_1444 : pm_code 361 1444 = some (.aload_n 2, 1445) := pm_of cl361_20 24 (q := (1444, .aload_n 2, 1445)) rfl
theorem c361_1445 : pm_code 361 1445 = some (.aload_n 0, 1446) := pm_of cl361_20 25 (q := (1445, .aload_n 0, 1446)) rfl
theorem c361_1446 : pm_code 361 1446 = some (.iload 4, 1448) := pm_of cl361_20 26 (q := (1446, .iload 4, 1448)) rfl
theorem c361_1448 : pm_code 361 1448 = some (.iconst 1, 1449) := pm_of cl361_20 27 (q := (1448, .iconst 1, 1449)) rfl
theorem c361_1449 : pm_code 361 1449 = some (.iadd, 1450) := pm_of cl361_20 28 (q := (1449, .iadd, 1450)) rfl
theorem c361_1450 : pm_code 361 1450 = some (.iaload, 1451) := pm_of cl361_20 29 (q := (1450, .iaload, 1451)) rfl
theorem c361_1451 : pm_code 361 1451 = some (.invokevirtual 200, 1454) := pm_of cl361_20 30 (q := (1451, .invokevirtual 200, 1454)) rfl
theorem c361_1454 : pm_code 361 1454 = some (.istore 6, 1456) := pm_of cl361_20 31 (q := (1454, .istore 6, 1456)) rfl
theorem c361_1456 : pm_code 361 1456 = some (.aload_n 2, 1457) := pm_of cl361_20 32 (q := (1456, .aload_n 2, 1457)) rfl
theorem c361_1457 : pm_code 361 1457 = some (.invokevirtual 128, 1460) := pm_of cl361_20 33 (q := (1457, .invokevirtual 128, 1460)) rfl
theorem c361_1460 : pm_code 361 1460 = some (.iload 5, 1462) := pm_of cl361_20 34 (q := (1460, .iload 5, 1462)) rfl
theorem c361_1462 : pm_code 361 1462 = some (.if_icmp .eq 5, 1465) := pm_of cl361_20 35 (q := (1462, .if_icmp .eq 5, 1465)) rfl
theorem c361_1465 : pm_code 361 1465 = some (.iconst 0, 1466) := pm_of cl361_20 36 (q := (1465, .iconst 0, 1466)) rfl
theorem c361_1466 : pm_code 361 1466 = some (.ireturn, 1467) := pm_of cl361_20 37 (q := (1466, .ireturn, 1467)) rfl
theorem c361_1467 : pm_code 361 1467 = some (.iload 5, 1469) := pm_of cl361_20 38 (q := (1467, .iload 5, 1469)) rfl
theorem c361_1469 : pm_code 361 1469 = some (.ifCond .ne 15, 1472) := pm_of cl361_20 39 (q := (1469, .ifCond .ne 15, 1472)) rfl
theorem cl361_21 : ([(1472, .aload_n 3, 1473), (1473, .iconst 0, 1474), (1474, .laload, 1475), (1475, .iload 6, 1477), (1477, .i2l, 1478), (1478, .lcmp, 1479), (1479, .ifCond .eq 5, 1482), (1482, .iconst 0, 1483), (1483, .ireturn, 1484), (1484, .goto 1092, 1487), (1487, .aload_n 1, 1488), (1488, .aload_n 0, 1489), (1489, .iload 4, 1491), (1491, .iconst 1, 1492), (1492, .iadd, 1493), (1493, .iaload, 1494), (1494, .aload_n 3, 1495), (1495, .invokestatic 201, 1498), (1498, .istore 5, 1500), (1500, .aload_n 2, 1501), (1501, .aload_n 0, 1502), (1502, .iload 4, 1504), (1504, .iconst 1, 1505), (1505, .iadd, 1506), (1506, .iaload, 1507), (1507, .invokevirtual 203, 1510), (1510, .istore 6, 1512), (1512, .aload_n 2, 1513), (1513, .invokevirtual 128, 1516), (1516, .iload 5, 1518), (1518, .if_icmp .eq 5, 1521), (1521, .iconst 0, 1522), (1522, .ireturn, 1523), (1523, .iload 5, 1525), (1525, .ifCond .ne 22, 1528), (1528, .aload_n 3, 1529), (1529, .iconst 0, 1530), (1530, .laload, 1531), (1531, .iload 6, 1533), (1533, .ifCond .eq 7, 1536)] : List (Nat × Instr × Nat)).all (fun q => decide (pm_code 361 q.1 = some q.2)) = true := by decide +kernel
theorem c361_1472 : pm_code 361 1472 = some (.aload_n 3, 1473) := pm_of cl361_21 0 (q := (1472, .aload_n 3, 1473)) rfl
theorem c361_1473 : pm_code 361 1473 = some (.iconst 0, 1474) := pm_of cl361_21 1 (q := (1473, .iconst 0, 1474)) rfl
theorem c361_1474 : pm_code 361 1474 = some (.laload, 1475) := pm_of cl361_21 2 (q := (1474, .laload, 1475)) rfl
theorem c361_1475 : pm_code 361 1475 = some (.iload 6, 1477) := pm_of cl361_21 3 (q := (1475, .iload 6, 1477)) rfl
theorem c361_1477 : pm_code 361 1477 = some (.i2l, 1478) := pm_of cl361_21 4 (q := (1477, .i2l, 1478)) rfl
theorem c361_1478 : pm_code 361 1478 = some (.lcmp, 1479) := pm_of cl361_21 5 (q := (1478, .lcmp, 1479)) rfl
theorem c361_1479 : pm_code 361 1479 = some (.ifCond .eq 5, 1482) := pm_of cl361_21 6 (q := (1479, .ifCond .eq 5, 1482)) rfl
theorem c361_1482 : pm_code 361 1482 = some (.iconst 0, 1483) := pm_of cl361_21 7 (q := (1482, .iconst 0, 1483)) rfl
theorem c361_1483 : pm_code 361 1483 = some (.ireturn, 1484) := pm_of cl361_21 8 (q := (1483, .ireturn, 1484)) rfl
theorem c361_1484 : pm_code 361 1484 = some (.goto 1092, 1487) := pm_of cl361_21 9 (q := (1484, .goto 1092, 1487)) rfl
theorem c361_1487 : pm_code 361 1487 = some (.aload_n 1, 1488) := pm_of cl361_21 10 (q := (1487, .aload_n 1, 1488)) rfl
theorem c361_1488 : pm_code 361 1488 = some (.aload_n 0, 1489) := pm_of cl361_21 11 (q := (1488, .aload_n 0, 1489)) rfl
theorem c361_1489 : pm_code 361 1489 = some (.iload 4, 1491) := pm_of cl361_21 12 (q := (1489, .iload 4, 1491)) rfl
theorem c361_1491 : pm_code 361 1491 = some (.iconst 1, 1492) := pm_of cl361_21 13 (q := (1491, .iconst 1, 1492)) rfl
theorem c361_1492 : pm_code 361 1492 = some (.iadd, 1493) := pm_of cl361_21 14 (q := (1492, .iadd, 1493)) rfl
theorem c361_1493 : pm_code 361 1493 = some (.iaload, 1494) := pm_of cl361_21 15 (q := (1493, .iaload, 1494)) rfl
theorem c361_1494 : pm_code 361 1494 = some (.aload_n 3, 1495) := pm_of cl361_21 16 (q := (1494, .aload_n 3, 1495)) rfl
theorem c361_1495 : pm_code 361 1495 = some (.invokestatic 201, 1498) := pm_of cl361_21 17 (q := (1495, .invokestatic 201, 1498)) rfl
theorem c361_1498 : pm_code 361 1498 = some (.istore 5, 1500) := pm_of cl361_21 18 (q := (1498, .istore 5, 1500)) rfl
theorem c361_1500 : pm_code 361 1500 = some (.aload_n 2, 1501) := pm_of cl361_21 19 (q := (1500, .aload_n 2, 1501)) rfl
theorem c361_1501 : pm_code 361 1501 = some (.aload_n 0, 1502) := pm_of cl361_21 20 (q := (1501, .aload_n 0, 1502)) rfl
theorem c361_1502 : pm_code 361 1502 = some (.iload 4, 1504) := pm_of cl361_21 21 (q := (1502, .iload 4, 1504)) rfl
theorem c361_1504 : pm_code 361 1504 = some (.iconst 1, 1505) := pm_of cl361_21 22 (q := (1504, .iconst 1, 1505)) rfl
theorem c361_1505 : pm_code 361 1505 = some (.iadd, 1506) := pm_of cl361_21 23 (q := (1505, .iadd, 1506)) rfl
theorem c361_1506 : pm_code 361 1506 = some (.iaload, 1507) := pm_of cl361_21 24 (q := (1506, .iaload, 1507)) rfl
theorem c361_1507 : pm_code 361 1507 = some (.invokevirtual 203, 1510) := pm_of cl361_21 25 (q := (1507, .invokevirtual 203, 1510)) rfl
theorem c361_1510 : pm_code 361 1510 = some (.istore 6, 1512) := pm_of cl361_21 26 (q := (1510, .istore 6, 1512)) rfl
theorem c361_1512 : pm_code 361 1512 = some (.aload_n 2, 1513) := pm_of cl361_21 27 (q := (1512, .aload_n 2, 1513)) rfl
theorem c361_1513 : pm_code 361 1513 = some (.invokevirtual 128, 1516) := pm_of cl361_21 28 (q := (1513, .invokevirtual 128, 1516)) rfl
theorem c361_1516 : pm_code 361 1516 = some (.iload 5, 1518) := pm_of cl361_21 29 (q := (1516, .iload 5, 1518)) rfl
theorem c361_1518 : pm_code 361 1518 = some (.if_icmp .eq 5, 1521) := pm_of cl361_21 30 (q := (1518, .if_icmp .eq 5, 1521)) rfl
theorem c361_1521 : pm_code 361 1521 = some (.iconst 0, 1522) := pm_of cl361_21 31 (q := (1521, .iconst 0, 1522)) rfl
theorem c361_1522 : pm_code 361 1522 = some (.ireturn, 1523) := pm_of cl361_21 32 (q := (1522, .ireturn, 1523)) rfl
theorem c361_1523 : pm_code 361 1523 = some (.iload 5, 1525) := pm_of cl361_21 33 (q := (1523, .iload 5, 1525)) rfl
theorem c361_1525 : pm_code 361 1525 = some (.ifCond .ne 22, 1528) := pm_of cl361_21 34 (q := (1525, .ifCond .ne 22, 1528)) rfl
theorem c361_1528 : pm_code 361 1528 = some (.aload_n 3, 1529) := pm_of cl361_21 35 (q := (1528, .aload_n 3, 1529)) rfl
theorem c361_1529 : pm_code 361 1529 = some (.iconst 0, 1530) := pm_of cl361_21 36 (q := (1529, .iconst 0, 1530)) rfl
theorem c361_1530 : pm_code 361 1530 = some (.laload, 1531) := pm_of cl361_21 37 (q := (1530, .laload, 1531)) rfl
theorem c361_1531 : pm_code 361 1531 = some (.iload 6, 1533) := pm_of cl361_21 38 (q := (1531, .iload 6, 1533)) rfl
theorem c361_1533 : pm_code 361 1533 = some (.ifCond .eq 7, 1536) := pm_of cl361_21 39 (q := (1533, .ifCond .eq 7, 1536)) rfl
theorem cl361_22 : ([(1536, .lconst 1, 1537), (1537, .goto 4, 1540), (1540, .lconst 0, 1541), (1541, .lcmp, 1542), (1542, .ifCond .eq 5, 1545), (1545, .iconst 0, 1546), (1546, .ireturn, 1547), (1547, .goto 1029, 1550), (1550, .aload_n 1, 1551), (1551, .aload_n 0, 1552), (1552, .iload 4, 1554), (1554, .iconst 1, 1555), (1555, .iadd, 1556), (1556, .iaload, 1557), (1557, .aload_n 3, 1558), (1558, .invokestatic 204, 1561), (1561, .istore 5, 1563), (1563, .aload_n 2, 1564), (1564, .aload_n 0, 1565), (1565, .iload 4, 1567), (1567, .iconst 1, 1568), (1568, .iadd, 1569), (1569, .iaload, 1570), (1570, .invokevirtual 206, 1573), (1573, .istore 6, 1575), (1575, .aload_n 2, 1576), (1576, .invokevirtual 128, 1579), (1579, .iload 5, 1581), (1581, .if_icmp .eq 5, 1584), (1584, .iconst 0, 1585), (1585, .ireturn, 1586), (1586, .iload 5, 1588), (1588, .ifCond .ne 15, 1591), (1591, .aload_n 3, 1592), (1592, .iconst 0, 1593), (1593, .laload, 1594), (1594, .iload 6, 1596), (1596, .i2l, 1597), (1597, .lcmp, 1598), (1598, .ifCond .eq 5, 1601)] : List (Nat × Instr × Nat)).all (fun q => decide (pm_code 361 q.1 = some q.2)) = true := by decide +kernel
theorem c361_1536 : pm_code 361 1536 = some (.lconst 1, 1537) := pm_of cl361_22 0 (q := (1536, .lconst 1, 1537)) rfl
theorem c361_1537 : pm_code 361 1537 = some (.goto 4, 1540) := pm_of cl361_22 1 (q := (1537, .goto 4, 1540)) rfl
theorem c361_1540 : pm_code 361 1540 = some (.lconst 0, 1541) := pm_of cl361_22 2 (q := (1540, .lconst 0, 1541)) rfl
theorem c361_1541 : pm_code 361 1541 = some (.lcmp, 1542) := pm_of cl361_22 3 (q := (1541, .lcmp, 1542)) rfl
theorem c361_1542 : pm_code 361 1542 = some (.ifCond .eq 5, 1545) := pm_of cl361_22 4 (q := (1542, .ifCond .eq 5, 1545)) rfl
theorem c361_1545 : pm_code 361 1545 = some (.iconst 0, 1546) := pm_of cl361_22 5 (q := (1545, .iconst 0, 1546)) rfl
theorem c361_1546 : pm_code 361 1546 = some (.ireturn, 1547) := pm_of cl361_22 6 (q := (1546, .ireturn, 1547)) rfl
theorem c361_1547 : pm_code 361 1547 = some (.goto 1029, 1550) := pm_of cl361_22 7 (q := (1547, .goto 1029, 1550)) rfl
theorem c361_1550 : pm_code 361 1550 = some (.aload_n 1, 1551) := pm_of cl361_22 8 (q := (1550, .aload_n 1, 1551)) rfl
theorem c361_1551 : pm_code 361 1551 = some (.aload_n 0, 1552) := pm_of cl361_22 9 (q := (1551, .aload_n 0, 1552)) rfl
theorem c361_1552 : pm_code 361 1552 = some (.iload 4, 1554) := pm_of cl361_22 10 (q := (1552, .iload 4, 1554)) rfl
theorem c361_1554 : pm_code 361 1554 = some (.iconst 1, 1555) := pm_of cl361_22 11 (q := (1554, .iconst 1, 1555)) rfl
theorem c361_1555 : pm_code 361 1555 = some (.iadd, 1556) := pm_of cl361_22 12 (q := (1555, .iadd, 1556)) rfl
theorem c361_1556 : pm_code 361 1556 = some (.iaload, 1557) := pm_of cl361_22 13 (q := (1556, .iaload, 1557)) rfl
theorem c361_1557 : pm_code 361 1557 = some (.aload_n 3, 1558) := pm_of cl361_22 14 (q := (1557, .aload_n 3, 1558)) rfl
theorem c361_1558 : pm_code 361 1558 = some (.invokestatic 204, 1561) := pm_of cl361_22 15 (q := (1558, .invokestatic 204, 1561)) rfl
theorem c361_1561 : pm_code 361 1561 = some (.istore 5, 1563) := pm_of cl361_22 16 (q := (1561, .istore 5, 1563)) rfl
theorem c361_1563 : pm_code 361 1563 = some (.aload_n 2, 1564) := pm_of cl361_22 17 (q := (1563, .aload_n 2, 1564)) rfl
theorem c361_1564 : pm_code 361 1564 = some (.aload_n 0, 1565) := pm_of cl361_22 18 (q := (1564, .aload_n 0, 1565)) rfl
theorem c361_1565 : pm_code 361 1565 = some (.iload 4, 1567) := pm_of cl361_22 19 (q := (1565, .iload 4, 1567)) rfl
theorem c361_1567 : pm_code 361 1567 = some (.iconst 1, 1568) := pm_of cl361_22 20 (q := (1567, .iconst 1, 1568)) rfl
theorem c361_1568 : pm_code 361 1568 = some (.iadd, 1569) := pm_of cl361_22 21 (q := (1568, .iadd, 1569)) rfl
theorem c361_1569 : pm_code 361 1569 = some (.iaload, 1570) := pm_of cl361_22 22 (q := (1569, .iaload, 1570)) rfl
theorem c361_1570 : pm_code 361 1570 = some (.invokevirtual 206, 1573) := pm_of cl361_22 23 (q := (1570, .invokevirtual 206, 1573)) rfl
theorem c361_1573 : pm_code 361 1573 = some (.istore 6, 1575) := pm_of cl361_22 24 (q := (1573, .istore 6, 1575)) rfl
theorem c361_1575 : pm_code 361 1575 = some (.aload_n 2, 1576) := pm_of cl361_22 25 (q := (1575, .aload_n 2, 1576)) rfl
theorem c361_1576 : pm_code 361 1576 = some (.invokevirtual 128, 1579) := pm_of cl361_22 26 (q := (1576, .invokevirtual 128, 1579)) rfl
theorem c361_1579 : pm_code 361 1579 = some (.iload 5, 1581) := pm_of cl361_22 27 (q := (1579, .iload 5, 1581)) rfl
theorem c361_1581 : pm_code 361 1581 = some (.if_icmp .eq 5, 1584) := pm_of cl361_22 28 (q := (1581, .if_icmp .eq 5, 1584)) rfl
theorem c361_1584 : pm_code 361 1584 = some (.iconst 0, 1585) := pm_of cl361_22 29 (q := (1584, .iconst 0, 1585)) rfl
theorem c361_1585 : pm_code 361 1585 = some (.ireturn, 1586) := pm_of cl361_22 30 (q := (1585, .ireturn, 1586)) rfl
theorem c361_1586 : pm_code 361 1586 = some (.iload 5, 1588) := pm_of cl361_22 31 (q := (1586, .iload 5, 1588)) rfl
theorem c361_1588 : pm_code 361 1588 = some (.ifCond .ne 15, 1591) := pm_of cl361_22 32 (q := (1588, .ifCond .ne 15, 1591)) rfl
theorem c361_1591 : pm_code 361 1591 = some (.aload_n 3, 1592) := pm_of cl361_22 33 (q := (1591, .aload_n 3, 1592)) rfl
theorem c361_1592 : pm_code 361 1592 = some (.iconst 0, 1593) := pm_of cl361_22 34 (q := (1592, .iconst 0, 1593)) rfl
theorem c361_1593 : pm_code 361 1593 = some (.laload, 1594) := pm_of cl361_22 35 (q := (1593, .laload, 1594)) rfl
theorem c361_1594 : pm_code 361 1594 = some (.iload 6, 1596) := pm_of cl361_22 36 (q := (1594, .iload 6, 1596)) rfl
theorem c361_1596 : pm_code 361 1596 = some (.i2l, 1597) := pm_of cl361_22 37 (q := (1596, .i2l, 1597)) rfl
theorem c361_1597 : pm_code 361 1597 = some (.lcmp, 1598) := pm_of cl361_22 38 (q := (1597, .lcmp, 1598)) rfl
theorem c361_1598 : pm_code 361 1598 = some (.ifCond .eq 5, 1601) := pm_of cl361_22 39 (q := (1598, .ifCond .eq 5, 1601)) rfl
theorem cl361_23 : ([(1601, .iconst 0, 1602), (1602, .ireturn, 1603), (1603, .goto 973, 1606), (1606, .aload_n 1, 1607), (1607, .aload_n 0, 1608), (1608, .iload 4, 1610), (1610, .iconst 1, 1611), (1611, .iadd, 1612), (1612, .iaload, 1613), (1613, .aload_n 3, 1614), (1614, .invokestatic 207, 1617), (1617, .istore 5, 1619), (1619, .aload_n 2, 1620), (1620, .aload_n 0, 1621), (1621, .iload 4, 1623), (1623, .iconst 1, 1624), (1624, .iadd, 1625), (1625, .iaload, 1626), (1626, .invokevirtual 209, 1629), (1629, .istore 6, 1631), (1631, .aload_n 2, 1632), (1632, .invokevirtual 128, 1635), (1635, .iload 5, 1637), (1637, .if_icmp .eq 5, 1640), (1640, .iconst 0, 1641), (1641, .ireturn, 1642), (1642, .iload 5, 1644), (1644, .ifCond .ne 15, 1647), (1647, .aload_n 3, 1648), (1648, .iconst 0, 1649), (1649, .laload, 1650), (1650, .iload 6, 1652), (1652, .i2l, 1653), (1653, .lcmp, 1654), (1654, .ifCond .eq 5, 1657), (1657, .iconst 0, 1658), (1658, .ireturn, 1659), (1659, .goto 917, 1662), (1662, .aload_n 1, 1663), (1663, .invokevirtual 210, 1666)] : List (Nat × Instr × Nat)).all (fun q => decide (pm_code 361 q.1 = some q.2)) = true := by decide +kernel
theorem c361_1601 : pm_code 361 1601 = some (.iconst 0, 1602) := pm_of cl361_23 0 (q := (1601, .iconst 0, 1602)) rfl
theorem c361_1602 : pm_code 361 1602 = some (.ireturn, 1603) := pm_of cl361_23 1 (q := (1602, .ireturn, 1603)) rfl
theorem c361_1603 : pm_code 361 1603 = some (.goto 973, 1606) := pm_of cl361_23 2 (q := (1603, .goto 973, 1606)) rfl
theorem c361_1606 : pm_code 361 1606 = some (.aload_n 1, 1607) := pm_of cl361_23 3 (q := (1606, .aload_n 1, 1607)) rfl
theorem c361_1607 : pm_code 361 1607 = some (.aload_n 0, 1608) := pm_of cl361_23 4 (q := (1607, .aload_n 0, 1608)) rfl
theorem c361_1608 : pm_code 361 1608 = some (.iload 4, 1610) := pm_of cl361_23 5 (q := (1608, .iload 4, 1610)) rfl
theorem c361_1610 : pm_code 361 1610 = some (.iconst 1, 1611) := pm_of cl361_23 6 (q := (1610, .iconst 1, 1611)) rfl
theorem c361_1611 : pm_code 361 1611 = some (.iadd, 1612) := pm_of cl361_23 7 (q := (1611, .iadd, 1612)) rfl
theorem c361_1612 : pm_code 361 1612 = some (.iaload, 1613) := pm_of cl361_23 8 (q := (1612, .iaload, 1613)) rfl
theorem c361_1613 : pm_code 361 1613 = some (.aload_n 3, 1614) := pm_of cl361_23 9 (q := (1613, .aload_n 3, 1614)) rfl
theorem c361_1614 : pm_code 361 1614 = some (.invokestatic 207, 1617) := pm_of cl361_23 10 (q := (1614, .invokestatic 207, 1617)) rfl
theorem c361_1617 : pm_code 361 1617 = some (.istore 5, 1619) := pm_of cl361_23 11 (q := (1617, .istore 5, 1619)) rfl
theorem c361_1619 : pm_code 361 1619 = some (.aload_n 2, 1620) := pm_of cl361_23 12 (q := (1619, .aload_n 2, 1620)) rfl
theorem c361_1620 : pm_code 361 1620 = some (.aload_n 0, 1621) := pm_of cl361_23 13 (q := (1620, .aload_n 0, 1621)) rfl
theorem c361_1621 : pm_code 361 1621 = some (.iload 4, 1623) := pm_of cl361_23 14 (q := (1621, .iload 4, 1623)) rfl
theorem c361_1623 : pm_code 361 1623 = some (.iconst 1, 1624) := pm_of cl361_23 15 (q := (1623, .iconst 1, 1624)) rfl
theorem c361_1624 : pm_code 361 1624 = some (.iadd, 1625) := pm_of cl361_23 16 (q := (1624, .iadd, 1625)) rfl
theorem c361_1625 : pm_code 361 1625 = some (.iaload, 1626) := pm_of cl361_23 17 (q := (1625, .iaload, 1626)) rfl
theorem c361_1626 : pm_code 361 1626 = some (.invokevirtual 209, 1629) := pm_of cl361_23 18 (q := (1626, .invokevirtual 209, 1629)) rfl
theorem c361_1629 : pm_code 361 1629 = some (.istore 6, 1631) := pm_of cl361_23 19 (q := (1629, .istore 6, 1631)) rfl
theorem c361_1631 : pm_code 361 1631 = some (.aload_n 2, 1632) := pm_of cl361_23 20 (q := (1631, .aload_n 2, 1632)) rfl
theorem c361_1632 : pm_code 361 1632 = some (.invokevirtual 128, 1635) := pm_of cl361_23 21 (q := (1632, .invokevirtual 128, 1635)) rfl
theorem c361_1635 : pm_code 361 1635 = some (.iload 5, 1637) := pm_of cl361_23 22 (q := (1635, .iload 5, 1637)) rfl
theorem c361_1637 : pm_code 361 1637 = some (.if_icmp .eq 5, 1640) := pm_of cl361_23 23 (q := (1637, .if_icmp .eq 5, 1640)) rfl
theorem c361_1640 : pm_code 361 1640 = some (.iconst 0, 1641) := pm_of cl361_23 24 (q := (1640, .iconst 0, 1641)) rfl
theorem c361_1641 : pm_code 361 1641 = some (.ireturn, 1642) := pm_of cl361_23 25 (q := (1641, .ireturn, 1642)) rfl
theorem c361_1642 : pm_code 361 1642 = some (.iload 5, 1644) := pm_of cl361_23 26 (q := (1642, .iload 5, 1644)) rfl
theorem c361_1644 : pm_code 361 1644 = some (.ifCond .ne 15, 1647) := pm_of cl361_23 27 (q := (1644, .ifCond .ne 15, 1647)) rfl
theorem c361_1647 : pm_code 361 1647 = some (.aload_n 3, 1648) := pm_of cl361_23 28 (q := (1647, .aload_n 3, 1648)) rfl
theorem c361_1648 : pm_code 361 1648 = some (.iconst 0, 1649) := pm_of cl361_23 29 (q := (1648, .iconst 0, 1649)) rfl
theorem c361_1649 : pm_code 361 1649 = some (.laload, 1650) := pm_of cl361_23 30 (q := (1649, .laload, 1650)) rfl
theorem c361_1650 : pm_code 361 1650 = some (.iload 6, 1652) := pm_of cl361_23 31 (q := (1650, .iload 6, 1652)) rfl
theorem c361_1652 : pm_code 361 1652 = some (.i2l, 1653) := pm_of cl361_23 32 (q := (1652, .i2l, 1653)) rfl
theorem c361_1653 : pm_code 361 1653 = some (.lcmp, 1654) := pm_of cl361_23 33 (q := (1653, .lcmp, 1654)) rfl
theorem c361_1654 : pm_code 361 1654 = some (.ifCond .eq 5, 1657) := pm_of cl361_23 34 (q := (1654, .ifCond .eq 5, 1657)) rfl
theorem c361_1657 : pm_code 361 1657 = some (.iconst 0, 1658) := pm_of cl361_23 35 (q := (1657, .iconst 0, 1658)) rfl
theorem c361_1658 : pm_code 361 1658 = some (.ireturn, 1659) := pm_of cl361_23 36 (q := (1658, .ireturn, 1659)) rfl
theorem c361_1659 : pm_code 361 1659 = some (.goto 917, 1662) := pm_of cl361_23 37 (q := (1659, .goto 917, 1662)) rfl
theorem c361_1662 : pm_code 361 1662 = some (.aload_n 1, 1663) := pm_of cl361_23 38 (q := (1662, .aload_n 1, 1663)) rfl
theorem c361_1663 : pm_code 361 1663 = some (.invokevirtual 210, 1666) := pm_of cl361_23 39 (q := (1663, .invokevirtual 210, 1666)) rfl
theorem cl361_24 : ([(1666, .aload_n 2, 1667), (1667, .invokevirtual 213, 1670), (1670, .if_icmp .eq 906, 1673), (1673, .iconst 0, 1674), (1674, .ireturn, 1675), (1675, .aload_n 1, 1676), (1676, .aload_n 0, 1677), (1677, .iload 4, 1679), (1679, .iconst 1, 1680), (1680, .iadd, 1681), (1681, .iaload, 1682), (1682, .aload_n 0, 1683), (1683, .iload 4, 1685), (1685, .iconst 2, 1686), (1686, .iadd, 1687), (1687, .iaload, 1688), (1688, .aload_n 3, 1689), (1689, .invokestatic 214, 1692), (1692, .istore 5, 1694), (1694, .aload_n 2, 1695), (1695, .aload_n 0, 1696), (1696, .iload 4, 1698), (1698, .iconst 1, 1699), (1699, .iadd, 1700), (1700, .iaload, 1701), (1701, .aload_n 0, 1702), (1702, .iload 4, 1704), (1704, .iconst 2, 1705), (1705, .iadd, 1706), (1706, .iaload, 1707), (1707, .invokevirtual 216, 1710), (1710, .istore 6, 1712), (1712, .aload_n 2, 1713), (1713, .invokevirtual 128, 1716), (1716, .iload 5, 1718), (1718, .if_icmp .eq 5, 1721), (1721, .iconst 0, 1722), (1722, .ireturn, 1723), (1723, .iload 5, 1725), (1725, .ifCond .ne 15, 1728)] : List (Nat × Instr × Nat)).all (fun q => decide (pm_code 361 q.1 = some q.2)) = true := by decide +kernel
theorem c361_1666 : pm_code 361 1666 = some (.aload_n 2, 1667) := pm_of cl361_24 0 (q := (1666, .aload_n 2, 1667)) rfl
theorem c361_1667 : pm_code 361 1667 = some (.invokevirtual 213, 1670) := pm_of cl361_24 1 (q := (1667, .invokevirtual 213, 1670)) rfl
theorem c361_1670 : pm_code 361 1670 = some (.if_icmp .eq 906, 1673) := pm_of cl361_24 2 (q := (1670, .if_icmp .eq 906, 1673)) rfl
theorem c361_1673 : pm_code 361 1673 = some (.iconst 0, 1674) := pm_of cl361_24 3 (q := (1673, .iconst 0, 1674)) rfl
theorem c361_1674 : pm_code 361 1674 = some (.ireturn, 1675) := pm_of cl361_24 4 (q := (1674, .ireturn, 1675)) rfl
theorem c361_1675 : pm_code 361 1675 = some (.aload_n 1, 1676) := pm_of cl361_24 5 (q := (1675, .aload_n 1, 1676)) rfl
theorem c361_1676 : pm_code 361 1676 = some (.aload_n 0, 1677) := pm_of cl361_24 6 (q := (1676, .aload_n 0, 1677)) rfl
theorem c361_1677 : pm_code 361 1677 = some (.iload 4, 1679) := pm_of cl361_24 7 (q := (1677, .iload 4, 1679)) rfl
theorem c361_1679 : pm_code 361 1679 = some (.iconst 1, 1680) := pm_of cl361_24 8 (q := (1679, .iconst 1, 1680)) rfl
theorem c361_1680 : pm_code 361 1680 = some (.iadd, 1681) := pm_of cl361_24 9 (q := (1680, .iadd, 1681)) rfl
theorem c361_1681 : pm_code 361 1681 = some (.iaload, 1682) := pm_of cl361_24 10 (q := (1681, .iaload, 1682)) rfl
theorem c361_1682 : pm_code 361 1682 = some (.aload_n 0, 1683) := pm_of cl361_24 11 (q := (1682, .aload_n 0, 1683)) rfl
theorem c361_1683 : pm_code 361 1683 = some (.iload 4, 1685) := pm_of cl361_24 12 (q := (1683, .iload 4, 1685)) rfl
theorem c361_1685 : pm_code 361 1685 = some (.iconst 2, 1686) := pm_of cl361_24 13 (q := (1685, .iconst 2, 1686)) rfl
theorem c361_1686 : pm_code 361 1686 = some (.iadd, 1687) := pm_of cl361_24 14 (q := (1686, .iadd, 1687)) rfl
theorem c361_1687 : pm_code 361 1687 = some (.iaload, 1688) := pm_of cl361_24 15 (q := (1687, .iaload, 1688)) rfl
theorem c361_1688 : pm_code 361 1688 = some (.aload_n 3, 1689) := pm_of cl361_24 16 (q := (1688, .aload_n 3, 1689)) rfl
theorem c361_1689 : pm_code 361 1689 = some (.invokestatic 214, 1692) := pm_of cl361_24 17 (q := (1689, .invokestatic 214, 1692)) rfl
theorem c361_1692 : pm_code 361 1692 = some (.istore 5, 1694) := pm_of cl361_24 18 (q := (1692, .istore 5, 1694)) rfl
theorem c361_1694 : pm_code 361 1694 = some (.aload_n 2, 1695) := pm_of cl361_24 19 (q := (1694, .aload_n 2, 1695)) rfl
theorem c361_1695 : pm_code 361 1695 = some (.aload_n 0, 1696) := pm_of cl361_24 20 (q := (1695, .aload_n 0, 1696)) rfl
theorem c361_1696 : pm_code 361 1696 = some (.iload 4, 1698) := pm_of cl361_24 21 (q := (1696, .iload 4, 1698)) rfl
theorem c361_1698 : pm_code 361 1698 = some (.iconst 1, 1699) := pm_of cl361_24 22 (q := (1698, .iconst 1, 1699)) rfl
theorem c361_1699 : pm_code 361 1699 = some (.iadd, 1700) := pm_of cl361_24 23 (q := (1699, .iadd, 1700)) rfl
theorem c361_1700 : pm_code 361 1700 = some (.iaload, 1701) := pm_of cl361_24 24 (q := (1700, .iaload, 1701)) rfl
theorem c361_1701 : pm_code 361 1701 = some (.aload_n 0, 1702) := pm_of cl361_24 25 (q := (1701, .aload_n 0, 1702)) rfl
theorem c361_1702 : pm_code 361 1702 = some (.iload 4, 1704) := pm_of cl361_24 26 (q := (1702, .iload 4, 1704)) rfl
theorem c361_1704 : pm_code 361 1704 = some (.iconst 2, 1705) := pm_of cl361_24 27 (q := (1704, .iconst 2, 1705)) rfl
theorem c361_1705 : pm_code 361 1705 = some (.iadd, 1706) := pm_of cl361_24 28 (q := (1705, .iadd, 1706)) rfl
theorem c361_1706 : pm_code 361 1706 = some (.iaload, 1707) := pm_of cl361_24 29 (q := (1706, .iaload, 1707)) rfl
theorem c361_1707 : pm_code 361 1707 = some (.invokevirtual 216, 1710) := pm_of cl361_24 30 (q := (1707, .invokevirtual 216, 1710)) rfl
theorem c361_1710 : pm_code 361 1710 = some (.istore 6, 1712) := pm_of cl361_24 31 (q := (1710, .istore 6, 1712)) rfl
theorem c361_1712 : pm_code 361 1712 = some (.aload_n 2, 1713) := pm_of cl361_24 32 (q := (1712, .aload_n 2, 1713)) rfl
theorem c361_1713 : pm_code 361 1713 = some (.invokevirtual 128, 1716) := pm_of cl361_24 33 (q := (1713, .invokevirtual 128, 1716)) rfl
theorem c361_1716 : pm_code 361 1716 = some (.iload 5, 1718) := pm_of cl361_24 34 (q := (1716, .iload 5, 1718)) rfl
theorem c361_1718 : pm_code 361 1718 = some (.if_icmp .eq 5, 1721) := pm_of cl361_24 35 (q := (1718, .if_icmp .eq 5, 1721)) rfl
theorem c361_1721 : pm_code 361 1721 = some (.iconst 0, 1722) := pm_of cl361_24 36 (q := (1721, .iconst 0, 1722)) rfl
theorem c361_1722 : pm_code 361 1722 = some (.ireturn, 1723) := pm_of cl361_24 37 (q := (1722, .ireturn, 1723)) rfl
theorem c361_1723 : pm_code 361 1723 = some (.iload 5, 1725) := pm_of cl361_24 38 (q := (1723, .iload 5, 1725)) rfl
theorem c361_1725 : pm_code 361 1725 = some (.ifCond .ne 15, 1728) := pm_of cl361_24 39 (q := (1725, .ifCond .ne 15, 1728)) rfl
