/-! THE LAW: its code, 13. -/
theorem dL_law_1411 : decode cL_law 1411 = .ok (.iload 5, 2) := by decide +kernel
theorem dL_law_1413 : decode cL_law 1413 = .ok (.bipush 8, 2) := by decide +kernel
theorem dL_law_1415 : decode cL_law 1415 = .ok (.iadd, 1) := by decide +kernel
theorem dL_law_1416 : decode cL_law 1416 = .ok (.iaload, 1) := by decide +kernel
theorem dL_law_1417 : decode cL_law 1417 = .ok (.i2l, 1) := by decide +kernel
theorem dL_law_1418 : decode cL_law 1418 = .ok (.ldc2_w 73, 3) := by decide +kernel
theorem dL_law_1421 : decode cL_law 1421 = .ok (.land, 1) := by decide +kernel
theorem dL_law_1422 : decode cL_law 1422 = .ok (.lor, 1) := by decide +kernel
theorem dL_law_1423 : decode cL_law 1423 = .ok (.invokevirtual 132, 3) := by decide +kernel
theorem dL_law_1426 : decode cL_law 1426 = .ok (.dstore 7, 2) := by decide +kernel
theorem dL_law_1428 : decode cL_law 1428 = .ok (.aload_n 2, 1) := by decide +kernel
theorem dL_law_1429 : decode cL_law 1429 = .ok (.invokevirtual 81, 3) := by decide +kernel
theorem dL_law_1432 : decode cL_law 1432 = .ok (.iload 6, 2) := by decide +kernel
theorem dL_law_1434 : decode cL_law 1434 = .ok (.if_icmp .eq 5, 3) := by decide +kernel
theorem dL_law_1437 : decode cL_law 1437 = .ok (.iconst 0, 1) := by decide +kernel
theorem dL_law_1438 : decode cL_law 1438 = .ok (.ireturn, 1) := by decide +kernel
theorem dL_law_1439 : decode cL_law 1439 = .ok (.iload 6, 2) := by decide +kernel
theorem dL_law_1441 : decode cL_law 1441 = .ok (.ifCond .ne 35, 3) := by decide +kernel
theorem dL_law_1444 : decode cL_law 1444 = .ok (.aload 4, 2) := by decide +kernel
theorem dL_law_1446 : decode cL_law 1446 = .ok (.iconst 0, 1) := by decide +kernel
theorem dL_law_1447 : decode cL_law 1447 = .ok (.daload, 1) := by decide +kernel
theorem dL_law_1448 : decode cL_law 1448 = .ok (.dload 7, 2) := by decide +kernel
theorem dL_law_1450 : decode cL_law 1450 = .ok (.dcmp .l, 1) := by decide +kernel
theorem dL_law_1451 : decode cL_law 1451 = .ok (.ifCond .eq 25, 3) := by decide +kernel
theorem dL_law_1454 : decode cL_law 1454 = .ok (.aload 4, 2) := by decide +kernel
theorem dL_law_1456 : decode cL_law 1456 = .ok (.iconst 0, 1) := by decide +kernel
theorem dL_law_1457 : decode cL_law 1457 = .ok (.daload, 1) := by decide +kernel
theorem dL_law_1458 : decode cL_law 1458 = .ok (.aload 4, 2) := by decide +kernel
theorem dL_law_1460 : decode cL_law 1460 = .ok (.iconst 0, 1) := by decide +kernel
theorem dL_law_1461 : decode cL_law 1461 = .ok (.daload, 1) := by decide +kernel
theorem dL_law_1462 : decode cL_law 1462 = .ok (.dcmp .l, 1) := by decide +kernel
theorem dL_law_1463 : decode cL_law 1463 = .ok (.ifCond .eq 11, 3) := by decide +kernel
theorem dL_law_1466 : decode cL_law 1466 = .ok (.dload 7, 2) := by decide +kernel
theorem dL_law_1468 : decode cL_law 1468 = .ok (.dload 7, 2) := by decide +kernel
theorem dL_law_1470 : decode cL_law 1470 = .ok (.dcmp .l, 1) := by decide +kernel
theorem dL_law_1471 : decode cL_law 1471 = .ok (.ifCond .ne 5, 3) := by decide +kernel
theorem dL_law_1474 : decode cL_law 1474 = .ok (.iconst 0, 1) := by decide +kernel
theorem dL_law_1475 : decode cL_law 1475 = .ok (.ireturn, 1) := by decide +kernel
theorem dL_law_1476 : decode cL_law 1476 = .ok (.goto 290, 3) := by decide +kernel
theorem dL_law_1479 : decode cL_law 1479 = .ok (.aload_n 1, 1) := by decide +kernel
theorem dL_law_1480 : decode cL_law 1480 = .ok (.aload_n 0, 1) := by decide +kernel
theorem dL_law_1481 : decode cL_law 1481 = .ok (.iload 5, 2) := by decide +kernel
theorem dL_law_1483 : decode cL_law 1483 = .ok (.iconst 1, 1) := by decide +kernel
theorem dL_law_1484 : decode cL_law 1484 = .ok (.iadd, 1) := by decide +kernel
theorem dL_law_1485 : decode cL_law 1485 = .ok (.iaload, 1) := by decide +kernel
theorem dL_law_1486 : decode cL_law 1486 = .ok (.i2d, 1) := by decide +kernel
theorem dL_law_1487 : decode cL_law 1487 = .ok (.ldc2_w 133, 3) := by decide +kernel
theorem dL_law_1490 : decode cL_law 1490 = .ok (.dmul, 1) := by decide +kernel
theorem dL_law_1491 : decode cL_law 1491 = .ok (.aload_n 0, 1) := by decide +kernel
theorem dL_law_1492 : decode cL_law 1492 = .ok (.iload 5, 2) := by decide +kernel
theorem dL_law_1494 : decode cL_law 1494 = .ok (.iconst 2, 1) := by decide +kernel
theorem dL_law_1495 : decode cL_law 1495 = .ok (.iadd, 1) := by decide +kernel
theorem dL_law_1496 : decode cL_law 1496 = .ok (.iaload, 1) := by decide +kernel
theorem dL_law_1497 : decode cL_law 1497 = .ok (.i2d, 1) := by decide +kernel
theorem dL_law_1498 : decode cL_law 1498 = .ok (.ldc2_w 133, 3) := by decide +kernel
theorem dL_law_1501 : decode cL_law 1501 = .ok (.dmul, 1) := by decide +kernel
theorem dL_law_1502 : decode cL_law 1502 = .ok (.aload_n 0, 1) := by decide +kernel
theorem dL_law_1503 : decode cL_law 1503 = .ok (.iload 5, 2) := by decide +kernel
theorem dL_law_1505 : decode cL_law 1505 = .ok (.iconst 3, 1) := by decide +kernel
theorem dL_law_1506 : decode cL_law 1506 = .ok (.iadd, 1) := by decide +kernel
theorem dL_law_1507 : decode cL_law 1507 = .ok (.iaload, 1) := by decide +kernel
theorem dL_law_1508 : decode cL_law 1508 = .ok (.i2d, 1) := by decide +kernel
theorem dL_law_1509 : decode cL_law 1509 = .ok (.ldc2_w 133, 3) := by decide +kernel
theorem dL_law_1512 : decode cL_law 1512 = .ok (.dmul, 1) := by decide +kernel
theorem dL_law_1513 : decode cL_law 1513 = .ok (.aload_n 0, 1) := by decide +kernel
theorem dL_law_1514 : decode cL_law 1514 = .ok (.iload 5, 2) := by decide +kernel
theorem dL_law_1516 : decode cL_law 1516 = .ok (.iconst 4, 1) := by decide +kernel
theorem dL_law_1517 : decode cL_law 1517 = .ok (.iadd, 1) := by decide +kernel
theorem dL_law_1518 : decode cL_law 1518 = .ok (.iaload, 1) := by decide +kernel
theorem dL_law_1519 : decode cL_law 1519 = .ok (.i2d, 1) := by decide +kernel
theorem dL_law_1520 : decode cL_law 1520 = .ok (.ldc2_w 133, 3) := by decide +kernel
theorem dL_law_1523 : decode cL_law 1523 = .ok (.dmul, 1) := by decide +kernel
theorem dL_law_1524 : decode cL_law 1524 = .ok (.aload 4, 2) := by decide +kernel
theorem dL_law_1526 : decode cL_law 1526 = .ok (.invokestatic 135, 3) := by decide +kernel
theorem dL_law_1529 : decode cL_law 1529 = .ok (.istore 6, 2) := by decide +kernel
