theorem q1000 : Cond.static yL_distance ∈ lw_good := lw_in (i := 1000) (by decide +kernel) (by decide +kernel)
theorem q1011 : Cond.methodLink "WatermarkmillLaw" 252 yL_compare ∈ lw_good := lw_in (i := 1011) (by decide +kernel) (by decide +kernel)
theorem q1012 : Cond.static yL_compare ∈ lw_good := lw_in (i := 1012) (by decide +kernel) (by decide +kernel)
theorem q1018 : Cond.methodLink "WatermarkmillLaw" 255 yL_evidence ∈ lw_good := lw_in (i := 1018) (by decide +kernel) (by decide +kernel)
theorem q1019 : Cond.static yL_evidence ∈ lw_good := lw_in (i := 1019) (by decide +kernel) (by decide +kernel)
theorem q1025 : Cond.methodLink "WatermarkmillLaw" 262 yL_merge ∈ lw_good := lw_in (i := 1025) (by decide +kernel) (by decide +kernel)
theorem q1026 : Cond.static yL_merge ∈ lw_good := lw_in (i := 1026) (by decide +kernel) (by decide +kernel)
theorem q1041 : Cond.methodLink "WatermarkmillLaw" 265 yL_unmerge ∈ lw_good := lw_in (i := 1041) (by decide +kernel) (by decide +kernel)
theorem q1042 : Cond.static yL_unmerge ∈ lw_good := lw_in (i := 1042) (by decide +kernel) (by decide +kernel)
theorem q1540 : Cond.methodLink "WatermarkmillLaw" 224 yX14_cancel ∈ lw_good := lw_in (i := 1540) (by decide +kernel) (by decide +kernel)
theorem q1541 : Cond.instanceMethod yX14_cancel ∈ lw_good := lw_in (i := 1541) (by decide +kernel) (by decide +kernel)
theorem q1542 : Cond.selects "WatermarkmillModel" yX14_cancel yX14_cancel ∈ lw_good := lw_in (i := 1542) (by decide +kernel) (by decide +kernel)
theorem q156 : Cond.methodLink "WatermarkmillLaw" 258 yX8_groups ∈ lw_good := lw_in (i := 156) (by decide +kernel) (by decide +kernel)
theorem q1561 : Cond.methodLink "WatermarkmillLaw" 227 yX14_cancels ∈ lw_good := lw_in (i := 1561) (by decide +kernel) (by decide +kernel)
theorem q1562 : Cond.instanceMethod yX14_cancels ∈ lw_good := lw_in (i := 1562) (by decide +kernel) (by decide +kernel)
theorem q1563 : Cond.selects "WatermarkmillModel" yX14_cancels yX14_cancels ∈ lw_good := lw_in (i := 1563) (by decide +kernel) (by decide +kernel)
theorem q1568 : Cond.methodLink "WatermarkmillLaw" 230 yX14_leafOf ∈ lw_good := lw_in (i := 1568) (by decide +kernel) (by decide +kernel)
theorem q1569 : Cond.instanceMethod yX14_leafOf ∈ lw_good := lw_in (i := 1569) (by decide +kernel) (by decide +kernel)
theorem q157 : Cond.instanceMethod yX8_groups ∈ lw_good := lw_in (i := 157) (by decide +kernel) (by decide +kernel)
theorem q1570 : Cond.selects "WatermarkmillModel" yX14_leafOf yX14_leafOf ∈ lw_good := lw_in (i := 1570) (by decide +kernel) (by decide +kernel)
theorem q1572 : Cond.methodLink "WatermarkmillLaw" 233 yX14_markIn ∈ lw_good := lw_in (i := 1572) (by decide +kernel) (by decide +kernel)
theorem q1573 : Cond.instanceMethod yX14_markIn ∈ lw_good := lw_in (i := 1573) (by decide +kernel) (by decide +kernel)
theorem q1574 : Cond.selects "WatermarkmillModel" yX14_markIn yX14_markIn ∈ lw_good := lw_in (i := 1574) (by decide +kernel) (by decide +kernel)
theorem q1576 : Cond.methodLink "WatermarkmillLaw" 236 yX14_conjugate ∈ lw_good := lw_in (i := 1576) (by decide +kernel) (by decide +kernel)
theorem q1577 : Cond.instanceMethod yX14_conjugate ∈ lw_good := lw_in (i := 1577) (by decide +kernel) (by decide +kernel)
theorem q1578 : Cond.selects "WatermarkmillModel" yX14_conjugate yX14_conjugate ∈ lw_good := lw_in (i := 1578) (by decide +kernel) (by decide +kernel)
theorem q158 : Cond.selects "Watermarkmill" yX8_groups yX8_groups ∈ lw_good := lw_in (i := 158) (by decide +kernel) (by decide +kernel)
theorem q1580 : Cond.methodLink "WatermarkmillLaw" 239 yX14_run ∈ lw_good := lw_in (i := 1580) (by decide +kernel) (by decide +kernel)
theorem q1581 : Cond.instanceMethod yX14_run ∈ lw_good := lw_in (i := 1581) (by decide +kernel) (by decide +kernel)
theorem q1582 : Cond.selects "WatermarkmillModel" yX14_run yX14_run ∈ lw_good := lw_in (i := 1582) (by decide +kernel) (by decide +kernel)
theorem q1585 : Cond.methodLink "WatermarkmillLaw" 242 yX14_wash ∈ lw_good := lw_in (i := 1585) (by decide +kernel) (by decide +kernel)
theorem q1586 : Cond.instanceMethod yX14_wash ∈ lw_good := lw_in (i := 1586) (by decide +kernel) (by decide +kernel)
theorem q1587 : Cond.selects "WatermarkmillModel" yX14_wash yX14_wash ∈ lw_good := lw_in (i := 1587) (by decide +kernel) (by decide +kernel)
theorem q1589 : Cond.methodLink "WatermarkmillLaw" 245 yX14_image ∈ lw_good := lw_in (i := 1589) (by decide +kernel) (by decide +kernel)
theorem q1590 : Cond.instanceMethod yX14_image ∈ lw_good := lw_in (i := 1590) (by decide +kernel) (by decide +kernel)
theorem q1591 : Cond.selects "WatermarkmillModel" yX14_image yX14_image ∈ lw_good := lw_in (i := 1591) (by decide +kernel) (by decide +kernel)
theorem q1612 : Cond.methodLink "WatermarkmillLaw" 248 yX14_setTolerance ∈ lw_good := lw_in (i := 1612) (by decide +kernel) (by decide +kernel)
theorem q1613 : Cond.instanceMethod yX14_setTolerance ∈ lw_good := lw_in (i := 1613) (by decide +kernel) (by decide +kernel)
theorem q1614 : Cond.selects "WatermarkmillModel" yX14_setTolerance yX14_setTolerance ∈ lw_good := lw_in (i := 1614) (by decide +kernel) (by decide +kernel)
theorem q1616 : Cond.methodLink "WatermarkmillLaw" 251 yX14_distance ∈ lw_good := lw_in (i := 1616) (by decide +kernel) (by decide +kernel)
theorem q1617 : Cond.instanceMethod yX14_distance ∈ lw_good := lw_in (i := 1617) (by decide +kernel) (by decide +kernel)
theorem q1618 : Cond.selects "WatermarkmillModel" yX14_distance yX14_distance ∈ lw_good := lw_in (i := 1618) (by decide +kernel) (by decide +kernel)
theorem q1620 : Cond.methodLink "WatermarkmillLaw" 254 yX14_compare_ ∈ lw_good := lw_in (i := 1620) (by decide +kernel) (by decide +kernel)
theorem q1621 : Cond.instanceMethod yX14_compare_ ∈ lw_good := lw_in (i := 1621) (by decide +kernel) (by decide +kernel)
theorem q1622 : Cond.selects "WatermarkmillModel" yX14_compare_ yX14_compare_ ∈ lw_good := lw_in (i := 1622) (by decide +kernel) (by decide +kernel)
theorem q1633 : Cond.methodLink "WatermarkmillLaw" 257 yX14_evidence ∈ lw_good := lw_in (i := 1633) (by decide +kernel) (by decide +kernel)
theorem q1634 : Cond.instanceMethod yX14_evidence ∈ lw_good := lw_in (i := 1634) (by decide +kernel) (by decide +kernel)
theorem q1635 : Cond.selects "WatermarkmillModel" yX14_evidence yX14_evidence ∈ lw_good := lw_in (i := 1635) (by decide +kernel) (by decide +kernel)
theorem q1637 : Cond.methodLink "WatermarkmillLaw" 261 yX14_groups ∈ lw_good := lw_in (i := 1637) (by decide +kernel) (by decide +kernel)
theorem q1638 : Cond.instanceMethod yX14_groups ∈ lw_good := lw_in (i := 1638) (by decide +kernel) (by decide +kernel)
theorem q1639 : Cond.selects "WatermarkmillModel" yX14_groups yX14_groups ∈ lw_good := lw_in (i := 1639) (by decide +kernel) (by decide +kernel)
theorem q1645 : Cond.methodLink "WatermarkmillLaw" 264 yX14_merge ∈ lw_good := lw_in (i := 1645) (by decide +kernel) (by decide +kernel)
theorem q1646 : Cond.instanceMethod yX14_merge ∈ lw_good := lw_in (i := 1646) (by decide +kernel) (by decide +kernel)
theorem q1647 : Cond.selects "WatermarkmillModel" yX14_merge yX14_merge ∈ lw_good := lw_in (i := 1647) (by decide +kernel) (by decide +kernel)
theorem q1653 : Cond.methodLink "WatermarkmillLaw" 268 yX14_unmerge ∈ lw_good := lw_in (i := 1653) (by decide +kernel) (by decide +kernel)
theorem q1654 : Cond.instanceMethod yX14_unmerge ∈ lw_good := lw_in (i := 1654) (by decide +kernel) (by decide +kernel)
theorem q1655 : Cond.selects "WatermarkmillModel" yX14_unmerge yX14_unmerge ∈ lw_good := lw_in (i := 1655) (by decide +kernel) (by decide +kernel)
theorem q879 : Cond.methodLink "WatermarkmillLaw" 221 yL_cancel ∈ lw_good := lw_in (i := 879) (by decide +kernel) (by decide +kernel)
theorem q880 : Cond.static yL_cancel ∈ lw_good := lw_in (i := 880) (by decide +kernel) (by decide +kernel)
theorem q900 : Cond.methodLink "WatermarkmillLaw" 225 yL_cancels ∈ lw_good := lw_in (i := 900) (by decide +kernel) (by decide +kernel)
theorem q901 : Cond.static yL_cancels ∈ lw_good := lw_in (i := 901) (by decide +kernel) (by decide +kernel)
theorem q919 : Cond.methodLink "WatermarkmillLaw" 228 yL_leafOf ∈ lw_good := lw_in (i := 919) (by decide +kernel) (by decide +kernel)
theorem q920 : Cond.static yL_leafOf ∈ lw_good := lw_in (i := 920) (by decide +kernel) (by decide +kernel)
theorem q926 : Cond.methodLink "WatermarkmillLaw" 231 yL_markIn ∈ lw_good := lw_in (i := 926) (by decide +kernel) (by decide +kernel)
theorem q927 : Cond.static yL_markIn ∈ lw_good := lw_in (i := 927) (by decide +kernel) (by decide +kernel)
theorem q933 : Cond.methodLink "WatermarkmillLaw" 234 yL_conjugate ∈ lw_good := lw_in (i := 933) (by decide +kernel) (by decide +kernel)
theorem q934 : Cond.static yL_conjugate ∈ lw_good := lw_in (i := 934) (by decide +kernel) (by decide +kernel)
theorem q941 : Cond.methodLink "WatermarkmillLaw" 237 yL_run ∈ lw_good := lw_in (i := 941) (by decide +kernel) (by decide +kernel)
theorem q942 : Cond.static yL_run ∈ lw_good := lw_in (i := 942) (by decide +kernel) (by decide +kernel)
theorem q957 : Cond.methodLink "WatermarkmillLaw" 240 yL_wash ∈ lw_good := lw_in (i := 957) (by decide +kernel) (by decide +kernel)
theorem q958 : Cond.static yL_wash ∈ lw_good := lw_in (i := 958) (by decide +kernel) (by decide +kernel)
theorem q964 : Cond.methodLink "WatermarkmillLaw" 243 yL_image ∈ lw_good := lw_in (i := 964) (by decide +kernel) (by decide +kernel)
theorem q965 : Cond.static yL_image ∈ lw_good := lw_in (i := 965) (by decide +kernel) (by decide +kernel)
theorem q992 : Cond.methodLink "WatermarkmillLaw" 246 yL_setTolerance ∈ lw_good := lw_in (i := 992) (by decide +kernel) (by decide +kernel)
theorem q993 : Cond.static yL_setTolerance ∈ lw_good := lw_in (i := 993) (by decide +kernel) (by decide +kernel)
theorem q999 : Cond.methodLink "WatermarkmillLaw" 249 yL_distance ∈ lw_good := lw_in (i := 999) (by decide +kernel) (by decide +kernel)
theorem dL_law_1421 : decode cL_law 1421 = .ok (.aload_n 1, 1) := by decide +kernel
theorem dL_law_1422 : decode cL_law 1422 = .ok (.aload_n 0, 1) := by decide +kernel
theorem dL_law_1423 : decode cL_law 1423 = .ok (.iload 5, 2) := by decide +kernel
theorem dL_law_1425 : decode cL_law 1425 = .ok (.iconst 1, 1) := by decide +kernel
theorem dL_law_1426 : decode cL_law 1426 = .ok (.iadd, 1) := by decide +kernel
theorem dL_law_1427 : decode cL_law 1427 = .ok (.iaload, 1) := by decide +kernel
theorem dL_law_1428 : decode cL_law 1428 = .ok (.aload_n 0, 1) := by decide +kernel
theorem dL_law_1429 : decode cL_law 1429 = .ok (.iload 5, 2) := by decide +kernel
theorem dL_law_1431 : decode cL_law 1431 = .ok (.iconst 2, 1) := by decide +kernel
theorem dL_law_1432 : decode cL_law 1432 = .ok (.iadd, 1) := by decide +kernel
theorem dL_law_1433 : decode cL_law 1433 = .ok (.iaload, 1) := by decide +kernel
theorem dL_law_1434 : decode cL_law 1434 = .ok (.aload_n 0, 1) := by decide +kernel
theorem dL_law_1435 : decode cL_law 1435 = .ok (.iload 5, 2) := by decide +kernel
theorem dL_law_1437 : decode cL_law 1437 = .ok (.iconst 3, 1) := by decide +kernel
theorem dL_law_1438 : decode cL_law 1438 = .ok (.iadd, 1) := by decide +kernel
theorem dL_law_1439 : decode cL_law 1439 = .ok (.iaload, 1) := by decide +kernel
theorem dL_law_1440 : decode cL_law 1440 = .ok (.aload_n 0, 1) := by decide +kernel
theorem dL_law_1441 : decode cL_law 1441 = .ok (.iload 5, 2) := by decide +kernel
theorem dL_law_1443 : decode cL_law 1443 = .ok (.iconst 4, 1) := by decide +kernel
theorem dL_law_1444 : decode cL_law 1444 = .ok (.iadd, 1) := by decide +kernel
theorem dL_law_1445 : decode cL_law 1445 = .ok (.iaload, 1) := by decide +kernel
theorem dL_law_1446 : decode cL_law 1446 = .ok (.aload_n 3, 1) := by decide +kernel
theorem dL_law_1447 : decode cL_law 1447 = .ok (.invokestatic 221, 3) := by decide +kernel
theorem dL_law_1450 : decode cL_law 1450 = .ok (.istore 6, 2) := by decide +kernel
theorem dL_law_1452 : decode cL_law 1452 = .ok (.aload_n 2, 1) := by decide +kernel
theorem dL_law_1453 : decode cL_law 1453 = .ok (.aload_n 0, 1) := by decide +kernel
theorem dL_law_1454 : decode cL_law 1454 = .ok (.iload 5, 2) := by decide +kernel
theorem dL_law_1456 : decode cL_law 1456 = .ok (.iconst 1, 1) := by decide +kernel
theorem dL_law_1457 : decode cL_law 1457 = .ok (.iadd, 1) := by decide +kernel
theorem dL_law_1458 : decode cL_law 1458 = .ok (.iaload, 1) := by decide +kernel
theorem dL_law_1459 : decode cL_law 1459 = .ok (.aload_n 0, 1) := by decide +kernel
theorem dL_law_1460 : decode cL_law 1460 = .ok (.iload 5, 2) := by decide +kernel
theorem dL_law_1462 : decode cL_law 1462 = .ok (.iconst 2, 1) := by decide +kernel
theorem dL_law_1463 : decode cL_law 1463 = .ok (.iadd, 1) := by decide +kernel
theorem dL_law_1464 : decode cL_law 1464 = .ok (.iaload, 1) := by decide +kernel
theorem dL_law_1465 : decode cL_law 1465 = .ok (.aload_n 0, 1) := by decide +kernel
theorem dL_law_1466 : decode cL_law 1466 = .ok (.iload 5, 2) := by decide +kernel
theorem dL_law_1468 : decode cL_law 1468 = .ok (.iconst 3, 1) := by decide +kernel
theorem dL_law_1469 : decode cL_law 1469 = .ok (.iadd, 1) := by decide +kernel
theorem dL_law_1470 : decode cL_law 1470 = .ok (.iaload, 1) := by decide +kernel
theorem dL_law_1471 : decode cL_law 1471 = .ok (.aload_n 0, 1) := by decide +kernel
theorem dL_law_1472 : decode cL_law 1472 = .ok (.iload 5, 2) := by decide +kernel
theorem dL_law_1474 : decode cL_law 1474 = .ok (.iconst 4, 1) := by decide +kernel
theorem dL_law_1475 : decode cL_law 1475 = .ok (.iadd, 1) := by decide +kernel
theorem dL_law_1476 : decode cL_law 1476 = .ok (.iaload, 1) := by decide +kernel
theorem dL_law_1477 : decode cL_law 1477 = .ok (.invokevirtual 224, 3) := by decide +kernel
theorem dL_law_1480 : decode cL_law 1480 = .ok (.istore 7, 2) := by decide +kernel
theorem dL_law_1482 : decode cL_law 1482 = .ok (.aload_n 2, 1) := by decide +kernel
theorem dL_law_1483 : decode cL_law 1483 = .ok (.invokevirtual 171, 3) := by decide +kernel
theorem dL_law_1486 : decode cL_law 1486 = .ok (.iload 6, 2) := by decide +kernel
theorem dL_law_1488 : decode cL_law 1488 = .ok (.if_icmp .eq 5, 3) := by decide +kernel
theorem dL_law_1493 : decode cL_law 1493 = .ok (.iload 6, 2) := by decide +kernel
theorem dL_law_1495 : decode cL_law 1495 = .ok (.ifCond .ne 22, 3) := by decide +kernel
theorem dL_law_1517 : decode cL_law 1517 = .ok (.goto 1771, 3) := by decide +kernel
theorem dL_law_1520 : decode cL_law 1520 = .ok (.aload_n 1, 1) := by decide +kernel
theorem dL_law_1521 : decode cL_law 1521 = .ok (.aload_n 0, 1) := by decide +kernel
theorem dL_law_1522 : decode cL_law 1522 = .ok (.iload 5, 2) := by decide +kernel
theorem dL_law_1524 : decode cL_law 1524 = .ok (.iconst 1, 1) := by decide +kernel
theorem dL_law_1525 : decode cL_law 1525 = .ok (.iadd, 1) := by decide +kernel
theorem dL_law_1526 : decode cL_law 1526 = .ok (.iaload, 1) := by decide +kernel
theorem dL_law_1527 : decode cL_law 1527 = .ok (.aload_n 0, 1) := by decide +kernel
theorem dL_law_1528 : decode cL_law 1528 = .ok (.iload 5, 2) := by decide +kernel
theorem dL_law_1530 : decode cL_law 1530 = .ok (.iconst 2, 1) := by decide +kernel
theorem dL_law_1531 : decode cL_law 1531 = .ok (.iadd, 1) := by decide +kernel
theorem dL_law_1532 : decode cL_law 1532 = .ok (.iaload, 1) := by decide +kernel
theorem dL_law_1533 : decode cL_law 1533 = .ok (.aload_n 3, 1) := by decide +kernel
theorem dL_law_1534 : decode cL_law 1534 = .ok (.invokestatic 225, 3) := by decide +kernel
theorem dL_law_1537 : decode cL_law 1537 = .ok (.istore 6, 2) := by decide +kernel
theorem dL_law_1539 : decode cL_law 1539 = .ok (.aload_n 2, 1) := by decide +kernel
theorem dL_law_1540 : decode cL_law 1540 = .ok (.aload_n 0, 1) := by decide +kernel
theorem dL_law_1541 : decode cL_law 1541 = .ok (.iload 5, 2) := by decide +kernel
theorem dL_law_1543 : decode cL_law 1543 = .ok (.iconst 1, 1) := by decide +kernel
theorem dL_law_1544 : decode cL_law 1544 = .ok (.iadd, 1) := by decide +kernel
theorem dL_law_1545 : decode cL_law 1545 = .ok (.iaload, 1) := by decide +kernel
theorem dL_law_1546 : decode cL_law 1546 = .ok (.aload_n 0, 1) := by decide +kernel
theorem dL_law_1547 : decode cL_law 1547 = .ok (.iload 5, 2) := by decide +kernel
theorem dL_law_1549 : decode cL_law 1549 = .ok (.iconst 2, 1) := by decide +kernel
theorem dL_law_1550 : decode cL_law 1550 = .ok (.iadd, 1) := by decide +kernel
theorem dL_law_1551 : decode cL_law 1551 = .ok (.iaload, 1) := by decide +kernel
theorem dL_law_1552 : decode cL_law 1552 = .ok (.invokevirtual 227, 3) := by decide +kernel
theorem dL_law_1555 : decode cL_law 1555 = .ok (.istore 7, 2) := by decide +kernel
theorem dL_law_1557 : decode cL_law 1557 = .ok (.aload_n 2, 1) := by decide +kernel
theorem dL_law_1558 : decode cL_law 1558 = .ok (.invokevirtual 171, 3) := by decide +kernel
theorem dL_law_1561 : decode cL_law 1561 = .ok (.iload 6, 2) := by decide +kernel
theorem dL_law_1563 : decode cL_law 1563 = .ok (.if_icmp .eq 5, 3) := by decide +kernel
theorem dL_law_1568 : decode cL_law 1568 = .ok (.iload 6, 2) := by decide +kernel
theorem dL_law_1570 : decode cL_law 1570 = .ok (.ifCond .ne 15, 3) := by decide +kernel
theorem dL_law_1585 : decode cL_law 1585 = .ok (.goto 1703, 3) := by decide +kernel
theorem dL_law_1588 : decode cL_law 1588 = .ok (.aload_n 1, 1) := by decide +kernel
theorem dL_law_1589 : decode cL_law 1589 = .ok (.aload_n 0, 1) := by decide +kernel
theorem dL_law_1590 : decode cL_law 1590 = .ok (.iload 5, 2) := by decide +kernel
theorem dL_law_1592 : decode cL_law 1592 = .ok (.iconst 1, 1) := by decide +kernel
theorem dL_law_1593 : decode cL_law 1593 = .ok (.iadd, 1) := by decide +kernel
theorem dL_law_1594 : decode cL_law 1594 = .ok (.iaload, 1) := by decide +kernel
theorem dL_law_1595 : decode cL_law 1595 = .ok (.aload_n 0, 1) := by decide +kernel
theorem dL_law_1596 : decode cL_law 1596 = .ok (.iload 5, 2) := by decide +kernel
theorem dL_law_1598 : decode cL_law 1598 = .ok (.iconst 2, 1) := by decide +kernel
theorem dL_law_1599 : decode cL_law 1599 = .ok (.iadd, 1) := by decide +kernel
theorem dL_law_1600 : decode cL_law 1600 = .ok (.iaload, 1) := by decide +kernel
theorem dL_law_1601 : decode cL_law 1601 = .ok (.aload_n 0, 1) := by decide +kernel
theorem dL_law_1602 : decode cL_law 1602 = .ok (.iload 5, 2) := by decide +kernel
theorem dL_law_1604 : decode cL_law 1604 = .ok (.iconst 3, 1) := by decide +kernel
theorem dL_law_1605 : decode cL_law 1605 = .ok (.iadd, 1) := by decide +kernel
theorem dL_law_1606 : decode cL_law 1606 = .ok (.iaload, 1) := by decide +kernel
theorem dL_law_1607 : decode cL_law 1607 = .ok (.aload_n 3, 1) := by decide +kernel
theorem dL_law_1608 : decode cL_law 1608 = .ok (.invokestatic 228, 3) := by decide +kernel
theorem dL_law_1611 : decode cL_law 1611 = .ok (.istore 6, 2) := by decide +kernel
theorem dL_law_1613 : decode cL_law 1613 = .ok (.aload_n 2, 1) := by decide +kernel
theorem dL_law_1614 : decode cL_law 1614 = .ok (.aload_n 0, 1) := by decide +kernel
theorem dL_law_1615 : decode cL_law 1615 = .ok (.iload 5, 2) := by decide +kernel
theorem dL_law_1617 : decode cL_law 1617 = .ok (.iconst 1, 1) := by decide +kernel
theorem dL_law_1618 : decode cL_law 1618 = .ok (.iadd, 1) := by decide +kernel
theorem dL_law_1619 : decode cL_law 1619 = .ok (.iaload, 1) := by decide +kernel
theorem dL_law_1620 : decode cL_law 1620 = .ok (.aload_n 0, 1) := by decide +kernel
theorem dL_law_1621 : decode cL_law 1621 = .ok (.iload 5, 2) := by decide +kernel
theorem dL_law_1623 : decode cL_law 1623 = .ok (.iconst 2, 1) := by decide +kernel
theorem dL_law_1624 : decode cL_law 1624 = .ok (.iadd, 1) := by decide +kernel
theorem dL_law_1625 : decode cL_law 1625 = .ok (.iaload, 1) := by decide +kernel
theorem dL_law_1626 : decode cL_law 1626 = .ok (.aload_n 0, 1) := by decide +kernel
theorem dL_law_1627 : decode cL_law 1627 = .ok (.iload 5, 2) := by decide +kernel
theorem dL_law_1629 : decode cL_law 1629 = .ok (.iconst 3, 1) := by decide +kernel
theorem dL_law_1630 : decode cL_law 1630 = .ok (.iadd, 1) := by decide +kernel
theorem dL_law_1631 : decode cL_law 1631 = .ok (.iaload, 1) := by decide +kernel
theorem dL_law_1632 : decode cL_law 1632 = .ok (.invokevirtual 230, 3) := by decide +kernel
theorem dL_law_1635 : decode cL_law 1635 = .ok (.istore 7, 2) := by decide +kernel
theorem dL_law_1637 : decode cL_law 1637 = .ok (.aload_n 2, 1) := by decide +kernel
theorem dL_law_1638 : decode cL_law 1638 = .ok (.invokevirtual 171, 3) := by decide +kernel
theorem dL_law_1641 : decode cL_law 1641 = .ok (.iload 6, 2) := by decide +kernel
theorem dL_law_1643 : decode cL_law 1643 = .ok (.if_icmp .eq 5, 3) := by decide +kernel
theorem dL_law_1648 : decode cL_law 1648 = .ok (.iload 6, 2) := by decide +kernel
theorem dL_law_1650 : decode cL_law 1650 = .ok (.ifCond .ne 15, 3) := by decide +kernel
theorem dL_law_1665 : decode cL_law 1665 = .ok (.goto 1623, 3) := by decide +kernel
theorem dL_law_1668 : decode cL_law 1668 = .ok (.aload_n 1, 1) := by decide +kernel
theorem dL_law_1669 : decode cL_law 1669 = .ok (.aload_n 0, 1) := by decide +kernel
theorem dL_law_1670 : decode cL_law 1670 = .ok (.iload 5, 2) := by decide +kernel
theorem dL_law_1672 : decode cL_law 1672 = .ok (.iconst 1, 1) := by decide +kernel
theorem dL_law_1673 : decode cL_law 1673 = .ok (.iadd, 1) := by decide +kernel
theorem dL_law_1674 : decode cL_law 1674 = .ok (.iaload, 1) := by decide +kernel
theorem dL_law_1675 : decode cL_law 1675 = .ok (.aload_n 0, 1) := by decide +kernel
theorem dL_law_1676 : decode cL_law 1676 = .ok (.iload 5, 2) := by decide +kernel
theorem dL_law_1678 : decode cL_law 1678 = .ok (.iconst 2, 1) := by decide +kernel
theorem dL_law_1679 : decode cL_law 1679 = .ok (.iadd, 1) := by decide +kernel
theorem dL_law_1680 : decode cL_law 1680 = .ok (.iaload, 1) := by decide +kernel
theorem dL_law_1681 : decode cL_law 1681 = .ok (.aload_n 3, 1) := by decide +kernel
theorem dL_law_1682 : decode cL_law 1682 = .ok (.invokestatic 231, 3) := by decide +kernel
theorem dL_law_1685 : decode cL_law 1685 = .ok (.istore 6, 2) := by decide +kernel
theorem dL_law_1687 : decode cL_law 1687 = .ok (.aload_n 2, 1) := by decide +kernel
theorem dL_law_1688 : decode cL_law 1688 = .ok (.aload_n 0, 1) := by decide +kernel
theorem dL_law_1689 : decode cL_law 1689 = .ok (.iload 5, 2) := by decide +kernel
theorem dL_law_1691 : decode cL_law 1691 = .ok (.iconst 1, 1) := by decide +kernel
theorem dL_law_1692 : decode cL_law 1692 = .ok (.iadd, 1) := by decide +kernel
theorem dL_law_1693 : decode cL_law 1693 = .ok (.iaload, 1) := by decide +kernel
theorem dL_law_1694 : decode cL_law 1694 = .ok (.aload_n 0, 1) := by decide +kernel
theorem dL_law_1695 : decode cL_law 1695 = .ok (.iload 5, 2) := by decide +kernel
theorem dL_law_1697 : decode cL_law 1697 = .ok (.iconst 2, 1) := by decide +kernel
theorem dL_law_1698 : decode cL_law 1698 = .ok (.iadd, 1) := by decide +kernel
theorem dL_law_1699 : decode cL_law 1699 = .ok (.iaload, 1) := by decide +kernel
theorem dL_law_1700 : decode cL_law 1700 = .ok (.invokevirtual 233, 3) := by decide +kernel
theorem dL_law_1703 : decode cL_law 1703 = .ok (.istore 7, 2) := by decide +kernel
theorem dL_law_1705 : decode cL_law 1705 = .ok (.aload_n 2, 1) := by decide +kernel
theorem dL_law_1706 : decode cL_law 1706 = .ok (.invokevirtual 171, 3) := by decide +kernel
theorem dL_law_1709 : decode cL_law 1709 = .ok (.iload 6, 2) := by decide +kernel
theorem dL_law_1711 : decode cL_law 1711 = .ok (.if_icmp .eq 5, 3) := by decide +kernel
theorem dL_law_1716 : decode cL_law 1716 = .ok (.iload 6, 2) := by decide +kernel
theorem dL_law_1718 : decode cL_law 1718 = .ok (.ifCond .ne 15, 3) := by decide +kernel
theorem dL_law_1733 : decode cL_law 1733 = .ok (.goto 1555, 3) := by decide +kernel
theorem dL_law_1736 : decode cL_law 1736 = .ok (.aload_n 1, 1) := by decide +kernel
theorem dL_law_1737 : decode cL_law 1737 = .ok (.aload_n 0, 1) := by decide +kernel
theorem dL_law_1738 : decode cL_law 1738 = .ok (.iload 5, 2) := by decide +kernel
theorem dL_law_1740 : decode cL_law 1740 = .ok (.iconst 1, 1) := by decide +kernel
theorem dL_law_1741 : decode cL_law 1741 = .ok (.iadd, 1) := by decide +kernel
theorem dL_law_1742 : decode cL_law 1742 = .ok (.iaload, 1) := by decide +kernel
theorem dL_law_1743 : decode cL_law 1743 = .ok (.aload_n 0, 1) := by decide +kernel
theorem dL_law_1744 : decode cL_law 1744 = .ok (.iload 5, 2) := by decide +kernel
theorem dL_law_1746 : decode cL_law 1746 = .ok (.iconst 2, 1) := by decide +kernel
theorem dL_law_1747 : decode cL_law 1747 = .ok (.iadd, 1) := by decide +kernel
theorem dL_law_1748 : decode cL_law 1748 = .ok (.iaload, 1) := by decide +kernel
theorem dL_law_1749 : decode cL_law 1749 = .ok (.aload_n 3, 1) := by decide +kernel
theorem dL_law_1750 : decode cL_law 1750 = .ok (.invokestatic 234, 3) := by decide +kernel
theorem dL_law_1753 : decode cL_law 1753 = .ok (.istore 6, 2) := by decide +kernel
theorem dL_law_1755 : decode cL_law 1755 = .ok (.aload_n 2, 1) := by decide +kernel
theorem dL_law_1756 : decode cL_law 1756 = .ok (.aload_n 0, 1) := by decide +kernel
theorem dL_law_1757 : decode cL_law 1757 = .ok (.iload 5, 2) := by decide +kernel
theorem dL_law_1759 : decode cL_law 1759 = .ok (.iconst 1, 1) := by decide +kernel
theorem dL_law_1760 : decode cL_law 1760 = .ok (.iadd, 1) := by decide +kernel
theorem dL_law_1761 : decode cL_law 1761 = .ok (.iaload, 1) := by decide +kernel
theorem dL_law_1762 : decode cL_law 1762 = .ok (.aload_n 0, 1) := by decide +kernel
theorem dL_law_1763 : decode cL_law 1763 = .ok (.iload 5, 2) := by decide +kernel
theorem dL_law_1765 : decode cL_law 1765 = .ok (.iconst 2, 1) := by decide +kernel
theorem dL_law_1766 : decode cL_law 1766 = .ok (.iadd, 1) := by decide +kernel
theorem dL_law_1767 : decode cL_law 1767 = .ok (.iaload, 1) := by decide +kernel
theorem dL_law_1768 : decode cL_law 1768 = .ok (.invokevirtual 236, 3) := by decide +kernel
theorem dL_law_1771 : decode cL_law 1771 = .ok (.istore 7, 2) := by decide +kernel
theorem dL_law_1773 : decode cL_law 1773 = .ok (.aload_n 2, 1) := by decide +kernel
theorem dL_law_1774 : decode cL_law 1774 = .ok (.invokevirtual 171, 3) := by decide +kernel
theorem dL_law_1777 : decode cL_law 1777 = .ok (.iload 6, 2) := by decide +kernel
theorem dL_law_1779 : decode cL_law 1779 = .ok (.if_icmp .eq 5, 3) := by decide +kernel
theorem dL_law_1784 : decode cL_law 1784 = .ok (.iload 6, 2) := by decide +kernel
theorem dL_law_1786 : decode cL_law 1786 = .ok (.ifCond .ne 15, 3) := by decide +kernel
theorem dL_law_1801 : decode cL_law 1801 = .ok (.goto 1487, 3) := by decide +kernel
theorem dL_law_1804 : decode cL_law 1804 = .ok (.aload_n 1, 1) := by decide +kernel
theorem dL_law_1805 : decode cL_law 1805 = .ok (.aload_n 0, 1) := by decide +kernel
theorem dL_law_1806 : decode cL_law 1806 = .ok (.iload 5, 2) := by decide +kernel
theorem dL_law_1808 : decode cL_law 1808 = .ok (.iconst 1, 1) := by decide +kernel
theorem dL_law_1809 : decode cL_law 1809 = .ok (.iadd, 1) := by decide +kernel
theorem dL_law_1810 : decode cL_law 1810 = .ok (.iaload, 1) := by decide +kernel
theorem dL_law_1811 : decode cL_law 1811 = .ok (.aload_n 0, 1) := by decide +kernel
theorem dL_law_1812 : decode cL_law 1812 = .ok (.iload 5, 2) := by decide +kernel
theorem dL_law_1814 : decode cL_law 1814 = .ok (.iconst 2, 1) := by decide +kernel
theorem dL_law_1815 : decode cL_law 1815 = .ok (.iadd, 1) := by decide +kernel
theorem dL_law_1816 : decode cL_law 1816 = .ok (.iaload, 1) := by decide +kernel
theorem dL_law_1817 : decode cL_law 1817 = .ok (.aload_n 3, 1) := by decide +kernel
theorem dL_law_1818 : decode cL_law 1818 = .ok (.invokestatic 237, 3) := by decide +kernel
theorem dL_law_1821 : decode cL_law 1821 = .ok (.istore 6, 2) := by decide +kernel
theorem dL_law_1823 : decode cL_law 1823 = .ok (.aload_n 2, 1) := by decide +kernel
theorem dL_law_1824 : decode cL_law 1824 = .ok (.aload_n 0, 1) := by decide +kernel
theorem dL_law_1825 : decode cL_law 1825 = .ok (.iload 5, 2) := by decide +kernel
theorem dL_law_1827 : decode cL_law 1827 = .ok (.iconst 1, 1) := by decide +kernel
theorem dL_law_1828 : decode cL_law 1828 = .ok (.iadd, 1) := by decide +kernel
theorem dL_law_1829 : decode cL_law 1829 = .ok (.iaload, 1) := by decide +kernel
theorem dL_law_1830 : decode cL_law 1830 = .ok (.aload_n 0, 1) := by decide +kernel
theorem dL_law_1831 : decode cL_law 1831 = .ok (.iload 5, 2) := by decide +kernel
theorem dL_law_1833 : decode cL_law 1833 = .ok (.iconst 2, 1) := by decide +kernel
theorem dL_law_1834 : decode cL_law 1834 = .ok (.iadd, 1) := by decide +kernel
theorem dL_law_1835 : decode cL_law 1835 = .ok (.iaload, 1) := by decide +kernel
theorem dL_law_1836 : decode cL_law 1836 = .ok (.invokevirtual 239, 3) := by decide +kernel
theorem dL_law_1839 : decode cL_law 1839 = .ok (.istore 7, 2) := by decide +kernel
theorem dL_law_1841 : decode cL_law 1841 = .ok (.aload_n 2, 1) := by decide +kernel
theorem dL_law_1842 : decode cL_law 1842 = .ok (.invokevirtual 171, 3) := by decide +kernel
theorem dL_law_1845 : decode cL_law 1845 = .ok (.iload 6, 2) := by decide +kernel
theorem dL_law_1847 : decode cL_law 1847 = .ok (.if_icmp .eq 5, 3) := by decide +kernel
theorem dL_law_1852 : decode cL_law 1852 = .ok (.iload 6, 2) := by decide +kernel
theorem dL_law_1854 : decode cL_law 1854 = .ok (.ifCond .ne 15, 3) := by decide +kernel
theorem dL_law_1869 : decode cL_law 1869 = .ok (.goto 1419, 3) := by decide +kernel
theorem dL_law_1872 : decode cL_law 1872 = .ok (.aload_n 1, 1) := by decide +kernel
theorem dL_law_1873 : decode cL_law 1873 = .ok (.aload_n 0, 1) := by decide +kernel
theorem dL_law_1874 : decode cL_law 1874 = .ok (.iload 5, 2) := by decide +kernel
theorem dL_law_1876 : decode cL_law 1876 = .ok (.iconst 1, 1) := by decide +kernel
theorem dL_law_1877 : decode cL_law 1877 = .ok (.iadd, 1) := by decide +kernel
theorem dL_law_1878 : decode cL_law 1878 = .ok (.iaload, 1) := by decide +kernel
theorem dL_law_1879 : decode cL_law 1879 = .ok (.aload_n 3, 1) := by decide +kernel
theorem dL_law_1880 : decode cL_law 1880 = .ok (.invokestatic 240, 3) := by decide +kernel
theorem dL_law_1883 : decode cL_law 1883 = .ok (.istore 6, 2) := by decide +kernel
theorem dL_law_1885 : decode cL_law 1885 = .ok (.aload_n 2, 1) := by decide +kernel
theorem dL_law_1886 : decode cL_law 1886 = .ok (.aload_n 0, 1) := by decide +kernel
theorem dL_law_1887 : decode cL_law 1887 = .ok (.iload 5, 2) := by decide +kernel
theorem dL_law_1889 : decode cL_law 1889 = .ok (.iconst 1, 1) := by decide +kernel
theorem dL_law_1890 : decode cL_law 1890 = .ok (.iadd, 1) := by decide +kernel
theorem dL_law_1891 : decode cL_law 1891 = .ok (.iaload, 1) := by decide +kernel
theorem dL_law_1892 : decode cL_law 1892 = .ok (.invokevirtual 242, 3) := by decide +kernel
theorem dL_law_1895 : decode cL_law 1895 = .ok (.istore 7, 2) := by decide +kernel
theorem dL_law_1897 : decode cL_law 1897 = .ok (.aload_n 2, 1) := by decide +kernel
theorem dL_law_1898 : decode cL_law 1898 = .ok (.invokevirtual 171, 3) := by decide +kernel
theorem dL_law_1901 : decode cL_law 1901 = .ok (.iload 6, 2) := by decide +kernel
theorem dL_law_1903 : decode cL_law 1903 = .ok (.if_icmp .eq 5, 3) := by decide +kernel
theorem dL_law_1908 : decode cL_law 1908 = .ok (.iload 6, 2) := by decide +kernel
theorem dL_law_1910 : decode cL_law 1910 = .ok (.ifCond .ne 22, 3) := by decide +kernel
theorem dL_law_1932 : decode cL_law 1932 = .ok (.goto 1356, 3) := by decide +kernel
theorem dL_law_1935 : decode cL_law 1935 = .ok (.aload_n 1, 1) := by decide +kernel
theorem dL_law_1936 : decode cL_law 1936 = .ok (.aload_n 0, 1) := by decide +kernel
theorem dL_law_1937 : decode cL_law 1937 = .ok (.iload 5, 2) := by decide +kernel
theorem dL_law_1939 : decode cL_law 1939 = .ok (.iconst 1, 1) := by decide +kernel
theorem dL_law_1940 : decode cL_law 1940 = .ok (.iadd, 1) := by decide +kernel
theorem dL_law_1941 : decode cL_law 1941 = .ok (.iaload, 1) := by decide +kernel
theorem dL_law_1942 : decode cL_law 1942 = .ok (.aload_n 0, 1) := by decide +kernel
theorem dL_law_1943 : decode cL_law 1943 = .ok (.iload 5, 2) := by decide +kernel
theorem dL_law_1945 : decode cL_law 1945 = .ok (.iconst 2, 1) := by decide +kernel
theorem dL_law_1946 : decode cL_law 1946 = .ok (.iadd, 1) := by decide +kernel
theorem dL_law_1947 : decode cL_law 1947 = .ok (.iaload, 1) := by decide +kernel
theorem dL_law_1948 : decode cL_law 1948 = .ok (.aload_n 0, 1) := by decide +kernel
theorem dL_law_1949 : decode cL_law 1949 = .ok (.iload 5, 2) := by decide +kernel
theorem dL_law_1951 : decode cL_law 1951 = .ok (.iconst 3, 1) := by decide +kernel
theorem dL_law_1952 : decode cL_law 1952 = .ok (.iadd, 1) := by decide +kernel
theorem dL_law_1953 : decode cL_law 1953 = .ok (.iaload, 1) := by decide +kernel
theorem dL_law_1954 : decode cL_law 1954 = .ok (.aload_n 0, 1) := by decide +kernel
theorem dL_law_1955 : decode cL_law 1955 = .ok (.iload 5, 2) := by decide +kernel
theorem dL_law_1957 : decode cL_law 1957 = .ok (.iconst 4, 1) := by decide +kernel
theorem dL_law_1958 : decode cL_law 1958 = .ok (.iadd, 1) := by decide +kernel
theorem dL_law_1959 : decode cL_law 1959 = .ok (.iaload, 1) := by decide +kernel
theorem dL_law_1960 : decode cL_law 1960 = .ok (.aload_n 3, 1) := by decide +kernel
theorem dL_law_1961 : decode cL_law 1961 = .ok (.invokestatic 243, 3) := by decide +kernel
theorem dL_law_1964 : decode cL_law 1964 = .ok (.istore 6, 2) := by decide +kernel
theorem dL_law_1966 : decode cL_law 1966 = .ok (.aload_n 2, 1) := by decide +kernel
theorem dL_law_1967 : decode cL_law 1967 = .ok (.aload_n 0, 1) := by decide +kernel
theorem dL_law_1968 : decode cL_law 1968 = .ok (.iload 5, 2) := by decide +kernel
theorem dL_law_1970 : decode cL_law 1970 = .ok (.iconst 1, 1) := by decide +kernel
theorem dL_law_1971 : decode cL_law 1971 = .ok (.iadd, 1) := by decide +kernel
theorem dL_law_1972 : decode cL_law 1972 = .ok (.iaload, 1) := by decide +kernel
theorem dL_law_1973 : decode cL_law 1973 = .ok (.aload_n 0, 1) := by decide +kernel
theorem dL_law_1974 : decode cL_law 1974 = .ok (.iload 5, 2) := by decide +kernel
theorem dL_law_1976 : decode cL_law 1976 = .ok (.iconst 2, 1) := by decide +kernel
theorem dL_law_1977 : decode cL_law 1977 = .ok (.iadd, 1) := by decide +kernel
theorem dL_law_1978 : decode cL_law 1978 = .ok (.iaload, 1) := by decide +kernel
theorem dL_law_1979 : decode cL_law 1979 = .ok (.aload_n 0, 1) := by decide +kernel
theorem dL_law_1980 : decode cL_law 1980 = .ok (.iload 5, 2) := by decide +kernel
theorem dL_law_1982 : decode cL_law 1982 = .ok (.iconst 3, 1) := by decide +kernel
theorem dL_law_1983 : decode cL_law 1983 = .ok (.iadd, 1) := by decide +kernel
theorem dL_law_1984 : decode cL_law 1984 = .ok (.iaload, 1) := by decide +kernel
theorem dL_law_1985 : decode cL_law 1985 = .ok (.aload_n 0, 1) := by decide +kernel
theorem dL_law_1986 : decode cL_law 1986 = .ok (.iload 5, 2) := by decide +kernel
theorem dL_law_1988 : decode cL_law 1988 = .ok (.iconst 4, 1) := by decide +kernel
theorem dL_law_1989 : decode cL_law 1989 = .ok (.iadd, 1) := by decide +kernel
theorem dL_law_1990 : decode cL_law 1990 = .ok (.iaload, 1) := by decide +kernel
theorem dL_law_1991 : decode cL_law 1991 = .ok (.invokevirtual 245, 3) := by decide +kernel
theorem dL_law_1994 : decode cL_law 1994 = .ok (.istore 7, 2) := by decide +kernel
theorem dL_law_1996 : decode cL_law 1996 = .ok (.aload_n 2, 1) := by decide +kernel
theorem dL_law_1997 : decode cL_law 1997 = .ok (.invokevirtual 171, 3) := by decide +kernel
theorem dL_law_2000 : decode cL_law 2000 = .ok (.iload 6, 2) := by decide +kernel
theorem dL_law_2002 : decode cL_law 2002 = .ok (.if_icmp .eq 5, 3) := by decide +kernel
theorem dL_law_2007 : decode cL_law 2007 = .ok (.iload 6, 2) := by decide +kernel
theorem dL_law_2009 : decode cL_law 2009 = .ok (.ifCond .ne 15, 3) := by decide +kernel
theorem dL_law_2024 : decode cL_law 2024 = .ok (.goto 1264, 3) := by decide +kernel
theorem dL_law_2027 : decode cL_law 2027 = .ok (.aload_n 1, 1) := by decide +kernel
theorem dL_law_2028 : decode cL_law 2028 = .ok (.aload_n 0, 1) := by decide +kernel
theorem dL_law_2029 : decode cL_law 2029 = .ok (.iload 5, 2) := by decide +kernel
theorem dL_law_2031 : decode cL_law 2031 = .ok (.iconst 1, 1) := by decide +kernel
theorem dL_law_2032 : decode cL_law 2032 = .ok (.iadd, 1) := by decide +kernel
theorem dL_law_2033 : decode cL_law 2033 = .ok (.iaload, 1) := by decide +kernel
theorem dL_law_2034 : decode cL_law 2034 = .ok (.aload_n 3, 1) := by decide +kernel
theorem dL_law_2035 : decode cL_law 2035 = .ok (.invokestatic 246, 3) := by decide +kernel
theorem dL_law_2038 : decode cL_law 2038 = .ok (.istore 6, 2) := by decide +kernel
theorem dL_law_2040 : decode cL_law 2040 = .ok (.aload_n 2, 1) := by decide +kernel
theorem dL_law_2041 : decode cL_law 2041 = .ok (.aload_n 0, 1) := by decide +kernel
theorem dL_law_2042 : decode cL_law 2042 = .ok (.iload 5, 2) := by decide +kernel
theorem dL_law_2044 : decode cL_law 2044 = .ok (.iconst 1, 1) := by decide +kernel
theorem dL_law_2045 : decode cL_law 2045 = .ok (.iadd, 1) := by decide +kernel
theorem dL_law_2046 : decode cL_law 2046 = .ok (.iaload, 1) := by decide +kernel
theorem dL_law_2047 : decode cL_law 2047 = .ok (.invokevirtual 248, 3) := by decide +kernel
theorem dL_law_2050 : decode cL_law 2050 = .ok (.istore 7, 2) := by decide +kernel
theorem dL_law_2052 : decode cL_law 2052 = .ok (.aload_n 2, 1) := by decide +kernel
theorem dL_law_2053 : decode cL_law 2053 = .ok (.invokevirtual 171, 3) := by decide +kernel
theorem dL_law_2056 : decode cL_law 2056 = .ok (.iload 6, 2) := by decide +kernel
theorem dL_law_2058 : decode cL_law 2058 = .ok (.if_icmp .eq 5, 3) := by decide +kernel
theorem dL_law_2063 : decode cL_law 2063 = .ok (.iload 6, 2) := by decide +kernel
theorem dL_law_2065 : decode cL_law 2065 = .ok (.ifCond .ne 15, 3) := by decide +kernel
theorem dL_law_2068 : decode cL_law 2068 = .ok (.aload_n 3, 1) := by decide +kernel
theorem dL_law_2069 : decode cL_law 2069 = .ok (.iconst 0, 1) := by decide +kernel
theorem dL_law_2070 : decode cL_law 2070 = .ok (.laload, 1) := by decide +kernel
theorem dL_law_2071 : decode cL_law 2071 = .ok (.iload 7, 2) := by decide +kernel
theorem dL_law_2073 : decode cL_law 2073 = .ok (.i2l, 1) := by decide +kernel
theorem dL_law_2074 : decode cL_law 2074 = .ok (.lcmp, 1) := by decide +kernel
theorem dL_law_2075 : decode cL_law 2075 = .ok (.ifCond .eq 5, 3) := by decide +kernel
theorem dL_law_2080 : decode cL_law 2080 = .ok (.goto 1208, 3) := by decide +kernel
theorem dL_law_2083 : decode cL_law 2083 = .ok (.aload_n 1, 1) := by decide +kernel
theorem dL_law_2084 : decode cL_law 2084 = .ok (.aload_n 0, 1) := by decide +kernel
theorem dL_law_2085 : decode cL_law 2085 = .ok (.iload 5, 2) := by decide +kernel
theorem dL_law_2087 : decode cL_law 2087 = .ok (.iconst 1, 1) := by decide +kernel
theorem dL_law_2088 : decode cL_law 2088 = .ok (.iadd, 1) := by decide +kernel
theorem dL_law_2089 : decode cL_law 2089 = .ok (.iaload, 1) := by decide +kernel
theorem dL_law_2090 : decode cL_law 2090 = .ok (.aload_n 0, 1) := by decide +kernel
theorem dL_law_2091 : decode cL_law 2091 = .ok (.iload 5, 2) := by decide +kernel
theorem dL_law_2093 : decode cL_law 2093 = .ok (.iconst 2, 1) := by decide +kernel
theorem dL_law_2094 : decode cL_law 2094 = .ok (.iadd, 1) := by decide +kernel
theorem dL_law_2095 : decode cL_law 2095 = .ok (.iaload, 1) := by decide +kernel
theorem dL_law_2096 : decode cL_law 2096 = .ok (.aload_n 3, 1) := by decide +kernel
theorem dL_law_2097 : decode cL_law 2097 = .ok (.invokestatic 249, 3) := by decide +kernel
theorem dL_law_2100 : decode cL_law 2100 = .ok (.istore 6, 2) := by decide +kernel
theorem dL_law_2102 : decode cL_law 2102 = .ok (.aload_n 2, 1) := by decide +kernel
theorem dL_law_2103 : decode cL_law 2103 = .ok (.aload_n 0, 1) := by decide +kernel
theorem dL_law_2104 : decode cL_law 2104 = .ok (.iload 5, 2) := by decide +kernel
theorem dL_law_2106 : decode cL_law 2106 = .ok (.iconst 1, 1) := by decide +kernel
theorem dL_law_2107 : decode cL_law 2107 = .ok (.iadd, 1) := by decide +kernel
theorem dL_law_2108 : decode cL_law 2108 = .ok (.iaload, 1) := by decide +kernel
theorem dL_law_2109 : decode cL_law 2109 = .ok (.aload_n 0, 1) := by decide +kernel
theorem dL_law_2110 : decode cL_law 2110 = .ok (.iload 5, 2) := by decide +kernel
theorem dL_law_2112 : decode cL_law 2112 = .ok (.iconst 2, 1) := by decide +kernel
theorem dL_law_2113 : decode cL_law 2113 = .ok (.iadd, 1) := by decide +kernel
theorem dL_law_2114 : decode cL_law 2114 = .ok (.iaload, 1) := by decide +kernel
theorem dL_law_2115 : decode cL_law 2115 = .ok (.invokevirtual 251, 3) := by decide +kernel
theorem dL_law_2118 : decode cL_law 2118 = .ok (.istore 7, 2) := by decide +kernel
theorem dL_law_2120 : decode cL_law 2120 = .ok (.aload_n 2, 1) := by decide +kernel
theorem dL_law_2121 : decode cL_law 2121 = .ok (.invokevirtual 171, 3) := by decide +kernel
theorem dL_law_2124 : decode cL_law 2124 = .ok (.iload 6, 2) := by decide +kernel
theorem dL_law_2126 : decode cL_law 2126 = .ok (.if_icmp .eq 5, 3) := by decide +kernel
theorem dL_law_2131 : decode cL_law 2131 = .ok (.iload 6, 2) := by decide +kernel
theorem dL_law_2133 : decode cL_law 2133 = .ok (.ifCond .ne 15, 3) := by decide +kernel
theorem dL_law_2148 : decode cL_law 2148 = .ok (.goto 1140, 3) := by decide +kernel
theorem dL_law_2151 : decode cL_law 2151 = .ok (.aload_n 1, 1) := by decide +kernel
theorem dL_law_2152 : decode cL_law 2152 = .ok (.aload_n 0, 1) := by decide +kernel
theorem dL_law_2153 : decode cL_law 2153 = .ok (.iload 5, 2) := by decide +kernel
theorem dL_law_2155 : decode cL_law 2155 = .ok (.iconst 1, 1) := by decide +kernel
theorem dL_law_2156 : decode cL_law 2156 = .ok (.iadd, 1) := by decide +kernel
theorem dL_law_2157 : decode cL_law 2157 = .ok (.iaload, 1) := by decide +kernel
theorem dL_law_2158 : decode cL_law 2158 = .ok (.aload_n 0, 1) := by decide +kernel
theorem dL_law_2159 : decode cL_law 2159 = .ok (.iload 5, 2) := by decide +kernel
theorem dL_law_2161 : decode cL_law 2161 = .ok (.iconst 2, 1) := by decide +kernel
theorem dL_law_2162 : decode cL_law 2162 = .ok (.iadd, 1) := by decide +kernel
theorem dL_law_2163 : decode cL_law 2163 = .ok (.iaload, 1) := by decide +kernel
theorem dL_law_2164 : decode cL_law 2164 = .ok (.aload_n 3, 1) := by decide +kernel
theorem dL_law_2165 : decode cL_law 2165 = .ok (.invokestatic 252, 3) := by decide +kernel
theorem dL_law_2168 : decode cL_law 2168 = .ok (.istore 6, 2) := by decide +kernel
theorem dL_law_2170 : decode cL_law 2170 = .ok (.aload_n 2, 1) := by decide +kernel
theorem dL_law_2171 : decode cL_law 2171 = .ok (.aload_n 0, 1) := by decide +kernel
theorem dL_law_2172 : decode cL_law 2172 = .ok (.iload 5, 2) := by decide +kernel
theorem dL_law_2174 : decode cL_law 2174 = .ok (.iconst 1, 1) := by decide +kernel
theorem dL_law_2175 : decode cL_law 2175 = .ok (.iadd, 1) := by decide +kernel
theorem dL_law_2176 : decode cL_law 2176 = .ok (.iaload, 1) := by decide +kernel
theorem dL_law_2177 : decode cL_law 2177 = .ok (.aload_n 0, 1) := by decide +kernel
theorem dL_law_2178 : decode cL_law 2178 = .ok (.iload 5, 2) := by decide +kernel
theorem dL_law_2180 : decode cL_law 2180 = .ok (.iconst 2, 1) := by decide +kernel
theorem dL_law_2181 : decode cL_law 2181 = .ok (.iadd, 1) := by decide +kernel
theorem dL_law_2182 : decode cL_law 2182 = .ok (.iaload, 1) := by decide +kernel
theorem dL_law_2183 : decode cL_law 2183 = .ok (.invokevirtual 254, 3) := by decide +kernel
theorem dL_law_2186 : decode cL_law 2186 = .ok (.istore 7, 2) := by decide +kernel
theorem dL_law_2188 : decode cL_law 2188 = .ok (.aload_n 2, 1) := by decide +kernel
theorem dL_law_2189 : decode cL_law 2189 = .ok (.invokevirtual 171, 3) := by decide +kernel
theorem dL_law_2192 : decode cL_law 2192 = .ok (.iload 6, 2) := by decide +kernel
theorem dL_law_2194 : decode cL_law 2194 = .ok (.if_icmp .eq 5, 3) := by decide +kernel
theorem dL_law_2199 : decode cL_law 2199 = .ok (.iload 6, 2) := by decide +kernel
theorem dL_law_2201 : decode cL_law 2201 = .ok (.ifCond .ne 15, 3) := by decide +kernel
theorem dL_law_2216 : decode cL_law 2216 = .ok (.goto 1072, 3) := by decide +kernel
theorem dL_law_2219 : decode cL_law 2219 = .ok (.aload_n 1, 1) := by decide +kernel
theorem dL_law_2220 : decode cL_law 2220 = .ok (.aload_n 0, 1) := by decide +kernel
theorem dL_law_2221 : decode cL_law 2221 = .ok (.iload 5, 2) := by decide +kernel
theorem dL_law_2223 : decode cL_law 2223 = .ok (.iconst 1, 1) := by decide +kernel
theorem dL_law_2224 : decode cL_law 2224 = .ok (.iadd, 1) := by decide +kernel
theorem dL_law_2225 : decode cL_law 2225 = .ok (.iaload, 1) := by decide +kernel
theorem dL_law_2226 : decode cL_law 2226 = .ok (.aload_n 0, 1) := by decide +kernel
theorem dL_law_2227 : decode cL_law 2227 = .ok (.iload 5, 2) := by decide +kernel
theorem dL_law_2229 : decode cL_law 2229 = .ok (.iconst 2, 1) := by decide +kernel
theorem dL_law_2230 : decode cL_law 2230 = .ok (.iadd, 1) := by decide +kernel
theorem dL_law_2231 : decode cL_law 2231 = .ok (.iaload, 1) := by decide +kernel
theorem dL_law_2232 : decode cL_law 2232 = .ok (.aload_n 3, 1) := by decide +kernel
theorem dL_law_2233 : decode cL_law 2233 = .ok (.invokestatic 255, 3) := by decide +kernel
theorem dL_law_2236 : decode cL_law 2236 = .ok (.istore 6, 2) := by decide +kernel
theorem dL_law_2238 : decode cL_law 2238 = .ok (.aload_n 2, 1) := by decide +kernel
theorem dL_law_2239 : decode cL_law 2239 = .ok (.aload_n 0, 1) := by decide +kernel
theorem dL_law_2240 : decode cL_law 2240 = .ok (.iload 5, 2) := by decide +kernel
theorem dL_law_2242 : decode cL_law 2242 = .ok (.iconst 1, 1) := by decide +kernel
theorem dL_law_2243 : decode cL_law 2243 = .ok (.iadd, 1) := by decide +kernel
theorem dL_law_2244 : decode cL_law 2244 = .ok (.iaload, 1) := by decide +kernel
theorem dL_law_2245 : decode cL_law 2245 = .ok (.aload_n 0, 1) := by decide +kernel
theorem dL_law_2246 : decode cL_law 2246 = .ok (.iload 5, 2) := by decide +kernel
theorem dL_law_2248 : decode cL_law 2248 = .ok (.iconst 2, 1) := by decide +kernel
theorem dL_law_2249 : decode cL_law 2249 = .ok (.iadd, 1) := by decide +kernel
theorem dL_law_2250 : decode cL_law 2250 = .ok (.iaload, 1) := by decide +kernel
theorem dL_law_2251 : decode cL_law 2251 = .ok (.invokevirtual 257, 3) := by decide +kernel
theorem dL_law_2254 : decode cL_law 2254 = .ok (.istore 7, 2) := by decide +kernel
theorem dL_law_2256 : decode cL_law 2256 = .ok (.aload_n 2, 1) := by decide +kernel
theorem dL_law_2257 : decode cL_law 2257 = .ok (.invokevirtual 171, 3) := by decide +kernel
theorem dL_law_2260 : decode cL_law 2260 = .ok (.iload 6, 2) := by decide +kernel
theorem dL_law_2262 : decode cL_law 2262 = .ok (.if_icmp .eq 5, 3) := by decide +kernel
theorem dL_law_2267 : decode cL_law 2267 = .ok (.iload 6, 2) := by decide +kernel
theorem dL_law_2269 : decode cL_law 2269 = .ok (.ifCond .ne 15, 3) := by decide +kernel
theorem dL_law_2284 : decode cL_law 2284 = .ok (.goto 1004, 3) := by decide +kernel
theorem dL_law_2287 : decode cL_law 2287 = .ok (.aload_n 1, 1) := by decide +kernel
theorem dL_law_2288 : decode cL_law 2288 = .ok (.invokevirtual 258, 3) := by decide +kernel
theorem dL_law_2291 : decode cL_law 2291 = .ok (.aload_n 2, 1) := by decide +kernel
theorem dL_law_2292 : decode cL_law 2292 = .ok (.invokevirtual 261, 3) := by decide +kernel
theorem dL_law_2295 : decode cL_law 2295 = .ok (.if_icmp .eq 993, 3) := by decide +kernel
theorem dL_law_2300 : decode cL_law 2300 = .ok (.aload_n 1, 1) := by decide +kernel
theorem dL_law_2301 : decode cL_law 2301 = .ok (.aload_n 0, 1) := by decide +kernel
theorem dL_law_2302 : decode cL_law 2302 = .ok (.iload 5, 2) := by decide +kernel
theorem dL_law_2304 : decode cL_law 2304 = .ok (.iconst 1, 1) := by decide +kernel
theorem dL_law_2305 : decode cL_law 2305 = .ok (.iadd, 1) := by decide +kernel
theorem dL_law_2306 : decode cL_law 2306 = .ok (.iaload, 1) := by decide +kernel
theorem dL_law_2307 : decode cL_law 2307 = .ok (.aload_n 0, 1) := by decide +kernel
theorem dL_law_2308 : decode cL_law 2308 = .ok (.iload 5, 2) := by decide +kernel
theorem dL_law_2310 : decode cL_law 2310 = .ok (.iconst 2, 1) := by decide +kernel
theorem dL_law_2311 : decode cL_law 2311 = .ok (.iadd, 1) := by decide +kernel
theorem dL_law_2312 : decode cL_law 2312 = .ok (.iaload, 1) := by decide +kernel
theorem dL_law_2313 : decode cL_law 2313 = .ok (.aload_n 0, 1) := by decide +kernel
theorem dL_law_2314 : decode cL_law 2314 = .ok (.iload 5, 2) := by decide +kernel
theorem dL_law_2316 : decode cL_law 2316 = .ok (.iconst 3, 1) := by decide +kernel
theorem dL_law_2317 : decode cL_law 2317 = .ok (.iadd, 1) := by decide +kernel
theorem dL_law_2318 : decode cL_law 2318 = .ok (.iaload, 1) := by decide +kernel
theorem dL_law_2319 : decode cL_law 2319 = .ok (.aload_n 0, 1) := by decide +kernel
theorem dL_law_2320 : decode cL_law 2320 = .ok (.iload 5, 2) := by decide +kernel
theorem dL_law_2322 : decode cL_law 2322 = .ok (.iconst 4, 1) := by decide +kernel
theorem dL_law_2323 : decode cL_law 2323 = .ok (.iadd, 1) := by decide +kernel
theorem dL_law_2324 : decode cL_law 2324 = .ok (.iaload, 1) := by decide +kernel
theorem dL_law_2325 : decode cL_law 2325 = .ok (.aload_n 3, 1) := by decide +kernel
theorem dL_law_2326 : decode cL_law 2326 = .ok (.invokestatic 262, 3) := by decide +kernel
theorem dL_law_2329 : decode cL_law 2329 = .ok (.istore 6, 2) := by decide +kernel
theorem dL_law_2331 : decode cL_law 2331 = .ok (.aload_n 2, 1) := by decide +kernel
theorem dL_law_2332 : decode cL_law 2332 = .ok (.aload_n 0, 1) := by decide +kernel
theorem dL_law_2333 : decode cL_law 2333 = .ok (.iload 5, 2) := by decide +kernel
theorem dL_law_2335 : decode cL_law 2335 = .ok (.iconst 1, 1) := by decide +kernel
theorem dL_law_2336 : decode cL_law 2336 = .ok (.iadd, 1) := by decide +kernel
theorem dL_law_2337 : decode cL_law 2337 = .ok (.iaload, 1) := by decide +kernel
theorem dL_law_2338 : decode cL_law 2338 = .ok (.aload_n 0, 1) := by decide +kernel
theorem dL_law_2339 : decode cL_law 2339 = .ok (.iload 5, 2) := by decide +kernel
theorem dL_law_2341 : decode cL_law 2341 = .ok (.iconst 2, 1) := by decide +kernel
theorem dL_law_2342 : decode cL_law 2342 = .ok (.iadd, 1) := by decide +kernel
theorem dL_law_2343 : decode cL_law 2343 = .ok (.iaload, 1) := by decide +kernel
theorem dL_law_2344 : decode cL_law 2344 = .ok (.aload_n 0, 1) := by decide +kernel
theorem dL_law_2345 : decode cL_law 2345 = .ok (.iload 5, 2) := by decide +kernel
theorem dL_law_2347 : decode cL_law 2347 = .ok (.iconst 3, 1) := by decide +kernel
theorem dL_law_2348 : decode cL_law 2348 = .ok (.iadd, 1) := by decide +kernel
theorem dL_law_2349 : decode cL_law 2349 = .ok (.iaload, 1) := by decide +kernel
theorem dL_law_2350 : decode cL_law 2350 = .ok (.aload_n 0, 1) := by decide +kernel
theorem dL_law_2351 : decode cL_law 2351 = .ok (.iload 5, 2) := by decide +kernel
theorem dL_law_2353 : decode cL_law 2353 = .ok (.iconst 4, 1) := by decide +kernel
theorem dL_law_2354 : decode cL_law 2354 = .ok (.iadd, 1) := by decide +kernel
theorem dL_law_2355 : decode cL_law 2355 = .ok (.iaload, 1) := by decide +kernel
theorem dL_law_2356 : decode cL_law 2356 = .ok (.invokevirtual 264, 3) := by decide +kernel
theorem dL_law_2359 : decode cL_law 2359 = .ok (.istore 7, 2) := by decide +kernel
theorem dL_law_2361 : decode cL_law 2361 = .ok (.aload_n 2, 1) := by decide +kernel
theorem dL_law_2362 : decode cL_law 2362 = .ok (.invokevirtual 171, 3) := by decide +kernel
theorem dL_law_2365 : decode cL_law 2365 = .ok (.iload 6, 2) := by decide +kernel
theorem dL_law_2367 : decode cL_law 2367 = .ok (.if_icmp .eq 5, 3) := by decide +kernel
theorem dL_law_2372 : decode cL_law 2372 = .ok (.iload 6, 2) := by decide +kernel
theorem dL_law_2374 : decode cL_law 2374 = .ok (.ifCond .ne 22, 3) := by decide +kernel
theorem dL_law_2377 : decode cL_law 2377 = .ok (.aload_n 3, 1) := by decide +kernel
theorem dL_law_2378 : decode cL_law 2378 = .ok (.iconst 0, 1) := by decide +kernel
theorem dL_law_2379 : decode cL_law 2379 = .ok (.laload, 1) := by decide +kernel
theorem dL_law_2380 : decode cL_law 2380 = .ok (.iload 7, 2) := by decide +kernel
theorem dL_law_2382 : decode cL_law 2382 = .ok (.ifCond .eq 7, 3) := by decide +kernel
theorem dL_law_2385 : decode cL_law 2385 = .ok (.lconst 1, 1) := by decide +kernel
theorem dL_law_2386 : decode cL_law 2386 = .ok (.goto 4, 3) := by decide +kernel
theorem dL_law_2389 : decode cL_law 2389 = .ok (.lconst 0, 1) := by decide +kernel
theorem dL_law_2390 : decode cL_law 2390 = .ok (.lcmp, 1) := by decide +kernel
theorem dL_law_2391 : decode cL_law 2391 = .ok (.ifCond .eq 5, 3) := by decide +kernel
theorem dL_law_2396 : decode cL_law 2396 = .ok (.goto 892, 3) := by decide +kernel
theorem dL_law_2399 : decode cL_law 2399 = .ok (.aload_n 1, 1) := by decide +kernel
theorem dL_law_2400 : decode cL_law 2400 = .ok (.aload_n 3, 1) := by decide +kernel
theorem dL_law_2401 : decode cL_law 2401 = .ok (.invokestatic 265, 3) := by decide +kernel
theorem dL_law_2404 : decode cL_law 2404 = .ok (.istore 6, 2) := by decide +kernel
theorem dL_law_2406 : decode cL_law 2406 = .ok (.aload_n 2, 1) := by decide +kernel
theorem dL_law_2407 : decode cL_law 2407 = .ok (.invokevirtual 268, 3) := by decide +kernel
theorem dL_law_2410 : decode cL_law 2410 = .ok (.istore 7, 2) := by decide +kernel
theorem dL_law_2412 : decode cL_law 2412 = .ok (.aload_n 2, 1) := by decide +kernel
theorem dL_law_2413 : decode cL_law 2413 = .ok (.invokevirtual 171, 3) := by decide +kernel
theorem dL_law_2416 : decode cL_law 2416 = .ok (.iload 6, 2) := by decide +kernel
theorem dL_law_2418 : decode cL_law 2418 = .ok (.if_icmp .eq 5, 3) := by decide +kernel
theorem dL_law_2423 : decode cL_law 2423 = .ok (.iload 6, 2) := by decide +kernel
theorem dL_law_2425 : decode cL_law 2425 = .ok (.ifCond .ne 15, 3) := by decide +kernel
theorem dL_law_2440 : decode cL_law 2440 = .ok (.goto 848, 3) := by decide +kernel
set_option maxHeartbeats 8000000 in
set_option maxRecDepth 100000 in
/-- script value 15 -/
theorem law_case_15 {p : Program} {l : Launch} {e : Env} {s : State} {m : MethodId} {below : List Frame} {meth : Method} {c : Code} {b : Nat} {xs : Nat → Int32} (hfl : l.stackTraces = false) (C0 : lw_At p s m meth c b 7 xs) {A : Nat → Prop} (hA : ∀ q : Nat, s.heap.size ≤ q → A q) (hA2 : ∀ q : Nat, A q → s.heap.size ≤ q) (G : va_G) (z : Nat) (hG : zG z A s s.heap) (x0 : Nat) (y0 : Nat) (o1 : Nat) (o2 : Nat) (cyL : ClassId) (cyD : ClassId) (a1 : Nat) (a2 : Nat) (a3 : Nat) (a4 : Nat) (a5 : Nat) (a6 : Nat) (a7 : Nat) (a8 : Nat) (b1 : Nat) (b2 : Nat) (b3 : Nat) (cyA : ClassId) (cyJ : ClassId) (cyT : ClassId) (d1 : Nat) (d2 : Nat) (d3 : Nat) (d4 : Nat) (cyO : ClassId) (fS : Nat → Option Nat) (cyI : ClassId) (r0 : Nat) (l1 : Nat) (l2 : Nat) (l3 : Nat) (l4 : Nat) (l5 : Nat) (l6 : Nat) (m1 : Nat) (m2 : Nat) (m3 : Nat) (m4 : Nat) (m5 : Nat) (m6 : Nat) (hf0 : fS 0 = some r0) {H : Heap} {locs : List Loc} (hP : va_P G vwCl ([(x0, .inr (12, [.ref a1, .ref a2, .ref a3, .ref a4, .ref a5, .ref a6, .ref a7, .ref a8, .int 3, .int 0])), (a1, .inr (3, [.int 0, .ref z, .int 0])), (a2, .inr (3, [.int 0, .ref z, .int 0])), (a3, .inr (3, [.int 0, .ref z, .int 0])), (a4, .inr (3, [.int 0, .ref z, .int 0])), (a5, .inr (3, [.int 0, .ref z, .int 0])), (a6, .inr (10, [.ref b1, .ref b2, .ref b3, .int 0])), (b1, .inl (cyA, 400, .inl (nI))), (b2, .inl (cyJ, 512, .inl (fun _ => 0))), (b3, .inl (cyT, 400, .inl (fun _ => 0))), (a7, .inr (4, [.ref d1, .ref d2, .ref d3, .ref d4, .int 0, .int 12])), (d4, .inl (cyO, 20, .inr (.inr (.inr (.inr (fS)))))), (r0, .inl (cyI, 20, .inl (fun _ => 0))), (y0, .inr (18, [.int 0, .ref l1, .ref l2, .ref l3, .ref l4, .ref l5, .ref l6, .int 0, .int 3, .int 12, .ref m1, .ref m2, .ref m3, .ref m4, .ref m5, .ref m6])), (l1, .inr (3, [.int 0, .ref z, .int 0])), (l2, .inr (3, [.int 0, .ref z, .int 0])), (l3, .inr (3, [.int 0, .ref z, .int 0])), (l4, .inr (3, [.int 0, .ref z, .int 0])), (l5, .inr (3, [.int 0, .ref z, .int 0])), (l6, .inr (3, [.int 0, .ref z, .int 0])), (o1, .inl (cyL, 1, .inr (.inl (fun _ => 0)))), (o2, .inl (cyD, 1, .inr (.inr (.inr (.inl (fun _ => 0))))))]) H) (hD : va_D A ([(x0, .inr (12, [.ref a1, .ref a2, .ref a3, .ref a4, .ref a5, .ref a6, .ref a7, .ref a8, .int 3, .int 0])), (a1, .inr (3, [.int 0, .ref z, .int 0])), (a2, .inr (3, [.int 0, .ref z, .int 0])), (a3, .inr (3, [.int 0, .ref z, .int 0])), (a4, .inr (3, [.int 0, .ref z, .int 0])), (a5, .inr (3, [.int 0, .ref z, .int 0])), (a6, .inr (10, [.ref b1, .ref b2, .ref b3, .int 0])), (b1, .inl (cyA, 400, .inl (nI))), (b2, .inl (cyJ, 512, .inl (fun _ => 0))), (b3, .inl (cyT, 400, .inl (fun _ => 0))), (a7, .inr (4, [.ref d1, .ref d2, .ref d3, .ref d4, .int 0, .int 12])), (d4, .inl (cyO, 20, .inr (.inr (.inr (.inr (fS)))))), (r0, .inl (cyI, 20, .inl (fun _ => 0))), (y0, .inr (18, [.int 0, .ref l1, .ref l2, .ref l3, .ref l4, .ref l5, .ref l6, .int 0, .int 3, .int 12, .ref m1, .ref m2, .ref m3, .ref m4, .ref m5, .ref m6])), (l1, .inr (3, [.int 0, .ref z, .int 0])), (l2, .inr (3, [.int 0, .ref z, .int 0])), (l3, .inr (3, [.int 0, .ref z, .int 0])), (l4, .inr (3, [.int 0, .ref z, .int 0])), (l5, .inr (3, [.int 0, .ref z, .int 0])), (l6, .inr (3, [.int 0, .ref z, .int 0])), (o1, .inl (cyL, 1, .inr (.inl (fun _ => 0)))), (o2, .inl (cyD, 1, .inr (.inr (.inr (.inl (fun _ => 0))))))])) (hK : va_K G vwCl [(cyA, .int), (cyJ, .int), (cyT, .int), (cyO, .array .int), (cyI, .int), (cyL, .long), (cyD, .double)] s) (hS : va_S A s.heap H locs) {ls : Array Slot} (hl : lv_has ls 9 [(0, .ref b), (1, .ref x0), (2, .ref y0), (3, .ref o1), (4, .ref o2), (5, .int 0)]) : W p l e room_1 s m #[Value.ref b] below meth c H locs 135 2991 (lw_Z below #[Value.ref b] s) (F0 m 1421 ls []) := by
  have C9 := C0
  obtain ⟨hx, hb, hr, hml, hown, hts0, hX, hbl, hlocks, hgv⟩ := id C0
  have hg := lw_sub_good hts0
  have hts : ∀ w ∈ (lw_hd :: lw_good), w.before #[Value.ref b] s = true := fun w h => (List.mem_cons.mp h).elim (fun e9 => e9 ▸ hg _ q0) (hg w)
  have hbA : ¬ A b := fun h => Nat.not_le.mpr hbl (hA2 b h)
  refine lv_aload_n hx hb dL_law_1421 rfl (lv_at hl 1 rfl) ?_
  refine lv_aload_n hx hb dL_law_1422 rfl (lv_at hl 0 rfl) ?_
  refine lv_iload hx hb dL_law_1423 (lv_at hl 5 rfl) ?_
  refine lv_iconst (v := 1) hx hb dL_law_1425 (by decide) ?_
  refine lv_iadd hx hb dL_law_1426 ?_
  refine lv_topi (fun f_1 ef_1 => ?_)
  obtain rfl : f_1 = 1 := ef_1.trans (by decide)
  refine va_sld hx hb hX hbl hbA hS (by unfold vp_in; decide +kernel) dL_law_1427 ?_
  refine lv_topi (fun f_2 ef_2 => ?_)
  obtain rfl : f_2 = xs 1 := ef_2
  refine lv_aload_n hx hb dL_law_1428 rfl (lv_at hl 0 rfl) ?_
  refine lv_iload hx hb dL_law_1429 (lv_at hl 5 rfl) ?_
  refine lv_iconst (v := 2) hx hb dL_law_1431 (by decide) ?_
  refine lv_iadd hx hb dL_law_1432 ?_
  refine lv_topi (fun f_3 ef_3 => ?_)
  obtain rfl : f_3 = 2 := ef_3.trans (by decide)
  refine va_sld hx hb hX hbl hbA hS (by unfold vp_in; decide +kernel) dL_law_1433 ?_
  refine lv_topi (fun f_4 ef_4 => ?_)
  obtain rfl : f_4 = xs 2 := ef_4
  refine lv_aload_n hx hb dL_law_1434 rfl (lv_at hl 0 rfl) ?_
  refine lv_iload hx hb dL_law_1435 (lv_at hl 5 rfl) ?_
  refine lv_iconst (v := 3) hx hb dL_law_1437 (by decide) ?_
  refine lv_iadd hx hb dL_law_1438 ?_
  refine lv_topi (fun f_5 ef_5 => ?_)
  obtain rfl : f_5 = 3 := ef_5.trans (by decide)
  refine va_sld hx hb hX hbl hbA hS (by unfold vp_in; decide +kernel) dL_law_1439 ?_
  refine lv_topi (fun f_6 ef_6 => ?_)
  obtain rfl : f_6 = xs 3 := ef_6
  refine lv_aload_n hx hb dL_law_1440 rfl (lv_at hl 0 rfl) ?_
  refine lv_iload hx hb dL_law_1441 (lv_at hl 5 rfl) ?_
  refine lv_iconst (v := 4) hx hb dL_law_1443 (by decide) ?_
  refine lv_iadd hx hb dL_law_1444 ?_
  refine lv_topi (fun f_7 ef_7 => ?_)
  obtain rfl : f_7 = 4 := ef_7.trans (by decide)
  refine va_sld hx hb hX hbl hbA hS (by unfold vp_in; decide +kernel) dL_law_1445 ?_
  refine lv_topi (fun f_8 ef_8 => ?_)
  obtain rfl : f_8 = xs 4 := ef_8
  refine lv_aload_n hx hb dL_law_1446 rfl (lv_at hl 3 rfl) ?_
  have hPc := hP.sub (ws' := [(x0, .inr (12, [.ref a1, .ref a2, .ref a3, .ref a4, .ref a5, .ref a6, .ref a7, .ref a8, .int 3, .int 0])), (a4, .inr (3, [.int 0, .ref z, .int 0])), (o1, .inl (cyL, 1, .inr (.inl (fun _ => 0))))]) [0, 4, 20] rfl
  have hKc := hK.sub (tys' := [(cyL, .long)]) [5] rfl
  have hDc := hD.sub (ws' := [(x0, .inr (12, [.ref a1, .ref a2, .ref a3, .ref a4, .ref a5, .ref a6, .ref a7, .ref a8, .int 3, .int 0])), (a4, .inr (3, [.int 0, .ref z, .int 0])), (o1, .inl (cyL, 1, .inr (.inl (fun _ => 0))))]) [0, 4, 20] (by decide) rfl
  have hFc := va_free (wc := [(x0, .inr (12, [.ref a1, .ref a2, .ref a3, .ref a4, .ref a5, .ref a6, .ref a7, .ref a8, .int 3, .int 0])), (a4, .inr (3, [.int 0, .ref z, .int 0])), (o1, .inl (cyL, 1, .inr (.inl (fun _ => 0))))]) hD hS hA [0, 4, 20] rfl
  refine va_calli (vx_runSW (As := [.ref x0, .int (xs 1), .int (xs 2), .int (xs 3), .int (xs 4), .ref o1]) (rest := []) ⟨hx, hb, hml, hown, hts⟩ (k_L_cancel l hfl G z x0 a1 a2 a3 a4 a5 a6 a7 a8 3 0 0 z ((xs 1)) ((xs 2)) ((xs 3)) ((xs 4)) o1 cyL (fun _ => 0) H.size ) (vx_cwSW 6 hts (lw_goodApp (lw_3 q879 q880 q0) q881) rfl rfl rfl (by decide +kernel) ⟨Nat.le_of_ble_eq_true rfl, Nat.le_of_ble_eq_true rfl⟩) ⟨PW.blind, PW.of hPc hKc hDc hG hS hFc [.ref x0, .int (xs 1), .int (xs 2), .int (xs 3), .int (xs 4), .ref o1]⟩ rfl rfl hl.1 rfl (lv_room (Nat.le_of_ble_eq_true rfl)) dL_law_1447 ⟨Nat.le_of_ble_eq_true rfl, Nat.le_of_ble_eq_true rfl⟩) hS (fun q _ h => hFc q h) hFc (fun r_10 u t_12 H_9 locs ht hvm hw_11 hB hz1 hk1 hS => ?_)
  obtain ⟨hP, hD, hK⟩ := QW.join (wr := [(a1, .inr (3, [.int 0, .ref z, .int 0])), (a2, .inr (3, [.int 0, .ref z, .int 0])), (a3, .inr (3, [.int 0, .ref z, .int 0])), (a5, .inr (3, [.int 0, .ref z, .int 0])), (a6, .inr (10, [.ref b1, .ref b2, .ref b3, .int 0])), (b1, .inl (cyA, 400, .inl (nI))), (b2, .inl (cyJ, 512, .inl (fun _ => 0))), (b3, .inl (cyT, 400, .inl (fun _ => 0))), (a7, .inr (4, [.ref d1, .ref d2, .ref d3, .ref d4, .int 0, .int 12])), (d4, .inl (cyO, 20, .inr (.inr (.inr (.inr (fS)))))), (r0, .inl (cyI, 20, .inl (fun _ => 0))), (y0, .inr (18, [.int 0, .ref l1, .ref l2, .ref l3, .ref l4, .ref l5, .ref l6, .int 0, .int 3, .int 12, .ref m1, .ref m2, .ref m3, .ref m4, .ref m5, .ref m6])), (l1, .inr (3, [.int 0, .ref z, .int 0])), (l2, .inr (3, [.int 0, .ref z, .int 0])), (l3, .inr (3, [.int 0, .ref z, .int 0])), (l4, .inr (3, [.int 0, .ref z, .int 0])), (l5, .inr (3, [.int 0, .ref z, .int 0])), (l6, .inr (3, [.int 0, .ref z, .int 0])), (o2, .inl (cyD, 1, .inr (.inr (.inr (.inl (fun _ => 0))))))]) (w1 := [(o1, .inl (cyL, 1, .inr (.inl ((fun _ => 0)))))]) hP hD hK [0, 4, 20] [1, 2, 3, 5, 6, 7, 8, 9, 10, 11, 12, 13, 14, 15, 16, 17, 18, 19, 21] rfl rfl (by decide) (by decide) hk1 hFc ht hvm hB
  have hP : va_P G vwCl ([(a1, .inr (3, [.int 0, .ref z, .int 0])), (a2, .inr (3, [.int 0, .ref z, .int 0])), (a3, .inr (3, [.int 0, .ref z, .int 0])), (a5, .inr (3, [.int 0, .ref z, .int 0])), (a6, .inr (10, [.ref b1, .ref b2, .ref b3, .int 0])), (b1, .inl (cyA, 400, .inl (nI))), (b2, .inl (cyJ, 512, .inl (fun _ => 0))), (b3, .inl (cyT, 400, .inl (fun _ => 0))), (a7, .inr (4, [.ref d1, .ref d2, .ref d3, .ref d4, .int 0, .int 12])), (d4, .inl (cyO, 20, .inr (.inr (.inr (.inr (fS)))))), (r0, .inl (cyI, 20, .inl (fun _ => 0))), (y0, .inr (18, [.int 0, .ref l1, .ref l2, .ref l3, .ref l4, .ref l5, .ref l6, .int 0, .int 3, .int 12, .ref m1, .ref m2, .ref m3, .ref m4, .ref m5, .ref m6])), (l1, .inr (3, [.int 0, .ref z, .int 0])), (l2, .inr (3, [.int 0, .ref z, .int 0])), (l3, .inr (3, [.int 0, .ref z, .int 0])), (l4, .inr (3, [.int 0, .ref z, .int 0])), (l5, .inr (3, [.int 0, .ref z, .int 0])), (l6, .inr (3, [.int 0, .ref z, .int 0])), (o2, .inl (cyD, 1, .inr (.inr (.inr (.inl (fun _ => 0)))))), (o1, .inl (cyL, 1, .inr (.inl ((fun _ => 0)))))]) H_9 := hP
  have hD : va_D A ([(a1, .inr (3, [.int 0, .ref z, .int 0])), (a2, .inr (3, [.int 0, .ref z, .int 0])), (a3, .inr (3, [.int 0, .ref z, .int 0])), (a5, .inr (3, [.int 0, .ref z, .int 0])), (a6, .inr (10, [.ref b1, .ref b2, .ref b3, .int 0])), (b1, .inl (cyA, 400, .inl (nI))), (b2, .inl (cyJ, 512, .inl (fun _ => 0))), (b3, .inl (cyT, 400, .inl (fun _ => 0))), (a7, .inr (4, [.ref d1, .ref d2, .ref d3, .ref d4, .int 0, .int 12])), (d4, .inl (cyO, 20, .inr (.inr (.inr (.inr (fS)))))), (r0, .inl (cyI, 20, .inl (fun _ => 0))), (y0, .inr (18, [.int 0, .ref l1, .ref l2, .ref l3, .ref l4, .ref l5, .ref l6, .int 0, .int 3, .int 12, .ref m1, .ref m2, .ref m3, .ref m4, .ref m5, .ref m6])), (l1, .inr (3, [.int 0, .ref z, .int 0])), (l2, .inr (3, [.int 0, .ref z, .int 0])), (l3, .inr (3, [.int 0, .ref z, .int 0])), (l4, .inr (3, [.int 0, .ref z, .int 0])), (l5, .inr (3, [.int 0, .ref z, .int 0])), (l6, .inr (3, [.int 0, .ref z, .int 0])), (o2, .inl (cyD, 1, .inr (.inr (.inr (.inl (fun _ => 0)))))), (o1, .inl (cyL, 1, .inr (.inl ((fun _ => 0)))))]) := hD
  have hK : va_K G vwCl [(cyA, .int), (cyJ, .int), (cyT, .int), (cyO, .array .int), (cyI, .int), (cyL, .long), (cyD, .double), (cyL, .long)] s := hK
  refine W.widen (k := 136) (n := 2997) (Nat.le_of_ble_eq_true rfl) (Nat.le_of_ble_eq_true rfl) ?_
  obtain rfl : 1 = r_10 := hw_11.symm
  refine lv_istore (lv' := [(6, .int 1), (0, .ref b), (1, .ref x0), (2, .ref y0), (3, .ref o1), (4, .ref o2), (5, .int 0)]) hx hb dL_law_1450 hl (by decide) rfl (fun ls hl => ?_)
  refine lv_aload_n hx hb dL_law_1452 rfl (lv_at hl 3 rfl) ?_
  refine lv_aload_n hx hb dL_law_1453 rfl (lv_at hl 1 rfl) ?_
  refine lv_iload hx hb dL_law_1454 (lv_at hl 6 rfl) ?_
  refine lv_iconst (v := 1) hx hb dL_law_1456 (by decide) ?_
  refine lv_iadd hx hb dL_law_1457 ?_
  refine lv_topi (fun f_13 ef_13 => ?_)
  obtain rfl : f_13 = 1 := ef_13.trans (by decide)
  refine va_sld hx hb hX hbl hbA hS (by unfold vp_in; decide +kernel) dL_law_1458 ?_
  refine lv_topi (fun f_14 ef_14 => ?_)
  obtain rfl : f_14 = xs 1 := ef_14
  refine lv_aload_n hx hb dL_law_1459 rfl (lv_at hl 1 rfl) ?_
  refine lv_iload hx hb dL_law_1460 (lv_at hl 6 rfl) ?_
  refine lv_iconst (v := 2) hx hb dL_law_1462 (by decide) ?_
  refine lv_iadd hx hb dL_law_1463 ?_
  refine lv_topi (fun f_15 ef_15 => ?_)
  obtain rfl : f_15 = 2 := ef_15.trans (by decide)
  refine va_sld hx hb hX hbl hbA hS (by unfold vp_in; decide +kernel) dL_law_1464 ?_
  refine lv_topi (fun f_16 ef_16 => ?_)
  obtain rfl : f_16 = xs 2 := ef_16
  refine lv_aload_n hx hb dL_law_1465 rfl (lv_at hl 1 rfl) ?_
  refine lv_iload hx hb dL_law_1466 (lv_at hl 6 rfl) ?_
  refine lv_iconst (v := 3) hx hb dL_law_1468 (by decide) ?_
  refine lv_iadd hx hb dL_law_1469 ?_
  refine lv_topi (fun f_17 ef_17 => ?_)
  obtain rfl : f_17 = 3 := ef_17.trans (by decide)
  refine va_sld hx hb hX hbl hbA hS (by unfold vp_in; decide +kernel) dL_law_1470 ?_
  refine lv_topi (fun f_18 ef_18 => ?_)
  obtain rfl : f_18 = xs 3 := ef_18
  refine lv_aload_n hx hb dL_law_1471 rfl (lv_at hl 1 rfl) ?_
  refine lv_iload hx hb dL_law_1472 (lv_at hl 6 rfl) ?_
  refine lv_iconst (v := 4) hx hb dL_law_1474 (by decide) ?_
  refine lv_iadd hx hb dL_law_1475 ?_
  refine lv_topi (fun f_19 ef_19 => ?_)
  obtain rfl : f_19 = 4 := ef_19.trans (by decide)
  refine va_sld hx hb hX hbl hbA hS (by unfold vp_in; decide +kernel) dL_law_1476 ?_
  refine lv_topi (fun f_20 ef_20 => ?_)
  obtain rfl : f_20 = xs 4 := ef_20
  have hPc := hP.sub (ws' := [(y0, .inr (18, [.int 0, .ref l1, .ref l2, .ref l3, .ref l4, .ref l5, .ref l6, .int 0, .int 3, .int 12, .ref m1, .ref m2, .ref m3, .ref m4, .ref m5, .ref m6])), (l4, .inr (3, [.int 0, .ref z, .int 0]))]) [11, 15] rfl
  have hKc := hK.sub (tys' := []) [] rfl
  have hDc := hD.sub (ws' := [(y0, .inr (18, [.int 0, .ref l1, .ref l2, .ref l3, .ref l4, .ref l5, .ref l6, .int 0, .int 3, .int 12, .ref m1, .ref m2, .ref m3, .ref m4, .ref m5, .ref m6])), (l4, .inr (3, [.int 0, .ref z, .int 0]))]) [11, 15] (by decide) rfl
  have hFc := va_free (wc := [(y0, .inr (18, [.int 0, .ref l1, .ref l2, .ref l3, .ref l4, .ref l5, .ref l6, .int 0, .int 3, .int 12, .ref m1, .ref m2, .ref m3, .ref m4, .ref m5, .ref m6])), (l4, .inr (3, [.int 0, .ref z, .int 0]))]) hD hS hA [11, 15] rfl
  refine va_calli (va_runV (As := [.int (xs 1), .int (xs 2), .int (xs 3), .int (xs 4)]) (rest := []) ⟨hx, hb, hml, hown, hts⟩ (k_X14_cancel l G z y0 0 l1 l2 l3 l4 l5 l6 3 12 m1 m2 m3 m4 m5 m6 0 z ((xs 1)) ((xs 2)) ((xs 3)) ((xs 4)) H_9.size ) (cwV 4 hts (lw_goodApp (lw_4 q1540 q1541 q1542 q7) q1543) rfl rfl rfl (by decide +kernel) ⟨Nat.le_of_ble_eq_true rfl, Nat.le_of_ble_eq_true rfl⟩) ⟨PW.blind, va_recv hK hP (ci := 18) (q0 := 11) rfl rfl, PW.of hPc hKc hDc hG hS hFc [.ref y0, .int (xs 1), .int (xs 2), .int (xs 3), .int (xs 4)]⟩ rfl rfl hl.1 rfl (lv_room (Nat.le_of_ble_eq_true rfl)) dL_law_1477 ⟨Nat.le_of_ble_eq_true rfl, Nat.le_of_ble_eq_true rfl⟩) hS (fun q _ h => hFc q h) hFc (fun r_22 u t_24 H_21 locs ht hvm hw_23 hB hz1 hk1 hS => ?_)
  obtain ⟨hP, hD, hK⟩ := QW.join (wr := [(a1, .inr (3, [.int 0, .ref z, .int 0])), (a2, .inr (3, [.int 0, .ref z, .int 0])), (a3, .inr (3, [.int 0, .ref z, .int 0])), (a5, .inr (3, [.int 0, .ref z, .int 0])), (a6, .inr (10, [.ref b1, .ref b2, .ref b3, .int 0])), (b1, .inl (cyA, 400, .inl (nI))), (b2, .inl (cyJ, 512, .inl (fun _ => 0))), (b3, .inl (cyT, 400, .inl (fun _ => 0))), (a7, .inr (4, [.ref d1, .ref d2, .ref d3, .ref d4, .int 0, .int 12])), (d4, .inl (cyO, 20, .inr (.inr (.inr (.inr (fS)))))), (r0, .inl (cyI, 20, .inl (fun _ => 0))), (l1, .inr (3, [.int 0, .ref z, .int 0])), (l2, .inr (3, [.int 0, .ref z, .int 0])), (l3, .inr (3, [.int 0, .ref z, .int 0])), (l5, .inr (3, [.int 0, .ref z, .int 0])), (l6, .inr (3, [.int 0, .ref z, .int 0])), (o2, .inl (cyD, 1, .inr (.inr (.inr (.inl (fun _ => 0)))))), (o1, .inl (cyL, 1, .inr (.inl ((fun _ => 0)))))]) (w1 := [(y0, .inr (18, [.int 1, .ref l1, .ref l2, .ref l3, .ref l4, .ref l5, .ref l6, .int 0, .int 3, .int 12, .ref m1, .ref m2, .ref m3, .ref m4, .ref m5, .ref m6]))]) hP hD hK [11, 15] [0, 1, 2, 3, 4, 5, 6, 7, 8, 9, 10, 12, 13, 14, 16, 17, 18, 19] rfl rfl (by decide) (by decide) hk1 hFc ht hvm hB
  have hP : va_P G vwCl ([(a1, .inr (3, [.int 0, .ref z, .int 0])), (a2, .inr (3, [.int 0, .ref z, .int 0])), (a3, .inr (3, [.int 0, .ref z, .int 0])), (a5, .inr (3, [.int 0, .ref z, .int 0])), (a6, .inr (10, [.ref b1, .ref b2, .ref b3, .int 0])), (b1, .inl (cyA, 400, .inl (nI))), (b2, .inl (cyJ, 512, .inl (fun _ => 0))), (b3, .inl (cyT, 400, .inl (fun _ => 0))), (a7, .inr (4, [.ref d1, .ref d2, .ref d3, .ref d4, .int 0, .int 12])), (d4, .inl (cyO, 20, .inr (.inr (.inr (.inr (fS)))))), (r0, .inl (cyI, 20, .inl (fun _ => 0))), (l1, .inr (3, [.int 0, .ref z, .int 0])), (l2, .inr (3, [.int 0, .ref z, .int 0])), (l3, .inr (3, [.int 0, .ref z, .int 0])), (l5, .inr (3, [.int 0, .ref z, .int 0])), (l6, .inr (3, [.int 0, .ref z, .int 0])), (o2, .inl (cyD, 1, .inr (.inr (.inr (.inl (fun _ => 0)))))), (o1, .inl (cyL, 1, .inr (.inl ((fun _ => 0))))), (y0, .inr (18, [.int 1, .ref l1, .ref l2, .ref l3, .ref l4, .ref l5, .ref l6, .int 0, .int 3, .int 12, .ref m1, .ref m2, .ref m3, .ref m4, .ref m5, .ref m6]))]) H_21 := hP
  have hD : va_D A ([(a1, .inr (3, [.int 0, .ref z, .int 0])), (a2, .inr (3, [.int 0, .ref z, .int 0])), (a3, .inr (3, [.int 0, .ref z, .int 0])), (a5, .inr (3, [.int 0, .ref z, .int 0])), (a6, .inr (10, [.ref b1, .ref b2, .ref b3, .int 0])), (b1, .inl (cyA, 400, .inl (nI))), (b2, .inl (cyJ, 512, .inl (fun _ => 0))), (b3, .inl (cyT, 400, .inl (fun _ => 0))), (a7, .inr (4, [.ref d1, .ref d2, .ref d3, .ref d4, .int 0, .int 12])), (d4, .inl (cyO, 20, .inr (.inr (.inr (.inr (fS)))))), (r0, .inl (cyI, 20, .inl (fun _ => 0))), (l1, .inr (3, [.int 0, .ref z, .int 0])), (l2, .inr (3, [.int 0, .ref z, .int 0])), (l3, .inr (3, [.int 0, .ref z, .int 0])), (l5, .inr (3, [.int 0, .ref z, .int 0])), (l6, .inr (3, [.int 0, .ref z, .int 0])), (o2, .inl (cyD, 1, .inr (.inr (.inr (.inl (fun _ => 0)))))), (o1, .inl (cyL, 1, .inr (.inl ((fun _ => 0))))), (y0, .inr (18, [.int 1, .ref l1, .ref l2, .ref l3, .ref l4, .ref l5, .ref l6, .int 0, .int 3, .int 12, .ref m1, .ref m2, .ref m3, .ref m4, .ref m5, .ref m6]))]) := hD
  have hK : va_K G vwCl [(cyA, .int), (cyJ, .int), (cyT, .int), (cyO, .array .int), (cyI, .int), (cyL, .long), (cyD, .double), (cyL, .long)] s := hK
  refine W.widen (k := 136) (n := 2997) (Nat.le_of_ble_eq_true rfl) (Nat.le_of_ble_eq_true rfl) ?_
  refine lv_istore (lv' := [(7, .int r_22), (6, .int 1), (0, .ref b), (1, .ref x0), (2, .ref y0), (3, .ref o1), (4, .ref o2), (5, .int 0)]) hx hb dL_law_1480 hl (by decide) rfl (fun ls hl => ?_)
  refine lv_aload_n hx hb dL_law_1482 rfl (lv_at hl 4 rfl) ?_
  have hPc := hP.sub (ws' := [(y0, .inr (18, [.int 1, .ref l1, .ref l2, .ref l3, .ref l4, .ref l5, .ref l6, .int 0, .int 3, .int 12, .ref m1, .ref m2, .ref m3, .ref m4, .ref m5, .ref m6]))]) [18] rfl
  have hKc := hK.sub (tys' := []) [] rfl
  refine va_calli (va_runV (As := []) (rest := []) ⟨hx, hb, hml, hown, hts⟩ (k_X14_thrown l G z y0 1 l1 l2 l3 l4 l5 l6 3 12 m1 m2 m3 m4 m5 m6 H_21.size ) (cwV 0 hts (lw_goodApp (lw_4 q1236 q1237 q1238 q7) q1239) rfl rfl rfl (by decide +kernel) ⟨Nat.le_of_ble_eq_true rfl, Nat.le_of_ble_eq_true rfl⟩) ⟨PR.blind, va_recv hK hP (ci := 18) (q0 := 18) rfl rfl, PR.of hPc hKc hG hS hA [.ref y0]⟩ rfl rfl hl.1 rfl (lv_room (Nat.le_of_ble_eq_true rfl)) dL_law_1483 ⟨Nat.le_of_ble_eq_true rfl, Nat.le_of_ble_eq_true rfl⟩) hS (fun q h9 h => zN.not h9 h) (fun q h => hA q (Nat.le_trans hS.1 h)) (fun r_26 u t_28 H_25 locs ht hvm hw_27 hB hz1 hk1 hS => ?_)
  have hP := hP.grown hk1
  refine W.widen (k := 136) (n := 2997) (Nat.le_of_ble_eq_true rfl) (Nat.le_of_ble_eq_true rfl) ?_
  obtain rfl : 1 = r_26 := hw_27.symm
  refine lv_iload hx hb dL_law_1486 (lv_at hl 1 rfl) ?_
  refine lv_icmp_eq (tgt := 1493) hx hb dL_law_1488 (by decide) (fun c_29 => ?_) (fun c_29 => absurd rfl c_29)
  refine lv_iload hx hb dL_law_1493 (lv_at hl 1 rfl) ?_
  refine lv_if_ne (tgt := 1517) hx hb dL_law_1495 (by decide) (fun c_30 => ?_) (fun c_30 => absurd c_30 (by decide))
  refine lv_goto (tgt := 3288) hx hb dL_law_1517 (by decide) ?_
  exact law_tail hfl C0 hA hA2 hS (lv_sub hl [2, 7] rfl) (Nat.le_of_ble_eq_true rfl) (Nat.le_of_ble_eq_true rfl)
set_option maxHeartbeats 8000000 in
set_option maxRecDepth 100000 in
/-- script value 16 -/
theorem law_case_16 {p : Program} {l : Launch} {e : Env} {s : State} {m : MethodId} {below : List Frame} {meth : Method} {c : Code} {b : Nat} {xs : Nat → Int32} (hfl : l.stackTraces = false) (C0 : lw_At p s m meth c b 7 xs) {A : Nat → Prop} (hA : ∀ q : Nat, s.heap.size ≤ q → A q) (hA2 : ∀ q : Nat, A q → s.heap.size ≤ q) (G : va_G) (z : Nat) (hG : zG z A s s.heap) (x0 : Nat) (y0 : Nat) (o1 : Nat) (o2 : Nat) (cyL : ClassId) (cyD : ClassId) (a1 : Nat) (a2 : Nat) (a3 : Nat) (a4 : Nat) (a5 : Nat) (a6 : Nat) (a7 : Nat) (a8 : Nat) (b1 : Nat) (b2 : Nat) (b3 : Nat) (cyA : ClassId) (cyJ : ClassId) (cyT : ClassId) (d1 : Nat) (d2 : Nat) (d3 : Nat) (d4 : Nat) (cyO : ClassId) (fS : Nat → Option Nat) (cyI : ClassId) (r0 : Nat) (l1 : Nat) (l2 : Nat) (l3 : Nat) (l4 : Nat) (l5 : Nat) (l6 : Nat) (m1 : Nat) (m2 : Nat) (m3 : Nat) (m4 : Nat) (m5 : Nat) (m6 : Nat) (hf0 : fS 0 = some r0) {H : Heap} {locs : List Loc} (hP : va_P G vwCl ([(x0, .inr (12, [.ref a1, .ref a2, .ref a3, .ref a4, .ref a5, .ref a6, .ref a7, .ref a8, .int 3, .int 0])), (a1, .inr (3, [.int 0, .ref z, .int 0])), (a2, .inr (3, [.int 0, .ref z, .int 0])), (a3, .inr (3, [.int 0, .ref z, .int 0])), (a4, .inr (3, [.int 0, .ref z, .int 0])), (a5, .inr (3, [.int 0, .ref z, .int 0])), (a6, .inr (10, [.ref b1, .ref b2, .ref b3, .int 0])), (b1, .inl (cyA, 400, .inl (nI))), (b2, .inl (cyJ, 512, .inl (fun _ => 0))), (b3, .inl (cyT, 400, .inl (fun _ => 0))), (a7, .inr (4, [.ref d1, .ref d2, .ref d3, .ref d4, .int 0, .int 12])), (d4, .inl (cyO, 20, .inr (.inr (.inr (.inr (fS)))))), (r0, .inl (cyI, 20, .inl (fun _ => 0))), (y0, .inr (18, [.int 0, .ref l1, .ref l2, .ref l3, .ref l4, .ref l5, .ref l6, .int 0, .int 3, .int 12, .ref m1, .ref m2, .ref m3, .ref m4, .ref m5, .ref m6])), (l1, .inr (3, [.int 0, .ref z, .int 0])), (l2, .inr (3, [.int 0, .ref z, .int 0])), (l3, .inr (3, [.int 0, .ref z, .int 0])), (l4, .inr (3, [.int 0, .ref z, .int 0])), (l5, .inr (3, [.int 0, .ref z, .int 0])), (l6, .inr (3, [.int 0, .ref z, .int 0])), (o1, .inl (cyL, 1, .inr (.inl (fun _ => 0)))), (o2, .inl (cyD, 1, .inr (.inr (.inr (.inl (fun _ => 0))))))]) H) (hD : va_D A ([(x0, .inr (12, [.ref a1, .ref a2, .ref a3, .ref a4, .ref a5, .ref a6, .ref a7, .ref a8, .int 3, .int 0])), (a1, .inr (3, [.int 0, .ref z, .int 0])), (a2, .inr (3, [.int 0, .ref z, .int 0])), (a3, .inr (3, [.int 0, .ref z, .int 0])), (a4, .inr (3, [.int 0, .ref z, .int 0])), (a5, .inr (3, [.int 0, .ref z, .int 0])), (a6, .inr (10, [.ref b1, .ref b2, .ref b3, .int 0])), (b1, .inl (cyA, 400, .inl (nI))), (b2, .inl (cyJ, 512, .inl (fun _ => 0))), (b3, .inl (cyT, 400, .inl (fun _ => 0))), (a7, .inr (4, [.ref d1, .ref d2, .ref d3, .ref d4, .int 0, .int 12])), (d4, .inl (cyO, 20, .inr (.inr (.inr (.inr (fS)))))), (r0, .inl (cyI, 20, .inl (fun _ => 0))), (y0, .inr (18, [.int 0, .ref l1, .ref l2, .ref l3, .ref l4, .ref l5, .ref l6, .int 0, .int 3, .int 12, .ref m1, .ref m2, .ref m3, .ref m4, .ref m5, .ref m6])), (l1, .inr (3, [.int 0, .ref z, .int 0])), (l2, .inr (3, [.int 0, .ref z, .int 0])), (l3, .inr (3, [.int 0, .ref z, .int 0])), (l4, .inr (3, [.int 0, .ref z, .int 0])), (l5, .inr (3, [.int 0, .ref z, .int 0])), (l6, .inr (3, [.int 0, .ref z, .int 0])), (o1, .inl (cyL, 1, .inr (.inl (fun _ => 0)))), (o2, .inl (cyD, 1, .inr (.inr (.inr (.inl (fun _ => 0))))))])) (hK : va_K G vwCl [(cyA, .int), (cyJ, .int), (cyT, .int), (cyO, .array .int), (cyI, .int), (cyL, .long), (cyD, .double)] s) (hS : va_S A s.heap H locs) {ls : Array Slot} (hl : lv_has ls 9 [(0, .ref b), (1, .ref x0), (2, .ref y0), (3, .ref o1), (4, .ref o2), (5, .int 0)]) : W p l e room_1 s m #[Value.ref b] below meth c H locs 135 2991 (lw_Z below #[Value.ref b] s) (F0 m 1520 ls []) := by
  have C9 := C0
  obtain ⟨hx, hb, hr, hml, hown, hts0, hX, hbl, hlocks, hgv⟩ := id C0
  have hg := lw_sub_good hts0
  have hts : ∀ w ∈ (lw_hd :: lw_good), w.before #[Value.ref b] s = true := fun w h => (List.mem_cons.mp h).elim (fun e9 => e9 ▸ hg _ q0) (hg w)
  have hbA : ¬ A b := fun h => Nat.not_le.mpr hbl (hA2 b h)
  refine lv_aload_n hx hb dL_law_1520 rfl (lv_at hl 1 rfl) ?_
  refine lv_aload_n hx hb dL_law_1521 rfl (lv_at hl 0 rfl) ?_
  refine lv_iload hx hb dL_law_1522 (lv_at hl 5 rfl) ?_
  refine lv_iconst (v := 1) hx hb dL_law_1524 (by decide) ?_
  refine lv_iadd hx hb dL_law_1525 ?_
  refine lv_topi (fun f_1 ef_1 => ?_)
  obtain rfl : f_1 = 1 := ef_1.trans (by decide)
  refine va_sld hx hb hX hbl hbA hS (by unfold vp_in; decide +kernel) dL_law_1526 ?_
  refine lv_topi (fun f_2 ef_2 => ?_)
  obtain rfl : f_2 = xs 1 := ef_2
  refine lv_aload_n hx hb dL_law_1527 rfl (lv_at hl 0 rfl) ?_
  refine lv_iload hx hb dL_law_1528 (lv_at hl 5 rfl) ?_
  refine lv_iconst (v := 2) hx hb dL_law_1530 (by decide) ?_
  refine lv_iadd hx hb dL_law_1531 ?_
  refine lv_topi (fun f_3 ef_3 => ?_)
  obtain rfl : f_3 = 2 := ef_3.trans (by decide)
  refine va_sld hx hb hX hbl hbA hS (by unfold vp_in; decide +kernel) dL_law_1532 ?_
  refine lv_topi (fun f_4 ef_4 => ?_)
  obtain rfl : f_4 = xs 2 := ef_4
  refine lv_aload_n hx hb dL_law_1533 rfl (lv_at hl 3 rfl) ?_
  have hPc := hP.sub (ws' := [(x0, .inr (12, [.ref a1, .ref a2, .ref a3, .ref a4, .ref a5, .ref a6, .ref a7, .ref a8, .int 3, .int 0])), (a4, .inr (3, [.int 0, .ref z, .int 0])), (o1, .inl (cyL, 1, .inr (.inl (fun _ => 0))))]) [0, 4, 20] rfl
  have hKc := hK.sub (tys' := [(cyL, .long)]) [5] rfl
  have hDc := hD.sub (ws' := [(x0, .inr (12, [.ref a1, .ref a2, .ref a3, .ref a4, .ref a5, .ref a6, .ref a7, .ref a8, .int 3, .int 0])), (a4, .inr (3, [.int 0, .ref z, .int 0])), (o1, .inl (cyL, 1, .inr (.inl (fun _ => 0))))]) [0, 4, 20] (by decide) rfl
  have hFc := va_free (wc := [(x0, .inr (12, [.ref a1, .ref a2, .ref a3, .ref a4, .ref a5, .ref a6, .ref a7, .ref a8, .int 3, .int 0])), (a4, .inr (3, [.int 0, .ref z, .int 0])), (o1, .inl (cyL, 1, .inr (.inl (fun _ => 0))))]) hD hS hA [0, 4, 20] rfl
  refine va_calli (vx_runSW (As := [.ref x0, .int (xs 1), .int (xs 2), .ref o1]) (rest := []) ⟨hx, hb, hml, hown, hts⟩ (k_L_cancels l hfl G z x0 a1 a2 a3 a4 a5 a6 a7 a8 3 0 0 z ((xs 1)) ((xs 2)) o1 cyL (fun _ => 0) H.size ) (vx_cwSW 4 hts (lw_goodApp (lw_3 q900 q901 q0) q902) rfl rfl rfl (by decide +kernel) ⟨Nat.le_of_ble_eq_true rfl, Nat.le_of_ble_eq_true rfl⟩) ⟨PW.blind, PW.of hPc hKc hDc hG hS hFc [.ref x0, .int (xs 1), .int (xs 2), .ref o1]⟩ rfl rfl hl.1 rfl (lv_room (Nat.le_of_ble_eq_true rfl)) dL_law_1534 ⟨Nat.le_of_ble_eq_true rfl, Nat.le_of_ble_eq_true rfl⟩) hS (fun q _ h => hFc q h) hFc (fun r_6 u t_8 H_5 locs ht hvm hw_7 hB hz1 hk1 hS => ?_)
  obtain ⟨hP, hD, hK⟩ := QW.join (wr := [(a1, .inr (3, [.int 0, .ref z, .int 0])), (a2, .inr (3, [.int 0, .ref z, .int 0])), (a3, .inr (3, [.int 0, .ref z, .int 0])), (a5, .inr (3, [.int 0, .ref z, .int 0])), (a6, .inr (10, [.ref b1, .ref b2, .ref b3, .int 0])), (b1, .inl (cyA, 400, .inl (nI))), (b2, .inl (cyJ, 512, .inl (fun _ => 0))), (b3, .inl (cyT, 400, .inl (fun _ => 0))), (a7, .inr (4, [.ref d1, .ref d2, .ref d3, .ref d4, .int 0, .int 12])), (d4, .inl (cyO, 20, .inr (.inr (.inr (.inr (fS)))))), (r0, .inl (cyI, 20, .inl (fun _ => 0))), (y0, .inr (18, [.int 0, .ref l1, .ref l2, .ref l3, .ref l4, .ref l5, .ref l6, .int 0, .int 3, .int 12, .ref m1, .ref m2, .ref m3, .ref m4, .ref m5, .ref m6])), (l1, .inr (3, [.int 0, .ref z, .int 0])), (l2, .inr (3, [.int 0, .ref z, .int 0])), (l3, .inr (3, [.int 0, .ref z, .int 0])), (l4, .inr (3, [.int 0, .ref z, .int 0])), (l5, .inr (3, [.int 0, .ref z, .int 0])), (l6, .inr (3, [.int 0, .ref z, .int 0])), (o2, .inl (cyD, 1, .inr (.inr (.inr (.inl (fun _ => 0))))))]) (w1 := [(o1, .inl (cyL, 1, .inr (.inl ((fun _ => 0)))))]) hP hD hK [0, 4, 20] [1, 2, 3, 5, 6, 7, 8, 9, 10, 11, 12, 13, 14, 15, 16, 17, 18, 19, 21] rfl rfl (by decide) (by decide) hk1 hFc ht hvm hB
  have hP : va_P G vwCl ([(a1, .inr (3, [.int 0, .ref z, .int 0])), (a2, .inr (3, [.int 0, .ref z, .int 0])), (a3, .inr (3, [.int 0, .ref z, .int 0])), (a5, .inr (3, [.int 0, .ref z, .int 0])), (a6, .inr (10, [.ref b1, .ref b2, .ref b3, .int 0])), (b1, .inl (cyA, 400, .inl (nI))), (b2, .inl (cyJ, 512, .inl (fun _ => 0))), (b3, .inl (cyT, 400, .inl (fun _ => 0))), (a7, .inr (4, [.ref d1, .ref d2, .ref d3, .ref d4, .int 0, .int 12])), (d4, .inl (cyO, 20, .inr (.inr (.inr (.inr (fS)))))), (r0, .inl (cyI, 20, .inl (fun _ => 0))), (y0, .inr (18, [.int 0, .ref l1, .ref l2, .ref l3, .ref l4, .ref l5, .ref l6, .int 0, .int 3, .int 12, .ref m1, .ref m2, .ref m3, .ref m4, .ref m5, .ref m6])), (l1, .inr (3, [.int 0, .ref z, .int 0])), (l2, .inr (3, [.int 0, .ref z, .int 0])), (l3, .inr (3, [.int 0, .ref z, .int 0])), (l4, .inr (3, [.int 0, .ref z, .int 0])), (l5, .inr (3, [.int 0, .ref z, .int 0])), (l6, .inr (3, [.int 0, .ref z, .int 0])), (o2, .inl (cyD, 1, .inr (.inr (.inr (.inl (fun _ => 0)))))), (o1, .inl (cyL, 1, .inr (.inl ((fun _ => 0)))))]) H_5 := hP
  have hD : va_D A ([(a1, .inr (3, [.int 0, .ref z, .int 0])), (a2, .inr (3, [.int 0, .ref z, .int 0])), (a3, .inr (3, [.int 0, .ref z, .int 0])), (a5, .inr (3, [.int 0, .ref z, .int 0])), (a6, .inr (10, [.ref b1, .ref b2, .ref b3, .int 0])), (b1, .inl (cyA, 400, .inl (nI))), (b2, .inl (cyJ, 512, .inl (fun _ => 0))), (b3, .inl (cyT, 400, .inl (fun _ => 0))), (a7, .inr (4, [.ref d1, .ref d2, .ref d3, .ref d4, .int 0, .int 12])), (d4, .inl (cyO, 20, .inr (.inr (.inr (.inr (fS)))))), (r0, .inl (cyI, 20, .inl (fun _ => 0))), (y0, .inr (18, [.int 0, .ref l1, .ref l2, .ref l3, .ref l4, .ref l5, .ref l6, .int 0, .int 3, .int 12, .ref m1, .ref m2, .ref m3, .ref m4, .ref m5, .ref m6])), (l1, .inr (3, [.int 0, .ref z, .int 0])), (l2, .inr (3, [.int 0, .ref z, .int 0])), (l3, .inr (3, [.int 0, .ref z, .int 0])), (l4, .inr (3, [.int 0, .ref z, .int 0])), (l5, .inr (3, [.int 0, .ref z, .int 0])), (l6, .inr (3, [.int 0, .ref z, .int 0])), (o2, .inl (cyD, 1, .inr (.inr (.inr (.inl (fun _ => 0)))))), (o1, .inl (cyL, 1, .inr (.inl ((fun _ => 0)))))]) := hD
  have hK : va_K G vwCl [(cyA, .int), (cyJ, .int), (cyT, .int), (cyO, .array .int), (cyI, .int), (cyL, .long), (cyD, .double), (cyL, .long)] s := hK
  refine W.widen (k := 136) (n := 2997) (Nat.le_of_ble_eq_true rfl) (Nat.le_of_ble_eq_true rfl) ?_
  obtain rfl : 1 = r_6 := hw_7.symm
  refine lv_istore (lv' := [(6, .int 1), (0, .ref b), (1, .ref x0), (2, .ref y0), (3, .ref o1), (4, .ref o2), (5, .int 0)]) hx hb dL_law_1537 hl (by decide) rfl (fun ls hl => ?_)
  refine lv_aload_n hx hb dL_law_1539 rfl (lv_at hl 3 rfl) ?_
  refine lv_aload_n hx hb dL_law_1540 rfl (lv_at hl 1 rfl) ?_
  refine lv_iload hx hb dL_law_1541 (lv_at hl 6 rfl) ?_
  refine lv_iconst (v := 1) hx hb dL_law_1543 (by decide) ?_
  refine lv_iadd hx hb dL_law_1544 ?_
  refine lv_topi (fun f_9 ef_9 => ?_)
  obtain rfl : f_9 = 1 := ef_9.trans (by decide)
  refine va_sld hx hb hX hbl hbA hS (by unfold vp_in; decide +kernel) dL_law_1545 ?_
  refine lv_topi (fun f_10 ef_10 => ?_)
  obtain rfl : f_10 = xs 1 := ef_10
  refine lv_aload_n hx hb dL_law_1546 rfl (lv_at hl 1 rfl) ?_
  refine lv_iload hx hb dL_law_1547 (lv_at hl 6 rfl) ?_
  refine lv_iconst (v := 2) hx hb dL_law_1549 (by decide) ?_
  refine lv_iadd hx hb dL_law_1550 ?_
  refine lv_topi (fun f_11 ef_11 => ?_)
  obtain rfl : f_11 = 2 := ef_11.trans (by decide)
  refine va_sld hx hb hX hbl hbA hS (by unfold vp_in; decide +kernel) dL_law_1551 ?_
  refine lv_topi (fun f_12 ef_12 => ?_)
  obtain rfl : f_12 = xs 2 := ef_12
  have hPc := hP.sub (ws' := [(y0, .inr (18, [.int 0, .ref l1, .ref l2, .ref l3, .ref l4, .ref l5, .ref l6, .int 0, .int 3, .int 12, .ref m1, .ref m2, .ref m3, .ref m4, .ref m5, .ref m6])), (l4, .inr (3, [.int 0, .ref z, .int 0]))]) [11, 15] rfl
  have hKc := hK.sub (tys' := []) [] rfl
  have hDc := hD.sub (ws' := [(y0, .inr (18, [.int 0, .ref l1, .ref l2, .ref l3, .ref l4, .ref l5, .ref l6, .int 0, .int 3, .int 12, .ref m1, .ref m2, .ref m3, .ref m4, .ref m5, .ref m6])), (l4, .inr (3, [.int 0, .ref z, .int 0]))]) [11, 15] (by decide) rfl
  have hFc := va_free (wc := [(y0, .inr (18, [.int 0, .ref l1, .ref l2, .ref l3, .ref l4, .ref l5, .ref l6, .int 0, .int 3, .int 12, .ref m1, .ref m2, .ref m3, .ref m4, .ref m5, .ref m6])), (l4, .inr (3, [.int 0, .ref z, .int 0]))]) hD hS hA [11, 15] rfl
  refine va_calli (va_runV (As := [.int (xs 1), .int (xs 2)]) (rest := []) ⟨hx, hb, hml, hown, hts⟩ (k_X14_cancels l G z y0 0 l1 l2 l3 l4 l5 l6 3 12 m1 m2 m3 m4 m5 m6 0 z ((xs 1)) ((xs 2)) H_5.size ) (cwV 2 hts (lw_goodApp (lw_4 q1561 q1562 q1563 q7) q1564) rfl rfl rfl (by decide +kernel) ⟨Nat.le_of_ble_eq_true rfl, Nat.le_of_ble_eq_true rfl⟩) ⟨PW.blind, va_recv hK hP (ci := 18) (q0 := 11) rfl rfl, PW.of hPc hKc hDc hG hS hFc [.ref y0, .int (xs 1), .int (xs 2)]⟩ rfl rfl hl.1 rfl (lv_room (Nat.le_of_ble_eq_true rfl)) dL_law_1552 ⟨Nat.le_of_ble_eq_true rfl, Nat.le_of_ble_eq_true rfl⟩) hS (fun q _ h => hFc q h) hFc (fun r_14 u t_16 H_13 locs ht hvm hw_15 hB hz1 hk1 hS => ?_)
  obtain ⟨hP, hD, hK⟩ := QW.join (wr := [(a1, .inr (3, [.int 0, .ref z, .int 0])), (a2, .inr (3, [.int 0, .ref z, .int 0])), (a3, .inr (3, [.int 0, .ref z, .int 0])), (a5, .inr (3, [.int 0, .ref z, .int 0])), (a6, .inr (10, [.ref b1, .ref b2, .ref b3, .int 0])), (b1, .inl (cyA, 400, .inl (nI))), (b2, .inl (cyJ, 512, .inl (fun _ => 0))), (b3, .inl (cyT, 400, .inl (fun _ => 0))), (a7, .inr (4, [.ref d1, .ref d2, .ref d3, .ref d4, .int 0, .int 12])), (d4, .inl (cyO, 20, .inr (.inr (.inr (.inr (fS)))))), (r0, .inl (cyI, 20, .inl (fun _ => 0))), (l1, .inr (3, [.int 0, .ref z, .int 0])), (l2, .inr (3, [.int 0, .ref z, .int 0])), (l3, .inr (3, [.int 0, .ref z, .int 0])), (l5, .inr (3, [.int 0, .ref z, .int 0])), (l6, .inr (3, [.int 0, .ref z, .int 0])), (o2, .inl (cyD, 1, .inr (.inr (.inr (.inl (fun _ => 0)))))), (o1, .inl (cyL, 1, .inr (.inl ((fun _ => 0)))))]) (w1 := [(y0, .inr (18, [.int 1, .ref l1, .ref l2, .ref l3, .ref l4, .ref l5, .ref l6, .int 0, .int 3, .int 12, .ref m1, .ref m2, .ref m3, .ref m4, .ref m5, .ref m6]))]) hP hD hK [11, 15] [0, 1, 2, 3, 4, 5, 6, 7, 8, 9, 10, 12, 13, 14, 16, 17, 18, 19] rfl rfl (by decide) (by decide) hk1 hFc ht hvm hB
  have hP : va_P G vwCl ([(a1, .inr (3, [.int 0, .ref z, .int 0])), (a2, .inr (3, [.int 0, .ref z, .int 0])), (a3, .inr (3, [.int 0, .ref z, .int 0])), (a5, .inr (3, [.int 0, .ref z, .int 0])), (a6, .inr (10, [.ref b1, .ref b2, .ref b3, .int 0])), (b1, .inl (cyA, 400, .inl (nI))), (b2, .inl (cyJ, 512, .inl (fun _ => 0))), (b3, .inl (cyT, 400, .inl (fun _ => 0))), (a7, .inr (4, [.ref d1, .ref d2, .ref d3, .ref d4, .int 0, .int 12])), (d4, .inl (cyO, 20, .inr (.inr (.inr (.inr (fS)))))), (r0, .inl (cyI, 20, .inl (fun _ => 0))), (l1, .inr (3, [.int 0, .ref z, .int 0])), (l2, .inr (3, [.int 0, .ref z, .int 0])), (l3, .inr (3, [.int 0, .ref z, .int 0])), (l5, .inr (3, [.int 0, .ref z, .int 0])), (l6, .inr (3, [.int 0, .ref z, .int 0])), (o2, .inl (cyD, 1, .inr (.inr (.inr (.inl (fun _ => 0)))))), (o1, .inl (cyL, 1, .inr (.inl ((fun _ => 0))))), (y0, .inr (18, [.int 1, .ref l1, .ref l2, .ref l3, .ref l4, .ref l5, .ref l6, .int 0, .int 3, .int 12, .ref m1, .ref m2, .ref m3, .ref m4, .ref m5, .ref m6]))]) H_13 := hP
  have hD : va_D A ([(a1, .inr (3, [.int 0, .ref z, .int 0])), (a2, .inr (3, [.int 0, .ref z, .int 0])), (a3, .inr (3, [.int 0, .ref z, .int 0])), (a5, .inr (3, [.int 0, .ref z, .int 0])), (a6, .inr (10, [.ref b1, .ref b2, .ref b3, .int 0])), (b1, .inl (cyA, 400, .inl (nI))), (b2, .inl (cyJ, 512, .inl (fun _ => 0))), (b3, .inl (cyT, 400, .inl (fun _ => 0))), (a7, .inr (4, [.ref d1, .ref d2, .ref d3, .ref d4, .int 0, .int 12])), (d4, .inl (cyO, 20, .inr (.inr (.inr (.inr (fS)))))), (r0, .inl (cyI, 20, .inl (fun _ => 0))), (l1, .inr (3, [.int 0, .ref z, .int 0])), (l2, .inr (3, [.int 0, .ref z, .int 0])), (l3, .inr (3, [.int 0, .ref z, .int 0])), (l5, .inr (3, [.int 0, .ref z, .int 0])), (l6, .inr (3, [.int 0, .ref z, .int 0])), (o2, .inl (cyD, 1, .inr (.inr (.inr (.inl (fun _ => 0)))))), (o1, .inl (cyL, 1, .inr (.inl ((fun _ => 0))))), (y0, .inr (18, [.int 1, .ref l1, .ref l2, .ref l3, .ref l4, .ref l5, .ref l6, .int 0, .int 3, .int 12, .ref m1, .ref m2, .ref m3, .ref m4, .ref m5, .ref m6]))]) := hD
  have hK : va_K G vwCl [(cyA, .int), (cyJ, .int), (cyT, .int), (cyO, .array .int), (cyI, .int), (cyL, .long), (cyD, .double), (cyL, .long)] s := hK
  refine W.widen (k := 136) (n := 2997) (Nat.le_of_ble_eq_true rfl) (Nat.le_of_ble_eq_true rfl) ?_
  refine lv_istore (lv' := [(7, .int r_14), (6, .int 1), (0, .ref b), (1, .ref x0), (2, .ref y0), (3, .ref o1), (4, .ref o2), (5, .int 0)]) hx hb dL_law_1555 hl (by decide) rfl (fun ls hl => ?_)
  refine lv_aload_n hx hb dL_law_1557 rfl (lv_at hl 4 rfl) ?_
  have hPc := hP.sub (ws' := [(y0, .inr (18, [.int 1, .ref l1, .ref l2, .ref l3, .ref l4, .ref l5, .ref l6, .int 0, .int 3, .int 12, .ref m1, .ref m2, .ref m3, .ref m4, .ref m5, .ref m6]))]) [18] rfl
  have hKc := hK.sub (tys' := []) [] rfl
  refine va_calli (va_runV (As := []) (rest := []) ⟨hx, hb, hml, hown, hts⟩ (k_X14_thrown l G z y0 1 l1 l2 l3 l4 l5 l6 3 12 m1 m2 m3 m4 m5 m6 H_13.size ) (cwV 0 hts (lw_goodApp (lw_4 q1236 q1237 q1238 q7) q1239) rfl rfl rfl (by decide +kernel) ⟨Nat.le_of_ble_eq_true rfl, Nat.le_of_ble_eq_true rfl⟩) ⟨PR.blind, va_recv hK hP (ci := 18) (q0 := 18) rfl rfl, PR.of hPc hKc hG hS hA [.ref y0]⟩ rfl rfl hl.1 rfl (lv_room (Nat.le_of_ble_eq_true rfl)) dL_law_1558 ⟨Nat.le_of_ble_eq_true rfl, Nat.le_of_ble_eq_true rfl⟩) hS (fun q h9 h => zN.not h9 h) (fun q h => hA q (Nat.le_trans hS.1 h)) (fun r_18 u t_20 H_17 locs ht hvm hw_19 hB hz1 hk1 hS => ?_)
  have hP := hP.grown hk1
  refine W.widen (k := 136) (n := 2997) (Nat.le_of_ble_eq_true rfl) (Nat.le_of_ble_eq_true rfl) ?_
  obtain rfl : 1 = r_18 := hw_19.symm
  refine lv_iload hx hb dL_law_1561 (lv_at hl 1 rfl) ?_
  refine lv_icmp_eq (tgt := 1568) hx hb dL_law_1563 (by decide) (fun c_21 => ?_) (fun c_21 => absurd rfl c_21)
  refine lv_iload hx hb dL_law_1568 (lv_at hl 1 rfl) ?_
  refine lv_if_ne (tgt := 1585) hx hb dL_law_1570 (by decide) (fun c_22 => ?_) (fun c_22 => absurd c_22 (by decide))
  refine lv_goto (tgt := 3288) hx hb dL_law_1585 (by decide) ?_
  exact law_tail hfl C0 hA hA2 hS (lv_sub hl [2, 7] rfl) (Nat.le_of_ble_eq_true rfl) (Nat.le_of_ble_eq_true rfl)
set_option maxHeartbeats 8000000 in
set_option maxRecDepth 100000 in
/-- script value 17 -/
theorem law_case_17 {p : Program} {l : Launch} {e : Env} {s : State} {m : MethodId} {below : List Frame} {meth : Method} {c : Code} {b : Nat} {xs : Nat → Int32} (hfl : l.stackTraces = false) (C0 : lw_At p s m meth c b 7 xs) {A : Nat → Prop} (hA : ∀ q : Nat, s.heap.size ≤ q → A q) (hA2 : ∀ q : Nat, A q → s.heap.size ≤ q) (G : va_G) (z : Nat) (hG : zG z A s s.heap) (x0 : Nat) (y0 : Nat) (o1 : Nat) (o2 : Nat) (cyL : ClassId) (cyD : ClassId) (a1 : Nat) (a2 : Nat) (a3 : Nat) (a4 : Nat) (a5 : Nat) (a6 : Nat) (a7 : Nat) (a8 : Nat) (b1 : Nat) (b2 : Nat) (b3 : Nat) (cyA : ClassId) (cyJ : ClassId) (cyT : ClassId) (d1 : Nat) (d2 : Nat) (d3 : Nat) (d4 : Nat) (cyO : ClassId) (fS : Nat → Option Nat) (cyI : ClassId) (r0 : Nat) (l1 : Nat) (l2 : Nat) (l3 : Nat) (l4 : Nat) (l5 : Nat) (l6 : Nat) (m1 : Nat) (m2 : Nat) (m3 : Nat) (m4 : Nat) (m5 : Nat) (m6 : Nat) (hf0 : fS 0 = some r0) {H : Heap} {locs : List Loc} (hP : va_P G vwCl ([(x0, .inr (12, [.ref a1, .ref a2, .ref a3, .ref a4, .ref a5, .ref a6, .ref a7, .ref a8, .int 3, .int 0])), (a1, .inr (3, [.int 0, .ref z, .int 0])), (a2, .inr (3, [.int 0, .ref z, .int 0])), (a3, .inr (3, [.int 0, .ref z, .int 0])), (a4, .inr (3, [.int 0, .ref z, .int 0])), (a5, .inr (3, [.int 0, .ref z, .int 0])), (a6, .inr (10, [.ref b1, .ref b2, .ref b3, .int 0])), (b1, .inl (cyA, 400, .inl (nI))), (b2, .inl (cyJ, 512, .inl (fun _ => 0))), (b3, .inl (cyT, 400, .inl (fun _ => 0))), (a7, .inr (4, [.ref d1, .ref d2, .ref d3, .ref d4, .int 0, .int 12])), (d4, .inl (cyO, 20, .inr (.inr (.inr (.inr (fS)))))), (r0, .inl (cyI, 20, .inl (fun _ => 0))), (y0, .inr (18, [.int 0, .ref l1, .ref l2, .ref l3, .ref l4, .ref l5, .ref l6, .int 0, .int 3, .int 12, .ref m1, .ref m2, .ref m3, .ref m4, .ref m5, .ref m6])), (l1, .inr (3, [.int 0, .ref z, .int 0])), (l2, .inr (3, [.int 0, .ref z, .int 0])), (l3, .inr (3, [.int 0, .ref z, .int 0])), (l4, .inr (3, [.int 0, .ref z, .int 0])), (l5, .inr (3, [.int 0, .ref z, .int 0])), (l6, .inr (3, [.int 0, .ref z, .int 0])), (o1, .inl (cyL, 1, .inr (.inl (fun _ => 0)))), (o2, .inl (cyD, 1, .inr (.inr (.inr (.inl (fun _ => 0))))))]) H) (hD : va_D A ([(x0, .inr (12, [.ref a1, .ref a2, .ref a3, .ref a4, .ref a5, .ref a6, .ref a7, .ref a8, .int 3, .int 0])), (a1, .inr (3, [.int 0, .ref z, .int 0])), (a2, .inr (3, [.int 0, .ref z, .int 0])), (a3, .inr (3, [.int 0, .ref z, .int 0])), (a4, .inr (3, [.int 0, .ref z, .int 0])), (a5, .inr (3, [.int 0, .ref z, .int 0])), (a6, .inr (10, [.ref b1, .ref b2, .ref b3, .int 0])), (b1, .inl (cyA, 400, .inl (nI))), (b2, .inl (cyJ, 512, .inl (fun _ => 0))), (b3, .inl (cyT, 400, .inl (fun _ => 0))), (a7, .inr (4, [.ref d1, .ref d2, .ref d3, .ref d4, .int 0, .int 12])), (d4, .inl (cyO, 20, .inr (.inr (.inr (.inr (fS)))))), (r0, .inl (cyI, 20, .inl (fun _ => 0))), (y0, .inr (18, [.int 0, .ref l1, .ref l2, .ref l3, .ref l4, .ref l5, .ref l6, .int 0, .int 3, .int 12, .ref m1, .ref m2, .ref m3, .ref m4, .ref m5, .ref m6])), (l1, .inr (3, [.int 0, .ref z, .int 0])), (l2, .inr (3, [.int 0, .ref z, .int 0])), (l3, .inr (3, [.int 0, .ref z, .int 0])), (l4, .inr (3, [.int 0, .ref z, .int 0])), (l5, .inr (3, [.int 0, .ref z, .int 0])), (l6, .inr (3, [.int 0, .ref z, .int 0])), (o1, .inl (cyL, 1, .inr (.inl (fun _ => 0)))), (o2, .inl (cyD, 1, .inr (.inr (.inr (.inl (fun _ => 0))))))])) (hK : va_K G vwCl [(cyA, .int), (cyJ, .int), (cyT, .int), (cyO, .array .int), (cyI, .int), (cyL, .long), (cyD, .double)] s) (hS : va_S A s.heap H locs) {ls : Array Slot} (hl : lv_has ls 9 [(0, .ref b), (1, .ref x0), (2, .ref y0), (3, .ref o1), (4, .ref o2), (5, .int 0)]) : W p l e room_1 s m #[Value.ref b] below meth c H locs 135 2991 (lw_Z below #[Value.ref b] s) (F0 m 1588 ls []) := by
  have C9 := C0
  obtain ⟨hx, hb, hr, hml, hown, hts0, hX, hbl, hlocks, hgv⟩ := id C0
  have hg := lw_sub_good hts0
  have hts : ∀ w ∈ (lw_hd :: lw_good), w.before #[Value.ref b] s = true := fun w h => (List.mem_cons.mp h).elim (fun e9 => e9 ▸ hg _ q0) (hg w)
  have hbA : ¬ A b := fun h => Nat.not_le.mpr hbl (hA2 b h)
  refine lv_aload_n hx hb dL_law_1588 rfl (lv_at hl 1 rfl) ?_
  refine lv_aload_n hx hb dL_law_1589 rfl (lv_at hl 0 rfl) ?_
  refine lv_iload hx hb dL_law_1590 (lv_at hl 5 rfl) ?_
  refine lv_iconst (v := 1) hx hb dL_law_1592 (by decide) ?_
  refine lv_iadd hx hb dL_law_1593 ?_
  refine lv_topi (fun f_1 ef_1 => ?_)
  obtain rfl : f_1 = 1 := ef_1.trans (by decide)
  refine va_sld hx hb hX hbl hbA hS (by unfold vp_in; decide +kernel) dL_law_1594 ?_
  refine lv_topi (fun f_2 ef_2 => ?_)
  obtain rfl : f_2 = xs 1 := ef_2
  refine lv_aload_n hx hb dL_law_1595 rfl (lv_at hl 0 rfl) ?_
  refine lv_iload hx hb dL_law_1596 (lv_at hl 5 rfl) ?_
  refine lv_iconst (v := 2) hx hb dL_law_1598 (by decide) ?_
  refine lv_iadd hx hb dL_law_1599 ?_
  refine lv_topi (fun f_3 ef_3 => ?_)
  obtain rfl : f_3 = 2 := ef_3.trans (by decide)
  refine va_sld hx hb hX hbl hbA hS (by unfold vp_in; decide +kernel) dL_law_1600 ?_
  refine lv_topi (fun f_4 ef_4 => ?_)
  obtain rfl : f_4 = xs 2 := ef_4
  refine lv_aload_n hx hb dL_law_1601 rfl (lv_at hl 0 rfl) ?_
  refine lv_iload hx hb dL_law_1602 (lv_at hl 5 rfl) ?_
  refine lv_iconst (v := 3) hx hb dL_law_1604 (by decide) ?_
  refine lv_iadd hx hb dL_law_1605 ?_
  refine lv_topi (fun f_5 ef_5 => ?_)
  obtain rfl : f_5 = 3 := ef_5.trans (by decide)
  refine va_sld hx hb hX hbl hbA hS (by unfold vp_in; decide +kernel) dL_law_1606 ?_
  refine lv_topi (fun f_6 ef_6 => ?_)
  obtain rfl : f_6 = xs 3 := ef_6
  refine lv_aload_n hx hb dL_law_1607 rfl (lv_at hl 3 rfl) ?_
  have hPc := hP.sub (ws' := [(x0, .inr (12, [.ref a1, .ref a2, .ref a3, .ref a4, .ref a5, .ref a6, .ref a7, .ref a8, .int 3, .int 0])), (a4, .inr (3, [.int 0, .ref z, .int 0])), (o1, .inl (cyL, 1, .inr (.inl (fun _ => 0))))]) [0, 4, 20] rfl
  have hKc := hK.sub (tys' := [(cyL, .long)]) [5] rfl
  have hDc := hD.sub (ws' := [(x0, .inr (12, [.ref a1, .ref a2, .ref a3, .ref a4, .ref a5, .ref a6, .ref a7, .ref a8, .int 3, .int 0])), (a4, .inr (3, [.int 0, .ref z, .int 0])), (o1, .inl (cyL, 1, .inr (.inl (fun _ => 0))))]) [0, 4, 20] (by decide) rfl
  have hFc := va_free (wc := [(x0, .inr (12, [.ref a1, .ref a2, .ref a3, .ref a4, .ref a5, .ref a6, .ref a7, .ref a8, .int 3, .int 0])), (a4, .inr (3, [.int 0, .ref z, .int 0])), (o1, .inl (cyL, 1, .inr (.inl (fun _ => 0))))]) hD hS hA [0, 4, 20] rfl
  refine va_calli (vx_runSW (As := [.ref x0, .int (xs 1), .int (xs 2), .int (xs 3), .ref o1]) (rest := []) ⟨hx, hb, hml, hown, hts⟩ (k_L_leafOf l hfl G z x0 a1 a2 a3 a4 a5 a6 a7 a8 3 0 0 z ((xs 1)) ((xs 2)) ((xs 3)) o1 cyL (fun _ => 0) H.size ) (vx_cwSW 5 hts (lw_goodApp (lw_3 q919 q920 q0) q921) rfl rfl rfl (by decide +kernel) ⟨Nat.le_of_ble_eq_true rfl, Nat.le_of_ble_eq_true rfl⟩) ⟨PW.blind, PW.of hPc hKc hDc hG hS hFc [.ref x0, .int (xs 1), .int (xs 2), .int (xs 3), .ref o1]⟩ rfl rfl hl.1 rfl (lv_room (Nat.le_of_ble_eq_true rfl)) dL_law_1608 ⟨Nat.le_of_ble_eq_true rfl, Nat.le_of_ble_eq_true rfl⟩) hS (fun q _ h => hFc q h) hFc (fun r_8 u t_10 H_7 locs ht hvm hw_9 hB hz1 hk1 hS => ?_)
  obtain ⟨hP, hD, hK⟩ := QW.join (wr := [(a1, .inr (3, [.int 0, .ref z, .int 0])), (a2, .inr (3, [.int 0, .ref z, .int 0])), (a3, .inr (3, [.int 0, .ref z, .int 0])), (a5, .inr (3, [.int 0, .ref z, .int 0])), (a6, .inr (10, [.ref b1, .ref b2, .ref b3, .int 0])), (b1, .inl (cyA, 400, .inl (nI))), (b2, .inl (cyJ, 512, .inl (fun _ => 0))), (b3, .inl (cyT, 400, .inl (fun _ => 0))), (a7, .inr (4, [.ref d1, .ref d2, .ref d3, .ref d4, .int 0, .int 12])), (d4, .inl (cyO, 20, .inr (.inr (.inr (.inr (fS)))))), (r0, .inl (cyI, 20, .inl (fun _ => 0))), (y0, .inr (18, [.int 0, .ref l1, .ref l2, .ref l3, .ref l4, .ref l5, .ref l6, .int 0, .int 3, .int 12, .ref m1, .ref m2, .ref m3, .ref m4, .ref m5, .ref m6])), (l1, .inr (3, [.int 0, .ref z, .int 0])), (l2, .inr (3, [.int 0, .ref z, .int 0])), (l3, .inr (3, [.int 0, .ref z, .int 0])), (l4, .inr (3, [.int 0, .ref z, .int 0])), (l5, .inr (3, [.int 0, .ref z, .int 0])), (l6, .inr (3, [.int 0, .ref z, .int 0])), (o2, .inl (cyD, 1, .inr (.inr (.inr (.inl (fun _ => 0))))))]) (w1 := [(o1, .inl (cyL, 1, .inr (.inl ((fun _ => 0)))))]) hP hD hK [0, 4, 20] [1, 2, 3, 5, 6, 7, 8, 9, 10, 11, 12, 13, 14, 15, 16, 17, 18, 19, 21] rfl rfl (by decide) (by decide) hk1 hFc ht hvm hB
  have hP : va_P G vwCl ([(a1, .inr (3, [.int 0, .ref z, .int 0])), (a2, .inr (3, [.int 0, .ref z, .int 0])), (a3, .inr (3, [.int 0, .ref z, .int 0])), (a5, .inr (3, [.int 0, .ref z, .int 0])), (a6, .inr (10, [.ref b1, .ref b2, .ref b3, .int 0])), (b1, .inl (cyA, 400, .inl (nI))), (b2, .inl (cyJ, 512, .inl (fun _ => 0))), (b3, .inl (cyT, 400, .inl (fun _ => 0))), (a7, .inr (4, [.ref d1, .ref d2, .ref d3, .ref d4, .int 0, .int 12])), (d4, .inl (cyO, 20, .inr (.inr (.inr (.inr (fS)))))), (r0, .inl (cyI, 20, .inl (fun _ => 0))), (y0, .inr (18, [.int 0, .ref l1, .ref l2, .ref l3, .ref l4, .ref l5, .ref l6, .int 0, .int 3, .int 12, .ref m1, .ref m2, .ref m3, .ref m4, .ref m5, .ref m6])), (l1, .inr (3, [.int 0, .ref z, .int 0])), (l2, .inr (3, [.int 0, .ref z, .int 0])), (l3, .inr (3, [.int 0, .ref z, .int 0])), (l4, .inr (3, [.int 0, .ref z, .int 0])), (l5, .inr (3, [.int 0, .ref z, .int 0])), (l6, .inr (3, [.int 0, .ref z, .int 0])), (o2, .inl (cyD, 1, .inr (.inr (.inr (.inl (fun _ => 0)))))), (o1, .inl (cyL, 1, .inr (.inl ((fun _ => 0)))))]) H_7 := hP
  have hD : va_D A ([(a1, .inr (3, [.int 0, .ref z, .int 0])), (a2, .inr (3, [.int 0, .ref z, .int 0])), (a3, .inr (3, [.int 0, .ref z, .int 0])), (a5, .inr (3, [.int 0, .ref z, .int 0])), (a6, .inr (10, [.ref b1, .ref b2, .ref b3, .int 0])), (b1, .inl (cyA, 400, .inl (nI))), (b2, .inl (cyJ, 512, .inl (fun _ => 0))), (b3, .inl (cyT, 400, .inl (fun _ => 0))), (a7, .inr (4, [.ref d1, .ref d2, .ref d3, .ref d4, .int 0, .int 12])), (d4, .inl (cyO, 20, .inr (.inr (.inr (.inr (fS)))))), (r0, .inl (cyI, 20, .inl (fun _ => 0))), (y0, .inr (18, [.int 0, .ref l1, .ref l2, .ref l3, .ref l4, .ref l5, .ref l6, .int 0, .int 3, .int 12, .ref m1, .ref m2, .ref m3, .ref m4, .ref m5, .ref m6])), (l1, .inr (3, [.int 0, .ref z, .int 0])), (l2, .inr (3, [.int 0, .ref z, .int 0])), (l3, .inr (3, [.int 0, .ref z, .int 0])), (l4, .inr (3, [.int 0, .ref z, .int 0])), (l5, .inr (3, [.int 0, .ref z, .int 0])), (l6, .inr (3, [.int 0, .ref z, .int 0])), (o2, .inl (cyD, 1, .inr (.inr (.inr (.inl (fun _ => 0)))))), (o1, .inl (cyL, 1, .inr (.inl ((fun _ => 0)))))]) := hD
  have hK : va_K G vwCl [(cyA, .int), (cyJ, .int), (cyT, .int), (cyO, .array .int), (cyI, .int), (cyL, .long), (cyD, .double), (cyL, .long)] s := hK
  refine W.widen (k := 136) (n := 2997) (Nat.le_of_ble_eq_true rfl) (Nat.le_of_ble_eq_true rfl) ?_
  obtain rfl : 1 = r_8 := hw_9.symm
  refine lv_istore (lv' := [(6, .int 1), (0, .ref b), (1, .ref x0), (2, .ref y0), (3, .ref o1), (4, .ref o2), (5, .int 0)]) hx hb dL_law_1611 hl (by decide) rfl (fun ls hl => ?_)
  refine lv_aload_n hx hb dL_law_1613 rfl (lv_at hl 3 rfl) ?_
  refine lv_aload_n hx hb dL_law_1614 rfl (lv_at hl 1 rfl) ?_
  refine lv_iload hx hb dL_law_1615 (lv_at hl 6 rfl) ?_
  refine lv_iconst (v := 1) hx hb dL_law_1617 (by decide) ?_
  refine lv_iadd hx hb dL_law_1618 ?_
  refine lv_topi (fun f_11 ef_11 => ?_)
  obtain rfl : f_11 = 1 := ef_11.trans (by decide)
  refine va_sld hx hb hX hbl hbA hS (by unfold vp_in; decide +kernel) dL_law_1619 ?_
  refine lv_topi (fun f_12 ef_12 => ?_)
  obtain rfl : f_12 = xs 1 := ef_12
  refine lv_aload_n hx hb dL_law_1620 rfl (lv_at hl 1 rfl) ?_
  refine lv_iload hx hb dL_law_1621 (lv_at hl 6 rfl) ?_
  refine lv_iconst (v := 2) hx hb dL_law_1623 (by decide) ?_
  refine lv_iadd hx hb dL_law_1624 ?_
  refine lv_topi (fun f_13 ef_13 => ?_)
  obtain rfl : f_13 = 2 := ef_13.trans (by decide)
  refine va_sld hx hb hX hbl hbA hS (by unfold vp_in; decide +kernel) dL_law_1625 ?_
  refine lv_topi (fun f_14 ef_14 => ?_)
  obtain rfl : f_14 = xs 2 := ef_14
  refine lv_aload_n hx hb dL_law_1626 rfl (lv_at hl 1 rfl) ?_
  refine lv_iload hx hb dL_law_1627 (lv_at hl 6 rfl) ?_
  refine lv_iconst (v := 3) hx hb dL_law_1629 (by decide) ?_
  refine lv_iadd hx hb dL_law_1630 ?_
  refine lv_topi (fun f_15 ef_15 => ?_)
  obtain rfl : f_15 = 3 := ef_15.trans (by decide)
  refine va_sld hx hb hX hbl hbA hS (by unfold vp_in; decide +kernel) dL_law_1631 ?_
  refine lv_topi (fun f_16 ef_16 => ?_)
  obtain rfl : f_16 = xs 3 := ef_16
  have hPc := hP.sub (ws' := [(y0, .inr (18, [.int 0, .ref l1, .ref l2, .ref l3, .ref l4, .ref l5, .ref l6, .int 0, .int 3, .int 12, .ref m1, .ref m2, .ref m3, .ref m4, .ref m5, .ref m6])), (l4, .inr (3, [.int 0, .ref z, .int 0]))]) [11, 15] rfl
  have hKc := hK.sub (tys' := []) [] rfl
  have hDc := hD.sub (ws' := [(y0, .inr (18, [.int 0, .ref l1, .ref l2, .ref l3, .ref l4, .ref l5, .ref l6, .int 0, .int 3, .int 12, .ref m1, .ref m2, .ref m3, .ref m4, .ref m5, .ref m6])), (l4, .inr (3, [.int 0, .ref z, .int 0]))]) [11, 15] (by decide) rfl
  have hFc := va_free (wc := [(y0, .inr (18, [.int 0, .ref l1, .ref l2, .ref l3, .ref l4, .ref l5, .ref l6, .int 0, .int 3, .int 12, .ref m1, .ref m2, .ref m3, .ref m4, .ref m5, .ref m6])), (l4, .inr (3, [.int 0, .ref z, .int 0]))]) hD hS hA [11, 15] rfl
  refine va_calli (va_runV (As := [.int (xs 1), .int (xs 2), .int (xs 3)]) (rest := []) ⟨hx, hb, hml, hown, hts⟩ (k_X14_leafOf l G z y0 0 l1 l2 l3 l4 l5 l6 3 12 m1 m2 m3 m4 m5 m6 0 z ((xs 1)) ((xs 2)) ((xs 3)) H_7.size ) (cwV 3 hts (lw_goodApp (lw_4 q1568 q1569 q1570 q7) q1571) rfl rfl rfl (by decide +kernel) ⟨Nat.le_of_ble_eq_true rfl, Nat.le_of_ble_eq_true rfl⟩) ⟨PW.blind, va_recv hK hP (ci := 18) (q0 := 11) rfl rfl, PW.of hPc hKc hDc hG hS hFc [.ref y0, .int (xs 1), .int (xs 2), .int (xs 3)]⟩ rfl rfl hl.1 rfl (lv_room (Nat.le_of_ble_eq_true rfl)) dL_law_1632 ⟨Nat.le_of_ble_eq_true rfl, Nat.le_of_ble_eq_true rfl⟩) hS (fun q _ h => hFc q h) hFc (fun r_18 u t_20 H_17 locs ht hvm hw_19 hB hz1 hk1 hS => ?_)
  obtain ⟨hP, hD, hK⟩ := QW.join (wr := [(a1, .inr (3, [.int 0, .ref z, .int 0])), (a2, .inr (3, [.int 0, .ref z, .int 0])), (a3, .inr (3, [.int 0, .ref z, .int 0])), (a5, .inr (3, [.int 0, .ref z, .int 0])), (a6, .inr (10, [.ref b1, .ref b2, .ref b3, .int 0])), (b1, .inl (cyA, 400, .inl (nI))), (b2, .inl (cyJ, 512, .inl (fun _ => 0))), (b3, .inl (cyT, 400, .inl (fun _ => 0))), (a7, .inr (4, [.ref d1, .ref d2, .ref d3, .ref d4, .int 0, .int 12])), (d4, .inl (cyO, 20, .inr (.inr (.inr (.inr (fS)))))), (r0, .inl (cyI, 20, .inl (fun _ => 0))), (l1, .inr (3, [.int 0, .ref z, .int 0])), (l2, .inr (3, [.int 0, .ref z, .int 0])), (l3, .inr (3, [.int 0, .ref z, .int 0])), (l5, .inr (3, [.int 0, .ref z, .int 0])), (l6, .inr (3, [.int 0, .ref z, .int 0])), (o2, .inl (cyD, 1, .inr (.inr (.inr (.inl (fun _ => 0)))))), (o1, .inl (cyL, 1, .inr (.inl ((fun _ => 0)))))]) (w1 := [(y0, .inr (18, [.int 1, .ref l1, .ref l2, .ref l3, .ref l4, .ref l5, .ref l6, .int 0, .int 3, .int 12, .ref m1, .ref m2, .ref m3, .ref m4, .ref m5, .ref m6]))]) hP hD hK [11, 15] [0, 1, 2, 3, 4, 5, 6, 7, 8, 9, 10, 12, 13, 14, 16, 17, 18, 19] rfl rfl (by decide) (by decide) hk1 hFc ht hvm hB
  have hP : va_P G vwCl ([(a1, .inr (3, [.int 0, .ref z, .int 0])), (a2, .inr (3, [.int 0, .ref z, .int 0])), (a3, .inr (3, [.int 0, .ref z, .int 0])), (a5, .inr (3, [.int 0, .ref z, .int 0])), (a6, .inr (10, [.ref b1, .ref b2, .ref b3, .int 0])), (b1, .inl (cyA, 400, .inl (nI))), (b2, .inl (cyJ, 512, .inl (fun _ => 0))), (b3, .inl (cyT, 400, .inl (fun _ => 0))), (a7, .inr (4, [.ref d1, .ref d2, .ref d3, .ref d4, .int 0, .int 12])), (d4, .inl (cyO, 20, .inr (.inr (.inr (.inr (fS)))))), (r0, .inl (cyI, 20, .inl (fun _ => 0))), (l1, .inr (3, [.int 0, .ref z, .int 0])), (l2, .inr (3, [.int 0, .ref z, .int 0])), (l3, .inr (3, [.int 0, .ref z, .int 0])), (l5, .inr (3, [.int 0, .ref z, .int 0])), (l6, .inr (3, [.int 0, .ref z, .int 0])), (o2, .inl (cyD, 1, .inr (.inr (.inr (.inl (fun _ => 0)))))), (o1, .inl (cyL, 1, .inr (.inl ((fun _ => 0))))), (y0, .inr (18, [.int 1, .ref l1, .ref l2, .ref l3, .ref l4, .ref l5, .ref l6, .int 0, .int 3, .int 12, .ref m1, .ref m2, .ref m3, .ref m4, .ref m5, .ref m6]))]) H_17 := hP
  have hD : va_D A ([(a1, .inr (3, [.int 0, .ref z, .int 0])), (a2, .inr (3, [.int 0, .ref z, .int 0])), (a3, .inr (3, [.int 0, .ref z, .int 0])), (a5, .inr (3, [.int 0, .ref z, .int 0])), (a6, .inr (10, [.ref b1, .ref b2, .ref b3, .int 0])), (b1, .inl (cyA, 400, .inl (nI))), (b2, .inl (cyJ, 512, .inl (fun _ => 0))), (b3, .inl (cyT, 400, .inl (fun _ => 0))), (a7, .inr (4, [.ref d1, .ref d2, .ref d3, .ref d4, .int 0, .int 12])), (d4, .inl (cyO, 20, .inr (.inr (.inr (.inr (fS)))))), (r0, .inl (cyI, 20, .inl (fun _ => 0))), (l1, .inr (3, [.int 0, .ref z, .int 0])), (l2, .inr (3, [.int 0, .ref z, .int 0])), (l3, .inr (3, [.int 0, .ref z, .int 0])), (l5, .inr (3, [.int 0, .ref z, .int 0])), (l6, .inr (3, [.int 0, .ref z, .int 0])), (o2, .inl (cyD, 1, .inr (.inr (.inr (.inl (fun _ => 0)))))), (o1, .inl (cyL, 1, .inr (.inl ((fun _ => 0))))), (y0, .inr (18, [.int 1, .ref l1, .ref l2, .ref l3, .ref l4, .ref l5, .ref l6, .int 0, .int 3, .int 12, .ref m1, .ref m2, .ref m3, .ref m4, .ref m5, .ref m6]))]) := hD
  have hK : va_K G vwCl [(cyA, .int), (cyJ, .int), (cyT, .int), (cyO, .array .int), (cyI, .int), (cyL, .long), (cyD, .double), (cyL, .long)] s := hK
  refine W.widen (k := 136) (n := 2997) (Nat.le_of_ble_eq_true rfl) (Nat.le_of_ble_eq_true rfl) ?_
  refine lv_istore (lv' := [(7, .int r_18), (6, .int 1), (0, .ref b), (1, .ref x0), (2, .ref y0), (3, .ref o1), (4, .ref o2), (5, .int 0)]) hx hb dL_law_1635 hl (by decide) rfl (fun ls hl => ?_)
  refine lv_aload_n hx hb dL_law_1637 rfl (lv_at hl 4 rfl) ?_
  have hPc := hP.sub (ws' := [(y0, .inr (18, [.int 1, .ref l1, .ref l2, .ref l3, .ref l4, .ref l5, .ref l6, .int 0, .int 3, .int 12, .ref m1, .ref m2, .ref m3, .ref m4, .ref m5, .ref m6]))]) [18] rfl
  have hKc := hK.sub (tys' := []) [] rfl
  refine va_calli (va_runV (As := []) (rest := []) ⟨hx, hb, hml, hown, hts⟩ (k_X14_thrown l G z y0 1 l1 l2 l3 l4 l5 l6 3 12 m1 m2 m3 m4 m5 m6 H_17.size ) (cwV 0 hts (lw_goodApp (lw_4 q1236 q1237 q1238 q7) q1239) rfl rfl rfl (by decide +kernel) ⟨Nat.le_of_ble_eq_true rfl, Nat.le_of_ble_eq_true rfl⟩) ⟨PR.blind, va_recv hK hP (ci := 18) (q0 := 18) rfl rfl, PR.of hPc hKc hG hS hA [.ref y0]⟩ rfl rfl hl.1 rfl (lv_room (Nat.le_of_ble_eq_true rfl)) dL_law_1638 ⟨Nat.le_of_ble_eq_true rfl, Nat.le_of_ble_eq_true rfl⟩) hS (fun q h9 h => zN.not h9 h) (fun q h => hA q (Nat.le_trans hS.1 h)) (fun r_22 u t_24 H_21 locs ht hvm hw_23 hB hz1 hk1 hS => ?_)
  have hP := hP.grown hk1
  refine W.widen (k := 136) (n := 2997) (Nat.le_of_ble_eq_true rfl) (Nat.le_of_ble_eq_true rfl) ?_
  obtain rfl : 1 = r_22 := hw_23.symm
  refine lv_iload hx hb dL_law_1641 (lv_at hl 1 rfl) ?_
  refine lv_icmp_eq (tgt := 1648) hx hb dL_law_1643 (by decide) (fun c_25 => ?_) (fun c_25 => absurd rfl c_25)
  refine lv_iload hx hb dL_law_1648 (lv_at hl 1 rfl) ?_
  refine lv_if_ne (tgt := 1665) hx hb dL_law_1650 (by decide) (fun c_26 => ?_) (fun c_26 => absurd c_26 (by decide))
  refine lv_goto (tgt := 3288) hx hb dL_law_1665 (by decide) ?_
  exact law_tail hfl C0 hA hA2 hS (lv_sub hl [2, 7] rfl) (Nat.le_of_ble_eq_true rfl) (Nat.le_of_ble_eq_true rfl)
set_option maxHeartbeats 8000000 in
set_option maxRecDepth 100000 in
/-- script value 18 -/
theorem law_case_18 {p : Program} {l : Launch} {e : Env} {s : State} {m : MethodId} {below : List Frame} {meth : Method} {c : Code} {b : Nat} {xs : Nat → Int32} (hfl : l.stackTraces = false) (C0 : lw_At p s m meth c b 7 xs) {A : Nat → Prop} (hA : ∀ q : Nat, s.heap.size ≤ q → A q) (hA2 : ∀ q : Nat, A q → s.heap.size ≤ q) (G : va_G) (z : Nat) (hG : zG z A s s.heap) (x0 : Nat) (y0 : Nat) (o1 : Nat) (o2 : Nat) (cyL : ClassId) (cyD : ClassId) (a1 : Nat) (a2 : Nat) (a3 : Nat) (a4 : Nat) (a5 : Nat) (a6 : Nat) (a7 : Nat) (a8 : Nat) (b1 : Nat) (b2 : Nat) (b3 : Nat) (cyA : ClassId) (cyJ : ClassId) (cyT : ClassId) (d1 : Nat) (d2 : Nat) (d3 : Nat) (d4 : Nat) (cyO : ClassId) (fS : Nat → Option Nat) (cyI : ClassId) (r0 : Nat) (l1 : Nat) (l2 : Nat) (l3 : Nat) (l4 : Nat) (l5 : Nat) (l6 : Nat) (m1 : Nat) (m2 : Nat) (m3 : Nat) (m4 : Nat) (m5 : Nat) (m6 : Nat) (hf0 : fS 0 = some r0) {H : Heap} {locs : List Loc} (hP : va_P G vwCl ([(x0, .inr (12, [.ref a1, .ref a2, .ref a3, .ref a4, .ref a5, .ref a6, .ref a7, .ref a8, .int 3, .int 0])), (a1, .inr (3, [.int 0, .ref z, .int 0])), (a2, .inr (3, [.int 0, .ref z, .int 0])), (a3, .inr (3, [.int 0, .ref z, .int 0])), (a4, .inr (3, [.int 0, .ref z, .int 0])), (a5, .inr (3, [.int 0, .ref z, .int 0])), (a6, .inr (10, [.ref b1, .ref b2, .ref b3, .int 0])), (b1, .inl (cyA, 400, .inl (nI))), (b2, .inl (cyJ, 512, .inl (fun _ => 0))), (b3, .inl (cyT, 400, .inl (fun _ => 0))), (a7, .inr (4, [.ref d1, .ref d2, .ref d3, .ref d4, .int 0, .int 12])), (d4, .inl (cyO, 20, .inr (.inr (.inr (.inr (fS)))))), (r0, .inl (cyI, 20, .inl (fun _ => 0))), (y0, .inr (18, [.int 0, .ref l1, .ref l2, .ref l3, .ref l4, .ref l5, .ref l6, .int 0, .int 3, .int 12, .ref m1, .ref m2, .ref m3, .ref m4, .ref m5, .ref m6])), (l1, .inr (3, [.int 0, .ref z, .int 0])), (l2, .inr (3, [.int 0, .ref z, .int 0])), (l3, .inr (3, [.int 0, .ref z, .int 0])), (l4, .inr (3, [.int 0, .ref z, .int 0])), (l5, .inr (3, [.int 0, .ref z, .int 0])), (l6, .inr (3, [.int 0, .ref z, .int 0])), (o1, .inl (cyL, 1, .inr (.inl (fun _ => 0)))), (o2, .inl (cyD, 1, .inr (.inr (.inr (.inl (fun _ => 0))))))]) H) (hD : va_D A ([(x0, .inr (12, [.ref a1, .ref a2, .ref a3, .ref a4, .ref a5, .ref a6, .ref a7, .ref a8, .int 3, .int 0])), (a1, .inr (3, [.int 0, .ref z, .int 0])), (a2, .inr (3, [.int 0, .ref z, .int 0])), (a3, .inr (3, [.int 0, .ref z, .int 0])), (a4, .inr (3, [.int 0, .ref z, .int 0])), (a5, .inr (3, [.int 0, .ref z, .int 0])), (a6, .inr (10, [.ref b1, .ref b2, .ref b3, .int 0])), (b1, .inl (cyA, 400, .inl (nI))), (b2, .inl (cyJ, 512, .inl (fun _ => 0))), (b3, .inl (cyT, 400, .inl (fun _ => 0))), (a7, .inr (4, [.ref d1, .ref d2, .ref d3, .ref d4, .int 0, .int 12])), (d4, .inl (cyO, 20, .inr (.inr (.inr (.inr (fS)))))), (r0, .inl (cyI, 20, .inl (fun _ => 0))), (y0, .inr (18, [.int 0, .ref l1, .ref l2, .ref l3, .ref l4, .ref l5, .ref l6, .int 0, .int 3, .int 12, .ref m1, .ref m2, .ref m3, .ref m4, .ref m5, .ref m6])), (l1, .inr (3, [.int 0, .ref z, .int 0])), (l2, .inr (3, [.int 0, .ref z, .int 0])), (l3, .inr (3, [.int 0, .ref z, .int 0])), (l4, .inr (3, [.int 0, .ref z, .int 0])), (l5, .inr (3, [.int 0, .ref z, .int 0])), (l6, .inr (3, [.int 0, .ref z, .int 0])), (o1, .inl (cyL, 1, .inr (.inl (fun _ => 0)))), (o2, .inl (cyD, 1, .inr (.inr (.inr (.inl (fun _ => 0))))))])) (hK : va_K G vwCl [(cyA, .int), (cyJ, .int), (cyT, .int), (cyO, .array .int), (cyI, .int), (cyL, .long), (cyD, .double)] s) (hS : va_S A s.heap H locs) {ls : Array Slot} (hl : lv_has ls 9 [(0, .ref b), (1, .ref x0), (2, .ref y0), (3, .ref o1), (4, .ref o2), (5, .int 0)]) : W p l e room_1 s m #[Value.ref b] below meth c H locs 135 2991 (lw_Z below #[Value.ref b] s) (F0 m 1668 ls []) := by
  have C9 := C0
  obtain ⟨hx, hb, hr, hml, hown, hts0, hX, hbl, hlocks, hgv⟩ := id C0
  have hg := lw_sub_good hts0
  have hts : ∀ w ∈ (lw_hd :: lw_good), w.before #[Value.ref b] s = true := fun w h => (List.mem_cons.mp h).elim (fun e9 => e9 ▸ hg _ q0) (hg w)
  have hbA : ¬ A b := fun h => Nat.not_le.mpr hbl (hA2 b h)
  refine lv_aload_n hx hb dL_law_1668 rfl (lv_at hl 1 rfl) ?_
  refine lv_aload_n hx hb dL_law_1669 rfl (lv_at hl 0 rfl) ?_
  refine lv_iload hx hb dL_law_1670 (lv_at hl 5 rfl) ?_
  refine lv_iconst (v := 1) hx hb dL_law_1672 (by decide) ?_
  refine lv_iadd hx hb dL_law_1673 ?_
  refine lv_topi (fun f_1 ef_1 => ?_)
  obtain rfl : f_1 = 1 := ef_1.trans (by decide)
  refine va_sld hx hb hX hbl hbA hS (by unfold vp_in; decide +kernel) dL_law_1674 ?_
  refine lv_topi (fun f_2 ef_2 => ?_)
  obtain rfl : f_2 = xs 1 := ef_2
  refine lv_aload_n hx hb dL_law_1675 rfl (lv_at hl 0 rfl) ?_
  refine lv_iload hx hb dL_law_1676 (lv_at hl 5 rfl) ?_
  refine lv_iconst (v := 2) hx hb dL_law_1678 (by decide) ?_
  refine lv_iadd hx hb dL_law_1679 ?_
  refine lv_topi (fun f_3 ef_3 => ?_)
  obtain rfl : f_3 = 2 := ef_3.trans (by decide)
  refine va_sld hx hb hX hbl hbA hS (by unfold vp_in; decide +kernel) dL_law_1680 ?_
  refine lv_topi (fun f_4 ef_4 => ?_)
  obtain rfl : f_4 = xs 2 := ef_4
  refine lv_aload_n hx hb dL_law_1681 rfl (lv_at hl 3 rfl) ?_
  have hPc := hP.sub (ws' := [(x0, .inr (12, [.ref a1, .ref a2, .ref a3, .ref a4, .ref a5, .ref a6, .ref a7, .ref a8, .int 3, .int 0])), (a4, .inr (3, [.int 0, .ref z, .int 0])), (o1, .inl (cyL, 1, .inr (.inl (fun _ => 0))))]) [0, 4, 20] rfl
  have hKc := hK.sub (tys' := [(cyL, .long)]) [5] rfl
  have hDc := hD.sub (ws' := [(x0, .inr (12, [.ref a1, .ref a2, .ref a3, .ref a4, .ref a5, .ref a6, .ref a7, .ref a8, .int 3, .int 0])), (a4, .inr (3, [.int 0, .ref z, .int 0])), (o1, .inl (cyL, 1, .inr (.inl (fun _ => 0))))]) [0, 4, 20] (by decide) rfl
  have hFc := va_free (wc := [(x0, .inr (12, [.ref a1, .ref a2, .ref a3, .ref a4, .ref a5, .ref a6, .ref a7, .ref a8, .int 3, .int 0])), (a4, .inr (3, [.int 0, .ref z, .int 0])), (o1, .inl (cyL, 1, .inr (.inl (fun _ => 0))))]) hD hS hA [0, 4, 20] rfl
  refine va_calli (vx_runSW (As := [.ref x0, .int (xs 1), .int (xs 2), .ref o1]) (rest := []) ⟨hx, hb, hml, hown, hts⟩ (k_L_markIn l hfl G z x0 a1 a2 a3 a4 a5 a6 a7 a8 3 0 0 z ((xs 1)) ((xs 2)) o1 cyL (fun _ => 0) H.size ) (vx_cwSW 4 hts (lw_goodApp (lw_3 q926 q927 q0) q928) rfl rfl rfl (by decide +kernel) ⟨Nat.le_of_ble_eq_true rfl, Nat.le_of_ble_eq_true rfl⟩) ⟨PW.blind, PW.of hPc hKc hDc hG hS hFc [.ref x0, .int (xs 1), .int (xs 2), .ref o1]⟩ rfl rfl hl.1 rfl (lv_room (Nat.le_of_ble_eq_true rfl)) dL_law_1682 ⟨Nat.le_of_ble_eq_true rfl, Nat.le_of_ble_eq_true rfl⟩) hS (fun q _ h => hFc q h) hFc (fun r_6 u t_8 H_5 locs ht hvm hw_7 hB hz1 hk1 hS => ?_)
  obtain ⟨hP, hD, hK⟩ := QW.join (wr := [(a1, .inr (3, [.int 0, .ref z, .int 0])), (a2, .inr (3, [.int 0, .ref z, .int 0])), (a3, .inr (3, [.int 0, .ref z, .int 0])), (a5, .inr (3, [.int 0, .ref z, .int 0])), (a6, .inr (10, [.ref b1, .ref b2, .ref b3, .int 0])), (b1, .inl (cyA, 400, .inl (nI))), (b2, .inl (cyJ, 512, .inl (fun _ => 0))), (b3, .inl (cyT, 400, .inl (fun _ => 0))), (a7, .inr (4, [.ref d1, .ref d2, .ref d3, .ref d4, .int 0, .int 12])), (d4, .inl (cyO, 20, .inr (.inr (.inr (.inr (fS)))))), (r0, .inl (cyI, 20, .inl (fun _ => 0))), (y0, .inr (18, [.int 0, .ref l1, .ref l2, .ref l3, .ref l4, .ref l5, .ref l6, .int 0, .int 3, .int 12, .ref m1, .ref m2, .ref m3, .ref m4, .ref m5, .ref m6])), (l1, .inr (3, [.int 0, .ref z, .int 0])), (l2, .inr (3, [.int 0, .ref z, .int 0])), (l3, .inr (3, [.int 0, .ref z, .int 0])), (l4, .inr (3, [.int 0, .ref z, .int 0])), (l5, .inr (3, [.int 0, .ref z, .int 0])), (l6, .inr (3, [.int 0, .ref z, .int 0])), (o2, .inl (cyD, 1, .inr (.inr (.inr (.inl (fun _ => 0))))))]) (w1 := [(o1, .inl (cyL, 1, .inr (.inl ((fun _ => 0)))))]) hP hD hK [0, 4, 20] [1, 2, 3, 5, 6, 7, 8, 9, 10, 11, 12, 13, 14, 15, 16, 17, 18, 19, 21] rfl rfl (by decide) (by decide) hk1 hFc ht hvm hB
  have hP : va_P G vwCl ([(a1, .inr (3, [.int 0, .ref z, .int 0])), (a2, .inr (3, [.int 0, .ref z, .int 0])), (a3, .inr (3, [.int 0, .ref z, .int 0])), (a5, .inr (3, [.int 0, .ref z, .int 0])), (a6, .inr (10, [.ref b1, .ref b2, .ref b3, .int 0])), (b1, .inl (cyA, 400, .inl (nI))), (b2, .inl (cyJ, 512, .inl (fun _ => 0))), (b3, .inl (cyT, 400, .inl (fun _ => 0))), (a7, .inr (4, [.ref d1, .ref d2, .ref d3, .ref d4, .int 0, .int 12])), (d4, .inl (cyO, 20, .inr (.inr (.inr (.inr (fS)))))), (r0, .inl (cyI, 20, .inl (fun _ => 0))), (y0, .inr (18, [.int 0, .ref l1, .ref l2, .ref l3, .ref l4, .ref l5, .ref l6, .int 0, .int 3, .int 12, .ref m1, .ref m2, .ref m3, .ref m4, .ref m5, .ref m6])), (l1, .inr (3, [.int 0, .ref z, .int 0])), (l2, .inr (3, [.int 0, .ref z, .int 0])), (l3, .inr (3, [.int 0, .ref z, .int 0])), (l4, .inr (3, [.int 0, .ref z, .int 0])), (l5, .inr (3, [.int 0, .ref z, .int 0])), (l6, .inr (3, [.int 0, .ref z, .int 0])), (o2, .inl (cyD, 1, .inr (.inr (.inr (.inl (fun _ => 0)))))), (o1, .inl (cyL, 1, .inr (.inl ((fun _ => 0)))))]) H_5 := hP
  have hD : va_D A ([(a1, .inr (3, [.int 0, .ref z, .int 0])), (a2, .inr (3, [.int 0, .ref z, .int 0])), (a3, .inr (3, [.int 0, .ref z, .int 0])), (a5, .inr (3, [.int 0, .ref z, .int 0])), (a6, .inr (10, [.ref b1, .ref b2, .ref b3, .int 0])), (b1, .inl (cyA, 400, .inl (nI))), (b2, .inl (cyJ, 512, .inl (fun _ => 0))), (b3, .inl (cyT, 400, .inl (fun _ => 0))), (a7, .inr (4, [.ref d1, .ref d2, .ref d3, .ref d4, .int 0, .int 12])), (d4, .inl (cyO, 20, .inr (.inr (.inr (.inr (fS)))))), (r0, .inl (cyI, 20, .inl (fun _ => 0))), (y0, .inr (18, [.int 0, .ref l1, .ref l2, .ref l3, .ref l4, .ref l5, .ref l6, .int 0, .int 3, .int 12, .ref m1, .ref m2, .ref m3, .ref m4, .ref m5, .ref m6])), (l1, .inr (3, [.int 0, .ref z, .int 0])), (l2, .inr (3, [.int 0, .ref z, .int 0])), (l3, .inr (3, [.int 0, .ref z, .int 0])), (l4, .inr (3, [.int 0, .ref z, .int 0])), (l5, .inr (3, [.int 0, .ref z, .int 0])), (l6, .inr (3, [.int 0, .ref z, .int 0])), (o2, .inl (cyD, 1, .inr (.inr (.inr (.inl (fun _ => 0)))))), (o1, .inl (cyL, 1, .inr (.inl ((fun _ => 0)))))]) := hD
  have hK : va_K G vwCl [(cyA, .int), (cyJ, .int), (cyT, .int), (cyO, .array .int), (cyI, .int), (cyL, .long), (cyD, .double), (cyL, .long)] s := hK
  refine W.widen (k := 136) (n := 2997) (Nat.le_of_ble_eq_true rfl) (Nat.le_of_ble_eq_true rfl) ?_
  obtain rfl : 1 = r_6 := hw_7.symm
  refine lv_istore (lv' := [(6, .int 1), (0, .ref b), (1, .ref x0), (2, .ref y0), (3, .ref o1), (4, .ref o2), (5, .int 0)]) hx hb dL_law_1685 hl (by decide) rfl (fun ls hl => ?_)
  refine lv_aload_n hx hb dL_law_1687 rfl (lv_at hl 3 rfl) ?_
  refine lv_aload_n hx hb dL_law_1688 rfl (lv_at hl 1 rfl) ?_
  refine lv_iload hx hb dL_law_1689 (lv_at hl 6 rfl) ?_
  refine lv_iconst (v := 1) hx hb dL_law_1691 (by decide) ?_
  refine lv_iadd hx hb dL_law_1692 ?_
  refine lv_topi (fun f_9 ef_9 => ?_)
  obtain rfl : f_9 = 1 := ef_9.trans (by decide)
  refine va_sld hx hb hX hbl hbA hS (by unfold vp_in; decide +kernel) dL_law_1693 ?_
  refine lv_topi (fun f_10 ef_10 => ?_)
  obtain rfl : f_10 = xs 1 := ef_10
  refine lv_aload_n hx hb dL_law_1694 rfl (lv_at hl 1 rfl) ?_
  refine lv_iload hx hb dL_law_1695 (lv_at hl 6 rfl) ?_
  refine lv_iconst (v := 2) hx hb dL_law_1697 (by decide) ?_
  refine lv_iadd hx hb dL_law_1698 ?_
  refine lv_topi (fun f_11 ef_11 => ?_)
  obtain rfl : f_11 = 2 := ef_11.trans (by decide)
  refine va_sld hx hb hX hbl hbA hS (by unfold vp_in; decide +kernel) dL_law_1699 ?_
  refine lv_topi (fun f_12 ef_12 => ?_)
  obtain rfl : f_12 = xs 2 := ef_12
  have hPc := hP.sub (ws' := [(y0, .inr (18, [.int 0, .ref l1, .ref l2, .ref l3, .ref l4, .ref l5, .ref l6, .int 0, .int 3, .int 12, .ref m1, .ref m2, .ref m3, .ref m4, .ref m5, .ref m6])), (l4, .inr (3, [.int 0, .ref z, .int 0]))]) [11, 15] rfl
  have hKc := hK.sub (tys' := []) [] rfl
  have hDc := hD.sub (ws' := [(y0, .inr (18, [.int 0, .ref l1, .ref l2, .ref l3, .ref l4, .ref l5, .ref l6, .int 0, .int 3, .int 12, .ref m1, .ref m2, .ref m3, .ref m4, .ref m5, .ref m6])), (l4, .inr (3, [.int 0, .ref z, .int 0]))]) [11, 15] (by decide) rfl
  have hFc := va_free (wc := [(y0, .inr (18, [.int 0, .ref l1, .ref l2, .ref l3, .ref l4, .ref l5, .ref l6, .int 0, .int 3, .int 12, .ref m1, .ref m2, .ref m3, .ref m4, .ref m5, .ref m6])), (l4, .inr (3, [.int 0, .ref z, .int 0]))]) hD hS hA [11, 15] rfl
  refine va_calli (va_runV (As := [.int (xs 1), .int (xs 2)]) (rest := []) ⟨hx, hb, hml, hown, hts⟩ (k_X14_markIn l G z y0 0 l1 l2 l3 l4 l5 l6 3 12 m1 m2 m3 m4 m5 m6 0 z ((xs 1)) ((xs 2)) H_5.size ) (cwV 2 hts (lw_goodApp (lw_4 q1572 q1573 q1574 q7) q1575) rfl rfl rfl (by decide +kernel) ⟨Nat.le_of_ble_eq_true rfl, Nat.le_of_ble_eq_true rfl⟩) ⟨PW.blind, va_recv hK hP (ci := 18) (q0 := 11) rfl rfl, PW.of hPc hKc hDc hG hS hFc [.ref y0, .int (xs 1), .int (xs 2)]⟩ rfl rfl hl.1 rfl (lv_room (Nat.le_of_ble_eq_true rfl)) dL_law_1700 ⟨Nat.le_of_ble_eq_true rfl, Nat.le_of_ble_eq_true rfl⟩) hS (fun q _ h => hFc q h) hFc (fun r_14 u t_16 H_13 locs ht hvm hw_15 hB hz1 hk1 hS => ?_)
  obtain ⟨hP, hD, hK⟩ := QW.join (wr := [(a1, .inr (3, [.int 0, .ref z, .int 0])), (a2, .inr (3, [.int 0, .ref z, .int 0])), (a3, .inr (3, [.int 0, .ref z, .int 0])), (a5, .inr (3, [.int 0, .ref z, .int 0])), (a6, .inr (10, [.ref b1, .ref b2, .ref b3, .int 0])), (b1, .inl (cyA, 400, .inl (nI))), (b2, .inl (cyJ, 512, .inl (fun _ => 0))), (b3, .inl (cyT, 400, .inl (fun _ => 0))), (a7, .inr (4, [.ref d1, .ref d2, .ref d3, .ref d4, .int 0, .int 12])), (d4, .inl (cyO, 20, .inr (.inr (.inr (.inr (fS)))))), (r0, .inl (cyI, 20, .inl (fun _ => 0))), (l1, .inr (3, [.int 0, .ref z, .int 0])), (l2, .inr (3, [.int 0, .ref z, .int 0])), (l3, .inr (3, [.int 0, .ref z, .int 0])), (l5, .inr (3, [.int 0, .ref z, .int 0])), (l6, .inr (3, [.int 0, .ref z, .int 0])), (o2, .inl (cyD, 1, .inr (.inr (.inr (.inl (fun _ => 0)))))), (o1, .inl (cyL, 1, .inr (.inl ((fun _ => 0)))))]) (w1 := [(y0, .inr (18, [.int 1, .ref l1, .ref l2, .ref l3, .ref l4, .ref l5, .ref l6, .int 0, .int 3, .int 12, .ref m1, .ref m2, .ref m3, .ref m4, .ref m5, .ref m6]))]) hP hD hK [11, 15] [0, 1, 2, 3, 4, 5, 6, 7, 8, 9, 10, 12, 13, 14, 16, 17, 18, 19] rfl rfl (by decide) (by decide) hk1 hFc ht hvm hB
  have hP : va_P G vwCl ([(a1, .inr (3, [.int 0, .ref z, .int 0])), (a2, .inr (3, [.int 0, .ref z, .int 0])), (a3, .inr (3, [.int 0, .ref z, .int 0])), (a5, .inr (3, [.int 0, .ref z, .int 0])), (a6, .inr (10, [.ref b1, .ref b2, .ref b3, .int 0])), (b1, .inl (cyA, 400, .inl (nI))), (b2, .inl (cyJ, 512, .inl (fun _ => 0))), (b3, .inl (cyT, 400, .inl (fun _ => 0))), (a7, .inr (4, [.ref d1, .ref d2, .ref d3, .ref d4, .int 0, .int 12])), (d4, .inl (cyO, 20, .inr (.inr (.inr (.inr (fS)))))), (r0, .inl (cyI, 20, .inl (fun _ => 0))), (l1, .inr (3, [.int 0, .ref z, .int 0])), (l2, .inr (3, [.int 0, .ref z, .int 0])), (l3, .inr (3, [.int 0, .ref z, .int 0])), (l5, .inr (3, [.int 0, .ref z, .int 0])), (l6, .inr (3, [.int 0, .ref z, .int 0])), (o2, .inl (cyD, 1, .inr (.inr (.inr (.inl (fun _ => 0)))))), (o1, .inl (cyL, 1, .inr (.inl ((fun _ => 0))))), (y0, .inr (18, [.int 1, .ref l1, .ref l2, .ref l3, .ref l4, .ref l5, .ref l6, .int 0, .int 3, .int 12, .ref m1, .ref m2, .ref m3, .ref m4, .ref m5, .ref m6]))]) H_13 := hP
  have hD : va_D A ([(a1, .inr (3, [.int 0, .ref z, .int 0])), (a2, .inr (3, [.int 0, .ref z, .int 0])), (a3, .inr (3, [.int 0, .ref z, .int 0])), (a5, .inr (3, [.int 0, .ref z, .int 0])), (a6, .inr (10, [.ref b1, .ref b2, .ref b3, .int 0])), (b1, .inl (cyA, 400, .inl (nI))), (b2, .inl (cyJ, 512, .inl (fun _ => 0))), (b3, .inl (cyT, 400, .inl (fun _ => 0))), (a7, .inr (4, [.ref d1, .ref d2, .ref d3, .ref d4, .int 0, .int 12])), (d4, .inl (cyO, 20, .inr (.inr (.inr (.inr (fS)))))), (r0, .inl (cyI, 20, .inl (fun _ => 0))), (l1, .inr (3, [.int 0, .ref z, .int 0])), (l2, .inr (3, [.int 0, .ref z, .int 0])), (l3, .inr (3, [.int 0, .ref z, .int 0])), (l5, .inr (3, [.int 0, .ref z, .int 0])), (l6, .inr (3, [.int 0, .ref z, .int 0])), (o2, .inl (cyD, 1, .inr (.inr (.inr (.inl (fun _ => 0)))))), (o1, .inl (cyL, 1, .inr (.inl ((fun _ => 0))))), (y0, .inr (18, [.int 1, .ref l1, .ref l2, .ref l3, .ref l4, .ref l5, .ref l6, .int 0, .int 3, .int 12, .ref m1, .ref m2, .ref m3, .ref m4, .ref m5, .ref m6]))]) := hD
  have hK : va_K G vwCl [(cyA, .int), (cyJ, .int), (cyT, .int), (cyO, .array .int), (cyI, .int), (cyL, .long), (cyD, .double), (cyL, .long)] s := hK
  refine W.widen (k := 136) (n := 2997) (Nat.le_of_ble_eq_true rfl) (Nat.le_of_ble_eq_true rfl) ?_
  refine lv_istore (lv' := [(7, .int r_14), (6, .int 1), (0, .ref b), (1, .ref x0), (2, .ref y0), (3, .ref o1), (4, .ref o2), (5, .int 0)]) hx hb dL_law_1703 hl (by decide) rfl (fun ls hl => ?_)
  refine lv_aload_n hx hb dL_law_1705 rfl (lv_at hl 4 rfl) ?_
  have hPc := hP.sub (ws' := [(y0, .inr (18, [.int 1, .ref l1, .ref l2, .ref l3, .ref l4, .ref l5, .ref l6, .int 0, .int 3, .int 12, .ref m1, .ref m2, .ref m3, .ref m4, .ref m5, .ref m6]))]) [18] rfl
  have hKc := hK.sub (tys' := []) [] rfl
  refine va_calli (va_runV (As := []) (rest := []) ⟨hx, hb, hml, hown, hts⟩ (k_X14_thrown l G z y0 1 l1 l2 l3 l4 l5 l6 3 12 m1 m2 m3 m4 m5 m6 H_13.size ) (cwV 0 hts (lw_goodApp (lw_4 q1236 q1237 q1238 q7) q1239) rfl rfl rfl (by decide +kernel) ⟨Nat.le_of_ble_eq_true rfl, Nat.le_of_ble_eq_true rfl⟩) ⟨PR.blind, va_recv hK hP (ci := 18) (q0 := 18) rfl rfl, PR.of hPc hKc hG hS hA [.ref y0]⟩ rfl rfl hl.1 rfl (lv_room (Nat.le_of_ble_eq_true rfl)) dL_law_1706 ⟨Nat.le_of_ble_eq_true rfl, Nat.le_of_ble_eq_true rfl⟩) hS (fun q h9 h => zN.not h9 h) (fun q h => hA q (Nat.le_trans hS.1 h)) (fun r_18 u t_20 H_17 locs ht hvm hw_19 hB hz1 hk1 hS => ?_)
  have hP := hP.grown hk1
  refine W.widen (k := 136) (n := 2997) (Nat.le_of_ble_eq_true rfl) (Nat.le_of_ble_eq_true rfl) ?_
  obtain rfl : 1 = r_18 := hw_19.symm
  refine lv_iload hx hb dL_law_1709 (lv_at hl 1 rfl) ?_
  refine lv_icmp_eq (tgt := 1716) hx hb dL_law_1711 (by decide) (fun c_21 => ?_) (fun c_21 => absurd rfl c_21)
  refine lv_iload hx hb dL_law_1716 (lv_at hl 1 rfl) ?_
  refine lv_if_ne (tgt := 1733) hx hb dL_law_1718 (by decide) (fun c_22 => ?_) (fun c_22 => absurd c_22 (by decide))
  refine lv_goto (tgt := 3288) hx hb dL_law_1733 (by decide) ?_
  exact law_tail hfl C0 hA hA2 hS (lv_sub hl [2, 7] rfl) (Nat.le_of_ble_eq_true rfl) (Nat.le_of_ble_eq_true rfl)
set_option maxHeartbeats 8000000 in
set_option maxRecDepth 100000 in
/-- script value 19 -/
theorem law_case_19 {p : Program} {l : Launch} {e : Env} {s : State} {m : MethodId} {below : List Frame} {meth : Method} {c : Code} {b : Nat} {xs : Nat → Int32} (hfl : l.stackTraces = false) (C0 : lw_At p s m meth c b 7 xs) {A : Nat → Prop} (hA : ∀ q : Nat, s.heap.size ≤ q → A q) (hA2 : ∀ q : Nat, A q → s.heap.size ≤ q) (G : va_G) (z : Nat) (hG : zG z A s s.heap) (x0 : Nat) (y0 : Nat) (o1 : Nat) (o2 : Nat) (cyL : ClassId) (cyD : ClassId) (a1 : Nat) (a2 : Nat) (a3 : Nat) (a4 : Nat) (a5 : Nat) (a6 : Nat) (a7 : Nat) (a8 : Nat) (b1 : Nat) (b2 : Nat) (b3 : Nat) (cyA : ClassId) (cyJ : ClassId) (cyT : ClassId) (d1 : Nat) (d2 : Nat) (d3 : Nat) (d4 : Nat) (cyO : ClassId) (fS : Nat → Option Nat) (cyI : ClassId) (r0 : Nat) (l1 : Nat) (l2 : Nat) (l3 : Nat) (l4 : Nat) (l5 : Nat) (l6 : Nat) (m1 : Nat) (m2 : Nat) (m3 : Nat) (m4 : Nat) (m5 : Nat) (m6 : Nat) (hf0 : fS 0 = some r0) {H : Heap} {locs : List Loc} (hP : va_P G vwCl ([(x0, .inr (12, [.ref a1, .ref a2, .ref a3, .ref a4, .ref a5, .ref a6, .ref a7, .ref a8, .int 3, .int 0])), (a1, .inr (3, [.int 0, .ref z, .int 0])), (a2, .inr (3, [.int 0, .ref z, .int 0])), (a3, .inr (3, [.int 0, .ref z, .int 0])), (a4, .inr (3, [.int 0, .ref z, .int 0])), (a5, .inr (3, [.int 0, .ref z, .int 0])), (a6, .inr (10, [.ref b1, .ref b2, .ref b3, .int 0])), (b1, .inl (cyA, 400, .inl (nI))), (b2, .inl (cyJ, 512, .inl (fun _ => 0))), (b3, .inl (cyT, 400, .inl (fun _ => 0))), (a7, .inr (4, [.ref d1, .ref d2, .ref d3, .ref d4, .int 0, .int 12])), (d4, .inl (cyO, 20, .inr (.inr (.inr (.inr (fS)))))), (r0, .inl (cyI, 20, .inl (fun _ => 0))), (y0, .inr (18, [.int 0, .ref l1, .ref l2, .ref l3, .ref l4, .ref l5, .ref l6, .int 0, .int 3, .int 12, .ref m1, .ref m2, .ref m3, .ref m4, .ref m5, .ref m6])), (l1, .inr (3, [.int 0, .ref z, .int 0])), (l2, .inr (3, [.int 0, .ref z, .int 0])), (l3, .inr (3, [.int 0, .ref z, .int 0])), (l4, .inr (3, [.int 0, .ref z, .int 0])), (l5, .inr (3, [.int 0, .ref z, .int 0])), (l6, .inr (3, [.int 0, .ref z, .int 0])), (o1, .inl (cyL, 1, .inr (.inl (fun _ => 0)))), (o2, .inl (cyD, 1, .inr (.inr (.inr (.inl (fun _ => 0))))))]) H) (hD : va_D A ([(x0, .inr (12, [.ref a1, .ref a2, .ref a3, .ref a4, .ref a5, .ref a6, .ref a7, .ref a8, .int 3, .int 0])), (a1, .inr (3, [.int 0, .ref z, .int 0])), (a2, .inr (3, [.int 0, .ref z, .int 0])), (a3, .inr (3, [.int 0, .ref z, .int 0])), (a4, .inr (3, [.int 0, .ref z, .int 0])), (a5, .inr (3, [.int 0, .ref z, .int 0])), (a6, .inr (10, [.ref b1, .ref b2, .ref b3, .int 0])), (b1, .inl (cyA, 400, .inl (nI))), (b2, .inl (cyJ, 512, .inl (fun _ => 0))), (b3, .inl (cyT, 400, .inl (fun _ => 0))), (a7, .inr (4, [.ref d1, .ref d2, .ref d3, .ref d4, .int 0, .int 12])), (d4, .inl (cyO, 20, .inr (.inr (.inr (.inr (fS)))))), (r0, .inl (cyI, 20, .inl (fun _ => 0))), (y0, .inr (18, [.int 0, .ref l1, .ref l2, .ref l3, .ref l4, .ref l5, .ref l6, .int 0, .int 3, .int 12, .ref m1, .ref m2, .ref m3, .ref m4, .ref m5, .ref m6])), (l1, .inr (3, [.int 0, .ref z, .int 0])), (l2, .inr (3, [.int 0, .ref z, .int 0])), (l3, .inr (3, [.int 0, .ref z, .int 0])), (l4, .inr (3, [.int 0, .ref z, .int 0])), (l5, .inr (3, [.int 0, .ref z, .int 0])), (l6, .inr (3, [.int 0, .ref z, .int 0])), (o1, .inl (cyL, 1, .inr (.inl (fun _ => 0)))), (o2, .inl (cyD, 1, .inr (.inr (.inr (.inl (fun _ => 0))))))])) (hK : va_K G vwCl [(cyA, .int), (cyJ, .int), (cyT, .int), (cyO, .array .int), (cyI, .int), (cyL, .long), (cyD, .double)] s) (hS : va_S A s.heap H locs) {ls : Array Slot} (hl : lv_has ls 9 [(0, .ref b), (1, .ref x0), (2, .ref y0), (3, .ref o1), (4, .ref o2), (5, .int 0)]) : W p l e room_1 s m #[Value.ref b] below meth c H locs 135 2991 (lw_Z below #[Value.ref b] s) (F0 m 1736 ls []) := by
  have C9 := C0
  obtain ⟨hx, hb, hr, hml, hown, hts0, hX, hbl, hlocks, hgv⟩ := id C0
  have hg := lw_sub_good hts0
  have hts : ∀ w ∈ (lw_hd :: lw_good), w.before #[Value.ref b] s = true := fun w h => (List.mem_cons.mp h).elim (fun e9 => e9 ▸ hg _ q0) (hg w)
  have hbA : ¬ A b := fun h => Nat.not_le.mpr hbl (hA2 b h)
  refine lv_aload_n hx hb dL_law_1736 rfl (lv_at hl 1 rfl) ?_
  refine lv_aload_n hx hb dL_law_1737 rfl (lv_at hl 0 rfl) ?_
  refine lv_iload hx hb dL_law_1738 (lv_at hl 5 rfl) ?_
  refine lv_iconst (v := 1) hx hb dL_law_1740 (by decide) ?_
  refine lv_iadd hx hb dL_law_1741 ?_
  refine lv_topi (fun f_1 ef_1 => ?_)
  obtain rfl : f_1 = 1 := ef_1.trans (by decide)
  refine va_sld hx hb hX hbl hbA hS (by unfold vp_in; decide +kernel) dL_law_1742 ?_
  refine lv_topi (fun f_2 ef_2 => ?_)
  obtain rfl : f_2 = xs 1 := ef_2
  refine lv_aload_n hx hb dL_law_1743 rfl (lv_at hl 0 rfl) ?_
  refine lv_iload hx hb dL_law_1744 (lv_at hl 5 rfl) ?_
  refine lv_iconst (v := 2) hx hb dL_law_1746 (by decide) ?_
  refine lv_iadd hx hb dL_law_1747 ?_
  refine lv_topi (fun f_3 ef_3 => ?_)
  obtain rfl : f_3 = 2 := ef_3.trans (by decide)
  refine va_sld hx hb hX hbl hbA hS (by unfold vp_in; decide +kernel) dL_law_1748 ?_
  refine lv_topi (fun f_4 ef_4 => ?_)
  obtain rfl : f_4 = xs 2 := ef_4
  refine lv_aload_n hx hb dL_law_1749 rfl (lv_at hl 3 rfl) ?_
  have hPc := hP.sub (ws' := [(x0, .inr (12, [.ref a1, .ref a2, .ref a3, .ref a4, .ref a5, .ref a6, .ref a7, .ref a8, .int 3, .int 0])), (a4, .inr (3, [.int 0, .ref z, .int 0])), (o1, .inl (cyL, 1, .inr (.inl (fun _ => 0))))]) [0, 4, 20] rfl
  have hKc := hK.sub (tys' := [(cyL, .long)]) [5] rfl
  have hDc := hD.sub (ws' := [(x0, .inr (12, [.ref a1, .ref a2, .ref a3, .ref a4, .ref a5, .ref a6, .ref a7, .ref a8, .int 3, .int 0])), (a4, .inr (3, [.int 0, .ref z, .int 0])), (o1, .inl (cyL, 1, .inr (.inl (fun _ => 0))))]) [0, 4, 20] (by decide) rfl
  have hFc := va_free (wc := [(x0, .inr (12, [.ref a1, .ref a2, .ref a3, .ref a4, .ref a5, .ref a6, .ref a7, .ref a8, .int 3, .int 0])), (a4, .inr (3, [.int 0, .ref z, .int 0])), (o1, .inl (cyL, 1, .inr (.inl (fun _ => 0))))]) hD hS hA [0, 4, 20] rfl
  refine va_calli (vx_runSW (As := [.ref x0, .int (xs 1), .int (xs 2), .ref o1]) (rest := []) ⟨hx, hb, hml, hown, hts⟩ (k_L_conjugate l hfl G z x0 a1 a2 a3 a4 a5 a6 a7 a8 3 0 0 z ((xs 1)) ((xs 2)) o1 cyL (fun _ => 0) H.size ) (vx_cwSW 4 hts (lw_goodApp (lw_3 q933 q934 q0) q935) rfl rfl rfl (by decide +kernel) ⟨Nat.le_of_ble_eq_true rfl, Nat.le_of_ble_eq_true rfl⟩) ⟨PW.blind, PW.of hPc hKc hDc hG hS hFc [.ref x0, .int (xs 1), .int (xs 2), .ref o1]⟩ rfl rfl hl.1 rfl (lv_room (Nat.le_of_ble_eq_true rfl)) dL_law_1750 ⟨Nat.le_of_ble_eq_true rfl, Nat.le_of_ble_eq_true rfl⟩) hS (fun q _ h => hFc q h) hFc (fun r_6 u t_8 H_5 locs ht hvm hw_7 hB hz1 hk1 hS => ?_)
  obtain ⟨hP, hD, hK⟩ := QW.join (wr := [(a1, .inr (3, [.int 0, .ref z, .int 0])), (a2, .inr (3, [.int 0, .ref z, .int 0])), (a3, .inr (3, [.int 0, .ref z, .int 0])), (a5, .inr (3, [.int 0, .ref z, .int 0])), (a6, .inr (10, [.ref b1, .ref b2, .ref b3, .int 0])), (b1, .inl (cyA, 400, .inl (nI))), (b2, .inl (cyJ, 512, .inl (fun _ => 0))), (b3, .inl (cyT, 400, .inl (fun _ => 0))), (a7, .inr (4, [.ref d1, .ref d2, .ref d3, .ref d4, .int 0, .int 12])), (d4, .inl (cyO, 20, .inr (.inr (.inr (.inr (fS)))))), (r0, .inl (cyI, 20, .inl (fun _ => 0))), (y0, .inr (18, [.int 0, .ref l1, .ref l2, .ref l3, .ref l4, .ref l5, .ref l6, .int 0, .int 3, .int 12, .ref m1, .ref m2, .ref m3, .ref m4, .ref m5, .ref m6])), (l1, .inr (3, [.int 0, .ref z, .int 0])), (l2, .inr (3, [.int 0, .ref z, .int 0])), (l3, .inr (3, [.int 0, .ref z, .int 0])), (l4, .inr (3, [.int 0, .ref z, .int 0])), (l5, .inr (3, [.int 0, .ref z, .int 0])), (l6, .inr (3, [.int 0, .ref z, .int 0])), (o2, .inl (cyD, 1, .inr (.inr (.inr (.inl (fun _ => 0))))))]) (w1 := [(o1, .inl (cyL, 1, .inr (.inl ((fun _ => 0)))))]) hP hD hK [0, 4, 20] [1, 2, 3, 5, 6, 7, 8, 9, 10, 11, 12, 13, 14, 15, 16, 17, 18, 19, 21] rfl rfl (by decide) (by decide) hk1 hFc ht hvm hB
  have hP : va_P G vwCl ([(a1, .inr (3, [.int 0, .ref z, .int 0])), (a2, .inr (3, [.int 0, .ref z, .int 0])), (a3, .inr (3, [.int 0, .ref z, .int 0])), (a5, .inr (3, [.int 0, .ref z, .int 0])), (a6, .inr (10, [.ref b1, .ref b2, .ref b3, .int 0])), (b1, .inl (cyA, 400, .inl (nI))), (b2, .inl (cyJ, 512, .inl (fun _ => 0))), (b3, .inl (cyT, 400, .inl (fun _ => 0))), (a7, .inr (4, [.ref d1, .ref d2, .ref d3, .ref d4, .int 0, .int 12])), (d4, .inl (cyO, 20, .inr (.inr (.inr (.inr (fS)))))), (r0, .inl (cyI, 20, .inl (fun _ => 0))), (y0, .inr (18, [.int 0, .ref l1, .ref l2, .ref l3, .ref l4, .ref l5, .ref l6, .int 0, .int 3, .int 12, .ref m1, .ref m2, .ref m3, .ref m4, .ref m5, .ref m6])), (l1, .inr (3, [.int 0, .ref z, .int 0])), (l2, .inr (3, [.int 0, .ref z, .int 0])), (l3, .inr (3, [.int 0, .ref z, .int 0])), (l4, .inr (3, [.int 0, .ref z, .int 0])), (l5, .inr (3, [.int 0, .ref z, .int 0])), (l6, .inr (3, [.int 0, .ref z, .int 0])), (o2, .inl (cyD, 1, .inr (.inr (.inr (.inl (fun _ => 0)))))), (o1, .inl (cyL, 1, .inr (.inl ((fun _ => 0)))))]) H_5 := hP
  have hD : va_D A ([(a1, .inr (3, [.int 0, .ref z, .int 0])), (a2, .inr (3, [.int 0, .ref z, .int 0])), (a3, .inr (3, [.int 0, .ref z, .int 0])), (a5, .inr (3, [.int 0, .ref z, .int 0])), (a6, .inr (10, [.ref b1, .ref b2, .ref b3, .int 0])), (b1, .inl (cyA, 400, .inl (nI))), (b2, .inl (cyJ, 512, .inl (fun _ => 0))), (b3, .inl (cyT, 400, .inl (fun _ => 0))), (a7, .inr (4, [.ref d1, .ref d2, .ref d3, .ref d4, .int 0, .int 12])), (d4, .inl (cyO, 20, .inr (.inr (.inr (.inr (fS)))))), (r0, .inl (cyI, 20, .inl (fun _ => 0))), (y0, .inr (18, [.int 0, .ref l1, .ref l2, .ref l3, .ref l4, .ref l5, .ref l6, .int 0, .int 3, .int 12, .ref m1, .ref m2, .ref m3, .ref m4, .ref m5, .ref m6])), (l1, .inr (3, [.int 0, .ref z, .int 0])), (l2, .inr (3, [.int 0, .ref z, .int 0])), (l3, .inr (3, [.int 0, .ref z, .int 0])), (l4, .inr (3, [.int 0, .ref z, .int 0])), (l5, .inr (3, [.int 0, .ref z, .int 0])), (l6, .inr (3, [.int 0, .ref z, .int 0])), (o2, .inl (cyD, 1, .inr (.inr (.inr (.inl (fun _ => 0)))))), (o1, .inl (cyL, 1, .inr (.inl ((fun _ => 0)))))]) := hD
  have hK : va_K G vwCl [(cyA, .int), (cyJ, .int), (cyT, .int), (cyO, .array .int), (cyI, .int), (cyL, .long), (cyD, .double), (cyL, .long)] s := hK
  refine W.widen (k := 136) (n := 2997) (Nat.le_of_ble_eq_true rfl) (Nat.le_of_ble_eq_true rfl) ?_
  obtain rfl : 1 = r_6 := hw_7.symm
  refine lv_istore (lv' := [(6, .int 1), (0, .ref b), (1, .ref x0), (2, .ref y0), (3, .ref o1), (4, .ref o2), (5, .int 0)]) hx hb dL_law_1753 hl (by decide) rfl (fun ls hl => ?_)
  refine lv_aload_n hx hb dL_law_1755 rfl (lv_at hl 3 rfl) ?_
  refine lv_aload_n hx hb dL_law_1756 rfl (lv_at hl 1 rfl) ?_
  refine lv_iload hx hb dL_law_1757 (lv_at hl 6 rfl) ?_
  refine lv_iconst (v := 1) hx hb dL_law_1759 (by decide) ?_
  refine lv_iadd hx hb dL_law_1760 ?_
  refine lv_topi (fun f_9 ef_9 => ?_)
  obtain rfl : f_9 = 1 := ef_9.trans (by decide)
  refine va_sld hx hb hX hbl hbA hS (by unfold vp_in; decide +kernel) dL_law_1761 ?_
  refine lv_topi (fun f_10 ef_10 => ?_)
  obtain rfl : f_10 = xs 1 := ef_10
  refine lv_aload_n hx hb dL_law_1762 rfl (lv_at hl 1 rfl) ?_
  refine lv_iload hx hb dL_law_1763 (lv_at hl 6 rfl) ?_
  refine lv_iconst (v := 2) hx hb dL_law_1765 (by decide) ?_
  refine lv_iadd hx hb dL_law_1766 ?_
  refine lv_topi (fun f_11 ef_11 => ?_)
  obtain rfl : f_11 = 2 := ef_11.trans (by decide)
  refine va_sld hx hb hX hbl hbA hS (by unfold vp_in; decide +kernel) dL_law_1767 ?_
  refine lv_topi (fun f_12 ef_12 => ?_)
  obtain rfl : f_12 = xs 2 := ef_12
  have hPc := hP.sub (ws' := [(y0, .inr (18, [.int 0, .ref l1, .ref l2, .ref l3, .ref l4, .ref l5, .ref l6, .int 0, .int 3, .int 12, .ref m1, .ref m2, .ref m3, .ref m4, .ref m5, .ref m6])), (l4, .inr (3, [.int 0, .ref z, .int 0]))]) [11, 15] rfl
  have hKc := hK.sub (tys' := []) [] rfl
  have hDc := hD.sub (ws' := [(y0, .inr (18, [.int 0, .ref l1, .ref l2, .ref l3, .ref l4, .ref l5, .ref l6, .int 0, .int 3, .int 12, .ref m1, .ref m2, .ref m3, .ref m4, .ref m5, .ref m6])), (l4, .inr (3, [.int 0, .ref z, .int 0]))]) [11, 15] (by decide) rfl
  have hFc := va_free (wc := [(y0, .inr (18, [.int 0, .ref l1, .ref l2, .ref l3, .ref l4, .ref l5, .ref l6, .int 0, .int 3, .int 12, .ref m1, .ref m2, .ref m3, .ref m4, .ref m5, .ref m6])), (l4, .inr (3, [.int 0, .ref z, .int 0]))]) hD hS hA [11, 15] rfl
  refine va_calli (va_runV (As := [.int (xs 1), .int (xs 2)]) (rest := []) ⟨hx, hb, hml, hown, hts⟩ (k_X14_conjugate l G z y0 0 l1 l2 l3 l4 l5 l6 3 12 m1 m2 m3 m4 m5 m6 0 z ((xs 1)) ((xs 2)) H_5.size ) (cwV 2 hts (lw_goodApp (lw_4 q1576 q1577 q1578 q7) q1579) rfl rfl rfl (by decide +kernel) ⟨Nat.le_of_ble_eq_true rfl, Nat.le_of_ble_eq_true rfl⟩) ⟨PW.blind, va_recv hK hP (ci := 18) (q0 := 11) rfl rfl, PW.of hPc hKc hDc hG hS hFc [.ref y0, .int (xs 1), .int (xs 2)]⟩ rfl rfl hl.1 rfl (lv_room (Nat.le_of_ble_eq_true rfl)) dL_law_1768 ⟨Nat.le_of_ble_eq_true rfl, Nat.le_of_ble_eq_true rfl⟩) hS (fun q _ h => hFc q h) hFc (fun r_14 u t_16 H_13 locs ht hvm hw_15 hB hz1 hk1 hS => ?_)
  obtain ⟨hP, hD, hK⟩ := QW.join (wr := [(a1, .inr (3, [.int 0, .ref z, .int 0])), (a2, .inr (3, [.int 0, .ref z, .int 0])), (a3, .inr (3, [.int 0, .ref z, .int 0])), (a5, .inr (3, [.int 0, .ref z, .int 0])), (a6, .inr (10, [.ref b1, .ref b2, .ref b3, .int 0])), (b1, .inl (cyA, 400, .inl (nI))), (b2, .inl (cyJ, 512, .inl (fun _ => 0))), (b3, .inl (cyT, 400, .inl (fun _ => 0))), (a7, .inr (4, [.ref d1, .ref d2, .ref d3, .ref d4, .int 0, .int 12])), (d4, .inl (cyO, 20, .inr (.inr (.inr (.inr (fS)))))), (r0, .inl (cyI, 20, .inl (fun _ => 0))), (l1, .inr (3, [.int 0, .ref z, .int 0])), (l2, .inr (3, [.int 0, .ref z, .int 0])), (l3, .inr (3, [.int 0, .ref z, .int 0])), (l5, .inr (3, [.int 0, .ref z, .int 0])), (l6, .inr (3, [.int 0, .ref z, .int 0])), (o2, .inl (cyD, 1, .inr (.inr (.inr (.inl (fun _ => 0)))))), (o1, .inl (cyL, 1, .inr (.inl ((fun _ => 0)))))]) (w1 := [(y0, .inr (18, [.int 1, .ref l1, .ref l2, .ref l3, .ref l4, .ref l5, .ref l6, .int 0, .int 3, .int 12, .ref m1, .ref m2, .ref m3, .ref m4, .ref m5, .ref m6]))]) hP hD hK [11, 15] [0, 1, 2, 3, 4, 5, 6, 7, 8, 9, 10, 12, 13, 14, 16, 17, 18, 19] rfl rfl (by decide) (by decide) hk1 hFc ht hvm hB
  have hP : va_P G vwCl ([(a1, .inr (3, [.int 0, .ref z, .int 0])), (a2, .inr (3, [.int 0, .ref z, .int 0])), (a3, .inr (3, [.int 0, .ref z, .int 0])), (a5, .inr (3, [.int 0, .ref z, .int 0])), (a6, .inr (10, [.ref b1, .ref b2, .ref b3, .int 0])), (b1, .inl (cyA, 400, .inl (nI))), (b2, .inl (cyJ, 512, .inl (fun _ => 0))), (b3, .inl (cyT, 400, .inl (fun _ => 0))), (a7, .inr (4, [.ref d1, .ref d2, .ref d3, .ref d4, .int 0, .int 12])), (d4, .inl (cyO, 20, .inr (.inr (.inr (.inr (fS)))))), (r0, .inl (cyI, 20, .inl (fun _ => 0))), (l1, .inr (3, [.int 0, .ref z, .int 0])), (l2, .inr (3, [.int 0, .ref z, .int 0])), (l3, .inr (3, [.int 0, .ref z, .int 0])), (l5, .inr (3, [.int 0, .ref z, .int 0])), (l6, .inr (3, [.int 0, .ref z, .int 0])), (o2, .inl (cyD, 1, .inr (.inr (.inr (.inl (fun _ => 0)))))), (o1, .inl (cyL, 1, .inr (.inl ((fun _ => 0))))), (y0, .inr (18, [.int 1, .ref l1, .ref l2, .ref l3, .ref l4, .ref l5, .ref l6, .int 0, .int 3, .int 12, .ref m1, .ref m2, .ref m3, .ref m4, .ref m5, .ref m6]))]) H_13 := hP
  have hD : va_D A ([(a1, .inr (3, [.int 0, .ref z, .int 0])), (a2, .inr (3, [.int 0, .ref z, .int 0])), (a3, .inr (3, [.int 0, .ref z, .int 0])), (a5, .inr (3, [.int 0, .ref z, .int 0])), (a6, .inr (10, [.ref b1, .ref b2, .ref b3, .int 0])), (b1, .inl (cyA, 400, .inl (nI))), (b2, .inl (cyJ, 512, .inl (fun _ => 0))), (b3, .inl (cyT, 400, .inl (fun _ => 0))), (a7, .inr (4, [.ref d1, .ref d2, .ref d3, .ref d4, .int 0, .int 12])), (d4, .inl (cyO, 20, .inr (.inr (.inr (.inr (fS)))))), (r0, .inl (cyI, 20, .inl (fun _ => 0))), (l1, .inr (3, [.int 0, .ref z, .int 0])), (l2, .inr (3, [.int 0, .ref z, .int 0])), (l3, .inr (3, [.int 0, .ref z, .int 0])), (l5, .inr (3, [.int 0, .ref z, .int 0])), (l6, .inr (3, [.int 0, .ref z, .int 0])), (o2, .inl (cyD, 1, .inr (.inr (.inr (.inl (fun _ => 0)))))), (o1, .inl (cyL, 1, .inr (.inl ((fun _ => 0))))), (y0, .inr (18, [.int 1, .ref l1, .ref l2, .ref l3, .ref l4, .ref l5, .ref l6, .int 0, .int 3, .int 12, .ref m1, .ref m2, .ref m3, .ref m4, .ref m5, .ref m6]))]) := hD
  have hK : va_K G vwCl [(cyA, .int), (cyJ, .int), (cyT, .int), (cyO, .array .int), (cyI, .int), (cyL, .long), (cyD, .double), (cyL, .long)] s := hK
  refine W.widen (k := 136) (n := 2997) (Nat.le_of_ble_eq_true rfl) (Nat.le_of_ble_eq_true rfl) ?_
  refine lv_istore (lv' := [(7, .int r_14), (6, .int 1), (0, .ref b), (1, .ref x0), (2, .ref y0), (3, .ref o1), (4, .ref o2), (5, .int 0)]) hx hb dL_law_1771 hl (by decide) rfl (fun ls hl => ?_)
  refine lv_aload_n hx hb dL_law_1773 rfl (lv_at hl 4 rfl) ?_
  have hPc := hP.sub (ws' := [(y0, .inr (18, [.int 1, .ref l1, .ref l2, .ref l3, .ref l4, .ref l5, .ref l6, .int 0, .int 3, .int 12, .ref m1, .ref m2, .ref m3, .ref m4, .ref m5, .ref m6]))]) [18] rfl
  have hKc := hK.sub (tys' := []) [] rfl
  refine va_calli (va_runV (As := []) (rest := []) ⟨hx, hb, hml, hown, hts⟩ (k_X14_thrown l G z y0 1 l1 l2 l3 l4 l5 l6 3 12 m1 m2 m3 m4 m5 m6 H_13.size ) (cwV 0 hts (lw_goodApp (lw_4 q1236 q1237 q1238 q7) q1239) rfl rfl rfl (by decide +kernel) ⟨Nat.le_of_ble_eq_true rfl, Nat.le_of_ble_eq_true rfl⟩) ⟨PR.blind, va_recv hK hP (ci := 18) (q0 := 18) rfl rfl, PR.of hPc hKc hG hS hA [.ref y0]⟩ rfl rfl hl.1 rfl (lv_room (Nat.le_of_ble_eq_true rfl)) dL_law_1774 ⟨Nat.le_of_ble_eq_true rfl, Nat.le_of_ble_eq_true rfl⟩) hS (fun q h9 h => zN.not h9 h) (fun q h => hA q (Nat.le_trans hS.1 h)) (fun r_18 u t_20 H_17 locs ht hvm hw_19 hB hz1 hk1 hS => ?_)
  have hP := hP.grown hk1
  refine W.widen (k := 136) (n := 2997) (Nat.le_of_ble_eq_true rfl) (Nat.le_of_ble_eq_true rfl) ?_
  obtain rfl : 1 = r_18 := hw_19.symm
  refine lv_iload hx hb dL_law_1777 (lv_at hl 1 rfl) ?_
  refine lv_icmp_eq (tgt := 1784) hx hb dL_law_1779 (by decide) (fun c_21 => ?_) (fun c_21 => absurd rfl c_21)
  refine lv_iload hx hb dL_law_1784 (lv_at hl 1 rfl) ?_
  refine lv_if_ne (tgt := 1801) hx hb dL_law_1786 (by decide) (fun c_22 => ?_) (fun c_22 => absurd c_22 (by decide))
  refine lv_goto (tgt := 3288) hx hb dL_law_1801 (by decide) ?_
  exact law_tail hfl C0 hA hA2 hS (lv_sub hl [2, 7] rfl) (Nat.le_of_ble_eq_true rfl) (Nat.le_of_ble_eq_true rfl)
set_option maxHeartbeats 8000000 in
set_option maxRecDepth 100000 in
/-- script value 20 -/
theorem law_case_20 {p : Program} {l : Launch} {e : Env} {s : State} {m : MethodId} {below : List Frame} {meth : Method} {c : Code} {b : Nat} {xs : Nat → Int32} (hfl : l.stackTraces = false) (C0 : lw_At p s m meth c b 7 xs) {A : Nat → Prop} (hA : ∀ q : Nat, s.heap.size ≤ q → A q) (hA2 : ∀ q : Nat, A q → s.heap.size ≤ q) (G : va_G) (z : Nat) (hG : zG z A s s.heap) (x0 : Nat) (y0 : Nat) (o1 : Nat) (o2 : Nat) (cyL : ClassId) (cyD : ClassId) (a1 : Nat) (a2 : Nat) (a3 : Nat) (a4 : Nat) (a5 : Nat) (a6 : Nat) (a7 : Nat) (a8 : Nat) (b1 : Nat) (b2 : Nat) (b3 : Nat) (cyA : ClassId) (cyJ : ClassId) (cyT : ClassId) (d1 : Nat) (d2 : Nat) (d3 : Nat) (d4 : Nat) (cyO : ClassId) (fS : Nat → Option Nat) (cyI : ClassId) (r0 : Nat) (l1 : Nat) (l2 : Nat) (l3 : Nat) (l4 : Nat) (l5 : Nat) (l6 : Nat) (m1 : Nat) (m2 : Nat) (m3 : Nat) (m4 : Nat) (m5 : Nat) (m6 : Nat) (hf0 : fS 0 = some r0) {H : Heap} {locs : List Loc} (hP : va_P G vwCl ([(x0, .inr (12, [.ref a1, .ref a2, .ref a3, .ref a4, .ref a5, .ref a6, .ref a7, .ref a8, .int 3, .int 0])), (a1, .inr (3, [.int 0, .ref z, .int 0])), (a2, .inr (3, [.int 0, .ref z, .int 0])), (a3, .inr (3, [.int 0, .ref z, .int 0])), (a4, .inr (3, [.int 0, .ref z, .int 0])), (a5, .inr (3, [.int 0, .ref z, .int 0])), (a6, .inr (10, [.ref b1, .ref b2, .ref b3, .int 0])), (b1, .inl (cyA, 400, .inl (nI))), (b2, .inl (cyJ, 512, .inl (fun _ => 0))), (b3, .inl (cyT, 400, .inl (fun _ => 0))), (a7, .inr (4, [.ref d1, .ref d2, .ref d3, .ref d4, .int 0, .int 12])), (d4, .inl (cyO, 20, .inr (.inr (.inr (.inr (fS)))))), (r0, .inl (cyI, 20, .inl (fun _ => 0))), (y0, .inr (18, [.int 0, .ref l1, .ref l2, .ref l3, .ref l4, .ref l5, .ref l6, .int 0, .int 3, .int 12, .ref m1, .ref m2, .ref m3, .ref m4, .ref m5, .ref m6])), (l1, .inr (3, [.int 0, .ref z, .int 0])), (l2, .inr (3, [.int 0, .ref z, .int 0])), (l3, .inr (3, [.int 0, .ref z, .int 0])), (l4, .inr (3, [.int 0, .ref z, .int 0])), (l5, .inr (3, [.int 0, .ref z, .int 0])), (l6, .inr (3, [.int 0, .ref z, .int 0])), (o1, .inl (cyL, 1, .inr (.inl (fun _ => 0)))), (o2, .inl (cyD, 1, .inr (.inr (.inr (.inl (fun _ => 0))))))]) H) (hD : va_D A ([(x0, .inr (12, [.ref a1, .ref a2, .ref a3, .ref a4, .ref a5, .ref a6, .ref a7, .ref a8, .int 3, .int 0])), (a1, .inr (3, [.int 0, .ref z, .int 0])), (a2, .inr (3, [.int 0, .ref z, .int 0])), (a3, .inr (3, [.int 0, .ref z, .int 0])), (a4, .inr (3, [.int 0, .ref z, .int 0])), (a5, .inr (3, [.int 0, .ref z, .int 0])), (a6, .inr (10, [.ref b1, .ref b2, .ref b3, .int 0])), (b1, .inl (cyA, 400, .inl (nI))), (b2, .inl (cyJ, 512, .inl (fun _ => 0))), (b3, .inl (cyT, 400, .inl (fun _ => 0))), (a7, .inr (4, [.ref d1, .ref d2, .ref d3, .ref d4, .int 0, .int 12])), (d4, .inl (cyO, 20, .inr (.inr (.inr (.inr (fS)))))), (r0, .inl (cyI, 20, .inl (fun _ => 0))), (y0, .inr (18, [.int 0, .ref l1, .ref l2, .ref l3, .ref l4, .ref l5, .ref l6, .int 0, .int 3, .int 12, .ref m1, .ref m2, .ref m3, .ref m4, .ref m5, .ref m6])), (l1, .inr (3, [.int 0, .ref z, .int 0])), (l2, .inr (3, [.int 0, .ref z, .int 0])), (l3, .inr (3, [.int 0, .ref z, .int 0])), (l4, .inr (3, [.int 0, .ref z, .int 0])), (l5, .inr (3, [.int 0, .ref z, .int 0])), (l6, .inr (3, [.int 0, .ref z, .int 0])), (o1, .inl (cyL, 1, .inr (.inl (fun _ => 0)))), (o2, .inl (cyD, 1, .inr (.inr (.inr (.inl (fun _ => 0))))))])) (hK : va_K G vwCl [(cyA, .int), (cyJ, .int), (cyT, .int), (cyO, .array .int), (cyI, .int), (cyL, .long), (cyD, .double)] s) (hS : va_S A s.heap H locs) {ls : Array Slot} (hl : lv_has ls 9 [(0, .ref b), (1, .ref x0), (2, .ref y0), (3, .ref o1), (4, .ref o2), (5, .int 0)]) : W p l e room_1 s m #[Value.ref b] below meth c H locs 135 2991 (lw_Z below #[Value.ref b] s) (F0 m 1804 ls []) := by
  have C9 := C0
  obtain ⟨hx, hb, hr, hml, hown, hts0, hX, hbl, hlocks, hgv⟩ := id C0
  have hg := lw_sub_good hts0
  have hts : ∀ w ∈ (lw_hd :: lw_good), w.before #[Value.ref b] s = true := fun w h => (List.mem_cons.mp h).elim (fun e9 => e9 ▸ hg _ q0) (hg w)
  have hbA : ¬ A b := fun h => Nat.not_le.mpr hbl (hA2 b h)
  refine lv_aload_n hx hb dL_law_1804 rfl (lv_at hl 1 rfl) ?_
  refine lv_aload_n hx hb dL_law_1805 rfl (lv_at hl 0 rfl) ?_
  refine lv_iload hx hb dL_law_1806 (lv_at hl 5 rfl) ?_
  refine lv_iconst (v := 1) hx hb dL_law_1808 (by decide) ?_
  refine lv_iadd hx hb dL_law_1809 ?_
  refine lv_topi (fun f_1 ef_1 => ?_)
  obtain rfl : f_1 = 1 := ef_1.trans (by decide)
  refine va_sld hx hb hX hbl hbA hS (by unfold vp_in; decide +kernel) dL_law_1810 ?_
  refine lv_topi (fun f_2 ef_2 => ?_)
  obtain rfl : f_2 = xs 1 := ef_2
  refine lv_aload_n hx hb dL_law_1811 rfl (lv_at hl 0 rfl) ?_
  refine lv_iload hx hb dL_law_1812 (lv_at hl 5 rfl) ?_
  refine lv_iconst (v := 2) hx hb dL_law_1814 (by decide) ?_
  refine lv_iadd hx hb dL_law_1815 ?_
  refine lv_topi (fun f_3 ef_3 => ?_)
  obtain rfl : f_3 = 2 := ef_3.trans (by decide)
  refine va_sld hx hb hX hbl hbA hS (by unfold vp_in; decide +kernel) dL_law_1816 ?_
  refine lv_topi (fun f_4 ef_4 => ?_)
  obtain rfl : f_4 = xs 2 := ef_4
  refine lv_aload_n hx hb dL_law_1817 rfl (lv_at hl 3 rfl) ?_
  have hPc := hP.sub (ws' := [(x0, .inr (12, [.ref a1, .ref a2, .ref a3, .ref a4, .ref a5, .ref a6, .ref a7, .ref a8, .int 3, .int 0])), (a4, .inr (3, [.int 0, .ref z, .int 0])), (o1, .inl (cyL, 1, .inr (.inl (fun _ => 0))))]) [0, 4, 20] rfl
  have hKc := hK.sub (tys' := [(cyL, .long)]) [5] rfl
  have hDc := hD.sub (ws' := [(x0, .inr (12, [.ref a1, .ref a2, .ref a3, .ref a4, .ref a5, .ref a6, .ref a7, .ref a8, .int 3, .int 0])), (a4, .inr (3, [.int 0, .ref z, .int 0])), (o1, .inl (cyL, 1, .inr (.inl (fun _ => 0))))]) [0, 4, 20] (by decide) rfl
  have hFc := va_free (wc := [(x0, .inr (12, [.ref a1, .ref a2, .ref a3, .ref a4, .ref a5, .ref a6, .ref a7, .ref a8, .int 3, .int 0])), (a4, .inr (3, [.int 0, .ref z, .int 0])), (o1, .inl (cyL, 1, .inr (.inl (fun _ => 0))))]) hD hS hA [0, 4, 20] rfl
  refine va_calli (vx_runSW (As := [.ref x0, .int (xs 1), .int (xs 2), .ref o1]) (rest := []) ⟨hx, hb, hml, hown, hts⟩ (k_L_run l hfl G z x0 a1 a2 a3 a4 a5 a6 a7 a8 3 0 0 z ((xs 1)) ((xs 2)) o1 cyL (fun _ => 0) H.size ) (vx_cwSW 4 hts (lw_goodApp (lw_3 q941 q942 q0) q943) rfl rfl rfl (by decide +kernel) ⟨Nat.le_of_ble_eq_true rfl, Nat.le_of_ble_eq_true rfl⟩) ⟨PW.blind, PW.of hPc hKc hDc hG hS hFc [.ref x0, .int (xs 1), .int (xs 2), .ref o1]⟩ rfl rfl hl.1 rfl (lv_room (Nat.le_of_ble_eq_true rfl)) dL_law_1818 ⟨Nat.le_of_ble_eq_true rfl, Nat.le_of_ble_eq_true rfl⟩) hS (fun q _ h => hFc q h) hFc (fun r_6 u t_8 H_5 locs ht hvm hw_7 hB hz1 hk1 hS => ?_)
  obtain ⟨hP, hD, hK⟩ := QW.join (wr := [(a1, .inr (3, [.int 0, .ref z, .int 0])), (a2, .inr (3, [.int 0, .ref z, .int 0])), (a3, .inr (3, [.int 0, .ref z, .int 0])), (a5, .inr (3, [.int 0, .ref z, .int 0])), (a6, .inr (10, [.ref b1, .ref b2, .ref b3, .int 0])), (b1, .inl (cyA, 400, .inl (nI))), (b2, .inl (cyJ, 512, .inl (fun _ => 0))), (b3, .inl (cyT, 400, .inl (fun _ => 0))), (a7, .inr (4, [.ref d1, .ref d2, .ref d3, .ref d4, .int 0, .int 12])), (d4, .inl (cyO, 20, .inr (.inr (.inr (.inr (fS)))))), (r0, .inl (cyI, 20, .inl (fun _ => 0))), (y0, .inr (18, [.int 0, .ref l1, .ref l2, .ref l3, .ref l4, .ref l5, .ref l6, .int 0, .int 3, .int 12, .ref m1, .ref m2, .ref m3, .ref m4, .ref m5, .ref m6])), (l1, .inr (3, [.int 0, .ref z, .int 0])), (l2, .inr (3, [.int 0, .ref z, .int 0])), (l3, .inr (3, [.int 0, .ref z, .int 0])), (l4, .inr (3, [.int 0, .ref z, .int 0])), (l5, .inr (3, [.int 0, .ref z, .int 0])), (l6, .inr (3, [.int 0, .ref z, .int 0])), (o2, .inl (cyD, 1, .inr (.inr (.inr (.inl (fun _ => 0))))))]) (w1 := [(o1, .inl (cyL, 1, .inr (.inl ((fun _ => 0)))))]) hP hD hK [0, 4, 20] [1, 2, 3, 5, 6, 7, 8, 9, 10, 11, 12, 13, 14, 15, 16, 17, 18, 19, 21] rfl rfl (by decide) (by decide) hk1 hFc ht hvm hB
  have hP : va_P G vwCl ([(a1, .inr (3, [.int 0, .ref z, .int 0])), (a2, .inr (3, [.int 0, .ref z, .int 0])), (a3, .inr (3, [.int 0, .ref z, .int 0])), (a5, .inr (3, [.int 0, .ref z, .int 0])), (a6, .inr (10, [.ref b1, .ref b2, .ref b3, .int 0])), (b1, .inl (cyA, 400, .inl (nI))), (b2, .inl (cyJ, 512, .inl (fun _ => 0))), (b3, .inl (cyT, 400, .inl (fun _ => 0))), (a7, .inr (4, [.ref d1, .ref d2, .ref d3, .ref d4, .int 0, .int 12])), (d4, .inl (cyO, 20, .inr (.inr (.inr (.inr (fS)))))), (r0, .inl (cyI, 20, .inl (fun _ => 0))), (y0, .inr (18, [.int 0, .ref l1, .ref l2, .ref l3, .ref l4, .ref l5, .ref l6, .int 0, .int 3, .int 12, .ref m1, .ref m2, .ref m3, .ref m4, .ref m5, .ref m6])), (l1, .inr (3, [.int 0, .ref z, .int 0])), (l2, .inr (3, [.int 0, .ref z, .int 0])), (l3, .inr (3, [.int 0, .ref z, .int 0])), (l4, .inr (3, [.int 0, .ref z, .int 0])), (l5, .inr (3, [.int 0, .ref z, .int 0])), (l6, .inr (3, [.int 0, .ref z, .int 0])), (o2, .inl (cyD, 1, .inr (.inr (.inr (.inl (fun _ => 0)))))), (o1, .inl (cyL, 1, .inr (.inl ((fun _ => 0)))))]) H_5 := hP
  have hD : va_D A ([(a1, .inr (3, [.int 0, .ref z, .int 0])), (a2, .inr (3, [.int 0, .ref z, .int 0])), (a3, .inr (3, [.int 0, .ref z, .int 0])), (a5, .inr (3, [.int 0, .ref z, .int 0])), (a6, .inr (10, [.ref b1, .ref b2, .ref b3, .int 0])), (b1, .inl (cyA, 400, .inl (nI))), (b2, .inl (cyJ, 512, .inl (fun _ => 0))), (b3, .inl (cyT, 400, .inl (fun _ => 0))), (a7, .inr (4, [.ref d1, .ref d2, .ref d3, .ref d4, .int 0, .int 12])), (d4, .inl (cyO, 20, .inr (.inr (.inr (.inr (fS)))))), (r0, .inl (cyI, 20, .inl (fun _ => 0))), (y0, .inr (18, [.int 0, .ref l1, .ref l2, .ref l3, .ref l4, .ref l5, .ref l6, .int 0, .int 3, .int 12, .ref m1, .ref m2, .ref m3, .ref m4, .ref m5, .ref m6])), (l1, .inr (3, [.int 0, .ref z, .int 0])), (l2, .inr (3, [.int 0, .ref z, .int 0])), (l3, .inr (3, [.int 0, .ref z, .int 0])), (l4, .inr (3, [.int 0, .ref z, .int 0])), (l5, .inr (3, [.int 0, .ref z, .int 0])), (l6, .inr (3, [.int 0, .ref z, .int 0])), (o2, .inl (cyD, 1, .inr (.inr (.inr (.inl (fun _ => 0)))))), (o1, .inl (cyL, 1, .inr (.inl ((fun _ => 0)))))]) := hD
  have hK : va_K G vwCl [(cyA, .int), (cyJ, .int), (cyT, .int), (cyO, .array .int), (cyI, .int), (cyL, .long), (cyD, .double), (cyL, .long)] s := hK
  refine W.widen (k := 136) (n := 2997) (Nat.le_of_ble_eq_true rfl) (Nat.le_of_ble_eq_true rfl) ?_
  obtain rfl : 1 = r_6 := hw_7.symm
  refine lv_istore (lv' := [(6, .int 1), (0, .ref b), (1, .ref x0), (2, .ref y0), (3, .ref o1), (4, .ref o2), (5, .int 0)]) hx hb dL_law_1821 hl (by decide) rfl (fun ls hl => ?_)
  refine lv_aload_n hx hb dL_law_1823 rfl (lv_at hl 3 rfl) ?_
  refine lv_aload_n hx hb dL_law_1824 rfl (lv_at hl 1 rfl) ?_
  refine lv_iload hx hb dL_law_1825 (lv_at hl 6 rfl) ?_
  refine lv_iconst (v := 1) hx hb dL_law_1827 (by decide) ?_
  refine lv_iadd hx hb dL_law_1828 ?_
  refine lv_topi (fun f_9 ef_9 => ?_)
  obtain rfl : f_9 = 1 := ef_9.trans (by decide)
  refine va_sld hx hb hX hbl hbA hS (by unfold vp_in; decide +kernel) dL_law_1829 ?_
  refine lv_topi (fun f_10 ef_10 => ?_)
  obtain rfl : f_10 = xs 1 := ef_10
  refine lv_aload_n hx hb dL_law_1830 rfl (lv_at hl 1 rfl) ?_
  refine lv_iload hx hb dL_law_1831 (lv_at hl 6 rfl) ?_
  refine lv_iconst (v := 2) hx hb dL_law_1833 (by decide) ?_
  refine lv_iadd hx hb dL_law_1834 ?_
  refine lv_topi (fun f_11 ef_11 => ?_)
  obtain rfl : f_11 = 2 := ef_11.trans (by decide)
  refine va_sld hx hb hX hbl hbA hS (by unfold vp_in; decide +kernel) dL_law_1835 ?_
  refine lv_topi (fun f_12 ef_12 => ?_)
  obtain rfl : f_12 = xs 2 := ef_12
  have hPc := hP.sub (ws' := [(y0, .inr (18, [.int 0, .ref l1, .ref l2, .ref l3, .ref l4, .ref l5, .ref l6, .int 0, .int 3, .int 12, .ref m1, .ref m2, .ref m3, .ref m4, .ref m5, .ref m6])), (l4, .inr (3, [.int 0, .ref z, .int 0]))]) [11, 15] rfl
  have hKc := hK.sub (tys' := []) [] rfl
  have hDc := hD.sub (ws' := [(y0, .inr (18, [.int 0, .ref l1, .ref l2, .ref l3, .ref l4, .ref l5, .ref l6, .int 0, .int 3, .int 12, .ref m1, .ref m2, .ref m3, .ref m4, .ref m5, .ref m6])), (l4, .inr (3, [.int 0, .ref z, .int 0]))]) [11, 15] (by decide) rfl
  have hFc := va_free (wc := [(y0, .inr (18, [.int 0, .ref l1, .ref l2, .ref l3, .ref l4, .ref l5, .ref l6, .int 0, .int 3, .int 12, .ref m1, .ref m2, .ref m3, .ref m4, .ref m5, .ref m6])), (l4, .inr (3, [.int 0, .ref z, .int 0]))]) hD hS hA [11, 15] rfl
  refine va_calli (va_runV (As := [.int (xs 1), .int (xs 2)]) (rest := []) ⟨hx, hb, hml, hown, hts⟩ (k_X14_run l G z y0 0 l1 l2 l3 l4 l5 l6 3 12 m1 m2 m3 m4 m5 m6 0 z ((xs 1)) ((xs 2)) H_5.size ) (cwV 2 hts (lw_goodApp (lw_4 q1580 q1581 q1582 q7) q1583) rfl rfl rfl (by decide +kernel) ⟨Nat.le_of_ble_eq_true rfl, Nat.le_of_ble_eq_true rfl⟩) ⟨PW.blind, va_recv hK hP (ci := 18) (q0 := 11) rfl rfl, PW.of hPc hKc hDc hG hS hFc [.ref y0, .int (xs 1), .int (xs 2)]⟩ rfl rfl hl.1 rfl (lv_room (Nat.le_of_ble_eq_true rfl)) dL_law_1836 ⟨Nat.le_of_ble_eq_true rfl, Nat.le_of_ble_eq_true rfl⟩) hS (fun q _ h => hFc q h) hFc (fun r_14 u t_16 H_13 locs ht hvm hw_15 hB hz1 hk1 hS => ?_)
  obtain ⟨hP, hD, hK⟩ := QW.join (wr := [(a1, .inr (3, [.int 0, .ref z, .int 0])), (a2, .inr (3, [.int 0, .ref z, .int 0])), (a3, .inr (3, [.int 0, .ref z, .int 0])), (a5, .inr (3, [.int 0, .ref z, .int 0])), (a6, .inr (10, [.ref b1, .ref b2, .ref b3, .int 0])), (b1, .inl (cyA, 400, .inl (nI))), (b2, .inl (cyJ, 512, .inl (fun _ => 0))), (b3, .inl (cyT, 400, .inl (fun _ => 0))), (a7, .inr (4, [.ref d1, .ref d2, .ref d3, .ref d4, .int 0, .int 12])), (d4, .inl (cyO, 20, .inr (.inr (.inr (.inr (fS)))))), (r0, .inl (cyI, 20, .inl (fun _ => 0))), (l1, .inr (3, [.int 0, .ref z, .int 0])), (l2, .inr (3, [.int 0, .ref z, .int 0])), (l3, .inr (3, [.int 0, .ref z, .int 0])), (l5, .inr (3, [.int 0, .ref z, .int 0])), (l6, .inr (3, [.int 0, .ref z, .int 0])), (o2, .inl (cyD, 1, .inr (.inr (.inr (.inl (fun _ => 0)))))), (o1, .inl (cyL, 1, .inr (.inl ((fun _ => 0)))))]) (w1 := [(y0, .inr (18, [.int 1, .ref l1, .ref l2, .ref l3, .ref l4, .ref l5, .ref l6, .int 0, .int 3, .int 12, .ref m1, .ref m2, .ref m3, .ref m4, .ref m5, .ref m6]))]) hP hD hK [11, 15] [0, 1, 2, 3, 4, 5, 6, 7, 8, 9, 10, 12, 13, 14, 16, 17, 18, 19] rfl rfl (by decide) (by decide) hk1 hFc ht hvm hB
  have hP : va_P G vwCl ([(a1, .inr (3, [.int 0, .ref z, .int 0])), (a2, .inr (3, [.int 0, .ref z, .int 0])), (a3, .inr (3, [.int 0, .ref z, .int 0])), (a5, .inr (3, [.int 0, .ref z, .int 0])), (a6, .inr (10, [.ref b1, .ref b2, .ref b3, .int 0])), (b1, .inl (cyA, 400, .inl (nI))), (b2, .inl (cyJ, 512, .inl (fun _ => 0))), (b3, .inl (cyT, 400, .inl (fun _ => 0))), (a7, .inr (4, [.ref d1, .ref d2, .ref d3, .ref d4, .int 0, .int 12])), (d4, .inl (cyO, 20, .inr (.inr (.inr (.inr (fS)))))), (r0, .inl (cyI, 20, .inl (fun _ => 0))), (l1, .inr (3, [.int 0, .ref z, .int 0])), (l2, .inr (3, [.int 0, .ref z, .int 0])), (l3, .inr (3, [.int 0, .ref z, .int 0])), (l5, .inr (3, [.int 0, .ref z, .int 0])), (l6, .inr (3, [.int 0, .ref z, .int 0])), (o2, .inl (cyD, 1, .inr (.inr (.inr (.inl (fun _ => 0)))))), (o1, .inl (cyL, 1, .inr (.inl ((fun _ => 0))))), (y0, .inr (18, [.int 1, .ref l1, .ref l2, .ref l3, .ref l4, .ref l5, .ref l6, .int 0, .int 3, .int 12, .ref m1, .ref m2, .ref m3, .ref m4, .ref m5, .ref m6]))]) H_13 := hP
  have hD : va_D A ([(a1, .inr (3, [.int 0, .ref z, .int 0])), (a2, .inr (3, [.int 0, .ref z, .int 0])), (a3, .inr (3, [.int 0, .ref z, .int 0])), (a5, .inr (3, [.int 0, .ref z, .int 0])), (a6, .inr (10, [.ref b1, .ref b2, .ref b3, .int 0])), (b1, .inl (cyA, 400, .inl (nI))), (b2, .inl (cyJ, 512, .inl (fun _ => 0))), (b3, .inl (cyT, 400, .inl (fun _ => 0))), (a7, .inr (4, [.ref d1, .ref d2, .ref d3, .ref d4, .int 0, .int 12])), (d4, .inl (cyO, 20, .inr (.inr (.inr (.inr (fS)))))), (r0, .inl (cyI, 20, .inl (fun _ => 0))), (l1, .inr (3, [.int 0, .ref z, .int 0])), (l2, .inr (3, [.int 0, .ref z, .int 0])), (l3, .inr (3, [.int 0, .ref z, .int 0])), (l5, .inr (3, [.int 0, .ref z, .int 0])), (l6, .inr (3, [.int 0, .ref z, .int 0])), (o2, .inl (cyD, 1, .inr (.inr (.inr (.inl (fun _ => 0)))))), (o1, .inl (cyL, 1, .inr (.inl ((fun _ => 0))))), (y0, .inr (18, [.int 1, .ref l1, .ref l2, .ref l3, .ref l4, .ref l5, .ref l6, .int 0, .int 3, .int 12, .ref m1, .ref m2, .ref m3, .ref m4, .ref m5, .ref m6]))]) := hD
  have hK : va_K G vwCl [(cyA, .int), (cyJ, .int), (cyT, .int), (cyO, .array .int), (cyI, .int), (cyL, .long), (cyD, .double), (cyL, .long)] s := hK
  refine W.widen (k := 136) (n := 2997) (Nat.le_of_ble_eq_true rfl) (Nat.le_of_ble_eq_true rfl) ?_
  refine lv_istore (lv' := [(7, .int r_14), (6, .int 1), (0, .ref b), (1, .ref x0), (2, .ref y0), (3, .ref o1), (4, .ref o2), (5, .int 0)]) hx hb dL_law_1839 hl (by decide) rfl (fun ls hl => ?_)
  refine lv_aload_n hx hb dL_law_1841 rfl (lv_at hl 4 rfl) ?_
  have hPc := hP.sub (ws' := [(y0, .inr (18, [.int 1, .ref l1, .ref l2, .ref l3, .ref l4, .ref l5, .ref l6, .int 0, .int 3, .int 12, .ref m1, .ref m2, .ref m3, .ref m4, .ref m5, .ref m6]))]) [18] rfl
  have hKc := hK.sub (tys' := []) [] rfl
  refine va_calli (va_runV (As := []) (rest := []) ⟨hx, hb, hml, hown, hts⟩ (k_X14_thrown l G z y0 1 l1 l2 l3 l4 l5 l6 3 12 m1 m2 m3 m4 m5 m6 H_13.size ) (cwV 0 hts (lw_goodApp (lw_4 q1236 q1237 q1238 q7) q1239) rfl rfl rfl (by decide +kernel) ⟨Nat.le_of_ble_eq_true rfl, Nat.le_of_ble_eq_true rfl⟩) ⟨PR.blind, va_recv hK hP (ci := 18) (q0 := 18) rfl rfl, PR.of hPc hKc hG hS hA [.ref y0]⟩ rfl rfl hl.1 rfl (lv_room (Nat.le_of_ble_eq_true rfl)) dL_law_1842 ⟨Nat.le_of_ble_eq_true rfl, Nat.le_of_ble_eq_true rfl⟩) hS (fun q h9 h => zN.not h9 h) (fun q h => hA q (Nat.le_trans hS.1 h)) (fun r_18 u t_20 H_17 locs ht hvm hw_19 hB hz1 hk1 hS => ?_)
  have hP := hP.grown hk1
  refine W.widen (k := 136) (n := 2997) (Nat.le_of_ble_eq_true rfl) (Nat.le_of_ble_eq_true rfl) ?_
  obtain rfl : 1 = r_18 := hw_19.symm
  refine lv_iload hx hb dL_law_1845 (lv_at hl 1 rfl) ?_
  refine lv_icmp_eq (tgt := 1852) hx hb dL_law_1847 (by decide) (fun c_21 => ?_) (fun c_21 => absurd rfl c_21)
  refine lv_iload hx hb dL_law_1852 (lv_at hl 1 rfl) ?_
  refine lv_if_ne (tgt := 1869) hx hb dL_law_1854 (by decide) (fun c_22 => ?_) (fun c_22 => absurd c_22 (by decide))
  refine lv_goto (tgt := 3288) hx hb dL_law_1869 (by decide) ?_
  exact law_tail hfl C0 hA hA2 hS (lv_sub hl [2, 7] rfl) (Nat.le_of_ble_eq_true rfl) (Nat.le_of_ble_eq_true rfl)
set_option maxHeartbeats 8000000 in
set_option maxRecDepth 100000 in
/-- script value 21 -/
theorem law_case_21 {p : Program} {l : Launch} {e : Env} {s : State} {m : MethodId} {below : List Frame} {meth : Method} {c : Code} {b : Nat} {xs : Nat → Int32} (hfl : l.stackTraces = false) (C0 : lw_At p s m meth c b 7 xs) {A : Nat → Prop} (hA : ∀ q : Nat, s.heap.size ≤ q → A q) (hA2 : ∀ q : Nat, A q → s.heap.size ≤ q) (G : va_G) (z : Nat) (hG : zG z A s s.heap) (x0 : Nat) (y0 : Nat) (o1 : Nat) (o2 : Nat) (cyL : ClassId) (cyD : ClassId) (a1 : Nat) (a2 : Nat) (a3 : Nat) (a4 : Nat) (a5 : Nat) (a6 : Nat) (a7 : Nat) (a8 : Nat) (b1 : Nat) (b2 : Nat) (b3 : Nat) (cyA : ClassId) (cyJ : ClassId) (cyT : ClassId) (d1 : Nat) (d2 : Nat) (d3 : Nat) (d4 : Nat) (cyO : ClassId) (fS : Nat → Option Nat) (cyI : ClassId) (r0 : Nat) (l1 : Nat) (l2 : Nat) (l3 : Nat) (l4 : Nat) (l5 : Nat) (l6 : Nat) (m1 : Nat) (m2 : Nat) (m3 : Nat) (m4 : Nat) (m5 : Nat) (m6 : Nat) (hf0 : fS 0 = some r0) {H : Heap} {locs : List Loc} (hP : va_P G vwCl ([(x0, .inr (12, [.ref a1, .ref a2, .ref a3, .ref a4, .ref a5, .ref a6, .ref a7, .ref a8, .int 3, .int 0])), (a1, .inr (3, [.int 0, .ref z, .int 0])), (a2, .inr (3, [.int 0, .ref z, .int 0])), (a3, .inr (3, [.int 0, .ref z, .int 0])), (a4, .inr (3, [.int 0, .ref z, .int 0])), (a5, .inr (3, [.int 0, .ref z, .int 0])), (a6, .inr (10, [.ref b1, .ref b2, .ref b3, .int 0])), (b1, .inl (cyA, 400, .inl (nI))), (b2, .inl (cyJ, 512, .inl (fun _ => 0))), (b3, .inl (cyT, 400, .inl (fun _ => 0))), (a7, .inr (4, [.ref d1, .ref d2, .ref d3, .ref d4, .int 0, .int 12])), (d4, .inl (cyO, 20, .inr (.inr (.inr (.inr (fS)))))), (r0, .inl (cyI, 20, .inl (fun _ => 0))), (y0, .inr (18, [.int 0, .ref l1, .ref l2, .ref l3, .ref l4, .ref l5, .ref l6, .int 0, .int 3, .int 12, .ref m1, .ref m2, .ref m3, .ref m4, .ref m5, .ref m6])), (l1, .inr (3, [.int 0, .ref z, .int 0])), (l2, .inr (3, [.int 0, .ref z, .int 0])), (l3, .inr (3, [.int 0, .ref z, .int 0])), (l4, .inr (3, [.int 0, .ref z, .int 0])), (l5, .inr (3, [.int 0, .ref z, .int 0])), (l6, .inr (3, [.int 0, .ref z, .int 0])), (o1, .inl (cyL, 1, .inr (.inl (fun _ => 0)))), (o2, .inl (cyD, 1, .inr (.inr (.inr (.inl (fun _ => 0))))))]) H) (hD : va_D A ([(x0, .inr (12, [.ref a1, .ref a2, .ref a3, .ref a4, .ref a5, .ref a6, .ref a7, .ref a8, .int 3, .int 0])), (a1, .inr (3, [.int 0, .ref z, .int 0])), (a2, .inr (3, [.int 0, .ref z, .int 0])), (a3, .inr (3, [.int 0, .ref z, .int 0])), (a4, .inr (3, [.int 0, .ref z, .int 0])), (a5, .inr (3, [.int 0, .ref z, .int 0])), (a6, .inr (10, [.ref b1, .ref b2, .ref b3, .int 0])), (b1, .inl (cyA, 400, .inl (nI))), (b2, .inl (cyJ, 512, .inl (fun _ => 0))), (b3, .inl (cyT, 400, .inl (fun _ => 0))), (a7, .inr (4, [.ref d1, .ref d2, .ref d3, .ref d4, .int 0, .int 12])), (d4, .inl (cyO, 20, .inr (.inr (.inr (.inr (fS)))))), (r0, .inl (cyI, 20, .inl (fun _ => 0))), (y0, .inr (18, [.int 0, .ref l1, .ref l2, .ref l3, .ref l4, .ref l5, .ref l6, .int 0, .int 3, .int 12, .ref m1, .ref m2, .ref m3, .ref m4, .ref m5, .ref m6])), (l1, .inr (3, [.int 0, .ref z, .int 0])), (l2, .inr (3, [.int 0, .ref z, .int 0])), (l3, .inr (3, [.int 0, .ref z, .int 0])), (l4, .inr (3, [.int 0, .ref z, .int 0])), (l5, .inr (3, [.int 0, .ref z, .int 0])), (l6, .inr (3, [.int 0, .ref z, .int 0])), (o1, .inl (cyL, 1, .inr (.inl (fun _ => 0)))), (o2, .inl (cyD, 1, .inr (.inr (.inr (.inl (fun _ => 0))))))])) (hK : va_K G vwCl [(cyA, .int), (cyJ, .int), (cyT, .int), (cyO, .array .int), (cyI, .int), (cyL, .long), (cyD, .double)] s) (hS : va_S A s.heap H locs) {ls : Array Slot} (hl : lv_has ls 9 [(0, .ref b), (1, .ref x0), (2, .ref y0), (3, .ref o1), (4, .ref o2), (5, .int 0)]) : W p l e room_1 s m #[Value.ref b] below meth c H locs 135 2991 (lw_Z below #[Value.ref b] s) (F0 m 1872 ls []) := by
  have C9 := C0
  obtain ⟨hx, hb, hr, hml, hown, hts0, hX, hbl, hlocks, hgv⟩ := id C0
  have hg := lw_sub_good hts0
  have hts : ∀ w ∈ (lw_hd :: lw_good), w.before #[Value.ref b] s = true := fun w h => (List.mem_cons.mp h).elim (fun e9 => e9 ▸ hg _ q0) (hg w)
  have hbA : ¬ A b := fun h => Nat.not_le.mpr hbl (hA2 b h)
  refine lv_aload_n hx hb dL_law_1872 rfl (lv_at hl 1 rfl) ?_
  refine lv_aload_n hx hb dL_law_1873 rfl (lv_at hl 0 rfl) ?_
  refine lv_iload hx hb dL_law_1874 (lv_at hl 5 rfl) ?_
  refine lv_iconst (v := 1) hx hb dL_law_1876 (by decide) ?_
  refine lv_iadd hx hb dL_law_1877 ?_
  refine lv_topi (fun f_1 ef_1 => ?_)
  obtain rfl : f_1 = 1 := ef_1.trans (by decide)
  refine va_sld hx hb hX hbl hbA hS (by unfold vp_in; decide +kernel) dL_law_1878 ?_
  refine lv_topi (fun f_2 ef_2 => ?_)
  obtain rfl : f_2 = xs 1 := ef_2
  refine lv_aload_n hx hb dL_law_1879 rfl (lv_at hl 3 rfl) ?_
  have hPc := hP.sub (ws' := [(x0, .inr (12, [.ref a1, .ref a2, .ref a3, .ref a4, .ref a5, .ref a6, .ref a7, .ref a8, .int 3, .int 0])), (a4, .inr (3, [.int 0, .ref z, .int 0])), (o1, .inl (cyL, 1, .inr (.inl (fun _ => 0))))]) [0, 4, 20] rfl
  have hKc := hK.sub (tys' := [(cyL, .long)]) [5] rfl
  have hDc := hD.sub (ws' := [(x0, .inr (12, [.ref a1, .ref a2, .ref a3, .ref a4, .ref a5, .ref a6, .ref a7, .ref a8, .int 3, .int 0])), (a4, .inr (3, [.int 0, .ref z, .int 0])), (o1, .inl (cyL, 1, .inr (.inl (fun _ => 0))))]) [0, 4, 20] (by decide) rfl
  have hFc := va_free (wc := [(x0, .inr (12, [.ref a1, .ref a2, .ref a3, .ref a4, .ref a5, .ref a6, .ref a7, .ref a8, .int 3, .int 0])), (a4, .inr (3, [.int 0, .ref z, .int 0])), (o1, .inl (cyL, 1, .inr (.inl (fun _ => 0))))]) hD hS hA [0, 4, 20] rfl
  refine va_calli (vx_runSW (As := [.ref x0, .int (xs 1), .ref o1]) (rest := []) ⟨hx, hb, hml, hown, hts⟩ (k_L_wash l hfl G z x0 a1 a2 a3 a4 a5 a6 a7 a8 3 0 0 z ((xs 1)) o1 cyL (fun _ => 0) H.size ) (vx_cwSW 3 hts (lw_goodApp (lw_3 q957 q958 q0) q959) rfl rfl rfl (by decide +kernel) ⟨Nat.le_of_ble_eq_true rfl, Nat.le_of_ble_eq_true rfl⟩) ⟨PW.blind, PW.of hPc hKc hDc hG hS hFc [.ref x0, .int (xs 1), .ref o1]⟩ rfl rfl hl.1 rfl (lv_room (Nat.le_of_ble_eq_true rfl)) dL_law_1880 ⟨Nat.le_of_ble_eq_true rfl, Nat.le_of_ble_eq_true rfl⟩) hS (fun q _ h => hFc q h) hFc (fun r_4 u t_6 H_3 locs ht hvm hw_5 hB hz1 hk1 hS => ?_)
  obtain ⟨hP, hD, hK⟩ := QW.join (wr := [(a1, .inr (3, [.int 0, .ref z, .int 0])), (a2, .inr (3, [.int 0, .ref z, .int 0])), (a3, .inr (3, [.int 0, .ref z, .int 0])), (a5, .inr (3, [.int 0, .ref z, .int 0])), (a6, .inr (10, [.ref b1, .ref b2, .ref b3, .int 0])), (b1, .inl (cyA, 400, .inl (nI))), (b2, .inl (cyJ, 512, .inl (fun _ => 0))), (b3, .inl (cyT, 400, .inl (fun _ => 0))), (a7, .inr (4, [.ref d1, .ref d2, .ref d3, .ref d4, .int 0, .int 12])), (d4, .inl (cyO, 20, .inr (.inr (.inr (.inr (fS)))))), (r0, .inl (cyI, 20, .inl (fun _ => 0))), (y0, .inr (18, [.int 0, .ref l1, .ref l2, .ref l3, .ref l4, .ref l5, .ref l6, .int 0, .int 3, .int 12, .ref m1, .ref m2, .ref m3, .ref m4, .ref m5, .ref m6])), (l1, .inr (3, [.int 0, .ref z, .int 0])), (l2, .inr (3, [.int 0, .ref z, .int 0])), (l3, .inr (3, [.int 0, .ref z, .int 0])), (l4, .inr (3, [.int 0, .ref z, .int 0])), (l5, .inr (3, [.int 0, .ref z, .int 0])), (l6, .inr (3, [.int 0, .ref z, .int 0])), (o2, .inl (cyD, 1, .inr (.inr (.inr (.inl (fun _ => 0))))))]) (w1 := [(o1, .inl (cyL, 1, .inr (.inl ((fun _ => 0)))))]) hP hD hK [0, 4, 20] [1, 2, 3, 5, 6, 7, 8, 9, 10, 11, 12, 13, 14, 15, 16, 17, 18, 19, 21] rfl rfl (by decide) (by decide) hk1 hFc ht hvm hB
  have hP : va_P G vwCl ([(a1, .inr (3, [.int 0, .ref z, .int 0])), (a2, .inr (3, [.int 0, .ref z, .int 0])), (a3, .inr (3, [.int 0, .ref z, .int 0])), (a5, .inr (3, [.int 0, .ref z, .int 0])), (a6, .inr (10, [.ref b1, .ref b2, .ref b3, .int 0])), (b1, .inl (cyA, 400, .inl (nI))), (b2, .inl (cyJ, 512, .inl (fun _ => 0))), (b3, .inl (cyT, 400, .inl (fun _ => 0))), (a7, .inr (4, [.ref d1, .ref d2, .ref d3, .ref d4, .int 0, .int 12])), (d4, .inl (cyO, 20, .inr (.inr (.inr (.inr (fS)))))), (r0, .inl (cyI, 20, .inl (fun _ => 0))), (y0, .inr (18, [.int 0, .ref l1, .ref l2, .ref l3, .ref l4, .ref l5, .ref l6, .int 0, .int 3, .int 12, .ref m1, .ref m2, .ref m3, .ref m4, .ref m5, .ref m6])), (l1, .inr (3, [.int 0, .ref z, .int 0])), (l2, .inr (3, [.int 0, .ref z, .int 0])), (l3, .inr (3, [.int 0, .ref z, .int 0])), (l4, .inr (3, [.int 0, .ref z, .int 0])), (l5, .inr (3, [.int 0, .ref z, .int 0])), (l6, .inr (3, [.int 0, .ref z, .int 0])), (o2, .inl (cyD, 1, .inr (.inr (.inr (.inl (fun _ => 0)))))), (o1, .inl (cyL, 1, .inr (.inl ((fun _ => 0)))))]) H_3 := hP
  have hD : va_D A ([(a1, .inr (3, [.int 0, .ref z, .int 0])), (a2, .inr (3, [.int 0, .ref z, .int 0])), (a3, .inr (3, [.int 0, .ref z, .int 0])), (a5, .inr (3, [.int 0, .ref z, .int 0])), (a6, .inr (10, [.ref b1, .ref b2, .ref b3, .int 0])), (b1, .inl (cyA, 400, .inl (nI))), (b2, .inl (cyJ, 512, .inl (fun _ => 0))), (b3, .inl (cyT, 400, .inl (fun _ => 0))), (a7, .inr (4, [.ref d1, .ref d2, .ref d3, .ref d4, .int 0, .int 12])), (d4, .inl (cyO, 20, .inr (.inr (.inr (.inr (fS)))))), (r0, .inl (cyI, 20, .inl (fun _ => 0))), (y0, .inr (18, [.int 0, .ref l1, .ref l2, .ref l3, .ref l4, .ref l5, .ref l6, .int 0, .int 3, .int 12, .ref m1, .ref m2, .ref m3, .ref m4, .ref m5, .ref m6])), (l1, .inr (3, [.int 0, .ref z, .int 0])), (l2, .inr (3, [.int 0, .ref z, .int 0])), (l3, .inr (3, [.int 0, .ref z, .int 0])), (l4, .inr (3, [.int 0, .ref z, .int 0])), (l5, .inr (3, [.int 0, .ref z, .int 0])), (l6, .inr (3, [.int 0, .ref z, .int 0])), (o2, .inl (cyD, 1, .inr (.inr (.inr (.inl (fun _ => 0)))))), (o1, .inl (cyL, 1, .inr (.inl ((fun _ => 0)))))]) := hD
  have hK : va_K G vwCl [(cyA, .int), (cyJ, .int), (cyT, .int), (cyO, .array .int), (cyI, .int), (cyL, .long), (cyD, .double), (cyL, .long)] s := hK
  refine W.widen (k := 136) (n := 2997) (Nat.le_of_ble_eq_true rfl) (Nat.le_of_ble_eq_true rfl) ?_
  obtain rfl : 1 = r_4 := hw_5.symm
  refine lv_istore (lv' := [(6, .int 1), (0, .ref b), (1, .ref x0), (2, .ref y0), (3, .ref o1), (4, .ref o2), (5, .int 0)]) hx hb dL_law_1883 hl (by decide) rfl (fun ls hl => ?_)
  refine lv_aload_n hx hb dL_law_1885 rfl (lv_at hl 3 rfl) ?_
  refine lv_aload_n hx hb dL_law_1886 rfl (lv_at hl 1 rfl) ?_
  refine lv_iload hx hb dL_law_1887 (lv_at hl 6 rfl) ?_
  refine lv_iconst (v := 1) hx hb dL_law_1889 (by decide) ?_
  refine lv_iadd hx hb dL_law_1890 ?_
  refine lv_topi (fun f_7 ef_7 => ?_)
  obtain rfl : f_7 = 1 := ef_7.trans (by decide)
  refine va_sld hx hb hX hbl hbA hS (by unfold vp_in; decide +kernel) dL_law_1891 ?_
  refine lv_topi (fun f_8 ef_8 => ?_)
  obtain rfl : f_8 = xs 1 := ef_8
  have hPc := hP.sub (ws' := [(y0, .inr (18, [.int 0, .ref l1, .ref l2, .ref l3, .ref l4, .ref l5, .ref l6, .int 0, .int 3, .int 12, .ref m1, .ref m2, .ref m3, .ref m4, .ref m5, .ref m6])), (l4, .inr (3, [.int 0, .ref z, .int 0]))]) [11, 15] rfl
  have hKc := hK.sub (tys' := []) [] rfl
  have hDc := hD.sub (ws' := [(y0, .inr (18, [.int 0, .ref l1, .ref l2, .ref l3, .ref l4, .ref l5, .ref l6, .int 0, .int 3, .int 12, .ref m1, .ref m2, .ref m3, .ref m4, .ref m5, .ref m6])), (l4, .inr (3, [.int 0, .ref z, .int 0]))]) [11, 15] (by decide) rfl
  have hFc := va_free (wc := [(y0, .inr (18, [.int 0, .ref l1, .ref l2, .ref l3, .ref l4, .ref l5, .ref l6, .int 0, .int 3, .int 12, .ref m1, .ref m2, .ref m3, .ref m4, .ref m5, .ref m6])), (l4, .inr (3, [.int 0, .ref z, .int 0]))]) hD hS hA [11, 15] rfl
  refine va_calli (va_runV (As := [.int (xs 1)]) (rest := []) ⟨hx, hb, hml, hown, hts⟩ (k_X14_wash l G z y0 0 l1 l2 l3 l4 l5 l6 3 12 m1 m2 m3 m4 m5 m6 0 z ((xs 1)) H_3.size ) (cwV 1 hts (lw_goodApp (lw_4 q1585 q1586 q1587 q7) q1588) rfl rfl rfl (by decide +kernel) ⟨Nat.le_of_ble_eq_true rfl, Nat.le_of_ble_eq_true rfl⟩) ⟨PW.blind, va_recv hK hP (ci := 18) (q0 := 11) rfl rfl, PW.of hPc hKc hDc hG hS hFc [.ref y0, .int (xs 1)]⟩ rfl rfl hl.1 rfl (lv_room (Nat.le_of_ble_eq_true rfl)) dL_law_1892 ⟨Nat.le_of_ble_eq_true rfl, Nat.le_of_ble_eq_true rfl⟩) hS (fun q _ h => hFc q h) hFc (fun r_10 u t_12 H_9 locs ht hvm hw_11 hB hz1 hk1 hS => ?_)
  obtain ⟨hP, hD, hK⟩ := QW.join (wr := [(a1, .inr (3, [.int 0, .ref z, .int 0])), (a2, .inr (3, [.int 0, .ref z, .int 0])), (a3, .inr (3, [.int 0, .ref z, .int 0])), (a5, .inr (3, [.int 0, .ref z, .int 0])), (a6, .inr (10, [.ref b1, .ref b2, .ref b3, .int 0])), (b1, .inl (cyA, 400, .inl (nI))), (b2, .inl (cyJ, 512, .inl (fun _ => 0))), (b3, .inl (cyT, 400, .inl (fun _ => 0))), (a7, .inr (4, [.ref d1, .ref d2, .ref d3, .ref d4, .int 0, .int 12])), (d4, .inl (cyO, 20, .inr (.inr (.inr (.inr (fS)))))), (r0, .inl (cyI, 20, .inl (fun _ => 0))), (l1, .inr (3, [.int 0, .ref z, .int 0])), (l2, .inr (3, [.int 0, .ref z, .int 0])), (l3, .inr (3, [.int 0, .ref z, .int 0])), (l5, .inr (3, [.int 0, .ref z, .int 0])), (l6, .inr (3, [.int 0, .ref z, .int 0])), (o2, .inl (cyD, 1, .inr (.inr (.inr (.inl (fun _ => 0)))))), (o1, .inl (cyL, 1, .inr (.inl ((fun _ => 0)))))]) (w1 := [(y0, .inr (18, [.int 1, .ref l1, .ref l2, .ref l3, .ref l4, .ref l5, .ref l6, .int 0, .int 3, .int 12, .ref m1, .ref m2, .ref m3, .ref m4, .ref m5, .ref m6]))]) hP hD hK [11, 15] [0, 1, 2, 3, 4, 5, 6, 7, 8, 9, 10, 12, 13, 14, 16, 17, 18, 19] rfl rfl (by decide) (by decide) hk1 hFc ht hvm hB
  have hP : va_P G vwCl ([(a1, .inr (3, [.int 0, .ref z, .int 0])), (a2, .inr (3, [.int 0, .ref z, .int 0])), (a3, .inr (3, [.int 0, .ref z, .int 0])), (a5, .inr (3, [.int 0, .ref z, .int 0])), (a6, .inr (10, [.ref b1, .ref b2, .ref b3, .int 0])), (b1, .inl (cyA, 400, .inl (nI))), (b2, .inl (cyJ, 512, .inl (fun _ => 0))), (b3, .inl (cyT, 400, .inl (fun _ => 0))), (a7, .inr (4, [.ref d1, .ref d2, .ref d3, .ref d4, .int 0, .int 12])), (d4, .inl (cyO, 20, .inr (.inr (.inr (.inr (fS)))))), (r0, .inl (cyI, 20, .inl (fun _ => 0))), (l1, .inr (3, [.int 0, .ref z, .int 0])), (l2, .inr (3, [.int 0, .ref z, .int 0])), (l3, .inr (3, [.int 0, .ref z, .int 0])), (l5, .inr (3, [.int 0, .ref z, .int 0])), (l6, .inr (3, [.int 0, .ref z, .int 0])), (o2, .inl (cyD, 1, .inr (.inr (.inr (.inl (fun _ => 0)))))), (o1, .inl (cyL, 1, .inr (.inl ((fun _ => 0))))), (y0, .inr (18, [.int 1, .ref l1, .ref l2, .ref l3, .ref l4, .ref l5, .ref l6, .int 0, .int 3, .int 12, .ref m1, .ref m2, .ref m3, .ref m4, .ref m5, .ref m6]))]) H_9 := hP
  have hD : va_D A ([(a1, .inr (3, [.int 0, .ref z, .int 0])), (a2, .inr (3, [.int 0, .ref z, .int 0])), (a3, .inr (3, [.int 0, .ref z, .int 0])), (a5, .inr (3, [.int 0, .ref z, .int 0])), (a6, .inr (10, [.ref b1, .ref b2, .ref b3, .int 0])), (b1, .inl (cyA, 400, .inl (nI))), (b2, .inl (cyJ, 512, .inl (fun _ => 0))), (b3, .inl (cyT, 400, .inl (fun _ => 0))), (a7, .inr (4, [.ref d1, .ref d2, .ref d3, .ref d4, .int 0, .int 12])), (d4, .inl (cyO, 20, .inr (.inr (.inr (.inr (fS)))))), (r0, .inl (cyI, 20, .inl (fun _ => 0))), (l1, .inr (3, [.int 0, .ref z, .int 0])), (l2, .inr (3, [.int 0, .ref z, .int 0])), (l3, .inr (3, [.int 0, .ref z, .int 0])), (l5, .inr (3, [.int 0, .ref z, .int 0])), (l6, .inr (3, [.int 0, .ref z, .int 0])), (o2, .inl (cyD, 1, .inr (.inr (.inr (.inl (fun _ => 0)))))), (o1, .inl (cyL, 1, .inr (.inl ((fun _ => 0))))), (y0, .inr (18, [.int 1, .ref l1, .ref l2, .ref l3, .ref l4, .ref l5, .ref l6, .int 0, .int 3, .int 12, .ref m1, .ref m2, .ref m3, .ref m4, .ref m5, .ref m6]))]) := hD
  have hK : va_K G vwCl [(cyA, .int), (cyJ, .int), (cyT, .int), (cyO, .array .int), (cyI, .int), (cyL, .long), (cyD, .double), (cyL, .long)] s := hK
  refine W.widen (k := 136) (n := 2997) (Nat.le_of_ble_eq_true rfl) (Nat.le_of_ble_eq_true rfl) ?_
  refine lv_istore (lv' := [(7, .int r_10), (6, .int 1), (0, .ref b), (1, .ref x0), (2, .ref y0), (3, .ref o1), (4, .ref o2), (5, .int 0)]) hx hb dL_law_1895 hl (by decide) rfl (fun ls hl => ?_)
  refine lv_aload_n hx hb dL_law_1897 rfl (lv_at hl 4 rfl) ?_
  have hPc := hP.sub (ws' := [(y0, .inr (18, [.int 1, .ref l1, .ref l2, .ref l3, .ref l4, .ref l5, .ref l6, .int 0, .int 3, .int 12, .ref m1, .ref m2, .ref m3, .ref m4, .ref m5, .ref m6]))]) [18] rfl
  have hKc := hK.sub (tys' := []) [] rfl
  refine va_calli (va_runV (As := []) (rest := []) ⟨hx, hb, hml, hown, hts⟩ (k_X14_thrown l G z y0 1 l1 l2 l3 l4 l5 l6 3 12 m1 m2 m3 m4 m5 m6 H_9.size ) (cwV 0 hts (lw_goodApp (lw_4 q1236 q1237 q1238 q7) q1239) rfl rfl rfl (by decide +kernel) ⟨Nat.le_of_ble_eq_true rfl, Nat.le_of_ble_eq_true rfl⟩) ⟨PR.blind, va_recv hK hP (ci := 18) (q0 := 18) rfl rfl, PR.of hPc hKc hG hS hA [.ref y0]⟩ rfl rfl hl.1 rfl (lv_room (Nat.le_of_ble_eq_true rfl)) dL_law_1898 ⟨Nat.le_of_ble_eq_true rfl, Nat.le_of_ble_eq_true rfl⟩) hS (fun q h9 h => zN.not h9 h) (fun q h => hA q (Nat.le_trans hS.1 h)) (fun r_14 u t_16 H_13 locs ht hvm hw_15 hB hz1 hk1 hS => ?_)
  have hP := hP.grown hk1
  refine W.widen (k := 136) (n := 2997) (Nat.le_of_ble_eq_true rfl) (Nat.le_of_ble_eq_true rfl) ?_
  obtain rfl : 1 = r_14 := hw_15.symm
  refine lv_iload hx hb dL_law_1901 (lv_at hl 1 rfl) ?_
  refine lv_icmp_eq (tgt := 1908) hx hb dL_law_1903 (by decide) (fun c_17 => ?_) (fun c_17 => absurd rfl c_17)
  refine lv_iload hx hb dL_law_1908 (lv_at hl 1 rfl) ?_
  refine lv_if_ne (tgt := 1932) hx hb dL_law_1910 (by decide) (fun c_18 => ?_) (fun c_18 => absurd c_18 (by decide))
  refine lv_goto (tgt := 3288) hx hb dL_law_1932 (by decide) ?_
  exact law_tail hfl C0 hA hA2 hS (lv_sub hl [2, 7] rfl) (Nat.le_of_ble_eq_true rfl) (Nat.le_of_ble_eq_true rfl)
set_option maxHeartbeats 8000000 in
set_option maxRecDepth 100000 in
/-- script value 22 -/
theorem law_case_22 {p : Program} {l : Launch} {e : Env} {s : State} {m : MethodId} {below : List Frame} {meth : Method} {c : Code} {b : Nat} {xs : Nat → Int32} (hfl : l.stackTraces = false) (C0 : lw_At p s m meth c b 7 xs) {A : Nat → Prop} (hA : ∀ q : Nat, s.heap.size ≤ q → A q) (hA2 : ∀ q : Nat, A q → s.heap.size ≤ q) (G : va_G) (z : Nat) (hG : zG z A s s.heap) (x0 : Nat) (y0 : Nat) (o1 : Nat) (o2 : Nat) (cyL : ClassId) (cyD : ClassId) (a1 : Nat) (a2 : Nat) (a3 : Nat) (a4 : Nat) (a5 : Nat) (a6 : Nat) (a7 : Nat) (a8 : Nat) (b1 : Nat) (b2 : Nat) (b3 : Nat) (cyA : ClassId) (cyJ : ClassId) (cyT : ClassId) (d1 : Nat) (d2 : Nat) (d3 : Nat) (d4 : Nat) (cyO : ClassId) (fS : Nat → Option Nat) (cyI : ClassId) (r0 : Nat) (l1 : Nat) (l2 : Nat) (l3 : Nat) (l4 : Nat) (l5 : Nat) (l6 : Nat) (m1 : Nat) (m2 : Nat) (m3 : Nat) (m4 : Nat) (m5 : Nat) (m6 : Nat) (hf0 : fS 0 = some r0) {H : Heap} {locs : List Loc} (hP : va_P G vwCl ([(x0, .inr (12, [.ref a1, .ref a2, .ref a3, .ref a4, .ref a5, .ref a6, .ref a7, .ref a8, .int 3, .int 0])), (a1, .inr (3, [.int 0, .ref z, .int 0])), (a2, .inr (3, [.int 0, .ref z, .int 0])), (a3, .inr (3, [.int 0, .ref z, .int 0])), (a4, .inr (3, [.int 0, .ref z, .int 0])), (a5, .inr (3, [.int 0, .ref z, .int 0])), (a6, .inr (10, [.ref b1, .ref b2, .ref b3, .int 0])), (b1, .inl (cyA, 400, .inl (nI))), (b2, .inl (cyJ, 512, .inl (fun _ => 0))), (b3, .inl (cyT, 400, .inl (fun _ => 0))), (a7, .inr (4, [.ref d1, .ref d2, .ref d3, .ref d4, .int 0, .int 12])), (d4, .inl (cyO, 20, .inr (.inr (.inr (.inr (fS)))))), (r0, .inl (cyI, 20, .inl (fun _ => 0))), (y0, .inr (18, [.int 0, .ref l1, .ref l2, .ref l3, .ref l4, .ref l5, .ref l6, .int 0, .int 3, .int 12, .ref m1, .ref m2, .ref m3, .ref m4, .ref m5, .ref m6])), (l1, .inr (3, [.int 0, .ref z, .int 0])), (l2, .inr (3, [.int 0, .ref z, .int 0])), (l3, .inr (3, [.int 0, .ref z, .int 0])), (l4, .inr (3, [.int 0, .ref z, .int 0])), (l5, .inr (3, [.int 0, .ref z, .int 0])), (l6, .inr (3, [.int 0, .ref z, .int 0])), (o1, .inl (cyL, 1, .inr (.inl (fun _ => 0)))), (o2, .inl (cyD, 1, .inr (.inr (.inr (.inl (fun _ => 0))))))]) H) (hD : va_D A ([(x0, .inr (12, [.ref a1, .ref a2, .ref a3, .ref a4, .ref a5, .ref a6, .ref a7, .ref a8, .int 3, .int 0])), (a1, .inr (3, [.int 0, .ref z, .int 0])), (a2, .inr (3, [.int 0, .ref z, .int 0])), (a3, .inr (3, [.int 0, .ref z, .int 0])), (a4, .inr (3, [.int 0, .ref z, .int 0])), (a5, .inr (3, [.int 0, .ref z, .int 0])), (a6, .inr (10, [.ref b1, .ref b2, .ref b3, .int 0])), (b1, .inl (cyA, 400, .inl (nI))), (b2, .inl (cyJ, 512, .inl (fun _ => 0))), (b3, .inl (cyT, 400, .inl (fun _ => 0))), (a7, .inr (4, [.ref d1, .ref d2, .ref d3, .ref d4, .int 0, .int 12])), (d4, .inl (cyO, 20, .inr (.inr (.inr (.inr (fS)))))), (r0, .inl (cyI, 20, .inl (fun _ => 0))), (y0, .inr (18, [.int 0, .ref l1, .ref l2, .ref l3, .ref l4, .ref l5, .ref l6, .int 0, .int 3, .int 12, .ref m1, .ref m2, .ref m3, .ref m4, .ref m5, .ref m6])), (l1, .inr (3, [.int 0, .ref z, .int 0])), (l2, .inr (3, [.int 0, .ref z, .int 0])), (l3, .inr (3, [.int 0, .ref z, .int 0])), (l4, .inr (3, [.int 0, .ref z, .int 0])), (l5, .inr (3, [.int 0, .ref z, .int 0])), (l6, .inr (3, [.int 0, .ref z, .int 0])), (o1, .inl (cyL, 1, .inr (.inl (fun _ => 0)))), (o2, .inl (cyD, 1, .inr (.inr (.inr (.inl (fun _ => 0))))))])) (hK : va_K G vwCl [(cyA, .int), (cyJ, .int), (cyT, .int), (cyO, .array .int), (cyI, .int), (cyL, .long), (cyD, .double)] s) (hS : va_S A s.heap H locs) {ls : Array Slot} (hl : lv_has ls 9 [(0, .ref b), (1, .ref x0), (2, .ref y0), (3, .ref o1), (4, .ref o2), (5, .int 0)]) : W p l e room_1 s m #[Value.ref b] below meth c H locs 135 2991 (lw_Z below #[Value.ref b] s) (F0 m 1935 ls []) := by
  have C9 := C0
  obtain ⟨hx, hb, hr, hml, hown, hts0, hX, hbl, hlocks, hgv⟩ := id C0
  have hg := lw_sub_good hts0
  have hts : ∀ w ∈ (lw_hd :: lw_good), w.before #[Value.ref b] s = true := fun w h => (List.mem_cons.mp h).elim (fun e9 => e9 ▸ hg _ q0) (hg w)
  have hbA : ¬ A b := fun h => Nat.not_le.mpr hbl (hA2 b h)
  refine lv_aload_n hx hb dL_law_1935 rfl (lv_at hl 1 rfl) ?_
  refine lv_aload_n hx hb dL_law_1936 rfl (lv_at hl 0 rfl) ?_
  refine lv_iload hx hb dL_law_1937 (lv_at hl 5 rfl) ?_
  refine lv_iconst (v := 1) hx hb dL_law_1939 (by decide) ?_
  refine lv_iadd hx hb dL_law_1940 ?_
  refine lv_topi (fun f_1 ef_1 => ?_)
  obtain rfl : f_1 = 1 := ef_1.trans (by decide)
  refine va_sld hx hb hX hbl hbA hS (by unfold vp_in; decide +kernel) dL_law_1941 ?_
  refine lv_topi (fun f_2 ef_2 => ?_)
  obtain rfl : f_2 = xs 1 := ef_2
  refine lv_aload_n hx hb dL_law_1942 rfl (lv_at hl 0 rfl) ?_
  refine lv_iload hx hb dL_law_1943 (lv_at hl 5 rfl) ?_
  refine lv_iconst (v := 2) hx hb dL_law_1945 (by decide) ?_
  refine lv_iadd hx hb dL_law_1946 ?_
  refine lv_topi (fun f_3 ef_3 => ?_)
  obtain rfl : f_3 = 2 := ef_3.trans (by decide)
  refine va_sld hx hb hX hbl hbA hS (by unfold vp_in; decide +kernel) dL_law_1947 ?_
  refine lv_topi (fun f_4 ef_4 => ?_)
  obtain rfl : f_4 = xs 2 := ef_4
  refine lv_aload_n hx hb dL_law_1948 rfl (lv_at hl 0 rfl) ?_
  refine lv_iload hx hb dL_law_1949 (lv_at hl 5 rfl) ?_
  refine lv_iconst (v := 3) hx hb dL_law_1951 (by decide) ?_
  refine lv_iadd hx hb dL_law_1952 ?_
  refine lv_topi (fun f_5 ef_5 => ?_)
  obtain rfl : f_5 = 3 := ef_5.trans (by decide)
  refine va_sld hx hb hX hbl hbA hS (by unfold vp_in; decide +kernel) dL_law_1953 ?_
  refine lv_topi (fun f_6 ef_6 => ?_)
  obtain rfl : f_6 = xs 3 := ef_6
  refine lv_aload_n hx hb dL_law_1954 rfl (lv_at hl 0 rfl) ?_
  refine lv_iload hx hb dL_law_1955 (lv_at hl 5 rfl) ?_
  refine lv_iconst (v := 4) hx hb dL_law_1957 (by decide) ?_
  refine lv_iadd hx hb dL_law_1958 ?_
  refine lv_topi (fun f_7 ef_7 => ?_)
  obtain rfl : f_7 = 4 := ef_7.trans (by decide)
  refine va_sld hx hb hX hbl hbA hS (by unfold vp_in; decide +kernel) dL_law_1959 ?_
  refine lv_topi (fun f_8 ef_8 => ?_)
  obtain rfl : f_8 = xs 4 := ef_8
  refine lv_aload_n hx hb dL_law_1960 rfl (lv_at hl 3 rfl) ?_
  have hPc := hP.sub (ws' := [(x0, .inr (12, [.ref a1, .ref a2, .ref a3, .ref a4, .ref a5, .ref a6, .ref a7, .ref a8, .int 3, .int 0])), (a4, .inr (3, [.int 0, .ref z, .int 0])), (o1, .inl (cyL, 1, .inr (.inl (fun _ => 0))))]) [0, 4, 20] rfl
  have hKc := hK.sub (tys' := [(cyL, .long)]) [5] rfl
  have hDc := hD.sub (ws' := [(x0, .inr (12, [.ref a1, .ref a2, .ref a3, .ref a4, .ref a5, .ref a6, .ref a7, .ref a8, .int 3, .int 0])), (a4, .inr (3, [.int 0, .ref z, .int 0])), (o1, .inl (cyL, 1, .inr (.inl (fun _ => 0))))]) [0, 4, 20] (by decide) rfl
  have hFc := va_free (wc := [(x0, .inr (12, [.ref a1, .ref a2, .ref a3, .ref a4, .ref a5, .ref a6, .ref a7, .ref a8, .int 3, .int 0])), (a4, .inr (3, [.int 0, .ref z, .int 0])), (o1, .inl (cyL, 1, .inr (.inl (fun _ => 0))))]) hD hS hA [0, 4, 20] rfl
  refine va_calli (vx_runSW (As := [.ref x0, .int (xs 1), .int (xs 2), .int (xs 3), .int (xs 4), .ref o1]) (rest := []) ⟨hx, hb, hml, hown, hts⟩ (k_L_image l hfl G z x0 a1 a2 a3 a4 a5 a6 a7 a8 3 0 0 z ((xs 1)) ((xs 2)) ((xs 3)) ((xs 4)) o1 cyL (fun _ => 0) H.size ) (vx_cwSW 6 hts (lw_goodApp (lw_3 q964 q965 q0) q966) rfl rfl rfl (by decide +kernel) ⟨Nat.le_of_ble_eq_true rfl, Nat.le_of_ble_eq_true rfl⟩) ⟨PW.blind, PW.of hPc hKc hDc hG hS hFc [.ref x0, .int (xs 1), .int (xs 2), .int (xs 3), .int (xs 4), .ref o1]⟩ rfl rfl hl.1 rfl (lv_room (Nat.le_of_ble_eq_true rfl)) dL_law_1961 ⟨Nat.le_of_ble_eq_true rfl, Nat.le_of_ble_eq_true rfl⟩) hS (fun q _ h => hFc q h) hFc (fun r_10 u t_12 H_9 locs ht hvm hw_11 hB hz1 hk1 hS => ?_)
  obtain ⟨hP, hD, hK⟩ := QW.join (wr := [(a1, .inr (3, [.int 0, .ref z, .int 0])), (a2, .inr (3, [.int 0, .ref z, .int 0])), (a3, .inr (3, [.int 0, .ref z, .int 0])), (a5, .inr (3, [.int 0, .ref z, .int 0])), (a6, .inr (10, [.ref b1, .ref b2, .ref b3, .int 0])), (b1, .inl (cyA, 400, .inl (nI))), (b2, .inl (cyJ, 512, .inl (fun _ => 0))), (b3, .inl (cyT, 400, .inl (fun _ => 0))), (a7, .inr (4, [.ref d1, .ref d2, .ref d3, .ref d4, .int 0, .int 12])), (d4, .inl (cyO, 20, .inr (.inr (.inr (.inr (fS)))))), (r0, .inl (cyI, 20, .inl (fun _ => 0))), (y0, .inr (18, [.int 0, .ref l1, .ref l2, .ref l3, .ref l4, .ref l5, .ref l6, .int 0, .int 3, .int 12, .ref m1, .ref m2, .ref m3, .ref m4, .ref m5, .ref m6])), (l1, .inr (3, [.int 0, .ref z, .int 0])), (l2, .inr (3, [.int 0, .ref z, .int 0])), (l3, .inr (3, [.int 0, .ref z, .int 0])), (l4, .inr (3, [.int 0, .ref z, .int 0])), (l5, .inr (3, [.int 0, .ref z, .int 0])), (l6, .inr (3, [.int 0, .ref z, .int 0])), (o2, .inl (cyD, 1, .inr (.inr (.inr (.inl (fun _ => 0))))))]) (w1 := [(o1, .inl (cyL, 1, .inr (.inl ((fun _ => 0)))))]) hP hD hK [0, 4, 20] [1, 2, 3, 5, 6, 7, 8, 9, 10, 11, 12, 13, 14, 15, 16, 17, 18, 19, 21] rfl rfl (by decide) (by decide) hk1 hFc ht hvm hB
  have hP : va_P G vwCl ([(a1, .inr (3, [.int 0, .ref z, .int 0])), (a2, .inr (3, [.int 0, .ref z, .int 0])), (a3, .inr (3, [.int 0, .ref z, .int 0])), (a5, .inr (3, [.int 0, .ref z, .int 0])), (a6, .inr (10, [.ref b1, .ref b2, .ref b3, .int 0])), (b1, .inl (cyA, 400, .inl (nI))), (b2, .inl (cyJ, 512, .inl (fun _ => 0))), (b3, .inl (cyT, 400, .inl (fun _ => 0))), (a7, .inr (4, [.ref d1, .ref d2, .ref d3, .ref d4, .int 0, .int 12])), (d4, .inl (cyO, 20, .inr (.inr (.inr (.inr (fS)))))), (r0, .inl (cyI, 20, .inl (fun _ => 0))), (y0, .inr (18, [.int 0, .ref l1, .ref l2, .ref l3, .ref l4, .ref l5, .ref l6, .int 0, .int 3, .int 12, .ref m1, .ref m2, .ref m3, .ref m4, .ref m5, .ref m6])), (l1, .inr (3, [.int 0, .ref z, .int 0])), (l2, .inr (3, [.int 0, .ref z, .int 0])), (l3, .inr (3, [.int 0, .ref z, .int 0])), (l4, .inr (3, [.int 0, .ref z, .int 0])), (l5, .inr (3, [.int 0, .ref z, .int 0])), (l6, .inr (3, [.int 0, .ref z, .int 0])), (o2, .inl (cyD, 1, .inr (.inr (.inr (.inl (fun _ => 0)))))), (o1, .inl (cyL, 1, .inr (.inl ((fun _ => 0)))))]) H_9 := hP
  have hD : va_D A ([(a1, .inr (3, [.int 0, .ref z, .int 0])), (a2, .inr (3, [.int 0, .ref z, .int 0])), (a3, .inr (3, [.int 0, .ref z, .int 0])), (a5, .inr (3, [.int 0, .ref z, .int 0])), (a6, .inr (10, [.ref b1, .ref b2, .ref b3, .int 0])), (b1, .inl (cyA, 400, .inl (nI))), (b2, .inl (cyJ, 512, .inl (fun _ => 0))), (b3, .inl (cyT, 400, .inl (fun _ => 0))), (a7, .inr (4, [.ref d1, .ref d2, .ref d3, .ref d4, .int 0, .int 12])), (d4, .inl (cyO, 20, .inr (.inr (.inr (.inr (fS)))))), (r0, .inl (cyI, 20, .inl (fun _ => 0))), (y0, .inr (18, [.int 0, .ref l1, .ref l2, .ref l3, .ref l4, .ref l5, .ref l6, .int 0, .int 3, .int 12, .ref m1, .ref m2, .ref m3, .ref m4, .ref m5, .ref m6])), (l1, .inr (3, [.int 0, .ref z, .int 0])), (l2, .inr (3, [.int 0, .ref z, .int 0])), (l3, .inr (3, [.int 0, .ref z, .int 0])), (l4, .inr (3, [.int 0, .ref z, .int 0])), (l5, .inr (3, [.int 0, .ref z, .int 0])), (l6, .inr (3, [.int 0, .ref z, .int 0])), (o2, .inl (cyD, 1, .inr (.inr (.inr (.inl (fun _ => 0)))))), (o1, .inl (cyL, 1, .inr (.inl ((fun _ => 0)))))]) := hD
  have hK : va_K G vwCl [(cyA, .int), (cyJ, .int), (cyT, .int), (cyO, .array .int), (cyI, .int), (cyL, .long), (cyD, .double), (cyL, .long)] s := hK
  refine W.widen (k := 136) (n := 2997) (Nat.le_of_ble_eq_true rfl) (Nat.le_of_ble_eq_true rfl) ?_
  obtain rfl : 1 = r_10 := hw_11.symm
  refine lv_istore (lv' := [(6, .int 1), (0, .ref b), (1, .ref x0), (2, .ref y0), (3, .ref o1), (4, .ref o2), (5, .int 0)]) hx hb dL_law_1964 hl (by decide) rfl (fun ls hl => ?_)
  refine lv_aload_n hx hb dL_law_1966 rfl (lv_at hl 3 rfl) ?_
  refine lv_aload_n hx hb dL_law_1967 rfl (lv_at hl 1 rfl) ?_
  refine lv_iload hx hb dL_law_1968 (lv_at hl 6 rfl) ?_
  refine lv_iconst (v := 1) hx hb dL_law_1970 (by decide) ?_
  refine lv_iadd hx hb dL_law_1971 ?_
  refine lv_topi (fun f_13 ef_13 => ?_)
  obtain rfl : f_13 = 1 := ef_13.trans (by decide)
  refine va_sld hx hb hX hbl hbA hS (by unfold vp_in; decide +kernel) dL_law_1972 ?_
  refine lv_topi (fun f_14 ef_14 => ?_)
  obtain rfl : f_14 = xs 1 := ef_14
  refine lv_aload_n hx hb dL_law_1973 rfl (lv_at hl 1 rfl) ?_
  refine lv_iload hx hb dL_law_1974 (lv_at hl 6 rfl) ?_
  refine lv_iconst (v := 2) hx hb dL_law_1976 (by decide) ?_
  refine lv_iadd hx hb dL_law_1977 ?_
  refine lv_topi (fun f_15 ef_15 => ?_)
  obtain rfl : f_15 = 2 := ef_15.trans (by decide)
  refine va_sld hx hb hX hbl hbA hS (by unfold vp_in; decide +kernel) dL_law_1978 ?_
  refine lv_topi (fun f_16 ef_16 => ?_)
  obtain rfl : f_16 = xs 2 := ef_16
  refine lv_aload_n hx hb dL_law_1979 rfl (lv_at hl 1 rfl) ?_
  refine lv_iload hx hb dL_law_1980 (lv_at hl 6 rfl) ?_
  refine lv_iconst (v := 3) hx hb dL_law_1982 (by decide) ?_
  refine lv_iadd hx hb dL_law_1983 ?_
  refine lv_topi (fun f_17 ef_17 => ?_)
  obtain rfl : f_17 = 3 := ef_17.trans (by decide)
  refine va_sld hx hb hX hbl hbA hS (by unfold vp_in; decide +kernel) dL_law_1984 ?_
  refine lv_topi (fun f_18 ef_18 => ?_)
  obtain rfl : f_18 = xs 3 := ef_18
  refine lv_aload_n hx hb dL_law_1985 rfl (lv_at hl 1 rfl) ?_
  refine lv_iload hx hb dL_law_1986 (lv_at hl 6 rfl) ?_
  refine lv_iconst (v := 4) hx hb dL_law_1988 (by decide) ?_
  refine lv_iadd hx hb dL_law_1989 ?_
  refine lv_topi (fun f_19 ef_19 => ?_)
  obtain rfl : f_19 = 4 := ef_19.trans (by decide)
  refine va_sld hx hb hX hbl hbA hS (by unfold vp_in; decide +kernel) dL_law_1990 ?_
  refine lv_topi (fun f_20 ef_20 => ?_)
  obtain rfl : f_20 = xs 4 := ef_20
  have hPc := hP.sub (ws' := [(y0, .inr (18, [.int 0, .ref l1, .ref l2, .ref l3, .ref l4, .ref l5, .ref l6, .int 0, .int 3, .int 12, .ref m1, .ref m2, .ref m3, .ref m4, .ref m5, .ref m6])), (l4, .inr (3, [.int 0, .ref z, .int 0]))]) [11, 15] rfl
  have hKc := hK.sub (tys' := []) [] rfl
  have hDc := hD.sub (ws' := [(y0, .inr (18, [.int 0, .ref l1, .ref l2, .ref l3, .ref l4, .ref l5, .ref l6, .int 0, .int 3, .int 12, .ref m1, .ref m2, .ref m3, .ref m4, .ref m5, .ref m6])), (l4, .inr (3, [.int 0, .ref z, .int 0]))]) [11, 15] (by decide) rfl
  have hFc := va_free (wc := [(y0, .inr (18, [.int 0, .ref l1, .ref l2, .ref l3, .ref l4, .ref l5, .ref l6, .int 0, .int 3, .int 12, .ref m1, .ref m2, .ref m3, .ref m4, .ref m5, .ref m6])), (l4, .inr (3, [.int 0, .ref z, .int 0]))]) hD hS hA [11, 15] rfl
  refine va_calli (va_runV (As := [.int (xs 1), .int (xs 2), .int (xs 3), .int (xs 4)]) (rest := []) ⟨hx, hb, hml, hown, hts⟩ (k_X14_image l G z y0 0 l1 l2 l3 l4 l5 l6 3 12 m1 m2 m3 m4 m5 m6 0 z ((xs 1)) ((xs 2)) ((xs 3)) ((xs 4)) H_9.size ) (cwV 4 hts (lw_goodApp (lw_4 q1589 q1590 q1591 q7) q1592) rfl rfl rfl (by decide +kernel) ⟨Nat.le_of_ble_eq_true rfl, Nat.le_of_ble_eq_true rfl⟩) ⟨PW.blind, va_recv hK hP (ci := 18) (q0 := 11) rfl rfl, PW.of hPc hKc hDc hG hS hFc [.ref y0, .int (xs 1), .int (xs 2), .int (xs 3), .int (xs 4)]⟩ rfl rfl hl.1 rfl (lv_room (Nat.le_of_ble_eq_true rfl)) dL_law_1991 ⟨Nat.le_of_ble_eq_true rfl, Nat.le_of_ble_eq_true rfl⟩) hS (fun q _ h => hFc q h) hFc (fun r_22 u t_24 H_21 locs ht hvm hw_23 hB hz1 hk1 hS => ?_)
  obtain ⟨hP, hD, hK⟩ := QW.join (wr := [(a1, .inr (3, [.int 0, .ref z, .int 0])), (a2, .inr (3, [.int 0, .ref z, .int 0])), (a3, .inr (3, [.int 0, .ref z, .int 0])), (a5, .inr (3, [.int 0, .ref z, .int 0])), (a6, .inr (10, [.ref b1, .ref b2, .ref b3, .int 0])), (b1, .inl (cyA, 400, .inl (nI))), (b2, .inl (cyJ, 512, .inl (fun _ => 0))), (b3, .inl (cyT, 400, .inl (fun _ => 0))), (a7, .inr (4, [.ref d1, .ref d2, .ref d3, .ref d4, .int 0, .int 12])), (d4, .inl (cyO, 20, .inr (.inr (.inr (.inr (fS)))))), (r0, .inl (cyI, 20, .inl (fun _ => 0))), (l1, .inr (3, [.int 0, .ref z, .int 0])), (l2, .inr (3, [.int 0, .ref z, .int 0])), (l3, .inr (3, [.int 0, .ref z, .int 0])), (l5, .inr (3, [.int 0, .ref z, .int 0])), (l6, .inr (3, [.int 0, .ref z, .int 0])), (o2, .inl (cyD, 1, .inr (.inr (.inr (.inl (fun _ => 0)))))), (o1, .inl (cyL, 1, .inr (.inl ((fun _ => 0)))))]) (w1 := [(y0, .inr (18, [.int 1, .ref l1, .ref l2, .ref l3, .ref l4, .ref l5, .ref l6, .int 0, .int 3, .int 12, .ref m1, .ref m2, .ref m3, .ref m4, .ref m5, .ref m6]))]) hP hD hK [11, 15] [0, 1, 2, 3, 4, 5, 6, 7, 8, 9, 10, 12, 13, 14, 16, 17, 18, 19] rfl rfl (by decide) (by decide) hk1 hFc ht hvm hB
  have hP : va_P G vwCl ([(a1, .inr (3, [.int 0, .ref z, .int 0])), (a2, .inr (3, [.int 0, .ref z, .int 0])), (a3, .inr (3, [.int 0, .ref z, .int 0])), (a5, .inr (3, [.int 0, .ref z, .int 0])), (a6, .inr (10, [.ref b1, .ref b2, .ref b3, .int 0])), (b1, .inl (cyA, 400, .inl (nI))), (b2, .inl (cyJ, 512, .inl (fun _ => 0))), (b3, .inl (cyT, 400, .inl (fun _ => 0))), (a7, .inr (4, [.ref d1, .ref d2, .ref d3, .ref d4, .int 0, .int 12])), (d4, .inl (cyO, 20, .inr (.inr (.inr (.inr (fS)))))), (r0, .inl (cyI, 20, .inl (fun _ => 0))), (l1, .inr (3, [.int 0, .ref z, .int 0])), (l2, .inr (3, [.int 0, .ref z, .int 0])), (l3, .inr (3, [.int 0, .ref z, .int 0])), (l5, .inr (3, [.int 0, .ref z, .int 0])), (l6, .inr (3, [.int 0, .ref z, .int 0])), (o2, .inl (cyD, 1, .inr (.inr (.inr (.inl (fun _ => 0)))))), (o1, .inl (cyL, 1, .inr (.inl ((fun _ => 0))))), (y0, .inr (18, [.int 1, .ref l1, .ref l2, .ref l3, .ref l4, .ref l5, .ref l6, .int 0, .int 3, .int 12, .ref m1, .ref m2, .ref m3, .ref m4, .ref m5, .ref m6]))]) H_21 := hP
  have hD : va_D A ([(a1, .inr (3, [.int 0, .ref z, .int 0])), (a2, .inr (3, [.int 0, .ref z, .int 0])), (a3, .inr (3, [.int 0, .ref z, .int 0])), (a5, .inr (3, [.int 0, .ref z, .int 0])), (a6, .inr (10, [.ref b1, .ref b2, .ref b3, .int 0])), (b1, .inl (cyA, 400, .inl (nI))), (b2, .inl (cyJ, 512, .inl (fun _ => 0))), (b3, .inl (cyT, 400, .inl (fun _ => 0))), (a7, .inr (4, [.ref d1, .ref d2, .ref d3, .ref d4, .int 0, .int 12])), (d4, .inl (cyO, 20, .inr (.inr (.inr (.inr (fS)))))), (r0, .inl (cyI, 20, .inl (fun _ => 0))), (l1, .inr (3, [.int 0, .ref z, .int 0])), (l2, .inr (3, [.int 0, .ref z, .int 0])), (l3, .inr (3, [.int 0, .ref z, .int 0])), (l5, .inr (3, [.int 0, .ref z, .int 0])), (l6, .inr (3, [.int 0, .ref z, .int 0])), (o2, .inl (cyD, 1, .inr (.inr (.inr (.inl (fun _ => 0)))))), (o1, .inl (cyL, 1, .inr (.inl ((fun _ => 0))))), (y0, .inr (18, [.int 1, .ref l1, .ref l2, .ref l3, .ref l4, .ref l5, .ref l6, .int 0, .int 3, .int 12, .ref m1, .ref m2, .ref m3, .ref m4, .ref m5, .ref m6]))]) := hD
  have hK : va_K G vwCl [(cyA, .int), (cyJ, .int), (cyT, .int), (cyO, .array .int), (cyI, .int), (cyL, .long), (cyD, .double), (cyL, .long)] s := hK
  refine W.widen (k := 136) (n := 2997) (Nat.le_of_ble_eq_true rfl) (Nat.le_of_ble_eq_true rfl) ?_
  refine lv_istore (lv' := [(7, .int r_22), (6, .int 1), (0, .ref b), (1, .ref x0), (2, .ref y0), (3, .ref o1), (4, .ref o2), (5, .int 0)]) hx hb dL_law_1994 hl (by decide) rfl (fun ls hl => ?_)
  refine lv_aload_n hx hb dL_law_1996 rfl (lv_at hl 4 rfl) ?_
  have hPc := hP.sub (ws' := [(y0, .inr (18, [.int 1, .ref l1, .ref l2, .ref l3, .ref l4, .ref l5, .ref l6, .int 0, .int 3, .int 12, .ref m1, .ref m2, .ref m3, .ref m4, .ref m5, .ref m6]))]) [18] rfl
  have hKc := hK.sub (tys' := []) [] rfl
  refine va_calli (va_runV (As := []) (rest := []) ⟨hx, hb, hml, hown, hts⟩ (k_X14_thrown l G z y0 1 l1 l2 l3 l4 l5 l6 3 12 m1 m2 m3 m4 m5 m6 H_21.size ) (cwV 0 hts (lw_goodApp (lw_4 q1236 q1237 q1238 q7) q1239) rfl rfl rfl (by decide +kernel) ⟨Nat.le_of_ble_eq_true rfl, Nat.le_of_ble_eq_true rfl⟩) ⟨PR.blind, va_recv hK hP (ci := 18) (q0 := 18) rfl rfl, PR.of hPc hKc hG hS hA [.ref y0]⟩ rfl rfl hl.1 rfl (lv_room (Nat.le_of_ble_eq_true rfl)) dL_law_1997 ⟨Nat.le_of_ble_eq_true rfl, Nat.le_of_ble_eq_true rfl⟩) hS (fun q h9 h => zN.not h9 h) (fun q h => hA q (Nat.le_trans hS.1 h)) (fun r_26 u t_28 H_25 locs ht hvm hw_27 hB hz1 hk1 hS => ?_)
  have hP := hP.grown hk1
  refine W.widen (k := 136) (n := 2997) (Nat.le_of_ble_eq_true rfl) (Nat.le_of_ble_eq_true rfl) ?_
  obtain rfl : 1 = r_26 := hw_27.symm
  refine lv_iload hx hb dL_law_2000 (lv_at hl 1 rfl) ?_
  refine lv_icmp_eq (tgt := 2007) hx hb dL_law_2002 (by decide) (fun c_29 => ?_) (fun c_29 => absurd rfl c_29)
  refine lv_iload hx hb dL_law_2007 (lv_at hl 1 rfl) ?_
  refine lv_if_ne (tgt := 2024) hx hb dL_law_2009 (by decide) (fun c_30 => ?_) (fun c_30 => absurd c_30 (by decide))
  refine lv_goto (tgt := 3288) hx hb dL_law_2024 (by decide) ?_
  exact law_tail hfl C0 hA hA2 hS (lv_sub hl [2, 7] rfl) (Nat.le_of_ble_eq_true rfl) (Nat.le_of_ble_eq_true rfl)
set_option maxHeartbeats 8000000 in
set_option maxRecDepth 100000 in
/-- script value 23 -/
theorem law_case_23 {p : Program} {l : Launch} {e : Env} {s : State} {m : MethodId} {below : List Frame} {meth : Method} {c : Code} {b : Nat} {xs : Nat → Int32} (hfl : l.stackTraces = false) (C0 : lw_At p s m meth c b 7 xs) {A : Nat → Prop} (hA : ∀ q : Nat, s.heap.size ≤ q → A q) (hA2 : ∀ q : Nat, A q → s.heap.size ≤ q) (G : va_G) (z : Nat) (hG : zG z A s s.heap) (x0 : Nat) (y0 : Nat) (o1 : Nat) (o2 : Nat) (cyL : ClassId) (cyD : ClassId) (a1 : Nat) (a2 : Nat) (a3 : Nat) (a4 : Nat) (a5 : Nat) (a6 : Nat) (a7 : Nat) (a8 : Nat) (b1 : Nat) (b2 : Nat) (b3 : Nat) (cyA : ClassId) (cyJ : ClassId) (cyT : ClassId) (d1 : Nat) (d2 : Nat) (d3 : Nat) (d4 : Nat) (cyO : ClassId) (fS : Nat → Option Nat) (cyI : ClassId) (r0 : Nat) (l1 : Nat) (l2 : Nat) (l3 : Nat) (l4 : Nat) (l5 : Nat) (l6 : Nat) (m1 : Nat) (m2 : Nat) (m3 : Nat) (m4 : Nat) (m5 : Nat) (m6 : Nat) (hf0 : fS 0 = some r0) {H : Heap} {locs : List Loc} (hP : va_P G vwCl ([(x0, .inr (12, [.ref a1, .ref a2, .ref a3, .ref a4, .ref a5, .ref a6, .ref a7, .ref a8, .int 3, .int 0])), (a1, .inr (3, [.int 0, .ref z, .int 0])), (a2, .inr (3, [.int 0, .ref z, .int 0])), (a3, .inr (3, [.int 0, .ref z, .int 0])), (a4, .inr (3, [.int 0, .ref z, .int 0])), (a5, .inr (3, [.int 0, .ref z, .int 0])), (a6, .inr (10, [.ref b1, .ref b2, .ref b3, .int 0])), (b1, .inl (cyA, 400, .inl (nI))), (b2, .inl (cyJ, 512, .inl (fun _ => 0))), (b3, .inl (cyT, 400, .inl (fun _ => 0))), (a7, .inr (4, [.ref d1, .ref d2, .ref d3, .ref d4, .int 0, .int 12])), (d4, .inl (cyO, 20, .inr (.inr (.inr (.inr (fS)))))), (r0, .inl (cyI, 20, .inl (fun _ => 0))), (y0, .inr (18, [.int 0, .ref l1, .ref l2, .ref l3, .ref l4, .ref l5, .ref l6, .int 0, .int 3, .int 12, .ref m1, .ref m2, .ref m3, .ref m4, .ref m5, .ref m6])), (l1, .inr (3, [.int 0, .ref z, .int 0])), (l2, .inr (3, [.int 0, .ref z, .int 0])), (l3, .inr (3, [.int 0, .ref z, .int 0])), (l4, .inr (3, [.int 0, .ref z, .int 0])), (l5, .inr (3, [.int 0, .ref z, .int 0])), (l6, .inr (3, [.int 0, .ref z, .int 0])), (o1, .inl (cyL, 1, .inr (.inl (fun _ => 0)))), (o2, .inl (cyD, 1, .inr (.inr (.inr (.inl (fun _ => 0))))))]) H) (hD : va_D A ([(x0, .inr (12, [.ref a1, .ref a2, .ref a3, .ref a4, .ref a5, .ref a6, .ref a7, .ref a8, .int 3, .int 0])), (a1, .inr (3, [.int 0, .ref z, .int 0])), (a2, .inr (3, [.int 0, .ref z, .int 0])), (a3, .inr (3, [.int 0, .ref z, .int 0])), (a4, .inr (3, [.int 0, .ref z, .int 0])), (a5, .inr (3, [.int 0, .ref z, .int 0])), (a6, .inr (10, [.ref b1, .ref b2, .ref b3, .int 0])), (b1, .inl (cyA, 400, .inl (nI))), (b2, .inl (cyJ, 512, .inl (fun _ => 0))), (b3, .inl (cyT, 400, .inl (fun _ => 0))), (a7, .inr (4, [.ref d1, .ref d2, .ref d3, .ref d4, .int 0, .int 12])), (d4, .inl (cyO, 20, .inr (.inr (.inr (.inr (fS)))))), (r0, .inl (cyI, 20, .inl (fun _ => 0))), (y0, .inr (18, [.int 0, .ref l1, .ref l2, .ref l3, .ref l4, .ref l5, .ref l6, .int 0, .int 3, .int 12, .ref m1, .ref m2, .ref m3, .ref m4, .ref m5, .ref m6])), (l1, .inr (3, [.int 0, .ref z, .int 0])), (l2, .inr (3, [.int 0, .ref z, .int 0])), (l3, .inr (3, [.int 0, .ref z, .int 0])), (l4, .inr (3, [.int 0, .ref z, .int 0])), (l5, .inr (3, [.int 0, .ref z, .int 0])), (l6, .inr (3, [.int 0, .ref z, .int 0])), (o1, .inl (cyL, 1, .inr (.inl (fun _ => 0)))), (o2, .inl (cyD, 1, .inr (.inr (.inr (.inl (fun _ => 0))))))])) (hK : va_K G vwCl [(cyA, .int), (cyJ, .int), (cyT, .int), (cyO, .array .int), (cyI, .int), (cyL, .long), (cyD, .double)] s) (hS : va_S A s.heap H locs) {ls : Array Slot} (hl : lv_has ls 9 [(0, .ref b), (1, .ref x0), (2, .ref y0), (3, .ref o1), (4, .ref o2), (5, .int 0)]) : W p l e room_1 s m #[Value.ref b] below meth c H locs 135 2991 (lw_Z below #[Value.ref b] s) (F0 m 2027 ls []) := by
  have C9 := C0
  obtain ⟨hx, hb, hr, hml, hown, hts0, hX, hbl, hlocks, hgv⟩ := id C0
  have hg := lw_sub_good hts0
  have hts : ∀ w ∈ (lw_hd :: lw_good), w.before #[Value.ref b] s = true := fun w h => (List.mem_cons.mp h).elim (fun e9 => e9 ▸ hg _ q0) (hg w)
  have hbA : ¬ A b := fun h => Nat.not_le.mpr hbl (hA2 b h)
  refine lv_aload_n hx hb dL_law_2027 rfl (lv_at hl 1 rfl) ?_
  refine lv_aload_n hx hb dL_law_2028 rfl (lv_at hl 0 rfl) ?_
  refine lv_iload hx hb dL_law_2029 (lv_at hl 5 rfl) ?_
  refine lv_iconst (v := 1) hx hb dL_law_2031 (by decide) ?_
  refine lv_iadd hx hb dL_law_2032 ?_
  refine lv_topi (fun f_1 ef_1 => ?_)
  obtain rfl : f_1 = 1 := ef_1.trans (by decide)
  refine va_sld hx hb hX hbl hbA hS (by unfold vp_in; decide +kernel) dL_law_2033 ?_
  refine lv_topi (fun f_2 ef_2 => ?_)
  obtain rfl : f_2 = xs 1 := ef_2
  refine lv_aload_n hx hb dL_law_2034 rfl (lv_at hl 3 rfl) ?_
  have hPc := hP.sub (ws' := [(x0, .inr (12, [.ref a1, .ref a2, .ref a3, .ref a4, .ref a5, .ref a6, .ref a7, .ref a8, .int 3, .int 0])), (o1, .inl (cyL, 1, .inr (.inl (fun _ => 0))))]) [0, 20] rfl
  have hKc := hK.sub (tys' := [(cyL, .long)]) [5] rfl
  have hDc := hD.sub (ws' := [(x0, .inr (12, [.ref a1, .ref a2, .ref a3, .ref a4, .ref a5, .ref a6, .ref a7, .ref a8, .int 3, .int 0])), (o1, .inl (cyL, 1, .inr (.inl (fun _ => 0))))]) [0, 20] (by decide) rfl
  have hFc := va_free (wc := [(x0, .inr (12, [.ref a1, .ref a2, .ref a3, .ref a4, .ref a5, .ref a6, .ref a7, .ref a8, .int 3, .int 0])), (o1, .inl (cyL, 1, .inr (.inl (fun _ => 0))))]) hD hS hA [0, 20] rfl
  refine va_calli (vx_runSW (As := [.ref x0, .int (xs 1), .ref o1]) (rest := []) ⟨hx, hb, hml, hown, hts⟩ (k_L_setTolerance l hfl G z x0 a1 a2 a3 a4 a5 a6 a7 a8 3 0 ((xs 1)) o1 cyL (fun _ => 0) H.size ) (vx_cwSW 3 hts (lw_goodApp (lw_3 q992 q993 q0) q994) rfl rfl rfl (by decide +kernel) ⟨Nat.le_of_ble_eq_true rfl, Nat.le_of_ble_eq_true rfl⟩) ⟨PW.blind, PW.of hPc hKc hDc hG hS hFc [.ref x0, .int (xs 1), .ref o1]⟩ rfl rfl hl.1 rfl (lv_room (Nat.le_of_ble_eq_true rfl)) dL_law_2035 ⟨Nat.le_of_ble_eq_true rfl, Nat.le_of_ble_eq_true rfl⟩) hS (fun q _ h => hFc q h) hFc (fun r_5 u_3 t_7 H_4 locs ht hvm hw_6 hB hz1 hk1 hS => ?_)
  obtain ⟨hP, hD, hK⟩ := QW.join (wr := [(a1, .inr (3, [.int 0, .ref z, .int 0])), (a2, .inr (3, [.int 0, .ref z, .int 0])), (a3, .inr (3, [.int 0, .ref z, .int 0])), (a4, .inr (3, [.int 0, .ref z, .int 0])), (a5, .inr (3, [.int 0, .ref z, .int 0])), (a6, .inr (10, [.ref b1, .ref b2, .ref b3, .int 0])), (b1, .inl (cyA, 400, .inl (nI))), (b2, .inl (cyJ, 512, .inl (fun _ => 0))), (b3, .inl (cyT, 400, .inl (fun _ => 0))), (a7, .inr (4, [.ref d1, .ref d2, .ref d3, .ref d4, .int 0, .int 12])), (d4, .inl (cyO, 20, .inr (.inr (.inr (.inr (fS)))))), (r0, .inl (cyI, 20, .inl (fun _ => 0))), (y0, .inr (18, [.int 0, .ref l1, .ref l2, .ref l3, .ref l4, .ref l5, .ref l6, .int 0, .int 3, .int 12, .ref m1, .ref m2, .ref m3, .ref m4, .ref m5, .ref m6])), (l1, .inr (3, [.int 0, .ref z, .int 0])), (l2, .inr (3, [.int 0, .ref z, .int 0])), (l3, .inr (3, [.int 0, .ref z, .int 0])), (l4, .inr (3, [.int 0, .ref z, .int 0])), (l5, .inr (3, [.int 0, .ref z, .int 0])), (l6, .inr (3, [.int 0, .ref z, .int 0])), (o2, .inl (cyD, 1, .inr (.inr (.inr (.inl (fun _ => 0))))))]) (w1 := [(o1, .inl (cyL, 1, .inr (.inl (u_3))))]) hP hD hK [0, 20] [1, 2, 3, 4, 5, 6, 7, 8, 9, 10, 11, 12, 13, 14, 15, 16, 17, 18, 19, 21] rfl rfl (by decide) (by decide) hk1 hFc ht hvm hB
  have hP : va_P G vwCl ([(a1, .inr (3, [.int 0, .ref z, .int 0])), (a2, .inr (3, [.int 0, .ref z, .int 0])), (a3, .inr (3, [.int 0, .ref z, .int 0])), (a4, .inr (3, [.int 0, .ref z, .int 0])), (a5, .inr (3, [.int 0, .ref z, .int 0])), (a6, .inr (10, [.ref b1, .ref b2, .ref b3, .int 0])), (b1, .inl (cyA, 400, .inl (nI))), (b2, .inl (cyJ, 512, .inl (fun _ => 0))), (b3, .inl (cyT, 400, .inl (fun _ => 0))), (a7, .inr (4, [.ref d1, .ref d2, .ref d3, .ref d4, .int 0, .int 12])), (d4, .inl (cyO, 20, .inr (.inr (.inr (.inr (fS)))))), (r0, .inl (cyI, 20, .inl (fun _ => 0))), (y0, .inr (18, [.int 0, .ref l1, .ref l2, .ref l3, .ref l4, .ref l5, .ref l6, .int 0, .int 3, .int 12, .ref m1, .ref m2, .ref m3, .ref m4, .ref m5, .ref m6])), (l1, .inr (3, [.int 0, .ref z, .int 0])), (l2, .inr (3, [.int 0, .ref z, .int 0])), (l3, .inr (3, [.int 0, .ref z, .int 0])), (l4, .inr (3, [.int 0, .ref z, .int 0])), (l5, .inr (3, [.int 0, .ref z, .int 0])), (l6, .inr (3, [.int 0, .ref z, .int 0])), (o2, .inl (cyD, 1, .inr (.inr (.inr (.inl (fun _ => 0)))))), (o1, .inl (cyL, 1, .inr (.inl (u_3))))]) H_4 := hP
  have hD : va_D A ([(a1, .inr (3, [.int 0, .ref z, .int 0])), (a2, .inr (3, [.int 0, .ref z, .int 0])), (a3, .inr (3, [.int 0, .ref z, .int 0])), (a4, .inr (3, [.int 0, .ref z, .int 0])), (a5, .inr (3, [.int 0, .ref z, .int 0])), (a6, .inr (10, [.ref b1, .ref b2, .ref b3, .int 0])), (b1, .inl (cyA, 400, .inl (nI))), (b2, .inl (cyJ, 512, .inl (fun _ => 0))), (b3, .inl (cyT, 400, .inl (fun _ => 0))), (a7, .inr (4, [.ref d1, .ref d2, .ref d3, .ref d4, .int 0, .int 12])), (d4, .inl (cyO, 20, .inr (.inr (.inr (.inr (fS)))))), (r0, .inl (cyI, 20, .inl (fun _ => 0))), (y0, .inr (18, [.int 0, .ref l1, .ref l2, .ref l3, .ref l4, .ref l5, .ref l6, .int 0, .int 3, .int 12, .ref m1, .ref m2, .ref m3, .ref m4, .ref m5, .ref m6])), (l1, .inr (3, [.int 0, .ref z, .int 0])), (l2, .inr (3, [.int 0, .ref z, .int 0])), (l3, .inr (3, [.int 0, .ref z, .int 0])), (l4, .inr (3, [.int 0, .ref z, .int 0])), (l5, .inr (3, [.int 0, .ref z, .int 0])), (l6, .inr (3, [.int 0, .ref z, .int 0])), (o2, .inl (cyD, 1, .inr (.inr (.inr (.inl (fun _ => 0)))))), (o1, .inl (cyL, 1, .inr (.inl (u_3))))]) := hD
  have hK : va_K G vwCl [(cyA, .int), (cyJ, .int), (cyT, .int), (cyO, .array .int), (cyI, .int), (cyL, .long), (cyD, .double), (cyL, .long)] s := hK
  refine W.widen (k := 136) (n := 2997) (Nat.le_of_ble_eq_true rfl) (Nat.le_of_ble_eq_true rfl) ?_
  rcases hw_6 with ⟨hφ, rfl, hu⟩ | ⟨hφ, rfl⟩
  · refine lv_istore (lv' := [(6, .int 0), (0, .ref b), (1, .ref x0), (2, .ref y0), (3, .ref o1), (4, .ref o2), (5, .int 0)]) hx hb dL_law_2038 hl (by decide) rfl (fun ls hl => ?_)
    refine lv_aload_n hx hb dL_law_2040 rfl (lv_at hl 3 rfl) ?_
    refine lv_aload_n hx hb dL_law_2041 rfl (lv_at hl 1 rfl) ?_
    refine lv_iload hx hb dL_law_2042 (lv_at hl 6 rfl) ?_
    refine lv_iconst (v := 1) hx hb dL_law_2044 (by decide) ?_
    refine lv_iadd hx hb dL_law_2045 ?_
    refine lv_topi (fun f_8 ef_8 => ?_)
    obtain rfl : f_8 = 1 := ef_8.trans (by decide)
    refine va_sld hx hb hX hbl hbA hS (by unfold vp_in; decide +kernel) dL_law_2046 ?_
    refine lv_topi (fun f_9 ef_9 => ?_)
    obtain rfl : f_9 = xs 1 := ef_9
    have hPc := hP.sub (ws' := [(y0, .inr (18, [.int 0, .ref l1, .ref l2, .ref l3, .ref l4, .ref l5, .ref l6, .int 0, .int 3, .int 12, .ref m1, .ref m2, .ref m3, .ref m4, .ref m5, .ref m6]))]) [12] rfl
    have hKc := hK.sub (tys' := []) [] rfl
    have hDc := hD.sub (ws' := [(y0, .inr (18, [.int 0, .ref l1, .ref l2, .ref l3, .ref l4, .ref l5, .ref l6, .int 0, .int 3, .int 12, .ref m1, .ref m2, .ref m3, .ref m4, .ref m5, .ref m6]))]) [12] (by decide) rfl
    have hFc := va_free (wc := [(y0, .inr (18, [.int 0, .ref l1, .ref l2, .ref l3, .ref l4, .ref l5, .ref l6, .int 0, .int 3, .int 12, .ref m1, .ref m2, .ref m3, .ref m4, .ref m5, .ref m6]))]) hD hS hA [12] rfl
    refine va_calli (va_runV (As := [.int (xs 1)]) (rest := []) ⟨hx, hb, hml, hown, hts⟩ (k_X14_setTolerance l G z y0 0 l1 l2 l3 l4 l5 l6 3 12 m1 m2 m3 m4 m5 m6 ((xs 1)) H_4.size ) (cwV 1 hts (lw_goodApp (lw_4 q1612 q1613 q1614 q7) q1615) rfl rfl rfl (by decide +kernel) ⟨Nat.le_of_ble_eq_true rfl, Nat.le_of_ble_eq_true rfl⟩) ⟨PW.blind, va_recv hK hP (ci := 18) (q0 := 12) rfl rfl, PW.of hPc hKc hDc hG hS hFc [.ref y0, .int (xs 1)]⟩ rfl rfl hl.1 rfl (lv_room (Nat.le_of_ble_eq_true rfl)) dL_law_2047 ⟨Nat.le_of_ble_eq_true rfl, Nat.le_of_ble_eq_true rfl⟩) hS (fun q _ h => hFc q h) hFc (fun r_11 u t_13 H_10 locs ht hvm hw_12 hB hz1 hk1 hS => ?_)
    obtain ⟨th1_14, tl1_15, hf_16, hB⟩ := hB
    obtain ⟨hP, hD, hK⟩ := QW.join (wr := [(a1, .inr (3, [.int 0, .ref z, .int 0])), (a2, .inr (3, [.int 0, .ref z, .int 0])), (a3, .inr (3, [.int 0, .ref z, .int 0])), (a4, .inr (3, [.int 0, .ref z, .int 0])), (a5, .inr (3, [.int 0, .ref z, .int 0])), (a6, .inr (10, [.ref b1, .ref b2, .ref b3, .int 0])), (b1, .inl (cyA, 400, .inl (nI))), (b2, .inl (cyJ, 512, .inl (fun _ => 0))), (b3, .inl (cyT, 400, .inl (fun _ => 0))), (a7, .inr (4, [.ref d1, .ref d2, .ref d3, .ref d4, .int 0, .int 12])), (d4, .inl (cyO, 20, .inr (.inr (.inr (.inr (fS)))))), (r0, .inl (cyI, 20, .inl (fun _ => 0))), (l1, .inr (3, [.int 0, .ref z, .int 0])), (l2, .inr (3, [.int 0, .ref z, .int 0])), (l3, .inr (3, [.int 0, .ref z, .int 0])), (l4, .inr (3, [.int 0, .ref z, .int 0])), (l5, .inr (3, [.int 0, .ref z, .int 0])), (l6, .inr (3, [.int 0, .ref z, .int 0])), (o2, .inl (cyD, 1, .inr (.inr (.inr (.inl (fun _ => 0)))))), (o1, .inl (cyL, 1, .inr (.inl (u_3))))]) (w1 := [(y0, .inr (18, [.int th1_14, .ref l1, .ref l2, .ref l3, .ref l4, .ref l5, .ref l6, .int 0, .int tl1_15, .int 12, .ref m1, .ref m2, .ref m3, .ref m4, .ref m5, .ref m6]))]) hP hD hK [12] [0, 1, 2, 3, 4, 5, 6, 7, 8, 9, 10, 11, 13, 14, 15, 16, 17, 18, 19, 20] rfl rfl (by decide) (by decide) hk1 hFc ht hvm hB
    have hP : va_P G vwCl ([(a1, .inr (3, [.int 0, .ref z, .int 0])), (a2, .inr (3, [.int 0, .ref z, .int 0])), (a3, .inr (3, [.int 0, .ref z, .int 0])), (a4, .inr (3, [.int 0, .ref z, .int 0])), (a5, .inr (3, [.int 0, .ref z, .int 0])), (a6, .inr (10, [.ref b1, .ref b2, .ref b3, .int 0])), (b1, .inl (cyA, 400, .inl (nI))), (b2, .inl (cyJ, 512, .inl (fun _ => 0))), (b3, .inl (cyT, 400, .inl (fun _ => 0))), (a7, .inr (4, [.ref d1, .ref d2, .ref d3, .ref d4, .int 0, .int 12])), (d4, .inl (cyO, 20, .inr (.inr (.inr (.inr (fS)))))), (r0, .inl (cyI, 20, .inl (fun _ => 0))), (l1, .inr (3, [.int 0, .ref z, .int 0])), (l2, .inr (3, [.int 0, .ref z, .int 0])), (l3, .inr (3, [.int 0, .ref z, .int 0])), (l4, .inr (3, [.int 0, .ref z, .int 0])), (l5, .inr (3, [.int 0, .ref z, .int 0])), (l6, .inr (3, [.int 0, .ref z, .int 0])), (o2, .inl (cyD, 1, .inr (.inr (.inr (.inl (fun _ => 0)))))), (o1, .inl (cyL, 1, .inr (.inl (u_3)))), (y0, .inr (18, [.int th1_14, .ref l1, .ref l2, .ref l3, .ref l4, .ref l5, .ref l6, .int 0, .int tl1_15, .int 12, .ref m1, .ref m2, .ref m3, .ref m4, .ref m5, .ref m6]))]) H_10 := hP
    have hD : va_D A ([(a1, .inr (3, [.int 0, .ref z, .int 0])), (a2, .inr (3, [.int 0, .ref z, .int 0])), (a3, .inr (3, [.int 0, .ref z, .int 0])), (a4, .inr (3, [.int 0, .ref z, .int 0])), (a5, .inr (3, [.int 0, .ref z, .int 0])), (a6, .inr (10, [.ref b1, .ref b2, .ref b3, .int 0])), (b1, .inl (cyA, 400, .inl (nI))), (b2, .inl (cyJ, 512, .inl (fun _ => 0))), (b3, .inl (cyT, 400, .inl (fun _ => 0))), (a7, .inr (4, [.ref d1, .ref d2, .ref d3, .ref d4, .int 0, .int 12])), (d4, .inl (cyO, 20, .inr (.inr (.inr (.inr (fS)))))), (r0, .inl (cyI, 20, .inl (fun _ => 0))), (l1, .inr (3, [.int 0, .ref z, .int 0])), (l2, .inr (3, [.int 0, .ref z, .int 0])), (l3, .inr (3, [.int 0, .ref z, .int 0])), (l4, .inr (3, [.int 0, .ref z, .int 0])), (l5, .inr (3, [.int 0, .ref z, .int 0])), (l6, .inr (3, [.int 0, .ref z, .int 0])), (o2, .inl (cyD, 1, .inr (.inr (.inr (.inl (fun _ => 0)))))), (o1, .inl (cyL, 1, .inr (.inl (u_3)))), (y0, .inr (18, [.int th1_14, .ref l1, .ref l2, .ref l3, .ref l4, .ref l5, .ref l6, .int 0, .int tl1_15, .int 12, .ref m1, .ref m2, .ref m3, .ref m4, .ref m5, .ref m6]))]) := hD
    have hK : va_K G vwCl [(cyA, .int), (cyJ, .int), (cyT, .int), (cyO, .array .int), (cyI, .int), (cyL, .long), (cyD, .double), (cyL, .long)] s := hK
    refine W.widen (k := 136) (n := 2997) (Nat.le_of_ble_eq_true rfl) (Nat.le_of_ble_eq_true rfl) ?_
    rcases hf_16 with ⟨hψ, rfl⟩ | ⟨hψ, rfl⟩
    · have hr2 := hw_12 hψ
      refine lv_istore (lv' := [(7, .int r_11), (6, .int 0), (0, .ref b), (1, .ref x0), (2, .ref y0), (3, .ref o1), (4, .ref o2), (5, .int 0)]) hx hb dL_law_2050 hl (by decide) rfl (fun ls hl => ?_)
      refine lv_aload_n hx hb dL_law_2052 rfl (lv_at hl 4 rfl) ?_
      have hPc := hP.sub (ws' := [(y0, .inr (18, [.int 0, .ref l1, .ref l2, .ref l3, .ref l4, .ref l5, .ref l6, .int 0, .int tl1_15, .int 12, .ref m1, .ref m2, .ref m3, .ref m4, .ref m5, .ref m6]))]) [20] rfl
      have hKc := hK.sub (tys' := []) [] rfl
      refine va_calli (va_runV (As := []) (rest := []) ⟨hx, hb, hml, hown, hts⟩ (k_X14_thrown l G z y0 0 l1 l2 l3 l4 l5 l6 tl1_15 12 m1 m2 m3 m4 m5 m6 H_10.size ) (cwV 0 hts (lw_goodApp (lw_4 q1236 q1237 q1238 q7) q1239) rfl rfl rfl (by decide +kernel) ⟨Nat.le_of_ble_eq_true rfl, Nat.le_of_ble_eq_true rfl⟩) ⟨PR.blind, va_recv hK hP (ci := 18) (q0 := 20) rfl rfl, PR.of hPc hKc hG hS hA [.ref y0]⟩ rfl rfl hl.1 rfl (lv_room (Nat.le_of_ble_eq_true rfl)) dL_law_2053 ⟨Nat.le_of_ble_eq_true rfl, Nat.le_of_ble_eq_true rfl⟩) hS (fun q h9 h => zN.not h9 h) (fun q h => hA q (Nat.le_trans hS.1 h)) (fun r_18 u t_20 H_17 locs ht hvm hw_19 hB hz1 hk1 hS => ?_)
      have hP := hP.grown hk1
      refine W.widen (k := 136) (n := 2997) (Nat.le_of_ble_eq_true rfl) (Nat.le_of_ble_eq_true rfl) ?_
      obtain rfl : 0 = r_18 := hw_19.symm
      refine lv_iload hx hb dL_law_2056 (lv_at hl 1 rfl) ?_
      refine lv_icmp_eq (tgt := 2063) hx hb dL_law_2058 (by decide) (fun c_21 => ?_) (fun c_21 => absurd rfl c_21)
      refine lv_iload hx hb dL_law_2063 (lv_at hl 1 rfl) ?_
      refine lv_if_ne (tgt := 2080) hx hb dL_law_2065 (by decide) (fun c_22 => absurd rfl c_22) (fun c_22 => ?_)
      refine lv_aload_n hx hb dL_law_2068 rfl (lv_at hl 5 rfl) ?_
      refine lv_iconst (v := 0) hx hb dL_law_2069 (by decide) ?_
      refine va_lald hx hb hK hP 19 5 rfl rfl (by unfold vp_in; decide +kernel) dL_law_2070 ?_
      refine lv_iload hx hb dL_law_2071 (lv_at hl 0 rfl) ?_
      refine lv_i2l hx hb dL_law_2073 rfl ?_
      refine W.lcmp hx hb dL_law_2074 ?_
      refine lv_if_eq (tgt := 2080) hx hb dL_law_2075 (by decide) (fun c_23 => ?_) (fun c_23 => absurd (z_cmp (hu.trans (by rw [hr2]))) c_23)
      refine lv_goto (tgt := 3288) hx hb dL_law_2080 (by decide) ?_
      exact law_tail hfl C0 hA hA2 hS (lv_sub hl [2, 7] rfl) (Nat.le_of_ble_eq_true rfl) (Nat.le_of_ble_eq_true rfl)
    · exact absurd hφ hψ
  · refine lv_istore (lv' := [(6, .int 1), (0, .ref b), (1, .ref x0), (2, .ref y0), (3, .ref o1), (4, .ref o2), (5, .int 0)]) hx hb dL_law_2038 hl (by decide) rfl (fun ls hl => ?_)
    refine lv_aload_n hx hb dL_law_2040 rfl (lv_at hl 3 rfl) ?_
    refine lv_aload_n hx hb dL_law_2041 rfl (lv_at hl 1 rfl) ?_
    refine lv_iload hx hb dL_law_2042 (lv_at hl 6 rfl) ?_
    refine lv_iconst (v := 1) hx hb dL_law_2044 (by decide) ?_
    refine lv_iadd hx hb dL_law_2045 ?_
    refine lv_topi (fun f_24 ef_24 => ?_)
    obtain rfl : f_24 = 1 := ef_24.trans (by decide)
    refine va_sld hx hb hX hbl hbA hS (by unfold vp_in; decide +kernel) dL_law_2046 ?_
    refine lv_topi (fun f_25 ef_25 => ?_)
    obtain rfl : f_25 = xs 1 := ef_25
    have hPc := hP.sub (ws' := [(y0, .inr (18, [.int 0, .ref l1, .ref l2, .ref l3, .ref l4, .ref l5, .ref l6, .int 0, .int 3, .int 12, .ref m1, .ref m2, .ref m3, .ref m4, .ref m5, .ref m6]))]) [12] rfl
    have hKc := hK.sub (tys' := []) [] rfl
    have hDc := hD.sub (ws' := [(y0, .inr (18, [.int 0, .ref l1, .ref l2, .ref l3, .ref l4, .ref l5, .ref l6, .int 0, .int 3, .int 12, .ref m1, .ref m2, .ref m3, .ref m4, .ref m5, .ref m6]))]) [12] (by decide) rfl
    have hFc := va_free (wc := [(y0, .inr (18, [.int 0, .ref l1, .ref l2, .ref l3, .ref l4, .ref l5, .ref l6, .int 0, .int 3, .int 12, .ref m1, .ref m2, .ref m3, .ref m4, .ref m5, .ref m6]))]) hD hS hA [12] rfl
    refine va_calli (va_runV (As := [.int (xs 1)]) (rest := []) ⟨hx, hb, hml, hown, hts⟩ (k_X14_setTolerance l G z y0 0 l1 l2 l3 l4 l5 l6 3 12 m1 m2 m3 m4 m5 m6 ((xs 1)) H_4.size ) (cwV 1 hts (lw_goodApp (lw_4 q1612 q1613 q1614 q7) q1615) rfl rfl rfl (by decide +kernel) ⟨Nat.le_of_ble_eq_true rfl, Nat.le_of_ble_eq_true rfl⟩) ⟨PW.blind, va_recv hK hP (ci := 18) (q0 := 12) rfl rfl, PW.of hPc hKc hDc hG hS hFc [.ref y0, .int (xs 1)]⟩ rfl rfl hl.1 rfl (lv_room (Nat.le_of_ble_eq_true rfl)) dL_law_2047 ⟨Nat.le_of_ble_eq_true rfl, Nat.le_of_ble_eq_true rfl⟩) hS (fun q _ h => hFc q h) hFc (fun r_27 u t_29 H_26 locs ht hvm hw_28 hB hz1 hk1 hS => ?_)
    obtain ⟨th1_30, tl1_31, hf_32, hB⟩ := hB
    obtain ⟨hP, hD, hK⟩ := QW.join (wr := [(a1, .inr (3, [.int 0, .ref z, .int 0])), (a2, .inr (3, [.int 0, .ref z, .int 0])), (a3, .inr (3, [.int 0, .ref z, .int 0])), (a4, .inr (3, [.int 0, .ref z, .int 0])), (a5, .inr (3, [.int 0, .ref z, .int 0])), (a6, .inr (10, [.ref b1, .ref b2, .ref b3, .int 0])), (b1, .inl (cyA, 400, .inl (nI))), (b2, .inl (cyJ, 512, .inl (fun _ => 0))), (b3, .inl (cyT, 400, .inl (fun _ => 0))), (a7, .inr (4, [.ref d1, .ref d2, .ref d3, .ref d4, .int 0, .int 12])), (d4, .inl (cyO, 20, .inr (.inr (.inr (.inr (fS)))))), (r0, .inl (cyI, 20, .inl (fun _ => 0))), (l1, .inr (3, [.int 0, .ref z, .int 0])), (l2, .inr (3, [.int 0, .ref z, .int 0])), (l3, .inr (3, [.int 0, .ref z, .int 0])), (l4, .inr (3, [.int 0, .ref z, .int 0])), (l5, .inr (3, [.int 0, .ref z, .int 0])), (l6, .inr (3, [.int 0, .ref z, .int 0])), (o2, .inl (cyD, 1, .inr (.inr (.inr (.inl (fun _ => 0)))))), (o1, .inl (cyL, 1, .inr (.inl (u_3))))]) (w1 := [(y0, .inr (18, [.int th1_30, .ref l1, .ref l2, .ref l3, .ref l4, .ref l5, .ref l6, .int 0, .int tl1_31, .int 12, .ref m1, .ref m2, .ref m3, .ref m4, .ref m5, .ref m6]))]) hP hD hK [12] [0, 1, 2, 3, 4, 5, 6, 7, 8, 9, 10, 11, 13, 14, 15, 16, 17, 18, 19, 20] rfl rfl (by decide) (by decide) hk1 hFc ht hvm hB
    have hP : va_P G vwCl ([(a1, .inr (3, [.int 0, .ref z, .int 0])), (a2, .inr (3, [.int 0, .ref z, .int 0])), (a3, .inr (3, [.int 0, .ref z, .int 0])), (a4, .inr (3, [.int 0, .ref z, .int 0])), (a5, .inr (3, [.int 0, .ref z, .int 0])), (a6, .inr (10, [.ref b1, .ref b2, .ref b3, .int 0])), (b1, .inl (cyA, 400, .inl (nI))), (b2, .inl (cyJ, 512, .inl (fun _ => 0))), (b3, .inl (cyT, 400, .inl (fun _ => 0))), (a7, .inr (4, [.ref d1, .ref d2, .ref d3, .ref d4, .int 0, .int 12])), (d4, .inl (cyO, 20, .inr (.inr (.inr (.inr (fS)))))), (r0, .inl (cyI, 20, .inl (fun _ => 0))), (l1, .inr (3, [.int 0, .ref z, .int 0])), (l2, .inr (3, [.int 0, .ref z, .int 0])), (l3, .inr (3, [.int 0, .ref z, .int 0])), (l4, .inr (3, [.int 0, .ref z, .int 0])), (l5, .inr (3, [.int 0, .ref z, .int 0])), (l6, .inr (3, [.int 0, .ref z, .int 0])), (o2, .inl (cyD, 1, .inr (.inr (.inr (.inl (fun _ => 0)))))), (o1, .inl (cyL, 1, .inr (.inl (u_3)))), (y0, .inr (18, [.int th1_30, .ref l1, .ref l2, .ref l3, .ref l4, .ref l5, .ref l6, .int 0, .int tl1_31, .int 12, .ref m1, .ref m2, .ref m3, .ref m4, .ref m5, .ref m6]))]) H_26 := hP
    have hD : va_D A ([(a1, .inr (3, [.int 0, .ref z, .int 0])), (a2, .inr (3, [.int 0, .ref z, .int 0])), (a3, .inr (3, [.int 0, .ref z, .int 0])), (a4, .inr (3, [.int 0, .ref z, .int 0])), (a5, .inr (3, [.int 0, .ref z, .int 0])), (a6, .inr (10, [.ref b1, .ref b2, .ref b3, .int 0])), (b1, .inl (cyA, 400, .inl (nI))), (b2, .inl (cyJ, 512, .inl (fun _ => 0))), (b3, .inl (cyT, 400, .inl (fun _ => 0))), (a7, .inr (4, [.ref d1, .ref d2, .ref d3, .ref d4, .int 0, .int 12])), (d4, .inl (cyO, 20, .inr (.inr (.inr (.inr (fS)))))), (r0, .inl (cyI, 20, .inl (fun _ => 0))), (l1, .inr (3, [.int 0, .ref z, .int 0])), (l2, .inr (3, [.int 0, .ref z, .int 0])), (l3, .inr (3, [.int 0, .ref z, .int 0])), (l4, .inr (3, [.int 0, .ref z, .int 0])), (l5, .inr (3, [.int 0, .ref z, .int 0])), (l6, .inr (3, [.int 0, .ref z, .int 0])), (o2, .inl (cyD, 1, .inr (.inr (.inr (.inl (fun _ => 0)))))), (o1, .inl (cyL, 1, .inr (.inl (u_3)))), (y0, .inr (18, [.int th1_30, .ref l1, .ref l2, .ref l3, .ref l4, .ref l5, .ref l6, .int 0, .int tl1_31, .int 12, .ref m1, .ref m2, .ref m3, .ref m4, .ref m5, .ref m6]))]) := hD
    have hK : va_K G vwCl [(cyA, .int), (cyJ, .int), (cyT, .int), (cyO, .array .int), (cyI, .int), (cyL, .long), (cyD, .double), (cyL, .long)] s := hK
    refine W.widen (k := 136) (n := 2997) (Nat.le_of_ble_eq_true rfl) (Nat.le_of_ble_eq_true rfl) ?_
    rcases hf_32 with ⟨hψ, rfl⟩ | ⟨hψ, rfl⟩
    · exact absurd hψ hφ
    · refine lv_istore (lv' := [(7, .int r_27), (6, .int 1), (0, .ref b), (1, .ref x0), (2, .ref y0), (3, .ref o1), (4, .ref o2), (5, .int 0)]) hx hb dL_law_2050 hl (by decide) rfl (fun ls hl => ?_)
      refine lv_aload_n hx hb dL_law_2052 rfl (lv_at hl 4 rfl) ?_
      have hPc := hP.sub (ws' := [(y0, .inr (18, [.int 1, .ref l1, .ref l2, .ref l3, .ref l4, .ref l5, .ref l6, .int 0, .int tl1_31, .int 12, .ref m1, .ref m2, .ref m3, .ref m4, .ref m5, .ref m6]))]) [20] rfl
      have hKc := hK.sub (tys' := []) [] rfl
      refine va_calli (va_runV (As := []) (rest := []) ⟨hx, hb, hml, hown, hts⟩ (k_X14_thrown l G z y0 1 l1 l2 l3 l4 l5 l6 tl1_31 12 m1 m2 m3 m4 m5 m6 H_26.size ) (cwV 0 hts (lw_goodApp (lw_4 q1236 q1237 q1238 q7) q1239) rfl rfl rfl (by decide +kernel) ⟨Nat.le_of_ble_eq_true rfl, Nat.le_of_ble_eq_true rfl⟩) ⟨PR.blind, va_recv hK hP (ci := 18) (q0 := 20) rfl rfl, PR.of hPc hKc hG hS hA [.ref y0]⟩ rfl rfl hl.1 rfl (lv_room (Nat.le_of_ble_eq_true rfl)) dL_law_2053 ⟨Nat.le_of_ble_eq_true rfl, Nat.le_of_ble_eq_true rfl⟩) hS (fun q h9 h => zN.not h9 h) (fun q h => hA q (Nat.le_trans hS.1 h)) (fun r_34 u t_36 H_33 locs ht hvm hw_35 hB hz1 hk1 hS => ?_)
      have hP := hP.grown hk1
      refine W.widen (k := 136) (n := 2997) (Nat.le_of_ble_eq_true rfl) (Nat.le_of_ble_eq_true rfl) ?_
      obtain rfl : 1 = r_34 := hw_35.symm
      refine lv_iload hx hb dL_law_2056 (lv_at hl 1 rfl) ?_
      refine lv_icmp_eq (tgt := 2063) hx hb dL_law_2058 (by decide) (fun c_37 => ?_) (fun c_37 => absurd rfl c_37)
      refine lv_iload hx hb dL_law_2063 (lv_at hl 1 rfl) ?_
      refine lv_if_ne (tgt := 2080) hx hb dL_law_2065 (by decide) (fun c_38 => ?_) (fun c_38 => absurd c_38 (by decide))
      refine lv_goto (tgt := 3288) hx hb dL_law_2080 (by decide) ?_
      exact law_tail hfl C0 hA hA2 hS (lv_sub hl [2, 7] rfl) (Nat.le_of_ble_eq_true rfl) (Nat.le_of_ble_eq_true rfl)
set_option maxHeartbeats 8000000 in
set_option maxRecDepth 100000 in
/-- script value 24 -/
theorem law_case_24 {p : Program} {l : Launch} {e : Env} {s : State} {m : MethodId} {below : List Frame} {meth : Method} {c : Code} {b : Nat} {xs : Nat → Int32} (hfl : l.stackTraces = false) (C0 : lw_At p s m meth c b 7 xs) {A : Nat → Prop} (hA : ∀ q : Nat, s.heap.size ≤ q → A q) (hA2 : ∀ q : Nat, A q → s.heap.size ≤ q) (G : va_G) (z : Nat) (hG : zG z A s s.heap) (x0 : Nat) (y0 : Nat) (o1 : Nat) (o2 : Nat) (cyL : ClassId) (cyD : ClassId) (a1 : Nat) (a2 : Nat) (a3 : Nat) (a4 : Nat) (a5 : Nat) (a6 : Nat) (a7 : Nat) (a8 : Nat) (b1 : Nat) (b2 : Nat) (b3 : Nat) (cyA : ClassId) (cyJ : ClassId) (cyT : ClassId) (d1 : Nat) (d2 : Nat) (d3 : Nat) (d4 : Nat) (cyO : ClassId) (fS : Nat → Option Nat) (cyI : ClassId) (r0 : Nat) (l1 : Nat) (l2 : Nat) (l3 : Nat) (l4 : Nat) (l5 : Nat) (l6 : Nat) (m1 : Nat) (m2 : Nat) (m3 : Nat) (m4 : Nat) (m5 : Nat) (m6 : Nat) (hf0 : fS 0 = some r0) {H : Heap} {locs : List Loc} (hP : va_P G vwCl ([(x0, .inr (12, [.ref a1, .ref a2, .ref a3, .ref a4, .ref a5, .ref a6, .ref a7, .ref a8, .int 3, .int 0])), (a1, .inr (3, [.int 0, .ref z, .int 0])), (a2, .inr (3, [.int 0, .ref z, .int 0])), (a3, .inr (3, [.int 0, .ref z, .int 0])), (a4, .inr (3, [.int 0, .ref z, .int 0])), (a5, .inr (3, [.int 0, .ref z, .int 0])), (a6, .inr (10, [.ref b1, .ref b2, .ref b3, .int 0])), (b1, .inl (cyA, 400, .inl (nI))), (b2, .inl (cyJ, 512, .inl (fun _ => 0))), (b3, .inl (cyT, 400, .inl (fun _ => 0))), (a7, .inr (4, [.ref d1, .ref d2, .ref d3, .ref d4, .int 0, .int 12])), (d4, .inl (cyO, 20, .inr (.inr (.inr (.inr (fS)))))), (r0, .inl (cyI, 20, .inl (fun _ => 0))), (y0, .inr (18, [.int 0, .ref l1, .ref l2, .ref l3, .ref l4, .ref l5, .ref l6, .int 0, .int 3, .int 12, .ref m1, .ref m2, .ref m3, .ref m4, .ref m5, .ref m6])), (l1, .inr (3, [.int 0, .ref z, .int 0])), (l2, .inr (3, [.int 0, .ref z, .int 0])), (l3, .inr (3, [.int 0, .ref z, .int 0])), (l4, .inr (3, [.int 0, .ref z, .int 0])), (l5, .inr (3, [.int 0, .ref z, .int 0])), (l6, .inr (3, [.int 0, .ref z, .int 0])), (o1, .inl (cyL, 1, .inr (.inl (fun _ => 0)))), (o2, .inl (cyD, 1, .inr (.inr (.inr (.inl (fun _ => 0))))))]) H) (hD : va_D A ([(x0, .inr (12, [.ref a1, .ref a2, .ref a3, .ref a4, .ref a5, .ref a6, .ref a7, .ref a8, .int 3, .int 0])), (a1, .inr (3, [.int 0, .ref z, .int 0])), (a2, .inr (3, [.int 0, .ref z, .int 0])), (a3, .inr (3, [.int 0, .ref z, .int 0])), (a4, .inr (3, [.int 0, .ref z, .int 0])), (a5, .inr (3, [.int 0, .ref z, .int 0])), (a6, .inr (10, [.ref b1, .ref b2, .ref b3, .int 0])), (b1, .inl (cyA, 400, .inl (nI))), (b2, .inl (cyJ, 512, .inl (fun _ => 0))), (b3, .inl (cyT, 400, .inl (fun _ => 0))), (a7, .inr (4, [.ref d1, .ref d2, .ref d3, .ref d4, .int 0, .int 12])), (d4, .inl (cyO, 20, .inr (.inr (.inr (.inr (fS)))))), (r0, .inl (cyI, 20, .inl (fun _ => 0))), (y0, .inr (18, [.int 0, .ref l1, .ref l2, .ref l3, .ref l4, .ref l5, .ref l6, .int 0, .int 3, .int 12, .ref m1, .ref m2, .ref m3, .ref m4, .ref m5, .ref m6])), (l1, .inr (3, [.int 0, .ref z, .int 0])), (l2, .inr (3, [.int 0, .ref z, .int 0])), (l3, .inr (3, [.int 0, .ref z, .int 0])), (l4, .inr (3, [.int 0, .ref z, .int 0])), (l5, .inr (3, [.int 0, .ref z, .int 0])), (l6, .inr (3, [.int 0, .ref z, .int 0])), (o1, .inl (cyL, 1, .inr (.inl (fun _ => 0)))), (o2, .inl (cyD, 1, .inr (.inr (.inr (.inl (fun _ => 0))))))])) (hK : va_K G vwCl [(cyA, .int), (cyJ, .int), (cyT, .int), (cyO, .array .int), (cyI, .int), (cyL, .long), (cyD, .double)] s) (hS : va_S A s.heap H locs) {ls : Array Slot} (hl : lv_has ls 9 [(0, .ref b), (1, .ref x0), (2, .ref y0), (3, .ref o1), (4, .ref o2), (5, .int 0)]) : W p l e room_1 s m #[Value.ref b] below meth c H locs 135 2991 (lw_Z below #[Value.ref b] s) (F0 m 2083 ls []) := by
  have C9 := C0
  obtain ⟨hx, hb, hr, hml, hown, hts0, hX, hbl, hlocks, hgv⟩ := id C0
  have hg := lw_sub_good hts0
  have hts : ∀ w ∈ (lw_hd :: lw_good), w.before #[Value.ref b] s = true := fun w h => (List.mem_cons.mp h).elim (fun e9 => e9 ▸ hg _ q0) (hg w)
  have hbA : ¬ A b := fun h => Nat.not_le.mpr hbl (hA2 b h)
  refine lv_aload_n hx hb dL_law_2083 rfl (lv_at hl 1 rfl) ?_
  refine lv_aload_n hx hb dL_law_2084 rfl (lv_at hl 0 rfl) ?_
  refine lv_iload hx hb dL_law_2085 (lv_at hl 5 rfl) ?_
  refine lv_iconst (v := 1) hx hb dL_law_2087 (by decide) ?_
  refine lv_iadd hx hb dL_law_2088 ?_
  refine lv_topi (fun f_1 ef_1 => ?_)
  obtain rfl : f_1 = 1 := ef_1.trans (by decide)
  refine va_sld hx hb hX hbl hbA hS (by unfold vp_in; decide +kernel) dL_law_2089 ?_
  refine lv_topi (fun f_2 ef_2 => ?_)
  obtain rfl : f_2 = xs 1 := ef_2
  refine lv_aload_n hx hb dL_law_2090 rfl (lv_at hl 0 rfl) ?_
  refine lv_iload hx hb dL_law_2091 (lv_at hl 5 rfl) ?_
  refine lv_iconst (v := 2) hx hb dL_law_2093 (by decide) ?_
  refine lv_iadd hx hb dL_law_2094 ?_
  refine lv_topi (fun f_3 ef_3 => ?_)
  obtain rfl : f_3 = 2 := ef_3.trans (by decide)
  refine va_sld hx hb hX hbl hbA hS (by unfold vp_in; decide +kernel) dL_law_2095 ?_
  refine lv_topi (fun f_4 ef_4 => ?_)
  obtain rfl : f_4 = xs 2 := ef_4
  refine lv_aload_n hx hb dL_law_2096 rfl (lv_at hl 3 rfl) ?_
  have hPc := hP.sub (ws' := [(x0, .inr (12, [.ref a1, .ref a2, .ref a3, .ref a4, .ref a5, .ref a6, .ref a7, .ref a8, .int 3, .int 0])), (a5, .inr (3, [.int 0, .ref z, .int 0])), (o1, .inl (cyL, 1, .inr (.inl (fun _ => 0))))]) [0, 5, 20] rfl
  have hKc := hK.sub (tys' := [(cyL, .long)]) [5] rfl
  have hDc := hD.sub (ws' := [(x0, .inr (12, [.ref a1, .ref a2, .ref a3, .ref a4, .ref a5, .ref a6, .ref a7, .ref a8, .int 3, .int 0])), (a5, .inr (3, [.int 0, .ref z, .int 0])), (o1, .inl (cyL, 1, .inr (.inl (fun _ => 0))))]) [0, 5, 20] (by decide) rfl
  have hFc := va_free (wc := [(x0, .inr (12, [.ref a1, .ref a2, .ref a3, .ref a4, .ref a5, .ref a6, .ref a7, .ref a8, .int 3, .int 0])), (a5, .inr (3, [.int 0, .ref z, .int 0])), (o1, .inl (cyL, 1, .inr (.inl (fun _ => 0))))]) hD hS hA [0, 5, 20] rfl
  refine va_calli (vx_runSW (As := [.ref x0, .int (xs 1), .int (xs 2), .ref o1]) (rest := []) ⟨hx, hb, hml, hown, hts⟩ (k_L_distance l hfl G z x0 a1 a2 a3 a4 a5 a6 a7 a8 3 0 0 z ((xs 1)) ((xs 2)) o1 cyL (fun _ => 0) H.size ) (vx_cwSW 4 hts (lw_goodApp (lw_3 q999 q1000 q0) q1001) rfl rfl rfl (by decide +kernel) ⟨Nat.le_of_ble_eq_true rfl, Nat.le_of_ble_eq_true rfl⟩) ⟨PW.blind, PW.of hPc hKc hDc hG hS hFc [.ref x0, .int (xs 1), .int (xs 2), .ref o1]⟩ rfl rfl hl.1 rfl (lv_room (Nat.le_of_ble_eq_true rfl)) dL_law_2097 ⟨Nat.le_of_ble_eq_true rfl, Nat.le_of_ble_eq_true rfl⟩) hS (fun q _ h => hFc q h) hFc (fun r_6 u t_8 H_5 locs ht hvm hw_7 hB hz1 hk1 hS => ?_)
  obtain ⟨hP, hD, hK⟩ := QW.join (wr := [(a1, .inr (3, [.int 0, .ref z, .int 0])), (a2, .inr (3, [.int 0, .ref z, .int 0])), (a3, .inr (3, [.int 0, .ref z, .int 0])), (a4, .inr (3, [.int 0, .ref z, .int 0])), (a6, .inr (10, [.ref b1, .ref b2, .ref b3, .int 0])), (b1, .inl (cyA, 400, .inl (nI))), (b2, .inl (cyJ, 512, .inl (fun _ => 0))), (b3, .inl (cyT, 400, .inl (fun _ => 0))), (a7, .inr (4, [.ref d1, .ref d2, .ref d3, .ref d4, .int 0, .int 12])), (d4, .inl (cyO, 20, .inr (.inr (.inr (.inr (fS)))))), (r0, .inl (cyI, 20, .inl (fun _ => 0))), (y0, .inr (18, [.int 0, .ref l1, .ref l2, .ref l3, .ref l4, .ref l5, .ref l6, .int 0, .int 3, .int 12, .ref m1, .ref m2, .ref m3, .ref m4, .ref m5, .ref m6])), (l1, .inr (3, [.int 0, .ref z, .int 0])), (l2, .inr (3, [.int 0, .ref z, .int 0])), (l3, .inr (3, [.int 0, .ref z, .int 0])), (l4, .inr (3, [.int 0, .ref z, .int 0])), (l5, .inr (3, [.int 0, .ref z, .int 0])), (l6, .inr (3, [.int 0, .ref z, .int 0])), (o2, .inl (cyD, 1, .inr (.inr (.inr (.inl (fun _ => 0))))))]) (w1 := [(o1, .inl (cyL, 1, .inr (.inl ((fun _ => 0)))))]) hP hD hK [0, 5, 20] [1, 2, 3, 4, 6, 7, 8, 9, 10, 11, 12, 13, 14, 15, 16, 17, 18, 19, 21] rfl rfl (by decide) (by decide) hk1 hFc ht hvm hB
  have hP : va_P G vwCl ([(a1, .inr (3, [.int 0, .ref z, .int 0])), (a2, .inr (3, [.int 0, .ref z, .int 0])), (a3, .inr (3, [.int 0, .ref z, .int 0])), (a4, .inr (3, [.int 0, .ref z, .int 0])), (a6, .inr (10, [.ref b1, .ref b2, .ref b3, .int 0])), (b1, .inl (cyA, 400, .inl (nI))), (b2, .inl (cyJ, 512, .inl (fun _ => 0))), (b3, .inl (cyT, 400, .inl (fun _ => 0))), (a7, .inr (4, [.ref d1, .ref d2, .ref d3, .ref d4, .int 0, .int 12])), (d4, .inl (cyO, 20, .inr (.inr (.inr (.inr (fS)))))), (r0, .inl (cyI, 20, .inl (fun _ => 0))), (y0, .inr (18, [.int 0, .ref l1, .ref l2, .ref l3, .ref l4, .ref l5, .ref l6, .int 0, .int 3, .int 12, .ref m1, .ref m2, .ref m3, .ref m4, .ref m5, .ref m6])), (l1, .inr (3, [.int 0, .ref z, .int 0])), (l2, .inr (3, [.int 0, .ref z, .int 0])), (l3, .inr (3, [.int 0, .ref z, .int 0])), (l4, .inr (3, [.int 0, .ref z, .int 0])), (l5, .inr (3, [.int 0, .ref z, .int 0])), (l6, .inr (3, [.int 0, .ref z, .int 0])), (o2, .inl (cyD, 1, .inr (.inr (.inr (.inl (fun _ => 0)))))), (o1, .inl (cyL, 1, .inr (.inl ((fun _ => 0)))))]) H_5 := hP
  have hD : va_D A ([(a1, .inr (3, [.int 0, .ref z, .int 0])), (a2, .inr (3, [.int 0, .ref z, .int 0])), (a3, .inr (3, [.int 0, .ref z, .int 0])), (a4, .inr (3, [.int 0, .ref z, .int 0])), (a6, .inr (10, [.ref b1, .ref b2, .ref b3, .int 0])), (b1, .inl (cyA, 400, .inl (nI))), (b2, .inl (cyJ, 512, .inl (fun _ => 0))), (b3, .inl (cyT, 400, .inl (fun _ => 0))), (a7, .inr (4, [.ref d1, .ref d2, .ref d3, .ref d4, .int 0, .int 12])), (d4, .inl (cyO, 20, .inr (.inr (.inr (.inr (fS)))))), (r0, .inl (cyI, 20, .inl (fun _ => 0))), (y0, .inr (18, [.int 0, .ref l1, .ref l2, .ref l3, .ref l4, .ref l5, .ref l6, .int 0, .int 3, .int 12, .ref m1, .ref m2, .ref m3, .ref m4, .ref m5, .ref m6])), (l1, .inr (3, [.int 0, .ref z, .int 0])), (l2, .inr (3, [.int 0, .ref z, .int 0])), (l3, .inr (3, [.int 0, .ref z, .int 0])), (l4, .inr (3, [.int 0, .ref z, .int 0])), (l5, .inr (3, [.int 0, .ref z, .int 0])), (l6, .inr (3, [.int 0, .ref z, .int 0])), (o2, .inl (cyD, 1, .inr (.inr (.inr (.inl (fun _ => 0)))))), (o1, .inl (cyL, 1, .inr (.inl ((fun _ => 0)))))]) := hD
  have hK : va_K G vwCl [(cyA, .int), (cyJ, .int), (cyT, .int), (cyO, .array .int), (cyI, .int), (cyL, .long), (cyD, .double), (cyL, .long)] s := hK
  refine W.widen (k := 136) (n := 2997) (Nat.le_of_ble_eq_true rfl) (Nat.le_of_ble_eq_true rfl) ?_
  obtain rfl : 1 = r_6 := hw_7.symm
  refine lv_istore (lv' := [(6, .int 1), (0, .ref b), (1, .ref x0), (2, .ref y0), (3, .ref o1), (4, .ref o2), (5, .int 0)]) hx hb dL_law_2100 hl (by decide) rfl (fun ls hl => ?_)
  refine lv_aload_n hx hb dL_law_2102 rfl (lv_at hl 3 rfl) ?_
  refine lv_aload_n hx hb dL_law_2103 rfl (lv_at hl 1 rfl) ?_
  refine lv_iload hx hb dL_law_2104 (lv_at hl 6 rfl) ?_
  refine lv_iconst (v := 1) hx hb dL_law_2106 (by decide) ?_
  refine lv_iadd hx hb dL_law_2107 ?_
  refine lv_topi (fun f_9 ef_9 => ?_)
  obtain rfl : f_9 = 1 := ef_9.trans (by decide)
  refine va_sld hx hb hX hbl hbA hS (by unfold vp_in; decide +kernel) dL_law_2108 ?_
  refine lv_topi (fun f_10 ef_10 => ?_)
  obtain rfl : f_10 = xs 1 := ef_10
  refine lv_aload_n hx hb dL_law_2109 rfl (lv_at hl 1 rfl) ?_
  refine lv_iload hx hb dL_law_2110 (lv_at hl 6 rfl) ?_
  refine lv_iconst (v := 2) hx hb dL_law_2112 (by decide) ?_
  refine lv_iadd hx hb dL_law_2113 ?_
  refine lv_topi (fun f_11 ef_11 => ?_)
  obtain rfl : f_11 = 2 := ef_11.trans (by decide)
  refine va_sld hx hb hX hbl hbA hS (by unfold vp_in; decide +kernel) dL_law_2114 ?_
  refine lv_topi (fun f_12 ef_12 => ?_)
  obtain rfl : f_12 = xs 2 := ef_12
  have hPc := hP.sub (ws' := [(y0, .inr (18, [.int 0, .ref l1, .ref l2, .ref l3, .ref l4, .ref l5, .ref l6, .int 0, .int 3, .int 12, .ref m1, .ref m2, .ref m3, .ref m4, .ref m5, .ref m6])), (l5, .inr (3, [.int 0, .ref z, .int 0]))]) [11, 16] rfl
  have hKc := hK.sub (tys' := []) [] rfl
  have hDc := hD.sub (ws' := [(y0, .inr (18, [.int 0, .ref l1, .ref l2, .ref l3, .ref l4, .ref l5, .ref l6, .int 0, .int 3, .int 12, .ref m1, .ref m2, .ref m3, .ref m4, .ref m5, .ref m6])), (l5, .inr (3, [.int 0, .ref z, .int 0]))]) [11, 16] (by decide) rfl
  have hFc := va_free (wc := [(y0, .inr (18, [.int 0, .ref l1, .ref l2, .ref l3, .ref l4, .ref l5, .ref l6, .int 0, .int 3, .int 12, .ref m1, .ref m2, .ref m3, .ref m4, .ref m5, .ref m6])), (l5, .inr (3, [.int 0, .ref z, .int 0]))]) hD hS hA [11, 16] rfl
  refine va_calli (va_runV (As := [.int (xs 1), .int (xs 2)]) (rest := []) ⟨hx, hb, hml, hown, hts⟩ (k_X14_distance l G z y0 0 l1 l2 l3 l4 l5 l6 3 12 m1 m2 m3 m4 m5 m6 0 z ((xs 1)) ((xs 2)) H_5.size ) (cwV 2 hts (lw_goodApp (lw_4 q1616 q1617 q1618 q7) q1619) rfl rfl rfl (by decide +kernel) ⟨Nat.le_of_ble_eq_true rfl, Nat.le_of_ble_eq_true rfl⟩) ⟨PW.blind, va_recv hK hP (ci := 18) (q0 := 11) rfl rfl, PW.of hPc hKc hDc hG hS hFc [.ref y0, .int (xs 1), .int (xs 2)]⟩ rfl rfl hl.1 rfl (lv_room (Nat.le_of_ble_eq_true rfl)) dL_law_2115 ⟨Nat.le_of_ble_eq_true rfl, Nat.le_of_ble_eq_true rfl⟩) hS (fun q _ h => hFc q h) hFc (fun r_14 u t_16 H_13 locs ht hvm hw_15 hB hz1 hk1 hS => ?_)
  obtain ⟨hP, hD, hK⟩ := QW.join (wr := [(a1, .inr (3, [.int 0, .ref z, .int 0])), (a2, .inr (3, [.int 0, .ref z, .int 0])), (a3, .inr (3, [.int 0, .ref z, .int 0])), (a4, .inr (3, [.int 0, .ref z, .int 0])), (a6, .inr (10, [.ref b1, .ref b2, .ref b3, .int 0])), (b1, .inl (cyA, 400, .inl (nI))), (b2, .inl (cyJ, 512, .inl (fun _ => 0))), (b3, .inl (cyT, 400, .inl (fun _ => 0))), (a7, .inr (4, [.ref d1, .ref d2, .ref d3, .ref d4, .int 0, .int 12])), (d4, .inl (cyO, 20, .inr (.inr (.inr (.inr (fS)))))), (r0, .inl (cyI, 20, .inl (fun _ => 0))), (l1, .inr (3, [.int 0, .ref z, .int 0])), (l2, .inr (3, [.int 0, .ref z, .int 0])), (l3, .inr (3, [.int 0, .ref z, .int 0])), (l4, .inr (3, [.int 0, .ref z, .int 0])), (l6, .inr (3, [.int 0, .ref z, .int 0])), (o2, .inl (cyD, 1, .inr (.inr (.inr (.inl (fun _ => 0)))))), (o1, .inl (cyL, 1, .inr (.inl ((fun _ => 0)))))]) (w1 := [(y0, .inr (18, [.int 1, .ref l1, .ref l2, .ref l3, .ref l4, .ref l5, .ref l6, .int 0, .int 3, .int 12, .ref m1, .ref m2, .ref m3, .ref m4, .ref m5, .ref m6]))]) hP hD hK [11, 16] [0, 1, 2, 3, 4, 5, 6, 7, 8, 9, 10, 12, 13, 14, 15, 17, 18, 19] rfl rfl (by decide) (by decide) hk1 hFc ht hvm hB
  have hP : va_P G vwCl ([(a1, .inr (3, [.int 0, .ref z, .int 0])), (a2, .inr (3, [.int 0, .ref z, .int 0])), (a3, .inr (3, [.int 0, .ref z, .int 0])), (a4, .inr (3, [.int 0, .ref z, .int 0])), (a6, .inr (10, [.ref b1, .ref b2, .ref b3, .int 0])), (b1, .inl (cyA, 400, .inl (nI))), (b2, .inl (cyJ, 512, .inl (fun _ => 0))), (b3, .inl (cyT, 400, .inl (fun _ => 0))), (a7, .inr (4, [.ref d1, .ref d2, .ref d3, .ref d4, .int 0, .int 12])), (d4, .inl (cyO, 20, .inr (.inr (.inr (.inr (fS)))))), (r0, .inl (cyI, 20, .inl (fun _ => 0))), (l1, .inr (3, [.int 0, .ref z, .int 0])), (l2, .inr (3, [.int 0, .ref z, .int 0])), (l3, .inr (3, [.int 0, .ref z, .int 0])), (l4, .inr (3, [.int 0, .ref z, .int 0])), (l6, .inr (3, [.int 0, .ref z, .int 0])), (o2, .inl (cyD, 1, .inr (.inr (.inr (.inl (fun _ => 0)))))), (o1, .inl (cyL, 1, .inr (.inl ((fun _ => 0))))), (y0, .inr (18, [.int 1, .ref l1, .ref l2, .ref l3, .ref l4, .ref l5, .ref l6, .int 0, .int 3, .int 12, .ref m1, .ref m2, .ref m3, .ref m4, .ref m5, .ref m6]))]) H_13 := hP
  have hD : va_D A ([(a1, .inr (3, [.int 0, .ref z, .int 0])), (a2, .inr (3, [.int 0, .ref z, .int 0])), (a3, .inr (3, [.int 0, .ref z, .int 0])), (a4, .inr (3, [.int 0, .ref z, .int 0])), (a6, .inr (10, [.ref b1, .ref b2, .ref b3, .int 0])), (b1, .inl (cyA, 400, .inl (nI))), (b2, .inl (cyJ, 512, .inl (fun _ => 0))), (b3, .inl (cyT, 400, .inl (fun _ => 0))), (a7, .inr (4, [.ref d1, .ref d2, .ref d3, .ref d4, .int 0, .int 12])), (d4, .inl (cyO, 20, .inr (.inr (.inr (.inr (fS)))))), (r0, .inl (cyI, 20, .inl (fun _ => 0))), (l1, .inr (3, [.int 0, .ref z, .int 0])), (l2, .inr (3, [.int 0, .ref z, .int 0])), (l3, .inr (3, [.int 0, .ref z, .int 0])), (l4, .inr (3, [.int 0, .ref z, .int 0])), (l6, .inr (3, [.int 0, .ref z, .int 0])), (o2, .inl (cyD, 1, .inr (.inr (.inr (.inl (fun _ => 0)))))), (o1, .inl (cyL, 1, .inr (.inl ((fun _ => 0))))), (y0, .inr (18, [.int 1, .ref l1, .ref l2, .ref l3, .ref l4, .ref l5, .ref l6, .int 0, .int 3, .int 12, .ref m1, .ref m2, .ref m3, .ref m4, .ref m5, .ref m6]))]) := hD
  have hK : va_K G vwCl [(cyA, .int), (cyJ, .int), (cyT, .int), (cyO, .array .int), (cyI, .int), (cyL, .long), (cyD, .double), (cyL, .long)] s := hK
  refine W.widen (k := 136) (n := 2997) (Nat.le_of_ble_eq_true rfl) (Nat.le_of_ble_eq_true rfl) ?_
  refine lv_istore (lv' := [(7, .int r_14), (6, .int 1), (0, .ref b), (1, .ref x0), (2, .ref y0), (3, .ref o1), (4, .ref o2), (5, .int 0)]) hx hb dL_law_2118 hl (by decide) rfl (fun ls hl => ?_)
  refine lv_aload_n hx hb dL_law_2120 rfl (lv_at hl 4 rfl) ?_
  have hPc := hP.sub (ws' := [(y0, .inr (18, [.int 1, .ref l1, .ref l2, .ref l3, .ref l4, .ref l5, .ref l6, .int 0, .int 3, .int 12, .ref m1, .ref m2, .ref m3, .ref m4, .ref m5, .ref m6]))]) [18] rfl
  have hKc := hK.sub (tys' := []) [] rfl
  refine va_calli (va_runV (As := []) (rest := []) ⟨hx, hb, hml, hown, hts⟩ (k_X14_thrown l G z y0 1 l1 l2 l3 l4 l5 l6 3 12 m1 m2 m3 m4 m5 m6 H_13.size ) (cwV 0 hts (lw_goodApp (lw_4 q1236 q1237 q1238 q7) q1239) rfl rfl rfl (by decide +kernel) ⟨Nat.le_of_ble_eq_true rfl, Nat.le_of_ble_eq_true rfl⟩) ⟨PR.blind, va_recv hK hP (ci := 18) (q0 := 18) rfl rfl, PR.of hPc hKc hG hS hA [.ref y0]⟩ rfl rfl hl.1 rfl (lv_room (Nat.le_of_ble_eq_true rfl)) dL_law_2121 ⟨Nat.le_of_ble_eq_true rfl, Nat.le_of_ble_eq_true rfl⟩) hS (fun q h9 h => zN.not h9 h) (fun q h => hA q (Nat.le_trans hS.1 h)) (fun r_18 u t_20 H_17 locs ht hvm hw_19 hB hz1 hk1 hS => ?_)
  have hP := hP.grown hk1
  refine W.widen (k := 136) (n := 2997) (Nat.le_of_ble_eq_true rfl) (Nat.le_of_ble_eq_true rfl) ?_
  obtain rfl : 1 = r_18 := hw_19.symm
  refine lv_iload hx hb dL_law_2124 (lv_at hl 1 rfl) ?_
  refine lv_icmp_eq (tgt := 2131) hx hb dL_law_2126 (by decide) (fun c_21 => ?_) (fun c_21 => absurd rfl c_21)
  refine lv_iload hx hb dL_law_2131 (lv_at hl 1 rfl) ?_
  refine lv_if_ne (tgt := 2148) hx hb dL_law_2133 (by decide) (fun c_22 => ?_) (fun c_22 => absurd c_22 (by decide))
  refine lv_goto (tgt := 3288) hx hb dL_law_2148 (by decide) ?_
  exact law_tail hfl C0 hA hA2 hS (lv_sub hl [2, 7] rfl) (Nat.le_of_ble_eq_true rfl) (Nat.le_of_ble_eq_true rfl)
set_option maxHeartbeats 8000000 in
set_option maxRecDepth 100000 in
/-- script value 25 -/
theorem law_case_25 {p : Program} {l : Launch} {e : Env} {s : State} {m : MethodId} {below : List Frame} {meth : Method} {c : Code} {b : Nat} {xs : Nat → Int32} (hfl : l.stackTraces = false) (C0 : lw_At p s m meth c b 7 xs) {A : Nat → Prop} (hA : ∀ q : Nat, s.heap.size ≤ q → A q) (hA2 : ∀ q : Nat, A q → s.heap.size ≤ q) (G : va_G) (z : Nat) (hG : zG z A s s.heap) (x0 : Nat) (y0 : Nat) (o1 : Nat) (o2 : Nat) (cyL : ClassId) (cyD : ClassId) (a1 : Nat) (a2 : Nat) (a3 : Nat) (a4 : Nat) (a5 : Nat) (a6 : Nat) (a7 : Nat) (a8 : Nat) (b1 : Nat) (b2 : Nat) (b3 : Nat) (cyA : ClassId) (cyJ : ClassId) (cyT : ClassId) (d1 : Nat) (d2 : Nat) (d3 : Nat) (d4 : Nat) (cyO : ClassId) (fS : Nat → Option Nat) (cyI : ClassId) (r0 : Nat) (l1 : Nat) (l2 : Nat) (l3 : Nat) (l4 : Nat) (l5 : Nat) (l6 : Nat) (m1 : Nat) (m2 : Nat) (m3 : Nat) (m4 : Nat) (m5 : Nat) (m6 : Nat) (hf0 : fS 0 = some r0) {H : Heap} {locs : List Loc} (hP : va_P G vwCl ([(x0, .inr (12, [.ref a1, .ref a2, .ref a3, .ref a4, .ref a5, .ref a6, .ref a7, .ref a8, .int 3, .int 0])), (a1, .inr (3, [.int 0, .ref z, .int 0])), (a2, .inr (3, [.int 0, .ref z, .int 0])), (a3, .inr (3, [.int 0, .ref z, .int 0])), (a4, .inr (3, [.int 0, .ref z, .int 0])), (a5, .inr (3, [.int 0, .ref z, .int 0])), (a6, .inr (10, [.ref b1, .ref b2, .ref b3, .int 0])), (b1, .inl (cyA, 400, .inl (nI))), (b2, .inl (cyJ, 512, .inl (fun _ => 0))), (b3, .inl (cyT, 400, .inl (fun _ => 0))), (a7, .inr (4, [.ref d1, .ref d2, .ref d3, .ref d4, .int 0, .int 12])), (d4, .inl (cyO, 20, .inr (.inr (.inr (.inr (fS)))))), (r0, .inl (cyI, 20, .inl (fun _ => 0))), (y0, .inr (18, [.int 0, .ref l1, .ref l2, .ref l3, .ref l4, .ref l5, .ref l6, .int 0, .int 3, .int 12, .ref m1, .ref m2, .ref m3, .ref m4, .ref m5, .ref m6])), (l1, .inr (3, [.int 0, .ref z, .int 0])), (l2, .inr (3, [.int 0, .ref z, .int 0])), (l3, .inr (3, [.int 0, .ref z, .int 0])), (l4, .inr (3, [.int 0, .ref z, .int 0])), (l5, .inr (3, [.int 0, .ref z, .int 0])), (l6, .inr (3, [.int 0, .ref z, .int 0])), (o1, .inl (cyL, 1, .inr (.inl (fun _ => 0)))), (o2, .inl (cyD, 1, .inr (.inr (.inr (.inl (fun _ => 0))))))]) H) (hD : va_D A ([(x0, .inr (12, [.ref a1, .ref a2, .ref a3, .ref a4, .ref a5, .ref a6, .ref a7, .ref a8, .int 3, .int 0])), (a1, .inr (3, [.int 0, .ref z, .int 0])), (a2, .inr (3, [.int 0, .ref z, .int 0])), (a3, .inr (3, [.int 0, .ref z, .int 0])), (a4, .inr (3, [.int 0, .ref z, .int 0])), (a5, .inr (3, [.int 0, .ref z, .int 0])), (a6, .inr (10, [.ref b1, .ref b2, .ref b3, .int 0])), (b1, .inl (cyA, 400, .inl (nI))), (b2, .inl (cyJ, 512, .inl (fun _ => 0))), (b3, .inl (cyT, 400, .inl (fun _ => 0))), (a7, .inr (4, [.ref d1, .ref d2, .ref d3, .ref d4, .int 0, .int 12])), (d4, .inl (cyO, 20, .inr (.inr (.inr (.inr (fS)))))), (r0, .inl (cyI, 20, .inl (fun _ => 0))), (y0, .inr (18, [.int 0, .ref l1, .ref l2, .ref l3, .ref l4, .ref l5, .ref l6, .int 0, .int 3, .int 12, .ref m1, .ref m2, .ref m3, .ref m4, .ref m5, .ref m6])), (l1, .inr (3, [.int 0, .ref z, .int 0])), (l2, .inr (3, [.int 0, .ref z, .int 0])), (l3, .inr (3, [.int 0, .ref z, .int 0])), (l4, .inr (3, [.int 0, .ref z, .int 0])), (l5, .inr (3, [.int 0, .ref z, .int 0])), (l6, .inr (3, [.int 0, .ref z, .int 0])), (o1, .inl (cyL, 1, .inr (.inl (fun _ => 0)))), (o2, .inl (cyD, 1, .inr (.inr (.inr (.inl (fun _ => 0))))))])) (hK : va_K G vwCl [(cyA, .int), (cyJ, .int), (cyT, .int), (cyO, .array .int), (cyI, .int), (cyL, .long), (cyD, .double)] s) (hS : va_S A s.heap H locs) {ls : Array Slot} (hl : lv_has ls 9 [(0, .ref b), (1, .ref x0), (2, .ref y0), (3, .ref o1), (4, .ref o2), (5, .int 0)]) : W p l e room_1 s m #[Value.ref b] below meth c H locs 135 2991 (lw_Z below #[Value.ref b] s) (F0 m 2151 ls []) := by
  have C9 := C0
  obtain ⟨hx, hb, hr, hml, hown, hts0, hX, hbl, hlocks, hgv⟩ := id C0
  have hg := lw_sub_good hts0
  have hts : ∀ w ∈ (lw_hd :: lw_good), w.before #[Value.ref b] s = true := fun w h => (List.mem_cons.mp h).elim (fun e9 => e9 ▸ hg _ q0) (hg w)
  have hbA : ¬ A b := fun h => Nat.not_le.mpr hbl (hA2 b h)
  refine lv_aload_n hx hb dL_law_2151 rfl (lv_at hl 1 rfl) ?_
  refine lv_aload_n hx hb dL_law_2152 rfl (lv_at hl 0 rfl) ?_
  refine lv_iload hx hb dL_law_2153 (lv_at hl 5 rfl) ?_
  refine lv_iconst (v := 1) hx hb dL_law_2155 (by decide) ?_
  refine lv_iadd hx hb dL_law_2156 ?_
  refine lv_topi (fun f_1 ef_1 => ?_)
  obtain rfl : f_1 = 1 := ef_1.trans (by decide)
  refine va_sld hx hb hX hbl hbA hS (by unfold vp_in; decide +kernel) dL_law_2157 ?_
  refine lv_topi (fun f_2 ef_2 => ?_)
  obtain rfl : f_2 = xs 1 := ef_2
  refine lv_aload_n hx hb dL_law_2158 rfl (lv_at hl 0 rfl) ?_
  refine lv_iload hx hb dL_law_2159 (lv_at hl 5 rfl) ?_
  refine lv_iconst (v := 2) hx hb dL_law_2161 (by decide) ?_
  refine lv_iadd hx hb dL_law_2162 ?_
  refine lv_topi (fun f_3 ef_3 => ?_)
  obtain rfl : f_3 = 2 := ef_3.trans (by decide)
  refine va_sld hx hb hX hbl hbA hS (by unfold vp_in; decide +kernel) dL_law_2163 ?_
  refine lv_topi (fun f_4 ef_4 => ?_)
  obtain rfl : f_4 = xs 2 := ef_4
  refine lv_aload_n hx hb dL_law_2164 rfl (lv_at hl 3 rfl) ?_
  have hPc := hP.sub (ws' := [(x0, .inr (12, [.ref a1, .ref a2, .ref a3, .ref a4, .ref a5, .ref a6, .ref a7, .ref a8, .int 3, .int 0])), (a5, .inr (3, [.int 0, .ref z, .int 0])), (o1, .inl (cyL, 1, .inr (.inl (fun _ => 0))))]) [0, 5, 20] rfl
  have hKc := hK.sub (tys' := [(cyL, .long)]) [5] rfl
  have hDc := hD.sub (ws' := [(x0, .inr (12, [.ref a1, .ref a2, .ref a3, .ref a4, .ref a5, .ref a6, .ref a7, .ref a8, .int 3, .int 0])), (a5, .inr (3, [.int 0, .ref z, .int 0])), (o1, .inl (cyL, 1, .inr (.inl (fun _ => 0))))]) [0, 5, 20] (by decide) rfl
  have hFc := va_free (wc := [(x0, .inr (12, [.ref a1, .ref a2, .ref a3, .ref a4, .ref a5, .ref a6, .ref a7, .ref a8, .int 3, .int 0])), (a5, .inr (3, [.int 0, .ref z, .int 0])), (o1, .inl (cyL, 1, .inr (.inl (fun _ => 0))))]) hD hS hA [0, 5, 20] rfl
  refine va_calli (vx_runSW (As := [.ref x0, .int (xs 1), .int (xs 2), .ref o1]) (rest := []) ⟨hx, hb, hml, hown, hts⟩ (k_L_compare l hfl G z x0 a1 a2 a3 a4 a5 a6 a7 a8 3 0 0 z ((xs 1)) ((xs 2)) o1 cyL (fun _ => 0) H.size ) (vx_cwSW 4 hts (lw_goodApp (lw_3 q1011 q1012 q0) q1013) rfl rfl rfl (by decide +kernel) ⟨Nat.le_of_ble_eq_true rfl, Nat.le_of_ble_eq_true rfl⟩) ⟨PW.blind, PW.of hPc hKc hDc hG hS hFc [.ref x0, .int (xs 1), .int (xs 2), .ref o1]⟩ rfl rfl hl.1 rfl (lv_room (Nat.le_of_ble_eq_true rfl)) dL_law_2165 ⟨Nat.le_of_ble_eq_true rfl, Nat.le_of_ble_eq_true rfl⟩) hS (fun q _ h => hFc q h) hFc (fun r_6 u t_8 H_5 locs ht hvm hw_7 hB hz1 hk1 hS => ?_)
  obtain ⟨hP, hD, hK⟩ := QW.join (wr := [(a1, .inr (3, [.int 0, .ref z, .int 0])), (a2, .inr (3, [.int 0, .ref z, .int 0])), (a3, .inr (3, [.int 0, .ref z, .int 0])), (a4, .inr (3, [.int 0, .ref z, .int 0])), (a6, .inr (10, [.ref b1, .ref b2, .ref b3, .int 0])), (b1, .inl (cyA, 400, .inl (nI))), (b2, .inl (cyJ, 512, .inl (fun _ => 0))), (b3, .inl (cyT, 400, .inl (fun _ => 0))), (a7, .inr (4, [.ref d1, .ref d2, .ref d3, .ref d4, .int 0, .int 12])), (d4, .inl (cyO, 20, .inr (.inr (.inr (.inr (fS)))))), (r0, .inl (cyI, 20, .inl (fun _ => 0))), (y0, .inr (18, [.int 0, .ref l1, .ref l2, .ref l3, .ref l4, .ref l5, .ref l6, .int 0, .int 3, .int 12, .ref m1, .ref m2, .ref m3, .ref m4, .ref m5, .ref m6])), (l1, .inr (3, [.int 0, .ref z, .int 0])), (l2, .inr (3, [.int 0, .ref z, .int 0])), (l3, .inr (3, [.int 0, .ref z, .int 0])), (l4, .inr (3, [.int 0, .ref z, .int 0])), (l5, .inr (3, [.int 0, .ref z, .int 0])), (l6, .inr (3, [.int 0, .ref z, .int 0])), (o2, .inl (cyD, 1, .inr (.inr (.inr (.inl (fun _ => 0))))))]) (w1 := [(o1, .inl (cyL, 1, .inr (.inl ((fun _ => 0)))))]) hP hD hK [0, 5, 20] [1, 2, 3, 4, 6, 7, 8, 9, 10, 11, 12, 13, 14, 15, 16, 17, 18, 19, 21] rfl rfl (by decide) (by decide) hk1 hFc ht hvm hB
  have hP : va_P G vwCl ([(a1, .inr (3, [.int 0, .ref z, .int 0])), (a2, .inr (3, [.int 0, .ref z, .int 0])), (a3, .inr (3, [.int 0, .ref z, .int 0])), (a4, .inr (3, [.int 0, .ref z, .int 0])), (a6, .inr (10, [.ref b1, .ref b2, .ref b3, .int 0])), (b1, .inl (cyA, 400, .inl (nI))), (b2, .inl (cyJ, 512, .inl (fun _ => 0))), (b3, .inl (cyT, 400, .inl (fun _ => 0))), (a7, .inr (4, [.ref d1, .ref d2, .ref d3, .ref d4, .int 0, .int 12])), (d4, .inl (cyO, 20, .inr (.inr (.inr (.inr (fS)))))), (r0, .inl (cyI, 20, .inl (fun _ => 0))), (y0, .inr (18, [.int 0, .ref l1, .ref l2, .ref l3, .ref l4, .ref l5, .ref l6, .int 0, .int 3, .int 12, .ref m1, .ref m2, .ref m3, .ref m4, .ref m5, .ref m6])), (l1, .inr (3, [.int 0, .ref z, .int 0])), (l2, .inr (3, [.int 0, .ref z, .int 0])), (l3, .inr (3, [.int 0, .ref z, .int 0])), (l4, .inr (3, [.int 0, .ref z, .int 0])), (l5, .inr (3, [.int 0, .ref z, .int 0])), (l6, .inr (3, [.int 0, .ref z, .int 0])), (o2, .inl (cyD, 1, .inr (.inr (.inr (.inl (fun _ => 0)))))), (o1, .inl (cyL, 1, .inr (.inl ((fun _ => 0)))))]) H_5 := hP
  have hD : va_D A ([(a1, .inr (3, [.int 0, .ref z, .int 0])), (a2, .inr (3, [.int 0, .ref z, .int 0])), (a3, .inr (3, [.int 0, .ref z, .int 0])), (a4, .inr (3, [.int 0, .ref z, .int 0])), (a6, .inr (10, [.ref b1, .ref b2, .ref b3, .int 0])), (b1, .inl (cyA, 400, .inl (nI))), (b2, .inl (cyJ, 512, .inl (fun _ => 0))), (b3, .inl (cyT, 400, .inl (fun _ => 0))), (a7, .inr (4, [.ref d1, .ref d2, .ref d3, .ref d4, .int 0, .int 12])), (d4, .inl (cyO, 20, .inr (.inr (.inr (.inr (fS)))))), (r0, .inl (cyI, 20, .inl (fun _ => 0))), (y0, .inr (18, [.int 0, .ref l1, .ref l2, .ref l3, .ref l4, .ref l5, .ref l6, .int 0, .int 3, .int 12, .ref m1, .ref m2, .ref m3, .ref m4, .ref m5, .ref m6])), (l1, .inr (3, [.int 0, .ref z, .int 0])), (l2, .inr (3, [.int 0, .ref z, .int 0])), (l3, .inr (3, [.int 0, .ref z, .int 0])), (l4, .inr (3, [.int 0, .ref z, .int 0])), (l5, .inr (3, [.int 0, .ref z, .int 0])), (l6, .inr (3, [.int 0, .ref z, .int 0])), (o2, .inl (cyD, 1, .inr (.inr (.inr (.inl (fun _ => 0)))))), (o1, .inl (cyL, 1, .inr (.inl ((fun _ => 0)))))]) := hD
  have hK : va_K G vwCl [(cyA, .int), (cyJ, .int), (cyT, .int), (cyO, .array .int), (cyI, .int), (cyL, .long), (cyD, .double), (cyL, .long)] s := hK
  refine W.widen (k := 136) (n := 2997) (Nat.le_of_ble_eq_true rfl) (Nat.le_of_ble_eq_true rfl) ?_
  obtain rfl : 1 = r_6 := hw_7.symm
  refine lv_istore (lv' := [(6, .int 1), (0, .ref b), (1, .ref x0), (2, .ref y0), (3, .ref o1), (4, .ref o2), (5, .int 0)]) hx hb dL_law_2168 hl (by decide) rfl (fun ls hl => ?_)
  refine lv_aload_n hx hb dL_law_2170 rfl (lv_at hl 3 rfl) ?_
  refine lv_aload_n hx hb dL_law_2171 rfl (lv_at hl 1 rfl) ?_
  refine lv_iload hx hb dL_law_2172 (lv_at hl 6 rfl) ?_
  refine lv_iconst (v := 1) hx hb dL_law_2174 (by decide) ?_
  refine lv_iadd hx hb dL_law_2175 ?_
  refine lv_topi (fun f_9 ef_9 => ?_)
  obtain rfl : f_9 = 1 := ef_9.trans (by decide)
  refine va_sld hx hb hX hbl hbA hS (by unfold vp_in; decide +kernel) dL_law_2176 ?_
  refine lv_topi (fun f_10 ef_10 => ?_)
  obtain rfl : f_10 = xs 1 := ef_10
  refine lv_aload_n hx hb dL_law_2177 rfl (lv_at hl 1 rfl) ?_
  refine lv_iload hx hb dL_law_2178 (lv_at hl 6 rfl) ?_
  refine lv_iconst (v := 2) hx hb dL_law_2180 (by decide) ?_
  refine lv_iadd hx hb dL_law_2181 ?_
  refine lv_topi (fun f_11 ef_11 => ?_)
  obtain rfl : f_11 = 2 := ef_11.trans (by decide)
  refine va_sld hx hb hX hbl hbA hS (by unfold vp_in; decide +kernel) dL_law_2182 ?_
  refine lv_topi (fun f_12 ef_12 => ?_)
  obtain rfl : f_12 = xs 2 := ef_12
  have hPc := hP.sub (ws' := [(y0, .inr (18, [.int 0, .ref l1, .ref l2, .ref l3, .ref l4, .ref l5, .ref l6, .int 0, .int 3, .int 12, .ref m1, .ref m2, .ref m3, .ref m4, .ref m5, .ref m6])), (l5, .inr (3, [.int 0, .ref z, .int 0]))]) [11, 16] rfl
  have hKc := hK.sub (tys' := []) [] rfl
  have hDc := hD.sub (ws' := [(y0, .inr (18, [.int 0, .ref l1, .ref l2, .ref l3, .ref l4, .ref l5, .ref l6, .int 0, .int 3, .int 12, .ref m1, .ref m2, .ref m3, .ref m4, .ref m5, .ref m6])), (l5, .inr (3, [.int 0, .ref z, .int 0]))]) [11, 16] (by decide) rfl
  have hFc := va_free (wc := [(y0, .inr (18, [.int 0, .ref l1, .ref l2, .ref l3, .ref l4, .ref l5, .ref l6, .int 0, .int 3, .int 12, .ref m1, .ref m2, .ref m3, .ref m4, .ref m5, .ref m6])), (l5, .inr (3, [.int 0, .ref z, .int 0]))]) hD hS hA [11, 16] rfl
  refine va_calli (va_runV (As := [.int (xs 1), .int (xs 2)]) (rest := []) ⟨hx, hb, hml, hown, hts⟩ (k_X14_compare_ l G z y0 0 l1 l2 l3 l4 l5 l6 3 12 m1 m2 m3 m4 m5 m6 0 z ((xs 1)) ((xs 2)) H_5.size ) (cwV 2 hts (lw_goodApp (lw_4 q1620 q1621 q1622 q7) q1623) rfl rfl rfl (by decide +kernel) ⟨Nat.le_of_ble_eq_true rfl, Nat.le_of_ble_eq_true rfl⟩) ⟨PW.blind, va_recv hK hP (ci := 18) (q0 := 11) rfl rfl, PW.of hPc hKc hDc hG hS hFc [.ref y0, .int (xs 1), .int (xs 2)]⟩ rfl rfl hl.1 rfl (lv_room (Nat.le_of_ble_eq_true rfl)) dL_law_2183 ⟨Nat.le_of_ble_eq_true rfl, Nat.le_of_ble_eq_true rfl⟩) hS (fun q _ h => hFc q h) hFc (fun r_14 u t_16 H_13 locs ht hvm hw_15 hB hz1 hk1 hS => ?_)
  obtain ⟨hP, hD, hK⟩ := QW.join (wr := [(a1, .inr (3, [.int 0, .ref z, .int 0])), (a2, .inr (3, [.int 0, .ref z, .int 0])), (a3, .inr (3, [.int 0, .ref z, .int 0])), (a4, .inr (3, [.int 0, .ref z, .int 0])), (a6, .inr (10, [.ref b1, .ref b2, .ref b3, .int 0])), (b1, .inl (cyA, 400, .inl (nI))), (b2, .inl (cyJ, 512, .inl (fun _ => 0))), (b3, .inl (cyT, 400, .inl (fun _ => 0))), (a7, .inr (4, [.ref d1, .ref d2, .ref d3, .ref d4, .int 0, .int 12])), (d4, .inl (cyO, 20, .inr (.inr (.inr (.inr (fS)))))), (r0, .inl (cyI, 20, .inl (fun _ => 0))), (l1, .inr (3, [.int 0, .ref z, .int 0])), (l2, .inr (3, [.int 0, .ref z, .int 0])), (l3, .inr (3, [.int 0, .ref z, .int 0])), (l4, .inr (3, [.int 0, .ref z, .int 0])), (l6, .inr (3, [.int 0, .ref z, .int 0])), (o2, .inl (cyD, 1, .inr (.inr (.inr (.inl (fun _ => 0)))))), (o1, .inl (cyL, 1, .inr (.inl ((fun _ => 0)))))]) (w1 := [(y0, .inr (18, [.int 1, .ref l1, .ref l2, .ref l3, .ref l4, .ref l5, .ref l6, .int 0, .int 3, .int 12, .ref m1, .ref m2, .ref m3, .ref m4, .ref m5, .ref m6]))]) hP hD hK [11, 16] [0, 1, 2, 3, 4, 5, 6, 7, 8, 9, 10, 12, 13, 14, 15, 17, 18, 19] rfl rfl (by decide) (by decide) hk1 hFc ht hvm hB
  have hP : va_P G vwCl ([(a1, .inr (3, [.int 0, .ref z, .int 0])), (a2, .inr (3, [.int 0, .ref z, .int 0])), (a3, .inr (3, [.int 0, .ref z, .int 0])), (a4, .inr (3, [.int 0, .ref z, .int 0])), (a6, .inr (10, [.ref b1, .ref b2, .ref b3, .int 0])), (b1, .inl (cyA, 400, .inl (nI))), (b2, .inl (cyJ, 512, .inl (fun _ => 0))), (b3, .inl (cyT, 400, .inl (fun _ => 0))), (a7, .inr (4, [.ref d1, .ref d2, .ref d3, .ref d4, .int 0, .int 12])), (d4, .inl (cyO, 20, .inr (.inr (.inr (.inr (fS)))))), (r0, .inl (cyI, 20, .inl (fun _ => 0))), (l1, .inr (3, [.int 0, .ref z, .int 0])), (l2, .inr (3, [.int 0, .ref z, .int 0])), (l3, .inr (3, [.int 0, .ref z, .int 0])), (l4, .inr (3, [.int 0, .ref z, .int 0])), (l6, .inr (3, [.int 0, .ref z, .int 0])), (o2, .inl (cyD, 1, .inr (.inr (.inr (.inl (fun _ => 0)))))), (o1, .inl (cyL, 1, .inr (.inl ((fun _ => 0))))), (y0, .inr (18, [.int 1, .ref l1, .ref l2, .ref l3, .ref l4, .ref l5, .ref l6, .int 0, .int 3, .int 12, .ref m1, .ref m2, .ref m3, .ref m4, .ref m5, .ref m6]))]) H_13 := hP
  have hD : va_D A ([(a1, .inr (3, [.int 0, .ref z, .int 0])), (a2, .inr (3, [.int 0, .ref z, .int 0])), (a3, .inr (3, [.int 0, .ref z, .int 0])), (a4, .inr (3, [.int 0, .ref z, .int 0])), (a6, .inr (10, [.ref b1, .ref b2, .ref b3, .int 0])), (b1, .inl (cyA, 400, .inl (nI))), (b2, .inl (cyJ, 512, .inl (fun _ => 0))), (b3, .inl (cyT, 400, .inl (fun _ => 0))), (a7, .inr (4, [.ref d1, .ref d2, .ref d3, .ref d4, .int 0, .int 12])), (d4, .inl (cyO, 20, .inr (.inr (.inr (.inr (fS)))))), (r0, .inl (cyI, 20, .inl (fun _ => 0))), (l1, .inr (3, [.int 0, .ref z, .int 0])), (l2, .inr (3, [.int 0, .ref z, .int 0])), (l3, .inr (3, [.int 0, .ref z, .int 0])), (l4, .inr (3, [.int 0, .ref z, .int 0])), (l6, .inr (3, [.int 0, .ref z, .int 0])), (o2, .inl (cyD, 1, .inr (.inr (.inr (.inl (fun _ => 0)))))), (o1, .inl (cyL, 1, .inr (.inl ((fun _ => 0))))), (y0, .inr (18, [.int 1, .ref l1, .ref l2, .ref l3, .ref l4, .ref l5, .ref l6, .int 0, .int 3, .int 12, .ref m1, .ref m2, .ref m3, .ref m4, .ref m5, .ref m6]))]) := hD
  have hK : va_K G vwCl [(cyA, .int), (cyJ, .int), (cyT, .int), (cyO, .array .int), (cyI, .int), (cyL, .long), (cyD, .double), (cyL, .long)] s := hK
  refine W.widen (k := 136) (n := 2997) (Nat.le_of_ble_eq_true rfl) (Nat.le_of_ble_eq_true rfl) ?_
  refine lv_istore (lv' := [(7, .int r_14), (6, .int 1), (0, .ref b), (1, .ref x0), (2, .ref y0), (3, .ref o1), (4, .ref o2), (5, .int 0)]) hx hb dL_law_2186 hl (by decide) rfl (fun ls hl => ?_)
  refine lv_aload_n hx hb dL_law_2188 rfl (lv_at hl 4 rfl) ?_
  have hPc := hP.sub (ws' := [(y0, .inr (18, [.int 1, .ref l1, .ref l2, .ref l3, .ref l4, .ref l5, .ref l6, .int 0, .int 3, .int 12, .ref m1, .ref m2, .ref m3, .ref m4, .ref m5, .ref m6]))]) [18] rfl
  have hKc := hK.sub (tys' := []) [] rfl
  refine va_calli (va_runV (As := []) (rest := []) ⟨hx, hb, hml, hown, hts⟩ (k_X14_thrown l G z y0 1 l1 l2 l3 l4 l5 l6 3 12 m1 m2 m3 m4 m5 m6 H_13.size ) (cwV 0 hts (lw_goodApp (lw_4 q1236 q1237 q1238 q7) q1239) rfl rfl rfl (by decide +kernel) ⟨Nat.le_of_ble_eq_true rfl, Nat.le_of_ble_eq_true rfl⟩) ⟨PR.blind, va_recv hK hP (ci := 18) (q0 := 18) rfl rfl, PR.of hPc hKc hG hS hA [.ref y0]⟩ rfl rfl hl.1 rfl (lv_room (Nat.le_of_ble_eq_true rfl)) dL_law_2189 ⟨Nat.le_of_ble_eq_true rfl, Nat.le_of_ble_eq_true rfl⟩) hS (fun q h9 h => zN.not h9 h) (fun q h => hA q (Nat.le_trans hS.1 h)) (fun r_18 u t_20 H_17 locs ht hvm hw_19 hB hz1 hk1 hS => ?_)
  have hP := hP.grown hk1
  refine W.widen (k := 136) (n := 2997) (Nat.le_of_ble_eq_true rfl) (Nat.le_of_ble_eq_true rfl) ?_
  obtain rfl : 1 = r_18 := hw_19.symm
  refine lv_iload hx hb dL_law_2192 (lv_at hl 1 rfl) ?_
  refine lv_icmp_eq (tgt := 2199) hx hb dL_law_2194 (by decide) (fun c_21 => ?_) (fun c_21 => absurd rfl c_21)
  refine lv_iload hx hb dL_law_2199 (lv_at hl 1 rfl) ?_
  refine lv_if_ne (tgt := 2216) hx hb dL_law_2201 (by decide) (fun c_22 => ?_) (fun c_22 => absurd c_22 (by decide))
  refine lv_goto (tgt := 3288) hx hb dL_law_2216 (by decide) ?_
  exact law_tail hfl C0 hA hA2 hS (lv_sub hl [2, 7] rfl) (Nat.le_of_ble_eq_true rfl) (Nat.le_of_ble_eq_true rfl)
set_option maxHeartbeats 8000000 in
set_option maxRecDepth 100000 in
/-- script value 26 -/
theorem law_case_26 {p : Program} {l : Launch} {e : Env} {s : State} {m : MethodId} {below : List Frame} {meth : Method} {c : Code} {b : Nat} {xs : Nat → Int32} (hfl : l.stackTraces = false) (C0 : lw_At p s m meth c b 7 xs) {A : Nat → Prop} (hA : ∀ q : Nat, s.heap.size ≤ q → A q) (hA2 : ∀ q : Nat, A q → s.heap.size ≤ q) (G : va_G) (z : Nat) (hG : zG z A s s.heap) (x0 : Nat) (y0 : Nat) (o1 : Nat) (o2 : Nat) (cyL : ClassId) (cyD : ClassId) (a1 : Nat) (a2 : Nat) (a3 : Nat) (a4 : Nat) (a5 : Nat) (a6 : Nat) (a7 : Nat) (a8 : Nat) (b1 : Nat) (b2 : Nat) (b3 : Nat) (cyA : ClassId) (cyJ : ClassId) (cyT : ClassId) (d1 : Nat) (d2 : Nat) (d3 : Nat) (d4 : Nat) (cyO : ClassId) (fS : Nat → Option Nat) (cyI : ClassId) (r0 : Nat) (l1 : Nat) (l2 : Nat) (l3 : Nat) (l4 : Nat) (l5 : Nat) (l6 : Nat) (m1 : Nat) (m2 : Nat) (m3 : Nat) (m4 : Nat) (m5 : Nat) (m6 : Nat) (hf0 : fS 0 = some r0) {H : Heap} {locs : List Loc} (hP : va_P G vwCl ([(x0, .inr (12, [.ref a1, .ref a2, .ref a3, .ref a4, .ref a5, .ref a6, .ref a7, .ref a8, .int 3, .int 0])), (a1, .inr (3, [.int 0, .ref z, .int 0])), (a2, .inr (3, [.int 0, .ref z, .int 0])), (a3, .inr (3, [.int 0, .ref z, .int 0])), (a4, .inr (3, [.int 0, .ref z, .int 0])), (a5, .inr (3, [.int 0, .ref z, .int 0])), (a6, .inr (10, [.ref b1, .ref b2, .ref b3, .int 0])), (b1, .inl (cyA, 400, .inl (nI))), (b2, .inl (cyJ, 512, .inl (fun _ => 0))), (b3, .inl (cyT, 400, .inl (fun _ => 0))), (a7, .inr (4, [.ref d1, .ref d2, .ref d3, .ref d4, .int 0, .int 12])), (d4, .inl (cyO, 20, .inr (.inr (.inr (.inr (fS)))))), (r0, .inl (cyI, 20, .inl (fun _ => 0))), (y0, .inr (18, [.int 0, .ref l1, .ref l2, .ref l3, .ref l4, .ref l5, .ref l6, .int 0, .int 3, .int 12, .ref m1, .ref m2, .ref m3, .ref m4, .ref m5, .ref m6])), (l1, .inr (3, [.int 0, .ref z, .int 0])), (l2, .inr (3, [.int 0, .ref z, .int 0])), (l3, .inr (3, [.int 0, .ref z, .int 0])), (l4, .inr (3, [.int 0, .ref z, .int 0])), (l5, .inr (3, [.int 0, .ref z, .int 0])), (l6, .inr (3, [.int 0, .ref z, .int 0])), (o1, .inl (cyL, 1, .inr (.inl (fun _ => 0)))), (o2, .inl (cyD, 1, .inr (.inr (.inr (.inl (fun _ => 0))))))]) H) (hD : va_D A ([(x0, .inr (12, [.ref a1, .ref a2, .ref a3, .ref a4, .ref a5, .ref a6, .ref a7, .ref a8, .int 3, .int 0])), (a1, .inr (3, [.int 0, .ref z, .int 0])), (a2, .inr (3, [.int 0, .ref z, .int 0])), (a3, .inr (3, [.int 0, .ref z, .int 0])), (a4, .inr (3, [.int 0, .ref z, .int 0])), (a5, .inr (3, [.int 0, .ref z, .int 0])), (a6, .inr (10, [.ref b1, .ref b2, .ref b3, .int 0])), (b1, .inl (cyA, 400, .inl (nI))), (b2, .inl (cyJ, 512, .inl (fun _ => 0))), (b3, .inl (cyT, 400, .inl (fun _ => 0))), (a7, .inr (4, [.ref d1, .ref d2, .ref d3, .ref d4, .int 0, .int 12])), (d4, .inl (cyO, 20, .inr (.inr (.inr (.inr (fS)))))), (r0, .inl (cyI, 20, .inl (fun _ => 0))), (y0, .inr (18, [.int 0, .ref l1, .ref l2, .ref l3, .ref l4, .ref l5, .ref l6, .int 0, .int 3, .int 12, .ref m1, .ref m2, .ref m3, .ref m4, .ref m5, .ref m6])), (l1, .inr (3, [.int 0, .ref z, .int 0])), (l2, .inr (3, [.int 0, .ref z, .int 0])), (l3, .inr (3, [.int 0, .ref z, .int 0])), (l4, .inr (3, [.int 0, .ref z, .int 0])), (l5, .inr (3, [.int 0, .ref z, .int 0])), (l6, .inr (3, [.int 0, .ref z, .int 0])), (o1, .inl (cyL, 1, .inr (.inl (fun _ => 0)))), (o2, .inl (cyD, 1, .inr (.inr (.inr (.inl (fun _ => 0))))))])) (hK : va_K G vwCl [(cyA, .int), (cyJ, .int), (cyT, .int), (cyO, .array .int), (cyI, .int), (cyL, .long), (cyD, .double)] s) (hS : va_S A s.heap H locs) {ls : Array Slot} (hl : lv_has ls 9 [(0, .ref b), (1, .ref x0), (2, .ref y0), (3, .ref o1), (4, .ref o2), (5, .int 0)]) : W p l e room_1 s m #[Value.ref b] below meth c H locs 135 2991 (lw_Z below #[Value.ref b] s) (F0 m 2219 ls []) := by
  have C9 := C0
  obtain ⟨hx, hb, hr, hml, hown, hts0, hX, hbl, hlocks, hgv⟩ := id C0
  have hg := lw_sub_good hts0
  have hts : ∀ w ∈ (lw_hd :: lw_good), w.before #[Value.ref b] s = true := fun w h => (List.mem_cons.mp h).elim (fun e9 => e9 ▸ hg _ q0) (hg w)
  have hbA : ¬ A b := fun h => Nat.not_le.mpr hbl (hA2 b h)
  refine lv_aload_n hx hb dL_law_2219 rfl (lv_at hl 1 rfl) ?_
  refine lv_aload_n hx hb dL_law_2220 rfl (lv_at hl 0 rfl) ?_
  refine lv_iload hx hb dL_law_2221 (lv_at hl 5 rfl) ?_
  refine lv_iconst (v := 1) hx hb dL_law_2223 (by decide) ?_
  refine lv_iadd hx hb dL_law_2224 ?_
  refine lv_topi (fun f_1 ef_1 => ?_)
  obtain rfl : f_1 = 1 := ef_1.trans (by decide)
  refine va_sld hx hb hX hbl hbA hS (by unfold vp_in; decide +kernel) dL_law_2225 ?_
  refine lv_topi (fun f_2 ef_2 => ?_)
  obtain rfl : f_2 = xs 1 := ef_2
  refine lv_aload_n hx hb dL_law_2226 rfl (lv_at hl 0 rfl) ?_
  refine lv_iload hx hb dL_law_2227 (lv_at hl 5 rfl) ?_
  refine lv_iconst (v := 2) hx hb dL_law_2229 (by decide) ?_
  refine lv_iadd hx hb dL_law_2230 ?_
  refine lv_topi (fun f_3 ef_3 => ?_)
  obtain rfl : f_3 = 2 := ef_3.trans (by decide)
  refine va_sld hx hb hX hbl hbA hS (by unfold vp_in; decide +kernel) dL_law_2231 ?_
  refine lv_topi (fun f_4 ef_4 => ?_)
  obtain rfl : f_4 = xs 2 := ef_4
  refine lv_aload_n hx hb dL_law_2232 rfl (lv_at hl 3 rfl) ?_
  have hPc := hP.sub (ws' := [(x0, .inr (12, [.ref a1, .ref a2, .ref a3, .ref a4, .ref a5, .ref a6, .ref a7, .ref a8, .int 3, .int 0])), (a5, .inr (3, [.int 0, .ref z, .int 0])), (o1, .inl (cyL, 1, .inr (.inl (fun _ => 0))))]) [0, 5, 20] rfl
  have hKc := hK.sub (tys' := [(cyL, .long)]) [5] rfl
  have hDc := hD.sub (ws' := [(x0, .inr (12, [.ref a1, .ref a2, .ref a3, .ref a4, .ref a5, .ref a6, .ref a7, .ref a8, .int 3, .int 0])), (a5, .inr (3, [.int 0, .ref z, .int 0])), (o1, .inl (cyL, 1, .inr (.inl (fun _ => 0))))]) [0, 5, 20] (by decide) rfl
  have hFc := va_free (wc := [(x0, .inr (12, [.ref a1, .ref a2, .ref a3, .ref a4, .ref a5, .ref a6, .ref a7, .ref a8, .int 3, .int 0])), (a5, .inr (3, [.int 0, .ref z, .int 0])), (o1, .inl (cyL, 1, .inr (.inl (fun _ => 0))))]) hD hS hA [0, 5, 20] rfl
  refine va_calli (vx_runSW (As := [.ref x0, .int (xs 1), .int (xs 2), .ref o1]) (rest := []) ⟨hx, hb, hml, hown, hts⟩ (k_L_evidence l hfl G z x0 a1 a2 a3 a4 a5 a6 a7 a8 3 0 0 z ((xs 1)) ((xs 2)) o1 cyL (fun _ => 0) H.size ) (vx_cwSW 4 hts (lw_goodApp (lw_3 q1018 q1019 q0) q1020) rfl rfl rfl (by decide +kernel) ⟨Nat.le_of_ble_eq_true rfl, Nat.le_of_ble_eq_true rfl⟩) ⟨PW.blind, PW.of hPc hKc hDc hG hS hFc [.ref x0, .int (xs 1), .int (xs 2), .ref o1]⟩ rfl rfl hl.1 rfl (lv_room (Nat.le_of_ble_eq_true rfl)) dL_law_2233 ⟨Nat.le_of_ble_eq_true rfl, Nat.le_of_ble_eq_true rfl⟩) hS (fun q _ h => hFc q h) hFc (fun r_6 u t_8 H_5 locs ht hvm hw_7 hB hz1 hk1 hS => ?_)
  obtain ⟨hP, hD, hK⟩ := QW.join (wr := [(a1, .inr (3, [.int 0, .ref z, .int 0])), (a2, .inr (3, [.int 0, .ref z, .int 0])), (a3, .inr (3, [.int 0, .ref z, .int 0])), (a4, .inr (3, [.int 0, .ref z, .int 0])), (a6, .inr (10, [.ref b1, .ref b2, .ref b3, .int 0])), (b1, .inl (cyA, 400, .inl (nI))), (b2, .inl (cyJ, 512, .inl (fun _ => 0))), (b3, .inl (cyT, 400, .inl (fun _ => 0))), (a7, .inr (4, [.ref d1, .ref d2, .ref d3, .ref d4, .int 0, .int 12])), (d4, .inl (cyO, 20, .inr (.inr (.inr (.inr (fS)))))), (r0, .inl (cyI, 20, .inl (fun _ => 0))), (y0, .inr (18, [.int 0, .ref l1, .ref l2, .ref l3, .ref l4, .ref l5, .ref l6, .int 0, .int 3, .int 12, .ref m1, .ref m2, .ref m3, .ref m4, .ref m5, .ref m6])), (l1, .inr (3, [.int 0, .ref z, .int 0])), (l2, .inr (3, [.int 0, .ref z, .int 0])), (l3, .inr (3, [.int 0, .ref z, .int 0])), (l4, .inr (3, [.int 0, .ref z, .int 0])), (l5, .inr (3, [.int 0, .ref z, .int 0])), (l6, .inr (3, [.int 0, .ref z, .int 0])), (o2, .inl (cyD, 1, .inr (.inr (.inr (.inl (fun _ => 0))))))]) (w1 := [(o1, .inl (cyL, 1, .inr (.inl ((fun _ => 0)))))]) hP hD hK [0, 5, 20] [1, 2, 3, 4, 6, 7, 8, 9, 10, 11, 12, 13, 14, 15, 16, 17, 18, 19, 21] rfl rfl (by decide) (by decide) hk1 hFc ht hvm hB
  have hP : va_P G vwCl ([(a1, .inr (3, [.int 0, .ref z, .int 0])), (a2, .inr (3, [.int 0, .ref z, .int 0])), (a3, .inr (3, [.int 0, .ref z, .int 0])), (a4, .inr (3, [.int 0, .ref z, .int 0])), (a6, .inr (10, [.ref b1, .ref b2, .ref b3, .int 0])), (b1, .inl (cyA, 400, .inl (nI))), (b2, .inl (cyJ, 512, .inl (fun _ => 0))), (b3, .inl (cyT, 400, .inl (fun _ => 0))), (a7, .inr (4, [.ref d1, .ref d2, .ref d3, .ref d4, .int 0, .int 12])), (d4, .inl (cyO, 20, .inr (.inr (.inr (.inr (fS)))))), (r0, .inl (cyI, 20, .inl (fun _ => 0))), (y0, .inr (18, [.int 0, .ref l1, .ref l2, .ref l3, .ref l4, .ref l5, .ref l6, .int 0, .int 3, .int 12, .ref m1, .ref m2, .ref m3, .ref m4, .ref m5, .ref m6])), (l1, .inr (3, [.int 0, .ref z, .int 0])), (l2, .inr (3, [.int 0, .ref z, .int 0])), (l3, .inr (3, [.int 0, .ref z, .int 0])), (l4, .inr (3, [.int 0, .ref z, .int 0])), (l5, .inr (3, [.int 0, .ref z, .int 0])), (l6, .inr (3, [.int 0, .ref z, .int 0])), (o2, .inl (cyD, 1, .inr (.inr (.inr (.inl (fun _ => 0)))))), (o1, .inl (cyL, 1, .inr (.inl ((fun _ => 0)))))]) H_5 := hP
  have hD : va_D A ([(a1, .inr (3, [.int 0, .ref z, .int 0])), (a2, .inr (3, [.int 0, .ref z, .int 0])), (a3, .inr (3, [.int 0, .ref z, .int 0])), (a4, .inr (3, [.int 0, .ref z, .int 0])), (a6, .inr (10, [.ref b1, .ref b2, .ref b3, .int 0])), (b1, .inl (cyA, 400, .inl (nI))), (b2, .inl (cyJ, 512, .inl (fun _ => 0))), (b3, .inl (cyT, 400, .inl (fun _ => 0))), (a7, .inr (4, [.ref d1, .ref d2, .ref d3, .ref d4, .int 0, .int 12])), (d4, .inl (cyO, 20, .inr (.inr (.inr (.inr (fS)))))), (r0, .inl (cyI, 20, .inl (fun _ => 0))), (y0, .inr (18, [.int 0, .ref l1, .ref l2, .ref l3, .ref l4, .ref l5, .ref l6, .int 0, .int 3, .int 12, .ref m1, .ref m2, .ref m3, .ref m4, .ref m5, .ref m6])), (l1, .inr (3, [.int 0, .ref z, .int 0])), (l2, .inr (3, [.int 0, .ref z, .int 0])), (l3, .inr (3, [.int 0, .ref z, .int 0])), (l4, .inr (3, [.int 0, .ref z, .int 0])), (l5, .inr (3, [.int 0, .ref z, .int 0])), (l6, .inr (3, [.int 0, .ref z, .int 0])), (o2, .inl (cyD, 1, .inr (.inr (.inr (.inl (fun _ => 0)))))), (o1, .inl (cyL, 1, .inr (.inl ((fun _ => 0)))))]) := hD
  have hK : va_K G vwCl [(cyA, .int), (cyJ, .int), (cyT, .int), (cyO, .array .int), (cyI, .int), (cyL, .long), (cyD, .double), (cyL, .long)] s := hK
  refine W.widen (k := 136) (n := 2997) (Nat.le_of_ble_eq_true rfl) (Nat.le_of_ble_eq_true rfl) ?_
  obtain rfl : 1 = r_6 := hw_7.symm
  refine lv_istore (lv' := [(6, .int 1), (0, .ref b), (1, .ref x0), (2, .ref y0), (3, .ref o1), (4, .ref o2), (5, .int 0)]) hx hb dL_law_2236 hl (by decide) rfl (fun ls hl => ?_)
  refine lv_aload_n hx hb dL_law_2238 rfl (lv_at hl 3 rfl) ?_
  refine lv_aload_n hx hb dL_law_2239 rfl (lv_at hl 1 rfl) ?_
  refine lv_iload hx hb dL_law_2240 (lv_at hl 6 rfl) ?_
  refine lv_iconst (v := 1) hx hb dL_law_2242 (by decide) ?_
  refine lv_iadd hx hb dL_law_2243 ?_
  refine lv_topi (fun f_9 ef_9 => ?_)
  obtain rfl : f_9 = 1 := ef_9.trans (by decide)
  refine va_sld hx hb hX hbl hbA hS (by unfold vp_in; decide +kernel) dL_law_2244 ?_
  refine lv_topi (fun f_10 ef_10 => ?_)
  obtain rfl : f_10 = xs 1 := ef_10
  refine lv_aload_n hx hb dL_law_2245 rfl (lv_at hl 1 rfl) ?_
  refine lv_iload hx hb dL_law_2246 (lv_at hl 6 rfl) ?_
  refine lv_iconst (v := 2) hx hb dL_law_2248 (by decide) ?_
  refine lv_iadd hx hb dL_law_2249 ?_
  refine lv_topi (fun f_11 ef_11 => ?_)
  obtain rfl : f_11 = 2 := ef_11.trans (by decide)
  refine va_sld hx hb hX hbl hbA hS (by unfold vp_in; decide +kernel) dL_law_2250 ?_
  refine lv_topi (fun f_12 ef_12 => ?_)
  obtain rfl : f_12 = xs 2 := ef_12
  have hPc := hP.sub (ws' := [(y0, .inr (18, [.int 0, .ref l1, .ref l2, .ref l3, .ref l4, .ref l5, .ref l6, .int 0, .int 3, .int 12, .ref m1, .ref m2, .ref m3, .ref m4, .ref m5, .ref m6])), (l5, .inr (3, [.int 0, .ref z, .int 0]))]) [11, 16] rfl
  have hKc := hK.sub (tys' := []) [] rfl
  have hDc := hD.sub (ws' := [(y0, .inr (18, [.int 0, .ref l1, .ref l2, .ref l3, .ref l4, .ref l5, .ref l6, .int 0, .int 3, .int 12, .ref m1, .ref m2, .ref m3, .ref m4, .ref m5, .ref m6])), (l5, .inr (3, [.int 0, .ref z, .int 0]))]) [11, 16] (by decide) rfl
  have hFc := va_free (wc := [(y0, .inr (18, [.int 0, .ref l1, .ref l2, .ref l3, .ref l4, .ref l5, .ref l6, .int 0, .int 3, .int 12, .ref m1, .ref m2, .ref m3, .ref m4, .ref m5, .ref m6])), (l5, .inr (3, [.int 0, .ref z, .int 0]))]) hD hS hA [11, 16] rfl
  refine va_calli (va_runV (As := [.int (xs 1), .int (xs 2)]) (rest := []) ⟨hx, hb, hml, hown, hts⟩ (k_X14_evidence l G z y0 0 l1 l2 l3 l4 l5 l6 3 12 m1 m2 m3 m4 m5 m6 0 z ((xs 1)) ((xs 2)) H_5.size ) (cwV 2 hts (lw_goodApp (lw_4 q1633 q1634 q1635 q7) q1636) rfl rfl rfl (by decide +kernel) ⟨Nat.le_of_ble_eq_true rfl, Nat.le_of_ble_eq_true rfl⟩) ⟨PW.blind, va_recv hK hP (ci := 18) (q0 := 11) rfl rfl, PW.of hPc hKc hDc hG hS hFc [.ref y0, .int (xs 1), .int (xs 2)]⟩ rfl rfl hl.1 rfl (lv_room (Nat.le_of_ble_eq_true rfl)) dL_law_2251 ⟨Nat.le_of_ble_eq_true rfl, Nat.le_of_ble_eq_true rfl⟩) hS (fun q _ h => hFc q h) hFc (fun r_14 u t_16 H_13 locs ht hvm hw_15 hB hz1 hk1 hS => ?_)
  obtain ⟨hP, hD, hK⟩ := QW.join (wr := [(a1, .inr (3, [.int 0, .ref z, .int 0])), (a2, .inr (3, [.int 0, .ref z, .int 0])), (a3, .inr (3, [.int 0, .ref z, .int 0])), (a4, .inr (3, [.int 0, .ref z, .int 0])), (a6, .inr (10, [.ref b1, .ref b2, .ref b3, .int 0])), (b1, .inl (cyA, 400, .inl (nI))), (b2, .inl (cyJ, 512, .inl (fun _ => 0))), (b3, .inl (cyT, 400, .inl (fun _ => 0))), (a7, .inr (4, [.ref d1, .ref d2, .ref d3, .ref d4, .int 0, .int 12])), (d4, .inl (cyO, 20, .inr (.inr (.inr (.inr (fS)))))), (r0, .inl (cyI, 20, .inl (fun _ => 0))), (l1, .inr (3, [.int 0, .ref z, .int 0])), (l2, .inr (3, [.int 0, .ref z, .int 0])), (l3, .inr (3, [.int 0, .ref z, .int 0])), (l4, .inr (3, [.int 0, .ref z, .int 0])), (l6, .inr (3, [.int 0, .ref z, .int 0])), (o2, .inl (cyD, 1, .inr (.inr (.inr (.inl (fun _ => 0)))))), (o1, .inl (cyL, 1, .inr (.inl ((fun _ => 0)))))]) (w1 := [(y0, .inr (18, [.int 1, .ref l1, .ref l2, .ref l3, .ref l4, .ref l5, .ref l6, .int 0, .int 3, .int 12, .ref m1, .ref m2, .ref m3, .ref m4, .ref m5, .ref m6]))]) hP hD hK [11, 16] [0, 1, 2, 3, 4, 5, 6, 7, 8, 9, 10, 12, 13, 14, 15, 17, 18, 19] rfl rfl (by decide) (by decide) hk1 hFc ht hvm hB
  have hP : va_P G vwCl ([(a1, .inr (3, [.int 0, .ref z, .int 0])), (a2, .inr (3, [.int 0, .ref z, .int 0])), (a3, .inr (3, [.int 0, .ref z, .int 0])), (a4, .inr (3, [.int 0, .ref z, .int 0])), (a6, .inr (10, [.ref b1, .ref b2, .ref b3, .int 0])), (b1, .inl (cyA, 400, .inl (nI))), (b2, .inl (cyJ, 512, .inl (fun _ => 0))), (b3, .inl (cyT, 400, .inl (fun _ => 0))), (a7, .inr (4, [.ref d1, .ref d2, .ref d3, .ref d4, .int 0, .int 12])), (d4, .inl (cyO, 20, .inr (.inr (.inr (.inr (fS)))))), (r0, .inl (cyI, 20, .inl (fun _ => 0))), (l1, .inr (3, [.int 0, .ref z, .int 0])), (l2, .inr (3, [.int 0, .ref z, .int 0])), (l3, .inr (3, [.int 0, .ref z, .int 0])), (l4, .inr (3, [.int 0, .ref z, .int 0])), (l6, .inr (3, [.int 0, .ref z, .int 0])), (o2, .inl (cyD, 1, .inr (.inr (.inr (.inl (fun _ => 0)))))), (o1, .inl (cyL, 1, .inr (.inl ((fun _ => 0))))), (y0, .inr (18, [.int 1, .ref l1, .ref l2, .ref l3, .ref l4, .ref l5, .ref l6, .int 0, .int 3, .int 12, .ref m1, .ref m2, .ref m3, .ref m4, .ref m5, .ref m6]))]) H_13 := hP
  have hD : va_D A ([(a1, .inr (3, [.int 0, .ref z, .int 0])), (a2, .inr (3, [.int 0, .ref z, .int 0])), (a3, .inr (3, [.int 0, .ref z, .int 0])), (a4, .inr (3, [.int 0, .ref z, .int 0])), (a6, .inr (10, [.ref b1, .ref b2, .ref b3, .int 0])), (b1, .inl (cyA, 400, .inl (nI))), (b2, .inl (cyJ, 512, .inl (fun _ => 0))), (b3, .inl (cyT, 400, .inl (fun _ => 0))), (a7, .inr (4, [.ref d1, .ref d2, .ref d3, .ref d4, .int 0, .int 12])), (d4, .inl (cyO, 20, .inr (.inr (.inr (.inr (fS)))))), (r0, .inl (cyI, 20, .inl (fun _ => 0))), (l1, .inr (3, [.int 0, .ref z, .int 0])), (l2, .inr (3, [.int 0, .ref z, .int 0])), (l3, .inr (3, [.int 0, .ref z, .int 0])), (l4, .inr (3, [.int 0, .ref z, .int 0])), (l6, .inr (3, [.int 0, .ref z, .int 0])), (o2, .inl (cyD, 1, .inr (.inr (.inr (.inl (fun _ => 0)))))), (o1, .inl (cyL, 1, .inr (.inl ((fun _ => 0))))), (y0, .inr (18, [.int 1, .ref l1, .ref l2, .ref l3, .ref l4, .ref l5, .ref l6, .int 0, .int 3, .int 12, .ref m1, .ref m2, .ref m3, .ref m4, .ref m5, .ref m6]))]) := hD
  have hK : va_K G vwCl [(cyA, .int), (cyJ, .int), (cyT, .int), (cyO, .array .int), (cyI, .int), (cyL, .long), (cyD, .double), (cyL, .long)] s := hK
  refine W.widen (k := 136) (n := 2997) (Nat.le_of_ble_eq_true rfl) (Nat.le_of_ble_eq_true rfl) ?_
  refine lv_istore (lv' := [(7, .int r_14), (6, .int 1), (0, .ref b), (1, .ref x0), (2, .ref y0), (3, .ref o1), (4, .ref o2), (5, .int 0)]) hx hb dL_law_2254 hl (by decide) rfl (fun ls hl => ?_)
  refine lv_aload_n hx hb dL_law_2256 rfl (lv_at hl 4 rfl) ?_
  have hPc := hP.sub (ws' := [(y0, .inr (18, [.int 1, .ref l1, .ref l2, .ref l3, .ref l4, .ref l5, .ref l6, .int 0, .int 3, .int 12, .ref m1, .ref m2, .ref m3, .ref m4, .ref m5, .ref m6]))]) [18] rfl
  have hKc := hK.sub (tys' := []) [] rfl
  refine va_calli (va_runV (As := []) (rest := []) ⟨hx, hb, hml, hown, hts⟩ (k_X14_thrown l G z y0 1 l1 l2 l3 l4 l5 l6 3 12 m1 m2 m3 m4 m5 m6 H_13.size ) (cwV 0 hts (lw_goodApp (lw_4 q1236 q1237 q1238 q7) q1239) rfl rfl rfl (by decide +kernel) ⟨Nat.le_of_ble_eq_true rfl, Nat.le_of_ble_eq_true rfl⟩) ⟨PR.blind, va_recv hK hP (ci := 18) (q0 := 18) rfl rfl, PR.of hPc hKc hG hS hA [.ref y0]⟩ rfl rfl hl.1 rfl (lv_room (Nat.le_of_ble_eq_true rfl)) dL_law_2257 ⟨Nat.le_of_ble_eq_true rfl, Nat.le_of_ble_eq_true rfl⟩) hS (fun q h9 h => zN.not h9 h) (fun q h => hA q (Nat.le_trans hS.1 h)) (fun r_18 u t_20 H_17 locs ht hvm hw_19 hB hz1 hk1 hS => ?_)
  have hP := hP.grown hk1
  refine W.widen (k := 136) (n := 2997) (Nat.le_of_ble_eq_true rfl) (Nat.le_of_ble_eq_true rfl) ?_
  obtain rfl : 1 = r_18 := hw_19.symm
  refine lv_iload hx hb dL_law_2260 (lv_at hl 1 rfl) ?_
  refine lv_icmp_eq (tgt := 2267) hx hb dL_law_2262 (by decide) (fun c_21 => ?_) (fun c_21 => absurd rfl c_21)
  refine lv_iload hx hb dL_law_2267 (lv_at hl 1 rfl) ?_
  refine lv_if_ne (tgt := 2284) hx hb dL_law_2269 (by decide) (fun c_22 => ?_) (fun c_22 => absurd c_22 (by decide))
  refine lv_goto (tgt := 3288) hx hb dL_law_2284 (by decide) ?_
  exact law_tail hfl C0 hA hA2 hS (lv_sub hl [2, 7] rfl) (Nat.le_of_ble_eq_true rfl) (Nat.le_of_ble_eq_true rfl)
set_option maxHeartbeats 8000000 in
set_option maxRecDepth 100000 in
/-- script value 27 -/
theorem law_case_27 {p : Program} {l : Launch} {e : Env} {s : State} {m : MethodId} {below : List Frame} {meth : Method} {c : Code} {b : Nat} {xs : Nat → Int32} (hfl : l.stackTraces = false) (C0 : lw_At p s m meth c b 7 xs) {A : Nat → Prop} (hA : ∀ q : Nat, s.heap.size ≤ q → A q) (hA2 : ∀ q : Nat, A q → s.heap.size ≤ q) (G : va_G) (z : Nat) (hG : zG z A s s.heap) (x0 : Nat) (y0 : Nat) (o1 : Nat) (o2 : Nat) (cyL : ClassId) (cyD : ClassId) (a1 : Nat) (a2 : Nat) (a3 : Nat) (a4 : Nat) (a5 : Nat) (a6 : Nat) (a7 : Nat) (a8 : Nat) (b1 : Nat) (b2 : Nat) (b3 : Nat) (cyA : ClassId) (cyJ : ClassId) (cyT : ClassId) (d1 : Nat) (d2 : Nat) (d3 : Nat) (d4 : Nat) (cyO : ClassId) (fS : Nat → Option Nat) (cyI : ClassId) (r0 : Nat) (l1 : Nat) (l2 : Nat) (l3 : Nat) (l4 : Nat) (l5 : Nat) (l6 : Nat) (m1 : Nat) (m2 : Nat) (m3 : Nat) (m4 : Nat) (m5 : Nat) (m6 : Nat) (hf0 : fS 0 = some r0) {H : Heap} {locs : List Loc} (hP : va_P G vwCl ([(x0, .inr (12, [.ref a1, .ref a2, .ref a3, .ref a4, .ref a5, .ref a6, .ref a7, .ref a8, .int 3, .int 0])), (a1, .inr (3, [.int 0, .ref z, .int 0])), (a2, .inr (3, [.int 0, .ref z, .int 0])), (a3, .inr (3, [.int 0, .ref z, .int 0])), (a4, .inr (3, [.int 0, .ref z, .int 0])), (a5, .inr (3, [.int 0, .ref z, .int 0])), (a6, .inr (10, [.ref b1, .ref b2, .ref b3, .int 0])), (b1, .inl (cyA, 400, .inl (nI))), (b2, .inl (cyJ, 512, .inl (fun _ => 0))), (b3, .inl (cyT, 400, .inl (fun _ => 0))), (a7, .inr (4, [.ref d1, .ref d2, .ref d3, .ref d4, .int 0, .int 12])), (d4, .inl (cyO, 20, .inr (.inr (.inr (.inr (fS)))))), (r0, .inl (cyI, 20, .inl (fun _ => 0))), (y0, .inr (18, [.int 0, .ref l1, .ref l2, .ref l3, .ref l4, .ref l5, .ref l6, .int 0, .int 3, .int 12, .ref m1, .ref m2, .ref m3, .ref m4, .ref m5, .ref m6])), (l1, .inr (3, [.int 0, .ref z, .int 0])), (l2, .inr (3, [.int 0, .ref z, .int 0])), (l3, .inr (3, [.int 0, .ref z, .int 0])), (l4, .inr (3, [.int 0, .ref z, .int 0])), (l5, .inr (3, [.int 0, .ref z, .int 0])), (l6, .inr (3, [.int 0, .ref z, .int 0])), (o1, .inl (cyL, 1, .inr (.inl (fun _ => 0)))), (o2, .inl (cyD, 1, .inr (.inr (.inr (.inl (fun _ => 0))))))]) H) (hD : va_D A ([(x0, .inr (12, [.ref a1, .ref a2, .ref a3, .ref a4, .ref a5, .ref a6, .ref a7, .ref a8, .int 3, .int 0])), (a1, .inr (3, [.int 0, .ref z, .int 0])), (a2, .inr (3, [.int 0, .ref z, .int 0])), (a3, .inr (3, [.int 0, .ref z, .int 0])), (a4, .inr (3, [.int 0, .ref z, .int 0])), (a5, .inr (3, [.int 0, .ref z, .int 0])), (a6, .inr (10, [.ref b1, .ref b2, .ref b3, .int 0])), (b1, .inl (cyA, 400, .inl (nI))), (b2, .inl (cyJ, 512, .inl (fun _ => 0))), (b3, .inl (cyT, 400, .inl (fun _ => 0))), (a7, .inr (4, [.ref d1, .ref d2, .ref d3, .ref d4, .int 0, .int 12])), (d4, .inl (cyO, 20, .inr (.inr (.inr (.inr (fS)))))), (r0, .inl (cyI, 20, .inl (fun _ => 0))), (y0, .inr (18, [.int 0, .ref l1, .ref l2, .ref l3, .ref l4, .ref l5, .ref l6, .int 0, .int 3, .int 12, .ref m1, .ref m2, .ref m3, .ref m4, .ref m5, .ref m6])), (l1, .inr (3, [.int 0, .ref z, .int 0])), (l2, .inr (3, [.int 0, .ref z, .int 0])), (l3, .inr (3, [.int 0, .ref z, .int 0])), (l4, .inr (3, [.int 0, .ref z, .int 0])), (l5, .inr (3, [.int 0, .ref z, .int 0])), (l6, .inr (3, [.int 0, .ref z, .int 0])), (o1, .inl (cyL, 1, .inr (.inl (fun _ => 0)))), (o2, .inl (cyD, 1, .inr (.inr (.inr (.inl (fun _ => 0))))))])) (hK : va_K G vwCl [(cyA, .int), (cyJ, .int), (cyT, .int), (cyO, .array .int), (cyI, .int), (cyL, .long), (cyD, .double)] s) (hS : va_S A s.heap H locs) {ls : Array Slot} (hl : lv_has ls 9 [(0, .ref b), (1, .ref x0), (2, .ref y0), (3, .ref o1), (4, .ref o2), (5, .int 0)]) : W p l e room_1 s m #[Value.ref b] below meth c H locs 135 2991 (lw_Z below #[Value.ref b] s) (F0 m 2287 ls []) := by
  have C9 := C0
  obtain ⟨hx, hb, hr, hml, hown, hts0, hX, hbl, hlocks, hgv⟩ := id C0
  have hg := lw_sub_good hts0
  have hts : ∀ w ∈ (lw_hd :: lw_good), w.before #[Value.ref b] s = true := fun w h => (List.mem_cons.mp h).elim (fun e9 => e9 ▸ hg _ q0) (hg w)
  have hbA : ¬ A b := fun h => Nat.not_le.mpr hbl (hA2 b h)
  refine lv_aload_n hx hb dL_law_2287 rfl (lv_at hl 1 rfl) ?_
  have hPc := hP.sub (ws' := [(x0, .inr (12, [.ref a1, .ref a2, .ref a3, .ref a4, .ref a5, .ref a6, .ref a7, .ref a8, .int 3, .int 0])), (a5, .inr (3, [.int 0, .ref z, .int 0]))]) [0, 5] rfl
  have hKc := hK.sub (tys' := []) [] rfl
  refine va_calli (va_runV (As := []) (rest := []) ⟨hx, hb, hml, hown, hts⟩ (k_X8_groups l G z x0 a1 a2 a3 a4 a5 a6 a7 a8 3 0 0 z H.size ) (cwV 0 hts (lw_goodApp (lw_4 q156 q157 q158 q1) q159) rfl rfl rfl (by decide +kernel) ⟨Nat.le_of_ble_eq_true rfl, Nat.le_of_ble_eq_true rfl⟩) ⟨PR.blind, va_recv hK hP (ci := 12) (q0 := 0) rfl rfl, PR.of hPc hKc hG hS hA [.ref x0]⟩ rfl rfl hl.1 rfl (lv_room (Nat.le_of_ble_eq_true rfl)) dL_law_2288 ⟨Nat.le_of_ble_eq_true rfl, Nat.le_of_ble_eq_true rfl⟩) hS (fun q h9 h => zN.not h9 h) (fun q h => hA q (Nat.le_trans hS.1 h)) (fun r_2 u t_4 H_1 locs ht hvm hw_3 hB hz1 hk1 hS => ?_)
  have hP := hP.grown hk1
  refine W.widen (k := 135) (n := 2991) (Nat.le_of_ble_eq_true rfl) (Nat.le_of_ble_eq_true rfl) ?_
  obtain rfl : 0 = r_2 := hw_3.symm
  refine lv_aload_n hx hb dL_law_2291 rfl (lv_at hl 2 rfl) ?_
  have hPc := hP.sub (ws' := [(y0, .inr (18, [.int 0, .ref l1, .ref l2, .ref l3, .ref l4, .ref l5, .ref l6, .int 0, .int 3, .int 12, .ref m1, .ref m2, .ref m3, .ref m4, .ref m5, .ref m6])), (l5, .inr (3, [.int 0, .ref z, .int 0]))]) [13, 18] rfl
  have hKc := hK.sub (tys' := []) [] rfl
  have hDc := hD.sub (ws' := [(y0, .inr (18, [.int 0, .ref l1, .ref l2, .ref l3, .ref l4, .ref l5, .ref l6, .int 0, .int 3, .int 12, .ref m1, .ref m2, .ref m3, .ref m4, .ref m5, .ref m6])), (l5, .inr (3, [.int 0, .ref z, .int 0]))]) [13, 18] (by decide) rfl
  have hFc := va_free (wc := [(y0, .inr (18, [.int 0, .ref l1, .ref l2, .ref l3, .ref l4, .ref l5, .ref l6, .int 0, .int 3, .int 12, .ref m1, .ref m2, .ref m3, .ref m4, .ref m5, .ref m6])), (l5, .inr (3, [.int 0, .ref z, .int 0]))]) hD hS hA [13, 18] rfl
  refine va_calli (va_runV (As := []) (rest := [.int 0]) ⟨hx, hb, hml, hown, hts⟩ (k_X14_groups l G z y0 0 l1 l2 l3 l4 l5 l6 3 12 m1 m2 m3 m4 m5 m6 0 z H_1.size ) (cwV 0 hts (lw_goodApp (lw_4 q1637 q1638 q1639 q7) q1640) rfl rfl rfl (by decide +kernel) ⟨Nat.le_of_ble_eq_true rfl, Nat.le_of_ble_eq_true rfl⟩) ⟨PW.blind, va_recv hK hP (ci := 18) (q0 := 13) rfl rfl, PW.of hPc hKc hDc hG hS hFc [.ref y0]⟩ rfl rfl hl.1 rfl (lv_room (Nat.le_of_ble_eq_true rfl)) dL_law_2292 ⟨Nat.le_of_ble_eq_true rfl, Nat.le_of_ble_eq_true rfl⟩) hS (fun q _ h => hFc q h) hFc (fun r_6 u t_8 H_5 locs ht hvm hw_7 hB hz1 hk1 hS => ?_)
  obtain ⟨hP, hD, hK⟩ := QW.join (wr := [(x0, .inr (12, [.ref a1, .ref a2, .ref a3, .ref a4, .ref a5, .ref a6, .ref a7, .ref a8, .int 3, .int 0])), (a1, .inr (3, [.int 0, .ref z, .int 0])), (a2, .inr (3, [.int 0, .ref z, .int 0])), (a3, .inr (3, [.int 0, .ref z, .int 0])), (a4, .inr (3, [.int 0, .ref z, .int 0])), (a5, .inr (3, [.int 0, .ref z, .int 0])), (a6, .inr (10, [.ref b1, .ref b2, .ref b3, .int 0])), (b1, .inl (cyA, 400, .inl (nI))), (b2, .inl (cyJ, 512, .inl (fun _ => 0))), (b3, .inl (cyT, 400, .inl (fun _ => 0))), (a7, .inr (4, [.ref d1, .ref d2, .ref d3, .ref d4, .int 0, .int 12])), (d4, .inl (cyO, 20, .inr (.inr (.inr (.inr (fS)))))), (r0, .inl (cyI, 20, .inl (fun _ => 0))), (l1, .inr (3, [.int 0, .ref z, .int 0])), (l2, .inr (3, [.int 0, .ref z, .int 0])), (l3, .inr (3, [.int 0, .ref z, .int 0])), (l4, .inr (3, [.int 0, .ref z, .int 0])), (l6, .inr (3, [.int 0, .ref z, .int 0])), (o1, .inl (cyL, 1, .inr (.inl (fun _ => 0)))), (o2, .inl (cyD, 1, .inr (.inr (.inr (.inl (fun _ => 0))))))]) (w1 := [(y0, .inr (18, [.int 0, .ref l1, .ref l2, .ref l3, .ref l4, .ref l5, .ref l6, .int 0, .int 3, .int 12, .ref m1, .ref m2, .ref m3, .ref m4, .ref m5, .ref m6]))]) hP hD hK [13, 18] [0, 1, 2, 3, 4, 5, 6, 7, 8, 9, 10, 11, 12, 14, 15, 16, 17, 19, 20, 21] rfl rfl (by decide) (by decide) hk1 hFc ht hvm hB
  have hP : va_P G vwCl ([(x0, .inr (12, [.ref a1, .ref a2, .ref a3, .ref a4, .ref a5, .ref a6, .ref a7, .ref a8, .int 3, .int 0])), (a1, .inr (3, [.int 0, .ref z, .int 0])), (a2, .inr (3, [.int 0, .ref z, .int 0])), (a3, .inr (3, [.int 0, .ref z, .int 0])), (a4, .inr (3, [.int 0, .ref z, .int 0])), (a5, .inr (3, [.int 0, .ref z, .int 0])), (a6, .inr (10, [.ref b1, .ref b2, .ref b3, .int 0])), (b1, .inl (cyA, 400, .inl (nI))), (b2, .inl (cyJ, 512, .inl (fun _ => 0))), (b3, .inl (cyT, 400, .inl (fun _ => 0))), (a7, .inr (4, [.ref d1, .ref d2, .ref d3, .ref d4, .int 0, .int 12])), (d4, .inl (cyO, 20, .inr (.inr (.inr (.inr (fS)))))), (r0, .inl (cyI, 20, .inl (fun _ => 0))), (l1, .inr (3, [.int 0, .ref z, .int 0])), (l2, .inr (3, [.int 0, .ref z, .int 0])), (l3, .inr (3, [.int 0, .ref z, .int 0])), (l4, .inr (3, [.int 0, .ref z, .int 0])), (l6, .inr (3, [.int 0, .ref z, .int 0])), (o1, .inl (cyL, 1, .inr (.inl (fun _ => 0)))), (o2, .inl (cyD, 1, .inr (.inr (.inr (.inl (fun _ => 0)))))), (y0, .inr (18, [.int 0, .ref l1, .ref l2, .ref l3, .ref l4, .ref l5, .ref l6, .int 0, .int 3, .int 12, .ref m1, .ref m2, .ref m3, .ref m4, .ref m5, .ref m6]))]) H_5 := hP
  have hD : va_D A ([(x0, .inr (12, [.ref a1, .ref a2, .ref a3, .ref a4, .ref a5, .ref a6, .ref a7, .ref a8, .int 3, .int 0])), (a1, .inr (3, [.int 0, .ref z, .int 0])), (a2, .inr (3, [.int 0, .ref z, .int 0])), (a3, .inr (3, [.int 0, .ref z, .int 0])), (a4, .inr (3, [.int 0, .ref z, .int 0])), (a5, .inr (3, [.int 0, .ref z, .int 0])), (a6, .inr (10, [.ref b1, .ref b2, .ref b3, .int 0])), (b1, .inl (cyA, 400, .inl (nI))), (b2, .inl (cyJ, 512, .inl (fun _ => 0))), (b3, .inl (cyT, 400, .inl (fun _ => 0))), (a7, .inr (4, [.ref d1, .ref d2, .ref d3, .ref d4, .int 0, .int 12])), (d4, .inl (cyO, 20, .inr (.inr (.inr (.inr (fS)))))), (r0, .inl (cyI, 20, .inl (fun _ => 0))), (l1, .inr (3, [.int 0, .ref z, .int 0])), (l2, .inr (3, [.int 0, .ref z, .int 0])), (l3, .inr (3, [.int 0, .ref z, .int 0])), (l4, .inr (3, [.int 0, .ref z, .int 0])), (l6, .inr (3, [.int 0, .ref z, .int 0])), (o1, .inl (cyL, 1, .inr (.inl (fun _ => 0)))), (o2, .inl (cyD, 1, .inr (.inr (.inr (.inl (fun _ => 0)))))), (y0, .inr (18, [.int 0, .ref l1, .ref l2, .ref l3, .ref l4, .ref l5, .ref l6, .int 0, .int 3, .int 12, .ref m1, .ref m2, .ref m3, .ref m4, .ref m5, .ref m6]))]) := hD
  have hK : va_K G vwCl [(cyA, .int), (cyJ, .int), (cyT, .int), (cyO, .array .int), (cyI, .int), (cyL, .long), (cyD, .double)] s := hK
  refine W.widen (k := 136) (n := 2991) (Nat.le_of_ble_eq_true rfl) (Nat.le_of_ble_eq_true rfl) ?_
  obtain rfl : 0 = r_6 := hw_7.symm
  refine lv_icmp_eq (tgt := 3288) hx hb dL_law_2295 (by decide) (fun c_9 => ?_) (fun c_9 => absurd rfl c_9)
  exact law_tail hfl C0 hA hA2 hS (lv_sub hl [0, 5] rfl) (Nat.le_of_ble_eq_true rfl) (Nat.le_of_ble_eq_true rfl)
set_option maxHeartbeats 8000000 in
set_option maxRecDepth 100000 in
/-- script value 28 -/
theorem law_case_28 {p : Program} {l : Launch} {e : Env} {s : State} {m : MethodId} {below : List Frame} {meth : Method} {c : Code} {b : Nat} {xs : Nat → Int32} (hfl : l.stackTraces = false) (C0 : lw_At p s m meth c b 7 xs) {A : Nat → Prop} (hA : ∀ q : Nat, s.heap.size ≤ q → A q) (hA2 : ∀ q : Nat, A q → s.heap.size ≤ q) (G : va_G) (z : Nat) (hG : zG z A s s.heap) (x0 : Nat) (y0 : Nat) (o1 : Nat) (o2 : Nat) (cyL : ClassId) (cyD : ClassId) (a1 : Nat) (a2 : Nat) (a3 : Nat) (a4 : Nat) (a5 : Nat) (a6 : Nat) (a7 : Nat) (a8 : Nat) (b1 : Nat) (b2 : Nat) (b3 : Nat) (cyA : ClassId) (cyJ : ClassId) (cyT : ClassId) (d1 : Nat) (d2 : Nat) (d3 : Nat) (d4 : Nat) (cyO : ClassId) (fS : Nat → Option Nat) (cyI : ClassId) (r0 : Nat) (l1 : Nat) (l2 : Nat) (l3 : Nat) (l4 : Nat) (l5 : Nat) (l6 : Nat) (m1 : Nat) (m2 : Nat) (m3 : Nat) (m4 : Nat) (m5 : Nat) (m6 : Nat) (hf0 : fS 0 = some r0) {H : Heap} {locs : List Loc} (hP : va_P G vwCl ([(x0, .inr (12, [.ref a1, .ref a2, .ref a3, .ref a4, .ref a5, .ref a6, .ref a7, .ref a8, .int 3, .int 0])), (a1, .inr (3, [.int 0, .ref z, .int 0])), (a2, .inr (3, [.int 0, .ref z, .int 0])), (a3, .inr (3, [.int 0, .ref z, .int 0])), (a4, .inr (3, [.int 0, .ref z, .int 0])), (a5, .inr (3, [.int 0, .ref z, .int 0])), (a6, .inr (10, [.ref b1, .ref b2, .ref b3, .int 0])), (b1, .inl (cyA, 400, .inl (nI))), (b2, .inl (cyJ, 512, .inl (fun _ => 0))), (b3, .inl (cyT, 400, .inl (fun _ => 0))), (a7, .inr (4, [.ref d1, .ref d2, .ref d3, .ref d4, .int 0, .int 12])), (d4, .inl (cyO, 20, .inr (.inr (.inr (.inr (fS)))))), (r0, .inl (cyI, 20, .inl (fun _ => 0))), (y0, .inr (18, [.int 0, .ref l1, .ref l2, .ref l3, .ref l4, .ref l5, .ref l6, .int 0, .int 3, .int 12, .ref m1, .ref m2, .ref m3, .ref m4, .ref m5, .ref m6])), (l1, .inr (3, [.int 0, .ref z, .int 0])), (l2, .inr (3, [.int 0, .ref z, .int 0])), (l3, .inr (3, [.int 0, .ref z, .int 0])), (l4, .inr (3, [.int 0, .ref z, .int 0])), (l5, .inr (3, [.int 0, .ref z, .int 0])), (l6, .inr (3, [.int 0, .ref z, .int 0])), (o1, .inl (cyL, 1, .inr (.inl (fun _ => 0)))), (o2, .inl (cyD, 1, .inr (.inr (.inr (.inl (fun _ => 0))))))]) H) (hD : va_D A ([(x0, .inr (12, [.ref a1, .ref a2, .ref a3, .ref a4, .ref a5, .ref a6, .ref a7, .ref a8, .int 3, .int 0])), (a1, .inr (3, [.int 0, .ref z, .int 0])), (a2, .inr (3, [.int 0, .ref z, .int 0])), (a3, .inr (3, [.int 0, .ref z, .int 0])), (a4, .inr (3, [.int 0, .ref z, .int 0])), (a5, .inr (3, [.int 0, .ref z, .int 0])), (a6, .inr (10, [.ref b1, .ref b2, .ref b3, .int 0])), (b1, .inl (cyA, 400, .inl (nI))), (b2, .inl (cyJ, 512, .inl (fun _ => 0))), (b3, .inl (cyT, 400, .inl (fun _ => 0))), (a7, .inr (4, [.ref d1, .ref d2, .ref d3, .ref d4, .int 0, .int 12])), (d4, .inl (cyO, 20, .inr (.inr (.inr (.inr (fS)))))), (r0, .inl (cyI, 20, .inl (fun _ => 0))), (y0, .inr (18, [.int 0, .ref l1, .ref l2, .ref l3, .ref l4, .ref l5, .ref l6, .int 0, .int 3, .int 12, .ref m1, .ref m2, .ref m3, .ref m4, .ref m5, .ref m6])), (l1, .inr (3, [.int 0, .ref z, .int 0])), (l2, .inr (3, [.int 0, .ref z, .int 0])), (l3, .inr (3, [.int 0, .ref z, .int 0])), (l4, .inr (3, [.int 0, .ref z, .int 0])), (l5, .inr (3, [.int 0, .ref z, .int 0])), (l6, .inr (3, [.int 0, .ref z, .int 0])), (o1, .inl (cyL, 1, .inr (.inl (fun _ => 0)))), (o2, .inl (cyD, 1, .inr (.inr (.inr (.inl (fun _ => 0))))))])) (hK : va_K G vwCl [(cyA, .int), (cyJ, .int), (cyT, .int), (cyO, .array .int), (cyI, .int), (cyL, .long), (cyD, .double)] s) (hS : va_S A s.heap H locs) {ls : Array Slot} (hl : lv_has ls 9 [(0, .ref b), (1, .ref x0), (2, .ref y0), (3, .ref o1), (4, .ref o2), (5, .int 0)]) : W p l e room_1 s m #[Value.ref b] below meth c H locs 135 2991 (lw_Z below #[Value.ref b] s) (F0 m 2300 ls []) := by
  have C9 := C0
  obtain ⟨hx, hb, hr, hml, hown, hts0, hX, hbl, hlocks, hgv⟩ := id C0
  have hg := lw_sub_good hts0
  have hts : ∀ w ∈ (lw_hd :: lw_good), w.before #[Value.ref b] s = true := fun w h => (List.mem_cons.mp h).elim (fun e9 => e9 ▸ hg _ q0) (hg w)
  have hbA : ¬ A b := fun h => Nat.not_le.mpr hbl (hA2 b h)
  refine lv_aload_n hx hb dL_law_2300 rfl (lv_at hl 1 rfl) ?_
  refine lv_aload_n hx hb dL_law_2301 rfl (lv_at hl 0 rfl) ?_
  refine lv_iload hx hb dL_law_2302 (lv_at hl 5 rfl) ?_
  refine lv_iconst (v := 1) hx hb dL_law_2304 (by decide) ?_
  refine lv_iadd hx hb dL_law_2305 ?_
  refine lv_topi (fun f_1 ef_1 => ?_)
  obtain rfl : f_1 = 1 := ef_1.trans (by decide)
  refine va_sld hx hb hX hbl hbA hS (by unfold vp_in; decide +kernel) dL_law_2306 ?_
  refine lv_topi (fun f_2 ef_2 => ?_)
  obtain rfl : f_2 = xs 1 := ef_2
  refine lv_aload_n hx hb dL_law_2307 rfl (lv_at hl 0 rfl) ?_
  refine lv_iload hx hb dL_law_2308 (lv_at hl 5 rfl) ?_
  refine lv_iconst (v := 2) hx hb dL_law_2310 (by decide) ?_
  refine lv_iadd hx hb dL_law_2311 ?_
  refine lv_topi (fun f_3 ef_3 => ?_)
  obtain rfl : f_3 = 2 := ef_3.trans (by decide)
  refine va_sld hx hb hX hbl hbA hS (by unfold vp_in; decide +kernel) dL_law_2312 ?_
  refine lv_topi (fun f_4 ef_4 => ?_)
  obtain rfl : f_4 = xs 2 := ef_4
  refine lv_aload_n hx hb dL_law_2313 rfl (lv_at hl 0 rfl) ?_
  refine lv_iload hx hb dL_law_2314 (lv_at hl 5 rfl) ?_
  refine lv_iconst (v := 3) hx hb dL_law_2316 (by decide) ?_
  refine lv_iadd hx hb dL_law_2317 ?_
  refine lv_topi (fun f_5 ef_5 => ?_)
  obtain rfl : f_5 = 3 := ef_5.trans (by decide)
  refine va_sld hx hb hX hbl hbA hS (by unfold vp_in; decide +kernel) dL_law_2318 ?_
  refine lv_topi (fun f_6 ef_6 => ?_)
  obtain rfl : f_6 = xs 3 := ef_6
  refine lv_aload_n hx hb dL_law_2319 rfl (lv_at hl 0 rfl) ?_
  refine lv_iload hx hb dL_law_2320 (lv_at hl 5 rfl) ?_
  refine lv_iconst (v := 4) hx hb dL_law_2322 (by decide) ?_
  refine lv_iadd hx hb dL_law_2323 ?_
  refine lv_topi (fun f_7 ef_7 => ?_)
  obtain rfl : f_7 = 4 := ef_7.trans (by decide)
  refine va_sld hx hb hX hbl hbA hS (by unfold vp_in; decide +kernel) dL_law_2324 ?_
  refine lv_topi (fun f_8 ef_8 => ?_)
  obtain rfl : f_8 = xs 4 := ef_8
  refine lv_aload_n hx hb dL_law_2325 rfl (lv_at hl 3 rfl) ?_
  have hPc := hP.sub (ws' := [(x0, .inr (12, [.ref a1, .ref a2, .ref a3, .ref a4, .ref a5, .ref a6, .ref a7, .ref a8, .int 3, .int 0])), (a6, .inr (10, [.ref b1, .ref b2, .ref b3, .int 0])), (b1, .inl (cyA, 400, .inl (nI))), (b2, .inl (cyJ, 512, .inl (fun _ => 0))), (o1, .inl (cyL, 1, .inr (.inl (fun _ => 0))))]) [0, 6, 7, 8, 20] rfl
  have hKc := hK.sub (tys' := [(cyA, .int), (cyJ, .int), (cyL, .long)]) [0, 1, 5] rfl
  have hDc := hD.sub (ws' := [(x0, .inr (12, [.ref a1, .ref a2, .ref a3, .ref a4, .ref a5, .ref a6, .ref a7, .ref a8, .int 3, .int 0])), (a6, .inr (10, [.ref b1, .ref b2, .ref b3, .int 0])), (b1, .inl (cyA, 400, .inl (nI))), (b2, .inl (cyJ, 512, .inl (fun _ => 0))), (o1, .inl (cyL, 1, .inr (.inl (fun _ => 0))))]) [0, 6, 7, 8, 20] (by decide) rfl
  have hFc := va_free (wc := [(x0, .inr (12, [.ref a1, .ref a2, .ref a3, .ref a4, .ref a5, .ref a6, .ref a7, .ref a8, .int 3, .int 0])), (a6, .inr (10, [.ref b1, .ref b2, .ref b3, .int 0])), (b1, .inl (cyA, 400, .inl (nI))), (b2, .inl (cyJ, 512, .inl (fun _ => 0))), (o1, .inl (cyL, 1, .inr (.inl (fun _ => 0))))]) hD hS hA [0, 6, 7, 8, 20] rfl
  refine va_calli (vx_runSW (As := [.ref x0, .int (xs 1), .int (xs 2), .int (xs 3), .int (xs 4), .ref o1]) (rest := []) ⟨hx, hb, hml, hown, hts⟩ (k_L_merge l hfl G z x0 a1 a2 a3 a4 a5 a6 a7 a8 3 0 b1 b2 b3 cyA cyJ (fun _ => 0) ((xs 1)) ((xs 2)) ((xs 3)) ((xs 4)) o1 cyL (fun _ => 0) H.size ) (vx_cwSW 6 hts (lw_goodApp (lw_3 q1025 q1026 q0) q1027) rfl rfl rfl (by decide +kernel) ⟨Nat.le_of_ble_eq_true rfl, Nat.le_of_ble_eq_true rfl⟩) ⟨PW.blind, PW.of hPc hKc hDc hG hS hFc [.ref x0, .int (xs 1), .int (xs 2), .int (xs 3), .int (xs 4), .ref o1]⟩ rfl rfl hl.1 rfl (lv_room (Nat.le_of_ble_eq_true rfl)) dL_law_2326 ⟨Nat.le_of_ble_eq_true rfl, Nat.le_of_ble_eq_true rfl⟩) hS (fun q _ h => hFc q h) hFc (fun r_11 u_9 t_13 H_10 locs ht hvm hw_12 hB hz1 hk1 hS => ?_)
  obtain ⟨hP, hD, hK⟩ := QW.join (wr := [(a1, .inr (3, [.int 0, .ref z, .int 0])), (a2, .inr (3, [.int 0, .ref z, .int 0])), (a3, .inr (3, [.int 0, .ref z, .int 0])), (a4, .inr (3, [.int 0, .ref z, .int 0])), (a5, .inr (3, [.int 0, .ref z, .int 0])), (b3, .inl (cyT, 400, .inl (fun _ => 0))), (a7, .inr (4, [.ref d1, .ref d2, .ref d3, .ref d4, .int 0, .int 12])), (d4, .inl (cyO, 20, .inr (.inr (.inr (.inr (fS)))))), (r0, .inl (cyI, 20, .inl (fun _ => 0))), (y0, .inr (18, [.int 0, .ref l1, .ref l2, .ref l3, .ref l4, .ref l5, .ref l6, .int 0, .int 3, .int 12, .ref m1, .ref m2, .ref m3, .ref m4, .ref m5, .ref m6])), (l1, .inr (3, [.int 0, .ref z, .int 0])), (l2, .inr (3, [.int 0, .ref z, .int 0])), (l3, .inr (3, [.int 0, .ref z, .int 0])), (l4, .inr (3, [.int 0, .ref z, .int 0])), (l5, .inr (3, [.int 0, .ref z, .int 0])), (l6, .inr (3, [.int 0, .ref z, .int 0])), (o2, .inl (cyD, 1, .inr (.inr (.inr (.inl (fun _ => 0))))))]) (w1 := [(o1, .inl (cyL, 1, .inr (.inl (u_9))))]) hP hD hK [0, 6, 7, 8, 20] [1, 2, 3, 4, 5, 9, 10, 11, 12, 13, 14, 15, 16, 17, 18, 19, 21] rfl rfl (by decide) (by decide) hk1 hFc ht hvm hB
  have hP : va_P G vwCl ([(a1, .inr (3, [.int 0, .ref z, .int 0])), (a2, .inr (3, [.int 0, .ref z, .int 0])), (a3, .inr (3, [.int 0, .ref z, .int 0])), (a4, .inr (3, [.int 0, .ref z, .int 0])), (a5, .inr (3, [.int 0, .ref z, .int 0])), (b3, .inl (cyT, 400, .inl (fun _ => 0))), (a7, .inr (4, [.ref d1, .ref d2, .ref d3, .ref d4, .int 0, .int 12])), (d4, .inl (cyO, 20, .inr (.inr (.inr (.inr (fS)))))), (r0, .inl (cyI, 20, .inl (fun _ => 0))), (y0, .inr (18, [.int 0, .ref l1, .ref l2, .ref l3, .ref l4, .ref l5, .ref l6, .int 0, .int 3, .int 12, .ref m1, .ref m2, .ref m3, .ref m4, .ref m5, .ref m6])), (l1, .inr (3, [.int 0, .ref z, .int 0])), (l2, .inr (3, [.int 0, .ref z, .int 0])), (l3, .inr (3, [.int 0, .ref z, .int 0])), (l4, .inr (3, [.int 0, .ref z, .int 0])), (l5, .inr (3, [.int 0, .ref z, .int 0])), (l6, .inr (3, [.int 0, .ref z, .int 0])), (o2, .inl (cyD, 1, .inr (.inr (.inr (.inl (fun _ => 0)))))), (o1, .inl (cyL, 1, .inr (.inl (u_9))))]) H_10 := hP
  have hD : va_D A ([(a1, .inr (3, [.int 0, .ref z, .int 0])), (a2, .inr (3, [.int 0, .ref z, .int 0])), (a3, .inr (3, [.int 0, .ref z, .int 0])), (a4, .inr (3, [.int 0, .ref z, .int 0])), (a5, .inr (3, [.int 0, .ref z, .int 0])), (b3, .inl (cyT, 400, .inl (fun _ => 0))), (a7, .inr (4, [.ref d1, .ref d2, .ref d3, .ref d4, .int 0, .int 12])), (d4, .inl (cyO, 20, .inr (.inr (.inr (.inr (fS)))))), (r0, .inl (cyI, 20, .inl (fun _ => 0))), (y0, .inr (18, [.int 0, .ref l1, .ref l2, .ref l3, .ref l4, .ref l5, .ref l6, .int 0, .int 3, .int 12, .ref m1, .ref m2, .ref m3, .ref m4, .ref m5, .ref m6])), (l1, .inr (3, [.int 0, .ref z, .int 0])), (l2, .inr (3, [.int 0, .ref z, .int 0])), (l3, .inr (3, [.int 0, .ref z, .int 0])), (l4, .inr (3, [.int 0, .ref z, .int 0])), (l5, .inr (3, [.int 0, .ref z, .int 0])), (l6, .inr (3, [.int 0, .ref z, .int 0])), (o2, .inl (cyD, 1, .inr (.inr (.inr (.inl (fun _ => 0)))))), (o1, .inl (cyL, 1, .inr (.inl (u_9))))]) := hD
  have hK : va_K G vwCl [(cyA, .int), (cyJ, .int), (cyT, .int), (cyO, .array .int), (cyI, .int), (cyL, .long), (cyD, .double), (cyL, .long)] s := hK
  refine W.widen (k := 139) (n := 3015) (Nat.le_of_ble_eq_true rfl) (Nat.le_of_ble_eq_true rfl) ?_
  rcases hw_12 with ⟨hφ, rfl, hu⟩ | ⟨hφ, rfl⟩
  · refine lv_istore (lv' := [(6, .int 0), (0, .ref b), (1, .ref x0), (2, .ref y0), (3, .ref o1), (4, .ref o2), (5, .int 0)]) hx hb dL_law_2329 hl (by decide) rfl (fun ls hl => ?_)
    refine lv_aload_n hx hb dL_law_2331 rfl (lv_at hl 3 rfl) ?_
    refine lv_aload_n hx hb dL_law_2332 rfl (lv_at hl 1 rfl) ?_
    refine lv_iload hx hb dL_law_2333 (lv_at hl 6 rfl) ?_
    refine lv_iconst (v := 1) hx hb dL_law_2335 (by decide) ?_
    refine lv_iadd hx hb dL_law_2336 ?_
    refine lv_topi (fun f_14 ef_14 => ?_)
    obtain rfl : f_14 = 1 := ef_14.trans (by decide)
    refine va_sld hx hb hX hbl hbA hS (by unfold vp_in; decide +kernel) dL_law_2337 ?_
    refine lv_topi (fun f_15 ef_15 => ?_)
    obtain rfl : f_15 = xs 1 := ef_15
    refine lv_aload_n hx hb dL_law_2338 rfl (lv_at hl 1 rfl) ?_
    refine lv_iload hx hb dL_law_2339 (lv_at hl 6 rfl) ?_
    refine lv_iconst (v := 2) hx hb dL_law_2341 (by decide) ?_
    refine lv_iadd hx hb dL_law_2342 ?_
    refine lv_topi (fun f_16 ef_16 => ?_)
    obtain rfl : f_16 = 2 := ef_16.trans (by decide)
    refine va_sld hx hb hX hbl hbA hS (by unfold vp_in; decide +kernel) dL_law_2343 ?_
    refine lv_topi (fun f_17 ef_17 => ?_)
    obtain rfl : f_17 = xs 2 := ef_17
    refine lv_aload_n hx hb dL_law_2344 rfl (lv_at hl 1 rfl) ?_
    refine lv_iload hx hb dL_law_2345 (lv_at hl 6 rfl) ?_
    refine lv_iconst (v := 3) hx hb dL_law_2347 (by decide) ?_
    refine lv_iadd hx hb dL_law_2348 ?_
    refine lv_topi (fun f_18 ef_18 => ?_)
    obtain rfl : f_18 = 3 := ef_18.trans (by decide)
    refine va_sld hx hb hX hbl hbA hS (by unfold vp_in; decide +kernel) dL_law_2349 ?_
    refine lv_topi (fun f_19 ef_19 => ?_)
    obtain rfl : f_19 = xs 3 := ef_19
    refine lv_aload_n hx hb dL_law_2350 rfl (lv_at hl 1 rfl) ?_
    refine lv_iload hx hb dL_law_2351 (lv_at hl 6 rfl) ?_
    refine lv_iconst (v := 4) hx hb dL_law_2353 (by decide) ?_
    refine lv_iadd hx hb dL_law_2354 ?_
    refine lv_topi (fun f_20 ef_20 => ?_)
    obtain rfl : f_20 = 4 := ef_20.trans (by decide)
    refine va_sld hx hb hX hbl hbA hS (by unfold vp_in; decide +kernel) dL_law_2355 ?_
    refine lv_topi (fun f_21 ef_21 => ?_)
    obtain rfl : f_21 = xs 4 := ef_21
    have hPc := hP.sub (ws' := [(y0, .inr (18, [.int 0, .ref l1, .ref l2, .ref l3, .ref l4, .ref l5, .ref l6, .int 0, .int 3, .int 12, .ref m1, .ref m2, .ref m3, .ref m4, .ref m5, .ref m6])), (l6, .inr (3, [.int 0, .ref z, .int 0]))]) [9, 15] rfl
    have hKc := hK.sub (tys' := []) [] rfl
    have hDc := hD.sub (ws' := [(y0, .inr (18, [.int 0, .ref l1, .ref l2, .ref l3, .ref l4, .ref l5, .ref l6, .int 0, .int 3, .int 12, .ref m1, .ref m2, .ref m3, .ref m4, .ref m5, .ref m6])), (l6, .inr (3, [.int 0, .ref z, .int 0]))]) [9, 15] (by decide) rfl
    have hFc := va_free (wc := [(y0, .inr (18, [.int 0, .ref l1, .ref l2, .ref l3, .ref l4, .ref l5, .ref l6, .int 0, .int 3, .int 12, .ref m1, .ref m2, .ref m3, .ref m4, .ref m5, .ref m6])), (l6, .inr (3, [.int 0, .ref z, .int 0]))]) hD hS hA [9, 15] rfl
    refine va_calli (va_runV (As := [.int (xs 1), .int (xs 2), .int (xs 3), .int (xs 4)]) (rest := []) ⟨hx, hb, hml, hown, hts⟩ (k_X14_merge l G z y0 0 l1 l2 l3 l4 l5 l6 3 12 m1 m2 m3 m4 m5 m6 0 ((xs 1)) ((xs 2)) ((xs 3)) ((xs 4)) H_10.size ) (cwV 4 hts (lw_goodApp (lw_4 q1645 q1646 q1647 q7) q1648) rfl rfl rfl (by decide +kernel) ⟨Nat.le_of_ble_eq_true rfl, Nat.le_of_ble_eq_true rfl⟩) ⟨PW.blind, va_recv hK hP (ci := 18) (q0 := 9) rfl rfl, PW.of hPc hKc hDc hG hS hFc [.ref y0, .int (xs 1), .int (xs 2), .int (xs 3), .int (xs 4)]⟩ rfl rfl hl.1 rfl (lv_room (Nat.le_of_ble_eq_true rfl)) dL_law_2356 ⟨Nat.le_of_ble_eq_true rfl, Nat.le_of_ble_eq_true rfl⟩) hS (fun q _ h => hFc q h) hFc (fun r_23 u t_25 H_22 locs ht hvm hw_24 hB hz1 hk1 hS => ?_)
    obtain ⟨th1_26, hf_27, hB⟩ := hB
    obtain ⟨hP, hD, hK⟩ := QW.join (wr := [(a1, .inr (3, [.int 0, .ref z, .int 0])), (a2, .inr (3, [.int 0, .ref z, .int 0])), (a3, .inr (3, [.int 0, .ref z, .int 0])), (a4, .inr (3, [.int 0, .ref z, .int 0])), (a5, .inr (3, [.int 0, .ref z, .int 0])), (b3, .inl (cyT, 400, .inl (fun _ => 0))), (a7, .inr (4, [.ref d1, .ref d2, .ref d3, .ref d4, .int 0, .int 12])), (d4, .inl (cyO, 20, .inr (.inr (.inr (.inr (fS)))))), (r0, .inl (cyI, 20, .inl (fun _ => 0))), (l1, .inr (3, [.int 0, .ref z, .int 0])), (l2, .inr (3, [.int 0, .ref z, .int 0])), (l3, .inr (3, [.int 0, .ref z, .int 0])), (l4, .inr (3, [.int 0, .ref z, .int 0])), (l5, .inr (3, [.int 0, .ref z, .int 0])), (o2, .inl (cyD, 1, .inr (.inr (.inr (.inl (fun _ => 0)))))), (o1, .inl (cyL, 1, .inr (.inl (u_9))))]) (w1 := [(y0, .inr (18, [.int th1_26, .ref l1, .ref l2, .ref l3, .ref l4, .ref l5, .ref l6, .int 0, .int 3, .int 12, .ref m1, .ref m2, .ref m3, .ref m4, .ref m5, .ref m6]))]) hP hD hK [9, 15] [0, 1, 2, 3, 4, 5, 6, 7, 8, 10, 11, 12, 13, 14, 16, 17] rfl rfl (by decide) (by decide) hk1 hFc ht hvm hB
    have hP : va_P G vwCl ([(a1, .inr (3, [.int 0, .ref z, .int 0])), (a2, .inr (3, [.int 0, .ref z, .int 0])), (a3, .inr (3, [.int 0, .ref z, .int 0])), (a4, .inr (3, [.int 0, .ref z, .int 0])), (a5, .inr (3, [.int 0, .ref z, .int 0])), (b3, .inl (cyT, 400, .inl (fun _ => 0))), (a7, .inr (4, [.ref d1, .ref d2, .ref d3, .ref d4, .int 0, .int 12])), (d4, .inl (cyO, 20, .inr (.inr (.inr (.inr (fS)))))), (r0, .inl (cyI, 20, .inl (fun _ => 0))), (l1, .inr (3, [.int 0, .ref z, .int 0])), (l2, .inr (3, [.int 0, .ref z, .int 0])), (l3, .inr (3, [.int 0, .ref z, .int 0])), (l4, .inr (3, [.int 0, .ref z, .int 0])), (l5, .inr (3, [.int 0, .ref z, .int 0])), (o2, .inl (cyD, 1, .inr (.inr (.inr (.inl (fun _ => 0)))))), (o1, .inl (cyL, 1, .inr (.inl (u_9)))), (y0, .inr (18, [.int th1_26, .ref l1, .ref l2, .ref l3, .ref l4, .ref l5, .ref l6, .int 0, .int 3, .int 12, .ref m1, .ref m2, .ref m3, .ref m4, .ref m5, .ref m6]))]) H_22 := hP
    have hD : va_D A ([(a1, .inr (3, [.int 0, .ref z, .int 0])), (a2, .inr (3, [.int 0, .ref z, .int 0])), (a3, .inr (3, [.int 0, .ref z, .int 0])), (a4, .inr (3, [.int 0, .ref z, .int 0])), (a5, .inr (3, [.int 0, .ref z, .int 0])), (b3, .inl (cyT, 400, .inl (fun _ => 0))), (a7, .inr (4, [.ref d1, .ref d2, .ref d3, .ref d4, .int 0, .int 12])), (d4, .inl (cyO, 20, .inr (.inr (.inr (.inr (fS)))))), (r0, .inl (cyI, 20, .inl (fun _ => 0))), (l1, .inr (3, [.int 0, .ref z, .int 0])), (l2, .inr (3, [.int 0, .ref z, .int 0])), (l3, .inr (3, [.int 0, .ref z, .int 0])), (l4, .inr (3, [.int 0, .ref z, .int 0])), (l5, .inr (3, [.int 0, .ref z, .int 0])), (o2, .inl (cyD, 1, .inr (.inr (.inr (.inl (fun _ => 0)))))), (o1, .inl (cyL, 1, .inr (.inl (u_9)))), (y0, .inr (18, [.int th1_26, .ref l1, .ref l2, .ref l3, .ref l4, .ref l5, .ref l6, .int 0, .int 3, .int 12, .ref m1, .ref m2, .ref m3, .ref m4, .ref m5, .ref m6]))]) := hD
    have hK : va_K G vwCl [(cyA, .int), (cyJ, .int), (cyT, .int), (cyO, .array .int), (cyI, .int), (cyL, .long), (cyD, .double), (cyL, .long)] s := hK
    refine W.widen (k := 143) (n := 3431) (Nat.le_of_ble_eq_true rfl) (Nat.le_of_ble_eq_true rfl) ?_
    rcases hf_27 with ⟨hψ, rfl⟩ | ⟨hψ, rfl⟩
    · have hr2 := hw_24 hψ
      rcases z_ite2 hr2 with ⟨hc9, rfl⟩ | ⟨hc9, rfl⟩
      · refine lv_istore (lv' := [(7, .int 0), (6, .int 0), (0, .ref b), (1, .ref x0), (2, .ref y0), (3, .ref o1), (4, .ref o2), (5, .int 0)]) hx hb dL_law_2359 hl (by decide) rfl (fun ls hl => ?_)
        refine lv_aload_n hx hb dL_law_2361 rfl (lv_at hl 4 rfl) ?_
        have hPc := hP.sub (ws' := [(y0, .inr (18, [.int 0, .ref l1, .ref l2, .ref l3, .ref l4, .ref l5, .ref l6, .int 0, .int 3, .int 12, .ref m1, .ref m2, .ref m3, .ref m4, .ref m5, .ref m6]))]) [16] rfl
        have hKc := hK.sub (tys' := []) [] rfl
        refine va_calli (va_runV (As := []) (rest := []) ⟨hx, hb, hml, hown, hts⟩ (k_X14_thrown l G z y0 0 l1 l2 l3 l4 l5 l6 3 12 m1 m2 m3 m4 m5 m6 H_22.size ) (cwV 0 hts (lw_goodApp (lw_4 q1236 q1237 q1238 q7) q1239) rfl rfl rfl (by decide +kernel) ⟨Nat.le_of_ble_eq_true rfl, Nat.le_of_ble_eq_true rfl⟩) ⟨PR.blind, va_recv hK hP (ci := 18) (q0 := 16) rfl rfl, PR.of hPc hKc hG hS hA [.ref y0]⟩ rfl rfl hl.1 rfl (lv_room (Nat.le_of_ble_eq_true rfl)) dL_law_2362 ⟨Nat.le_of_ble_eq_true rfl, Nat.le_of_ble_eq_true rfl⟩) hS (fun q h9 h => zN.not h9 h) (fun q h => hA q (Nat.le_trans hS.1 h)) (fun r_29 u t_31 H_28 locs ht hvm hw_30 hB hz1 hk1 hS => ?_)
        have hP := hP.grown hk1
        refine W.widen (k := 143) (n := 3431) (Nat.le_of_ble_eq_true rfl) (Nat.le_of_ble_eq_true rfl) ?_
        obtain rfl : 0 = r_29 := hw_30.symm
        refine lv_iload hx hb dL_law_2365 (lv_at hl 1 rfl) ?_
        refine lv_icmp_eq (tgt := 2372) hx hb dL_law_2367 (by decide) (fun c_32 => ?_) (fun c_32 => absurd rfl c_32)
        refine lv_iload hx hb dL_law_2372 (lv_at hl 1 rfl) ?_
        refine lv_if_ne (tgt := 2396) hx hb dL_law_2374 (by decide) (fun c_33 => absurd rfl c_33) (fun c_33 => ?_)
        refine lv_aload_n hx hb dL_law_2377 rfl (lv_at hl 5 rfl) ?_
        refine lv_iconst (v := 0) hx hb dL_law_2378 (by decide) ?_
        refine va_lald hx hb hK hP 15 5 rfl rfl (by unfold vp_in; decide +kernel) dL_law_2379 ?_
        refine lv_iload hx hb dL_law_2380 (lv_at hl 0 rfl) ?_
        refine lv_if_eq (tgt := 2389) hx hb dL_law_2382 (by decide) (fun c_34 => ?_) (fun c_34 => absurd rfl c_34)
        refine lv_lconst (v := 0) hx hb dL_law_2389 (by decide) ?_
        refine W.lcmp hx hb dL_law_2390 ?_
        refine lv_if_eq (tgt := 2396) hx hb dL_law_2391 (by decide) (fun c_35 => ?_) (fun c_35 => absurd (z_cmp (hu.trans (if_pos hc9))) c_35)
        refine lv_goto (tgt := 3288) hx hb dL_law_2396 (by decide) ?_
        exact law_tail hfl C0 hA hA2 hS (lv_sub hl [2, 7] rfl) (Nat.le_of_ble_eq_true rfl) (Nat.le_of_ble_eq_true rfl)
      · refine lv_istore (lv' := [(7, .int 1), (6, .int 0), (0, .ref b), (1, .ref x0), (2, .ref y0), (3, .ref o1), (4, .ref o2), (5, .int 0)]) hx hb dL_law_2359 hl (by decide) rfl (fun ls hl => ?_)
        refine lv_aload_n hx hb dL_law_2361 rfl (lv_at hl 4 rfl) ?_
        have hPc := hP.sub (ws' := [(y0, .inr (18, [.int 0, .ref l1, .ref l2, .ref l3, .ref l4, .ref l5, .ref l6, .int 0, .int 3, .int 12, .ref m1, .ref m2, .ref m3, .ref m4, .ref m5, .ref m6]))]) [16] rfl
        have hKc := hK.sub (tys' := []) [] rfl
        refine va_calli (va_runV (As := []) (rest := []) ⟨hx, hb, hml, hown, hts⟩ (k_X14_thrown l G z y0 0 l1 l2 l3 l4 l5 l6 3 12 m1 m2 m3 m4 m5 m6 H_22.size ) (cwV 0 hts (lw_goodApp (lw_4 q1236 q1237 q1238 q7) q1239) rfl rfl rfl (by decide +kernel) ⟨Nat.le_of_ble_eq_true rfl, Nat.le_of_ble_eq_true rfl⟩) ⟨PR.blind, va_recv hK hP (ci := 18) (q0 := 16) rfl rfl, PR.of hPc hKc hG hS hA [.ref y0]⟩ rfl rfl hl.1 rfl (lv_room (Nat.le_of_ble_eq_true rfl)) dL_law_2362 ⟨Nat.le_of_ble_eq_true rfl, Nat.le_of_ble_eq_true rfl⟩) hS (fun q h9 h => zN.not h9 h) (fun q h => hA q (Nat.le_trans hS.1 h)) (fun r_37 u t_39 H_36 locs ht hvm hw_38 hB hz1 hk1 hS => ?_)
        have hP := hP.grown hk1
        refine W.widen (k := 143) (n := 3431) (Nat.le_of_ble_eq_true rfl) (Nat.le_of_ble_eq_true rfl) ?_
        obtain rfl : 0 = r_37 := hw_38.symm
        refine lv_iload hx hb dL_law_2365 (lv_at hl 1 rfl) ?_
        refine lv_icmp_eq (tgt := 2372) hx hb dL_law_2367 (by decide) (fun c_40 => ?_) (fun c_40 => absurd rfl c_40)
        refine lv_iload hx hb dL_law_2372 (lv_at hl 1 rfl) ?_
        refine lv_if_ne (tgt := 2396) hx hb dL_law_2374 (by decide) (fun c_41 => absurd rfl c_41) (fun c_41 => ?_)
        refine lv_aload_n hx hb dL_law_2377 rfl (lv_at hl 5 rfl) ?_
        refine lv_iconst (v := 0) hx hb dL_law_2378 (by decide) ?_
        refine va_lald hx hb hK hP 15 5 rfl rfl (by unfold vp_in; decide +kernel) dL_law_2379 ?_
        refine lv_iload hx hb dL_law_2380 (lv_at hl 0 rfl) ?_
        refine lv_if_eq (tgt := 2389) hx hb dL_law_2382 (by decide) (fun c_42 => absurd c_42 (by decide)) (fun c_42 => ?_)
        refine lv_lconst (v := 1) hx hb dL_law_2385 (by decide) ?_
        refine lv_goto (tgt := 2390) hx hb dL_law_2386 (by decide) ?_
        refine W.lcmp hx hb dL_law_2390 ?_
        refine lv_if_eq (tgt := 2396) hx hb dL_law_2391 (by decide) (fun c_43 => ?_) (fun c_43 => absurd (z_cmp (hu.trans (if_neg hc9))) c_43)
        refine lv_goto (tgt := 3288) hx hb dL_law_2396 (by decide) ?_
        exact law_tail hfl C0 hA hA2 hS (lv_sub hl [2, 7] rfl) (Nat.le_of_ble_eq_true rfl) (Nat.le_of_ble_eq_true rfl)
    · exact absurd hφ hψ
  · refine lv_istore (lv' := [(6, .int 1), (0, .ref b), (1, .ref x0), (2, .ref y0), (3, .ref o1), (4, .ref o2), (5, .int 0)]) hx hb dL_law_2329 hl (by decide) rfl (fun ls hl => ?_)
    refine lv_aload_n hx hb dL_law_2331 rfl (lv_at hl 3 rfl) ?_
    refine lv_aload_n hx hb dL_law_2332 rfl (lv_at hl 1 rfl) ?_
    refine lv_iload hx hb dL_law_2333 (lv_at hl 6 rfl) ?_
    refine lv_iconst (v := 1) hx hb dL_law_2335 (by decide) ?_
    refine lv_iadd hx hb dL_law_2336 ?_
    refine lv_topi (fun f_44 ef_44 => ?_)
    obtain rfl : f_44 = 1 := ef_44.trans (by decide)
    refine va_sld hx hb hX hbl hbA hS (by unfold vp_in; decide +kernel) dL_law_2337 ?_
    refine lv_topi (fun f_45 ef_45 => ?_)
    obtain rfl : f_45 = xs 1 := ef_45
    refine lv_aload_n hx hb dL_law_2338 rfl (lv_at hl 1 rfl) ?_
    refine lv_iload hx hb dL_law_2339 (lv_at hl 6 rfl) ?_
    refine lv_iconst (v := 2) hx hb dL_law_2341 (by decide) ?_
    refine lv_iadd hx hb dL_law_2342 ?_
    refine lv_topi (fun f_46 ef_46 => ?_)
    obtain rfl : f_46 = 2 := ef_46.trans (by decide)
    refine va_sld hx hb hX hbl hbA hS (by unfold vp_in; decide +kernel) dL_law_2343 ?_
    refine lv_topi (fun f_47 ef_47 => ?_)
    obtain rfl : f_47 = xs 2 := ef_47
    refine lv_aload_n hx hb dL_law_2344 rfl (lv_at hl 1 rfl) ?_
    refine lv_iload hx hb dL_law_2345 (lv_at hl 6 rfl) ?_
    refine lv_iconst (v := 3) hx hb dL_law_2347 (by decide) ?_
    refine lv_iadd hx hb dL_law_2348 ?_
    refine lv_topi (fun f_48 ef_48 => ?_)
    obtain rfl : f_48 = 3 := ef_48.trans (by decide)
    refine va_sld hx hb hX hbl hbA hS (by unfold vp_in; decide +kernel) dL_law_2349 ?_
    refine lv_topi (fun f_49 ef_49 => ?_)
    obtain rfl : f_49 = xs 3 := ef_49
    refine lv_aload_n hx hb dL_law_2350 rfl (lv_at hl 1 rfl) ?_
    refine lv_iload hx hb dL_law_2351 (lv_at hl 6 rfl) ?_
    refine lv_iconst (v := 4) hx hb dL_law_2353 (by decide) ?_
    refine lv_iadd hx hb dL_law_2354 ?_
    refine lv_topi (fun f_50 ef_50 => ?_)
    obtain rfl : f_50 = 4 := ef_50.trans (by decide)
    refine va_sld hx hb hX hbl hbA hS (by unfold vp_in; decide +kernel) dL_law_2355 ?_
    refine lv_topi (fun f_51 ef_51 => ?_)
    obtain rfl : f_51 = xs 4 := ef_51
    have hPc := hP.sub (ws' := [(y0, .inr (18, [.int 0, .ref l1, .ref l2, .ref l3, .ref l4, .ref l5, .ref l6, .int 0, .int 3, .int 12, .ref m1, .ref m2, .ref m3, .ref m4, .ref m5, .ref m6])), (l6, .inr (3, [.int 0, .ref z, .int 0]))]) [9, 15] rfl
    have hKc := hK.sub (tys' := []) [] rfl
    have hDc := hD.sub (ws' := [(y0, .inr (18, [.int 0, .ref l1, .ref l2, .ref l3, .ref l4, .ref l5, .ref l6, .int 0, .int 3, .int 12, .ref m1, .ref m2, .ref m3, .ref m4, .ref m5, .ref m6])), (l6, .inr (3, [.int 0, .ref z, .int 0]))]) [9, 15] (by decide) rfl
    have hFc := va_free (wc := [(y0, .inr (18, [.int 0, .ref l1, .ref l2, .ref l3, .ref l4, .ref l5, .ref l6, .int 0, .int 3, .int 12, .ref m1, .ref m2, .ref m3, .ref m4, .ref m5, .ref m6])), (l6, .inr (3, [.int 0, .ref z, .int 0]))]) hD hS hA [9, 15] rfl
    refine va_calli (va_runV (As := [.int (xs 1), .int (xs 2), .int (xs 3), .int (xs 4)]) (rest := []) ⟨hx, hb, hml, hown, hts⟩ (k_X14_merge l G z y0 0 l1 l2 l3 l4 l5 l6 3 12 m1 m2 m3 m4 m5 m6 0 ((xs 1)) ((xs 2)) ((xs 3)) ((xs 4)) H_10.size ) (cwV 4 hts (lw_goodApp (lw_4 q1645 q1646 q1647 q7) q1648) rfl rfl rfl (by decide +kernel) ⟨Nat.le_of_ble_eq_true rfl, Nat.le_of_ble_eq_true rfl⟩) ⟨PW.blind, va_recv hK hP (ci := 18) (q0 := 9) rfl rfl, PW.of hPc hKc hDc hG hS hFc [.ref y0, .int (xs 1), .int (xs 2), .int (xs 3), .int (xs 4)]⟩ rfl rfl hl.1 rfl (lv_room (Nat.le_of_ble_eq_true rfl)) dL_law_2356 ⟨Nat.le_of_ble_eq_true rfl, Nat.le_of_ble_eq_true rfl⟩) hS (fun q _ h => hFc q h) hFc (fun r_53 u t_55 H_52 locs ht hvm hw_54 hB hz1 hk1 hS => ?_)
    obtain ⟨th1_56, hf_57, hB⟩ := hB
    obtain ⟨hP, hD, hK⟩ := QW.join (wr := [(a1, .inr (3, [.int 0, .ref z, .int 0])), (a2, .inr (3, [.int 0, .ref z, .int 0])), (a3, .inr (3, [.int 0, .ref z, .int 0])), (a4, .inr (3, [.int 0, .ref z, .int 0])), (a5, .inr (3, [.int 0, .ref z, .int 0])), (b3, .inl (cyT, 400, .inl (fun _ => 0))), (a7, .inr (4, [.ref d1, .ref d2, .ref d3, .ref d4, .int 0, .int 12])), (d4, .inl (cyO, 20, .inr (.inr (.inr (.inr (fS)))))), (r0, .inl (cyI, 20, .inl (fun _ => 0))), (l1, .inr (3, [.int 0, .ref z, .int 0])), (l2, .inr (3, [.int 0, .ref z, .int 0])), (l3, .inr (3, [.int 0, .ref z, .int 0])), (l4, .inr (3, [.int 0, .ref z, .int 0])), (l5, .inr (3, [.int 0, .ref z, .int 0])), (o2, .inl (cyD, 1, .inr (.inr (.inr (.inl (fun _ => 0)))))), (o1, .inl (cyL, 1, .inr (.inl (u_9))))]) (w1 := [(y0, .inr (18, [.int th1_56, .ref l1, .ref l2, .ref l3, .ref l4, .ref l5, .ref l6, .int 0, .int 3, .int 12, .ref m1, .ref m2, .ref m3, .ref m4, .ref m5, .ref m6]))]) hP hD hK [9, 15] [0, 1, 2, 3, 4, 5, 6, 7, 8, 10, 11, 12, 13, 14, 16, 17] rfl rfl (by decide) (by decide) hk1 hFc ht hvm hB
    have hP : va_P G vwCl ([(a1, .inr (3, [.int 0, .ref z, .int 0])), (a2, .inr (3, [.int 0, .ref z, .int 0])), (a3, .inr (3, [.int 0, .ref z, .int 0])), (a4, .inr (3, [.int 0, .ref z, .int 0])), (a5, .inr (3, [.int 0, .ref z, .int 0])), (b3, .inl (cyT, 400, .inl (fun _ => 0))), (a7, .inr (4, [.ref d1, .ref d2, .ref d3, .ref d4, .int 0, .int 12])), (d4, .inl (cyO, 20, .inr (.inr (.inr (.inr (fS)))))), (r0, .inl (cyI, 20, .inl (fun _ => 0))), (l1, .inr (3, [.int 0, .ref z, .int 0])), (l2, .inr (3, [.int 0, .ref z, .int 0])), (l3, .inr (3, [.int 0, .ref z, .int 0])), (l4, .inr (3, [.int 0, .ref z, .int 0])), (l5, .inr (3, [.int 0, .ref z, .int 0])), (o2, .inl (cyD, 1, .inr (.inr (.inr (.inl (fun _ => 0)))))), (o1, .inl (cyL, 1, .inr (.inl (u_9)))), (y0, .inr (18, [.int th1_56, .ref l1, .ref l2, .ref l3, .ref l4, .ref l5, .ref l6, .int 0, .int 3, .int 12, .ref m1, .ref m2, .ref m3, .ref m4, .ref m5, .ref m6]))]) H_52 := hP
    have hD : va_D A ([(a1, .inr (3, [.int 0, .ref z, .int 0])), (a2, .inr (3, [.int 0, .ref z, .int 0])), (a3, .inr (3, [.int 0, .ref z, .int 0])), (a4, .inr (3, [.int 0, .ref z, .int 0])), (a5, .inr (3, [.int 0, .ref z, .int 0])), (b3, .inl (cyT, 400, .inl (fun _ => 0))), (a7, .inr (4, [.ref d1, .ref d2, .ref d3, .ref d4, .int 0, .int 12])), (d4, .inl (cyO, 20, .inr (.inr (.inr (.inr (fS)))))), (r0, .inl (cyI, 20, .inl (fun _ => 0))), (l1, .inr (3, [.int 0, .ref z, .int 0])), (l2, .inr (3, [.int 0, .ref z, .int 0])), (l3, .inr (3, [.int 0, .ref z, .int 0])), (l4, .inr (3, [.int 0, .ref z, .int 0])), (l5, .inr (3, [.int 0, .ref z, .int 0])), (o2, .inl (cyD, 1, .inr (.inr (.inr (.inl (fun _ => 0)))))), (o1, .inl (cyL, 1, .inr (.inl (u_9)))), (y0, .inr (18, [.int th1_56, .ref l1, .ref l2, .ref l3, .ref l4, .ref l5, .ref l6, .int 0, .int 3, .int 12, .ref m1, .ref m2, .ref m3, .ref m4, .ref m5, .ref m6]))]) := hD
    have hK : va_K G vwCl [(cyA, .int), (cyJ, .int), (cyT, .int), (cyO, .array .int), (cyI, .int), (cyL, .long), (cyD, .double), (cyL, .long)] s := hK
    refine W.widen (k := 143) (n := 3431) (Nat.le_of_ble_eq_true rfl) (Nat.le_of_ble_eq_true rfl) ?_
    rcases hf_57 with ⟨hψ, rfl⟩ | ⟨hψ, rfl⟩
    · exact absurd hψ hφ
    · refine lv_istore (lv' := [(7, .int r_53), (6, .int 1), (0, .ref b), (1, .ref x0), (2, .ref y0), (3, .ref o1), (4, .ref o2), (5, .int 0)]) hx hb dL_law_2359 hl (by decide) rfl (fun ls hl => ?_)
      refine lv_aload_n hx hb dL_law_2361 rfl (lv_at hl 4 rfl) ?_
      have hPc := hP.sub (ws' := [(y0, .inr (18, [.int 1, .ref l1, .ref l2, .ref l3, .ref l4, .ref l5, .ref l6, .int 0, .int 3, .int 12, .ref m1, .ref m2, .ref m3, .ref m4, .ref m5, .ref m6]))]) [16] rfl
      have hKc := hK.sub (tys' := []) [] rfl
      refine va_calli (va_runV (As := []) (rest := []) ⟨hx, hb, hml, hown, hts⟩ (k_X14_thrown l G z y0 1 l1 l2 l3 l4 l5 l6 3 12 m1 m2 m3 m4 m5 m6 H_52.size ) (cwV 0 hts (lw_goodApp (lw_4 q1236 q1237 q1238 q7) q1239) rfl rfl rfl (by decide +kernel) ⟨Nat.le_of_ble_eq_true rfl, Nat.le_of_ble_eq_true rfl⟩) ⟨PR.blind, va_recv hK hP (ci := 18) (q0 := 16) rfl rfl, PR.of hPc hKc hG hS hA [.ref y0]⟩ rfl rfl hl.1 rfl (lv_room (Nat.le_of_ble_eq_true rfl)) dL_law_2362 ⟨Nat.le_of_ble_eq_true rfl, Nat.le_of_ble_eq_true rfl⟩) hS (fun q h9 h => zN.not h9 h) (fun q h => hA q (Nat.le_trans hS.1 h)) (fun r_59 u t_61 H_58 locs ht hvm hw_60 hB hz1 hk1 hS => ?_)
      have hP := hP.grown hk1
      refine W.widen (k := 143) (n := 3431) (Nat.le_of_ble_eq_true rfl) (Nat.le_of_ble_eq_true rfl) ?_
      obtain rfl : 1 = r_59 := hw_60.symm
      refine lv_iload hx hb dL_law_2365 (lv_at hl 1 rfl) ?_
      refine lv_icmp_eq (tgt := 2372) hx hb dL_law_2367 (by decide) (fun c_62 => ?_) (fun c_62 => absurd rfl c_62)
      refine lv_iload hx hb dL_law_2372 (lv_at hl 1 rfl) ?_
      refine lv_if_ne (tgt := 2396) hx hb dL_law_2374 (by decide) (fun c_63 => ?_) (fun c_63 => absurd c_63 (by decide))
      refine lv_goto (tgt := 3288) hx hb dL_law_2396 (by decide) ?_
      exact law_tail hfl C0 hA hA2 hS (lv_sub hl [2, 7] rfl) (Nat.le_of_ble_eq_true rfl) (Nat.le_of_ble_eq_true rfl)
set_option maxHeartbeats 8000000 in
set_option maxRecDepth 100000 in
/-- script value 29 -/
theorem law_case_29 {p : Program} {l : Launch} {e : Env} {s : State} {m : MethodId} {below : List Frame} {meth : Method} {c : Code} {b : Nat} {xs : Nat → Int32} (hfl : l.stackTraces = false) (C0 : lw_At p s m meth c b 7 xs) {A : Nat → Prop} (hA : ∀ q : Nat, s.heap.size ≤ q → A q) (hA2 : ∀ q : Nat, A q → s.heap.size ≤ q) (G : va_G) (z : Nat) (hG : zG z A s s.heap) (x0 : Nat) (y0 : Nat) (o1 : Nat) (o2 : Nat) (cyL : ClassId) (cyD : ClassId) (a1 : Nat) (a2 : Nat) (a3 : Nat) (a4 : Nat) (a5 : Nat) (a6 : Nat) (a7 : Nat) (a8 : Nat) (b1 : Nat) (b2 : Nat) (b3 : Nat) (cyA : ClassId) (cyJ : ClassId) (cyT : ClassId) (d1 : Nat) (d2 : Nat) (d3 : Nat) (d4 : Nat) (cyO : ClassId) (fS : Nat → Option Nat) (cyI : ClassId) (r0 : Nat) (l1 : Nat) (l2 : Nat) (l3 : Nat) (l4 : Nat) (l5 : Nat) (l6 : Nat) (m1 : Nat) (m2 : Nat) (m3 : Nat) (m4 : Nat) (m5 : Nat) (m6 : Nat) (hf0 : fS 0 = some r0) {H : Heap} {locs : List Loc} (hP : va_P G vwCl ([(x0, .inr (12, [.ref a1, .ref a2, .ref a3, .ref a4, .ref a5, .ref a6, .ref a7, .ref a8, .int 3, .int 0])), (a1, .inr (3, [.int 0, .ref z, .int 0])), (a2, .inr (3, [.int 0, .ref z, .int 0])), (a3, .inr (3, [.int 0, .ref z, .int 0])), (a4, .inr (3, [.int 0, .ref z, .int 0])), (a5, .inr (3, [.int 0, .ref z, .int 0])), (a6, .inr (10, [.ref b1, .ref b2, .ref b3, .int 0])), (b1, .inl (cyA, 400, .inl (nI))), (b2, .inl (cyJ, 512, .inl (fun _ => 0))), (b3, .inl (cyT, 400, .inl (fun _ => 0))), (a7, .inr (4, [.ref d1, .ref d2, .ref d3, .ref d4, .int 0, .int 12])), (d4, .inl (cyO, 20, .inr (.inr (.inr (.inr (fS)))))), (r0, .inl (cyI, 20, .inl (fun _ => 0))), (y0, .inr (18, [.int 0, .ref l1, .ref l2, .ref l3, .ref l4, .ref l5, .ref l6, .int 0, .int 3, .int 12, .ref m1, .ref m2, .ref m3, .ref m4, .ref m5, .ref m6])), (l1, .inr (3, [.int 0, .ref z, .int 0])), (l2, .inr (3, [.int 0, .ref z, .int 0])), (l3, .inr (3, [.int 0, .ref z, .int 0])), (l4, .inr (3, [.int 0, .ref z, .int 0])), (l5, .inr (3, [.int 0, .ref z, .int 0])), (l6, .inr (3, [.int 0, .ref z, .int 0])), (o1, .inl (cyL, 1, .inr (.inl (fun _ => 0)))), (o2, .inl (cyD, 1, .inr (.inr (.inr (.inl (fun _ => 0))))))]) H) (hD : va_D A ([(x0, .inr (12, [.ref a1, .ref a2, .ref a3, .ref a4, .ref a5, .ref a6, .ref a7, .ref a8, .int 3, .int 0])), (a1, .inr (3, [.int 0, .ref z, .int 0])), (a2, .inr (3, [.int 0, .ref z, .int 0])), (a3, .inr (3, [.int 0, .ref z, .int 0])), (a4, .inr (3, [.int 0, .ref z, .int 0])), (a5, .inr (3, [.int 0, .ref z, .int 0])), (a6, .inr (10, [.ref b1, .ref b2, .ref b3, .int 0])), (b1, .inl (cyA, 400, .inl (nI))), (b2, .inl (cyJ, 512, .inl (fun _ => 0))), (b3, .inl (cyT, 400, .inl (fun _ => 0))), (a7, .inr (4, [.ref d1, .ref d2, .ref d3, .ref d4, .int 0, .int 12])), (d4, .inl (cyO, 20, .inr (.inr (.inr (.inr (fS)))))), (r0, .inl (cyI, 20, .inl (fun _ => 0))), (y0, .inr (18, [.int 0, .ref l1, .ref l2, .ref l3, .ref l4, .ref l5, .ref l6, .int 0, .int 3, .int 12, .ref m1, .ref m2, .ref m3, .ref m4, .ref m5, .ref m6])), (l1, .inr (3, [.int 0, .ref z, .int 0])), (l2, .inr (3, [.int 0, .ref z, .int 0])), (l3, .inr (3, [.int 0, .ref z, .int 0])), (l4, .inr (3, [.int 0, .ref z, .int 0])), (l5, .inr (3, [.int 0, .ref z, .int 0])), (l6, .inr (3, [.int 0, .ref z, .int 0])), (o1, .inl (cyL, 1, .inr (.inl (fun _ => 0)))), (o2, .inl (cyD, 1, .inr (.inr (.inr (.inl (fun _ => 0))))))])) (hK : va_K G vwCl [(cyA, .int), (cyJ, .int), (cyT, .int), (cyO, .array .int), (cyI, .int), (cyL, .long), (cyD, .double)] s) (hS : va_S A s.heap H locs) {ls : Array Slot} (hl : lv_has ls 9 [(0, .ref b), (1, .ref x0), (2, .ref y0), (3, .ref o1), (4, .ref o2), (5, .int 0)]) : W p l e room_1 s m #[Value.ref b] below meth c H locs 135 2991 (lw_Z below #[Value.ref b] s) (F0 m 2399 ls []) := by
  have C9 := C0
  obtain ⟨hx, hb, hr, hml, hown, hts0, hX, hbl, hlocks, hgv⟩ := id C0
  have hg := lw_sub_good hts0
  have hts : ∀ w ∈ (lw_hd :: lw_good), w.before #[Value.ref b] s = true := fun w h => (List.mem_cons.mp h).elim (fun e9 => e9 ▸ hg _ q0) (hg w)
  have hbA : ¬ A b := fun h => Nat.not_le.mpr hbl (hA2 b h)
  refine lv_aload_n hx hb dL_law_2399 rfl (lv_at hl 1 rfl) ?_
  refine lv_aload_n hx hb dL_law_2400 rfl (lv_at hl 3 rfl) ?_
  have hPc := hP.sub (ws' := [(x0, .inr (12, [.ref a1, .ref a2, .ref a3, .ref a4, .ref a5, .ref a6, .ref a7, .ref a8, .int 3, .int 0])), (a6, .inr (10, [.ref b1, .ref b2, .ref b3, .int 0])), (o1, .inl (cyL, 1, .inr (.inl (fun _ => 0))))]) [0, 6, 20] rfl
  have hKc := hK.sub (tys' := [(cyL, .long)]) [5] rfl
  have hDc := hD.sub (ws' := [(x0, .inr (12, [.ref a1, .ref a2, .ref a3, .ref a4, .ref a5, .ref a6, .ref a7, .ref a8, .int 3, .int 0])), (a6, .inr (10, [.ref b1, .ref b2, .ref b3, .int 0])), (o1, .inl (cyL, 1, .inr (.inl (fun _ => 0))))]) [0, 6, 20] (by decide) rfl
  have hFc := va_free (wc := [(x0, .inr (12, [.ref a1, .ref a2, .ref a3, .ref a4, .ref a5, .ref a6, .ref a7, .ref a8, .int 3, .int 0])), (a6, .inr (10, [.ref b1, .ref b2, .ref b3, .int 0])), (o1, .inl (cyL, 1, .inr (.inl (fun _ => 0))))]) hD hS hA [0, 6, 20] rfl
  refine va_calli (vx_runSW (As := [.ref x0, .ref o1]) (rest := []) ⟨hx, hb, hml, hown, hts⟩ (k_L_unmerge l hfl G z x0 a1 a2 a3 a4 a5 a6 a7 a8 3 0 b1 b2 b3 o1 cyL (fun _ => 0) H.size ) (vx_cwSW 2 hts (lw_goodApp (lw_3 q1041 q1042 q0) q1043) rfl rfl rfl (by decide +kernel) ⟨Nat.le_of_ble_eq_true rfl, Nat.le_of_ble_eq_true rfl⟩) ⟨PW.blind, PW.of hPc hKc hDc hG hS hFc [.ref x0, .ref o1]⟩ rfl rfl hl.1 rfl (lv_room (Nat.le_of_ble_eq_true rfl)) dL_law_2401 ⟨Nat.le_of_ble_eq_true rfl, Nat.le_of_ble_eq_true rfl⟩) hS (fun q _ h => hFc q h) hFc (fun r_2 u t_4 H_1 locs ht hvm hw_3 hB hz1 hk1 hS => ?_)
  obtain ⟨hP, hD, hK⟩ := QW.join (wr := [(a1, .inr (3, [.int 0, .ref z, .int 0])), (a2, .inr (3, [.int 0, .ref z, .int 0])), (a3, .inr (3, [.int 0, .ref z, .int 0])), (a4, .inr (3, [.int 0, .ref z, .int 0])), (a5, .inr (3, [.int 0, .ref z, .int 0])), (b1, .inl (cyA, 400, .inl (nI))), (b2, .inl (cyJ, 512, .inl (fun _ => 0))), (b3, .inl (cyT, 400, .inl (fun _ => 0))), (a7, .inr (4, [.ref d1, .ref d2, .ref d3, .ref d4, .int 0, .int 12])), (d4, .inl (cyO, 20, .inr (.inr (.inr (.inr (fS)))))), (r0, .inl (cyI, 20, .inl (fun _ => 0))), (y0, .inr (18, [.int 0, .ref l1, .ref l2, .ref l3, .ref l4, .ref l5, .ref l6, .int 0, .int 3, .int 12, .ref m1, .ref m2, .ref m3, .ref m4, .ref m5, .ref m6])), (l1, .inr (3, [.int 0, .ref z, .int 0])), (l2, .inr (3, [.int 0, .ref z, .int 0])), (l3, .inr (3, [.int 0, .ref z, .int 0])), (l4, .inr (3, [.int 0, .ref z, .int 0])), (l5, .inr (3, [.int 0, .ref z, .int 0])), (l6, .inr (3, [.int 0, .ref z, .int 0])), (o2, .inl (cyD, 1, .inr (.inr (.inr (.inl (fun _ => 0))))))]) (w1 := [(o1, .inl (cyL, 1, .inr (.inl ((fun _ => 0)))))]) hP hD hK [0, 6, 20] [1, 2, 3, 4, 5, 7, 8, 9, 10, 11, 12, 13, 14, 15, 16, 17, 18, 19, 21] rfl rfl (by decide) (by decide) hk1 hFc ht hvm hB
  have hP : va_P G vwCl ([(a1, .inr (3, [.int 0, .ref z, .int 0])), (a2, .inr (3, [.int 0, .ref z, .int 0])), (a3, .inr (3, [.int 0, .ref z, .int 0])), (a4, .inr (3, [.int 0, .ref z, .int 0])), (a5, .inr (3, [.int 0, .ref z, .int 0])), (b1, .inl (cyA, 400, .inl (nI))), (b2, .inl (cyJ, 512, .inl (fun _ => 0))), (b3, .inl (cyT, 400, .inl (fun _ => 0))), (a7, .inr (4, [.ref d1, .ref d2, .ref d3, .ref d4, .int 0, .int 12])), (d4, .inl (cyO, 20, .inr (.inr (.inr (.inr (fS)))))), (r0, .inl (cyI, 20, .inl (fun _ => 0))), (y0, .inr (18, [.int 0, .ref l1, .ref l2, .ref l3, .ref l4, .ref l5, .ref l6, .int 0, .int 3, .int 12, .ref m1, .ref m2, .ref m3, .ref m4, .ref m5, .ref m6])), (l1, .inr (3, [.int 0, .ref z, .int 0])), (l2, .inr (3, [.int 0, .ref z, .int 0])), (l3, .inr (3, [.int 0, .ref z, .int 0])), (l4, .inr (3, [.int 0, .ref z, .int 0])), (l5, .inr (3, [.int 0, .ref z, .int 0])), (l6, .inr (3, [.int 0, .ref z, .int 0])), (o2, .inl (cyD, 1, .inr (.inr (.inr (.inl (fun _ => 0)))))), (o1, .inl (cyL, 1, .inr (.inl ((fun _ => 0)))))]) H_1 := hP
  have hD : va_D A ([(a1, .inr (3, [.int 0, .ref z, .int 0])), (a2, .inr (3, [.int 0, .ref z, .int 0])), (a3, .inr (3, [.int 0, .ref z, .int 0])), (a4, .inr (3, [.int 0, .ref z, .int 0])), (a5, .inr (3, [.int 0, .ref z, .int 0])), (b1, .inl (cyA, 400, .inl (nI))), (b2, .inl (cyJ, 512, .inl (fun _ => 0))), (b3, .inl (cyT, 400, .inl (fun _ => 0))), (a7, .inr (4, [.ref d1, .ref d2, .ref d3, .ref d4, .int 0, .int 12])), (d4, .inl (cyO, 20, .inr (.inr (.inr (.inr (fS)))))), (r0, .inl (cyI, 20, .inl (fun _ => 0))), (y0, .inr (18, [.int 0, .ref l1, .ref l2, .ref l3, .ref l4, .ref l5, .ref l6, .int 0, .int 3, .int 12, .ref m1, .ref m2, .ref m3, .ref m4, .ref m5, .ref m6])), (l1, .inr (3, [.int 0, .ref z, .int 0])), (l2, .inr (3, [.int 0, .ref z, .int 0])), (l3, .inr (3, [.int 0, .ref z, .int 0])), (l4, .inr (3, [.int 0, .ref z, .int 0])), (l5, .inr (3, [.int 0, .ref z, .int 0])), (l6, .inr (3, [.int 0, .ref z, .int 0])), (o2, .inl (cyD, 1, .inr (.inr (.inr (.inl (fun _ => 0)))))), (o1, .inl (cyL, 1, .inr (.inl ((fun _ => 0)))))]) := hD
  have hK : va_K G vwCl [(cyA, .int), (cyJ, .int), (cyT, .int), (cyO, .array .int), (cyI, .int), (cyL, .long), (cyD, .double), (cyL, .long)] s := hK
  refine W.widen (k := 136) (n := 2997) (Nat.le_of_ble_eq_true rfl) (Nat.le_of_ble_eq_true rfl) ?_
  obtain rfl : 1 = r_2 := hw_3.symm
  refine lv_istore (lv' := [(6, .int 1), (0, .ref b), (1, .ref x0), (2, .ref y0), (3, .ref o1), (4, .ref o2), (5, .int 0)]) hx hb dL_law_2404 hl (by decide) rfl (fun ls hl => ?_)
  refine lv_aload_n hx hb dL_law_2406 rfl (lv_at hl 3 rfl) ?_
  have hPc := hP.sub (ws' := [(y0, .inr (18, [.int 0, .ref l1, .ref l2, .ref l3, .ref l4, .ref l5, .ref l6, .int 0, .int 3, .int 12, .ref m1, .ref m2, .ref m3, .ref m4, .ref m5, .ref m6])), (l6, .inr (3, [.int 0, .ref z, .int 0]))]) [11, 17] rfl
  have hKc := hK.sub (tys' := []) [] rfl
  have hDc := hD.sub (ws' := [(y0, .inr (18, [.int 0, .ref l1, .ref l2, .ref l3, .ref l4, .ref l5, .ref l6, .int 0, .int 3, .int 12, .ref m1, .ref m2, .ref m3, .ref m4, .ref m5, .ref m6])), (l6, .inr (3, [.int 0, .ref z, .int 0]))]) [11, 17] (by decide) rfl
  have hFc := va_free (wc := [(y0, .inr (18, [.int 0, .ref l1, .ref l2, .ref l3, .ref l4, .ref l5, .ref l6, .int 0, .int 3, .int 12, .ref m1, .ref m2, .ref m3, .ref m4, .ref m5, .ref m6])), (l6, .inr (3, [.int 0, .ref z, .int 0]))]) hD hS hA [11, 17] rfl
  refine va_calli (va_runV (As := []) (rest := []) ⟨hx, hb, hml, hown, hts⟩ (k_X14_unmerge l G z y0 0 l1 l2 l3 l4 l5 l6 3 12 m1 m2 m3 m4 m5 m6 0 z H_1.size ) (cwV 0 hts (lw_goodApp (lw_4 q1653 q1654 q1655 q7) q1656) rfl rfl rfl (by decide +kernel) ⟨Nat.le_of_ble_eq_true rfl, Nat.le_of_ble_eq_true rfl⟩) ⟨PW.blind, va_recv hK hP (ci := 18) (q0 := 11) rfl rfl, PW.of hPc hKc hDc hG hS hFc [.ref y0]⟩ rfl rfl hl.1 rfl (lv_room (Nat.le_of_ble_eq_true rfl)) dL_law_2407 ⟨Nat.le_of_ble_eq_true rfl, Nat.le_of_ble_eq_true rfl⟩) hS (fun q _ h => hFc q h) hFc (fun r_6 u t_8 H_5 locs ht hvm hw_7 hB hz1 hk1 hS => ?_)
  obtain ⟨hP, hD, hK⟩ := QW.join (wr := [(a1, .inr (3, [.int 0, .ref z, .int 0])), (a2, .inr (3, [.int 0, .ref z, .int 0])), (a3, .inr (3, [.int 0, .ref z, .int 0])), (a4, .inr (3, [.int 0, .ref z, .int 0])), (a5, .inr (3, [.int 0, .ref z, .int 0])), (b1, .inl (cyA, 400, .inl (nI))), (b2, .inl (cyJ, 512, .inl (fun _ => 0))), (b3, .inl (cyT, 400, .inl (fun _ => 0))), (a7, .inr (4, [.ref d1, .ref d2, .ref d3, .ref d4, .int 0, .int 12])), (d4, .inl (cyO, 20, .inr (.inr (.inr (.inr (fS)))))), (r0, .inl (cyI, 20, .inl (fun _ => 0))), (l1, .inr (3, [.int 0, .ref z, .int 0])), (l2, .inr (3, [.int 0, .ref z, .int 0])), (l3, .inr (3, [.int 0, .ref z, .int 0])), (l4, .inr (3, [.int 0, .ref z, .int 0])), (l5, .inr (3, [.int 0, .ref z, .int 0])), (o2, .inl (cyD, 1, .inr (.inr (.inr (.inl (fun _ => 0)))))), (o1, .inl (cyL, 1, .inr (.inl ((fun _ => 0)))))]) (w1 := [(y0, .inr (18, [.int 1, .ref l1, .ref l2, .ref l3, .ref l4, .ref l5, .ref l6, .int 0, .int 3, .int 12, .ref m1, .ref m2, .ref m3, .ref m4, .ref m5, .ref m6]))]) hP hD hK [11, 17] [0, 1, 2, 3, 4, 5, 6, 7, 8, 9, 10, 12, 13, 14, 15, 16, 18, 19] rfl rfl (by decide) (by decide) hk1 hFc ht hvm hB
  have hP : va_P G vwCl ([(a1, .inr (3, [.int 0, .ref z, .int 0])), (a2, .inr (3, [.int 0, .ref z, .int 0])), (a3, .inr (3, [.int 0, .ref z, .int 0])), (a4, .inr (3, [.int 0, .ref z, .int 0])), (a5, .inr (3, [.int 0, .ref z, .int 0])), (b1, .inl (cyA, 400, .inl (nI))), (b2, .inl (cyJ, 512, .inl (fun _ => 0))), (b3, .inl (cyT, 400, .inl (fun _ => 0))), (a7, .inr (4, [.ref d1, .ref d2, .ref d3, .ref d4, .int 0, .int 12])), (d4, .inl (cyO, 20, .inr (.inr (.inr (.inr (fS)))))), (r0, .inl (cyI, 20, .inl (fun _ => 0))), (l1, .inr (3, [.int 0, .ref z, .int 0])), (l2, .inr (3, [.int 0, .ref z, .int 0])), (l3, .inr (3, [.int 0, .ref z, .int 0])), (l4, .inr (3, [.int 0, .ref z, .int 0])), (l5, .inr (3, [.int 0, .ref z, .int 0])), (o2, .inl (cyD, 1, .inr (.inr (.inr (.inl (fun _ => 0)))))), (o1, .inl (cyL, 1, .inr (.inl ((fun _ => 0))))), (y0, .inr (18, [.int 1, .ref l1, .ref l2, .ref l3, .ref l4, .ref l5, .ref l6, .int 0, .int 3, .int 12, .ref m1, .ref m2, .ref m3, .ref m4, .ref m5, .ref m6]))]) H_5 := hP
  have hD : va_D A ([(a1, .inr (3, [.int 0, .ref z, .int 0])), (a2, .inr (3, [.int 0, .ref z, .int 0])), (a3, .inr (3, [.int 0, .ref z, .int 0])), (a4, .inr (3, [.int 0, .ref z, .int 0])), (a5, .inr (3, [.int 0, .ref z, .int 0])), (b1, .inl (cyA, 400, .inl (nI))), (b2, .inl (cyJ, 512, .inl (fun _ => 0))), (b3, .inl (cyT, 400, .inl (fun _ => 0))), (a7, .inr (4, [.ref d1, .ref d2, .ref d3, .ref d4, .int 0, .int 12])), (d4, .inl (cyO, 20, .inr (.inr (.inr (.inr (fS)))))), (r0, .inl (cyI, 20, .inl (fun _ => 0))), (l1, .inr (3, [.int 0, .ref z, .int 0])), (l2, .inr (3, [.int 0, .ref z, .int 0])), (l3, .inr (3, [.int 0, .ref z, .int 0])), (l4, .inr (3, [.int 0, .ref z, .int 0])), (l5, .inr (3, [.int 0, .ref z, .int 0])), (o2, .inl (cyD, 1, .inr (.inr (.inr (.inl (fun _ => 0)))))), (o1, .inl (cyL, 1, .inr (.inl ((fun _ => 0))))), (y0, .inr (18, [.int 1, .ref l1, .ref l2, .ref l3, .ref l4, .ref l5, .ref l6, .int 0, .int 3, .int 12, .ref m1, .ref m2, .ref m3, .ref m4, .ref m5, .ref m6]))]) := hD
  have hK : va_K G vwCl [(cyA, .int), (cyJ, .int), (cyT, .int), (cyO, .array .int), (cyI, .int), (cyL, .long), (cyD, .double), (cyL, .long)] s := hK
  refine W.widen (k := 136) (n := 2997) (Nat.le_of_ble_eq_true rfl) (Nat.le_of_ble_eq_true rfl) ?_
  refine lv_istore (lv' := [(7, .int r_6), (6, .int 1), (0, .ref b), (1, .ref x0), (2, .ref y0), (3, .ref o1), (4, .ref o2), (5, .int 0)]) hx hb dL_law_2410 hl (by decide) rfl (fun ls hl => ?_)
  refine lv_aload_n hx hb dL_law_2412 rfl (lv_at hl 4 rfl) ?_
  have hPc := hP.sub (ws' := [(y0, .inr (18, [.int 1, .ref l1, .ref l2, .ref l3, .ref l4, .ref l5, .ref l6, .int 0, .int 3, .int 12, .ref m1, .ref m2, .ref m3, .ref m4, .ref m5, .ref m6]))]) [18] rfl
  have hKc := hK.sub (tys' := []) [] rfl
  refine va_calli (va_runV (As := []) (rest := []) ⟨hx, hb, hml, hown, hts⟩ (k_X14_thrown l G z y0 1 l1 l2 l3 l4 l5 l6 3 12 m1 m2 m3 m4 m5 m6 H_5.size ) (cwV 0 hts (lw_goodApp (lw_4 q1236 q1237 q1238 q7) q1239) rfl rfl rfl (by decide +kernel) ⟨Nat.le_of_ble_eq_true rfl, Nat.le_of_ble_eq_true rfl⟩) ⟨PR.blind, va_recv hK hP (ci := 18) (q0 := 18) rfl rfl, PR.of hPc hKc hG hS hA [.ref y0]⟩ rfl rfl hl.1 rfl (lv_room (Nat.le_of_ble_eq_true rfl)) dL_law_2413 ⟨Nat.le_of_ble_eq_true rfl, Nat.le_of_ble_eq_true rfl⟩) hS (fun q h9 h => zN.not h9 h) (fun q h => hA q (Nat.le_trans hS.1 h)) (fun r_10 u t_12 H_9 locs ht hvm hw_11 hB hz1 hk1 hS => ?_)
  have hP := hP.grown hk1
  refine W.widen (k := 136) (n := 2997) (Nat.le_of_ble_eq_true rfl) (Nat.le_of_ble_eq_true rfl) ?_
  obtain rfl : 1 = r_10 := hw_11.symm
  refine lv_iload hx hb dL_law_2416 (lv_at hl 1 rfl) ?_
  refine lv_icmp_eq (tgt := 2423) hx hb dL_law_2418 (by decide) (fun c_13 => ?_) (fun c_13 => absurd rfl c_13)
  refine lv_iload hx hb dL_law_2423 (lv_at hl 1 rfl) ?_
  refine lv_if_ne (tgt := 2440) hx hb dL_law_2425 (by decide) (fun c_14 => ?_) (fun c_14 => absurd c_14 (by decide))
  refine lv_goto (tgt := 3288) hx hb dL_law_2440 (by decide) ?_
  exact law_tail hfl C0 hA hA2 hS (lv_sub hl [2, 7] rfl) (Nat.le_of_ble_eq_true rfl) (Nat.le_of_ble_eq_true rfl)