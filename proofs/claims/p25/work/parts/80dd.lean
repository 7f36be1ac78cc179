/-! the law: its instructions, part d. Packed by wip/gen25/p25names.py -/
theorem dL_law_1552 : decode cL_law 1552 = .ok (.aload_n 2, 1) := by decide +kernel
theorem dL_law_1553 : decode cL_law 1553 = .ok (.iconst 3, 1) := by decide +kernel
theorem dL_law_1554 : decode cL_law 1554 = .ok (.iaload, 1) := by decide +kernel
theorem dL_law_1555 : decode cL_law 1555 = .ok (.istore 12, 2) := by decide +kernel
theorem dL_law_1557 : decode cL_law 1557 = .ok (.aload_n 1, 1) := by decide +kernel
theorem dL_law_1558 : decode cL_law 1558 = .ok (.aload_n 2, 1) := by decide +kernel
theorem dL_law_1559 : decode cL_law 1559 = .ok (.iload 9, 2) := by decide +kernel
theorem dL_law_1561 : decode cL_law 1561 = .ok (.sipush 10000, 3) := by decide +kernel
theorem dL_law_1564 : decode cL_law 1564 = .ok (.idiv, 1) := by decide +kernel
theorem dL_law_1565 : decode cL_law 1565 = .ok (.bipush 100, 2) := by decide +kernel
theorem dL_law_1567 : decode cL_law 1567 = .ok (.irem, 1) := by decide +kernel
theorem dL_law_1568 : decode cL_law 1568 = .ok (.iload 9, 2) := by decide +kernel
theorem dL_law_1570 : decode cL_law 1570 = .ok (.sipush 10000, 3) := by decide +kernel
theorem dL_law_1573 : decode cL_law 1573 = .ok (.irem, 1) := by decide +kernel
theorem dL_law_1574 : decode cL_law 1574 = .ok (.iload 9, 2) := by decide +kernel
theorem dL_law_1576 : decode cL_law 1576 = .ok (.ldc 138, 2) := by decide +kernel
theorem dL_law_1578 : decode cL_law 1578 = .ok (.idiv, 1) := by decide +kernel
theorem dL_law_1579 : decode cL_law 1579 = .ok (.invokestatic 134, 3) := by decide +kernel
theorem dL_law_1582 : decode cL_law 1582 = .ok (.istore 10, 2) := by decide +kernel
theorem dL_law_1584 : decode cL_law 1584 = .ok (.aload_n 2, 1) := by decide +kernel
theorem dL_law_1585 : decode cL_law 1585 = .ok (.iconst 2, 1) := by decide +kernel
theorem dL_law_1586 : decode cL_law 1586 = .ok (.iload 8, 2) := by decide +kernel
theorem dL_law_1588 : decode cL_law 1588 = .ok (.sipush 10000, 3) := by decide +kernel
theorem dL_law_1591 : decode cL_law 1591 = .ok (.idiv, 1) := by decide +kernel
theorem dL_law_1592 : decode cL_law 1592 = .ok (.iastore, 1) := by decide +kernel
theorem dL_law_1593 : decode cL_law 1593 = .ok (.aload_n 2, 1) := by decide +kernel
theorem dL_law_1594 : decode cL_law 1594 = .ok (.iconst 3, 1) := by decide +kernel
theorem dL_law_1595 : decode cL_law 1595 = .ok (.iload 8, 2) := by decide +kernel
theorem dL_law_1597 : decode cL_law 1597 = .ok (.bipush 100, 2) := by decide +kernel
theorem dL_law_1599 : decode cL_law 1599 = .ok (.idiv, 1) := by decide +kernel
theorem dL_law_1600 : decode cL_law 1600 = .ok (.bipush 100, 2) := by decide +kernel
theorem dL_law_1602 : decode cL_law 1602 = .ok (.irem, 1) := by decide +kernel
theorem dL_law_1603 : decode cL_law 1603 = .ok (.iastore, 1) := by decide +kernel
theorem dL_law_1604 : decode cL_law 1604 = .ok (.iload 10, 2) := by decide +kernel
theorem dL_law_1606 : decode cL_law 1606 = .ok (.ifCond .eq 18, 3) := by decide +kernel
theorem dL_law_1609 : decode cL_law 1609 = .ok (.aload_n 1, 1) := by decide +kernel
theorem dL_law_1610 : decode cL_law 1610 = .ok (.aload_n 2, 1) := by decide +kernel
theorem dL_law_1611 : decode cL_law 1611 = .ok (.invokestatic 105, 3) := by decide +kernel
theorem dL_law_1614 : decode cL_law 1614 = .ok (.lload 6, 2) := by decide +kernel
theorem dL_law_1616 : decode cL_law 1616 = .ok (.lcmp, 1) := by decide +kernel
theorem dL_law_1617 : decode cL_law 1617 = .ok (.ifCond .ne 7, 3) := by decide +kernel
theorem dL_law_1620 : decode cL_law 1620 = .ok (.iconst 1, 1) := by decide +kernel
theorem dL_law_1621 : decode cL_law 1621 = .ok (.goto 4, 3) := by decide +kernel
theorem dL_law_1624 : decode cL_law 1624 = .ok (.iconst 0, 1) := by decide +kernel
theorem dL_law_1625 : decode cL_law 1625 = .ok (.istore 10, 2) := by decide +kernel
theorem dL_law_1627 : decode cL_law 1627 = .ok (.aload_n 2, 1) := by decide +kernel
theorem dL_law_1628 : decode cL_law 1628 = .ok (.iconst 2, 1) := by decide +kernel
theorem dL_law_1629 : decode cL_law 1629 = .ok (.iload 11, 2) := by decide +kernel
theorem dL_law_1631 : decode cL_law 1631 = .ok (.iastore, 1) := by decide +kernel
theorem dL_law_1632 : decode cL_law 1632 = .ok (.aload_n 2, 1) := by decide +kernel
theorem dL_law_1633 : decode cL_law 1633 = .ok (.iconst 3, 1) := by decide +kernel
theorem dL_law_1634 : decode cL_law 1634 = .ok (.iload 12, 2) := by decide +kernel
theorem dL_law_1636 : decode cL_law 1636 = .ok (.iastore, 1) := by decide +kernel
theorem dL_law_1637 : decode cL_law 1637 = .ok (.iload 10, 2) := by decide +kernel
theorem dL_law_1639 : decode cL_law 1639 = .ok (.ifCond .eq 22, 3) := by decide +kernel
theorem dL_law_1642 : decode cL_law 1642 = .ok (.aload_n 1, 1) := by decide +kernel
theorem dL_law_1643 : decode cL_law 1643 = .ok (.aload_n 2, 1) := by decide +kernel
theorem dL_law_1644 : decode cL_law 1644 = .ok (.aload_n 3, 1) := by decide +kernel
theorem dL_law_1645 : decode cL_law 1645 = .ok (.aload 4, 2) := by decide +kernel
theorem dL_law_1647 : decode cL_law 1647 = .ok (.aload 5, 2) := by decide +kernel
theorem dL_law_1649 : decode cL_law 1649 = .ok (.bipush 7, 2) := by decide +kernel
theorem dL_law_1651 : decode cL_law 1651 = .ok (.invokestatic 139, 3) := by decide +kernel
theorem dL_law_1654 : decode cL_law 1654 = .ok (.ifCond .eq 7, 3) := by decide +kernel
theorem dL_law_1657 : decode cL_law 1657 = .ok (.iconst 1, 1) := by decide +kernel
theorem dL_law_1658 : decode cL_law 1658 = .ok (.goto 4, 3) := by decide +kernel
theorem dL_law_1661 : decode cL_law 1661 = .ok (.iconst 0, 1) := by decide +kernel
theorem dL_law_1662 : decode cL_law 1662 = .ok (.ireturn, 1) := by decide +kernel
