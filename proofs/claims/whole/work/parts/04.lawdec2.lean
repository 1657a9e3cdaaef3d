theorem dL_law__1470 : decode cL_law_ 1470 = .ok (.invokestatic 199, 3) := by decide +kernel
theorem dL_law__1473 : decode cL_law_ 1473 = .ok (.istore 5, 2) := by decide +kernel
theorem dL_law__1475 : decode cL_law_ 1475 = .ok (.aload_n 2, 1) := by decide +kernel
theorem dL_law__1476 : decode cL_law_ 1476 = .ok (.aload_n 0, 1) := by decide +kernel
theorem dL_law__1477 : decode cL_law_ 1477 = .ok (.iload 4, 2) := by decide +kernel
theorem dL_law__1479 : decode cL_law_ 1479 = .ok (.iconst 1, 1) := by decide +kernel
theorem dL_law__1480 : decode cL_law_ 1480 = .ok (.iadd, 1) := by decide +kernel
theorem dL_law__1481 : decode cL_law_ 1481 = .ok (.iaload, 1) := by decide +kernel
theorem dL_law__1482 : decode cL_law_ 1482 = .ok (.aload_n 0, 1) := by decide +kernel
theorem dL_law__1483 : decode cL_law_ 1483 = .ok (.iload 4, 2) := by decide +kernel
theorem dL_law__1485 : decode cL_law_ 1485 = .ok (.iconst 2, 1) := by decide +kernel
theorem dL_law__1486 : decode cL_law_ 1486 = .ok (.iadd, 1) := by decide +kernel
theorem dL_law__1487 : decode cL_law_ 1487 = .ok (.iaload, 1) := by decide +kernel
theorem dL_law__1488 : decode cL_law_ 1488 = .ok (.aload_n 0, 1) := by decide +kernel
theorem dL_law__1489 : decode cL_law_ 1489 = .ok (.iload 4, 2) := by decide +kernel
theorem dL_law__1491 : decode cL_law_ 1491 = .ok (.iconst 3, 1) := by decide +kernel
theorem dL_law__1492 : decode cL_law_ 1492 = .ok (.iadd, 1) := by decide +kernel
theorem dL_law__1493 : decode cL_law_ 1493 = .ok (.iaload, 1) := by decide +kernel
theorem dL_law__1494 : decode cL_law_ 1494 = .ok (.invokevirtual 201, 3) := by decide +kernel
theorem dL_law__1497 : decode cL_law_ 1497 = .ok (.istore 6, 2) := by decide +kernel
theorem dL_law__1499 : decode cL_law_ 1499 = .ok (.aload_n 2, 1) := by decide +kernel
theorem dL_law__1500 : decode cL_law_ 1500 = .ok (.invokevirtual 131, 3) := by decide +kernel
theorem dL_law__1503 : decode cL_law_ 1503 = .ok (.iload 5, 2) := by decide +kernel
theorem dL_law__1505 : decode cL_law_ 1505 = .ok (.if_icmp .eq 5, 3) := by decide +kernel
theorem dL_law__1508 : decode cL_law_ 1508 = .ok (.iconst 0, 1) := by decide +kernel
theorem dL_law__1509 : decode cL_law_ 1509 = .ok (.ireturn, 1) := by decide +kernel
theorem dL_law__1510 : decode cL_law_ 1510 = .ok (.iload 5, 2) := by decide +kernel
theorem dL_law__1512 : decode cL_law_ 1512 = .ok (.ifCond .ne 15, 3) := by decide +kernel
theorem dL_law__1515 : decode cL_law_ 1515 = .ok (.aload_n 3, 1) := by decide +kernel
theorem dL_law__1516 : decode cL_law_ 1516 = .ok (.iconst 0, 1) := by decide +kernel
theorem dL_law__1517 : decode cL_law_ 1517 = .ok (.laload, 1) := by decide +kernel
theorem dL_law__1518 : decode cL_law_ 1518 = .ok (.iload 6, 2) := by decide +kernel
theorem dL_law__1520 : decode cL_law_ 1520 = .ok (.i2l, 1) := by decide +kernel
theorem dL_law__1521 : decode cL_law_ 1521 = .ok (.lcmp, 1) := by decide +kernel
theorem dL_law__1522 : decode cL_law_ 1522 = .ok (.ifCond .eq 5, 3) := by decide +kernel
theorem dL_law__1525 : decode cL_law_ 1525 = .ok (.iconst 0, 1) := by decide +kernel
theorem dL_law__1526 : decode cL_law_ 1526 = .ok (.ireturn, 1) := by decide +kernel
theorem dL_law__1527 : decode cL_law_ 1527 = .ok (.goto 1202, 3) := by decide +kernel
theorem dL_law__1530 : decode cL_law_ 1530 = .ok (.aload_n 1, 1) := by decide +kernel
theorem dL_law__1531 : decode cL_law_ 1531 = .ok (.aload_n 0, 1) := by decide +kernel
theorem dL_law__1532 : decode cL_law_ 1532 = .ok (.iload 4, 2) := by decide +kernel
theorem dL_law__1534 : decode cL_law_ 1534 = .ok (.iconst 1, 1) := by decide +kernel
theorem dL_law__1535 : decode cL_law_ 1535 = .ok (.iadd, 1) := by decide +kernel
theorem dL_law__1536 : decode cL_law_ 1536 = .ok (.iaload, 1) := by decide +kernel
theorem dL_law__1537 : decode cL_law_ 1537 = .ok (.aload_n 0, 1) := by decide +kernel
theorem dL_law__1538 : decode cL_law_ 1538 = .ok (.iload 4, 2) := by decide +kernel
theorem dL_law__1540 : decode cL_law_ 1540 = .ok (.iconst 2, 1) := by decide +kernel
theorem dL_law__1541 : decode cL_law_ 1541 = .ok (.iadd, 1) := by decide +kernel
theorem dL_law__1542 : decode cL_law_ 1542 = .ok (.iaload, 1) := by decide +kernel
theorem dL_law__1543 : decode cL_law_ 1543 = .ok (.aload_n 0, 1) := by decide +kernel
theorem dL_law__1544 : decode cL_law_ 1544 = .ok (.iload 4, 2) := by decide +kernel
theorem dL_law__1546 : decode cL_law_ 1546 = .ok (.iconst 3, 1) := by decide +kernel
theorem dL_law__1547 : decode cL_law_ 1547 = .ok (.iadd, 1) := by decide +kernel
theorem dL_law__1548 : decode cL_law_ 1548 = .ok (.iaload, 1) := by decide +kernel
theorem dL_law__1549 : decode cL_law_ 1549 = .ok (.aload_n 3, 1) := by decide +kernel
theorem dL_law__1550 : decode cL_law_ 1550 = .ok (.invokestatic 202, 3) := by decide +kernel
theorem dL_law__1553 : decode cL_law_ 1553 = .ok (.istore 5, 2) := by decide +kernel
theorem dL_law__1555 : decode cL_law_ 1555 = .ok (.aload_n 2, 1) := by decide +kernel
theorem dL_law__1556 : decode cL_law_ 1556 = .ok (.aload_n 0, 1) := by decide +kernel
theorem dL_law__1557 : decode cL_law_ 1557 = .ok (.iload 4, 2) := by decide +kernel
theorem dL_law__1559 : decode cL_law_ 1559 = .ok (.iconst 1, 1) := by decide +kernel
theorem dL_law__1560 : decode cL_law_ 1560 = .ok (.iadd, 1) := by decide +kernel
theorem dL_law__1561 : decode cL_law_ 1561 = .ok (.iaload, 1) := by decide +kernel
theorem dL_law__1562 : decode cL_law_ 1562 = .ok (.aload_n 0, 1) := by decide +kernel
theorem dL_law__1563 : decode cL_law_ 1563 = .ok (.iload 4, 2) := by decide +kernel
theorem dL_law__1565 : decode cL_law_ 1565 = .ok (.iconst 2, 1) := by decide +kernel
theorem dL_law__1566 : decode cL_law_ 1566 = .ok (.iadd, 1) := by decide +kernel
theorem dL_law__1567 : decode cL_law_ 1567 = .ok (.iaload, 1) := by decide +kernel
theorem dL_law__1568 : decode cL_law_ 1568 = .ok (.aload_n 0, 1) := by decide +kernel
theorem dL_law__1569 : decode cL_law_ 1569 = .ok (.iload 4, 2) := by decide +kernel
theorem dL_law__1571 : decode cL_law_ 1571 = .ok (.iconst 3, 1) := by decide +kernel
theorem dL_law__1572 : decode cL_law_ 1572 = .ok (.iadd, 1) := by decide +kernel
theorem dL_law__1573 : decode cL_law_ 1573 = .ok (.iaload, 1) := by decide +kernel
theorem dL_law__1574 : decode cL_law_ 1574 = .ok (.invokevirtual 204, 3) := by decide +kernel
theorem dL_law__1577 : decode cL_law_ 1577 = .ok (.lstore 6, 2) := by decide +kernel
theorem dL_law__1579 : decode cL_law_ 1579 = .ok (.aload_n 2, 1) := by decide +kernel
theorem dL_law__1580 : decode cL_law_ 1580 = .ok (.invokevirtual 131, 3) := by decide +kernel
theorem dL_law__1583 : decode cL_law_ 1583 = .ok (.iload 5, 2) := by decide +kernel
theorem dL_law__1585 : decode cL_law_ 1585 = .ok (.if_icmp .eq 5, 3) := by decide +kernel
theorem dL_law__1588 : decode cL_law_ 1588 = .ok (.iconst 0, 1) := by decide +kernel
theorem dL_law__1589 : decode cL_law_ 1589 = .ok (.ireturn, 1) := by decide +kernel
theorem dL_law__1590 : decode cL_law_ 1590 = .ok (.iload 5, 2) := by decide +kernel
theorem dL_law__1592 : decode cL_law_ 1592 = .ok (.ifCond .ne 14, 3) := by decide +kernel
theorem dL_law__1595 : decode cL_law_ 1595 = .ok (.aload_n 3, 1) := by decide +kernel
theorem dL_law__1596 : decode cL_law_ 1596 = .ok (.iconst 0, 1) := by decide +kernel
theorem dL_law__1597 : decode cL_law_ 1597 = .ok (.laload, 1) := by decide +kernel
theorem dL_law__1598 : decode cL_law_ 1598 = .ok (.lload 6, 2) := by decide +kernel
theorem dL_law__1600 : decode cL_law_ 1600 = .ok (.lcmp, 1) := by decide +kernel
theorem dL_law__1601 : decode cL_law_ 1601 = .ok (.ifCond .eq 5, 3) := by decide +kernel
theorem dL_law__1604 : decode cL_law_ 1604 = .ok (.iconst 0, 1) := by decide +kernel
theorem dL_law__1605 : decode cL_law_ 1605 = .ok (.ireturn, 1) := by decide +kernel
theorem dL_law__1606 : decode cL_law_ 1606 = .ok (.goto 1123, 3) := by decide +kernel
theorem dL_law__1609 : decode cL_law_ 1609 = .ok (.aload_n 1, 1) := by decide +kernel
theorem dL_law__1610 : decode cL_law_ 1610 = .ok (.aload_n 0, 1) := by decide +kernel
theorem dL_law__1611 : decode cL_law_ 1611 = .ok (.iload 4, 2) := by decide +kernel
theorem dL_law__1613 : decode cL_law_ 1613 = .ok (.iconst 1, 1) := by decide +kernel
theorem dL_law__1614 : decode cL_law_ 1614 = .ok (.iadd, 1) := by decide +kernel
theorem dL_law__1615 : decode cL_law_ 1615 = .ok (.iaload, 1) := by decide +kernel
theorem dL_law__1616 : decode cL_law_ 1616 = .ok (.aload_n 0, 1) := by decide +kernel
theorem dL_law__1617 : decode cL_law_ 1617 = .ok (.iload 4, 2) := by decide +kernel
theorem dL_law__1619 : decode cL_law_ 1619 = .ok (.iconst 2, 1) := by decide +kernel
theorem dL_law__1620 : decode cL_law_ 1620 = .ok (.iadd, 1) := by decide +kernel
theorem dL_law__1621 : decode cL_law_ 1621 = .ok (.iaload, 1) := by decide +kernel
theorem dL_law__1622 : decode cL_law_ 1622 = .ok (.aload_n 0, 1) := by decide +kernel
theorem dL_law__1623 : decode cL_law_ 1623 = .ok (.iload 4, 2) := by decide +kernel
theorem dL_law__1625 : decode cL_law_ 1625 = .ok (.iconst 3, 1) := by decide +kernel
theorem dL_law__1626 : decode cL_law_ 1626 = .ok (.iadd, 1) := by decide +kernel
theorem dL_law__1627 : decode cL_law_ 1627 = .ok (.iaload, 1) := by decide +kernel
theorem dL_law__1628 : decode cL_law_ 1628 = .ok (.aload_n 3, 1) := by decide +kernel
theorem dL_law__1629 : decode cL_law_ 1629 = .ok (.invokestatic 205, 3) := by decide +kernel
theorem dL_law__1632 : decode cL_law_ 1632 = .ok (.istore 5, 2) := by decide +kernel
theorem dL_law__1634 : decode cL_law_ 1634 = .ok (.aload_n 2, 1) := by decide +kernel
theorem dL_law__1635 : decode cL_law_ 1635 = .ok (.aload_n 0, 1) := by decide +kernel
theorem dL_law__1636 : decode cL_law_ 1636 = .ok (.iload 4, 2) := by decide +kernel
theorem dL_law__1638 : decode cL_law_ 1638 = .ok (.iconst 1, 1) := by decide +kernel
theorem dL_law__1639 : decode cL_law_ 1639 = .ok (.iadd, 1) := by decide +kernel
theorem dL_law__1640 : decode cL_law_ 1640 = .ok (.iaload, 1) := by decide +kernel
theorem dL_law__1641 : decode cL_law_ 1641 = .ok (.aload_n 0, 1) := by decide +kernel
theorem dL_law__1642 : decode cL_law_ 1642 = .ok (.iload 4, 2) := by decide +kernel
theorem dL_law__1644 : decode cL_law_ 1644 = .ok (.iconst 2, 1) := by decide +kernel
theorem dL_law__1645 : decode cL_law_ 1645 = .ok (.iadd, 1) := by decide +kernel
theorem dL_law__1646 : decode cL_law_ 1646 = .ok (.iaload, 1) := by decide +kernel
theorem dL_law__1647 : decode cL_law_ 1647 = .ok (.aload_n 0, 1) := by decide +kernel
theorem dL_law__1648 : decode cL_law_ 1648 = .ok (.iload 4, 2) := by decide +kernel
theorem dL_law__1650 : decode cL_law_ 1650 = .ok (.iconst 3, 1) := by decide +kernel
theorem dL_law__1651 : decode cL_law_ 1651 = .ok (.iadd, 1) := by decide +kernel
theorem dL_law__1652 : decode cL_law_ 1652 = .ok (.iaload, 1) := by decide +kernel
theorem dL_law__1653 : decode cL_law_ 1653 = .ok (.invokevirtual 207, 3) := by decide +kernel
theorem dL_law__1656 : decode cL_law_ 1656 = .ok (.istore 6, 2) := by decide +kernel
theorem dL_law__1658 : decode cL_law_ 1658 = .ok (.aload_n 2, 1) := by decide +kernel
theorem dL_law__1659 : decode cL_law_ 1659 = .ok (.invokevirtual 131, 3) := by decide +kernel
theorem dL_law__1662 : decode cL_law_ 1662 = .ok (.iload 5, 2) := by decide +kernel
theorem dL_law__1664 : decode cL_law_ 1664 = .ok (.if_icmp .eq 5, 3) := by decide +kernel
theorem dL_law__1667 : decode cL_law_ 1667 = .ok (.iconst 0, 1) := by decide +kernel
theorem dL_law__1668 : decode cL_law_ 1668 = .ok (.ireturn, 1) := by decide +kernel
theorem dL_law__1669 : decode cL_law_ 1669 = .ok (.iload 5, 2) := by decide +kernel
theorem dL_law__1671 : decode cL_law_ 1671 = .ok (.ifCond .ne 15, 3) := by decide +kernel
theorem dL_law__1674 : decode cL_law_ 1674 = .ok (.aload_n 3, 1) := by decide +kernel
theorem dL_law__1675 : decode cL_law_ 1675 = .ok (.iconst 0, 1) := by decide +kernel
theorem dL_law__1676 : decode cL_law_ 1676 = .ok (.laload, 1) := by decide +kernel
theorem dL_law__1677 : decode cL_law_ 1677 = .ok (.iload 6, 2) := by decide +kernel
theorem dL_law__1679 : decode cL_law_ 1679 = .ok (.i2l, 1) := by decide +kernel
theorem dL_law__1680 : decode cL_law_ 1680 = .ok (.lcmp, 1) := by decide +kernel
theorem dL_law__1681 : decode cL_law_ 1681 = .ok (.ifCond .eq 5, 3) := by decide +kernel
theorem dL_law__1684 : decode cL_law_ 1684 = .ok (.iconst 0, 1) := by decide +kernel
theorem dL_law__1685 : decode cL_law_ 1685 = .ok (.ireturn, 1) := by decide +kernel
theorem dL_law__1686 : decode cL_law_ 1686 = .ok (.goto 1043, 3) := by decide +kernel
theorem dL_law__1689 : decode cL_law_ 1689 = .ok (.aload_n 1, 1) := by decide +kernel
theorem dL_law__1690 : decode cL_law_ 1690 = .ok (.aload_n 0, 1) := by decide +kernel
theorem dL_law__1691 : decode cL_law_ 1691 = .ok (.iload 4, 2) := by decide +kernel
theorem dL_law__1693 : decode cL_law_ 1693 = .ok (.iconst 1, 1) := by decide +kernel
theorem dL_law__1694 : decode cL_law_ 1694 = .ok (.iadd, 1) := by decide +kernel
theorem dL_law__1695 : decode cL_law_ 1695 = .ok (.iaload, 1) := by decide +kernel
theorem dL_law__1696 : decode cL_law_ 1696 = .ok (.aload_n 0, 1) := by decide +kernel
theorem dL_law__1697 : decode cL_law_ 1697 = .ok (.iload 4, 2) := by decide +kernel
theorem dL_law__1699 : decode cL_law_ 1699 = .ok (.iconst 2, 1) := by decide +kernel
theorem dL_law__1700 : decode cL_law_ 1700 = .ok (.iadd, 1) := by decide +kernel
theorem dL_law__1701 : decode cL_law_ 1701 = .ok (.iaload, 1) := by decide +kernel
theorem dL_law__1702 : decode cL_law_ 1702 = .ok (.aload_n 0, 1) := by decide +kernel
theorem dL_law__1703 : decode cL_law_ 1703 = .ok (.iload 4, 2) := by decide +kernel
theorem dL_law__1705 : decode cL_law_ 1705 = .ok (.iconst 3, 1) := by decide +kernel
theorem dL_law__1706 : decode cL_law_ 1706 = .ok (.iadd, 1) := by decide +kernel
theorem dL_law__1707 : decode cL_law_ 1707 = .ok (.iaload, 1) := by decide +kernel
theorem dL_law__1708 : decode cL_law_ 1708 = .ok (.aload_n 3, 1) := by decide +kernel
theorem dL_law__1709 : decode cL_law_ 1709 = .ok (.invokestatic 208, 3) := by decide +kernel
theorem dL_law__1712 : decode cL_law_ 1712 = .ok (.istore 5, 2) := by decide +kernel
theorem dL_law__1714 : decode cL_law_ 1714 = .ok (.aload_n 2, 1) := by decide +kernel
theorem dL_law__1715 : decode cL_law_ 1715 = .ok (.aload_n 0, 1) := by decide +kernel
theorem dL_law__1716 : decode cL_law_ 1716 = .ok (.iload 4, 2) := by decide +kernel
theorem dL_law__1718 : decode cL_law_ 1718 = .ok (.iconst 1, 1) := by decide +kernel
theorem dL_law__1719 : decode cL_law_ 1719 = .ok (.iadd, 1) := by decide +kernel
theorem dL_law__1720 : decode cL_law_ 1720 = .ok (.iaload, 1) := by decide +kernel
theorem dL_law__1721 : decode cL_law_ 1721 = .ok (.aload_n 0, 1) := by decide +kernel
theorem dL_law__1722 : decode cL_law_ 1722 = .ok (.iload 4, 2) := by decide +kernel
theorem dL_law__1724 : decode cL_law_ 1724 = .ok (.iconst 2, 1) := by decide +kernel
theorem dL_law__1725 : decode cL_law_ 1725 = .ok (.iadd, 1) := by decide +kernel
theorem dL_law__1726 : decode cL_law_ 1726 = .ok (.iaload, 1) := by decide +kernel
theorem dL_law__1727 : decode cL_law_ 1727 = .ok (.aload_n 0, 1) := by decide +kernel
theorem dL_law__1728 : decode cL_law_ 1728 = .ok (.iload 4, 2) := by decide +kernel
theorem dL_law__1730 : decode cL_law_ 1730 = .ok (.iconst 3, 1) := by decide +kernel
theorem dL_law__1731 : decode cL_law_ 1731 = .ok (.iadd, 1) := by decide +kernel
theorem dL_law__1732 : decode cL_law_ 1732 = .ok (.iaload, 1) := by decide +kernel
theorem dL_law__1733 : decode cL_law_ 1733 = .ok (.invokevirtual 210, 3) := by decide +kernel
theorem dL_law__1736 : decode cL_law_ 1736 = .ok (.istore 6, 2) := by decide +kernel
theorem dL_law__1738 : decode cL_law_ 1738 = .ok (.aload_n 2, 1) := by decide +kernel
theorem dL_law__1739 : decode cL_law_ 1739 = .ok (.invokevirtual 131, 3) := by decide +kernel
theorem dL_law__1742 : decode cL_law_ 1742 = .ok (.iload 5, 2) := by decide +kernel
theorem dL_law__1744 : decode cL_law_ 1744 = .ok (.if_icmp .eq 5, 3) := by decide +kernel
theorem dL_law__1747 : decode cL_law_ 1747 = .ok (.iconst 0, 1) := by decide +kernel
theorem dL_law__1748 : decode cL_law_ 1748 = .ok (.ireturn, 1) := by decide +kernel
theorem dL_law__1749 : decode cL_law_ 1749 = .ok (.iload 5, 2) := by decide +kernel
theorem dL_law__1751 : decode cL_law_ 1751 = .ok (.ifCond .ne 15, 3) := by decide +kernel
theorem dL_law__1754 : decode cL_law_ 1754 = .ok (.aload_n 3, 1) := by decide +kernel
theorem dL_law__1755 : decode cL_law_ 1755 = .ok (.iconst 0, 1) := by decide +kernel
theorem dL_law__1756 : decode cL_law_ 1756 = .ok (.laload, 1) := by decide +kernel
theorem dL_law__1757 : decode cL_law_ 1757 = .ok (.iload 6, 2) := by decide +kernel
theorem dL_law__1759 : decode cL_law_ 1759 = .ok (.i2l, 1) := by decide +kernel
theorem dL_law__1760 : decode cL_law_ 1760 = .ok (.lcmp, 1) := by decide +kernel
theorem dL_law__1761 : decode cL_law_ 1761 = .ok (.ifCond .eq 5, 3) := by decide +kernel
theorem dL_law__1764 : decode cL_law_ 1764 = .ok (.iconst 0, 1) := by decide +kernel
theorem dL_law__1765 : decode cL_law_ 1765 = .ok (.ireturn, 1) := by decide +kernel
theorem dL_law__1766 : decode cL_law_ 1766 = .ok (.goto 963, 3) := by decide +kernel
theorem dL_law__1769 : decode cL_law_ 1769 = .ok (.aload_n 1, 1) := by decide +kernel
theorem dL_law__1770 : decode cL_law_ 1770 = .ok (.aload_n 0, 1) := by decide +kernel
theorem dL_law__1771 : decode cL_law_ 1771 = .ok (.iload 4, 2) := by decide +kernel
theorem dL_law__1773 : decode cL_law_ 1773 = .ok (.iconst 1, 1) := by decide +kernel
theorem dL_law__1774 : decode cL_law_ 1774 = .ok (.iadd, 1) := by decide +kernel
theorem dL_law__1775 : decode cL_law_ 1775 = .ok (.iaload, 1) := by decide +kernel
theorem dL_law__1776 : decode cL_law_ 1776 = .ok (.aload_n 3, 1) := by decide +kernel
theorem dL_law__1777 : decode cL_law_ 1777 = .ok (.invokestatic 211, 3) := by decide +kernel
theorem dL_law__1780 : decode cL_law_ 1780 = .ok (.istore 5, 2) := by decide +kernel
theorem dL_law__1782 : decode cL_law_ 1782 = .ok (.aload_n 2, 1) := by decide +kernel
theorem dL_law__1783 : decode cL_law_ 1783 = .ok (.aload_n 0, 1) := by decide +kernel
theorem dL_law__1784 : decode cL_law_ 1784 = .ok (.iload 4, 2) := by decide +kernel
theorem dL_law__1786 : decode cL_law_ 1786 = .ok (.iconst 1, 1) := by decide +kernel
theorem dL_law__1787 : decode cL_law_ 1787 = .ok (.iadd, 1) := by decide +kernel
theorem dL_law__1788 : decode cL_law_ 1788 = .ok (.iaload, 1) := by decide +kernel
theorem dL_law__1789 : decode cL_law_ 1789 = .ok (.invokevirtual 213, 3) := by decide +kernel
theorem dL_law__1792 : decode cL_law_ 1792 = .ok (.istore 6, 2) := by decide +kernel
theorem dL_law__1794 : decode cL_law_ 1794 = .ok (.aload_n 2, 1) := by decide +kernel
theorem dL_law__1795 : decode cL_law_ 1795 = .ok (.invokevirtual 131, 3) := by decide +kernel
theorem dL_law__1798 : decode cL_law_ 1798 = .ok (.iload 5, 2) := by decide +kernel
theorem dL_law__1800 : decode cL_law_ 1800 = .ok (.if_icmp .eq 5, 3) := by decide +kernel
theorem dL_law__1803 : decode cL_law_ 1803 = .ok (.iconst 0, 1) := by decide +kernel
theorem dL_law__1804 : decode cL_law_ 1804 = .ok (.ireturn, 1) := by decide +kernel
theorem dL_law__1805 : decode cL_law_ 1805 = .ok (.iload 5, 2) := by decide +kernel
theorem dL_law__1807 : decode cL_law_ 1807 = .ok (.ifCond .ne 15, 3) := by decide +kernel
theorem dL_law__1810 : decode cL_law_ 1810 = .ok (.aload_n 3, 1) := by decide +kernel
theorem dL_law__1811 : decode cL_law_ 1811 = .ok (.iconst 0, 1) := by decide +kernel
theorem dL_law__1812 : decode cL_law_ 1812 = .ok (.laload, 1) := by decide +kernel
theorem dL_law__1813 : decode cL_law_ 1813 = .ok (.iload 6, 2) := by decide +kernel
theorem dL_law__1815 : decode cL_law_ 1815 = .ok (.i2l, 1) := by decide +kernel
theorem dL_law__1816 : decode cL_law_ 1816 = .ok (.lcmp, 1) := by decide +kernel
theorem dL_law__1817 : decode cL_law_ 1817 = .ok (.ifCond .eq 5, 3) := by decide +kernel
theorem dL_law__1820 : decode cL_law_ 1820 = .ok (.iconst 0, 1) := by decide +kernel
theorem dL_law__1821 : decode cL_law_ 1821 = .ok (.ireturn, 1) := by decide +kernel
theorem dL_law__1822 : decode cL_law_ 1822 = .ok (.goto 907, 3) := by decide +kernel
theorem dL_law__1825 : decode cL_law_ 1825 = .ok (.aload_n 1, 1) := by decide +kernel
theorem dL_law__1826 : decode cL_law_ 1826 = .ok (.aload_n 0, 1) := by decide +kernel
theorem dL_law__1827 : decode cL_law_ 1827 = .ok (.iload 4, 2) := by decide +kernel
theorem dL_law__1829 : decode cL_law_ 1829 = .ok (.iconst 1, 1) := by decide +kernel
theorem dL_law__1830 : decode cL_law_ 1830 = .ok (.iadd, 1) := by decide +kernel
theorem dL_law__1831 : decode cL_law_ 1831 = .ok (.iaload, 1) := by decide +kernel
theorem dL_law__1832 : decode cL_law_ 1832 = .ok (.aload_n 0, 1) := by decide +kernel
theorem dL_law__1833 : decode cL_law_ 1833 = .ok (.iload 4, 2) := by decide +kernel
theorem dL_law__1835 : decode cL_law_ 1835 = .ok (.iconst 2, 1) := by decide +kernel
theorem dL_law__1836 : decode cL_law_ 1836 = .ok (.iadd, 1) := by decide +kernel
theorem dL_law__1837 : decode cL_law_ 1837 = .ok (.iaload, 1) := by decide +kernel
theorem dL_law__1838 : decode cL_law_ 1838 = .ok (.aload_n 3, 1) := by decide +kernel
theorem dL_law__1839 : decode cL_law_ 1839 = .ok (.invokestatic 214, 3) := by decide +kernel
theorem dL_law__1842 : decode cL_law_ 1842 = .ok (.istore 5, 2) := by decide +kernel
theorem dL_law__1844 : decode cL_law_ 1844 = .ok (.aload_n 2, 1) := by decide +kernel
theorem dL_law__1845 : decode cL_law_ 1845 = .ok (.aload_n 0, 1) := by decide +kernel
theorem dL_law__1846 : decode cL_law_ 1846 = .ok (.iload 4, 2) := by decide +kernel
theorem dL_law__1848 : decode cL_law_ 1848 = .ok (.iconst 1, 1) := by decide +kernel
theorem dL_law__1849 : decode cL_law_ 1849 = .ok (.iadd, 1) := by decide +kernel
theorem dL_law__1850 : decode cL_law_ 1850 = .ok (.iaload, 1) := by decide +kernel
theorem dL_law__1851 : decode cL_law_ 1851 = .ok (.aload_n 0, 1) := by decide +kernel
theorem dL_law__1852 : decode cL_law_ 1852 = .ok (.iload 4, 2) := by decide +kernel
theorem dL_law__1854 : decode cL_law_ 1854 = .ok (.iconst 2, 1) := by decide +kernel
theorem dL_law__1855 : decode cL_law_ 1855 = .ok (.iadd, 1) := by decide +kernel
theorem dL_law__1856 : decode cL_law_ 1856 = .ok (.iaload, 1) := by decide +kernel
theorem dL_law__1857 : decode cL_law_ 1857 = .ok (.invokevirtual 216, 3) := by decide +kernel
theorem dL_law__1860 : decode cL_law_ 1860 = .ok (.istore 6, 2) := by decide +kernel
theorem dL_law__1862 : decode cL_law_ 1862 = .ok (.aload_n 2, 1) := by decide +kernel
theorem dL_law__1863 : decode cL_law_ 1863 = .ok (.invokevirtual 131, 3) := by decide +kernel
theorem dL_law__1866 : decode cL_law_ 1866 = .ok (.iload 5, 2) := by decide +kernel
theorem dL_law__1868 : decode cL_law_ 1868 = .ok (.if_icmp .eq 5, 3) := by decide +kernel
theorem dL_law__1871 : decode cL_law_ 1871 = .ok (.iconst 0, 1) := by decide +kernel
theorem dL_law__1872 : decode cL_law_ 1872 = .ok (.ireturn, 1) := by decide +kernel
theorem dL_law__1873 : decode cL_law_ 1873 = .ok (.iload 5, 2) := by decide +kernel
theorem dL_law__1875 : decode cL_law_ 1875 = .ok (.ifCond .ne 15, 3) := by decide +kernel
theorem dL_law__1878 : decode cL_law_ 1878 = .ok (.aload_n 3, 1) := by decide +kernel
theorem dL_law__1879 : decode cL_law_ 1879 = .ok (.iconst 0, 1) := by decide +kernel
theorem dL_law__1880 : decode cL_law_ 1880 = .ok (.laload, 1) := by decide +kernel
theorem dL_law__1881 : decode cL_law_ 1881 = .ok (.iload 6, 2) := by decide +kernel
theorem dL_law__1883 : decode cL_law_ 1883 = .ok (.i2l, 1) := by decide +kernel
theorem dL_law__1884 : decode cL_law_ 1884 = .ok (.lcmp, 1) := by decide +kernel
theorem dL_law__1885 : decode cL_law_ 1885 = .ok (.ifCond .eq 5, 3) := by decide +kernel
theorem dL_law__1888 : decode cL_law_ 1888 = .ok (.iconst 0, 1) := by decide +kernel
theorem dL_law__1889 : decode cL_law_ 1889 = .ok (.ireturn, 1) := by decide +kernel
theorem dL_law__1890 : decode cL_law_ 1890 = .ok (.goto 839, 3) := by decide +kernel
theorem dL_law__1893 : decode cL_law_ 1893 = .ok (.aload_n 1, 1) := by decide +kernel
theorem dL_law__1894 : decode cL_law_ 1894 = .ok (.invokevirtual 217, 3) := by decide +kernel
theorem dL_law__1897 : decode cL_law_ 1897 = .ok (.aload_n 2, 1) := by decide +kernel
theorem dL_law__1898 : decode cL_law_ 1898 = .ok (.invokevirtual 220, 3) := by decide +kernel
theorem dL_law__1901 : decode cL_law_ 1901 = .ok (.if_icmp .eq 828, 3) := by decide +kernel
theorem dL_law__1904 : decode cL_law_ 1904 = .ok (.iconst 0, 1) := by decide +kernel
theorem dL_law__1905 : decode cL_law_ 1905 = .ok (.ireturn, 1) := by decide +kernel
theorem dL_law__1906 : decode cL_law_ 1906 = .ok (.aload_n 1, 1) := by decide +kernel
theorem dL_law__1907 : decode cL_law_ 1907 = .ok (.invokevirtual 221, 3) := by decide +kernel
theorem dL_law__1910 : decode cL_law_ 1910 = .ok (.aload_n 2, 1) := by decide +kernel
theorem dL_law__1911 : decode cL_law_ 1911 = .ok (.invokevirtual 224, 3) := by decide +kernel
theorem dL_law__1914 : decode cL_law_ 1914 = .ok (.if_icmp .eq 815, 3) := by decide +kernel
theorem dL_law__1917 : decode cL_law_ 1917 = .ok (.iconst 0, 1) := by decide +kernel
theorem dL_law__1918 : decode cL_law_ 1918 = .ok (.ireturn, 1) := by decide +kernel
theorem dL_law__1919 : decode cL_law_ 1919 = .ok (.aload_n 1, 1) := by decide +kernel
theorem dL_law__1920 : decode cL_law_ 1920 = .ok (.invokevirtual 225, 3) := by decide +kernel
theorem dL_law__1923 : decode cL_law_ 1923 = .ok (.aload_n 2, 1) := by decide +kernel
theorem dL_law__1924 : decode cL_law_ 1924 = .ok (.invokevirtual 228, 3) := by decide +kernel
theorem dL_law__1927 : decode cL_law_ 1927 = .ok (.if_icmp .eq 802, 3) := by decide +kernel
theorem dL_law__1930 : decode cL_law_ 1930 = .ok (.iconst 0, 1) := by decide +kernel
theorem dL_law__1931 : decode cL_law_ 1931 = .ok (.ireturn, 1) := by decide +kernel
theorem dL_law__1932 : decode cL_law_ 1932 = .ok (.aload_n 1, 1) := by decide +kernel
theorem dL_law__1933 : decode cL_law_ 1933 = .ok (.aload_n 0, 1) := by decide +kernel
theorem dL_law__1934 : decode cL_law_ 1934 = .ok (.iload 4, 2) := by decide +kernel
theorem dL_law__1936 : decode cL_law_ 1936 = .ok (.iconst 1, 1) := by decide +kernel
theorem dL_law__1937 : decode cL_law_ 1937 = .ok (.iadd, 1) := by decide +kernel
theorem dL_law__1938 : decode cL_law_ 1938 = .ok (.iaload, 1) := by decide +kernel
theorem dL_law__1939 : decode cL_law_ 1939 = .ok (.aload_n 3, 1) := by decide +kernel
theorem dL_law__1940 : decode cL_law_ 1940 = .ok (.invokestatic 229, 3) := by decide +kernel
theorem dL_law__1943 : decode cL_law_ 1943 = .ok (.istore 5, 2) := by decide +kernel
theorem dL_law__1945 : decode cL_law_ 1945 = .ok (.aload_n 2, 1) := by decide +kernel
theorem dL_law__1946 : decode cL_law_ 1946 = .ok (.aload_n 0, 1) := by decide +kernel
theorem dL_law__1947 : decode cL_law_ 1947 = .ok (.iload 4, 2) := by decide +kernel
theorem dL_law__1949 : decode cL_law_ 1949 = .ok (.iconst 1, 1) := by decide +kernel
theorem dL_law__1950 : decode cL_law_ 1950 = .ok (.iadd, 1) := by decide +kernel
theorem dL_law__1951 : decode cL_law_ 1951 = .ok (.iaload, 1) := by decide +kernel
theorem dL_law__1952 : decode cL_law_ 1952 = .ok (.invokevirtual 231, 3) := by decide +kernel
theorem dL_law__1955 : decode cL_law_ 1955 = .ok (.istore 6, 2) := by decide +kernel
theorem dL_law__1957 : decode cL_law_ 1957 = .ok (.aload_n 2, 1) := by decide +kernel
theorem dL_law__1958 : decode cL_law_ 1958 = .ok (.invokevirtual 131, 3) := by decide +kernel
theorem dL_law__1961 : decode cL_law_ 1961 = .ok (.iload 5, 2) := by decide +kernel
theorem dL_law__1963 : decode cL_law_ 1963 = .ok (.if_icmp .eq 5, 3) := by decide +kernel
theorem dL_law__1966 : decode cL_law_ 1966 = .ok (.iconst 0, 1) := by decide +kernel
theorem dL_law__1967 : decode cL_law_ 1967 = .ok (.ireturn, 1) := by decide +kernel
theorem dL_law__1968 : decode cL_law_ 1968 = .ok (.iload 5, 2) := by decide +kernel
theorem dL_law__1970 : decode cL_law_ 1970 = .ok (.ifCond .ne 15, 3) := by decide +kernel
theorem dL_law__1973 : decode cL_law_ 1973 = .ok (.aload_n 3, 1) := by decide +kernel
theorem dL_law__1974 : decode cL_law_ 1974 = .ok (.iconst 0, 1) := by decide +kernel
theorem dL_law__1975 : decode cL_law_ 1975 = .ok (.laload, 1) := by decide +kernel
theorem dL_law__1976 : decode cL_law_ 1976 = .ok (.iload 6, 2) := by decide +kernel
theorem dL_law__1978 : decode cL_law_ 1978 = .ok (.i2l, 1) := by decide +kernel
theorem dL_law__1979 : decode cL_law_ 1979 = .ok (.lcmp, 1) := by decide +kernel
theorem dL_law__1980 : decode cL_law_ 1980 = .ok (.ifCond .eq 5, 3) := by decide +kernel
theorem dL_law__1983 : decode cL_law_ 1983 = .ok (.iconst 0, 1) := by decide +kernel
theorem dL_law__1984 : decode cL_law_ 1984 = .ok (.ireturn, 1) := by decide +kernel
theorem dL_law__1985 : decode cL_law_ 1985 = .ok (.goto 744, 3) := by decide +kernel
theorem dL_law__1988 : decode cL_law_ 1988 = .ok (.aload_n 1, 1) := by decide +kernel
theorem dL_law__1989 : decode cL_law_ 1989 = .ok (.aload_n 0, 1) := by decide +kernel
theorem dL_law__1990 : decode cL_law_ 1990 = .ok (.iload 4, 2) := by decide +kernel
theorem dL_law__1992 : decode cL_law_ 1992 = .ok (.iconst 1, 1) := by decide +kernel
theorem dL_law__1993 : decode cL_law_ 1993 = .ok (.iadd, 1) := by decide +kernel
theorem dL_law__1994 : decode cL_law_ 1994 = .ok (.iaload, 1) := by decide +kernel
theorem dL_law__1995 : decode cL_law_ 1995 = .ok (.aload_n 0, 1) := by decide +kernel
theorem dL_law__1996 : decode cL_law_ 1996 = .ok (.iload 4, 2) := by decide +kernel
theorem dL_law__1998 : decode cL_law_ 1998 = .ok (.iconst 2, 1) := by decide +kernel
theorem dL_law__1999 : decode cL_law_ 1999 = .ok (.iadd, 1) := by decide +kernel
theorem dL_law__2000 : decode cL_law_ 2000 = .ok (.iaload, 1) := by decide +kernel
theorem dL_law__2001 : decode cL_law_ 2001 = .ok (.aload_n 3, 1) := by decide +kernel
theorem dL_law__2002 : decode cL_law_ 2002 = .ok (.invokestatic 232, 3) := by decide +kernel
theorem dL_law__2005 : decode cL_law_ 2005 = .ok (.istore 5, 2) := by decide +kernel
theorem dL_law__2007 : decode cL_law_ 2007 = .ok (.aload_n 2, 1) := by decide +kernel
theorem dL_law__2008 : decode cL_law_ 2008 = .ok (.aload_n 0, 1) := by decide +kernel
theorem dL_law__2009 : decode cL_law_ 2009 = .ok (.iload 4, 2) := by decide +kernel
theorem dL_law__2011 : decode cL_law_ 2011 = .ok (.iconst 1, 1) := by decide +kernel
theorem dL_law__2012 : decode cL_law_ 2012 = .ok (.iadd, 1) := by decide +kernel
theorem dL_law__2013 : decode cL_law_ 2013 = .ok (.iaload, 1) := by decide +kernel
theorem dL_law__2014 : decode cL_law_ 2014 = .ok (.aload_n 0, 1) := by decide +kernel
theorem dL_law__2015 : decode cL_law_ 2015 = .ok (.iload 4, 2) := by decide +kernel
theorem dL_law__2017 : decode cL_law_ 2017 = .ok (.iconst 2, 1) := by decide +kernel
theorem dL_law__2018 : decode cL_law_ 2018 = .ok (.iadd, 1) := by decide +kernel
theorem dL_law__2019 : decode cL_law_ 2019 = .ok (.iaload, 1) := by decide +kernel
theorem dL_law__2020 : decode cL_law_ 2020 = .ok (.invokevirtual 234, 3) := by decide +kernel
theorem dL_law__2023 : decode cL_law_ 2023 = .ok (.istore 6, 2) := by decide +kernel
theorem dL_law__2025 : decode cL_law_ 2025 = .ok (.aload_n 2, 1) := by decide +kernel
theorem dL_law__2026 : decode cL_law_ 2026 = .ok (.invokevirtual 131, 3) := by decide +kernel
theorem dL_law__2029 : decode cL_law_ 2029 = .ok (.iload 5, 2) := by decide +kernel
theorem dL_law__2031 : decode cL_law_ 2031 = .ok (.if_icmp .eq 5, 3) := by decide +kernel
theorem dL_law__2034 : decode cL_law_ 2034 = .ok (.iconst 0, 1) := by decide +kernel
theorem dL_law__2035 : decode cL_law_ 2035 = .ok (.ireturn, 1) := by decide +kernel
theorem dL_law__2036 : decode cL_law_ 2036 = .ok (.iload 5, 2) := by decide +kernel
theorem dL_law__2038 : decode cL_law_ 2038 = .ok (.ifCond .ne 15, 3) := by decide +kernel
theorem dL_law__2041 : decode cL_law_ 2041 = .ok (.aload_n 3, 1) := by decide +kernel
theorem dL_law__2042 : decode cL_law_ 2042 = .ok (.iconst 0, 1) := by decide +kernel
theorem dL_law__2043 : decode cL_law_ 2043 = .ok (.laload, 1) := by decide +kernel
theorem dL_law__2044 : decode cL_law_ 2044 = .ok (.iload 6, 2) := by decide +kernel
theorem dL_law__2046 : decode cL_law_ 2046 = .ok (.i2l, 1) := by decide +kernel
theorem dL_law__2047 : decode cL_law_ 2047 = .ok (.lcmp, 1) := by decide +kernel
theorem dL_law__2048 : decode cL_law_ 2048 = .ok (.ifCond .eq 5, 3) := by decide +kernel
theorem dL_law__2051 : decode cL_law_ 2051 = .ok (.iconst 0, 1) := by decide +kernel
theorem dL_law__2052 : decode cL_law_ 2052 = .ok (.ireturn, 1) := by decide +kernel
theorem dL_law__2053 : decode cL_law_ 2053 = .ok (.goto 676, 3) := by decide +kernel
theorem dL_law__2056 : decode cL_law_ 2056 = .ok (.aload_n 1, 1) := by decide +kernel
theorem dL_law__2057 : decode cL_law_ 2057 = .ok (.aload_n 0, 1) := by decide +kernel
theorem dL_law__2058 : decode cL_law_ 2058 = .ok (.iload 4, 2) := by decide +kernel
theorem dL_law__2060 : decode cL_law_ 2060 = .ok (.iconst 1, 1) := by decide +kernel
theorem dL_law__2061 : decode cL_law_ 2061 = .ok (.iadd, 1) := by decide +kernel
theorem dL_law__2062 : decode cL_law_ 2062 = .ok (.iaload, 1) := by decide +kernel
theorem dL_law__2063 : decode cL_law_ 2063 = .ok (.aload_n 3, 1) := by decide +kernel
theorem dL_law__2064 : decode cL_law_ 2064 = .ok (.invokestatic 235, 3) := by decide +kernel
theorem dL_law__2067 : decode cL_law_ 2067 = .ok (.istore 5, 2) := by decide +kernel
theorem dL_law__2069 : decode cL_law_ 2069 = .ok (.aload_n 2, 1) := by decide +kernel
theorem dL_law__2070 : decode cL_law_ 2070 = .ok (.aload_n 0, 1) := by decide +kernel
theorem dL_law__2071 : decode cL_law_ 2071 = .ok (.iload 4, 2) := by decide +kernel
theorem dL_law__2073 : decode cL_law_ 2073 = .ok (.iconst 1, 1) := by decide +kernel
theorem dL_law__2074 : decode cL_law_ 2074 = .ok (.iadd, 1) := by decide +kernel
theorem dL_law__2075 : decode cL_law_ 2075 = .ok (.iaload, 1) := by decide +kernel
theorem dL_law__2076 : decode cL_law_ 2076 = .ok (.invokevirtual 237, 3) := by decide +kernel
theorem dL_law__2079 : decode cL_law_ 2079 = .ok (.istore 6, 2) := by decide +kernel
theorem dL_law__2081 : decode cL_law_ 2081 = .ok (.aload_n 2, 1) := by decide +kernel
theorem dL_law__2082 : decode cL_law_ 2082 = .ok (.invokevirtual 131, 3) := by decide +kernel
theorem dL_law__2085 : decode cL_law_ 2085 = .ok (.iload 5, 2) := by decide +kernel
theorem dL_law__2087 : decode cL_law_ 2087 = .ok (.if_icmp .eq 5, 3) := by decide +kernel
theorem dL_law__2090 : decode cL_law_ 2090 = .ok (.iconst 0, 1) := by decide +kernel
theorem dL_law__2091 : decode cL_law_ 2091 = .ok (.ireturn, 1) := by decide +kernel
theorem dL_law__2092 : decode cL_law_ 2092 = .ok (.iload 5, 2) := by decide +kernel
theorem dL_law__2094 : decode cL_law_ 2094 = .ok (.ifCond .ne 15, 3) := by decide +kernel
theorem dL_law__2097 : decode cL_law_ 2097 = .ok (.aload_n 3, 1) := by decide +kernel
theorem dL_law__2098 : decode cL_law_ 2098 = .ok (.iconst 0, 1) := by decide +kernel
theorem dL_law__2099 : decode cL_law_ 2099 = .ok (.laload, 1) := by decide +kernel
theorem dL_law__2100 : decode cL_law_ 2100 = .ok (.iload 6, 2) := by decide +kernel
theorem dL_law__2102 : decode cL_law_ 2102 = .ok (.i2l, 1) := by decide +kernel
theorem dL_law__2103 : decode cL_law_ 2103 = .ok (.lcmp, 1) := by decide +kernel
theorem dL_law__2104 : decode cL_law_ 2104 = .ok (.ifCond .eq 5, 3) := by decide +kernel
theorem dL_law__2107 : decode cL_law_ 2107 = .ok (.iconst 0, 1) := by decide +kernel
theorem dL_law__2108 : decode cL_law_ 2108 = .ok (.ireturn, 1) := by decide +kernel
theorem dL_law__2109 : decode cL_law_ 2109 = .ok (.goto 620, 3) := by decide +kernel
theorem dL_law__2112 : decode cL_law_ 2112 = .ok (.aload_n 1, 1) := by decide +kernel
theorem dL_law__2113 : decode cL_law_ 2113 = .ok (.aload_n 0, 1) := by decide +kernel
