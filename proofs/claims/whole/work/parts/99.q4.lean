/-! ===== what stands at each place: the law, 4 ===== -/
theorem dL_law__1526 : decode cL_law_ 1526 = .ok (.invokestatic 218, 3) := by decide +kernel
theorem dL_law__1529 : decode cL_law_ 1529 = .ok (.istore 5, 2) := by decide +kernel
theorem dL_law__1531 : decode cL_law_ 1531 = .ok (.aload_n 2, 1) := by decide +kernel
theorem dL_law__1532 : decode cL_law_ 1532 = .ok (.aload_n 0, 1) := by decide +kernel
theorem dL_law__1533 : decode cL_law_ 1533 = .ok (.iload 4, 2) := by decide +kernel
theorem dL_law__1535 : decode cL_law_ 1535 = .ok (.iconst 1, 1) := by decide +kernel
theorem dL_law__1536 : decode cL_law_ 1536 = .ok (.iadd, 1) := by decide +kernel
theorem dL_law__1537 : decode cL_law_ 1537 = .ok (.iaload, 1) := by decide +kernel
theorem dL_law__1538 : decode cL_law_ 1538 = .ok (.aload_n 0, 1) := by decide +kernel
theorem dL_law__1539 : decode cL_law_ 1539 = .ok (.iload 4, 2) := by decide +kernel
theorem dL_law__1541 : decode cL_law_ 1541 = .ok (.iconst 2, 1) := by decide +kernel
theorem dL_law__1542 : decode cL_law_ 1542 = .ok (.iadd, 1) := by decide +kernel
theorem dL_law__1543 : decode cL_law_ 1543 = .ok (.iaload, 1) := by decide +kernel
theorem dL_law__1544 : decode cL_law_ 1544 = .ok (.aload_n 0, 1) := by decide +kernel
theorem dL_law__1545 : decode cL_law_ 1545 = .ok (.iload 4, 2) := by decide +kernel
theorem dL_law__1547 : decode cL_law_ 1547 = .ok (.iconst 3, 1) := by decide +kernel
theorem dL_law__1548 : decode cL_law_ 1548 = .ok (.iadd, 1) := by decide +kernel
theorem dL_law__1549 : decode cL_law_ 1549 = .ok (.iaload, 1) := by decide +kernel
theorem dL_law__1550 : decode cL_law_ 1550 = .ok (.aload_n 0, 1) := by decide +kernel
theorem dL_law__1551 : decode cL_law_ 1551 = .ok (.iload 4, 2) := by decide +kernel
theorem dL_law__1553 : decode cL_law_ 1553 = .ok (.iconst 4, 1) := by decide +kernel
theorem dL_law__1554 : decode cL_law_ 1554 = .ok (.iadd, 1) := by decide +kernel
theorem dL_law__1555 : decode cL_law_ 1555 = .ok (.iaload, 1) := by decide +kernel
theorem dL_law__1556 : decode cL_law_ 1556 = .ok (.invokevirtual 220, 3) := by decide +kernel
theorem dL_law__1559 : decode cL_law_ 1559 = .ok (.lstore 6, 2) := by decide +kernel
theorem dL_law__1561 : decode cL_law_ 1561 = .ok (.aload_n 2, 1) := by decide +kernel
theorem dL_law__1562 : decode cL_law_ 1562 = .ok (.invokevirtual 152, 3) := by decide +kernel
theorem dL_law__1565 : decode cL_law_ 1565 = .ok (.iload 5, 2) := by decide +kernel
theorem dL_law__1567 : decode cL_law_ 1567 = .ok (.if_icmp .eq 5, 3) := by decide +kernel
theorem dL_law__1570 : decode cL_law_ 1570 = .ok (.iconst 0, 1) := by decide +kernel
theorem dL_law__1571 : decode cL_law_ 1571 = .ok (.ireturn, 1) := by decide +kernel
theorem dL_law__1572 : decode cL_law_ 1572 = .ok (.iload 5, 2) := by decide +kernel
theorem dL_law__1574 : decode cL_law_ 1574 = .ok (.ifCond .ne 14, 3) := by decide +kernel
theorem dL_law__1577 : decode cL_law_ 1577 = .ok (.aload_n 3, 1) := by decide +kernel
theorem dL_law__1578 : decode cL_law_ 1578 = .ok (.iconst 0, 1) := by decide +kernel
theorem dL_law__1579 : decode cL_law_ 1579 = .ok (.laload, 1) := by decide +kernel
theorem dL_law__1580 : decode cL_law_ 1580 = .ok (.lload 6, 2) := by decide +kernel
theorem dL_law__1582 : decode cL_law_ 1582 = .ok (.lcmp, 1) := by decide +kernel
theorem dL_law__1583 : decode cL_law_ 1583 = .ok (.ifCond .eq 5, 3) := by decide +kernel
theorem dL_law__1586 : decode cL_law_ 1586 = .ok (.iconst 0, 1) := by decide +kernel
theorem dL_law__1587 : decode cL_law_ 1587 = .ok (.ireturn, 1) := by decide +kernel
theorem dL_law__1588 : decode cL_law_ 1588 = .ok (.goto 1362, 3) := by decide +kernel
theorem dL_law__1591 : decode cL_law_ 1591 = .ok (.aload_n 1, 1) := by decide +kernel
theorem dL_law__1592 : decode cL_law_ 1592 = .ok (.aload_n 0, 1) := by decide +kernel
theorem dL_law__1593 : decode cL_law_ 1593 = .ok (.iload 4, 2) := by decide +kernel
theorem dL_law__1595 : decode cL_law_ 1595 = .ok (.iconst 1, 1) := by decide +kernel
theorem dL_law__1596 : decode cL_law_ 1596 = .ok (.iadd, 1) := by decide +kernel
theorem dL_law__1597 : decode cL_law_ 1597 = .ok (.iaload, 1) := by decide +kernel
theorem dL_law__1598 : decode cL_law_ 1598 = .ok (.aload_n 3, 1) := by decide +kernel
theorem dL_law__1599 : decode cL_law_ 1599 = .ok (.invokestatic 221, 3) := by decide +kernel
theorem dL_law__1602 : decode cL_law_ 1602 = .ok (.istore 5, 2) := by decide +kernel
theorem dL_law__1604 : decode cL_law_ 1604 = .ok (.aload_n 2, 1) := by decide +kernel
theorem dL_law__1605 : decode cL_law_ 1605 = .ok (.aload_n 0, 1) := by decide +kernel
theorem dL_law__1606 : decode cL_law_ 1606 = .ok (.iload 4, 2) := by decide +kernel
theorem dL_law__1608 : decode cL_law_ 1608 = .ok (.iconst 1, 1) := by decide +kernel
theorem dL_law__1609 : decode cL_law_ 1609 = .ok (.iadd, 1) := by decide +kernel
theorem dL_law__1610 : decode cL_law_ 1610 = .ok (.iaload, 1) := by decide +kernel
theorem dL_law__1611 : decode cL_law_ 1611 = .ok (.invokevirtual 223, 3) := by decide +kernel
theorem dL_law__1614 : decode cL_law_ 1614 = .ok (.istore 6, 2) := by decide +kernel
theorem dL_law__1616 : decode cL_law_ 1616 = .ok (.aload_n 2, 1) := by decide +kernel
theorem dL_law__1617 : decode cL_law_ 1617 = .ok (.invokevirtual 152, 3) := by decide +kernel
theorem dL_law__1620 : decode cL_law_ 1620 = .ok (.iload 5, 2) := by decide +kernel
theorem dL_law__1622 : decode cL_law_ 1622 = .ok (.if_icmp .eq 5, 3) := by decide +kernel
theorem dL_law__1625 : decode cL_law_ 1625 = .ok (.iconst 0, 1) := by decide +kernel
theorem dL_law__1626 : decode cL_law_ 1626 = .ok (.ireturn, 1) := by decide +kernel
theorem dL_law__1627 : decode cL_law_ 1627 = .ok (.iload 5, 2) := by decide +kernel
theorem dL_law__1629 : decode cL_law_ 1629 = .ok (.ifCond .ne 15, 3) := by decide +kernel
theorem dL_law__1632 : decode cL_law_ 1632 = .ok (.aload_n 3, 1) := by decide +kernel
theorem dL_law__1633 : decode cL_law_ 1633 = .ok (.iconst 0, 1) := by decide +kernel
theorem dL_law__1634 : decode cL_law_ 1634 = .ok (.laload, 1) := by decide +kernel
theorem dL_law__1635 : decode cL_law_ 1635 = .ok (.iload 6, 2) := by decide +kernel
theorem dL_law__1637 : decode cL_law_ 1637 = .ok (.i2l, 1) := by decide +kernel
theorem dL_law__1638 : decode cL_law_ 1638 = .ok (.lcmp, 1) := by decide +kernel
theorem dL_law__1639 : decode cL_law_ 1639 = .ok (.ifCond .eq 5, 3) := by decide +kernel
theorem dL_law__1642 : decode cL_law_ 1642 = .ok (.iconst 0, 1) := by decide +kernel
theorem dL_law__1643 : decode cL_law_ 1643 = .ok (.ireturn, 1) := by decide +kernel
theorem dL_law__1644 : decode cL_law_ 1644 = .ok (.goto 1306, 3) := by decide +kernel
theorem dL_law__1647 : decode cL_law_ 1647 = .ok (.aload_n 1, 1) := by decide +kernel
theorem dL_law__1648 : decode cL_law_ 1648 = .ok (.aload_n 0, 1) := by decide +kernel
theorem dL_law__1649 : decode cL_law_ 1649 = .ok (.iload 4, 2) := by decide +kernel
theorem dL_law__1651 : decode cL_law_ 1651 = .ok (.iconst 1, 1) := by decide +kernel
theorem dL_law__1652 : decode cL_law_ 1652 = .ok (.iadd, 1) := by decide +kernel
theorem dL_law__1653 : decode cL_law_ 1653 = .ok (.iaload, 1) := by decide +kernel
theorem dL_law__1654 : decode cL_law_ 1654 = .ok (.aload_n 3, 1) := by decide +kernel
theorem dL_law__1655 : decode cL_law_ 1655 = .ok (.invokestatic 224, 3) := by decide +kernel
theorem dL_law__1658 : decode cL_law_ 1658 = .ok (.istore 5, 2) := by decide +kernel
theorem dL_law__1660 : decode cL_law_ 1660 = .ok (.aload_n 2, 1) := by decide +kernel
theorem dL_law__1661 : decode cL_law_ 1661 = .ok (.aload_n 0, 1) := by decide +kernel
theorem dL_law__1662 : decode cL_law_ 1662 = .ok (.iload 4, 2) := by decide +kernel
theorem dL_law__1664 : decode cL_law_ 1664 = .ok (.iconst 1, 1) := by decide +kernel
theorem dL_law__1665 : decode cL_law_ 1665 = .ok (.iadd, 1) := by decide +kernel
theorem dL_law__1666 : decode cL_law_ 1666 = .ok (.iaload, 1) := by decide +kernel
theorem dL_law__1667 : decode cL_law_ 1667 = .ok (.invokevirtual 226, 3) := by decide +kernel
theorem dL_law__1670 : decode cL_law_ 1670 = .ok (.istore 6, 2) := by decide +kernel
theorem dL_law__1672 : decode cL_law_ 1672 = .ok (.aload_n 2, 1) := by decide +kernel
theorem dL_law__1673 : decode cL_law_ 1673 = .ok (.invokevirtual 152, 3) := by decide +kernel
theorem dL_law__1676 : decode cL_law_ 1676 = .ok (.iload 5, 2) := by decide +kernel
theorem dL_law__1678 : decode cL_law_ 1678 = .ok (.if_icmp .eq 5, 3) := by decide +kernel
theorem dL_law__1681 : decode cL_law_ 1681 = .ok (.iconst 0, 1) := by decide +kernel
theorem dL_law__1682 : decode cL_law_ 1682 = .ok (.ireturn, 1) := by decide +kernel
theorem dL_law__1683 : decode cL_law_ 1683 = .ok (.iload 5, 2) := by decide +kernel
theorem dL_law__1685 : decode cL_law_ 1685 = .ok (.ifCond .ne 15, 3) := by decide +kernel
theorem dL_law__1688 : decode cL_law_ 1688 = .ok (.aload_n 3, 1) := by decide +kernel
theorem dL_law__1689 : decode cL_law_ 1689 = .ok (.iconst 0, 1) := by decide +kernel
theorem dL_law__1690 : decode cL_law_ 1690 = .ok (.laload, 1) := by decide +kernel
theorem dL_law__1691 : decode cL_law_ 1691 = .ok (.iload 6, 2) := by decide +kernel
theorem dL_law__1693 : decode cL_law_ 1693 = .ok (.i2l, 1) := by decide +kernel
theorem dL_law__1694 : decode cL_law_ 1694 = .ok (.lcmp, 1) := by decide +kernel
theorem dL_law__1695 : decode cL_law_ 1695 = .ok (.ifCond .eq 5, 3) := by decide +kernel
theorem dL_law__1698 : decode cL_law_ 1698 = .ok (.iconst 0, 1) := by decide +kernel
theorem dL_law__1699 : decode cL_law_ 1699 = .ok (.ireturn, 1) := by decide +kernel
theorem dL_law__1700 : decode cL_law_ 1700 = .ok (.goto 1250, 3) := by decide +kernel
theorem dL_law__1703 : decode cL_law_ 1703 = .ok (.aload_n 1, 1) := by decide +kernel
theorem dL_law__1704 : decode cL_law_ 1704 = .ok (.aload_n 0, 1) := by decide +kernel
theorem dL_law__1705 : decode cL_law_ 1705 = .ok (.iload 4, 2) := by decide +kernel
theorem dL_law__1707 : decode cL_law_ 1707 = .ok (.iconst 1, 1) := by decide +kernel
theorem dL_law__1708 : decode cL_law_ 1708 = .ok (.iadd, 1) := by decide +kernel
theorem dL_law__1709 : decode cL_law_ 1709 = .ok (.iaload, 1) := by decide +kernel
theorem dL_law__1710 : decode cL_law_ 1710 = .ok (.aload_n 0, 1) := by decide +kernel
theorem dL_law__1711 : decode cL_law_ 1711 = .ok (.iload 4, 2) := by decide +kernel
theorem dL_law__1713 : decode cL_law_ 1713 = .ok (.iconst 2, 1) := by decide +kernel
theorem dL_law__1714 : decode cL_law_ 1714 = .ok (.iadd, 1) := by decide +kernel
theorem dL_law__1715 : decode cL_law_ 1715 = .ok (.iaload, 1) := by decide +kernel
theorem dL_law__1716 : decode cL_law_ 1716 = .ok (.aload_n 3, 1) := by decide +kernel
theorem dL_law__1717 : decode cL_law_ 1717 = .ok (.invokestatic 227, 3) := by decide +kernel
theorem dL_law__1720 : decode cL_law_ 1720 = .ok (.istore 5, 2) := by decide +kernel
theorem dL_law__1722 : decode cL_law_ 1722 = .ok (.aload_n 2, 1) := by decide +kernel
theorem dL_law__1723 : decode cL_law_ 1723 = .ok (.aload_n 0, 1) := by decide +kernel
theorem dL_law__1724 : decode cL_law_ 1724 = .ok (.iload 4, 2) := by decide +kernel
theorem dL_law__1726 : decode cL_law_ 1726 = .ok (.iconst 1, 1) := by decide +kernel
theorem dL_law__1727 : decode cL_law_ 1727 = .ok (.iadd, 1) := by decide +kernel
theorem dL_law__1728 : decode cL_law_ 1728 = .ok (.iaload, 1) := by decide +kernel
theorem dL_law__1729 : decode cL_law_ 1729 = .ok (.aload_n 0, 1) := by decide +kernel
theorem dL_law__1730 : decode cL_law_ 1730 = .ok (.iload 4, 2) := by decide +kernel
theorem dL_law__1732 : decode cL_law_ 1732 = .ok (.iconst 2, 1) := by decide +kernel
theorem dL_law__1733 : decode cL_law_ 1733 = .ok (.iadd, 1) := by decide +kernel
theorem dL_law__1734 : decode cL_law_ 1734 = .ok (.iaload, 1) := by decide +kernel
theorem dL_law__1735 : decode cL_law_ 1735 = .ok (.invokevirtual 229, 3) := by decide +kernel
theorem dL_law__1738 : decode cL_law_ 1738 = .ok (.istore 6, 2) := by decide +kernel
theorem dL_law__1740 : decode cL_law_ 1740 = .ok (.aload_n 2, 1) := by decide +kernel
theorem dL_law__1741 : decode cL_law_ 1741 = .ok (.invokevirtual 152, 3) := by decide +kernel
theorem dL_law__1744 : decode cL_law_ 1744 = .ok (.iload 5, 2) := by decide +kernel
theorem dL_law__1746 : decode cL_law_ 1746 = .ok (.if_icmp .eq 5, 3) := by decide +kernel
theorem dL_law__1749 : decode cL_law_ 1749 = .ok (.iconst 0, 1) := by decide +kernel
theorem dL_law__1750 : decode cL_law_ 1750 = .ok (.ireturn, 1) := by decide +kernel
theorem dL_law__1751 : decode cL_law_ 1751 = .ok (.iload 5, 2) := by decide +kernel
theorem dL_law__1753 : decode cL_law_ 1753 = .ok (.ifCond .ne 22, 3) := by decide +kernel
theorem dL_law__1756 : decode cL_law_ 1756 = .ok (.aload_n 3, 1) := by decide +kernel
theorem dL_law__1757 : decode cL_law_ 1757 = .ok (.iconst 0, 1) := by decide +kernel
theorem dL_law__1758 : decode cL_law_ 1758 = .ok (.laload, 1) := by decide +kernel
theorem dL_law__1759 : decode cL_law_ 1759 = .ok (.iload 6, 2) := by decide +kernel
theorem dL_law__1761 : decode cL_law_ 1761 = .ok (.ifCond .eq 7, 3) := by decide +kernel
theorem dL_law__1764 : decode cL_law_ 1764 = .ok (.lconst 1, 1) := by decide +kernel
theorem dL_law__1765 : decode cL_law_ 1765 = .ok (.goto 4, 3) := by decide +kernel
theorem dL_law__1768 : decode cL_law_ 1768 = .ok (.lconst 0, 1) := by decide +kernel
theorem dL_law__1769 : decode cL_law_ 1769 = .ok (.lcmp, 1) := by decide +kernel
theorem dL_law__1770 : decode cL_law_ 1770 = .ok (.ifCond .eq 5, 3) := by decide +kernel
theorem dL_law__1773 : decode cL_law_ 1773 = .ok (.iconst 0, 1) := by decide +kernel
theorem dL_law__1774 : decode cL_law_ 1774 = .ok (.ireturn, 1) := by decide +kernel
theorem dL_law__1775 : decode cL_law_ 1775 = .ok (.goto 1175, 3) := by decide +kernel
theorem dL_law__1778 : decode cL_law_ 1778 = .ok (.aload_n 1, 1) := by decide +kernel
theorem dL_law__1779 : decode cL_law_ 1779 = .ok (.aload_n 0, 1) := by decide +kernel
theorem dL_law__1780 : decode cL_law_ 1780 = .ok (.iload 4, 2) := by decide +kernel
theorem dL_law__1782 : decode cL_law_ 1782 = .ok (.iconst 1, 1) := by decide +kernel
theorem dL_law__1783 : decode cL_law_ 1783 = .ok (.iadd, 1) := by decide +kernel
theorem dL_law__1784 : decode cL_law_ 1784 = .ok (.iaload, 1) := by decide +kernel
theorem dL_law__1785 : decode cL_law_ 1785 = .ok (.aload_n 0, 1) := by decide +kernel
theorem dL_law__1786 : decode cL_law_ 1786 = .ok (.iload 4, 2) := by decide +kernel
theorem dL_law__1788 : decode cL_law_ 1788 = .ok (.iconst 2, 1) := by decide +kernel
theorem dL_law__1789 : decode cL_law_ 1789 = .ok (.iadd, 1) := by decide +kernel
theorem dL_law__1790 : decode cL_law_ 1790 = .ok (.iaload, 1) := by decide +kernel
theorem dL_law__1791 : decode cL_law_ 1791 = .ok (.aload_n 3, 1) := by decide +kernel
theorem dL_law__1792 : decode cL_law_ 1792 = .ok (.invokestatic 230, 3) := by decide +kernel
theorem dL_law__1795 : decode cL_law_ 1795 = .ok (.istore 5, 2) := by decide +kernel
theorem dL_law__1797 : decode cL_law_ 1797 = .ok (.aload_n 2, 1) := by decide +kernel
theorem dL_law__1798 : decode cL_law_ 1798 = .ok (.aload_n 0, 1) := by decide +kernel
theorem dL_law__1799 : decode cL_law_ 1799 = .ok (.iload 4, 2) := by decide +kernel
theorem dL_law__1801 : decode cL_law_ 1801 = .ok (.iconst 1, 1) := by decide +kernel
theorem dL_law__1802 : decode cL_law_ 1802 = .ok (.iadd, 1) := by decide +kernel
theorem dL_law__1803 : decode cL_law_ 1803 = .ok (.iaload, 1) := by decide +kernel
theorem dL_law__1804 : decode cL_law_ 1804 = .ok (.aload_n 0, 1) := by decide +kernel
theorem dL_law__1805 : decode cL_law_ 1805 = .ok (.iload 4, 2) := by decide +kernel
theorem dL_law__1807 : decode cL_law_ 1807 = .ok (.iconst 2, 1) := by decide +kernel
theorem dL_law__1808 : decode cL_law_ 1808 = .ok (.iadd, 1) := by decide +kernel
theorem dL_law__1809 : decode cL_law_ 1809 = .ok (.iaload, 1) := by decide +kernel
theorem dL_law__1810 : decode cL_law_ 1810 = .ok (.invokevirtual 232, 3) := by decide +kernel
theorem dL_law__1813 : decode cL_law_ 1813 = .ok (.istore 6, 2) := by decide +kernel
theorem dL_law__1815 : decode cL_law_ 1815 = .ok (.aload_n 2, 1) := by decide +kernel
theorem dL_law__1816 : decode cL_law_ 1816 = .ok (.invokevirtual 152, 3) := by decide +kernel
theorem dL_law__1819 : decode cL_law_ 1819 = .ok (.iload 5, 2) := by decide +kernel
theorem dL_law__1821 : decode cL_law_ 1821 = .ok (.if_icmp .eq 5, 3) := by decide +kernel
theorem dL_law__1824 : decode cL_law_ 1824 = .ok (.iconst 0, 1) := by decide +kernel
theorem dL_law__1825 : decode cL_law_ 1825 = .ok (.ireturn, 1) := by decide +kernel
theorem dL_law__1826 : decode cL_law_ 1826 = .ok (.iload 5, 2) := by decide +kernel
theorem dL_law__1828 : decode cL_law_ 1828 = .ok (.ifCond .ne 15, 3) := by decide +kernel
theorem dL_law__1831 : decode cL_law_ 1831 = .ok (.aload_n 3, 1) := by decide +kernel
theorem dL_law__1832 : decode cL_law_ 1832 = .ok (.iconst 0, 1) := by decide +kernel
theorem dL_law__1833 : decode cL_law_ 1833 = .ok (.laload, 1) := by decide +kernel
theorem dL_law__1834 : decode cL_law_ 1834 = .ok (.iload 6, 2) := by decide +kernel
theorem dL_law__1836 : decode cL_law_ 1836 = .ok (.i2l, 1) := by decide +kernel
theorem dL_law__1837 : decode cL_law_ 1837 = .ok (.lcmp, 1) := by decide +kernel
theorem dL_law__1838 : decode cL_law_ 1838 = .ok (.ifCond .eq 5, 3) := by decide +kernel
theorem dL_law__1841 : decode cL_law_ 1841 = .ok (.iconst 0, 1) := by decide +kernel
theorem dL_law__1842 : decode cL_law_ 1842 = .ok (.ireturn, 1) := by decide +kernel
theorem dL_law__1843 : decode cL_law_ 1843 = .ok (.goto 1107, 3) := by decide +kernel
theorem dL_law__1846 : decode cL_law_ 1846 = .ok (.aload_n 1, 1) := by decide +kernel
theorem dL_law__1847 : decode cL_law_ 1847 = .ok (.aload_n 0, 1) := by decide +kernel
theorem dL_law__1848 : decode cL_law_ 1848 = .ok (.iload 4, 2) := by decide +kernel
theorem dL_law__1850 : decode cL_law_ 1850 = .ok (.iconst 1, 1) := by decide +kernel
theorem dL_law__1851 : decode cL_law_ 1851 = .ok (.iadd, 1) := by decide +kernel
theorem dL_law__1852 : decode cL_law_ 1852 = .ok (.iaload, 1) := by decide +kernel
theorem dL_law__1853 : decode cL_law_ 1853 = .ok (.aload_n 0, 1) := by decide +kernel
theorem dL_law__1854 : decode cL_law_ 1854 = .ok (.iload 4, 2) := by decide +kernel
theorem dL_law__1856 : decode cL_law_ 1856 = .ok (.iconst 2, 1) := by decide +kernel
theorem dL_law__1857 : decode cL_law_ 1857 = .ok (.iadd, 1) := by decide +kernel
theorem dL_law__1858 : decode cL_law_ 1858 = .ok (.iaload, 1) := by decide +kernel
theorem dL_law__1859 : decode cL_law_ 1859 = .ok (.aload_n 3, 1) := by decide +kernel
theorem dL_law__1860 : decode cL_law_ 1860 = .ok (.invokestatic 233, 3) := by decide +kernel
theorem dL_law__1863 : decode cL_law_ 1863 = .ok (.istore 5, 2) := by decide +kernel
theorem dL_law__1865 : decode cL_law_ 1865 = .ok (.aload_n 2, 1) := by decide +kernel

