theorem dW_1435 : decode code 1435 = .ok (.iadd, 1) := by decide +kernel
theorem dW_1436 : decode code 1436 = .ok (.iaload, 1) := by decide +kernel
theorem dW_1437 : decode code 1437 = .ok (.invokevirtual 231, 3) := by decide +kernel
theorem dW_1440 : decode code 1440 = .ok (.istore 7, 2) := by decide +kernel
theorem dW_1442 : decode code 1442 = .ok (.aload_n 2, 1) := by decide +kernel
theorem dW_1443 : decode code 1443 = .ok (.invokevirtual 160, 3) := by decide +kernel
theorem dW_1446 : decode code 1446 = .ok (.iload 6, 2) := by decide +kernel
theorem dW_1448 : decode code 1448 = .ok (.if_icmp .eq 5, 3) := by decide +kernel
theorem dW_1453 : decode code 1453 = .ok (.iload 6, 2) := by decide +kernel
theorem dW_1455 : decode code 1455 = .ok (.ifCond .ne 15, 3) := by decide +kernel
theorem dW_1458 : decode code 1458 = .ok (.aload_n 3, 1) := by decide +kernel
theorem dW_1459 : decode code 1459 = .ok (.iconst 0, 1) := by decide +kernel
theorem dW_1460 : decode code 1460 = .ok (.laload, 1) := by decide +kernel
theorem dW_1461 : decode code 1461 = .ok (.iload 7, 2) := by decide +kernel
theorem dW_1463 : decode code 1463 = .ok (.i2l, 1) := by decide +kernel
theorem dW_1464 : decode code 1464 = .ok (.lcmp, 1) := by decide +kernel
theorem dW_1465 : decode code 1465 = .ok (.ifCond .eq 5, 3) := by decide +kernel
theorem dW_1470 : decode code 1470 = .ok (.goto 1252, 3) := by decide +kernel
theorem dW_1473 : decode code 1473 = .ok (.aload_n 1, 1) := by decide +kernel
theorem dW_1474 : decode code 1474 = .ok (.aload_n 0, 1) := by decide +kernel
theorem dW_1475 : decode code 1475 = .ok (.iload 5, 2) := by decide +kernel
theorem dW_1477 : decode code 1477 = .ok (.iconst 1, 1) := by decide +kernel
theorem dW_1478 : decode code 1478 = .ok (.iadd, 1) := by decide +kernel
theorem dW_1479 : decode code 1479 = .ok (.iaload, 1) := by decide +kernel
theorem dW_1480 : decode code 1480 = .ok (.aload_n 3, 1) := by decide +kernel
theorem dW_1481 : decode code 1481 = .ok (.invokestatic 232, 3) := by decide +kernel
theorem dW_1484 : decode code 1484 = .ok (.istore 6, 2) := by decide +kernel
theorem dW_1486 : decode code 1486 = .ok (.aload_n 2, 1) := by decide +kernel
theorem dW_1487 : decode code 1487 = .ok (.aload_n 0, 1) := by decide +kernel
theorem dW_1488 : decode code 1488 = .ok (.iload 5, 2) := by decide +kernel
theorem dW_1490 : decode code 1490 = .ok (.iconst 1, 1) := by decide +kernel
theorem dW_1491 : decode code 1491 = .ok (.iadd, 1) := by decide +kernel
theorem dW_1492 : decode code 1492 = .ok (.iaload, 1) := by decide +kernel
theorem dW_1493 : decode code 1493 = .ok (.invokevirtual 234, 3) := by decide +kernel
theorem dW_1496 : decode code 1496 = .ok (.istore 7, 2) := by decide +kernel
theorem dW_1498 : decode code 1498 = .ok (.aload_n 2, 1) := by decide +kernel
theorem dW_1499 : decode code 1499 = .ok (.invokevirtual 160, 3) := by decide +kernel
theorem dW_1502 : decode code 1502 = .ok (.iload 6, 2) := by decide +kernel
theorem dW_1504 : decode code 1504 = .ok (.if_icmp .eq 5, 3) := by decide +kernel
theorem dW_1509 : decode code 1509 = .ok (.iload 6, 2) := by decide +kernel
theorem dW_1511 : decode code 1511 = .ok (.ifCond .ne 15, 3) := by decide +kernel
theorem dW_1514 : decode code 1514 = .ok (.aload_n 3, 1) := by decide +kernel
theorem dW_1515 : decode code 1515 = .ok (.iconst 0, 1) := by decide +kernel
theorem dW_1516 : decode code 1516 = .ok (.laload, 1) := by decide +kernel
theorem dW_1517 : decode code 1517 = .ok (.iload 7, 2) := by decide +kernel
theorem dW_1519 : decode code 1519 = .ok (.i2l, 1) := by decide +kernel
theorem dW_1520 : decode code 1520 = .ok (.lcmp, 1) := by decide +kernel
theorem dW_1521 : decode code 1521 = .ok (.ifCond .eq 5, 3) := by decide +kernel
theorem dW_1526 : decode code 1526 = .ok (.goto 1196, 3) := by decide +kernel
theorem dW_1529 : decode code 1529 = .ok (.aload_n 1, 1) := by decide +kernel
theorem dW_1530 : decode code 1530 = .ok (.aload_n 0, 1) := by decide +kernel
theorem dW_1531 : decode code 1531 = .ok (.iload 5, 2) := by decide +kernel
theorem dW_1533 : decode code 1533 = .ok (.iconst 1, 1) := by decide +kernel
theorem dW_1534 : decode code 1534 = .ok (.iadd, 1) := by decide +kernel
theorem dW_1535 : decode code 1535 = .ok (.iaload, 1) := by decide +kernel
theorem dW_1536 : decode code 1536 = .ok (.aload_n 3, 1) := by decide +kernel
theorem dW_1537 : decode code 1537 = .ok (.invokestatic 235, 3) := by decide +kernel
theorem dW_1540 : decode code 1540 = .ok (.istore 6, 2) := by decide +kernel
theorem dW_1542 : decode code 1542 = .ok (.aload_n 2, 1) := by decide +kernel
theorem dW_1543 : decode code 1543 = .ok (.aload_n 0, 1) := by decide +kernel
theorem dW_1544 : decode code 1544 = .ok (.iload 5, 2) := by decide +kernel
theorem dW_1546 : decode code 1546 = .ok (.iconst 1, 1) := by decide +kernel
theorem dW_1547 : decode code 1547 = .ok (.iadd, 1) := by decide +kernel
theorem dW_1548 : decode code 1548 = .ok (.iaload, 1) := by decide +kernel
theorem dW_1549 : decode code 1549 = .ok (.invokevirtual 237, 3) := by decide +kernel
theorem dW_1552 : decode code 1552 = .ok (.istore 7, 2) := by decide +kernel
theorem dW_1554 : decode code 1554 = .ok (.aload_n 2, 1) := by decide +kernel
theorem dW_1555 : decode code 1555 = .ok (.invokevirtual 160, 3) := by decide +kernel
theorem dW_1558 : decode code 1558 = .ok (.iload 6, 2) := by decide +kernel
theorem dW_1560 : decode code 1560 = .ok (.if_icmp .eq 5, 3) := by decide +kernel
theorem dW_1565 : decode code 1565 = .ok (.iload 6, 2) := by decide +kernel
theorem dW_1567 : decode code 1567 = .ok (.ifCond .ne 22, 3) := by decide +kernel
theorem dW_1570 : decode code 1570 = .ok (.aload_n 3, 1) := by decide +kernel
theorem dW_1571 : decode code 1571 = .ok (.iconst 0, 1) := by decide +kernel
theorem dW_1572 : decode code 1572 = .ok (.laload, 1) := by decide +kernel
theorem dW_1573 : decode code 1573 = .ok (.iload 7, 2) := by decide +kernel
theorem dW_1575 : decode code 1575 = .ok (.ifCond .eq 7, 3) := by decide +kernel
theorem dW_1578 : decode code 1578 = .ok (.lconst 1, 1) := by decide +kernel
theorem dW_1579 : decode code 1579 = .ok (.goto 4, 3) := by decide +kernel
theorem dW_1582 : decode code 1582 = .ok (.lconst 0, 1) := by decide +kernel
theorem dW_1583 : decode code 1583 = .ok (.lcmp, 1) := by decide +kernel
theorem dW_1584 : decode code 1584 = .ok (.ifCond .eq 5, 3) := by decide +kernel
theorem dW_1589 : decode code 1589 = .ok (.goto 1133, 3) := by decide +kernel
theorem dW_1592 : decode code 1592 = .ok (.aload_n 1, 1) := by decide +kernel
theorem dW_1593 : decode code 1593 = .ok (.aload_n 0, 1) := by decide +kernel
theorem dW_1594 : decode code 1594 = .ok (.iload 5, 2) := by decide +kernel
theorem dW_1596 : decode code 1596 = .ok (.iconst 1, 1) := by decide +kernel
theorem dW_1597 : decode code 1597 = .ok (.iadd, 1) := by decide +kernel
theorem dW_1598 : decode code 1598 = .ok (.iaload, 1) := by decide +kernel
theorem dW_1599 : decode code 1599 = .ok (.aload_n 3, 1) := by decide +kernel
theorem dW_1600 : decode code 1600 = .ok (.invokestatic 238, 3) := by decide +kernel
theorem dW_1603 : decode code 1603 = .ok (.istore 6, 2) := by decide +kernel
theorem dW_1605 : decode code 1605 = .ok (.aload_n 2, 1) := by decide +kernel
theorem dW_1606 : decode code 1606 = .ok (.aload_n 0, 1) := by decide +kernel
theorem dW_1607 : decode code 1607 = .ok (.iload 5, 2) := by decide +kernel
theorem dW_1609 : decode code 1609 = .ok (.iconst 1, 1) := by decide +kernel
theorem dW_1610 : decode code 1610 = .ok (.iadd, 1) := by decide +kernel
theorem dW_1611 : decode code 1611 = .ok (.iaload, 1) := by decide +kernel
theorem dW_1612 : decode code 1612 = .ok (.invokevirtual 240, 3) := by decide +kernel
theorem dW_1615 : decode code 1615 = .ok (.istore 7, 2) := by decide +kernel
theorem dW_1617 : decode code 1617 = .ok (.aload_n 2, 1) := by decide +kernel
theorem dW_1618 : decode code 1618 = .ok (.invokevirtual 160, 3) := by decide +kernel
theorem dW_1621 : decode code 1621 = .ok (.iload 6, 2) := by decide +kernel
theorem dW_1623 : decode code 1623 = .ok (.if_icmp .eq 5, 3) := by decide +kernel
theorem dW_1628 : decode code 1628 = .ok (.iload 6, 2) := by decide +kernel
theorem dW_1630 : decode code 1630 = .ok (.ifCond .ne 15, 3) := by decide +kernel
theorem dW_1633 : decode code 1633 = .ok (.aload_n 3, 1) := by decide +kernel
theorem dW_1634 : decode code 1634 = .ok (.iconst 0, 1) := by decide +kernel
theorem dW_1635 : decode code 1635 = .ok (.laload, 1) := by decide +kernel
theorem dW_1636 : decode code 1636 = .ok (.iload 7, 2) := by decide +kernel
theorem dW_1638 : decode code 1638 = .ok (.i2l, 1) := by decide +kernel
theorem dW_1639 : decode code 1639 = .ok (.lcmp, 1) := by decide +kernel
theorem dW_1640 : decode code 1640 = .ok (.ifCond .eq 5, 3) := by decide +kernel
theorem dW_1645 : decode code 1645 = .ok (.goto 1077, 3) := by decide +kernel
theorem dW_1648 : decode code 1648 = .ok (.aload_n 1, 1) := by decide +kernel
theorem dW_1649 : decode code 1649 = .ok (.aload_n 0, 1) := by decide +kernel
theorem dW_1650 : decode code 1650 = .ok (.iload 5, 2) := by decide +kernel
theorem dW_1652 : decode code 1652 = .ok (.iconst 1, 1) := by decide +kernel
theorem dW_1653 : decode code 1653 = .ok (.iadd, 1) := by decide +kernel
theorem dW_1654 : decode code 1654 = .ok (.iaload, 1) := by decide +kernel
theorem dW_1655 : decode code 1655 = .ok (.aload_n 3, 1) := by decide +kernel
theorem dW_1656 : decode code 1656 = .ok (.invokestatic 241, 3) := by decide +kernel
theorem dW_1659 : decode code 1659 = .ok (.istore 6, 2) := by decide +kernel
theorem dW_1661 : decode code 1661 = .ok (.aload_n 2, 1) := by decide +kernel
theorem dW_1662 : decode code 1662 = .ok (.aload_n 0, 1) := by decide +kernel
theorem dW_1663 : decode code 1663 = .ok (.iload 5, 2) := by decide +kernel
theorem dW_1665 : decode code 1665 = .ok (.iconst 1, 1) := by decide +kernel
theorem dW_1666 : decode code 1666 = .ok (.iadd, 1) := by decide +kernel
theorem dW_1667 : decode code 1667 = .ok (.iaload, 1) := by decide +kernel
theorem dW_1668 : decode code 1668 = .ok (.invokevirtual 243, 3) := by decide +kernel
theorem dW_1671 : decode code 1671 = .ok (.istore 7, 2) := by decide +kernel
theorem dW_1673 : decode code 1673 = .ok (.aload_n 2, 1) := by decide +kernel
theorem dW_1674 : decode code 1674 = .ok (.invokevirtual 160, 3) := by decide +kernel
theorem dW_1677 : decode code 1677 = .ok (.iload 6, 2) := by decide +kernel
theorem dW_1679 : decode code 1679 = .ok (.if_icmp .eq 5, 3) := by decide +kernel
theorem dW_1684 : decode code 1684 = .ok (.iload 6, 2) := by decide +kernel
theorem dW_1686 : decode code 1686 = .ok (.ifCond .ne 15, 3) := by decide +kernel
theorem dW_1689 : decode code 1689 = .ok (.aload_n 3, 1) := by decide +kernel
theorem dW_1690 : decode code 1690 = .ok (.iconst 0, 1) := by decide +kernel
theorem dW_1691 : decode code 1691 = .ok (.laload, 1) := by decide +kernel
theorem dW_1692 : decode code 1692 = .ok (.iload 7, 2) := by decide +kernel
theorem dW_1694 : decode code 1694 = .ok (.i2l, 1) := by decide +kernel
theorem dW_1695 : decode code 1695 = .ok (.lcmp, 1) := by decide +kernel
theorem dW_1696 : decode code 1696 = .ok (.ifCond .eq 5, 3) := by decide +kernel
theorem dW_1701 : decode code 1701 = .ok (.goto 1021, 3) := by decide +kernel
theorem dW_1704 : decode code 1704 = .ok (.aload_n 1, 1) := by decide +kernel
theorem dW_1705 : decode code 1705 = .ok (.aload_n 0, 1) := by decide +kernel
theorem dW_1706 : decode code 1706 = .ok (.iload 5, 2) := by decide +kernel
theorem dW_1708 : decode code 1708 = .ok (.iconst 1, 1) := by decide +kernel
theorem dW_1709 : decode code 1709 = .ok (.iadd, 1) := by decide +kernel
theorem dW_1710 : decode code 1710 = .ok (.iaload, 1) := by decide +kernel
theorem dW_1711 : decode code 1711 = .ok (.aload_n 3, 1) := by decide +kernel
theorem dW_1712 : decode code 1712 = .ok (.invokestatic 244, 3) := by decide +kernel
theorem dW_1715 : decode code 1715 = .ok (.istore 6, 2) := by decide +kernel
theorem dW_1717 : decode code 1717 = .ok (.aload_n 2, 1) := by decide +kernel
theorem dW_1718 : decode code 1718 = .ok (.aload_n 0, 1) := by decide +kernel
theorem dW_1719 : decode code 1719 = .ok (.iload 5, 2) := by decide +kernel
theorem dW_1721 : decode code 1721 = .ok (.iconst 1, 1) := by decide +kernel
theorem dW_1722 : decode code 1722 = .ok (.iadd, 1) := by decide +kernel
theorem dW_1723 : decode code 1723 = .ok (.iaload, 1) := by decide +kernel
theorem dW_1724 : decode code 1724 = .ok (.invokevirtual 246, 3) := by decide +kernel
theorem dW_1727 : decode code 1727 = .ok (.istore 7, 2) := by decide +kernel
theorem dW_1729 : decode code 1729 = .ok (.aload_n 2, 1) := by decide +kernel
theorem dW_1730 : decode code 1730 = .ok (.invokevirtual 160, 3) := by decide +kernel
theorem dW_1733 : decode code 1733 = .ok (.iload 6, 2) := by decide +kernel
theorem dW_1735 : decode code 1735 = .ok (.if_icmp .eq 5, 3) := by decide +kernel
theorem dW_1740 : decode code 1740 = .ok (.iload 6, 2) := by decide +kernel
theorem dW_1742 : decode code 1742 = .ok (.ifCond .ne 15, 3) := by decide +kernel
theorem dW_1745 : decode code 1745 = .ok (.aload_n 3, 1) := by decide +kernel
theorem dW_1746 : decode code 1746 = .ok (.iconst 0, 1) := by decide +kernel
theorem dW_1747 : decode code 1747 = .ok (.laload, 1) := by decide +kernel
theorem dW_1748 : decode code 1748 = .ok (.iload 7, 2) := by decide +kernel
theorem dW_1750 : decode code 1750 = .ok (.i2l, 1) := by decide +kernel
theorem dW_1751 : decode code 1751 = .ok (.lcmp, 1) := by decide +kernel
theorem dW_1752 : decode code 1752 = .ok (.ifCond .eq 5, 3) := by decide +kernel
theorem dW_1757 : decode code 1757 = .ok (.goto 965, 3) := by decide +kernel
theorem dW_1760 : decode code 1760 = .ok (.aload_n 1, 1) := by decide +kernel
theorem dW_1761 : decode code 1761 = .ok (.aload_n 0, 1) := by decide +kernel
theorem dW_1762 : decode code 1762 = .ok (.iload 5, 2) := by decide +kernel
theorem dW_1764 : decode code 1764 = .ok (.iconst 1, 1) := by decide +kernel
theorem dW_1765 : decode code 1765 = .ok (.iadd, 1) := by decide +kernel
theorem dW_1766 : decode code 1766 = .ok (.iaload, 1) := by decide +kernel
theorem dW_1767 : decode code 1767 = .ok (.aload_n 0, 1) := by decide +kernel
theorem dW_1768 : decode code 1768 = .ok (.iload 5, 2) := by decide +kernel
theorem dW_1770 : decode code 1770 = .ok (.iconst 2, 1) := by decide +kernel
theorem dW_1771 : decode code 1771 = .ok (.iadd, 1) := by decide +kernel
theorem dW_1772 : decode code 1772 = .ok (.iaload, 1) := by decide +kernel
theorem dW_1773 : decode code 1773 = .ok (.aload_n 3, 1) := by decide +kernel
theorem dW_1774 : decode code 1774 = .ok (.invokestatic 247, 3) := by decide +kernel
theorem dW_1777 : decode code 1777 = .ok (.istore 6, 2) := by decide +kernel
theorem dW_1779 : decode code 1779 = .ok (.aload_n 2, 1) := by decide +kernel
theorem dW_1780 : decode code 1780 = .ok (.aload_n 0, 1) := by decide +kernel
theorem dW_1781 : decode code 1781 = .ok (.iload 5, 2) := by decide +kernel
theorem dW_1783 : decode code 1783 = .ok (.iconst 1, 1) := by decide +kernel
theorem dW_1784 : decode code 1784 = .ok (.iadd, 1) := by decide +kernel
theorem dW_1785 : decode code 1785 = .ok (.iaload, 1) := by decide +kernel
theorem dW_1786 : decode code 1786 = .ok (.aload_n 0, 1) := by decide +kernel
theorem dW_1787 : decode code 1787 = .ok (.iload 5, 2) := by decide +kernel
theorem dW_1789 : decode code 1789 = .ok (.iconst 2, 1) := by decide +kernel
theorem dW_1790 : decode code 1790 = .ok (.iadd, 1) := by decide +kernel
theorem dW_1791 : decode code 1791 = .ok (.iaload, 1) := by decide +kernel
theorem dW_1792 : decode code 1792 = .ok (.invokevirtual 249, 3) := by decide +kernel
theorem dW_1795 : decode code 1795 = .ok (.istore 7, 2) := by decide +kernel
theorem dW_1797 : decode code 1797 = .ok (.aload_n 2, 1) := by decide +kernel
theorem dW_1798 : decode code 1798 = .ok (.invokevirtual 160, 3) := by decide +kernel
theorem dW_1801 : decode code 1801 = .ok (.iload 6, 2) := by decide +kernel
theorem dW_1803 : decode code 1803 = .ok (.if_icmp .eq 5, 3) := by decide +kernel
theorem dW_1808 : decode code 1808 = .ok (.iload 6, 2) := by decide +kernel
theorem dW_1810 : decode code 1810 = .ok (.ifCond .ne 15, 3) := by decide +kernel
theorem dW_1813 : decode code 1813 = .ok (.aload_n 3, 1) := by decide +kernel
theorem dW_1814 : decode code 1814 = .ok (.iconst 0, 1) := by decide +kernel
theorem dW_1815 : decode code 1815 = .ok (.laload, 1) := by decide +kernel
theorem dW_1816 : decode code 1816 = .ok (.iload 7, 2) := by decide +kernel
theorem dW_1818 : decode code 1818 = .ok (.i2l, 1) := by decide +kernel
theorem dW_1819 : decode code 1819 = .ok (.lcmp, 1) := by decide +kernel
theorem dW_1820 : decode code 1820 = .ok (.ifCond .eq 5, 3) := by decide +kernel
theorem dW_1825 : decode code 1825 = .ok (.goto 897, 3) := by decide +kernel
theorem dW_1828 : decode code 1828 = .ok (.aload_n 1, 1) := by decide +kernel
theorem dW_1829 : decode code 1829 = .ok (.aload_n 0, 1) := by decide +kernel
theorem dW_1830 : decode code 1830 = .ok (.iload 5, 2) := by decide +kernel
theorem dW_1832 : decode code 1832 = .ok (.iconst 1, 1) := by decide +kernel
theorem dW_1833 : decode code 1833 = .ok (.iadd, 1) := by decide +kernel
theorem dW_1834 : decode code 1834 = .ok (.iaload, 1) := by decide +kernel
theorem dW_1835 : decode code 1835 = .ok (.aload_n 3, 1) := by decide +kernel
theorem dW_1836 : decode code 1836 = .ok (.invokestatic 250, 3) := by decide +kernel
theorem dW_1839 : decode code 1839 = .ok (.istore 6, 2) := by decide +kernel
theorem dW_1841 : decode code 1841 = .ok (.aload_n 2, 1) := by decide +kernel
theorem dW_1842 : decode code 1842 = .ok (.aload_n 0, 1) := by decide +kernel
theorem dW_1843 : decode code 1843 = .ok (.iload 5, 2) := by decide +kernel
theorem dW_1845 : decode code 1845 = .ok (.iconst 1, 1) := by decide +kernel
theorem dW_1846 : decode code 1846 = .ok (.iadd, 1) := by decide +kernel
theorem dW_1847 : decode code 1847 = .ok (.iaload, 1) := by decide +kernel
theorem dW_1848 : decode code 1848 = .ok (.invokevirtual 252, 3) := by decide +kernel
theorem dW_1851 : decode code 1851 = .ok (.istore 7, 2) := by decide +kernel
theorem dW_1853 : decode code 1853 = .ok (.aload_n 2, 1) := by decide +kernel
theorem dW_1854 : decode code 1854 = .ok (.invokevirtual 160, 3) := by decide +kernel
theorem dW_1857 : decode code 1857 = .ok (.iload 6, 2) := by decide +kernel
theorem dW_1859 : decode code 1859 = .ok (.if_icmp .eq 5, 3) := by decide +kernel
theorem dW_1864 : decode code 1864 = .ok (.iload 6, 2) := by decide +kernel
theorem dW_1866 : decode code 1866 = .ok (.ifCond .ne 15, 3) := by decide +kernel
theorem dW_1869 : decode code 1869 = .ok (.aload_n 3, 1) := by decide +kernel
theorem dW_1870 : decode code 1870 = .ok (.iconst 0, 1) := by decide +kernel
theorem dW_1871 : decode code 1871 = .ok (.laload, 1) := by decide +kernel
theorem dW_1872 : decode code 1872 = .ok (.iload 7, 2) := by decide +kernel
theorem dW_1874 : decode code 1874 = .ok (.i2l, 1) := by decide +kernel
theorem dW_1875 : decode code 1875 = .ok (.lcmp, 1) := by decide +kernel
theorem dW_1876 : decode code 1876 = .ok (.ifCond .eq 5, 3) := by decide +kernel
theorem dW_1881 : decode code 1881 = .ok (.goto 841, 3) := by decide +kernel
theorem dW_1884 : decode code 1884 = .ok (.aload_n 1, 1) := by decide +kernel
theorem dW_1885 : decode code 1885 = .ok (.invokevirtual 253, 3) := by decide +kernel
theorem dW_1888 : decode code 1888 = .ok (.aload_n 2, 1) := by decide +kernel
theorem dW_1889 : decode code 1889 = .ok (.invokevirtual 256, 3) := by decide +kernel
theorem dW_1892 : decode code 1892 = .ok (.if_icmp .eq 830, 3) := by decide +kernel
theorem dW_1897 : decode code 1897 = .ok (.aload_n 1, 1) := by decide +kernel
theorem dW_1898 : decode code 1898 = .ok (.invokevirtual 257, 3) := by decide +kernel
theorem dW_1901 : decode code 1901 = .ok (.aload_n 2, 1) := by decide +kernel
theorem dW_1902 : decode code 1902 = .ok (.invokevirtual 260, 3) := by decide +kernel
theorem dW_1905 : decode code 1905 = .ok (.if_icmp .eq 817, 3) := by decide +kernel
theorem dW_1910 : decode code 1910 = .ok (.aload_n 1, 1) := by decide +kernel
theorem dW_1911 : decode code 1911 = .ok (.aload_n 0, 1) := by decide +kernel
theorem dW_1912 : decode code 1912 = .ok (.iload 5, 2) := by decide +kernel
theorem dW_1914 : decode code 1914 = .ok (.iconst 1, 1) := by decide +kernel
theorem dW_1915 : decode code 1915 = .ok (.iadd, 1) := by decide +kernel
theorem dW_1916 : decode code 1916 = .ok (.iaload, 1) := by decide +kernel
theorem dW_1917 : decode code 1917 = .ok (.aload_n 3, 1) := by decide +kernel
theorem dW_1918 : decode code 1918 = .ok (.invokestatic 261, 3) := by decide +kernel
theorem dW_1921 : decode code 1921 = .ok (.istore 6, 2) := by decide +kernel
theorem dW_1923 : decode code 1923 = .ok (.aload_n 2, 1) := by decide +kernel
theorem dW_1924 : decode code 1924 = .ok (.aload_n 0, 1) := by decide +kernel
theorem dW_1925 : decode code 1925 = .ok (.iload 5, 2) := by decide +kernel
theorem dW_1927 : decode code 1927 = .ok (.iconst 1, 1) := by decide +kernel
theorem dW_1928 : decode code 1928 = .ok (.iadd, 1) := by decide +kernel
theorem dW_1929 : decode code 1929 = .ok (.iaload, 1) := by decide +kernel
theorem dW_1930 : decode code 1930 = .ok (.invokevirtual 263, 3) := by decide +kernel
theorem dW_1933 : decode code 1933 = .ok (.istore 7, 2) := by decide +kernel
theorem dW_1935 : decode code 1935 = .ok (.aload_n 2, 1) := by decide +kernel
theorem dW_1936 : decode code 1936 = .ok (.invokevirtual 160, 3) := by decide +kernel
theorem dW_1939 : decode code 1939 = .ok (.iload 6, 2) := by decide +kernel
theorem dW_1941 : decode code 1941 = .ok (.if_icmp .eq 5, 3) := by decide +kernel
theorem dW_1946 : decode code 1946 = .ok (.iload 6, 2) := by decide +kernel
theorem dW_1948 : decode code 1948 = .ok (.ifCond .ne 15, 3) := by decide +kernel
theorem dW_1951 : decode code 1951 = .ok (.aload_n 3, 1) := by decide +kernel
theorem dW_1952 : decode code 1952 = .ok (.iconst 0, 1) := by decide +kernel
theorem dW_1953 : decode code 1953 = .ok (.laload, 1) := by decide +kernel
theorem dW_1954 : decode code 1954 = .ok (.iload 7, 2) := by decide +kernel
theorem dW_1956 : decode code 1956 = .ok (.i2l, 1) := by decide +kernel
theorem dW_1957 : decode code 1957 = .ok (.lcmp, 1) := by decide +kernel
theorem dW_1958 : decode code 1958 = .ok (.ifCond .eq 5, 3) := by decide +kernel
theorem dW_1963 : decode code 1963 = .ok (.goto 759, 3) := by decide +kernel
theorem dW_1966 : decode code 1966 = .ok (.aload_n 1, 1) := by decide +kernel
theorem dW_1967 : decode code 1967 = .ok (.aload_n 0, 1) := by decide +kernel
theorem dW_1968 : decode code 1968 = .ok (.iload 5, 2) := by decide +kernel
theorem dW_1970 : decode code 1970 = .ok (.iconst 1, 1) := by decide +kernel
theorem dW_1971 : decode code 1971 = .ok (.iadd, 1) := by decide +kernel
theorem dW_1972 : decode code 1972 = .ok (.iaload, 1) := by decide +kernel
theorem dW_1973 : decode code 1973 = .ok (.aload_n 3, 1) := by decide +kernel
theorem dW_1974 : decode code 1974 = .ok (.invokestatic 264, 3) := by decide +kernel
theorem dW_1977 : decode code 1977 = .ok (.istore 6, 2) := by decide +kernel
theorem dW_1979 : decode code 1979 = .ok (.aload_n 2, 1) := by decide +kernel
theorem dW_1980 : decode code 1980 = .ok (.aload_n 0, 1) := by decide +kernel
theorem dW_1981 : decode code 1981 = .ok (.iload 5, 2) := by decide +kernel
theorem dW_1983 : decode code 1983 = .ok (.iconst 1, 1) := by decide +kernel
theorem dW_1984 : decode code 1984 = .ok (.iadd, 1) := by decide +kernel
theorem dW_1985 : decode code 1985 = .ok (.iaload, 1) := by decide +kernel
theorem dW_1986 : decode code 1986 = .ok (.invokevirtual 266, 3) := by decide +kernel
theorem dW_1989 : decode code 1989 = .ok (.istore 7, 2) := by decide +kernel
theorem dW_1991 : decode code 1991 = .ok (.aload_n 2, 1) := by decide +kernel
theorem dW_1992 : decode code 1992 = .ok (.invokevirtual 160, 3) := by decide +kernel
theorem dW_1995 : decode code 1995 = .ok (.iload 6, 2) := by decide +kernel
theorem dW_1997 : decode code 1997 = .ok (.if_icmp .eq 5, 3) := by decide +kernel
theorem dW_2002 : decode code 2002 = .ok (.iload 6, 2) := by decide +kernel
theorem dW_2004 : decode code 2004 = .ok (.ifCond .ne 15, 3) := by decide +kernel
theorem dW_2007 : decode code 2007 = .ok (.aload_n 3, 1) := by decide +kernel
theorem dW_2008 : decode code 2008 = .ok (.iconst 0, 1) := by decide +kernel
theorem dW_2009 : decode code 2009 = .ok (.laload, 1) := by decide +kernel
theorem dW_2010 : decode code 2010 = .ok (.iload 7, 2) := by decide +kernel
theorem dW_2012 : decode code 2012 = .ok (.i2l, 1) := by decide +kernel
theorem dW_2013 : decode code 2013 = .ok (.lcmp, 1) := by decide +kernel
theorem dW_2014 : decode code 2014 = .ok (.ifCond .eq 5, 3) := by decide +kernel
theorem dW_2019 : decode code 2019 = .ok (.goto 703, 3) := by decide +kernel
theorem dW_2022 : decode code 2022 = .ok (.aload_n 1, 1) := by decide +kernel
theorem dW_2023 : decode code 2023 = .ok (.aload_n 0, 1) := by decide +kernel
theorem dW_2024 : decode code 2024 = .ok (.iload 5, 2) := by decide +kernel
theorem dW_2026 : decode code 2026 = .ok (.iconst 1, 1) := by decide +kernel
theorem dW_2027 : decode code 2027 = .ok (.iadd, 1) := by decide +kernel
theorem dW_2028 : decode code 2028 = .ok (.iaload, 1) := by decide +kernel
theorem dW_2029 : decode code 2029 = .ok (.aload_n 3, 1) := by decide +kernel
theorem dW_2030 : decode code 2030 = .ok (.invokestatic 267, 3) := by decide +kernel
theorem dW_2033 : decode code 2033 = .ok (.istore 6, 2) := by decide +kernel
theorem dW_2035 : decode code 2035 = .ok (.aload_n 2, 1) := by decide +kernel
theorem dW_2036 : decode code 2036 = .ok (.aload_n 0, 1) := by decide +kernel
theorem dW_2037 : decode code 2037 = .ok (.iload 5, 2) := by decide +kernel
theorem dW_2039 : decode code 2039 = .ok (.iconst 1, 1) := by decide +kernel
theorem dW_2040 : decode code 2040 = .ok (.iadd, 1) := by decide +kernel
theorem dW_2041 : decode code 2041 = .ok (.iaload, 1) := by decide +kernel
theorem dW_2042 : decode code 2042 = .ok (.invokevirtual 269, 3) := by decide +kernel
theorem dW_2045 : decode code 2045 = .ok (.istore 7, 2) := by decide +kernel
theorem dW_2047 : decode code 2047 = .ok (.aload_n 2, 1) := by decide +kernel
theorem dW_2048 : decode code 2048 = .ok (.invokevirtual 160, 3) := by decide +kernel
theorem dW_2051 : decode code 2051 = .ok (.iload 6, 2) := by decide +kernel
theorem dW_2053 : decode code 2053 = .ok (.if_icmp .eq 5, 3) := by decide +kernel
theorem dW_2058 : decode code 2058 = .ok (.iload 6, 2) := by decide +kernel
theorem dW_2060 : decode code 2060 = .ok (.ifCond .ne 15, 3) := by decide +kernel
theorem dW_2063 : decode code 2063 = .ok (.aload_n 3, 1) := by decide +kernel
theorem dW_2064 : decode code 2064 = .ok (.iconst 0, 1) := by decide +kernel
theorem dW_2065 : decode code 2065 = .ok (.laload, 1) := by decide +kernel
theorem dW_2066 : decode code 2066 = .ok (.iload 7, 2) := by decide +kernel
theorem dW_2068 : decode code 2068 = .ok (.i2l, 1) := by decide +kernel
theorem dW_2069 : decode code 2069 = .ok (.lcmp, 1) := by decide +kernel
theorem dW_2070 : decode code 2070 = .ok (.ifCond .eq 5, 3) := by decide +kernel
