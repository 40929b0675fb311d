theorem dL_law_1488 : decode cL_law 1488 = .ok (.ireturn, 1) := by decide +kernel
theorem dL_law_1489 : decode cL_law 1489 = .ok (.iload 5, 2) := by decide +kernel
theorem dL_law_1491 : decode cL_law 1491 = .ok (.ifCond .ne 15, 3) := by decide +kernel
theorem dL_law_1494 : decode cL_law 1494 = .ok (.aload_n 3, 1) := by decide +kernel
theorem dL_law_1495 : decode cL_law 1495 = .ok (.iconst 0, 1) := by decide +kernel
theorem dL_law_1496 : decode cL_law 1496 = .ok (.laload, 1) := by decide +kernel
theorem dL_law_1497 : decode cL_law 1497 = .ok (.iload 6, 2) := by decide +kernel
theorem dL_law_1499 : decode cL_law 1499 = .ok (.i2l, 1) := by decide +kernel
theorem dL_law_1500 : decode cL_law 1500 = .ok (.lcmp, 1) := by decide +kernel
theorem dL_law_1501 : decode cL_law 1501 = .ok (.ifCond .eq 5, 3) := by decide +kernel
theorem dL_law_1504 : decode cL_law 1504 = .ok (.iconst 0, 1) := by decide +kernel
theorem dL_law_1505 : decode cL_law 1505 = .ok (.ireturn, 1) := by decide +kernel
theorem dL_law_1506 : decode cL_law 1506 = .ok (.goto 1181, 3) := by decide +kernel
theorem dL_law_1509 : decode cL_law 1509 = .ok (.aload_n 1, 1) := by decide +kernel
theorem dL_law_1510 : decode cL_law 1510 = .ok (.aload_n 0, 1) := by decide +kernel
theorem dL_law_1511 : decode cL_law 1511 = .ok (.iload 4, 2) := by decide +kernel
theorem dL_law_1513 : decode cL_law 1513 = .ok (.iconst 1, 1) := by decide +kernel
theorem dL_law_1514 : decode cL_law 1514 = .ok (.iadd, 1) := by decide +kernel
theorem dL_law_1515 : decode cL_law 1515 = .ok (.iaload, 1) := by decide +kernel
theorem dL_law_1516 : decode cL_law 1516 = .ok (.aload_n 3, 1) := by decide +kernel
theorem dL_law_1517 : decode cL_law 1517 = .ok (.invokestatic 203, 3) := by decide +kernel
theorem dL_law_1520 : decode cL_law 1520 = .ok (.istore 5, 2) := by decide +kernel
theorem dL_law_1522 : decode cL_law 1522 = .ok (.aload_n 2, 1) := by decide +kernel
theorem dL_law_1523 : decode cL_law 1523 = .ok (.aload_n 0, 1) := by decide +kernel
theorem dL_law_1524 : decode cL_law 1524 = .ok (.iload 4, 2) := by decide +kernel
theorem dL_law_1526 : decode cL_law 1526 = .ok (.iconst 1, 1) := by decide +kernel
theorem dL_law_1527 : decode cL_law 1527 = .ok (.iadd, 1) := by decide +kernel
theorem dL_law_1528 : decode cL_law 1528 = .ok (.iaload, 1) := by decide +kernel
theorem dL_law_1529 : decode cL_law 1529 = .ok (.invokevirtual 205, 3) := by decide +kernel
theorem dL_law_1532 : decode cL_law 1532 = .ok (.istore 6, 2) := by decide +kernel
theorem dL_law_1534 : decode cL_law 1534 = .ok (.aload_n 2, 1) := by decide +kernel
theorem dL_law_1535 : decode cL_law 1535 = .ok (.invokevirtual 143, 3) := by decide +kernel
theorem dL_law_1538 : decode cL_law 1538 = .ok (.iload 5, 2) := by decide +kernel
theorem dL_law_1540 : decode cL_law 1540 = .ok (.if_icmp .eq 5, 3) := by decide +kernel
theorem dL_law_1543 : decode cL_law 1543 = .ok (.iconst 0, 1) := by decide +kernel
theorem dL_law_1544 : decode cL_law 1544 = .ok (.ireturn, 1) := by decide +kernel
theorem dL_law_1545 : decode cL_law 1545 = .ok (.iload 5, 2) := by decide +kernel
theorem dL_law_1547 : decode cL_law 1547 = .ok (.ifCond .ne 15, 3) := by decide +kernel
theorem dL_law_1550 : decode cL_law 1550 = .ok (.aload_n 3, 1) := by decide +kernel
theorem dL_law_1551 : decode cL_law 1551 = .ok (.iconst 0, 1) := by decide +kernel
theorem dL_law_1552 : decode cL_law 1552 = .ok (.laload, 1) := by decide +kernel
theorem dL_law_1553 : decode cL_law 1553 = .ok (.iload 6, 2) := by decide +kernel
theorem dL_law_1555 : decode cL_law 1555 = .ok (.i2l, 1) := by decide +kernel
theorem dL_law_1556 : decode cL_law 1556 = .ok (.lcmp, 1) := by decide +kernel
theorem dL_law_1557 : decode cL_law 1557 = .ok (.ifCond .eq 5, 3) := by decide +kernel
theorem dL_law_1560 : decode cL_law 1560 = .ok (.iconst 0, 1) := by decide +kernel
theorem dL_law_1561 : decode cL_law 1561 = .ok (.ireturn, 1) := by decide +kernel
theorem dL_law_1562 : decode cL_law 1562 = .ok (.goto 1125, 3) := by decide +kernel
theorem dL_law_1565 : decode cL_law 1565 = .ok (.aload_n 1, 1) := by decide +kernel
theorem dL_law_1566 : decode cL_law 1566 = .ok (.aload_n 0, 1) := by decide +kernel
theorem dL_law_1567 : decode cL_law 1567 = .ok (.iload 4, 2) := by decide +kernel
theorem dL_law_1569 : decode cL_law 1569 = .ok (.iconst 1, 1) := by decide +kernel
theorem dL_law_1570 : decode cL_law 1570 = .ok (.iadd, 1) := by decide +kernel
theorem dL_law_1571 : decode cL_law 1571 = .ok (.iaload, 1) := by decide +kernel
theorem dL_law_1572 : decode cL_law 1572 = .ok (.aload_n 3, 1) := by decide +kernel
theorem dL_law_1573 : decode cL_law 1573 = .ok (.invokestatic 206, 3) := by decide +kernel
theorem dL_law_1576 : decode cL_law 1576 = .ok (.istore 5, 2) := by decide +kernel
theorem dL_law_1578 : decode cL_law 1578 = .ok (.aload_n 2, 1) := by decide +kernel
theorem dL_law_1579 : decode cL_law 1579 = .ok (.aload_n 0, 1) := by decide +kernel
theorem dL_law_1580 : decode cL_law 1580 = .ok (.iload 4, 2) := by decide +kernel
theorem dL_law_1582 : decode cL_law 1582 = .ok (.iconst 1, 1) := by decide +kernel
theorem dL_law_1583 : decode cL_law 1583 = .ok (.iadd, 1) := by decide +kernel
theorem dL_law_1584 : decode cL_law 1584 = .ok (.iaload, 1) := by decide +kernel
theorem dL_law_1585 : decode cL_law 1585 = .ok (.invokevirtual 208, 3) := by decide +kernel
theorem dL_law_1588 : decode cL_law 1588 = .ok (.istore 6, 2) := by decide +kernel
theorem dL_law_1590 : decode cL_law 1590 = .ok (.aload_n 2, 1) := by decide +kernel
theorem dL_law_1591 : decode cL_law 1591 = .ok (.invokevirtual 143, 3) := by decide +kernel
theorem dL_law_1594 : decode cL_law 1594 = .ok (.iload 5, 2) := by decide +kernel
theorem dL_law_1596 : decode cL_law 1596 = .ok (.if_icmp .eq 5, 3) := by decide +kernel
theorem dL_law_1599 : decode cL_law 1599 = .ok (.iconst 0, 1) := by decide +kernel
theorem dL_law_1600 : decode cL_law 1600 = .ok (.ireturn, 1) := by decide +kernel
theorem dL_law_1601 : decode cL_law 1601 = .ok (.iload 5, 2) := by decide +kernel
theorem dL_law_1603 : decode cL_law 1603 = .ok (.ifCond .ne 15, 3) := by decide +kernel
theorem dL_law_1606 : decode cL_law 1606 = .ok (.aload_n 3, 1) := by decide +kernel
theorem dL_law_1607 : decode cL_law 1607 = .ok (.iconst 0, 1) := by decide +kernel
theorem dL_law_1608 : decode cL_law 1608 = .ok (.laload, 1) := by decide +kernel
theorem dL_law_1609 : decode cL_law 1609 = .ok (.iload 6, 2) := by decide +kernel
theorem dL_law_1611 : decode cL_law 1611 = .ok (.i2l, 1) := by decide +kernel
theorem dL_law_1612 : decode cL_law 1612 = .ok (.lcmp, 1) := by decide +kernel
theorem dL_law_1613 : decode cL_law 1613 = .ok (.ifCond .eq 5, 3) := by decide +kernel
theorem dL_law_1616 : decode cL_law 1616 = .ok (.iconst 0, 1) := by decide +kernel
theorem dL_law_1617 : decode cL_law 1617 = .ok (.ireturn, 1) := by decide +kernel
theorem dL_law_1618 : decode cL_law 1618 = .ok (.goto 1069, 3) := by decide +kernel
theorem dL_law_1621 : decode cL_law 1621 = .ok (.aload_n 1, 1) := by decide +kernel
theorem dL_law_1622 : decode cL_law 1622 = .ok (.invokevirtual 209, 3) := by decide +kernel
theorem dL_law_1625 : decode cL_law 1625 = .ok (.aload_n 2, 1) := by decide +kernel
theorem dL_law_1626 : decode cL_law 1626 = .ok (.invokevirtual 212, 3) := by decide +kernel
theorem dL_law_1629 : decode cL_law 1629 = .ok (.if_icmp .eq 1058, 3) := by decide +kernel
theorem dL_law_1632 : decode cL_law 1632 = .ok (.iconst 0, 1) := by decide +kernel
theorem dL_law_1633 : decode cL_law 1633 = .ok (.ireturn, 1) := by decide +kernel
theorem dL_law_1634 : decode cL_law 1634 = .ok (.aload_n 1, 1) := by decide +kernel
theorem dL_law_1635 : decode cL_law 1635 = .ok (.invokevirtual 213, 3) := by decide +kernel
theorem dL_law_1638 : decode cL_law 1638 = .ok (.aload_n 2, 1) := by decide +kernel
theorem dL_law_1639 : decode cL_law 1639 = .ok (.invokevirtual 216, 3) := by decide +kernel
theorem dL_law_1642 : decode cL_law 1642 = .ok (.if_icmp .eq 1045, 3) := by decide +kernel
theorem dL_law_1645 : decode cL_law 1645 = .ok (.iconst 0, 1) := by decide +kernel
theorem dL_law_1646 : decode cL_law 1646 = .ok (.ireturn, 1) := by decide +kernel
theorem dL_law_1647 : decode cL_law 1647 = .ok (.aload_n 1, 1) := by decide +kernel
theorem dL_law_1648 : decode cL_law 1648 = .ok (.aload_n 0, 1) := by decide +kernel
theorem dL_law_1649 : decode cL_law 1649 = .ok (.iload 4, 2) := by decide +kernel
theorem dL_law_1651 : decode cL_law 1651 = .ok (.iconst 1, 1) := by decide +kernel
theorem dL_law_1652 : decode cL_law 1652 = .ok (.iadd, 1) := by decide +kernel
theorem dL_law_1653 : decode cL_law 1653 = .ok (.iaload, 1) := by decide +kernel
theorem dL_law_1654 : decode cL_law 1654 = .ok (.aload_n 3, 1) := by decide +kernel
theorem dL_law_1655 : decode cL_law 1655 = .ok (.invokestatic 217, 3) := by decide +kernel
theorem dL_law_1658 : decode cL_law 1658 = .ok (.istore 5, 2) := by decide +kernel
theorem dL_law_1660 : decode cL_law 1660 = .ok (.aload_n 2, 1) := by decide +kernel
theorem dL_law_1661 : decode cL_law 1661 = .ok (.aload_n 0, 1) := by decide +kernel
theorem dL_law_1662 : decode cL_law 1662 = .ok (.iload 4, 2) := by decide +kernel
theorem dL_law_1664 : decode cL_law 1664 = .ok (.iconst 1, 1) := by decide +kernel
theorem dL_law_1665 : decode cL_law 1665 = .ok (.iadd, 1) := by decide +kernel
theorem dL_law_1666 : decode cL_law 1666 = .ok (.iaload, 1) := by decide +kernel
theorem dL_law_1667 : decode cL_law 1667 = .ok (.invokevirtual 219, 3) := by decide +kernel
theorem dL_law_1670 : decode cL_law 1670 = .ok (.istore 6, 2) := by decide +kernel
theorem dL_law_1672 : decode cL_law 1672 = .ok (.aload_n 2, 1) := by decide +kernel
theorem dL_law_1673 : decode cL_law 1673 = .ok (.invokevirtual 143, 3) := by decide +kernel
theorem dL_law_1676 : decode cL_law 1676 = .ok (.iload 5, 2) := by decide +kernel
theorem dL_law_1678 : decode cL_law 1678 = .ok (.if_icmp .eq 5, 3) := by decide +kernel
theorem dL_law_1681 : decode cL_law 1681 = .ok (.iconst 0, 1) := by decide +kernel
theorem dL_law_1682 : decode cL_law 1682 = .ok (.ireturn, 1) := by decide +kernel
theorem dL_law_1683 : decode cL_law 1683 = .ok (.iload 5, 2) := by decide +kernel
theorem dL_law_1685 : decode cL_law 1685 = .ok (.ifCond .ne 15, 3) := by decide +kernel
theorem dL_law_1688 : decode cL_law 1688 = .ok (.aload_n 3, 1) := by decide +kernel
theorem dL_law_1689 : decode cL_law 1689 = .ok (.iconst 0, 1) := by decide +kernel
theorem dL_law_1690 : decode cL_law 1690 = .ok (.laload, 1) := by decide +kernel
theorem dL_law_1691 : decode cL_law 1691 = .ok (.iload 6, 2) := by decide +kernel
theorem dL_law_1693 : decode cL_law 1693 = .ok (.i2l, 1) := by decide +kernel
theorem dL_law_1694 : decode cL_law 1694 = .ok (.lcmp, 1) := by decide +kernel
theorem dL_law_1695 : decode cL_law 1695 = .ok (.ifCond .eq 5, 3) := by decide +kernel
theorem dL_law_1698 : decode cL_law 1698 = .ok (.iconst 0, 1) := by decide +kernel
theorem dL_law_1699 : decode cL_law 1699 = .ok (.ireturn, 1) := by decide +kernel
theorem dL_law_1700 : decode cL_law 1700 = .ok (.goto 987, 3) := by decide +kernel
theorem dL_law_1703 : decode cL_law 1703 = .ok (.aload_n 1, 1) := by decide +kernel
theorem dL_law_1704 : decode cL_law 1704 = .ok (.invokevirtual 220, 3) := by decide +kernel
theorem dL_law_1707 : decode cL_law 1707 = .ok (.aload_n 2, 1) := by decide +kernel
theorem dL_law_1708 : decode cL_law 1708 = .ok (.invokevirtual 223, 3) := by decide +kernel
theorem dL_law_1711 : decode cL_law 1711 = .ok (.if_icmp .eq 976, 3) := by decide +kernel
theorem dL_law_1714 : decode cL_law 1714 = .ok (.iconst 0, 1) := by decide +kernel
theorem dL_law_1715 : decode cL_law 1715 = .ok (.ireturn, 1) := by decide +kernel
theorem dL_law_1716 : decode cL_law 1716 = .ok (.aload_n 1, 1) := by decide +kernel
theorem dL_law_1717 : decode cL_law 1717 = .ok (.aload_n 0, 1) := by decide +kernel
theorem dL_law_1718 : decode cL_law 1718 = .ok (.iload 4, 2) := by decide +kernel
theorem dL_law_1720 : decode cL_law 1720 = .ok (.iconst 1, 1) := by decide +kernel
theorem dL_law_1721 : decode cL_law 1721 = .ok (.iadd, 1) := by decide +kernel
theorem dL_law_1722 : decode cL_law 1722 = .ok (.iaload, 1) := by decide +kernel
theorem dL_law_1723 : decode cL_law 1723 = .ok (.aload_n 0, 1) := by decide +kernel
theorem dL_law_1724 : decode cL_law 1724 = .ok (.iload 4, 2) := by decide +kernel
theorem dL_law_1726 : decode cL_law 1726 = .ok (.iconst 2, 1) := by decide +kernel
theorem dL_law_1727 : decode cL_law 1727 = .ok (.iadd, 1) := by decide +kernel
theorem dL_law_1728 : decode cL_law 1728 = .ok (.iaload, 1) := by decide +kernel
theorem dL_law_1729 : decode cL_law 1729 = .ok (.aload_n 3, 1) := by decide +kernel
theorem dL_law_1730 : decode cL_law 1730 = .ok (.invokestatic 224, 3) := by decide +kernel
theorem dL_law_1733 : decode cL_law 1733 = .ok (.istore 5, 2) := by decide +kernel
theorem dL_law_1735 : decode cL_law 1735 = .ok (.aload_n 2, 1) := by decide +kernel
theorem dL_law_1736 : decode cL_law 1736 = .ok (.aload_n 0, 1) := by decide +kernel
theorem dL_law_1737 : decode cL_law 1737 = .ok (.iload 4, 2) := by decide +kernel
theorem dL_law_1739 : decode cL_law 1739 = .ok (.iconst 1, 1) := by decide +kernel
theorem dL_law_1740 : decode cL_law 1740 = .ok (.iadd, 1) := by decide +kernel
theorem dL_law_1741 : decode cL_law 1741 = .ok (.iaload, 1) := by decide +kernel
theorem dL_law_1742 : decode cL_law 1742 = .ok (.aload_n 0, 1) := by decide +kernel
theorem dL_law_1743 : decode cL_law 1743 = .ok (.iload 4, 2) := by decide +kernel
theorem dL_law_1745 : decode cL_law 1745 = .ok (.iconst 2, 1) := by decide +kernel
theorem dL_law_1746 : decode cL_law 1746 = .ok (.iadd, 1) := by decide +kernel
theorem dL_law_1747 : decode cL_law 1747 = .ok (.iaload, 1) := by decide +kernel
theorem dL_law_1748 : decode cL_law 1748 = .ok (.invokevirtual 226, 3) := by decide +kernel
theorem dL_law_1751 : decode cL_law 1751 = .ok (.istore 6, 2) := by decide +kernel
theorem dL_law_1753 : decode cL_law 1753 = .ok (.aload_n 2, 1) := by decide +kernel
theorem dL_law_1754 : decode cL_law 1754 = .ok (.invokevirtual 143, 3) := by decide +kernel
theorem dL_law_1757 : decode cL_law 1757 = .ok (.iload 5, 2) := by decide +kernel
theorem dL_law_1759 : decode cL_law 1759 = .ok (.if_icmp .eq 5, 3) := by decide +kernel
theorem dL_law_1762 : decode cL_law 1762 = .ok (.iconst 0, 1) := by decide +kernel
theorem dL_law_1763 : decode cL_law 1763 = .ok (.ireturn, 1) := by decide +kernel
theorem dL_law_1764 : decode cL_law 1764 = .ok (.iload 5, 2) := by decide +kernel
theorem dL_law_1766 : decode cL_law 1766 = .ok (.ifCond .ne 15, 3) := by decide +kernel
theorem dL_law_1769 : decode cL_law 1769 = .ok (.aload_n 3, 1) := by decide +kernel
theorem dL_law_1770 : decode cL_law 1770 = .ok (.iconst 0, 1) := by decide +kernel
theorem dL_law_1771 : decode cL_law 1771 = .ok (.laload, 1) := by decide +kernel
theorem dL_law_1772 : decode cL_law 1772 = .ok (.iload 6, 2) := by decide +kernel
theorem dL_law_1774 : decode cL_law 1774 = .ok (.i2l, 1) := by decide +kernel
theorem dL_law_1775 : decode cL_law 1775 = .ok (.lcmp, 1) := by decide +kernel
theorem dL_law_1776 : decode cL_law 1776 = .ok (.ifCond .eq 5, 3) := by decide +kernel
theorem dL_law_1779 : decode cL_law 1779 = .ok (.iconst 0, 1) := by decide +kernel
theorem dL_law_1780 : decode cL_law 1780 = .ok (.ireturn, 1) := by decide +kernel
theorem dL_law_1781 : decode cL_law 1781 = .ok (.goto 906, 3) := by decide +kernel
theorem dL_law_1784 : decode cL_law 1784 = .ok (.aload_n 1, 1) := by decide +kernel
theorem dL_law_1785 : decode cL_law 1785 = .ok (.aload_n 0, 1) := by decide +kernel
theorem dL_law_1786 : decode cL_law 1786 = .ok (.iload 4, 2) := by decide +kernel
theorem dL_law_1788 : decode cL_law 1788 = .ok (.iconst 1, 1) := by decide +kernel
theorem dL_law_1789 : decode cL_law 1789 = .ok (.iadd, 1) := by decide +kernel
theorem dL_law_1790 : decode cL_law 1790 = .ok (.iaload, 1) := by decide +kernel
theorem dL_law_1791 : decode cL_law 1791 = .ok (.invokevirtual 227, 3) := by decide +kernel
theorem dL_law_1794 : decode cL_law 1794 = .ok (.aload_n 2, 1) := by decide +kernel
theorem dL_law_1795 : decode cL_law 1795 = .ok (.aload_n 0, 1) := by decide +kernel
theorem dL_law_1796 : decode cL_law 1796 = .ok (.iload 4, 2) := by decide +kernel
theorem dL_law_1798 : decode cL_law 1798 = .ok (.iconst 1, 1) := by decide +kernel
theorem dL_law_1799 : decode cL_law 1799 = .ok (.iadd, 1) := by decide +kernel
theorem dL_law_1800 : decode cL_law 1800 = .ok (.iaload, 1) := by decide +kernel
theorem dL_law_1801 : decode cL_law 1801 = .ok (.invokevirtual 230, 3) := by decide +kernel
theorem dL_law_1804 : decode cL_law 1804 = .ok (.if_icmp .eq 883, 3) := by decide +kernel
theorem dL_law_1807 : decode cL_law 1807 = .ok (.iconst 0, 1) := by decide +kernel
theorem dL_law_1808 : decode cL_law 1808 = .ok (.ireturn, 1) := by decide +kernel
theorem dL_law_1809 : decode cL_law 1809 = .ok (.aload_n 1, 1) := by decide +kernel
theorem dL_law_1810 : decode cL_law 1810 = .ok (.invokevirtual 231, 3) := by decide +kernel
theorem dL_law_1813 : decode cL_law 1813 = .ok (.aload_n 2, 1) := by decide +kernel
theorem dL_law_1814 : decode cL_law 1814 = .ok (.invokevirtual 234, 3) := by decide +kernel
theorem dL_law_1817 : decode cL_law 1817 = .ok (.if_icmp .eq 870, 3) := by decide +kernel
theorem dL_law_1820 : decode cL_law 1820 = .ok (.iconst 0, 1) := by decide +kernel
theorem dL_law_1821 : decode cL_law 1821 = .ok (.ireturn, 1) := by decide +kernel
theorem dL_law_1822 : decode cL_law 1822 = .ok (.aload_n 1, 1) := by decide +kernel
theorem dL_law_1823 : decode cL_law 1823 = .ok (.aload_n 0, 1) := by decide +kernel
theorem dL_law_1824 : decode cL_law 1824 = .ok (.iload 4, 2) := by decide +kernel
theorem dL_law_1826 : decode cL_law 1826 = .ok (.iconst 1, 1) := by decide +kernel
theorem dL_law_1827 : decode cL_law 1827 = .ok (.iadd, 1) := by decide +kernel
theorem dL_law_1828 : decode cL_law 1828 = .ok (.iaload, 1) := by decide +kernel
theorem dL_law_1829 : decode cL_law 1829 = .ok (.aload_n 3, 1) := by decide +kernel
theorem dL_law_1830 : decode cL_law 1830 = .ok (.invokestatic 235, 3) := by decide +kernel
theorem dL_law_1833 : decode cL_law 1833 = .ok (.istore 5, 2) := by decide +kernel
theorem dL_law_1835 : decode cL_law 1835 = .ok (.aload_n 2, 1) := by decide +kernel
theorem dL_law_1836 : decode cL_law 1836 = .ok (.aload_n 0, 1) := by decide +kernel
theorem dL_law_1837 : decode cL_law 1837 = .ok (.iload 4, 2) := by decide +kernel
theorem dL_law_1839 : decode cL_law 1839 = .ok (.iconst 1, 1) := by decide +kernel
theorem dL_law_1840 : decode cL_law 1840 = .ok (.iadd, 1) := by decide +kernel
theorem dL_law_1841 : decode cL_law 1841 = .ok (.iaload, 1) := by decide +kernel
theorem dL_law_1842 : decode cL_law 1842 = .ok (.invokevirtual 237, 3) := by decide +kernel
theorem dL_law_1845 : decode cL_law 1845 = .ok (.istore 6, 2) := by decide +kernel
theorem dL_law_1847 : decode cL_law 1847 = .ok (.aload_n 2, 1) := by decide +kernel
theorem dL_law_1848 : decode cL_law 1848 = .ok (.invokevirtual 143, 3) := by decide +kernel
theorem dL_law_1851 : decode cL_law 1851 = .ok (.iload 5, 2) := by decide +kernel
theorem dL_law_1853 : decode cL_law 1853 = .ok (.if_icmp .eq 5, 3) := by decide +kernel
theorem dL_law_1856 : decode cL_law 1856 = .ok (.iconst 0, 1) := by decide +kernel
theorem dL_law_1857 : decode cL_law 1857 = .ok (.ireturn, 1) := by decide +kernel
theorem dL_law_1858 : decode cL_law 1858 = .ok (.iload 5, 2) := by decide +kernel
theorem dL_law_1860 : decode cL_law 1860 = .ok (.ifCond .ne 15, 3) := by decide +kernel
theorem dL_law_1863 : decode cL_law 1863 = .ok (.aload_n 3, 1) := by decide +kernel
theorem dL_law_1864 : decode cL_law 1864 = .ok (.iconst 0, 1) := by decide +kernel
theorem dL_law_1865 : decode cL_law 1865 = .ok (.laload, 1) := by decide +kernel
theorem dL_law_1866 : decode cL_law 1866 = .ok (.iload 6, 2) := by decide +kernel
theorem dL_law_1868 : decode cL_law 1868 = .ok (.i2l, 1) := by decide +kernel
theorem dL_law_1869 : decode cL_law 1869 = .ok (.lcmp, 1) := by decide +kernel
theorem dL_law_1870 : decode cL_law 1870 = .ok (.ifCond .eq 5, 3) := by decide +kernel
theorem dL_law_1873 : decode cL_law 1873 = .ok (.iconst 0, 1) := by decide +kernel
theorem dL_law_1874 : decode cL_law 1874 = .ok (.ireturn, 1) := by decide +kernel
theorem dL_law_1875 : decode cL_law 1875 = .ok (.goto 812, 3) := by decide +kernel
theorem dL_law_1878 : decode cL_law 1878 = .ok (.aload_n 1, 1) := by decide +kernel
theorem dL_law_1879 : decode cL_law 1879 = .ok (.aload_n 0, 1) := by decide +kernel
theorem dL_law_1880 : decode cL_law 1880 = .ok (.iload 4, 2) := by decide +kernel
theorem dL_law_1882 : decode cL_law 1882 = .ok (.iconst 1, 1) := by decide +kernel
theorem dL_law_1883 : decode cL_law 1883 = .ok (.iadd, 1) := by decide +kernel
theorem dL_law_1884 : decode cL_law 1884 = .ok (.iaload, 1) := by decide +kernel
theorem dL_law_1885 : decode cL_law 1885 = .ok (.aload_n 3, 1) := by decide +kernel
theorem dL_law_1886 : decode cL_law 1886 = .ok (.invokestatic 238, 3) := by decide +kernel
theorem dL_law_1889 : decode cL_law 1889 = .ok (.istore 5, 2) := by decide +kernel
theorem dL_law_1891 : decode cL_law 1891 = .ok (.aload_n 2, 1) := by decide +kernel
theorem dL_law_1892 : decode cL_law 1892 = .ok (.aload_n 0, 1) := by decide +kernel
theorem dL_law_1893 : decode cL_law 1893 = .ok (.iload 4, 2) := by decide +kernel
theorem dL_law_1895 : decode cL_law 1895 = .ok (.iconst 1, 1) := by decide +kernel
theorem dL_law_1896 : decode cL_law 1896 = .ok (.iadd, 1) := by decide +kernel
theorem dL_law_1897 : decode cL_law 1897 = .ok (.iaload, 1) := by decide +kernel
theorem dL_law_1898 : decode cL_law 1898 = .ok (.invokevirtual 240, 3) := by decide +kernel
theorem dL_law_1901 : decode cL_law 1901 = .ok (.istore 6, 2) := by decide +kernel
theorem dL_law_1903 : decode cL_law 1903 = .ok (.aload_n 2, 1) := by decide +kernel
theorem dL_law_1904 : decode cL_law 1904 = .ok (.invokevirtual 143, 3) := by decide +kernel
theorem dL_law_1907 : decode cL_law 1907 = .ok (.iload 5, 2) := by decide +kernel
theorem dL_law_1909 : decode cL_law 1909 = .ok (.if_icmp .eq 5, 3) := by decide +kernel
theorem dL_law_1912 : decode cL_law 1912 = .ok (.iconst 0, 1) := by decide +kernel
theorem dL_law_1913 : decode cL_law 1913 = .ok (.ireturn, 1) := by decide +kernel
theorem dL_law_1914 : decode cL_law 1914 = .ok (.iload 5, 2) := by decide +kernel
theorem dL_law_1916 : decode cL_law 1916 = .ok (.ifCond .ne 15, 3) := by decide +kernel
theorem dL_law_1919 : decode cL_law 1919 = .ok (.aload_n 3, 1) := by decide +kernel
theorem dL_law_1920 : decode cL_law 1920 = .ok (.iconst 0, 1) := by decide +kernel
theorem dL_law_1921 : decode cL_law 1921 = .ok (.laload, 1) := by decide +kernel
theorem dL_law_1922 : decode cL_law 1922 = .ok (.iload 6, 2) := by decide +kernel
theorem dL_law_1924 : decode cL_law 1924 = .ok (.i2l, 1) := by decide +kernel
theorem dL_law_1925 : decode cL_law 1925 = .ok (.lcmp, 1) := by decide +kernel
theorem dL_law_1926 : decode cL_law 1926 = .ok (.ifCond .eq 5, 3) := by decide +kernel
theorem dL_law_1929 : decode cL_law 1929 = .ok (.iconst 0, 1) := by decide +kernel
theorem dL_law_1930 : decode cL_law 1930 = .ok (.ireturn, 1) := by decide +kernel
theorem dL_law_1931 : decode cL_law 1931 = .ok (.goto 756, 3) := by decide +kernel
theorem dL_law_1934 : decode cL_law 1934 = .ok (.aload_n 1, 1) := by decide +kernel
theorem dL_law_1935 : decode cL_law 1935 = .ok (.aload_n 0, 1) := by decide +kernel
theorem dL_law_1936 : decode cL_law 1936 = .ok (.iload 4, 2) := by decide +kernel
theorem dL_law_1938 : decode cL_law 1938 = .ok (.iconst 1, 1) := by decide +kernel
theorem dL_law_1939 : decode cL_law 1939 = .ok (.iadd, 1) := by decide +kernel
theorem dL_law_1940 : decode cL_law 1940 = .ok (.iaload, 1) := by decide +kernel
theorem dL_law_1941 : decode cL_law 1941 = .ok (.aload_n 3, 1) := by decide +kernel
theorem dL_law_1942 : decode cL_law 1942 = .ok (.invokestatic 241, 3) := by decide +kernel
theorem dL_law_1945 : decode cL_law 1945 = .ok (.istore 5, 2) := by decide +kernel
theorem dL_law_1947 : decode cL_law 1947 = .ok (.aload_n 2, 1) := by decide +kernel
theorem dL_law_1948 : decode cL_law 1948 = .ok (.aload_n 0, 1) := by decide +kernel
theorem dL_law_1949 : decode cL_law 1949 = .ok (.iload 4, 2) := by decide +kernel
theorem dL_law_1951 : decode cL_law 1951 = .ok (.iconst 1, 1) := by decide +kernel
theorem dL_law_1952 : decode cL_law 1952 = .ok (.iadd, 1) := by decide +kernel
theorem dL_law_1953 : decode cL_law 1953 = .ok (.iaload, 1) := by decide +kernel
theorem dL_law_1954 : decode cL_law 1954 = .ok (.invokevirtual 243, 3) := by decide +kernel
theorem dL_law_1957 : decode cL_law 1957 = .ok (.istore 6, 2) := by decide +kernel
theorem dL_law_1959 : decode cL_law 1959 = .ok (.aload_n 2, 1) := by decide +kernel
theorem dL_law_1960 : decode cL_law 1960 = .ok (.invokevirtual 143, 3) := by decide +kernel
theorem dL_law_1963 : decode cL_law 1963 = .ok (.iload 5, 2) := by decide +kernel
theorem dL_law_1965 : decode cL_law 1965 = .ok (.if_icmp .eq 5, 3) := by decide +kernel
theorem dL_law_1968 : decode cL_law 1968 = .ok (.iconst 0, 1) := by decide +kernel
theorem dL_law_1969 : decode cL_law 1969 = .ok (.ireturn, 1) := by decide +kernel
theorem dL_law_1970 : decode cL_law 1970 = .ok (.iload 5, 2) := by decide +kernel
theorem dL_law_1972 : decode cL_law 1972 = .ok (.ifCond .ne 15, 3) := by decide +kernel
theorem dL_law_1975 : decode cL_law 1975 = .ok (.aload_n 3, 1) := by decide +kernel
theorem dL_law_1976 : decode cL_law 1976 = .ok (.iconst 0, 1) := by decide +kernel
theorem dL_law_1977 : decode cL_law 1977 = .ok (.laload, 1) := by decide +kernel
theorem dL_law_1978 : decode cL_law 1978 = .ok (.iload 6, 2) := by decide +kernel
theorem dL_law_1980 : decode cL_law 1980 = .ok (.i2l, 1) := by decide +kernel
theorem dL_law_1981 : decode cL_law 1981 = .ok (.lcmp, 1) := by decide +kernel
theorem dL_law_1982 : decode cL_law 1982 = .ok (.ifCond .eq 5, 3) := by decide +kernel
theorem dL_law_1985 : decode cL_law 1985 = .ok (.iconst 0, 1) := by decide +kernel
theorem dL_law_1986 : decode cL_law 1986 = .ok (.ireturn, 1) := by decide +kernel
theorem dL_law_1987 : decode cL_law 1987 = .ok (.goto 700, 3) := by decide +kernel
theorem dL_law_1990 : decode cL_law 1990 = .ok (.aload_n 1, 1) := by decide +kernel
theorem dL_law_1991 : decode cL_law 1991 = .ok (.invokevirtual 244, 3) := by decide +kernel
theorem dL_law_1994 : decode cL_law 1994 = .ok (.aload_n 2, 1) := by decide +kernel
theorem dL_law_1995 : decode cL_law 1995 = .ok (.invokevirtual 247, 3) := by decide +kernel
theorem dL_law_1998 : decode cL_law 1998 = .ok (.if_icmp .eq 689, 3) := by decide +kernel
theorem dL_law_2001 : decode cL_law 2001 = .ok (.iconst 0, 1) := by decide +kernel
theorem dL_law_2002 : decode cL_law 2002 = .ok (.ireturn, 1) := by decide +kernel
theorem dL_law_2003 : decode cL_law 2003 = .ok (.aload_n 1, 1) := by decide +kernel
theorem dL_law_2004 : decode cL_law 2004 = .ok (.aload_n 0, 1) := by decide +kernel
theorem dL_law_2005 : decode cL_law 2005 = .ok (.iload 4, 2) := by decide +kernel
theorem dL_law_2007 : decode cL_law 2007 = .ok (.iconst 1, 1) := by decide +kernel
theorem dL_law_2008 : decode cL_law 2008 = .ok (.iadd, 1) := by decide +kernel
theorem dL_law_2009 : decode cL_law 2009 = .ok (.iaload, 1) := by decide +kernel
theorem dL_law_2010 : decode cL_law 2010 = .ok (.aload_n 0, 1) := by decide +kernel
theorem dL_law_2011 : decode cL_law 2011 = .ok (.iload 4, 2) := by decide +kernel
theorem dL_law_2013 : decode cL_law 2013 = .ok (.iconst 2, 1) := by decide +kernel
theorem dL_law_2014 : decode cL_law 2014 = .ok (.iadd, 1) := by decide +kernel
theorem dL_law_2015 : decode cL_law 2015 = .ok (.iaload, 1) := by decide +kernel
theorem dL_law_2016 : decode cL_law 2016 = .ok (.invokevirtual 248, 3) := by decide +kernel
theorem dL_law_2019 : decode cL_law 2019 = .ok (.aload_n 2, 1) := by decide +kernel
theorem dL_law_2020 : decode cL_law 2020 = .ok (.aload_n 0, 1) := by decide +kernel
theorem dL_law_2021 : decode cL_law 2021 = .ok (.iload 4, 2) := by decide +kernel
theorem dL_law_2023 : decode cL_law 2023 = .ok (.iconst 1, 1) := by decide +kernel
theorem dL_law_2024 : decode cL_law 2024 = .ok (.iadd, 1) := by decide +kernel
theorem dL_law_2025 : decode cL_law 2025 = .ok (.iaload, 1) := by decide +kernel
theorem dL_law_2026 : decode cL_law 2026 = .ok (.aload_n 0, 1) := by decide +kernel
theorem dL_law_2027 : decode cL_law 2027 = .ok (.iload 4, 2) := by decide +kernel
theorem dL_law_2029 : decode cL_law 2029 = .ok (.iconst 2, 1) := by decide +kernel
theorem dL_law_2030 : decode cL_law 2030 = .ok (.iadd, 1) := by decide +kernel
theorem dL_law_2031 : decode cL_law 2031 = .ok (.iaload, 1) := by decide +kernel
theorem dL_law_2032 : decode cL_law 2032 = .ok (.invokevirtual 251, 3) := by decide +kernel
theorem dL_law_2035 : decode cL_law 2035 = .ok (.if_icmp .eq 652, 3) := by decide +kernel
theorem dL_law_2038 : decode cL_law 2038 = .ok (.iconst 0, 1) := by decide +kernel
theorem dL_law_2039 : decode cL_law 2039 = .ok (.ireturn, 1) := by decide +kernel
theorem dL_law_2040 : decode cL_law 2040 = .ok (.aload_n 1, 1) := by decide +kernel
theorem dL_law_2041 : decode cL_law 2041 = .ok (.aload_n 0, 1) := by decide +kernel
theorem dL_law_2042 : decode cL_law 2042 = .ok (.iload 4, 2) := by decide +kernel
theorem dL_law_2044 : decode cL_law 2044 = .ok (.iconst 1, 1) := by decide +kernel
theorem dL_law_2045 : decode cL_law 2045 = .ok (.iadd, 1) := by decide +kernel
theorem dL_law_2046 : decode cL_law 2046 = .ok (.iaload, 1) := by decide +kernel
theorem dL_law_2047 : decode cL_law 2047 = .ok (.aload_n 0, 1) := by decide +kernel
theorem dL_law_2048 : decode cL_law 2048 = .ok (.iload 4, 2) := by decide +kernel
theorem dL_law_2050 : decode cL_law 2050 = .ok (.iconst 2, 1) := by decide +kernel
theorem dL_law_2051 : decode cL_law 2051 = .ok (.iadd, 1) := by decide +kernel
theorem dL_law_2052 : decode cL_law 2052 = .ok (.iaload, 1) := by decide +kernel
theorem dL_law_2053 : decode cL_law 2053 = .ok (.invokevirtual 252, 3) := by decide +kernel
theorem dL_law_2056 : decode cL_law 2056 = .ok (.aload_n 2, 1) := by decide +kernel
theorem dL_law_2057 : decode cL_law 2057 = .ok (.aload_n 0, 1) := by decide +kernel
theorem dL_law_2058 : decode cL_law 2058 = .ok (.iload 4, 2) := by decide +kernel
theorem dL_law_2060 : decode cL_law 2060 = .ok (.iconst 1, 1) := by decide +kernel
theorem dL_law_2061 : decode cL_law 2061 = .ok (.iadd, 1) := by decide +kernel
theorem dL_law_2062 : decode cL_law 2062 = .ok (.iaload, 1) := by decide +kernel
theorem dL_law_2063 : decode cL_law 2063 = .ok (.aload_n 0, 1) := by decide +kernel
theorem dL_law_2064 : decode cL_law 2064 = .ok (.iload 4, 2) := by decide +kernel
theorem dL_law_2066 : decode cL_law 2066 = .ok (.iconst 2, 1) := by decide +kernel
theorem dL_law_2067 : decode cL_law 2067 = .ok (.iadd, 1) := by decide +kernel
theorem dL_law_2068 : decode cL_law 2068 = .ok (.iaload, 1) := by decide +kernel
theorem dL_law_2069 : decode cL_law 2069 = .ok (.invokevirtual 256, 3) := by decide +kernel
theorem dL_law_2072 : decode cL_law 2072 = .ok (.if_icmp .eq 615, 3) := by decide +kernel
theorem dL_law_2075 : decode cL_law 2075 = .ok (.iconst 0, 1) := by decide +kernel
theorem dL_law_2076 : decode cL_law 2076 = .ok (.ireturn, 1) := by decide +kernel
theorem dL_law_2077 : decode cL_law 2077 = .ok (.aload_n 1, 1) := by decide +kernel
theorem dL_law_2078 : decode cL_law 2078 = .ok (.invokevirtual 257, 3) := by decide +kernel
theorem dL_law_2081 : decode cL_law 2081 = .ok (.aload_n 2, 1) := by decide +kernel
theorem dL_law_2082 : decode cL_law 2082 = .ok (.invokevirtual 260, 3) := by decide +kernel
theorem dL_law_2085 : decode cL_law 2085 = .ok (.if_icmp .eq 602, 3) := by decide +kernel
theorem dL_law_2088 : decode cL_law 2088 = .ok (.iconst 0, 1) := by decide +kernel
theorem dL_law_2089 : decode cL_law 2089 = .ok (.ireturn, 1) := by decide +kernel
theorem dL_law_2090 : decode cL_law 2090 = .ok (.aload_n 1, 1) := by decide +kernel
theorem dL_law_2091 : decode cL_law 2091 = .ok (.aload_n 0, 1) := by decide +kernel
theorem dL_law_2092 : decode cL_law 2092 = .ok (.iload 4, 2) := by decide +kernel
theorem dL_law_2094 : decode cL_law 2094 = .ok (.iconst 1, 1) := by decide +kernel
theorem dL_law_2095 : decode cL_law 2095 = .ok (.iadd, 1) := by decide +kernel
theorem dL_law_2096 : decode cL_law 2096 = .ok (.iaload, 1) := by decide +kernel
theorem dL_law_2097 : decode cL_law 2097 = .ok (.aload_n 0, 1) := by decide +kernel
theorem dL_law_2098 : decode cL_law 2098 = .ok (.iload 4, 2) := by decide +kernel
theorem dL_law_2100 : decode cL_law 2100 = .ok (.iconst 2, 1) := by decide +kernel
theorem dL_law_2101 : decode cL_law 2101 = .ok (.iadd, 1) := by decide +kernel
theorem dL_law_2102 : decode cL_law 2102 = .ok (.iaload, 1) := by decide +kernel
theorem dL_law_2103 : decode cL_law 2103 = .ok (.aload_n 0, 1) := by decide +kernel
theorem dL_law_2104 : decode cL_law 2104 = .ok (.iload 4, 2) := by decide +kernel
theorem dL_law_2106 : decode cL_law 2106 = .ok (.iconst 3, 1) := by decide +kernel
theorem dL_law_2107 : decode cL_law 2107 = .ok (.iadd, 1) := by decide +kernel
theorem dL_law_2108 : decode cL_law 2108 = .ok (.iaload, 1) := by decide +kernel
theorem dL_law_2109 : decode cL_law 2109 = .ok (.invokevirtual 261, 3) := by decide +kernel
theorem dL_law_2112 : decode cL_law 2112 = .ok (.aload_n 2, 1) := by decide +kernel
theorem dL_law_2113 : decode cL_law 2113 = .ok (.aload_n 0, 1) := by decide +kernel
