/-! the law's decode rows -/
theorem dL_law__1499 : decode cL_law_ 1499 = .ok (.iload 6, 2) := by decide +kernel
theorem dL_law__1501 : decode cL_law_ 1501 = .ok (.i2l, 1) := by decide +kernel
theorem dL_law__1502 : decode cL_law_ 1502 = .ok (.lcmp, 1) := by decide +kernel
theorem dL_law__1503 : decode cL_law_ 1503 = .ok (.ifCond .eq 5, 3) := by decide +kernel
theorem dL_law__1506 : decode cL_law_ 1506 = .ok (.iconst 0, 1) := by decide +kernel
theorem dL_law__1507 : decode cL_law_ 1507 = .ok (.ireturn, 1) := by decide +kernel
theorem dL_law__1508 : decode cL_law_ 1508 = .ok (.goto 1290, 3) := by decide +kernel
theorem dL_law__1511 : decode cL_law_ 1511 = .ok (.aload_n 1, 1) := by decide +kernel
theorem dL_law__1512 : decode cL_law_ 1512 = .ok (.aload_n 0, 1) := by decide +kernel
theorem dL_law__1513 : decode cL_law_ 1513 = .ok (.iload 4, 2) := by decide +kernel
theorem dL_law__1515 : decode cL_law_ 1515 = .ok (.iconst 1, 1) := by decide +kernel
theorem dL_law__1516 : decode cL_law_ 1516 = .ok (.iadd, 1) := by decide +kernel
theorem dL_law__1517 : decode cL_law_ 1517 = .ok (.iaload, 1) := by decide +kernel
theorem dL_law__1518 : decode cL_law_ 1518 = .ok (.aload_n 0, 1) := by decide +kernel
theorem dL_law__1519 : decode cL_law_ 1519 = .ok (.iload 4, 2) := by decide +kernel
theorem dL_law__1521 : decode cL_law_ 1521 = .ok (.iconst 2, 1) := by decide +kernel
theorem dL_law__1522 : decode cL_law_ 1522 = .ok (.iadd, 1) := by decide +kernel
theorem dL_law__1523 : decode cL_law_ 1523 = .ok (.iaload, 1) := by decide +kernel
theorem dL_law__1524 : decode cL_law_ 1524 = .ok (.ifCond .eq 7, 3) := by decide +kernel
theorem dL_law__1527 : decode cL_law_ 1527 = .ok (.iconst 1, 1) := by decide +kernel
theorem dL_law__1528 : decode cL_law_ 1528 = .ok (.goto 4, 3) := by decide +kernel
theorem dL_law__1531 : decode cL_law_ 1531 = .ok (.iconst 0, 1) := by decide +kernel
theorem dL_law__1532 : decode cL_law_ 1532 = .ok (.aload_n 0, 1) := by decide +kernel
theorem dL_law__1533 : decode cL_law_ 1533 = .ok (.iload 4, 2) := by decide +kernel
theorem dL_law__1535 : decode cL_law_ 1535 = .ok (.iconst 3, 1) := by decide +kernel
theorem dL_law__1536 : decode cL_law_ 1536 = .ok (.iadd, 1) := by decide +kernel
theorem dL_law__1537 : decode cL_law_ 1537 = .ok (.iaload, 1) := by decide +kernel
theorem dL_law__1538 : decode cL_law_ 1538 = .ok (.ifCond .eq 7, 3) := by decide +kernel
theorem dL_law__1541 : decode cL_law_ 1541 = .ok (.iconst 1, 1) := by decide +kernel
theorem dL_law__1542 : decode cL_law_ 1542 = .ok (.goto 4, 3) := by decide +kernel
theorem dL_law__1545 : decode cL_law_ 1545 = .ok (.iconst 0, 1) := by decide +kernel
theorem dL_law__1546 : decode cL_law_ 1546 = .ok (.aload_n 3, 1) := by decide +kernel
theorem dL_law__1547 : decode cL_law_ 1547 = .ok (.invokestatic 202, 3) := by decide +kernel
theorem dL_law__1550 : decode cL_law_ 1550 = .ok (.istore 5, 2) := by decide +kernel
theorem dL_law__1552 : decode cL_law_ 1552 = .ok (.aload_n 2, 1) := by decide +kernel
theorem dL_law__1553 : decode cL_law_ 1553 = .ok (.aload_n 0, 1) := by decide +kernel
theorem dL_law__1554 : decode cL_law_ 1554 = .ok (.iload 4, 2) := by decide +kernel
theorem dL_law__1556 : decode cL_law_ 1556 = .ok (.iconst 1, 1) := by decide +kernel
theorem dL_law__1557 : decode cL_law_ 1557 = .ok (.iadd, 1) := by decide +kernel
theorem dL_law__1558 : decode cL_law_ 1558 = .ok (.iaload, 1) := by decide +kernel
theorem dL_law__1559 : decode cL_law_ 1559 = .ok (.aload_n 0, 1) := by decide +kernel
theorem dL_law__1560 : decode cL_law_ 1560 = .ok (.iload 4, 2) := by decide +kernel
theorem dL_law__1562 : decode cL_law_ 1562 = .ok (.iconst 2, 1) := by decide +kernel
theorem dL_law__1563 : decode cL_law_ 1563 = .ok (.iadd, 1) := by decide +kernel
theorem dL_law__1564 : decode cL_law_ 1564 = .ok (.iaload, 1) := by decide +kernel
theorem dL_law__1565 : decode cL_law_ 1565 = .ok (.ifCond .eq 7, 3) := by decide +kernel
theorem dL_law__1568 : decode cL_law_ 1568 = .ok (.iconst 1, 1) := by decide +kernel
theorem dL_law__1569 : decode cL_law_ 1569 = .ok (.goto 4, 3) := by decide +kernel
theorem dL_law__1572 : decode cL_law_ 1572 = .ok (.iconst 0, 1) := by decide +kernel
theorem dL_law__1573 : decode cL_law_ 1573 = .ok (.aload_n 0, 1) := by decide +kernel
theorem dL_law__1574 : decode cL_law_ 1574 = .ok (.iload 4, 2) := by decide +kernel
theorem dL_law__1576 : decode cL_law_ 1576 = .ok (.iconst 3, 1) := by decide +kernel
theorem dL_law__1577 : decode cL_law_ 1577 = .ok (.iadd, 1) := by decide +kernel
theorem dL_law__1578 : decode cL_law_ 1578 = .ok (.iaload, 1) := by decide +kernel
theorem dL_law__1579 : decode cL_law_ 1579 = .ok (.ifCond .eq 7, 3) := by decide +kernel
theorem dL_law__1582 : decode cL_law_ 1582 = .ok (.iconst 1, 1) := by decide +kernel
theorem dL_law__1583 : decode cL_law_ 1583 = .ok (.goto 4, 3) := by decide +kernel
theorem dL_law__1586 : decode cL_law_ 1586 = .ok (.iconst 0, 1) := by decide +kernel
theorem dL_law__1587 : decode cL_law_ 1587 = .ok (.invokevirtual 205, 3) := by decide +kernel
theorem dL_law__1590 : decode cL_law_ 1590 = .ok (.istore 6, 2) := by decide +kernel
theorem dL_law__1592 : decode cL_law_ 1592 = .ok (.aload_n 2, 1) := by decide +kernel
theorem dL_law__1593 : decode cL_law_ 1593 = .ok (.invokevirtual 142, 3) := by decide +kernel
theorem dL_law__1596 : decode cL_law_ 1596 = .ok (.iload 5, 2) := by decide +kernel
theorem dL_law__1598 : decode cL_law_ 1598 = .ok (.if_icmp .eq 5, 3) := by decide +kernel
theorem dL_law__1601 : decode cL_law_ 1601 = .ok (.iconst 0, 1) := by decide +kernel
theorem dL_law__1602 : decode cL_law_ 1602 = .ok (.ireturn, 1) := by decide +kernel
theorem dL_law__1603 : decode cL_law_ 1603 = .ok (.iload 5, 2) := by decide +kernel
theorem dL_law__1605 : decode cL_law_ 1605 = .ok (.ifCond .ne 15, 3) := by decide +kernel
theorem dL_law__1608 : decode cL_law_ 1608 = .ok (.aload_n 3, 1) := by decide +kernel
theorem dL_law__1609 : decode cL_law_ 1609 = .ok (.iconst 0, 1) := by decide +kernel
theorem dL_law__1610 : decode cL_law_ 1610 = .ok (.laload, 1) := by decide +kernel
theorem dL_law__1611 : decode cL_law_ 1611 = .ok (.iload 6, 2) := by decide +kernel
theorem dL_law__1613 : decode cL_law_ 1613 = .ok (.i2l, 1) := by decide +kernel
theorem dL_law__1614 : decode cL_law_ 1614 = .ok (.lcmp, 1) := by decide +kernel
theorem dL_law__1615 : decode cL_law_ 1615 = .ok (.ifCond .eq 5, 3) := by decide +kernel
theorem dL_law__1618 : decode cL_law_ 1618 = .ok (.iconst 0, 1) := by decide +kernel
theorem dL_law__1619 : decode cL_law_ 1619 = .ok (.ireturn, 1) := by decide +kernel
theorem dL_law__1620 : decode cL_law_ 1620 = .ok (.goto 1178, 3) := by decide +kernel
theorem dL_law__1623 : decode cL_law_ 1623 = .ok (.aload_n 1, 1) := by decide +kernel
theorem dL_law__1624 : decode cL_law_ 1624 = .ok (.aload_n 0, 1) := by decide +kernel
theorem dL_law__1625 : decode cL_law_ 1625 = .ok (.iload 4, 2) := by decide +kernel
theorem dL_law__1627 : decode cL_law_ 1627 = .ok (.iconst 1, 1) := by decide +kernel
theorem dL_law__1628 : decode cL_law_ 1628 = .ok (.iadd, 1) := by decide +kernel
theorem dL_law__1629 : decode cL_law_ 1629 = .ok (.iaload, 1) := by decide +kernel
theorem dL_law__1630 : decode cL_law_ 1630 = .ok (.aload_n 0, 1) := by decide +kernel
theorem dL_law__1631 : decode cL_law_ 1631 = .ok (.iload 4, 2) := by decide +kernel
theorem dL_law__1633 : decode cL_law_ 1633 = .ok (.iconst 2, 1) := by decide +kernel
theorem dL_law__1634 : decode cL_law_ 1634 = .ok (.iadd, 1) := by decide +kernel
theorem dL_law__1635 : decode cL_law_ 1635 = .ok (.iaload, 1) := by decide +kernel
theorem dL_law__1636 : decode cL_law_ 1636 = .ok (.aload_n 3, 1) := by decide +kernel
theorem dL_law__1637 : decode cL_law_ 1637 = .ok (.invokestatic 206, 3) := by decide +kernel
theorem dL_law__1640 : decode cL_law_ 1640 = .ok (.istore 5, 2) := by decide +kernel
theorem dL_law__1642 : decode cL_law_ 1642 = .ok (.aload_n 2, 1) := by decide +kernel
theorem dL_law__1643 : decode cL_law_ 1643 = .ok (.aload_n 0, 1) := by decide +kernel
theorem dL_law__1644 : decode cL_law_ 1644 = .ok (.iload 4, 2) := by decide +kernel
theorem dL_law__1646 : decode cL_law_ 1646 = .ok (.iconst 1, 1) := by decide +kernel
theorem dL_law__1647 : decode cL_law_ 1647 = .ok (.iadd, 1) := by decide +kernel
theorem dL_law__1648 : decode cL_law_ 1648 = .ok (.iaload, 1) := by decide +kernel
theorem dL_law__1649 : decode cL_law_ 1649 = .ok (.aload_n 0, 1) := by decide +kernel
theorem dL_law__1650 : decode cL_law_ 1650 = .ok (.iload 4, 2) := by decide +kernel
theorem dL_law__1652 : decode cL_law_ 1652 = .ok (.iconst 2, 1) := by decide +kernel
theorem dL_law__1653 : decode cL_law_ 1653 = .ok (.iadd, 1) := by decide +kernel
theorem dL_law__1654 : decode cL_law_ 1654 = .ok (.iaload, 1) := by decide +kernel
theorem dL_law__1655 : decode cL_law_ 1655 = .ok (.invokevirtual 208, 3) := by decide +kernel
theorem dL_law__1658 : decode cL_law_ 1658 = .ok (.istore 6, 2) := by decide +kernel
theorem dL_law__1660 : decode cL_law_ 1660 = .ok (.aload_n 2, 1) := by decide +kernel
theorem dL_law__1661 : decode cL_law_ 1661 = .ok (.invokevirtual 142, 3) := by decide +kernel
theorem dL_law__1664 : decode cL_law_ 1664 = .ok (.iload 5, 2) := by decide +kernel
theorem dL_law__1666 : decode cL_law_ 1666 = .ok (.if_icmp .eq 5, 3) := by decide +kernel
theorem dL_law__1669 : decode cL_law_ 1669 = .ok (.iconst 0, 1) := by decide +kernel
theorem dL_law__1670 : decode cL_law_ 1670 = .ok (.ireturn, 1) := by decide +kernel
theorem dL_law__1671 : decode cL_law_ 1671 = .ok (.iload 5, 2) := by decide +kernel
theorem dL_law__1673 : decode cL_law_ 1673 = .ok (.ifCond .ne 15, 3) := by decide +kernel
theorem dL_law__1676 : decode cL_law_ 1676 = .ok (.aload_n 3, 1) := by decide +kernel
theorem dL_law__1677 : decode cL_law_ 1677 = .ok (.iconst 0, 1) := by decide +kernel
theorem dL_law__1678 : decode cL_law_ 1678 = .ok (.laload, 1) := by decide +kernel
theorem dL_law__1679 : decode cL_law_ 1679 = .ok (.iload 6, 2) := by decide +kernel
theorem dL_law__1681 : decode cL_law_ 1681 = .ok (.i2l, 1) := by decide +kernel
theorem dL_law__1682 : decode cL_law_ 1682 = .ok (.lcmp, 1) := by decide +kernel
theorem dL_law__1683 : decode cL_law_ 1683 = .ok (.ifCond .eq 5, 3) := by decide +kernel
theorem dL_law__1686 : decode cL_law_ 1686 = .ok (.iconst 0, 1) := by decide +kernel
theorem dL_law__1687 : decode cL_law_ 1687 = .ok (.ireturn, 1) := by decide +kernel
theorem dL_law__1688 : decode cL_law_ 1688 = .ok (.goto 1110, 3) := by decide +kernel
theorem dL_law__1691 : decode cL_law_ 1691 = .ok (.aload_n 1, 1) := by decide +kernel
theorem dL_law__1692 : decode cL_law_ 1692 = .ok (.aload_n 0, 1) := by decide +kernel
theorem dL_law__1693 : decode cL_law_ 1693 = .ok (.iload 4, 2) := by decide +kernel
theorem dL_law__1695 : decode cL_law_ 1695 = .ok (.iconst 1, 1) := by decide +kernel
theorem dL_law__1696 : decode cL_law_ 1696 = .ok (.iadd, 1) := by decide +kernel
theorem dL_law__1697 : decode cL_law_ 1697 = .ok (.iaload, 1) := by decide +kernel
theorem dL_law__1698 : decode cL_law_ 1698 = .ok (.aload_n 3, 1) := by decide +kernel
theorem dL_law__1699 : decode cL_law_ 1699 = .ok (.invokestatic 209, 3) := by decide +kernel
theorem dL_law__1702 : decode cL_law_ 1702 = .ok (.istore 5, 2) := by decide +kernel
theorem dL_law__1704 : decode cL_law_ 1704 = .ok (.aload_n 2, 1) := by decide +kernel
theorem dL_law__1705 : decode cL_law_ 1705 = .ok (.aload_n 0, 1) := by decide +kernel
theorem dL_law__1706 : decode cL_law_ 1706 = .ok (.iload 4, 2) := by decide +kernel
theorem dL_law__1708 : decode cL_law_ 1708 = .ok (.iconst 1, 1) := by decide +kernel
theorem dL_law__1709 : decode cL_law_ 1709 = .ok (.iadd, 1) := by decide +kernel
theorem dL_law__1710 : decode cL_law_ 1710 = .ok (.iaload, 1) := by decide +kernel
theorem dL_law__1711 : decode cL_law_ 1711 = .ok (.invokevirtual 211, 3) := by decide +kernel
theorem dL_law__1714 : decode cL_law_ 1714 = .ok (.istore 6, 2) := by decide +kernel
theorem dL_law__1716 : decode cL_law_ 1716 = .ok (.aload_n 2, 1) := by decide +kernel
theorem dL_law__1717 : decode cL_law_ 1717 = .ok (.invokevirtual 142, 3) := by decide +kernel
theorem dL_law__1720 : decode cL_law_ 1720 = .ok (.iload 5, 2) := by decide +kernel
theorem dL_law__1722 : decode cL_law_ 1722 = .ok (.if_icmp .eq 5, 3) := by decide +kernel
theorem dL_law__1725 : decode cL_law_ 1725 = .ok (.iconst 0, 1) := by decide +kernel
theorem dL_law__1726 : decode cL_law_ 1726 = .ok (.ireturn, 1) := by decide +kernel
theorem dL_law__1727 : decode cL_law_ 1727 = .ok (.iload 5, 2) := by decide +kernel
theorem dL_law__1729 : decode cL_law_ 1729 = .ok (.ifCond .ne 15, 3) := by decide +kernel
theorem dL_law__1732 : decode cL_law_ 1732 = .ok (.aload_n 3, 1) := by decide +kernel
theorem dL_law__1733 : decode cL_law_ 1733 = .ok (.iconst 0, 1) := by decide +kernel
theorem dL_law__1734 : decode cL_law_ 1734 = .ok (.laload, 1) := by decide +kernel
theorem dL_law__1735 : decode cL_law_ 1735 = .ok (.iload 6, 2) := by decide +kernel
theorem dL_law__1737 : decode cL_law_ 1737 = .ok (.i2l, 1) := by decide +kernel
theorem dL_law__1738 : decode cL_law_ 1738 = .ok (.lcmp, 1) := by decide +kernel
theorem dL_law__1739 : decode cL_law_ 1739 = .ok (.ifCond .eq 5, 3) := by decide +kernel
theorem dL_law__1742 : decode cL_law_ 1742 = .ok (.iconst 0, 1) := by decide +kernel
theorem dL_law__1743 : decode cL_law_ 1743 = .ok (.ireturn, 1) := by decide +kernel
theorem dL_law__1744 : decode cL_law_ 1744 = .ok (.goto 1054, 3) := by decide +kernel
theorem dL_law__1747 : decode cL_law_ 1747 = .ok (.aload_n 1, 1) := by decide +kernel
theorem dL_law__1748 : decode cL_law_ 1748 = .ok (.aload_n 0, 1) := by decide +kernel
theorem dL_law__1749 : decode cL_law_ 1749 = .ok (.iload 4, 2) := by decide +kernel
theorem dL_law__1751 : decode cL_law_ 1751 = .ok (.iconst 1, 1) := by decide +kernel
theorem dL_law__1752 : decode cL_law_ 1752 = .ok (.iadd, 1) := by decide +kernel
theorem dL_law__1753 : decode cL_law_ 1753 = .ok (.iaload, 1) := by decide +kernel
theorem dL_law__1754 : decode cL_law_ 1754 = .ok (.ifCond .eq 7, 3) := by decide +kernel
theorem dL_law__1757 : decode cL_law_ 1757 = .ok (.iconst 1, 1) := by decide +kernel
theorem dL_law__1758 : decode cL_law_ 1758 = .ok (.goto 4, 3) := by decide +kernel
theorem dL_law__1761 : decode cL_law_ 1761 = .ok (.iconst 0, 1) := by decide +kernel
theorem dL_law__1762 : decode cL_law_ 1762 = .ok (.invokevirtual 212, 3) := by decide +kernel
theorem dL_law__1765 : decode cL_law_ 1765 = .ok (.aload_n 2, 1) := by decide +kernel
theorem dL_law__1766 : decode cL_law_ 1766 = .ok (.aload_n 0, 1) := by decide +kernel
theorem dL_law__1767 : decode cL_law_ 1767 = .ok (.iload 4, 2) := by decide +kernel
theorem dL_law__1769 : decode cL_law_ 1769 = .ok (.iconst 1, 1) := by decide +kernel
theorem dL_law__1770 : decode cL_law_ 1770 = .ok (.iadd, 1) := by decide +kernel
theorem dL_law__1771 : decode cL_law_ 1771 = .ok (.iaload, 1) := by decide +kernel
theorem dL_law__1772 : decode cL_law_ 1772 = .ok (.ifCond .eq 7, 3) := by decide +kernel
theorem dL_law__1775 : decode cL_law_ 1775 = .ok (.iconst 1, 1) := by decide +kernel
theorem dL_law__1776 : decode cL_law_ 1776 = .ok (.goto 4, 3) := by decide +kernel
theorem dL_law__1779 : decode cL_law_ 1779 = .ok (.iconst 0, 1) := by decide +kernel
theorem dL_law__1780 : decode cL_law_ 1780 = .ok (.invokevirtual 216, 3) := by decide +kernel
theorem dL_law__1783 : decode cL_law_ 1783 = .ok (.if_icmp .eq 1015, 3) := by decide +kernel
theorem dL_law__1786 : decode cL_law_ 1786 = .ok (.iconst 0, 1) := by decide +kernel
theorem dL_law__1787 : decode cL_law_ 1787 = .ok (.ireturn, 1) := by decide +kernel
theorem dL_law__1788 : decode cL_law_ 1788 = .ok (.aload_n 1, 1) := by decide +kernel
theorem dL_law__1789 : decode cL_law_ 1789 = .ok (.aload_n 0, 1) := by decide +kernel
theorem dL_law__1790 : decode cL_law_ 1790 = .ok (.iload 4, 2) := by decide +kernel
theorem dL_law__1792 : decode cL_law_ 1792 = .ok (.iconst 1, 1) := by decide +kernel
theorem dL_law__1793 : decode cL_law_ 1793 = .ok (.iadd, 1) := by decide +kernel
theorem dL_law__1794 : decode cL_law_ 1794 = .ok (.iaload, 1) := by decide +kernel
theorem dL_law__1795 : decode cL_law_ 1795 = .ok (.aload_n 0, 1) := by decide +kernel
theorem dL_law__1796 : decode cL_law_ 1796 = .ok (.iload 4, 2) := by decide +kernel
theorem dL_law__1798 : decode cL_law_ 1798 = .ok (.iconst 2, 1) := by decide +kernel
theorem dL_law__1799 : decode cL_law_ 1799 = .ok (.iadd, 1) := by decide +kernel
theorem dL_law__1800 : decode cL_law_ 1800 = .ok (.iaload, 1) := by decide +kernel
theorem dL_law__1801 : decode cL_law_ 1801 = .ok (.aload_n 3, 1) := by decide +kernel
theorem dL_law__1802 : decode cL_law_ 1802 = .ok (.invokestatic 217, 3) := by decide +kernel
theorem dL_law__1805 : decode cL_law_ 1805 = .ok (.istore 5, 2) := by decide +kernel
theorem dL_law__1807 : decode cL_law_ 1807 = .ok (.aload_n 2, 1) := by decide +kernel
theorem dL_law__1808 : decode cL_law_ 1808 = .ok (.aload_n 0, 1) := by decide +kernel
theorem dL_law__1809 : decode cL_law_ 1809 = .ok (.iload 4, 2) := by decide +kernel
theorem dL_law__1811 : decode cL_law_ 1811 = .ok (.iconst 1, 1) := by decide +kernel
theorem dL_law__1812 : decode cL_law_ 1812 = .ok (.iadd, 1) := by decide +kernel
theorem dL_law__1813 : decode cL_law_ 1813 = .ok (.iaload, 1) := by decide +kernel
theorem dL_law__1814 : decode cL_law_ 1814 = .ok (.aload_n 0, 1) := by decide +kernel
theorem dL_law__1815 : decode cL_law_ 1815 = .ok (.iload 4, 2) := by decide +kernel
theorem dL_law__1817 : decode cL_law_ 1817 = .ok (.iconst 2, 1) := by decide +kernel
theorem dL_law__1818 : decode cL_law_ 1818 = .ok (.iadd, 1) := by decide +kernel
theorem dL_law__1819 : decode cL_law_ 1819 = .ok (.iaload, 1) := by decide +kernel
theorem dL_law__1820 : decode cL_law_ 1820 = .ok (.invokevirtual 219, 3) := by decide +kernel
theorem dL_law__1823 : decode cL_law_ 1823 = .ok (.istore 6, 2) := by decide +kernel
theorem dL_law__1825 : decode cL_law_ 1825 = .ok (.aload_n 2, 1) := by decide +kernel
theorem dL_law__1826 : decode cL_law_ 1826 = .ok (.invokevirtual 142, 3) := by decide +kernel
