theorem dL_law_1599 : decode cL_law 1599 = .ok (.aload_n 2, 1) := by decide +kernel
theorem dL_law_1600 : decode cL_law 1600 = .ok (.invokevirtual 185, 3) := by decide +kernel
theorem dL_law_1603 : decode cL_law 1603 = .ok (.lcmp, 1) := by decide +kernel
theorem dL_law_1604 : decode cL_law 1604 = .ok (.ifCond .eq 439, 3) := by decide +kernel
theorem dL_law_1607 : decode cL_law 1607 = .ok (.iconst 0, 1) := by decide +kernel
theorem dL_law_1608 : decode cL_law 1608 = .ok (.ireturn, 1) := by decide +kernel
theorem dL_law_1609 : decode cL_law 1609 = .ok (.aload_n 1, 1) := by decide +kernel
theorem dL_law_1610 : decode cL_law 1610 = .ok (.aload_n 0, 1) := by decide +kernel
theorem dL_law_1611 : decode cL_law 1611 = .ok (.iload 4, 2) := by decide +kernel
theorem dL_law_1613 : decode cL_law 1613 = .ok (.iconst 1, 1) := by decide +kernel
theorem dL_law_1614 : decode cL_law 1614 = .ok (.iadd, 1) := by decide +kernel
theorem dL_law_1615 : decode cL_law 1615 = .ok (.iaload, 1) := by decide +kernel
theorem dL_law_1616 : decode cL_law 1616 = .ok (.invokevirtual 186, 3) := by decide +kernel
theorem dL_law_1619 : decode cL_law 1619 = .ok (.aload_n 2, 1) := by decide +kernel
theorem dL_law_1620 : decode cL_law 1620 = .ok (.aload_n 0, 1) := by decide +kernel
theorem dL_law_1621 : decode cL_law 1621 = .ok (.iload 4, 2) := by decide +kernel
theorem dL_law_1623 : decode cL_law 1623 = .ok (.iconst 1, 1) := by decide +kernel
theorem dL_law_1624 : decode cL_law 1624 = .ok (.iadd, 1) := by decide +kernel
theorem dL_law_1625 : decode cL_law 1625 = .ok (.iaload, 1) := by decide +kernel
theorem dL_law_1626 : decode cL_law 1626 = .ok (.invokevirtual 189, 3) := by decide +kernel
theorem dL_law_1629 : decode cL_law 1629 = .ok (.if_icmp .eq 414, 3) := by decide +kernel
theorem dL_law_1632 : decode cL_law 1632 = .ok (.iconst 0, 1) := by decide +kernel
theorem dL_law_1633 : decode cL_law 1633 = .ok (.ireturn, 1) := by decide +kernel
theorem dL_law_1634 : decode cL_law 1634 = .ok (.aload_n 1, 1) := by decide +kernel
theorem dL_law_1635 : decode cL_law 1635 = .ok (.aload_n 0, 1) := by decide +kernel
theorem dL_law_1636 : decode cL_law 1636 = .ok (.iload 4, 2) := by decide +kernel
theorem dL_law_1638 : decode cL_law 1638 = .ok (.iconst 1, 1) := by decide +kernel
theorem dL_law_1639 : decode cL_law 1639 = .ok (.iadd, 1) := by decide +kernel
theorem dL_law_1640 : decode cL_law 1640 = .ok (.iaload, 1) := by decide +kernel
theorem dL_law_1641 : decode cL_law 1641 = .ok (.aload_n 0, 1) := by decide +kernel
theorem dL_law_1642 : decode cL_law 1642 = .ok (.iload 4, 2) := by decide +kernel
theorem dL_law_1644 : decode cL_law 1644 = .ok (.iconst 2, 1) := by decide +kernel
theorem dL_law_1645 : decode cL_law 1645 = .ok (.iadd, 1) := by decide +kernel
theorem dL_law_1646 : decode cL_law 1646 = .ok (.iaload, 1) := by decide +kernel
theorem dL_law_1647 : decode cL_law 1647 = .ok (.aload_n 0, 1) := by decide +kernel
theorem dL_law_1648 : decode cL_law 1648 = .ok (.iload 4, 2) := by decide +kernel
theorem dL_law_1650 : decode cL_law 1650 = .ok (.iconst 3, 1) := by decide +kernel
theorem dL_law_1651 : decode cL_law 1651 = .ok (.iadd, 1) := by decide +kernel
theorem dL_law_1652 : decode cL_law 1652 = .ok (.iaload, 1) := by decide +kernel
theorem dL_law_1653 : decode cL_law 1653 = .ok (.ifCond .eq 7, 3) := by decide +kernel
theorem dL_law_1656 : decode cL_law 1656 = .ok (.iconst 1, 1) := by decide +kernel
theorem dL_law_1657 : decode cL_law 1657 = .ok (.goto 4, 3) := by decide +kernel
theorem dL_law_1660 : decode cL_law 1660 = .ok (.iconst 0, 1) := by decide +kernel
theorem dL_law_1661 : decode cL_law 1661 = .ok (.invokevirtual 190, 3) := by decide +kernel
theorem dL_law_1664 : decode cL_law 1664 = .ok (.aload_n 2, 1) := by decide +kernel
theorem dL_law_1665 : decode cL_law 1665 = .ok (.aload_n 0, 1) := by decide +kernel
theorem dL_law_1666 : decode cL_law 1666 = .ok (.iload 4, 2) := by decide +kernel
theorem dL_law_1668 : decode cL_law 1668 = .ok (.iconst 1, 1) := by decide +kernel
theorem dL_law_1669 : decode cL_law 1669 = .ok (.iadd, 1) := by decide +kernel
theorem dL_law_1670 : decode cL_law 1670 = .ok (.iaload, 1) := by decide +kernel
theorem dL_law_1671 : decode cL_law 1671 = .ok (.aload_n 0, 1) := by decide +kernel
theorem dL_law_1672 : decode cL_law 1672 = .ok (.iload 4, 2) := by decide +kernel
theorem dL_law_1674 : decode cL_law 1674 = .ok (.iconst 2, 1) := by decide +kernel
theorem dL_law_1675 : decode cL_law 1675 = .ok (.iadd, 1) := by decide +kernel
theorem dL_law_1676 : decode cL_law 1676 = .ok (.iaload, 1) := by decide +kernel
theorem dL_law_1677 : decode cL_law 1677 = .ok (.aload_n 0, 1) := by decide +kernel
theorem dL_law_1678 : decode cL_law 1678 = .ok (.iload 4, 2) := by decide +kernel
theorem dL_law_1680 : decode cL_law 1680 = .ok (.iconst 3, 1) := by decide +kernel
theorem dL_law_1681 : decode cL_law 1681 = .ok (.iadd, 1) := by decide +kernel
theorem dL_law_1682 : decode cL_law 1682 = .ok (.iaload, 1) := by decide +kernel
theorem dL_law_1683 : decode cL_law 1683 = .ok (.ifCond .eq 7, 3) := by decide +kernel
theorem dL_law_1686 : decode cL_law 1686 = .ok (.iconst 1, 1) := by decide +kernel
theorem dL_law_1687 : decode cL_law 1687 = .ok (.goto 4, 3) := by decide +kernel
theorem dL_law_1690 : decode cL_law 1690 = .ok (.iconst 0, 1) := by decide +kernel
theorem dL_law_1691 : decode cL_law 1691 = .ok (.invokevirtual 194, 3) := by decide +kernel
theorem dL_law_1694 : decode cL_law 1694 = .ok (.if_icmp .eq 349, 3) := by decide +kernel
theorem dL_law_1697 : decode cL_law 1697 = .ok (.iconst 0, 1) := by decide +kernel
theorem dL_law_1698 : decode cL_law 1698 = .ok (.ireturn, 1) := by decide +kernel
theorem dL_law_1699 : decode cL_law 1699 = .ok (.aload_n 1, 1) := by decide +kernel
theorem dL_law_1700 : decode cL_law 1700 = .ok (.aload_n 0, 1) := by decide +kernel
theorem dL_law_1701 : decode cL_law 1701 = .ok (.iload 4, 2) := by decide +kernel
theorem dL_law_1703 : decode cL_law 1703 = .ok (.iconst 1, 1) := by decide +kernel
theorem dL_law_1704 : decode cL_law 1704 = .ok (.iadd, 1) := by decide +kernel
theorem dL_law_1705 : decode cL_law 1705 = .ok (.iaload, 1) := by decide +kernel
theorem dL_law_1706 : decode cL_law 1706 = .ok (.aload_n 0, 1) := by decide +kernel
theorem dL_law_1707 : decode cL_law 1707 = .ok (.iload 4, 2) := by decide +kernel
theorem dL_law_1709 : decode cL_law 1709 = .ok (.iconst 2, 1) := by decide +kernel
theorem dL_law_1710 : decode cL_law 1710 = .ok (.iadd, 1) := by decide +kernel
theorem dL_law_1711 : decode cL_law 1711 = .ok (.iaload, 1) := by decide +kernel
theorem dL_law_1712 : decode cL_law 1712 = .ok (.aload_n 0, 1) := by decide +kernel
theorem dL_law_1713 : decode cL_law 1713 = .ok (.iload 4, 2) := by decide +kernel
theorem dL_law_1715 : decode cL_law 1715 = .ok (.iconst 3, 1) := by decide +kernel
theorem dL_law_1716 : decode cL_law 1716 = .ok (.iadd, 1) := by decide +kernel
theorem dL_law_1717 : decode cL_law 1717 = .ok (.iaload, 1) := by decide +kernel
theorem dL_law_1718 : decode cL_law 1718 = .ok (.ifCond .eq 7, 3) := by decide +kernel
theorem dL_law_1721 : decode cL_law 1721 = .ok (.iconst 1, 1) := by decide +kernel
theorem dL_law_1722 : decode cL_law 1722 = .ok (.goto 4, 3) := by decide +kernel
theorem dL_law_1725 : decode cL_law 1725 = .ok (.iconst 0, 1) := by decide +kernel
theorem dL_law_1726 : decode cL_law 1726 = .ok (.invokevirtual 195, 3) := by decide +kernel
theorem dL_law_1729 : decode cL_law 1729 = .ok (.aload_n 2, 1) := by decide +kernel
theorem dL_law_1730 : decode cL_law 1730 = .ok (.aload_n 0, 1) := by decide +kernel
theorem dL_law_1731 : decode cL_law 1731 = .ok (.iload 4, 2) := by decide +kernel
theorem dL_law_1733 : decode cL_law 1733 = .ok (.iconst 1, 1) := by decide +kernel
theorem dL_law_1734 : decode cL_law 1734 = .ok (.iadd, 1) := by decide +kernel
theorem dL_law_1735 : decode cL_law 1735 = .ok (.iaload, 1) := by decide +kernel
theorem dL_law_1736 : decode cL_law 1736 = .ok (.aload_n 0, 1) := by decide +kernel
theorem dL_law_1737 : decode cL_law 1737 = .ok (.iload 4, 2) := by decide +kernel
theorem dL_law_1739 : decode cL_law 1739 = .ok (.iconst 2, 1) := by decide +kernel
theorem dL_law_1740 : decode cL_law 1740 = .ok (.iadd, 1) := by decide +kernel
theorem dL_law_1741 : decode cL_law 1741 = .ok (.iaload, 1) := by decide +kernel
theorem dL_law_1742 : decode cL_law 1742 = .ok (.aload_n 0, 1) := by decide +kernel
theorem dL_law_1743 : decode cL_law 1743 = .ok (.iload 4, 2) := by decide +kernel
theorem dL_law_1745 : decode cL_law 1745 = .ok (.iconst 3, 1) := by decide +kernel
theorem dL_law_1746 : decode cL_law 1746 = .ok (.iadd, 1) := by decide +kernel
theorem dL_law_1747 : decode cL_law 1747 = .ok (.iaload, 1) := by decide +kernel
theorem dL_law_1748 : decode cL_law 1748 = .ok (.ifCond .eq 7, 3) := by decide +kernel
theorem dL_law_1751 : decode cL_law 1751 = .ok (.iconst 1, 1) := by decide +kernel
theorem dL_law_1752 : decode cL_law 1752 = .ok (.goto 4, 3) := by decide +kernel
theorem dL_law_1755 : decode cL_law 1755 = .ok (.iconst 0, 1) := by decide +kernel
theorem dL_law_1756 : decode cL_law 1756 = .ok (.invokevirtual 198, 3) := by decide +kernel
theorem dL_law_1759 : decode cL_law 1759 = .ok (.if_icmp .eq 284, 3) := by decide +kernel
theorem dL_law_1762 : decode cL_law 1762 = .ok (.iconst 0, 1) := by decide +kernel
theorem dL_law_1763 : decode cL_law 1763 = .ok (.ireturn, 1) := by decide +kernel
theorem dL_law_1764 : decode cL_law 1764 = .ok (.aload_n 1, 1) := by decide +kernel
theorem dL_law_1765 : decode cL_law 1765 = .ok (.aload_n 0, 1) := by decide +kernel
theorem dL_law_1766 : decode cL_law 1766 = .ok (.iload 4, 2) := by decide +kernel
theorem dL_law_1768 : decode cL_law 1768 = .ok (.iconst 1, 1) := by decide +kernel
theorem dL_law_1769 : decode cL_law 1769 = .ok (.iadd, 1) := by decide +kernel
theorem dL_law_1770 : decode cL_law 1770 = .ok (.iaload, 1) := by decide +kernel
theorem dL_law_1771 : decode cL_law 1771 = .ok (.aload_n 0, 1) := by decide +kernel
theorem dL_law_1772 : decode cL_law 1772 = .ok (.iload 4, 2) := by decide +kernel
theorem dL_law_1774 : decode cL_law 1774 = .ok (.iconst 2, 1) := by decide +kernel
theorem dL_law_1775 : decode cL_law 1775 = .ok (.iadd, 1) := by decide +kernel
theorem dL_law_1776 : decode cL_law 1776 = .ok (.iaload, 1) := by decide +kernel
theorem dL_law_1777 : decode cL_law 1777 = .ok (.ifCond .eq 7, 3) := by decide +kernel
theorem dL_law_1780 : decode cL_law 1780 = .ok (.iconst 1, 1) := by decide +kernel
theorem dL_law_1781 : decode cL_law 1781 = .ok (.goto 4, 3) := by decide +kernel
theorem dL_law_1784 : decode cL_law 1784 = .ok (.iconst 0, 1) := by decide +kernel
theorem dL_law_1785 : decode cL_law 1785 = .ok (.invokevirtual 199, 3) := by decide +kernel
theorem dL_law_1788 : decode cL_law 1788 = .ok (.aload_n 2, 1) := by decide +kernel
theorem dL_law_1789 : decode cL_law 1789 = .ok (.aload_n 0, 1) := by decide +kernel
theorem dL_law_1790 : decode cL_law 1790 = .ok (.iload 4, 2) := by decide +kernel
theorem dL_law_1792 : decode cL_law 1792 = .ok (.iconst 1, 1) := by decide +kernel
theorem dL_law_1793 : decode cL_law 1793 = .ok (.iadd, 1) := by decide +kernel
theorem dL_law_1794 : decode cL_law 1794 = .ok (.iaload, 1) := by decide +kernel
theorem dL_law_1795 : decode cL_law 1795 = .ok (.aload_n 0, 1) := by decide +kernel
theorem dL_law_1796 : decode cL_law 1796 = .ok (.iload 4, 2) := by decide +kernel
theorem dL_law_1798 : decode cL_law 1798 = .ok (.iconst 2, 1) := by decide +kernel
theorem dL_law_1799 : decode cL_law 1799 = .ok (.iadd, 1) := by decide +kernel
theorem dL_law_1800 : decode cL_law 1800 = .ok (.iaload, 1) := by decide +kernel
theorem dL_law_1801 : decode cL_law 1801 = .ok (.ifCond .eq 7, 3) := by decide +kernel
theorem dL_law_1804 : decode cL_law 1804 = .ok (.iconst 1, 1) := by decide +kernel
theorem dL_law_1805 : decode cL_law 1805 = .ok (.goto 4, 3) := by decide +kernel
theorem dL_law_1808 : decode cL_law 1808 = .ok (.iconst 0, 1) := by decide +kernel
theorem dL_law_1809 : decode cL_law 1809 = .ok (.invokevirtual 203, 3) := by decide +kernel
theorem dL_law_1812 : decode cL_law 1812 = .ok (.if_icmp .eq 231, 3) := by decide +kernel
theorem dL_law_1815 : decode cL_law 1815 = .ok (.iconst 0, 1) := by decide +kernel
theorem dL_law_1816 : decode cL_law 1816 = .ok (.ireturn, 1) := by decide +kernel
theorem dL_law_1817 : decode cL_law 1817 = .ok (.aload_n 1, 1) := by decide +kernel
theorem dL_law_1818 : decode cL_law 1818 = .ok (.aload_n 0, 1) := by decide +kernel
theorem dL_law_1819 : decode cL_law 1819 = .ok (.iload 4, 2) := by decide +kernel
theorem dL_law_1821 : decode cL_law 1821 = .ok (.iconst 1, 1) := by decide +kernel
theorem dL_law_1822 : decode cL_law 1822 = .ok (.iadd, 1) := by decide +kernel
theorem dL_law_1823 : decode cL_law 1823 = .ok (.iaload, 1) := by decide +kernel
theorem dL_law_1824 : decode cL_law 1824 = .ok (.aload_n 0, 1) := by decide +kernel
theorem dL_law_1825 : decode cL_law 1825 = .ok (.iload 4, 2) := by decide +kernel
theorem dL_law_1827 : decode cL_law 1827 = .ok (.iconst 2, 1) := by decide +kernel
theorem dL_law_1828 : decode cL_law 1828 = .ok (.iadd, 1) := by decide +kernel
theorem dL_law_1829 : decode cL_law 1829 = .ok (.iaload, 1) := by decide +kernel
theorem dL_law_1830 : decode cL_law 1830 = .ok (.ifCond .eq 7, 3) := by decide +kernel
theorem dL_law_1833 : decode cL_law 1833 = .ok (.iconst 1, 1) := by decide +kernel
theorem dL_law_1834 : decode cL_law 1834 = .ok (.goto 4, 3) := by decide +kernel
theorem dL_law_1837 : decode cL_law 1837 = .ok (.iconst 0, 1) := by decide +kernel
theorem dL_law_1838 : decode cL_law 1838 = .ok (.invokevirtual 204, 3) := by decide +kernel
theorem dL_law_1841 : decode cL_law 1841 = .ok (.aload_n 2, 1) := by decide +kernel
theorem dL_law_1842 : decode cL_law 1842 = .ok (.aload_n 0, 1) := by decide +kernel
theorem dL_law_1843 : decode cL_law 1843 = .ok (.iload 4, 2) := by decide +kernel
theorem dL_law_1845 : decode cL_law 1845 = .ok (.iconst 1, 1) := by decide +kernel
theorem dL_law_1846 : decode cL_law 1846 = .ok (.iadd, 1) := by decide +kernel
theorem dL_law_1847 : decode cL_law 1847 = .ok (.iaload, 1) := by decide +kernel
theorem dL_law_1848 : decode cL_law 1848 = .ok (.aload_n 0, 1) := by decide +kernel
theorem dL_law_1849 : decode cL_law 1849 = .ok (.iload 4, 2) := by decide +kernel
theorem dL_law_1851 : decode cL_law 1851 = .ok (.iconst 2, 1) := by decide +kernel
theorem dL_law_1852 : decode cL_law 1852 = .ok (.iadd, 1) := by decide +kernel
theorem dL_law_1853 : decode cL_law 1853 = .ok (.iaload, 1) := by decide +kernel
theorem dL_law_1854 : decode cL_law 1854 = .ok (.ifCond .eq 7, 3) := by decide +kernel
theorem dL_law_1857 : decode cL_law 1857 = .ok (.iconst 1, 1) := by decide +kernel
theorem dL_law_1858 : decode cL_law 1858 = .ok (.goto 4, 3) := by decide +kernel
theorem dL_law_1861 : decode cL_law 1861 = .ok (.iconst 0, 1) := by decide +kernel
theorem dL_law_1862 : decode cL_law 1862 = .ok (.invokevirtual 207, 3) := by decide +kernel
theorem dL_law_1865 : decode cL_law 1865 = .ok (.if_icmp .eq 178, 3) := by decide +kernel
theorem dL_law_1868 : decode cL_law 1868 = .ok (.iconst 0, 1) := by decide +kernel
theorem dL_law_1869 : decode cL_law 1869 = .ok (.ireturn, 1) := by decide +kernel
theorem dL_law_1870 : decode cL_law 1870 = .ok (.aload_n 1, 1) := by decide +kernel
theorem dL_law_1871 : decode cL_law 1871 = .ok (.invokevirtual 208, 3) := by decide +kernel
theorem dL_law_1874 : decode cL_law 1874 = .ok (.aload_n 2, 1) := by decide +kernel
theorem dL_law_1875 : decode cL_law 1875 = .ok (.invokevirtual 212, 3) := by decide +kernel
theorem dL_law_1878 : decode cL_law 1878 = .ok (.if_icmp .eq 165, 3) := by decide +kernel
theorem dL_law_1881 : decode cL_law 1881 = .ok (.iconst 0, 1) := by decide +kernel
theorem dL_law_1882 : decode cL_law 1882 = .ok (.ireturn, 1) := by decide +kernel
theorem dL_law_1883 : decode cL_law 1883 = .ok (.aload_n 1, 1) := by decide +kernel
theorem dL_law_1884 : decode cL_law 1884 = .ok (.invokevirtual 213, 3) := by decide +kernel
theorem dL_law_1887 : decode cL_law 1887 = .ok (.aload_n 2, 1) := by decide +kernel
theorem dL_law_1888 : decode cL_law 1888 = .ok (.invokevirtual 216, 3) := by decide +kernel
theorem dL_law_1891 : decode cL_law 1891 = .ok (.if_icmp .eq 152, 3) := by decide +kernel
theorem dL_law_1894 : decode cL_law 1894 = .ok (.iconst 0, 1) := by decide +kernel
theorem dL_law_1895 : decode cL_law 1895 = .ok (.ireturn, 1) := by decide +kernel
theorem dL_law_1896 : decode cL_law 1896 = .ok (.aload_n 1, 1) := by decide +kernel
theorem dL_law_1897 : decode cL_law 1897 = .ok (.aload_n 0, 1) := by decide +kernel
theorem dL_law_1898 : decode cL_law 1898 = .ok (.iload 4, 2) := by decide +kernel
theorem dL_law_1900 : decode cL_law 1900 = .ok (.iconst 1, 1) := by decide +kernel
theorem dL_law_1901 : decode cL_law 1901 = .ok (.iadd, 1) := by decide +kernel
theorem dL_law_1902 : decode cL_law 1902 = .ok (.iaload, 1) := by decide +kernel
theorem dL_law_1903 : decode cL_law 1903 = .ok (.invokevirtual 217, 3) := by decide +kernel
theorem dL_law_1906 : decode cL_law 1906 = .ok (.aload_n 2, 1) := by decide +kernel
theorem dL_law_1907 : decode cL_law 1907 = .ok (.aload_n 0, 1) := by decide +kernel
theorem dL_law_1908 : decode cL_law 1908 = .ok (.iload 4, 2) := by decide +kernel
theorem dL_law_1910 : decode cL_law 1910 = .ok (.iconst 1, 1) := by decide +kernel
theorem dL_law_1911 : decode cL_law 1911 = .ok (.iadd, 1) := by decide +kernel
theorem dL_law_1912 : decode cL_law 1912 = .ok (.iaload, 1) := by decide +kernel
theorem dL_law_1913 : decode cL_law 1913 = .ok (.invokevirtual 221, 3) := by decide +kernel
theorem dL_law_1916 : decode cL_law 1916 = .ok (.if_icmp .eq 127, 3) := by decide +kernel
theorem dL_law_1919 : decode cL_law 1919 = .ok (.iconst 0, 1) := by decide +kernel
theorem dL_law_1920 : decode cL_law 1920 = .ok (.ireturn, 1) := by decide +kernel
theorem dL_law_1921 : decode cL_law 1921 = .ok (.aload_n 1, 1) := by decide +kernel
theorem dL_law_1922 : decode cL_law 1922 = .ok (.aload_n 0, 1) := by decide +kernel
theorem dL_law_1923 : decode cL_law 1923 = .ok (.iload 4, 2) := by decide +kernel
theorem dL_law_1925 : decode cL_law 1925 = .ok (.iconst 1, 1) := by decide +kernel
theorem dL_law_1926 : decode cL_law 1926 = .ok (.iadd, 1) := by decide +kernel
theorem dL_law_1927 : decode cL_law 1927 = .ok (.iaload, 1) := by decide +kernel
theorem dL_law_1928 : decode cL_law 1928 = .ok (.aload_n 0, 1) := by decide +kernel
theorem dL_law_1929 : decode cL_law 1929 = .ok (.iload 4, 2) := by decide +kernel
theorem dL_law_1931 : decode cL_law 1931 = .ok (.iconst 2, 1) := by decide +kernel
theorem dL_law_1932 : decode cL_law 1932 = .ok (.iadd, 1) := by decide +kernel
theorem dL_law_1933 : decode cL_law 1933 = .ok (.iaload, 1) := by decide +kernel
theorem dL_law_1934 : decode cL_law 1934 = .ok (.ifCond .eq 7, 3) := by decide +kernel
theorem dL_law_1937 : decode cL_law 1937 = .ok (.iconst 1, 1) := by decide +kernel
theorem dL_law_1938 : decode cL_law 1938 = .ok (.goto 4, 3) := by decide +kernel
theorem dL_law_1941 : decode cL_law 1941 = .ok (.iconst 0, 1) := by decide +kernel
theorem dL_law_1942 : decode cL_law 1942 = .ok (.aload_n 3, 1) := by decide +kernel
theorem dL_law_1943 : decode cL_law 1943 = .ok (.invokestatic 222, 3) := by decide +kernel
theorem dL_law_1946 : decode cL_law 1946 = .ok (.istore 5, 2) := by decide +kernel
theorem dL_law_1948 : decode cL_law 1948 = .ok (.aload_n 2, 1) := by decide +kernel
theorem dL_law_1949 : decode cL_law 1949 = .ok (.aload_n 0, 1) := by decide +kernel
theorem dL_law_1950 : decode cL_law 1950 = .ok (.iload 4, 2) := by decide +kernel
theorem dL_law_1952 : decode cL_law 1952 = .ok (.iconst 1, 1) := by decide +kernel
theorem dL_law_1953 : decode cL_law 1953 = .ok (.iadd, 1) := by decide +kernel
theorem dL_law_1954 : decode cL_law 1954 = .ok (.iaload, 1) := by decide +kernel
theorem dL_law_1955 : decode cL_law 1955 = .ok (.aload_n 0, 1) := by decide +kernel
theorem dL_law_1956 : decode cL_law 1956 = .ok (.iload 4, 2) := by decide +kernel
theorem dL_law_1958 : decode cL_law 1958 = .ok (.iconst 2, 1) := by decide +kernel
theorem dL_law_1959 : decode cL_law 1959 = .ok (.iadd, 1) := by decide +kernel
theorem dL_law_1960 : decode cL_law 1960 = .ok (.iaload, 1) := by decide +kernel
theorem dL_law_1961 : decode cL_law 1961 = .ok (.ifCond .eq 7, 3) := by decide +kernel
theorem dL_law_1964 : decode cL_law 1964 = .ok (.iconst 1, 1) := by decide +kernel
theorem dL_law_1965 : decode cL_law 1965 = .ok (.goto 4, 3) := by decide +kernel
theorem dL_law_1968 : decode cL_law 1968 = .ok (.iconst 0, 1) := by decide +kernel
theorem dL_law_1969 : decode cL_law 1969 = .ok (.invokevirtual 227, 3) := by decide +kernel
theorem dL_law_1972 : decode cL_law 1972 = .ok (.istore 6, 2) := by decide +kernel
theorem dL_law_1974 : decode cL_law 1974 = .ok (.aload_n 2, 1) := by decide +kernel
theorem dL_law_1975 : decode cL_law 1975 = .ok (.invokevirtual 228, 3) := by decide +kernel
theorem dL_law_1978 : decode cL_law 1978 = .ok (.iload 5, 2) := by decide +kernel
theorem dL_law_1980 : decode cL_law 1980 = .ok (.if_icmp .eq 5, 3) := by decide +kernel
theorem dL_law_1983 : decode cL_law 1983 = .ok (.iconst 0, 1) := by decide +kernel
theorem dL_law_1984 : decode cL_law 1984 = .ok (.ireturn, 1) := by decide +kernel
theorem dL_law_1985 : decode cL_law 1985 = .ok (.iload 5, 2) := by decide +kernel
theorem dL_law_1987 : decode cL_law 1987 = .ok (.ifCond .ne 15, 3) := by decide +kernel
theorem dL_law_1990 : decode cL_law 1990 = .ok (.aload_n 3, 1) := by decide +kernel
theorem dL_law_1991 : decode cL_law 1991 = .ok (.iconst 0, 1) := by decide +kernel
theorem dL_law_1992 : decode cL_law 1992 = .ok (.laload, 1) := by decide +kernel
theorem dL_law_1993 : decode cL_law 1993 = .ok (.iload 6, 2) := by decide +kernel
theorem dL_law_1995 : decode cL_law 1995 = .ok (.i2l, 1) := by decide +kernel
theorem dL_law_1996 : decode cL_law 1996 = .ok (.lcmp, 1) := by decide +kernel
theorem dL_law_1997 : decode cL_law 1997 = .ok (.ifCond .eq 5, 3) := by decide +kernel
theorem dL_law_2000 : decode cL_law 2000 = .ok (.iconst 0, 1) := by decide +kernel
theorem dL_law_2001 : decode cL_law 2001 = .ok (.ireturn, 1) := by decide +kernel
theorem dL_law_2002 : decode cL_law 2002 = .ok (.goto 41, 3) := by decide +kernel
theorem dL_law_2005 : decode cL_law 2005 = .ok (.aload_n 1, 1) := by decide +kernel
theorem dL_law_2006 : decode cL_law 2006 = .ok (.aload_n 0, 1) := by decide +kernel
theorem dL_law_2007 : decode cL_law 2007 = .ok (.iload 4, 2) := by decide +kernel
theorem dL_law_2009 : decode cL_law 2009 = .ok (.iconst 1, 1) := by decide +kernel
theorem dL_law_2010 : decode cL_law 2010 = .ok (.iadd, 1) := by decide +kernel
theorem dL_law_2011 : decode cL_law 2011 = .ok (.iaload, 1) := by decide +kernel
theorem dL_law_2012 : decode cL_law 2012 = .ok (.invokevirtual 231, 3) := by decide +kernel
theorem dL_law_2015 : decode cL_law 2015 = .ok (.aload_n 2, 1) := by decide +kernel
theorem dL_law_2016 : decode cL_law 2016 = .ok (.aload_n 0, 1) := by decide +kernel
theorem dL_law_2017 : decode cL_law 2017 = .ok (.iload 4, 2) := by decide +kernel
theorem dL_law_2019 : decode cL_law 2019 = .ok (.iconst 1, 1) := by decide +kernel
theorem dL_law_2020 : decode cL_law 2020 = .ok (.iadd, 1) := by decide +kernel
theorem dL_law_2021 : decode cL_law 2021 = .ok (.iaload, 1) := by decide +kernel
theorem dL_law_2022 : decode cL_law 2022 = .ok (.invokevirtual 234, 3) := by decide +kernel
theorem dL_law_2025 : decode cL_law 2025 = .ok (.if_icmp .eq 18, 3) := by decide +kernel
theorem dL_law_2028 : decode cL_law 2028 = .ok (.iconst 0, 1) := by decide +kernel
theorem dL_law_2029 : decode cL_law 2029 = .ok (.ireturn, 1) := by decide +kernel
theorem dL_law_2030 : decode cL_law 2030 = .ok (.aload_n 1, 1) := by decide +kernel
theorem dL_law_2031 : decode cL_law 2031 = .ok (.invokevirtual 235, 3) := by decide +kernel
theorem dL_law_2034 : decode cL_law 2034 = .ok (.aload_n 2, 1) := by decide +kernel
theorem dL_law_2035 : decode cL_law 2035 = .ok (.invokevirtual 238, 3) := by decide +kernel
theorem dL_law_2038 : decode cL_law 2038 = .ok (.if_icmp .eq 5, 3) := by decide +kernel
theorem dL_law_2041 : decode cL_law 2041 = .ok (.iconst 0, 1) := by decide +kernel
theorem dL_law_2042 : decode cL_law 2042 = .ok (.ireturn, 1) := by decide +kernel
theorem dL_law_2043 : decode cL_law 2043 = .ok (.iinc 4 6, 3) := by decide +kernel
theorem dL_law_2046 : decode cL_law 2046 = .ok (.goto (-2023), 3) := by decide +kernel
theorem dL_law_2049 : decode cL_law 2049 = .ok (.iconst 1, 1) := by decide +kernel
theorem dL_law_2050 : decode cL_law 2050 = .ok (.ireturn, 1) := by decide +kernel
