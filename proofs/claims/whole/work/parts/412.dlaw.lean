theorem dL_law__1620 : decode cL_law_ 1620 = .ok (.laload, 1) := by decide +kernel
theorem dL_law__1621 : decode cL_law_ 1621 = .ok (.lload 6, 2) := by decide +kernel
theorem dL_law__1623 : decode cL_law_ 1623 = .ok (.lcmp, 1) := by decide +kernel
theorem dL_law__1624 : decode cL_law_ 1624 = .ok (.ifCond .eq 5, 3) := by decide +kernel
theorem dL_law__1627 : decode cL_law_ 1627 = .ok (.iconst 0, 1) := by decide +kernel
theorem dL_law__1628 : decode cL_law_ 1628 = .ok (.ireturn, 1) := by decide +kernel
theorem dL_law__1629 : decode cL_law_ 1629 = .ok (.goto 1390, 3) := by decide +kernel
theorem dL_law__1632 : decode cL_law_ 1632 = .ok (.aload_n 1, 1) := by decide +kernel
theorem dL_law__1633 : decode cL_law_ 1633 = .ok (.aload_n 0, 1) := by decide +kernel
theorem dL_law__1634 : decode cL_law_ 1634 = .ok (.iload 4, 2) := by decide +kernel
theorem dL_law__1636 : decode cL_law_ 1636 = .ok (.iconst 1, 1) := by decide +kernel
theorem dL_law__1637 : decode cL_law_ 1637 = .ok (.iadd, 1) := by decide +kernel
theorem dL_law__1638 : decode cL_law_ 1638 = .ok (.iaload, 1) := by decide +kernel
theorem dL_law__1639 : decode cL_law_ 1639 = .ok (.aload_n 0, 1) := by decide +kernel
theorem dL_law__1640 : decode cL_law_ 1640 = .ok (.iload 4, 2) := by decide +kernel
theorem dL_law__1642 : decode cL_law_ 1642 = .ok (.iconst 2, 1) := by decide +kernel
theorem dL_law__1643 : decode cL_law_ 1643 = .ok (.iadd, 1) := by decide +kernel
theorem dL_law__1644 : decode cL_law_ 1644 = .ok (.iaload, 1) := by decide +kernel
theorem dL_law__1645 : decode cL_law_ 1645 = .ok (.aload_n 0, 1) := by decide +kernel
theorem dL_law__1646 : decode cL_law_ 1646 = .ok (.iload 4, 2) := by decide +kernel
theorem dL_law__1648 : decode cL_law_ 1648 = .ok (.iconst 3, 1) := by decide +kernel
theorem dL_law__1649 : decode cL_law_ 1649 = .ok (.iadd, 1) := by decide +kernel
theorem dL_law__1650 : decode cL_law_ 1650 = .ok (.iaload, 1) := by decide +kernel
theorem dL_law__1651 : decode cL_law_ 1651 = .ok (.aload_n 0, 1) := by decide +kernel
theorem dL_law__1652 : decode cL_law_ 1652 = .ok (.iload 4, 2) := by decide +kernel
theorem dL_law__1654 : decode cL_law_ 1654 = .ok (.iconst 4, 1) := by decide +kernel
theorem dL_law__1655 : decode cL_law_ 1655 = .ok (.iadd, 1) := by decide +kernel
theorem dL_law__1656 : decode cL_law_ 1656 = .ok (.iaload, 1) := by decide +kernel
theorem dL_law__1657 : decode cL_law_ 1657 = .ok (.aload_n 0, 1) := by decide +kernel
theorem dL_law__1658 : decode cL_law_ 1658 = .ok (.iload 4, 2) := by decide +kernel
theorem dL_law__1660 : decode cL_law_ 1660 = .ok (.iconst 5, 1) := by decide +kernel
theorem dL_law__1661 : decode cL_law_ 1661 = .ok (.iadd, 1) := by decide +kernel
theorem dL_law__1662 : decode cL_law_ 1662 = .ok (.iaload, 1) := by decide +kernel
theorem dL_law__1663 : decode cL_law_ 1663 = .ok (.aload_n 0, 1) := by decide +kernel
theorem dL_law__1664 : decode cL_law_ 1664 = .ok (.iload 4, 2) := by decide +kernel
theorem dL_law__1666 : decode cL_law_ 1666 = .ok (.bipush 6, 2) := by decide +kernel
theorem dL_law__1668 : decode cL_law_ 1668 = .ok (.iadd, 1) := by decide +kernel
theorem dL_law__1669 : decode cL_law_ 1669 = .ok (.iaload, 1) := by decide +kernel
theorem dL_law__1670 : decode cL_law_ 1670 = .ok (.aload_n 3, 1) := by decide +kernel
theorem dL_law__1671 : decode cL_law_ 1671 = .ok (.invokestatic 208, 3) := by decide +kernel
theorem dL_law__1674 : decode cL_law_ 1674 = .ok (.istore 5, 2) := by decide +kernel
theorem dL_law__1676 : decode cL_law_ 1676 = .ok (.aload_n 2, 1) := by decide +kernel
theorem dL_law__1677 : decode cL_law_ 1677 = .ok (.aload_n 0, 1) := by decide +kernel
theorem dL_law__1678 : decode cL_law_ 1678 = .ok (.iload 4, 2) := by decide +kernel
theorem dL_law__1680 : decode cL_law_ 1680 = .ok (.iconst 1, 1) := by decide +kernel
theorem dL_law__1681 : decode cL_law_ 1681 = .ok (.iadd, 1) := by decide +kernel
theorem dL_law__1682 : decode cL_law_ 1682 = .ok (.iaload, 1) := by decide +kernel
theorem dL_law__1683 : decode cL_law_ 1683 = .ok (.aload_n 0, 1) := by decide +kernel
theorem dL_law__1684 : decode cL_law_ 1684 = .ok (.iload 4, 2) := by decide +kernel
theorem dL_law__1686 : decode cL_law_ 1686 = .ok (.iconst 2, 1) := by decide +kernel
theorem dL_law__1687 : decode cL_law_ 1687 = .ok (.iadd, 1) := by decide +kernel
theorem dL_law__1688 : decode cL_law_ 1688 = .ok (.iaload, 1) := by decide +kernel
theorem dL_law__1689 : decode cL_law_ 1689 = .ok (.aload_n 0, 1) := by decide +kernel
theorem dL_law__1690 : decode cL_law_ 1690 = .ok (.iload 4, 2) := by decide +kernel
theorem dL_law__1692 : decode cL_law_ 1692 = .ok (.iconst 3, 1) := by decide +kernel
theorem dL_law__1693 : decode cL_law_ 1693 = .ok (.iadd, 1) := by decide +kernel
theorem dL_law__1694 : decode cL_law_ 1694 = .ok (.iaload, 1) := by decide +kernel
theorem dL_law__1695 : decode cL_law_ 1695 = .ok (.aload_n 0, 1) := by decide +kernel
theorem dL_law__1696 : decode cL_law_ 1696 = .ok (.iload 4, 2) := by decide +kernel
theorem dL_law__1698 : decode cL_law_ 1698 = .ok (.iconst 4, 1) := by decide +kernel
theorem dL_law__1699 : decode cL_law_ 1699 = .ok (.iadd, 1) := by decide +kernel
theorem dL_law__1700 : decode cL_law_ 1700 = .ok (.iaload, 1) := by decide +kernel
theorem dL_law__1701 : decode cL_law_ 1701 = .ok (.aload_n 0, 1) := by decide +kernel
theorem dL_law__1702 : decode cL_law_ 1702 = .ok (.iload 4, 2) := by decide +kernel
theorem dL_law__1704 : decode cL_law_ 1704 = .ok (.iconst 5, 1) := by decide +kernel
theorem dL_law__1705 : decode cL_law_ 1705 = .ok (.iadd, 1) := by decide +kernel
theorem dL_law__1706 : decode cL_law_ 1706 = .ok (.iaload, 1) := by decide +kernel
theorem dL_law__1707 : decode cL_law_ 1707 = .ok (.aload_n 0, 1) := by decide +kernel
theorem dL_law__1708 : decode cL_law_ 1708 = .ok (.iload 4, 2) := by decide +kernel
theorem dL_law__1710 : decode cL_law_ 1710 = .ok (.bipush 6, 2) := by decide +kernel
theorem dL_law__1712 : decode cL_law_ 1712 = .ok (.iadd, 1) := by decide +kernel
theorem dL_law__1713 : decode cL_law_ 1713 = .ok (.iaload, 1) := by decide +kernel
theorem dL_law__1714 : decode cL_law_ 1714 = .ok (.invokevirtual 211, 3) := by decide +kernel
theorem dL_law__1717 : decode cL_law_ 1717 = .ok (.istore 6, 2) := by decide +kernel
theorem dL_law__1719 : decode cL_law_ 1719 = .ok (.aload_n 2, 1) := by decide +kernel
theorem dL_law__1720 : decode cL_law_ 1720 = .ok (.invokevirtual 141, 3) := by decide +kernel
theorem dL_law__1723 : decode cL_law_ 1723 = .ok (.iload 5, 2) := by decide +kernel
theorem dL_law__1725 : decode cL_law_ 1725 = .ok (.if_icmp .eq 5, 3) := by decide +kernel
theorem dL_law__1728 : decode cL_law_ 1728 = .ok (.iconst 0, 1) := by decide +kernel
theorem dL_law__1729 : decode cL_law_ 1729 = .ok (.ireturn, 1) := by decide +kernel
theorem dL_law__1730 : decode cL_law_ 1730 = .ok (.iload 5, 2) := by decide +kernel
theorem dL_law__1732 : decode cL_law_ 1732 = .ok (.ifCond .ne 22, 3) := by decide +kernel
theorem dL_law__1735 : decode cL_law_ 1735 = .ok (.aload_n 3, 1) := by decide +kernel
theorem dL_law__1736 : decode cL_law_ 1736 = .ok (.iconst 0, 1) := by decide +kernel
theorem dL_law__1737 : decode cL_law_ 1737 = .ok (.laload, 1) := by decide +kernel
theorem dL_law__1738 : decode cL_law_ 1738 = .ok (.iload 6, 2) := by decide +kernel
theorem dL_law__1740 : decode cL_law_ 1740 = .ok (.ifCond .eq 7, 3) := by decide +kernel
theorem dL_law__1743 : decode cL_law_ 1743 = .ok (.lconst 1, 1) := by decide +kernel
theorem dL_law__1744 : decode cL_law_ 1744 = .ok (.goto 4, 3) := by decide +kernel
theorem dL_law__1747 : decode cL_law_ 1747 = .ok (.lconst 0, 1) := by decide +kernel
theorem dL_law__1748 : decode cL_law_ 1748 = .ok (.lcmp, 1) := by decide +kernel
theorem dL_law__1749 : decode cL_law_ 1749 = .ok (.ifCond .eq 5, 3) := by decide +kernel
theorem dL_law__1752 : decode cL_law_ 1752 = .ok (.iconst 0, 1) := by decide +kernel
theorem dL_law__1753 : decode cL_law_ 1753 = .ok (.ireturn, 1) := by decide +kernel
theorem dL_law__1754 : decode cL_law_ 1754 = .ok (.goto 1265, 3) := by decide +kernel
theorem dL_law__1757 : decode cL_law_ 1757 = .ok (.aload_n 1, 1) := by decide +kernel
theorem dL_law__1758 : decode cL_law_ 1758 = .ok (.aload_n 0, 1) := by decide +kernel
theorem dL_law__1759 : decode cL_law_ 1759 = .ok (.iload 4, 2) := by decide +kernel
theorem dL_law__1761 : decode cL_law_ 1761 = .ok (.iconst 1, 1) := by decide +kernel
theorem dL_law__1762 : decode cL_law_ 1762 = .ok (.iadd, 1) := by decide +kernel
theorem dL_law__1763 : decode cL_law_ 1763 = .ok (.iaload, 1) := by decide +kernel
theorem dL_law__1764 : decode cL_law_ 1764 = .ok (.aload_n 0, 1) := by decide +kernel
theorem dL_law__1765 : decode cL_law_ 1765 = .ok (.iload 4, 2) := by decide +kernel
theorem dL_law__1767 : decode cL_law_ 1767 = .ok (.iconst 2, 1) := by decide +kernel
theorem dL_law__1768 : decode cL_law_ 1768 = .ok (.iadd, 1) := by decide +kernel
theorem dL_law__1769 : decode cL_law_ 1769 = .ok (.iaload, 1) := by decide +kernel
theorem dL_law__1770 : decode cL_law_ 1770 = .ok (.aload_n 3, 1) := by decide +kernel
theorem dL_law__1771 : decode cL_law_ 1771 = .ok (.invokestatic 212, 3) := by decide +kernel
theorem dL_law__1774 : decode cL_law_ 1774 = .ok (.istore 5, 2) := by decide +kernel
theorem dL_law__1776 : decode cL_law_ 1776 = .ok (.aload_n 2, 1) := by decide +kernel
theorem dL_law__1777 : decode cL_law_ 1777 = .ok (.aload_n 0, 1) := by decide +kernel
theorem dL_law__1778 : decode cL_law_ 1778 = .ok (.iload 4, 2) := by decide +kernel
theorem dL_law__1780 : decode cL_law_ 1780 = .ok (.iconst 1, 1) := by decide +kernel
theorem dL_law__1781 : decode cL_law_ 1781 = .ok (.iadd, 1) := by decide +kernel
theorem dL_law__1782 : decode cL_law_ 1782 = .ok (.iaload, 1) := by decide +kernel
theorem dL_law__1783 : decode cL_law_ 1783 = .ok (.aload_n 0, 1) := by decide +kernel
theorem dL_law__1784 : decode cL_law_ 1784 = .ok (.iload 4, 2) := by decide +kernel
theorem dL_law__1786 : decode cL_law_ 1786 = .ok (.iconst 2, 1) := by decide +kernel
theorem dL_law__1787 : decode cL_law_ 1787 = .ok (.iadd, 1) := by decide +kernel
theorem dL_law__1788 : decode cL_law_ 1788 = .ok (.iaload, 1) := by decide +kernel
theorem dL_law__1789 : decode cL_law_ 1789 = .ok (.invokevirtual 214, 3) := by decide +kernel
theorem dL_law__1792 : decode cL_law_ 1792 = .ok (.istore 6, 2) := by decide +kernel
theorem dL_law__1794 : decode cL_law_ 1794 = .ok (.aload_n 2, 1) := by decide +kernel
theorem dL_law__1795 : decode cL_law_ 1795 = .ok (.invokevirtual 141, 3) := by decide +kernel
theorem dL_law__1798 : decode cL_law_ 1798 = .ok (.iload 5, 2) := by decide +kernel
theorem dL_law__1800 : decode cL_law_ 1800 = .ok (.if_icmp .eq 5, 3) := by decide +kernel
theorem dL_law__1803 : decode cL_law_ 1803 = .ok (.iconst 0, 1) := by decide +kernel
theorem dL_law__1804 : decode cL_law_ 1804 = .ok (.ireturn, 1) := by decide +kernel
theorem dL_law__1805 : decode cL_law_ 1805 = .ok (.iload 5, 2) := by decide +kernel
theorem dL_law__1807 : decode cL_law_ 1807 = .ok (.ifCond .ne 15, 3) := by decide +kernel
theorem dL_law__1810 : decode cL_law_ 1810 = .ok (.aload_n 3, 1) := by decide +kernel
theorem dL_law__1811 : decode cL_law_ 1811 = .ok (.iconst 0, 1) := by decide +kernel
theorem dL_law__1812 : decode cL_law_ 1812 = .ok (.laload, 1) := by decide +kernel
theorem dL_law__1813 : decode cL_law_ 1813 = .ok (.iload 6, 2) := by decide +kernel
theorem dL_law__1815 : decode cL_law_ 1815 = .ok (.i2l, 1) := by decide +kernel
theorem dL_law__1816 : decode cL_law_ 1816 = .ok (.lcmp, 1) := by decide +kernel
theorem dL_law__1817 : decode cL_law_ 1817 = .ok (.ifCond .eq 5, 3) := by decide +kernel
theorem dL_law__1820 : decode cL_law_ 1820 = .ok (.iconst 0, 1) := by decide +kernel
theorem dL_law__1821 : decode cL_law_ 1821 = .ok (.ireturn, 1) := by decide +kernel
theorem dL_law__1822 : decode cL_law_ 1822 = .ok (.goto 1197, 3) := by decide +kernel
theorem dL_law__1825 : decode cL_law_ 1825 = .ok (.aload_n 1, 1) := by decide +kernel
theorem dL_law__1826 : decode cL_law_ 1826 = .ok (.aload_n 0, 1) := by decide +kernel
theorem dL_law__1827 : decode cL_law_ 1827 = .ok (.iload 4, 2) := by decide +kernel
theorem dL_law__1829 : decode cL_law_ 1829 = .ok (.iconst 1, 1) := by decide +kernel
theorem dL_law__1830 : decode cL_law_ 1830 = .ok (.iadd, 1) := by decide +kernel
theorem dL_law__1831 : decode cL_law_ 1831 = .ok (.iaload, 1) := by decide +kernel
theorem dL_law__1832 : decode cL_law_ 1832 = .ok (.aload_n 0, 1) := by decide +kernel
theorem dL_law__1833 : decode cL_law_ 1833 = .ok (.iload 4, 2) := by decide +kernel
theorem dL_law__1835 : decode cL_law_ 1835 = .ok (.iconst 2, 1) := by decide +kernel
theorem dL_law__1836 : decode cL_law_ 1836 = .ok (.iadd, 1) := by decide +kernel
theorem dL_law__1837 : decode cL_law_ 1837 = .ok (.iaload, 1) := by decide +kernel
theorem dL_law__1838 : decode cL_law_ 1838 = .ok (.aload_n 3, 1) := by decide +kernel
theorem dL_law__1839 : decode cL_law_ 1839 = .ok (.invokestatic 215, 3) := by decide +kernel
theorem dL_law__1842 : decode cL_law_ 1842 = .ok (.istore 5, 2) := by decide +kernel
theorem dL_law__1844 : decode cL_law_ 1844 = .ok (.aload_n 2, 1) := by decide +kernel
theorem dL_law__1845 : decode cL_law_ 1845 = .ok (.aload_n 0, 1) := by decide +kernel
theorem dL_law__1846 : decode cL_law_ 1846 = .ok (.iload 4, 2) := by decide +kernel
theorem dL_law__1848 : decode cL_law_ 1848 = .ok (.iconst 1, 1) := by decide +kernel
theorem dL_law__1849 : decode cL_law_ 1849 = .ok (.iadd, 1) := by decide +kernel
theorem dL_law__1850 : decode cL_law_ 1850 = .ok (.iaload, 1) := by decide +kernel
theorem dL_law__1851 : decode cL_law_ 1851 = .ok (.aload_n 0, 1) := by decide +kernel
theorem dL_law__1852 : decode cL_law_ 1852 = .ok (.iload 4, 2) := by decide +kernel
theorem dL_law__1854 : decode cL_law_ 1854 = .ok (.iconst 2, 1) := by decide +kernel
theorem dL_law__1855 : decode cL_law_ 1855 = .ok (.iadd, 1) := by decide +kernel
theorem dL_law__1856 : decode cL_law_ 1856 = .ok (.iaload, 1) := by decide +kernel
theorem dL_law__1857 : decode cL_law_ 1857 = .ok (.invokevirtual 217, 3) := by decide +kernel
theorem dL_law__1860 : decode cL_law_ 1860 = .ok (.istore 6, 2) := by decide +kernel
theorem dL_law__1862 : decode cL_law_ 1862 = .ok (.aload_n 2, 1) := by decide +kernel
theorem dL_law__1863 : decode cL_law_ 1863 = .ok (.invokevirtual 141, 3) := by decide +kernel
theorem dL_law__1866 : decode cL_law_ 1866 = .ok (.iload 5, 2) := by decide +kernel
theorem dL_law__1868 : decode cL_law_ 1868 = .ok (.if_icmp .eq 5, 3) := by decide +kernel
theorem dL_law__1871 : decode cL_law_ 1871 = .ok (.iconst 0, 1) := by decide +kernel
theorem dL_law__1872 : decode cL_law_ 1872 = .ok (.ireturn, 1) := by decide +kernel
theorem dL_law__1873 : decode cL_law_ 1873 = .ok (.iload 5, 2) := by decide +kernel
theorem dL_law__1875 : decode cL_law_ 1875 = .ok (.ifCond .ne 15, 3) := by decide +kernel
theorem dL_law__1878 : decode cL_law_ 1878 = .ok (.aload_n 3, 1) := by decide +kernel
theorem dL_law__1879 : decode cL_law_ 1879 = .ok (.iconst 0, 1) := by decide +kernel
theorem dL_law__1880 : decode cL_law_ 1880 = .ok (.laload, 1) := by decide +kernel
theorem dL_law__1881 : decode cL_law_ 1881 = .ok (.iload 6, 2) := by decide +kernel
theorem dL_law__1883 : decode cL_law_ 1883 = .ok (.i2l, 1) := by decide +kernel
theorem dL_law__1884 : decode cL_law_ 1884 = .ok (.lcmp, 1) := by decide +kernel
theorem dL_law__1885 : decode cL_law_ 1885 = .ok (.ifCond .eq 5, 3) := by decide +kernel
theorem dL_law__1888 : decode cL_law_ 1888 = .ok (.iconst 0, 1) := by decide +kernel
theorem dL_law__1889 : decode cL_law_ 1889 = .ok (.ireturn, 1) := by decide +kernel
theorem dL_law__1890 : decode cL_law_ 1890 = .ok (.goto 1129, 3) := by decide +kernel
theorem dL_law__1893 : decode cL_law_ 1893 = .ok (.aload_n 1, 1) := by decide +kernel
theorem dL_law__1894 : decode cL_law_ 1894 = .ok (.aload_n 0, 1) := by decide +kernel
theorem dL_law__1895 : decode cL_law_ 1895 = .ok (.iload 4, 2) := by decide +kernel
theorem dL_law__1897 : decode cL_law_ 1897 = .ok (.iconst 1, 1) := by decide +kernel
theorem dL_law__1898 : decode cL_law_ 1898 = .ok (.iadd, 1) := by decide +kernel
theorem dL_law__1899 : decode cL_law_ 1899 = .ok (.iaload, 1) := by decide +kernel
theorem dL_law__1900 : decode cL_law_ 1900 = .ok (.aload_n 0, 1) := by decide +kernel
theorem dL_law__1901 : decode cL_law_ 1901 = .ok (.iload 4, 2) := by decide +kernel
theorem dL_law__1903 : decode cL_law_ 1903 = .ok (.iconst 2, 1) := by decide +kernel
theorem dL_law__1904 : decode cL_law_ 1904 = .ok (.iadd, 1) := by decide +kernel
theorem dL_law__1905 : decode cL_law_ 1905 = .ok (.iaload, 1) := by decide +kernel
theorem dL_law__1906 : decode cL_law_ 1906 = .ok (.aload_n 0, 1) := by decide +kernel
theorem dL_law__1907 : decode cL_law_ 1907 = .ok (.iload 4, 2) := by decide +kernel
theorem dL_law__1909 : decode cL_law_ 1909 = .ok (.iconst 3, 1) := by decide +kernel
theorem dL_law__1910 : decode cL_law_ 1910 = .ok (.iadd, 1) := by decide +kernel
theorem dL_law__1911 : decode cL_law_ 1911 = .ok (.iaload, 1) := by decide +kernel
theorem dL_law__1912 : decode cL_law_ 1912 = .ok (.aload_n 3, 1) := by decide +kernel
theorem dL_law__1913 : decode cL_law_ 1913 = .ok (.invokestatic 218, 3) := by decide +kernel
theorem dL_law__1916 : decode cL_law_ 1916 = .ok (.istore 5, 2) := by decide +kernel
theorem dL_law__1918 : decode cL_law_ 1918 = .ok (.aload_n 2, 1) := by decide +kernel
theorem dL_law__1919 : decode cL_law_ 1919 = .ok (.aload_n 0, 1) := by decide +kernel
theorem dL_law__1920 : decode cL_law_ 1920 = .ok (.iload 4, 2) := by decide +kernel
theorem dL_law__1922 : decode cL_law_ 1922 = .ok (.iconst 1, 1) := by decide +kernel
theorem dL_law__1923 : decode cL_law_ 1923 = .ok (.iadd, 1) := by decide +kernel
theorem dL_law__1924 : decode cL_law_ 1924 = .ok (.iaload, 1) := by decide +kernel
theorem dL_law__1925 : decode cL_law_ 1925 = .ok (.aload_n 0, 1) := by decide +kernel
theorem dL_law__1926 : decode cL_law_ 1926 = .ok (.iload 4, 2) := by decide +kernel
theorem dL_law__1928 : decode cL_law_ 1928 = .ok (.iconst 2, 1) := by decide +kernel
theorem dL_law__1929 : decode cL_law_ 1929 = .ok (.iadd, 1) := by decide +kernel
theorem dL_law__1930 : decode cL_law_ 1930 = .ok (.iaload, 1) := by decide +kernel
theorem dL_law__1931 : decode cL_law_ 1931 = .ok (.aload_n 0, 1) := by decide +kernel
theorem dL_law__1932 : decode cL_law_ 1932 = .ok (.iload 4, 2) := by decide +kernel
theorem dL_law__1934 : decode cL_law_ 1934 = .ok (.iconst 3, 1) := by decide +kernel
theorem dL_law__1935 : decode cL_law_ 1935 = .ok (.iadd, 1) := by decide +kernel
theorem dL_law__1936 : decode cL_law_ 1936 = .ok (.iaload, 1) := by decide +kernel
theorem dL_law__1937 : decode cL_law_ 1937 = .ok (.invokevirtual 220, 3) := by decide +kernel
theorem dL_law__1940 : decode cL_law_ 1940 = .ok (.istore 6, 2) := by decide +kernel
theorem dL_law__1942 : decode cL_law_ 1942 = .ok (.aload_n 2, 1) := by decide +kernel
theorem dL_law__1943 : decode cL_law_ 1943 = .ok (.invokevirtual 141, 3) := by decide +kernel
theorem dL_law__1946 : decode cL_law_ 1946 = .ok (.iload 5, 2) := by decide +kernel
theorem dL_law__1948 : decode cL_law_ 1948 = .ok (.if_icmp .eq 5, 3) := by decide +kernel
theorem dL_law__1951 : decode cL_law_ 1951 = .ok (.iconst 0, 1) := by decide +kernel
theorem dL_law__1952 : decode cL_law_ 1952 = .ok (.ireturn, 1) := by decide +kernel
theorem dL_law__1953 : decode cL_law_ 1953 = .ok (.iload 5, 2) := by decide +kernel
theorem dL_law__1955 : decode cL_law_ 1955 = .ok (.ifCond .ne 15, 3) := by decide +kernel
theorem dL_law__1958 : decode cL_law_ 1958 = .ok (.aload_n 3, 1) := by decide +kernel
theorem dL_law__1959 : decode cL_law_ 1959 = .ok (.iconst 0, 1) := by decide +kernel
theorem dL_law__1960 : decode cL_law_ 1960 = .ok (.laload, 1) := by decide +kernel
theorem dL_law__1961 : decode cL_law_ 1961 = .ok (.iload 6, 2) := by decide +kernel
theorem dL_law__1963 : decode cL_law_ 1963 = .ok (.i2l, 1) := by decide +kernel
theorem dL_law__1964 : decode cL_law_ 1964 = .ok (.lcmp, 1) := by decide +kernel
theorem dL_law__1965 : decode cL_law_ 1965 = .ok (.ifCond .eq 5, 3) := by decide +kernel
theorem dL_law__1968 : decode cL_law_ 1968 = .ok (.iconst 0, 1) := by decide +kernel
theorem dL_law__1969 : decode cL_law_ 1969 = .ok (.ireturn, 1) := by decide +kernel
theorem dL_law__1970 : decode cL_law_ 1970 = .ok (.goto 1049, 3) := by decide +kernel
theorem dL_law__1973 : decode cL_law_ 1973 = .ok (.aload_n 1, 1) := by decide +kernel
theorem dL_law__1974 : decode cL_law_ 1974 = .ok (.aload_n 0, 1) := by decide +kernel
theorem dL_law__1975 : decode cL_law_ 1975 = .ok (.iload 4, 2) := by decide +kernel
theorem dL_law__1977 : decode cL_law_ 1977 = .ok (.iconst 1, 1) := by decide +kernel
theorem dL_law__1978 : decode cL_law_ 1978 = .ok (.iadd, 1) := by decide +kernel
theorem dL_law__1979 : decode cL_law_ 1979 = .ok (.iaload, 1) := by decide +kernel
theorem dL_law__1980 : decode cL_law_ 1980 = .ok (.aload_n 3, 1) := by decide +kernel
theorem dL_law__1981 : decode cL_law_ 1981 = .ok (.invokestatic 221, 3) := by decide +kernel
theorem dL_law__1984 : decode cL_law_ 1984 = .ok (.istore 5, 2) := by decide +kernel
theorem dL_law__1986 : decode cL_law_ 1986 = .ok (.aload_n 2, 1) := by decide +kernel
theorem dL_law__1987 : decode cL_law_ 1987 = .ok (.aload_n 0, 1) := by decide +kernel
theorem dL_law__1988 : decode cL_law_ 1988 = .ok (.iload 4, 2) := by decide +kernel
theorem dL_law__1990 : decode cL_law_ 1990 = .ok (.iconst 1, 1) := by decide +kernel
theorem dL_law__1991 : decode cL_law_ 1991 = .ok (.iadd, 1) := by decide +kernel
theorem dL_law__1992 : decode cL_law_ 1992 = .ok (.iaload, 1) := by decide +kernel
theorem dL_law__1993 : decode cL_law_ 1993 = .ok (.invokevirtual 223, 3) := by decide +kernel
theorem dL_law__1996 : decode cL_law_ 1996 = .ok (.istore 6, 2) := by decide +kernel
theorem dL_law__1998 : decode cL_law_ 1998 = .ok (.aload_n 2, 1) := by decide +kernel
theorem dL_law__1999 : decode cL_law_ 1999 = .ok (.invokevirtual 141, 3) := by decide +kernel
theorem dL_law__2002 : decode cL_law_ 2002 = .ok (.iload 5, 2) := by decide +kernel
theorem dL_law__2004 : decode cL_law_ 2004 = .ok (.if_icmp .eq 5, 3) := by decide +kernel
theorem dL_law__2007 : decode cL_law_ 2007 = .ok (.iconst 0, 1) := by decide +kernel
theorem dL_law__2008 : decode cL_law_ 2008 = .ok (.ireturn, 1) := by decide +kernel
theorem dL_law__2009 : decode cL_law_ 2009 = .ok (.iload 5, 2) := by decide +kernel
theorem dL_law__2011 : decode cL_law_ 2011 = .ok (.ifCond .ne 15, 3) := by decide +kernel
theorem dL_law__2014 : decode cL_law_ 2014 = .ok (.aload_n 3, 1) := by decide +kernel
theorem dL_law__2015 : decode cL_law_ 2015 = .ok (.iconst 0, 1) := by decide +kernel
theorem dL_law__2016 : decode cL_law_ 2016 = .ok (.laload, 1) := by decide +kernel
theorem dL_law__2017 : decode cL_law_ 2017 = .ok (.iload 6, 2) := by decide +kernel
theorem dL_law__2019 : decode cL_law_ 2019 = .ok (.i2l, 1) := by decide +kernel
theorem dL_law__2020 : decode cL_law_ 2020 = .ok (.lcmp, 1) := by decide +kernel
theorem dL_law__2021 : decode cL_law_ 2021 = .ok (.ifCond .eq 5, 3) := by decide +kernel
theorem dL_law__2024 : decode cL_law_ 2024 = .ok (.iconst 0, 1) := by decide +kernel
theorem dL_law__2025 : decode cL_law_ 2025 = .ok (.ireturn, 1) := by decide +kernel
theorem dL_law__2026 : decode cL_law_ 2026 = .ok (.goto 993, 3) := by decide +kernel
theorem dL_law__2029 : decode cL_law_ 2029 = .ok (.aload_n 1, 1) := by decide +kernel
theorem dL_law__2030 : decode cL_law_ 2030 = .ok (.aload_n 0, 1) := by decide +kernel
theorem dL_law__2031 : decode cL_law_ 2031 = .ok (.iload 4, 2) := by decide +kernel
theorem dL_law__2033 : decode cL_law_ 2033 = .ok (.iconst 1, 1) := by decide +kernel
theorem dL_law__2034 : decode cL_law_ 2034 = .ok (.iadd, 1) := by decide +kernel
theorem dL_law__2035 : decode cL_law_ 2035 = .ok (.iaload, 1) := by decide +kernel
theorem dL_law__2036 : decode cL_law_ 2036 = .ok (.aload_n 0, 1) := by decide +kernel
theorem dL_law__2037 : decode cL_law_ 2037 = .ok (.iload 4, 2) := by decide +kernel
theorem dL_law__2039 : decode cL_law_ 2039 = .ok (.iconst 2, 1) := by decide +kernel
theorem dL_law__2040 : decode cL_law_ 2040 = .ok (.iadd, 1) := by decide +kernel
theorem dL_law__2041 : decode cL_law_ 2041 = .ok (.iaload, 1) := by decide +kernel
theorem dL_law__2042 : decode cL_law_ 2042 = .ok (.aload_n 3, 1) := by decide +kernel
theorem dL_law__2043 : decode cL_law_ 2043 = .ok (.invokestatic 224, 3) := by decide +kernel
theorem dL_law__2046 : decode cL_law_ 2046 = .ok (.istore 5, 2) := by decide +kernel
theorem dL_law__2048 : decode cL_law_ 2048 = .ok (.aload_n 2, 1) := by decide +kernel
theorem dL_law__2049 : decode cL_law_ 2049 = .ok (.aload_n 0, 1) := by decide +kernel
theorem dL_law__2050 : decode cL_law_ 2050 = .ok (.iload 4, 2) := by decide +kernel
theorem dL_law__2052 : decode cL_law_ 2052 = .ok (.iconst 1, 1) := by decide +kernel
theorem dL_law__2053 : decode cL_law_ 2053 = .ok (.iadd, 1) := by decide +kernel
theorem dL_law__2054 : decode cL_law_ 2054 = .ok (.iaload, 1) := by decide +kernel
theorem dL_law__2055 : decode cL_law_ 2055 = .ok (.aload_n 0, 1) := by decide +kernel
theorem dL_law__2056 : decode cL_law_ 2056 = .ok (.iload 4, 2) := by decide +kernel
theorem dL_law__2058 : decode cL_law_ 2058 = .ok (.iconst 2, 1) := by decide +kernel
theorem dL_law__2059 : decode cL_law_ 2059 = .ok (.iadd, 1) := by decide +kernel
theorem dL_law__2060 : decode cL_law_ 2060 = .ok (.iaload, 1) := by decide +kernel
theorem dL_law__2061 : decode cL_law_ 2061 = .ok (.invokevirtual 226, 3) := by decide +kernel
theorem dL_law__2064 : decode cL_law_ 2064 = .ok (.istore 6, 2) := by decide +kernel
theorem dL_law__2066 : decode cL_law_ 2066 = .ok (.aload_n 2, 1) := by decide +kernel
theorem dL_law__2067 : decode cL_law_ 2067 = .ok (.invokevirtual 141, 3) := by decide +kernel
theorem dL_law__2070 : decode cL_law_ 2070 = .ok (.iload 5, 2) := by decide +kernel
theorem dL_law__2072 : decode cL_law_ 2072 = .ok (.if_icmp .eq 5, 3) := by decide +kernel
theorem dL_law__2075 : decode cL_law_ 2075 = .ok (.iconst 0, 1) := by decide +kernel
theorem dL_law__2076 : decode cL_law_ 2076 = .ok (.ireturn, 1) := by decide +kernel
theorem dL_law__2077 : decode cL_law_ 2077 = .ok (.iload 5, 2) := by decide +kernel
theorem dL_law__2079 : decode cL_law_ 2079 = .ok (.ifCond .ne 15, 3) := by decide +kernel
theorem dL_law__2082 : decode cL_law_ 2082 = .ok (.aload_n 3, 1) := by decide +kernel
theorem dL_law__2083 : decode cL_law_ 2083 = .ok (.iconst 0, 1) := by decide +kernel
theorem dL_law__2084 : decode cL_law_ 2084 = .ok (.laload, 1) := by decide +kernel
theorem dL_law__2085 : decode cL_law_ 2085 = .ok (.iload 6, 2) := by decide +kernel
theorem dL_law__2087 : decode cL_law_ 2087 = .ok (.i2l, 1) := by decide +kernel
theorem dL_law__2088 : decode cL_law_ 2088 = .ok (.lcmp, 1) := by decide +kernel
theorem dL_law__2089 : decode cL_law_ 2089 = .ok (.ifCond .eq 5, 3) := by decide +kernel
theorem dL_law__2092 : decode cL_law_ 2092 = .ok (.iconst 0, 1) := by decide +kernel
theorem dL_law__2093 : decode cL_law_ 2093 = .ok (.ireturn, 1) := by decide +kernel
theorem dL_law__2094 : decode cL_law_ 2094 = .ok (.goto 925, 3) := by decide +kernel
theorem dL_law__2097 : decode cL_law_ 2097 = .ok (.aload_n 1, 1) := by decide +kernel
theorem dL_law__2098 : decode cL_law_ 2098 = .ok (.aload_n 0, 1) := by decide +kernel
theorem dL_law__2099 : decode cL_law_ 2099 = .ok (.iload 4, 2) := by decide +kernel
theorem dL_law__2101 : decode cL_law_ 2101 = .ok (.iconst 1, 1) := by decide +kernel
theorem dL_law__2102 : decode cL_law_ 2102 = .ok (.iadd, 1) := by decide +kernel
theorem dL_law__2103 : decode cL_law_ 2103 = .ok (.iaload, 1) := by decide +kernel
theorem dL_law__2104 : decode cL_law_ 2104 = .ok (.aload_n 0, 1) := by decide +kernel
theorem dL_law__2105 : decode cL_law_ 2105 = .ok (.iload 4, 2) := by decide +kernel
theorem dL_law__2107 : decode cL_law_ 2107 = .ok (.iconst 2, 1) := by decide +kernel
theorem dL_law__2108 : decode cL_law_ 2108 = .ok (.iadd, 1) := by decide +kernel
theorem dL_law__2109 : decode cL_law_ 2109 = .ok (.iaload, 1) := by decide +kernel
theorem dL_law__2110 : decode cL_law_ 2110 = .ok (.aload_n 0, 1) := by decide +kernel
theorem dL_law__2111 : decode cL_law_ 2111 = .ok (.iload 4, 2) := by decide +kernel
theorem dL_law__2113 : decode cL_law_ 2113 = .ok (.iconst 3, 1) := by decide +kernel
theorem dL_law__2114 : decode cL_law_ 2114 = .ok (.iadd, 1) := by decide +kernel
theorem dL_law__2115 : decode cL_law_ 2115 = .ok (.iaload, 1) := by decide +kernel
theorem dL_law__2116 : decode cL_law_ 2116 = .ok (.aload_n 0, 1) := by decide +kernel
theorem dL_law__2117 : decode cL_law_ 2117 = .ok (.iload 4, 2) := by decide +kernel
theorem dL_law__2119 : decode cL_law_ 2119 = .ok (.iconst 4, 1) := by decide +kernel
theorem dL_law__2120 : decode cL_law_ 2120 = .ok (.iadd, 1) := by decide +kernel
theorem dL_law__2121 : decode cL_law_ 2121 = .ok (.iaload, 1) := by decide +kernel
theorem dL_law__2122 : decode cL_law_ 2122 = .ok (.aload_n 3, 1) := by decide +kernel
theorem dL_law__2123 : decode cL_law_ 2123 = .ok (.invokestatic 227, 3) := by decide +kernel
theorem dL_law__2126 : decode cL_law_ 2126 = .ok (.istore 5, 2) := by decide +kernel
theorem dL_law__2128 : decode cL_law_ 2128 = .ok (.aload_n 2, 1) := by decide +kernel
theorem dL_law__2129 : decode cL_law_ 2129 = .ok (.aload_n 0, 1) := by decide +kernel
theorem dL_law__2130 : decode cL_law_ 2130 = .ok (.iload 4, 2) := by decide +kernel
theorem dL_law__2132 : decode cL_law_ 2132 = .ok (.iconst 1, 1) := by decide +kernel
theorem dL_law__2133 : decode cL_law_ 2133 = .ok (.iadd, 1) := by decide +kernel
theorem dL_law__2134 : decode cL_law_ 2134 = .ok (.iaload, 1) := by decide +kernel
theorem dL_law__2135 : decode cL_law_ 2135 = .ok (.aload_n 0, 1) := by decide +kernel
theorem dL_law__2136 : decode cL_law_ 2136 = .ok (.iload 4, 2) := by decide +kernel
theorem dL_law__2138 : decode cL_law_ 2138 = .ok (.iconst 2, 1) := by decide +kernel
theorem dL_law__2139 : decode cL_law_ 2139 = .ok (.iadd, 1) := by decide +kernel
theorem dL_law__2140 : decode cL_law_ 2140 = .ok (.iaload, 1) := by decide +kernel
theorem dL_law__2141 : decode cL_law_ 2141 = .ok (.aload_n 0, 1) := by decide +kernel
theorem dL_law__2142 : decode cL_law_ 2142 = .ok (.iload 4, 2) := by decide +kernel
theorem dL_law__2144 : decode cL_law_ 2144 = .ok (.iconst 3, 1) := by decide +kernel
theorem dL_law__2145 : decode cL_law_ 2145 = .ok (.iadd, 1) := by decide +kernel
theorem dL_law__2146 : decode cL_law_ 2146 = .ok (.iaload, 1) := by decide +kernel
theorem dL_law__2147 : decode cL_law_ 2147 = .ok (.aload_n 0, 1) := by decide +kernel
theorem dL_law__2148 : decode cL_law_ 2148 = .ok (.iload 4, 2) := by decide +kernel
theorem dL_law__2150 : decode cL_law_ 2150 = .ok (.iconst 4, 1) := by decide +kernel
theorem dL_law__2151 : decode cL_law_ 2151 = .ok (.iadd, 1) := by decide +kernel
theorem dL_law__2152 : decode cL_law_ 2152 = .ok (.iaload, 1) := by decide +kernel
theorem dL_law__2153 : decode cL_law_ 2153 = .ok (.invokevirtual 229, 3) := by decide +kernel
theorem dL_law__2156 : decode cL_law_ 2156 = .ok (.istore 6, 2) := by decide +kernel
theorem dL_law__2158 : decode cL_law_ 2158 = .ok (.aload_n 2, 1) := by decide +kernel
theorem dL_law__2159 : decode cL_law_ 2159 = .ok (.invokevirtual 141, 3) := by decide +kernel
theorem dL_law__2162 : decode cL_law_ 2162 = .ok (.iload 5, 2) := by decide +kernel
theorem dL_law__2164 : decode cL_law_ 2164 = .ok (.if_icmp .eq 5, 3) := by decide +kernel
theorem dL_law__2167 : decode cL_law_ 2167 = .ok (.iconst 0, 1) := by decide +kernel
theorem dL_law__2168 : decode cL_law_ 2168 = .ok (.ireturn, 1) := by decide +kernel
theorem dL_law__2169 : decode cL_law_ 2169 = .ok (.iload 5, 2) := by decide +kernel
theorem dL_law__2171 : decode cL_law_ 2171 = .ok (.ifCond .ne 15, 3) := by decide +kernel
theorem dL_law__2174 : decode cL_law_ 2174 = .ok (.aload_n 3, 1) := by decide +kernel
theorem dL_law__2175 : decode cL_law_ 2175 = .ok (.iconst 0, 1) := by decide +kernel
theorem dL_law__2176 : decode cL_law_ 2176 = .ok (.laload, 1) := by decide +kernel
theorem dL_law__2177 : decode cL_law_ 2177 = .ok (.iload 6, 2) := by decide +kernel
theorem dL_law__2179 : decode cL_law_ 2179 = .ok (.i2l, 1) := by decide +kernel
theorem dL_law__2180 : decode cL_law_ 2180 = .ok (.lcmp, 1) := by decide +kernel
theorem dL_law__2181 : decode cL_law_ 2181 = .ok (.ifCond .eq 5, 3) := by decide +kernel
theorem dL_law__2184 : decode cL_law_ 2184 = .ok (.iconst 0, 1) := by decide +kernel
theorem dL_law__2185 : decode cL_law_ 2185 = .ok (.ireturn, 1) := by decide +kernel
theorem dL_law__2186 : decode cL_law_ 2186 = .ok (.goto 833, 3) := by decide +kernel
theorem dL_law__2189 : decode cL_law_ 2189 = .ok (.aload_n 1, 1) := by decide +kernel
theorem dL_law__2190 : decode cL_law_ 2190 = .ok (.aload_n 0, 1) := by decide +kernel
theorem dL_law__2191 : decode cL_law_ 2191 = .ok (.iload 4, 2) := by decide +kernel
theorem dL_law__2193 : decode cL_law_ 2193 = .ok (.iconst 1, 1) := by decide +kernel
theorem dL_law__2194 : decode cL_law_ 2194 = .ok (.iadd, 1) := by decide +kernel
theorem dL_law__2195 : decode cL_law_ 2195 = .ok (.iaload, 1) := by decide +kernel
theorem dL_law__2196 : decode cL_law_ 2196 = .ok (.aload_n 0, 1) := by decide +kernel
theorem dL_law__2197 : decode cL_law_ 2197 = .ok (.iload 4, 2) := by decide +kernel
theorem dL_law__2199 : decode cL_law_ 2199 = .ok (.iconst 2, 1) := by decide +kernel
theorem dL_law__2200 : decode cL_law_ 2200 = .ok (.iadd, 1) := by decide +kernel
theorem dL_law__2201 : decode cL_law_ 2201 = .ok (.iaload, 1) := by decide +kernel
theorem dL_law__2202 : decode cL_law_ 2202 = .ok (.aload_n 0, 1) := by decide +kernel
theorem dL_law__2203 : decode cL_law_ 2203 = .ok (.iload 4, 2) := by decide +kernel
theorem dL_law__2205 : decode cL_law_ 2205 = .ok (.iconst 3, 1) := by decide +kernel
theorem dL_law__2206 : decode cL_law_ 2206 = .ok (.iadd, 1) := by decide +kernel
theorem dL_law__2207 : decode cL_law_ 2207 = .ok (.iaload, 1) := by decide +kernel
theorem dL_law__2208 : decode cL_law_ 2208 = .ok (.aload_n 3, 1) := by decide +kernel
theorem dL_law__2209 : decode cL_law_ 2209 = .ok (.invokestatic 230, 3) := by decide +kernel
theorem dL_law__2212 : decode cL_law_ 2212 = .ok (.istore 5, 2) := by decide +kernel
theorem dL_law__2214 : decode cL_law_ 2214 = .ok (.aload_n 2, 1) := by decide +kernel
theorem dL_law__2215 : decode cL_law_ 2215 = .ok (.aload_n 0, 1) := by decide +kernel
theorem dL_law__2216 : decode cL_law_ 2216 = .ok (.iload 4, 2) := by decide +kernel
theorem dL_law__2218 : decode cL_law_ 2218 = .ok (.iconst 1, 1) := by decide +kernel
theorem dL_law__2219 : decode cL_law_ 2219 = .ok (.iadd, 1) := by decide +kernel
theorem dL_law__2220 : decode cL_law_ 2220 = .ok (.iaload, 1) := by decide +kernel
theorem dL_law__2221 : decode cL_law_ 2221 = .ok (.aload_n 0, 1) := by decide +kernel
theorem dL_law__2222 : decode cL_law_ 2222 = .ok (.iload 4, 2) := by decide +kernel
theorem dL_law__2224 : decode cL_law_ 2224 = .ok (.iconst 2, 1) := by decide +kernel
theorem dL_law__2225 : decode cL_law_ 2225 = .ok (.iadd, 1) := by decide +kernel
theorem dL_law__2226 : decode cL_law_ 2226 = .ok (.iaload, 1) := by decide +kernel
theorem dL_law__2227 : decode cL_law_ 2227 = .ok (.aload_n 0, 1) := by decide +kernel
theorem dL_law__2228 : decode cL_law_ 2228 = .ok (.iload 4, 2) := by decide +kernel
theorem dL_law__2230 : decode cL_law_ 2230 = .ok (.iconst 3, 1) := by decide +kernel
theorem dL_law__2231 : decode cL_law_ 2231 = .ok (.iadd, 1) := by decide +kernel
theorem dL_law__2232 : decode cL_law_ 2232 = .ok (.iaload, 1) := by decide +kernel
theorem dL_law__2233 : decode cL_law_ 2233 = .ok (.invokevirtual 232, 3) := by decide +kernel
theorem dL_law__2236 : decode cL_law_ 2236 = .ok (.istore 6, 2) := by decide +kernel
theorem dL_law__2238 : decode cL_law_ 2238 = .ok (.aload_n 2, 1) := by decide +kernel
theorem dL_law__2239 : decode cL_law_ 2239 = .ok (.invokevirtual 141, 3) := by decide +kernel
theorem dL_law__2242 : decode cL_law_ 2242 = .ok (.iload 5, 2) := by decide +kernel
theorem dL_law__2244 : decode cL_law_ 2244 = .ok (.if_icmp .eq 5, 3) := by decide +kernel
theorem dL_law__2247 : decode cL_law_ 2247 = .ok (.iconst 0, 1) := by decide +kernel
theorem dL_law__2248 : decode cL_law_ 2248 = .ok (.ireturn, 1) := by decide +kernel
theorem dL_law__2249 : decode cL_law_ 2249 = .ok (.iload 5, 2) := by decide +kernel
theorem dL_law__2251 : decode cL_law_ 2251 = .ok (.ifCond .ne 15, 3) := by decide +kernel
theorem dL_law__2254 : decode cL_law_ 2254 = .ok (.aload_n 3, 1) := by decide +kernel
theorem dL_law__2255 : decode cL_law_ 2255 = .ok (.iconst 0, 1) := by decide +kernel
theorem dL_law__2256 : decode cL_law_ 2256 = .ok (.laload, 1) := by decide +kernel
theorem dL_law__2257 : decode cL_law_ 2257 = .ok (.iload 6, 2) := by decide +kernel
theorem dL_law__2259 : decode cL_law_ 2259 = .ok (.i2l, 1) := by decide +kernel
theorem dL_law__2260 : decode cL_law_ 2260 = .ok (.lcmp, 1) := by decide +kernel
theorem dL_law__2261 : decode cL_law_ 2261 = .ok (.ifCond .eq 5, 3) := by decide +kernel
theorem dL_law__2264 : decode cL_law_ 2264 = .ok (.iconst 0, 1) := by decide +kernel
theorem dL_law__2265 : decode cL_law_ 2265 = .ok (.ireturn, 1) := by decide +kernel
theorem dL_law__2266 : decode cL_law_ 2266 = .ok (.goto 753, 3) := by decide +kernel
theorem dL_law__2269 : decode cL_law_ 2269 = .ok (.aload_n 1, 1) := by decide +kernel
theorem dL_law__2270 : decode cL_law_ 2270 = .ok (.aload_n 0, 1) := by decide +kernel
theorem dL_law__2271 : decode cL_law_ 2271 = .ok (.iload 4, 2) := by decide +kernel
theorem dL_law__2273 : decode cL_law_ 2273 = .ok (.iconst 1, 1) := by decide +kernel
theorem dL_law__2274 : decode cL_law_ 2274 = .ok (.iadd, 1) := by decide +kernel
theorem dL_law__2275 : decode cL_law_ 2275 = .ok (.iaload, 1) := by decide +kernel
theorem dL_law__2276 : decode cL_law_ 2276 = .ok (.aload_n 0, 1) := by decide +kernel
theorem dL_law__2277 : decode cL_law_ 2277 = .ok (.iload 4, 2) := by decide +kernel
theorem dL_law__2279 : decode cL_law_ 2279 = .ok (.iconst 2, 1) := by decide +kernel
theorem dL_law__2280 : decode cL_law_ 2280 = .ok (.iadd, 1) := by decide +kernel
theorem dL_law__2281 : decode cL_law_ 2281 = .ok (.iaload, 1) := by decide +kernel
theorem dL_law__2282 : decode cL_law_ 2282 = .ok (.aload_n 0, 1) := by decide +kernel
theorem dL_law__2283 : decode cL_law_ 2283 = .ok (.iload 4, 2) := by decide +kernel
theorem dL_law__2285 : decode cL_law_ 2285 = .ok (.iconst 3, 1) := by decide +kernel
theorem dL_law__2286 : decode cL_law_ 2286 = .ok (.iadd, 1) := by decide +kernel
theorem dL_law__2287 : decode cL_law_ 2287 = .ok (.iaload, 1) := by decide +kernel
theorem dL_law__2288 : decode cL_law_ 2288 = .ok (.aload_n 3, 1) := by decide +kernel
theorem dL_law__2289 : decode cL_law_ 2289 = .ok (.invokestatic 233, 3) := by decide +kernel
theorem dL_law__2292 : decode cL_law_ 2292 = .ok (.istore 5, 2) := by decide +kernel
theorem dL_law__2294 : decode cL_law_ 2294 = .ok (.aload_n 2, 1) := by decide +kernel
theorem dL_law__2295 : decode cL_law_ 2295 = .ok (.aload_n 0, 1) := by decide +kernel
theorem dL_law__2296 : decode cL_law_ 2296 = .ok (.iload 4, 2) := by decide +kernel
theorem dL_law__2298 : decode cL_law_ 2298 = .ok (.iconst 1, 1) := by decide +kernel
theorem dL_law__2299 : decode cL_law_ 2299 = .ok (.iadd, 1) := by decide +kernel
theorem dL_law__2300 : decode cL_law_ 2300 = .ok (.iaload, 1) := by decide +kernel
theorem dL_law__2301 : decode cL_law_ 2301 = .ok (.aload_n 0, 1) := by decide +kernel
theorem dL_law__2302 : decode cL_law_ 2302 = .ok (.iload 4, 2) := by decide +kernel
theorem dL_law__2304 : decode cL_law_ 2304 = .ok (.iconst 2, 1) := by decide +kernel
theorem dL_law__2305 : decode cL_law_ 2305 = .ok (.iadd, 1) := by decide +kernel
theorem dL_law__2306 : decode cL_law_ 2306 = .ok (.iaload, 1) := by decide +kernel
theorem dL_law__2307 : decode cL_law_ 2307 = .ok (.aload_n 0, 1) := by decide +kernel
theorem dL_law__2308 : decode cL_law_ 2308 = .ok (.iload 4, 2) := by decide +kernel
theorem dL_law__2310 : decode cL_law_ 2310 = .ok (.iconst 3, 1) := by decide +kernel
theorem dL_law__2311 : decode cL_law_ 2311 = .ok (.iadd, 1) := by decide +kernel
theorem dL_law__2312 : decode cL_law_ 2312 = .ok (.iaload, 1) := by decide +kernel
theorem dL_law__2313 : decode cL_law_ 2313 = .ok (.invokevirtual 235, 3) := by decide +kernel
theorem dL_law__2316 : decode cL_law_ 2316 = .ok (.istore 6, 2) := by decide +kernel
theorem dL_law__2318 : decode cL_law_ 2318 = .ok (.aload_n 2, 1) := by decide +kernel
theorem dL_law__2319 : decode cL_law_ 2319 = .ok (.invokevirtual 141, 3) := by decide +kernel
theorem dL_law__2322 : decode cL_law_ 2322 = .ok (.iload 5, 2) := by decide +kernel
