theorem dL_law_1686 : decode cL_law 1686 = .ok (.iload 6, 2) := by decide +kernel
theorem dL_law_1688 : decode cL_law 1688 = .ok (.i2l, 1) := by decide +kernel
theorem dL_law_1689 : decode cL_law 1689 = .ok (.lcmp, 1) := by decide +kernel
theorem dL_law_1690 : decode cL_law 1690 = .ok (.ifCond .eq 5, 3) := by decide +kernel
theorem dL_law_1693 : decode cL_law 1693 = .ok (.iconst 0, 1) := by decide +kernel
theorem dL_law_1694 : decode cL_law 1694 = .ok (.ireturn, 1) := by decide +kernel
theorem dL_law_1695 : decode cL_law 1695 = .ok (.goto 687, 3) := by decide +kernel
theorem dL_law_1698 : decode cL_law 1698 = .ok (.aload_n 1, 1) := by decide +kernel
theorem dL_law_1699 : decode cL_law 1699 = .ok (.aload_n 0, 1) := by decide +kernel
theorem dL_law_1700 : decode cL_law 1700 = .ok (.iload 4, 2) := by decide +kernel
theorem dL_law_1702 : decode cL_law 1702 = .ok (.iconst 1, 1) := by decide +kernel
theorem dL_law_1703 : decode cL_law 1703 = .ok (.iadd, 1) := by decide +kernel
theorem dL_law_1704 : decode cL_law 1704 = .ok (.iaload, 1) := by decide +kernel
theorem dL_law_1705 : decode cL_law 1705 = .ok (.aload_n 3, 1) := by decide +kernel
theorem dL_law_1706 : decode cL_law 1706 = .ok (.invokestatic 202, 3) := by decide +kernel
theorem dL_law_1709 : decode cL_law 1709 = .ok (.istore 5, 2) := by decide +kernel
theorem dL_law_1711 : decode cL_law 1711 = .ok (.aload_n 2, 1) := by decide +kernel
theorem dL_law_1712 : decode cL_law 1712 = .ok (.aload_n 0, 1) := by decide +kernel
theorem dL_law_1713 : decode cL_law 1713 = .ok (.iload 4, 2) := by decide +kernel
theorem dL_law_1715 : decode cL_law 1715 = .ok (.iconst 1, 1) := by decide +kernel
theorem dL_law_1716 : decode cL_law 1716 = .ok (.iadd, 1) := by decide +kernel
theorem dL_law_1717 : decode cL_law 1717 = .ok (.iaload, 1) := by decide +kernel
theorem dL_law_1718 : decode cL_law 1718 = .ok (.invokevirtual 204, 3) := by decide +kernel
theorem dL_law_1721 : decode cL_law 1721 = .ok (.istore 6, 2) := by decide +kernel
theorem dL_law_1723 : decode cL_law 1723 = .ok (.aload_n 2, 1) := by decide +kernel
theorem dL_law_1724 : decode cL_law 1724 = .ok (.invokevirtual 119, 3) := by decide +kernel
theorem dL_law_1727 : decode cL_law 1727 = .ok (.iload 5, 2) := by decide +kernel
theorem dL_law_1729 : decode cL_law 1729 = .ok (.if_icmp .eq 5, 3) := by decide +kernel
theorem dL_law_1732 : decode cL_law 1732 = .ok (.iconst 0, 1) := by decide +kernel
theorem dL_law_1733 : decode cL_law 1733 = .ok (.ireturn, 1) := by decide +kernel
theorem dL_law_1734 : decode cL_law 1734 = .ok (.iload 5, 2) := by decide +kernel
theorem dL_law_1736 : decode cL_law 1736 = .ok (.ifCond .ne 15, 3) := by decide +kernel
theorem dL_law_1739 : decode cL_law 1739 = .ok (.aload_n 3, 1) := by decide +kernel
theorem dL_law_1740 : decode cL_law 1740 = .ok (.iconst 0, 1) := by decide +kernel
theorem dL_law_1741 : decode cL_law 1741 = .ok (.laload, 1) := by decide +kernel
theorem dL_law_1742 : decode cL_law 1742 = .ok (.iload 6, 2) := by decide +kernel
theorem dL_law_1744 : decode cL_law 1744 = .ok (.i2l, 1) := by decide +kernel
theorem dL_law_1745 : decode cL_law 1745 = .ok (.lcmp, 1) := by decide +kernel
theorem dL_law_1746 : decode cL_law 1746 = .ok (.ifCond .eq 5, 3) := by decide +kernel
theorem dL_law_1749 : decode cL_law 1749 = .ok (.iconst 0, 1) := by decide +kernel
theorem dL_law_1750 : decode cL_law 1750 = .ok (.ireturn, 1) := by decide +kernel
theorem dL_law_1751 : decode cL_law 1751 = .ok (.goto 631, 3) := by decide +kernel
theorem dL_law_1754 : decode cL_law 1754 = .ok (.aload_n 1, 1) := by decide +kernel
theorem dL_law_1755 : decode cL_law 1755 = .ok (.aload_n 0, 1) := by decide +kernel
theorem dL_law_1756 : decode cL_law 1756 = .ok (.iload 4, 2) := by decide +kernel
theorem dL_law_1758 : decode cL_law 1758 = .ok (.iconst 1, 1) := by decide +kernel
theorem dL_law_1759 : decode cL_law 1759 = .ok (.iadd, 1) := by decide +kernel
theorem dL_law_1760 : decode cL_law 1760 = .ok (.iaload, 1) := by decide +kernel
theorem dL_law_1761 : decode cL_law 1761 = .ok (.aload_n 0, 1) := by decide +kernel
theorem dL_law_1762 : decode cL_law 1762 = .ok (.iload 4, 2) := by decide +kernel
theorem dL_law_1764 : decode cL_law 1764 = .ok (.iconst 2, 1) := by decide +kernel
theorem dL_law_1765 : decode cL_law 1765 = .ok (.iadd, 1) := by decide +kernel
theorem dL_law_1766 : decode cL_law 1766 = .ok (.iaload, 1) := by decide +kernel
theorem dL_law_1767 : decode cL_law 1767 = .ok (.aload_n 3, 1) := by decide +kernel
theorem dL_law_1768 : decode cL_law 1768 = .ok (.invokestatic 205, 3) := by decide +kernel
theorem dL_law_1771 : decode cL_law 1771 = .ok (.istore 5, 2) := by decide +kernel
theorem dL_law_1773 : decode cL_law 1773 = .ok (.aload_n 2, 1) := by decide +kernel
theorem dL_law_1774 : decode cL_law 1774 = .ok (.aload_n 0, 1) := by decide +kernel
theorem dL_law_1775 : decode cL_law 1775 = .ok (.iload 4, 2) := by decide +kernel
theorem dL_law_1777 : decode cL_law 1777 = .ok (.iconst 1, 1) := by decide +kernel
theorem dL_law_1778 : decode cL_law 1778 = .ok (.iadd, 1) := by decide +kernel
theorem dL_law_1779 : decode cL_law 1779 = .ok (.iaload, 1) := by decide +kernel
theorem dL_law_1780 : decode cL_law 1780 = .ok (.aload_n 0, 1) := by decide +kernel
theorem dL_law_1781 : decode cL_law 1781 = .ok (.iload 4, 2) := by decide +kernel
theorem dL_law_1783 : decode cL_law 1783 = .ok (.iconst 2, 1) := by decide +kernel
theorem dL_law_1784 : decode cL_law 1784 = .ok (.iadd, 1) := by decide +kernel
theorem dL_law_1785 : decode cL_law 1785 = .ok (.iaload, 1) := by decide +kernel
theorem dL_law_1786 : decode cL_law 1786 = .ok (.invokevirtual 207, 3) := by decide +kernel
theorem dL_law_1789 : decode cL_law 1789 = .ok (.istore 6, 2) := by decide +kernel
theorem dL_law_1791 : decode cL_law 1791 = .ok (.aload_n 2, 1) := by decide +kernel
theorem dL_law_1792 : decode cL_law 1792 = .ok (.invokevirtual 119, 3) := by decide +kernel
theorem dL_law_1795 : decode cL_law 1795 = .ok (.iload 5, 2) := by decide +kernel
theorem dL_law_1797 : decode cL_law 1797 = .ok (.if_icmp .eq 5, 3) := by decide +kernel
theorem dL_law_1800 : decode cL_law 1800 = .ok (.iconst 0, 1) := by decide +kernel
theorem dL_law_1801 : decode cL_law 1801 = .ok (.ireturn, 1) := by decide +kernel
theorem dL_law_1802 : decode cL_law 1802 = .ok (.iload 5, 2) := by decide +kernel
theorem dL_law_1804 : decode cL_law 1804 = .ok (.ifCond .ne 15, 3) := by decide +kernel
theorem dL_law_1807 : decode cL_law 1807 = .ok (.aload_n 3, 1) := by decide +kernel
theorem dL_law_1808 : decode cL_law 1808 = .ok (.iconst 0, 1) := by decide +kernel
theorem dL_law_1809 : decode cL_law 1809 = .ok (.laload, 1) := by decide +kernel
theorem dL_law_1810 : decode cL_law 1810 = .ok (.iload 6, 2) := by decide +kernel
theorem dL_law_1812 : decode cL_law 1812 = .ok (.i2l, 1) := by decide +kernel
theorem dL_law_1813 : decode cL_law 1813 = .ok (.lcmp, 1) := by decide +kernel
theorem dL_law_1814 : decode cL_law 1814 = .ok (.ifCond .eq 5, 3) := by decide +kernel
theorem dL_law_1817 : decode cL_law 1817 = .ok (.iconst 0, 1) := by decide +kernel
theorem dL_law_1818 : decode cL_law 1818 = .ok (.ireturn, 1) := by decide +kernel
theorem dL_law_1819 : decode cL_law 1819 = .ok (.goto 563, 3) := by decide +kernel
theorem dL_law_1822 : decode cL_law 1822 = .ok (.aload_n 1, 1) := by decide +kernel
theorem dL_law_1823 : decode cL_law 1823 = .ok (.aload_n 0, 1) := by decide +kernel
theorem dL_law_1824 : decode cL_law 1824 = .ok (.iload 4, 2) := by decide +kernel
theorem dL_law_1826 : decode cL_law 1826 = .ok (.iconst 1, 1) := by decide +kernel
theorem dL_law_1827 : decode cL_law 1827 = .ok (.iadd, 1) := by decide +kernel
theorem dL_law_1828 : decode cL_law 1828 = .ok (.iaload, 1) := by decide +kernel
theorem dL_law_1829 : decode cL_law 1829 = .ok (.aload_n 0, 1) := by decide +kernel
theorem dL_law_1830 : decode cL_law 1830 = .ok (.iload 4, 2) := by decide +kernel
theorem dL_law_1832 : decode cL_law 1832 = .ok (.iconst 2, 1) := by decide +kernel
theorem dL_law_1833 : decode cL_law 1833 = .ok (.iadd, 1) := by decide +kernel
theorem dL_law_1834 : decode cL_law 1834 = .ok (.iaload, 1) := by decide +kernel
theorem dL_law_1835 : decode cL_law 1835 = .ok (.aload_n 0, 1) := by decide +kernel
theorem dL_law_1836 : decode cL_law 1836 = .ok (.iload 4, 2) := by decide +kernel
theorem dL_law_1838 : decode cL_law 1838 = .ok (.iconst 3, 1) := by decide +kernel
theorem dL_law_1839 : decode cL_law 1839 = .ok (.iadd, 1) := by decide +kernel
theorem dL_law_1840 : decode cL_law 1840 = .ok (.iaload, 1) := by decide +kernel
theorem dL_law_1841 : decode cL_law 1841 = .ok (.aload_n 3, 1) := by decide +kernel
theorem dL_law_1842 : decode cL_law 1842 = .ok (.invokestatic 208, 3) := by decide +kernel
theorem dL_law_1845 : decode cL_law 1845 = .ok (.istore 5, 2) := by decide +kernel
theorem dL_law_1847 : decode cL_law 1847 = .ok (.aload_n 2, 1) := by decide +kernel
theorem dL_law_1848 : decode cL_law 1848 = .ok (.aload_n 0, 1) := by decide +kernel
theorem dL_law_1849 : decode cL_law 1849 = .ok (.iload 4, 2) := by decide +kernel
theorem dL_law_1851 : decode cL_law 1851 = .ok (.iconst 1, 1) := by decide +kernel
theorem dL_law_1852 : decode cL_law 1852 = .ok (.iadd, 1) := by decide +kernel
theorem dL_law_1853 : decode cL_law 1853 = .ok (.iaload, 1) := by decide +kernel
theorem dL_law_1854 : decode cL_law 1854 = .ok (.aload_n 0, 1) := by decide +kernel
theorem dL_law_1855 : decode cL_law 1855 = .ok (.iload 4, 2) := by decide +kernel
theorem dL_law_1857 : decode cL_law 1857 = .ok (.iconst 2, 1) := by decide +kernel
theorem dL_law_1858 : decode cL_law 1858 = .ok (.iadd, 1) := by decide +kernel
theorem dL_law_1859 : decode cL_law 1859 = .ok (.iaload, 1) := by decide +kernel
theorem dL_law_1860 : decode cL_law 1860 = .ok (.aload_n 0, 1) := by decide +kernel
theorem dL_law_1861 : decode cL_law 1861 = .ok (.iload 4, 2) := by decide +kernel
theorem dL_law_1863 : decode cL_law 1863 = .ok (.iconst 3, 1) := by decide +kernel
theorem dL_law_1864 : decode cL_law 1864 = .ok (.iadd, 1) := by decide +kernel
theorem dL_law_1865 : decode cL_law 1865 = .ok (.iaload, 1) := by decide +kernel
theorem dL_law_1866 : decode cL_law 1866 = .ok (.invokevirtual 210, 3) := by decide +kernel
theorem dL_law_1869 : decode cL_law 1869 = .ok (.istore 6, 2) := by decide +kernel
theorem dL_law_1871 : decode cL_law 1871 = .ok (.aload_n 2, 1) := by decide +kernel
theorem dL_law_1872 : decode cL_law 1872 = .ok (.invokevirtual 119, 3) := by decide +kernel
theorem dL_law_1875 : decode cL_law 1875 = .ok (.iload 5, 2) := by decide +kernel
theorem dL_law_1877 : decode cL_law 1877 = .ok (.if_icmp .eq 5, 3) := by decide +kernel
theorem dL_law_1880 : decode cL_law 1880 = .ok (.iconst 0, 1) := by decide +kernel
theorem dL_law_1881 : decode cL_law 1881 = .ok (.ireturn, 1) := by decide +kernel
theorem dL_law_1882 : decode cL_law 1882 = .ok (.iload 5, 2) := by decide +kernel
theorem dL_law_1884 : decode cL_law 1884 = .ok (.ifCond .ne 15, 3) := by decide +kernel
theorem dL_law_1887 : decode cL_law 1887 = .ok (.aload_n 3, 1) := by decide +kernel
theorem dL_law_1888 : decode cL_law 1888 = .ok (.iconst 0, 1) := by decide +kernel
theorem dL_law_1889 : decode cL_law 1889 = .ok (.laload, 1) := by decide +kernel
theorem dL_law_1890 : decode cL_law 1890 = .ok (.iload 6, 2) := by decide +kernel
theorem dL_law_1892 : decode cL_law 1892 = .ok (.i2l, 1) := by decide +kernel
theorem dL_law_1893 : decode cL_law 1893 = .ok (.lcmp, 1) := by decide +kernel
theorem dL_law_1894 : decode cL_law 1894 = .ok (.ifCond .eq 5, 3) := by decide +kernel
theorem dL_law_1897 : decode cL_law 1897 = .ok (.iconst 0, 1) := by decide +kernel
theorem dL_law_1898 : decode cL_law 1898 = .ok (.ireturn, 1) := by decide +kernel
theorem dL_law_1899 : decode cL_law 1899 = .ok (.goto 483, 3) := by decide +kernel
theorem dL_law_1902 : decode cL_law 1902 = .ok (.aload_n 1, 1) := by decide +kernel
theorem dL_law_1903 : decode cL_law 1903 = .ok (.invokevirtual 211, 3) := by decide +kernel
theorem dL_law_1906 : decode cL_law 1906 = .ok (.aload_n 2, 1) := by decide +kernel
theorem dL_law_1907 : decode cL_law 1907 = .ok (.invokevirtual 214, 3) := by decide +kernel
theorem dL_law_1910 : decode cL_law 1910 = .ok (.goto 472, 3) := by decide +kernel
theorem dL_law_1913 : decode cL_law 1913 = .ok (.aload_n 1, 1) := by decide +kernel
theorem dL_law_1914 : decode cL_law 1914 = .ok (.aload_n 0, 1) := by decide +kernel
theorem dL_law_1915 : decode cL_law 1915 = .ok (.iload 4, 2) := by decide +kernel
theorem dL_law_1917 : decode cL_law 1917 = .ok (.iconst 1, 1) := by decide +kernel
theorem dL_law_1918 : decode cL_law 1918 = .ok (.iadd, 1) := by decide +kernel
theorem dL_law_1919 : decode cL_law 1919 = .ok (.iaload, 1) := by decide +kernel
theorem dL_law_1920 : decode cL_law 1920 = .ok (.aload_n 3, 1) := by decide +kernel
theorem dL_law_1921 : decode cL_law 1921 = .ok (.invokestatic 215, 3) := by decide +kernel
theorem dL_law_1924 : decode cL_law 1924 = .ok (.istore 5, 2) := by decide +kernel
theorem dL_law_1926 : decode cL_law 1926 = .ok (.aload_n 2, 1) := by decide +kernel
theorem dL_law_1927 : decode cL_law 1927 = .ok (.aload_n 0, 1) := by decide +kernel
theorem dL_law_1928 : decode cL_law 1928 = .ok (.iload 4, 2) := by decide +kernel
theorem dL_law_1930 : decode cL_law 1930 = .ok (.iconst 1, 1) := by decide +kernel
theorem dL_law_1931 : decode cL_law 1931 = .ok (.iadd, 1) := by decide +kernel
theorem dL_law_1932 : decode cL_law 1932 = .ok (.iaload, 1) := by decide +kernel
theorem dL_law_1933 : decode cL_law 1933 = .ok (.invokevirtual 217, 3) := by decide +kernel
theorem dL_law_1936 : decode cL_law 1936 = .ok (.istore 6, 2) := by decide +kernel
theorem dL_law_1938 : decode cL_law 1938 = .ok (.aload_n 2, 1) := by decide +kernel
theorem dL_law_1939 : decode cL_law 1939 = .ok (.invokevirtual 119, 3) := by decide +kernel
theorem dL_law_1942 : decode cL_law 1942 = .ok (.iload 5, 2) := by decide +kernel
theorem dL_law_1944 : decode cL_law 1944 = .ok (.if_icmp .eq 5, 3) := by decide +kernel
theorem dL_law_1947 : decode cL_law 1947 = .ok (.iconst 0, 1) := by decide +kernel
theorem dL_law_1948 : decode cL_law 1948 = .ok (.ireturn, 1) := by decide +kernel
theorem dL_law_1949 : decode cL_law 1949 = .ok (.iload 5, 2) := by decide +kernel
theorem dL_law_1951 : decode cL_law 1951 = .ok (.ifCond .ne 15, 3) := by decide +kernel
theorem dL_law_1954 : decode cL_law 1954 = .ok (.aload_n 3, 1) := by decide +kernel
theorem dL_law_1955 : decode cL_law 1955 = .ok (.iconst 0, 1) := by decide +kernel
theorem dL_law_1956 : decode cL_law 1956 = .ok (.laload, 1) := by decide +kernel
theorem dL_law_1957 : decode cL_law 1957 = .ok (.iload 6, 2) := by decide +kernel
theorem dL_law_1959 : decode cL_law 1959 = .ok (.i2l, 1) := by decide +kernel
theorem dL_law_1960 : decode cL_law 1960 = .ok (.lcmp, 1) := by decide +kernel
theorem dL_law_1961 : decode cL_law 1961 = .ok (.ifCond .eq 5, 3) := by decide +kernel
theorem dL_law_1964 : decode cL_law 1964 = .ok (.iconst 0, 1) := by decide +kernel
theorem dL_law_1965 : decode cL_law 1965 = .ok (.ireturn, 1) := by decide +kernel
theorem dL_law_1966 : decode cL_law 1966 = .ok (.goto 416, 3) := by decide +kernel
theorem dL_law_1969 : decode cL_law 1969 = .ok (.aload_n 1, 1) := by decide +kernel
theorem dL_law_1970 : decode cL_law 1970 = .ok (.aload_n 0, 1) := by decide +kernel
theorem dL_law_1971 : decode cL_law 1971 = .ok (.iload 4, 2) := by decide +kernel
theorem dL_law_1973 : decode cL_law 1973 = .ok (.iconst 1, 1) := by decide +kernel
theorem dL_law_1974 : decode cL_law 1974 = .ok (.iadd, 1) := by decide +kernel
theorem dL_law_1975 : decode cL_law 1975 = .ok (.iaload, 1) := by decide +kernel
theorem dL_law_1976 : decode cL_law 1976 = .ok (.aload_n 3, 1) := by decide +kernel
theorem dL_law_1977 : decode cL_law 1977 = .ok (.invokestatic 218, 3) := by decide +kernel
theorem dL_law_1980 : decode cL_law 1980 = .ok (.istore 5, 2) := by decide +kernel
theorem dL_law_1982 : decode cL_law 1982 = .ok (.aload_n 2, 1) := by decide +kernel
theorem dL_law_1983 : decode cL_law 1983 = .ok (.aload_n 0, 1) := by decide +kernel
theorem dL_law_1984 : decode cL_law 1984 = .ok (.iload 4, 2) := by decide +kernel
theorem dL_law_1986 : decode cL_law 1986 = .ok (.iconst 1, 1) := by decide +kernel
theorem dL_law_1987 : decode cL_law 1987 = .ok (.iadd, 1) := by decide +kernel
theorem dL_law_1988 : decode cL_law 1988 = .ok (.iaload, 1) := by decide +kernel
theorem dL_law_1989 : decode cL_law 1989 = .ok (.invokevirtual 220, 3) := by decide +kernel
theorem dL_law_1992 : decode cL_law 1992 = .ok (.istore 6, 2) := by decide +kernel
theorem dL_law_1994 : decode cL_law 1994 = .ok (.aload_n 2, 1) := by decide +kernel
theorem dL_law_1995 : decode cL_law 1995 = .ok (.invokevirtual 119, 3) := by decide +kernel
theorem dL_law_1998 : decode cL_law 1998 = .ok (.iload 5, 2) := by decide +kernel
theorem dL_law_2000 : decode cL_law 2000 = .ok (.if_icmp .eq 5, 3) := by decide +kernel
theorem dL_law_2003 : decode cL_law 2003 = .ok (.iconst 0, 1) := by decide +kernel
theorem dL_law_2004 : decode cL_law 2004 = .ok (.ireturn, 1) := by decide +kernel
theorem dL_law_2005 : decode cL_law 2005 = .ok (.iload 5, 2) := by decide +kernel
theorem dL_law_2007 : decode cL_law 2007 = .ok (.ifCond .ne 15, 3) := by decide +kernel
theorem dL_law_2010 : decode cL_law 2010 = .ok (.aload_n 3, 1) := by decide +kernel
theorem dL_law_2011 : decode cL_law 2011 = .ok (.iconst 0, 1) := by decide +kernel
theorem dL_law_2012 : decode cL_law 2012 = .ok (.laload, 1) := by decide +kernel
theorem dL_law_2013 : decode cL_law 2013 = .ok (.iload 6, 2) := by decide +kernel
theorem dL_law_2015 : decode cL_law 2015 = .ok (.i2l, 1) := by decide +kernel
theorem dL_law_2016 : decode cL_law 2016 = .ok (.lcmp, 1) := by decide +kernel
theorem dL_law_2017 : decode cL_law 2017 = .ok (.ifCond .eq 5, 3) := by decide +kernel
theorem dL_law_2020 : decode cL_law 2020 = .ok (.iconst 0, 1) := by decide +kernel
theorem dL_law_2021 : decode cL_law 2021 = .ok (.ireturn, 1) := by decide +kernel
theorem dL_law_2022 : decode cL_law 2022 = .ok (.goto 360, 3) := by decide +kernel
theorem dL_law_2025 : decode cL_law 2025 = .ok (.aload_n 1, 1) := by decide +kernel
theorem dL_law_2026 : decode cL_law 2026 = .ok (.aload_n 0, 1) := by decide +kernel
theorem dL_law_2027 : decode cL_law 2027 = .ok (.iload 4, 2) := by decide +kernel
theorem dL_law_2029 : decode cL_law 2029 = .ok (.iconst 1, 1) := by decide +kernel
theorem dL_law_2030 : decode cL_law 2030 = .ok (.iadd, 1) := by decide +kernel
theorem dL_law_2031 : decode cL_law 2031 = .ok (.iaload, 1) := by decide +kernel
theorem dL_law_2032 : decode cL_law 2032 = .ok (.aload_n 0, 1) := by decide +kernel
theorem dL_law_2033 : decode cL_law 2033 = .ok (.iload 4, 2) := by decide +kernel
theorem dL_law_2035 : decode cL_law 2035 = .ok (.iconst 2, 1) := by decide +kernel
theorem dL_law_2036 : decode cL_law 2036 = .ok (.iadd, 1) := by decide +kernel
theorem dL_law_2037 : decode cL_law 2037 = .ok (.iaload, 1) := by decide +kernel
theorem dL_law_2038 : decode cL_law 2038 = .ok (.aload_n 0, 1) := by decide +kernel
theorem dL_law_2039 : decode cL_law 2039 = .ok (.iload 4, 2) := by decide +kernel
theorem dL_law_2041 : decode cL_law 2041 = .ok (.iconst 3, 1) := by decide +kernel
theorem dL_law_2042 : decode cL_law 2042 = .ok (.iadd, 1) := by decide +kernel
theorem dL_law_2043 : decode cL_law 2043 = .ok (.iaload, 1) := by decide +kernel
theorem dL_law_2044 : decode cL_law 2044 = .ok (.aload_n 0, 1) := by decide +kernel
theorem dL_law_2045 : decode cL_law 2045 = .ok (.iload 4, 2) := by decide +kernel
theorem dL_law_2047 : decode cL_law 2047 = .ok (.iconst 4, 1) := by decide +kernel
theorem dL_law_2048 : decode cL_law 2048 = .ok (.iadd, 1) := by decide +kernel
theorem dL_law_2049 : decode cL_law 2049 = .ok (.iaload, 1) := by decide +kernel
theorem dL_law_2050 : decode cL_law 2050 = .ok (.aload_n 3, 1) := by decide +kernel
theorem dL_law_2051 : decode cL_law 2051 = .ok (.invokestatic 221, 3) := by decide +kernel
theorem dL_law_2054 : decode cL_law 2054 = .ok (.istore 5, 2) := by decide +kernel
theorem dL_law_2056 : decode cL_law 2056 = .ok (.aload_n 2, 1) := by decide +kernel
theorem dL_law_2057 : decode cL_law 2057 = .ok (.aload_n 0, 1) := by decide +kernel
theorem dL_law_2058 : decode cL_law 2058 = .ok (.iload 4, 2) := by decide +kernel
theorem dL_law_2060 : decode cL_law 2060 = .ok (.iconst 1, 1) := by decide +kernel
theorem dL_law_2061 : decode cL_law 2061 = .ok (.iadd, 1) := by decide +kernel
theorem dL_law_2062 : decode cL_law 2062 = .ok (.iaload, 1) := by decide +kernel
theorem dL_law_2063 : decode cL_law 2063 = .ok (.aload_n 0, 1) := by decide +kernel
theorem dL_law_2064 : decode cL_law 2064 = .ok (.iload 4, 2) := by decide +kernel
theorem dL_law_2066 : decode cL_law 2066 = .ok (.iconst 2, 1) := by decide +kernel
