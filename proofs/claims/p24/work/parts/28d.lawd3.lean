theorem d_lw_1692 : decode code 1692 = .ok (.i2l, 1) := by decide +kernel
theorem d_lw_1693 : decode code 1693 = .ok (.ldc2_w 149, 3) := by decide +kernel
theorem d_lw_1696 : decode code 1696 = .ok (.land, 1) := by decide +kernel
theorem d_lw_1697 : decode code 1697 = .ok (.lor, 1) := by decide +kernel
theorem d_lw_1698 : decode code 1698 = .ok (.invokevirtual 186, 3) := by decide +kernel
theorem d_lw_1701 : decode code 1701 = .ok (.pop, 1) := by decide +kernel
theorem d_lw_1702 : decode code 1702 = .ok (.aload_n 2, 1) := by decide +kernel
theorem d_lw_1703 : decode code 1703 = .ok (.aload_n 0, 1) := by decide +kernel
theorem d_lw_1704 : decode code 1704 = .ok (.iload 4, 2) := by decide +kernel
theorem d_lw_1706 : decode code 1706 = .ok (.iconst 1, 1) := by decide +kernel
theorem d_lw_1707 : decode code 1707 = .ok (.iadd, 1) := by decide +kernel
theorem d_lw_1708 : decode code 1708 = .ok (.iaload, 1) := by decide +kernel
theorem d_lw_1709 : decode code 1709 = .ok (.aload_n 0, 1) := by decide +kernel
theorem d_lw_1710 : decode code 1710 = .ok (.iload 4, 2) := by decide +kernel
theorem d_lw_1712 : decode code 1712 = .ok (.iconst 2, 1) := by decide +kernel
theorem d_lw_1713 : decode code 1713 = .ok (.iadd, 1) := by decide +kernel
theorem d_lw_1714 : decode code 1714 = .ok (.iaload, 1) := by decide +kernel
theorem d_lw_1715 : decode code 1715 = .ok (.i2l, 1) := by decide +kernel
theorem d_lw_1716 : decode code 1716 = .ok (.bipush 32, 2) := by decide +kernel
theorem d_lw_1718 : decode code 1718 = .ok (.lshl, 1) := by decide +kernel
theorem d_lw_1719 : decode code 1719 = .ok (.aload_n 0, 1) := by decide +kernel
theorem d_lw_1720 : decode code 1720 = .ok (.iload 4, 2) := by decide +kernel
theorem d_lw_1722 : decode code 1722 = .ok (.iconst 3, 1) := by decide +kernel
theorem d_lw_1723 : decode code 1723 = .ok (.iadd, 1) := by decide +kernel
theorem d_lw_1724 : decode code 1724 = .ok (.iaload, 1) := by decide +kernel
theorem d_lw_1725 : decode code 1725 = .ok (.i2l, 1) := by decide +kernel
theorem d_lw_1726 : decode code 1726 = .ok (.ldc2_w 149, 3) := by decide +kernel
theorem d_lw_1729 : decode code 1729 = .ok (.land, 1) := by decide +kernel
theorem d_lw_1730 : decode code 1730 = .ok (.lor, 1) := by decide +kernel
theorem d_lw_1731 : decode code 1731 = .ok (.aload_n 0, 1) := by decide +kernel
theorem d_lw_1732 : decode code 1732 = .ok (.iload 4, 2) := by decide +kernel
theorem d_lw_1734 : decode code 1734 = .ok (.iconst 4, 1) := by decide +kernel
theorem d_lw_1735 : decode code 1735 = .ok (.iadd, 1) := by decide +kernel
theorem d_lw_1736 : decode code 1736 = .ok (.iaload, 1) := by decide +kernel
theorem d_lw_1737 : decode code 1737 = .ok (.aload_n 0, 1) := by decide +kernel
theorem d_lw_1738 : decode code 1738 = .ok (.iload 4, 2) := by decide +kernel
theorem d_lw_1740 : decode code 1740 = .ok (.iconst 5, 1) := by decide +kernel
theorem d_lw_1741 : decode code 1741 = .ok (.iadd, 1) := by decide +kernel
theorem d_lw_1742 : decode code 1742 = .ok (.iaload, 1) := by decide +kernel
theorem d_lw_1743 : decode code 1743 = .ok (.i2l, 1) := by decide +kernel
theorem d_lw_1744 : decode code 1744 = .ok (.bipush 32, 2) := by decide +kernel
theorem d_lw_1746 : decode code 1746 = .ok (.lshl, 1) := by decide +kernel
theorem d_lw_1747 : decode code 1747 = .ok (.aload_n 0, 1) := by decide +kernel
theorem d_lw_1748 : decode code 1748 = .ok (.iload 4, 2) := by decide +kernel
theorem d_lw_1750 : decode code 1750 = .ok (.bipush 6, 2) := by decide +kernel
theorem d_lw_1752 : decode code 1752 = .ok (.iadd, 1) := by decide +kernel
theorem d_lw_1753 : decode code 1753 = .ok (.iaload, 1) := by decide +kernel
theorem d_lw_1754 : decode code 1754 = .ok (.i2l, 1) := by decide +kernel
theorem d_lw_1755 : decode code 1755 = .ok (.ldc2_w 149, 3) := by decide +kernel
theorem d_lw_1758 : decode code 1758 = .ok (.land, 1) := by decide +kernel
theorem d_lw_1759 : decode code 1759 = .ok (.lor, 1) := by decide +kernel
theorem d_lw_1760 : decode code 1760 = .ok (.invokevirtual 190, 3) := by decide +kernel
theorem d_lw_1763 : decode code 1763 = .ok (.pop, 1) := by decide +kernel
theorem d_lw_1764 : decode code 1764 = .ok (.goto 428, 3) := by decide +kernel
theorem d_lw_1767 : decode code 1767 = .ok (.aload_n 1, 1) := by decide +kernel
theorem d_lw_1768 : decode code 1768 = .ok (.aload_n 0, 1) := by decide +kernel
theorem d_lw_1769 : decode code 1769 = .ok (.iload 4, 2) := by decide +kernel
theorem d_lw_1771 : decode code 1771 = .ok (.iconst 1, 1) := by decide +kernel
theorem d_lw_1772 : decode code 1772 = .ok (.iadd, 1) := by decide +kernel
theorem d_lw_1773 : decode code 1773 = .ok (.iaload, 1) := by decide +kernel
theorem d_lw_1774 : decode code 1774 = .ok (.aload_n 0, 1) := by decide +kernel
theorem d_lw_1775 : decode code 1775 = .ok (.iload 4, 2) := by decide +kernel
theorem d_lw_1777 : decode code 1777 = .ok (.iconst 2, 1) := by decide +kernel
theorem d_lw_1778 : decode code 1778 = .ok (.iadd, 1) := by decide +kernel
theorem d_lw_1779 : decode code 1779 = .ok (.iaload, 1) := by decide +kernel
theorem d_lw_1780 : decode code 1780 = .ok (.aload_n 0, 1) := by decide +kernel
theorem d_lw_1781 : decode code 1781 = .ok (.iload 4, 2) := by decide +kernel
theorem d_lw_1783 : decode code 1783 = .ok (.iconst 3, 1) := by decide +kernel
theorem d_lw_1784 : decode code 1784 = .ok (.iadd, 1) := by decide +kernel
theorem d_lw_1785 : decode code 1785 = .ok (.iaload, 1) := by decide +kernel
theorem d_lw_1786 : decode code 1786 = .ok (.aload_n 0, 1) := by decide +kernel
theorem d_lw_1787 : decode code 1787 = .ok (.iload 4, 2) := by decide +kernel
theorem d_lw_1789 : decode code 1789 = .ok (.iconst 4, 1) := by decide +kernel
theorem d_lw_1790 : decode code 1790 = .ok (.iadd, 1) := by decide +kernel
theorem d_lw_1791 : decode code 1791 = .ok (.iaload, 1) := by decide +kernel
theorem d_lw_1792 : decode code 1792 = .ok (.i2l, 1) := by decide +kernel
theorem d_lw_1793 : decode code 1793 = .ok (.bipush 32, 2) := by decide +kernel
theorem d_lw_1795 : decode code 1795 = .ok (.lshl, 1) := by decide +kernel
theorem d_lw_1796 : decode code 1796 = .ok (.aload_n 0, 1) := by decide +kernel
theorem d_lw_1797 : decode code 1797 = .ok (.iload 4, 2) := by decide +kernel
theorem d_lw_1799 : decode code 1799 = .ok (.iconst 5, 1) := by decide +kernel
theorem d_lw_1800 : decode code 1800 = .ok (.iadd, 1) := by decide +kernel
theorem d_lw_1801 : decode code 1801 = .ok (.iaload, 1) := by decide +kernel
theorem d_lw_1802 : decode code 1802 = .ok (.i2l, 1) := by decide +kernel
theorem d_lw_1803 : decode code 1803 = .ok (.ldc2_w 149, 3) := by decide +kernel
theorem d_lw_1806 : decode code 1806 = .ok (.land, 1) := by decide +kernel
theorem d_lw_1807 : decode code 1807 = .ok (.lor, 1) := by decide +kernel
theorem d_lw_1808 : decode code 1808 = .ok (.aload_n 0, 1) := by decide +kernel
theorem d_lw_1809 : decode code 1809 = .ok (.iload 4, 2) := by decide +kernel
theorem d_lw_1811 : decode code 1811 = .ok (.bipush 6, 2) := by decide +kernel
theorem d_lw_1813 : decode code 1813 = .ok (.iadd, 1) := by decide +kernel
theorem d_lw_1814 : decode code 1814 = .ok (.iaload, 1) := by decide +kernel
theorem d_lw_1815 : decode code 1815 = .ok (.i2l, 1) := by decide +kernel
theorem d_lw_1816 : decode code 1816 = .ok (.bipush 32, 2) := by decide +kernel
theorem d_lw_1818 : decode code 1818 = .ok (.lshl, 1) := by decide +kernel
theorem d_lw_1819 : decode code 1819 = .ok (.aload_n 0, 1) := by decide +kernel
theorem d_lw_1820 : decode code 1820 = .ok (.iload 4, 2) := by decide +kernel
theorem d_lw_1822 : decode code 1822 = .ok (.bipush 7, 2) := by decide +kernel
theorem d_lw_1824 : decode code 1824 = .ok (.iadd, 1) := by decide +kernel
theorem d_lw_1825 : decode code 1825 = .ok (.iaload, 1) := by decide +kernel
theorem d_lw_1826 : decode code 1826 = .ok (.i2l, 1) := by decide +kernel
theorem d_lw_1827 : decode code 1827 = .ok (.ldc2_w 149, 3) := by decide +kernel
theorem d_lw_1830 : decode code 1830 = .ok (.land, 1) := by decide +kernel
theorem d_lw_1831 : decode code 1831 = .ok (.lor, 1) := by decide +kernel
theorem d_lw_1832 : decode code 1832 = .ok (.aload_n 0, 1) := by decide +kernel
theorem d_lw_1833 : decode code 1833 = .ok (.iload 4, 2) := by decide +kernel
theorem d_lw_1835 : decode code 1835 = .ok (.bipush 8, 2) := by decide +kernel
theorem d_lw_1837 : decode code 1837 = .ok (.iadd, 1) := by decide +kernel
theorem d_lw_1838 : decode code 1838 = .ok (.iaload, 1) := by decide +kernel
theorem d_lw_1839 : decode code 1839 = .ok (.i2l, 1) := by decide +kernel
theorem d_lw_1840 : decode code 1840 = .ok (.bipush 32, 2) := by decide +kernel
theorem d_lw_1842 : decode code 1842 = .ok (.lshl, 1) := by decide +kernel
theorem d_lw_1843 : decode code 1843 = .ok (.aload_n 0, 1) := by decide +kernel
theorem d_lw_1844 : decode code 1844 = .ok (.iload 4, 2) := by decide +kernel
theorem d_lw_1846 : decode code 1846 = .ok (.bipush 9, 2) := by decide +kernel
theorem d_lw_1848 : decode code 1848 = .ok (.iadd, 1) := by decide +kernel
theorem d_lw_1849 : decode code 1849 = .ok (.iaload, 1) := by decide +kernel
theorem d_lw_1850 : decode code 1850 = .ok (.i2l, 1) := by decide +kernel
theorem d_lw_1851 : decode code 1851 = .ok (.ldc2_w 149, 3) := by decide +kernel
theorem d_lw_1854 : decode code 1854 = .ok (.land, 1) := by decide +kernel
theorem d_lw_1855 : decode code 1855 = .ok (.lor, 1) := by decide +kernel
theorem d_lw_1856 : decode code 1856 = .ok (.invokevirtual 191, 3) := by decide +kernel
theorem d_lw_1859 : decode code 1859 = .ok (.pop, 1) := by decide +kernel
theorem d_lw_1860 : decode code 1860 = .ok (.aload_n 2, 1) := by decide +kernel
theorem d_lw_1861 : decode code 1861 = .ok (.aload_n 0, 1) := by decide +kernel
theorem d_lw_1862 : decode code 1862 = .ok (.iload 4, 2) := by decide +kernel
theorem d_lw_1864 : decode code 1864 = .ok (.iconst 1, 1) := by decide +kernel
theorem d_lw_1865 : decode code 1865 = .ok (.iadd, 1) := by decide +kernel
theorem d_lw_1866 : decode code 1866 = .ok (.iaload, 1) := by decide +kernel
theorem d_lw_1867 : decode code 1867 = .ok (.aload_n 0, 1) := by decide +kernel
theorem d_lw_1868 : decode code 1868 = .ok (.iload 4, 2) := by decide +kernel
theorem d_lw_1870 : decode code 1870 = .ok (.iconst 2, 1) := by decide +kernel
theorem d_lw_1871 : decode code 1871 = .ok (.iadd, 1) := by decide +kernel
theorem d_lw_1872 : decode code 1872 = .ok (.iaload, 1) := by decide +kernel
theorem d_lw_1873 : decode code 1873 = .ok (.aload_n 0, 1) := by decide +kernel
theorem d_lw_1874 : decode code 1874 = .ok (.iload 4, 2) := by decide +kernel
theorem d_lw_1876 : decode code 1876 = .ok (.iconst 3, 1) := by decide +kernel
theorem d_lw_1877 : decode code 1877 = .ok (.iadd, 1) := by decide +kernel
theorem d_lw_1878 : decode code 1878 = .ok (.iaload, 1) := by decide +kernel
theorem d_lw_1879 : decode code 1879 = .ok (.aload_n 0, 1) := by decide +kernel
theorem d_lw_1880 : decode code 1880 = .ok (.iload 4, 2) := by decide +kernel
theorem d_lw_1882 : decode code 1882 = .ok (.iconst 4, 1) := by decide +kernel
theorem d_lw_1883 : decode code 1883 = .ok (.iadd, 1) := by decide +kernel
theorem d_lw_1884 : decode code 1884 = .ok (.iaload, 1) := by decide +kernel
theorem d_lw_1885 : decode code 1885 = .ok (.i2l, 1) := by decide +kernel
theorem d_lw_1886 : decode code 1886 = .ok (.bipush 32, 2) := by decide +kernel
theorem d_lw_1888 : decode code 1888 = .ok (.lshl, 1) := by decide +kernel
theorem d_lw_1889 : decode code 1889 = .ok (.aload_n 0, 1) := by decide +kernel
theorem d_lw_1890 : decode code 1890 = .ok (.iload 4, 2) := by decide +kernel
theorem d_lw_1892 : decode code 1892 = .ok (.iconst 5, 1) := by decide +kernel
theorem d_lw_1893 : decode code 1893 = .ok (.iadd, 1) := by decide +kernel
theorem d_lw_1894 : decode code 1894 = .ok (.iaload, 1) := by decide +kernel
theorem d_lw_1895 : decode code 1895 = .ok (.i2l, 1) := by decide +kernel
theorem d_lw_1896 : decode code 1896 = .ok (.ldc2_w 149, 3) := by decide +kernel
theorem d_lw_1899 : decode code 1899 = .ok (.land, 1) := by decide +kernel
theorem d_lw_1900 : decode code 1900 = .ok (.lor, 1) := by decide +kernel
theorem d_lw_1901 : decode code 1901 = .ok (.aload_n 0, 1) := by decide +kernel
theorem d_lw_1902 : decode code 1902 = .ok (.iload 4, 2) := by decide +kernel
theorem d_lw_1904 : decode code 1904 = .ok (.bipush 6, 2) := by decide +kernel
theorem d_lw_1906 : decode code 1906 = .ok (.iadd, 1) := by decide +kernel
theorem d_lw_1907 : decode code 1907 = .ok (.iaload, 1) := by decide +kernel
theorem d_lw_1908 : decode code 1908 = .ok (.i2l, 1) := by decide +kernel
theorem d_lw_1909 : decode code 1909 = .ok (.bipush 32, 2) := by decide +kernel
theorem d_lw_1911 : decode code 1911 = .ok (.lshl, 1) := by decide +kernel
theorem d_lw_1912 : decode code 1912 = .ok (.aload_n 0, 1) := by decide +kernel
theorem d_lw_1913 : decode code 1913 = .ok (.iload 4, 2) := by decide +kernel
theorem d_lw_1915 : decode code 1915 = .ok (.bipush 7, 2) := by decide +kernel
theorem d_lw_1917 : decode code 1917 = .ok (.iadd, 1) := by decide +kernel
theorem d_lw_1918 : decode code 1918 = .ok (.iaload, 1) := by decide +kernel
theorem d_lw_1919 : decode code 1919 = .ok (.i2l, 1) := by decide +kernel
theorem d_lw_1920 : decode code 1920 = .ok (.ldc2_w 149, 3) := by decide +kernel
theorem d_lw_1923 : decode code 1923 = .ok (.land, 1) := by decide +kernel
theorem d_lw_1924 : decode code 1924 = .ok (.lor, 1) := by decide +kernel
theorem d_lw_1925 : decode code 1925 = .ok (.aload_n 0, 1) := by decide +kernel
theorem d_lw_1926 : decode code 1926 = .ok (.iload 4, 2) := by decide +kernel
theorem d_lw_1928 : decode code 1928 = .ok (.bipush 8, 2) := by decide +kernel
theorem d_lw_1930 : decode code 1930 = .ok (.iadd, 1) := by decide +kernel
theorem d_lw_1931 : decode code 1931 = .ok (.iaload, 1) := by decide +kernel
theorem d_lw_1932 : decode code 1932 = .ok (.i2l, 1) := by decide +kernel
theorem d_lw_1933 : decode code 1933 = .ok (.bipush 32, 2) := by decide +kernel
theorem d_lw_1935 : decode code 1935 = .ok (.lshl, 1) := by decide +kernel
theorem d_lw_1936 : decode code 1936 = .ok (.aload_n 0, 1) := by decide +kernel
theorem d_lw_1937 : decode code 1937 = .ok (.iload 4, 2) := by decide +kernel
theorem d_lw_1939 : decode code 1939 = .ok (.bipush 9, 2) := by decide +kernel
theorem d_lw_1941 : decode code 1941 = .ok (.iadd, 1) := by decide +kernel
theorem d_lw_1942 : decode code 1942 = .ok (.iaload, 1) := by decide +kernel
theorem d_lw_1943 : decode code 1943 = .ok (.i2l, 1) := by decide +kernel
theorem d_lw_1944 : decode code 1944 = .ok (.ldc2_w 149, 3) := by decide +kernel
theorem d_lw_1947 : decode code 1947 = .ok (.land, 1) := by decide +kernel
theorem d_lw_1948 : decode code 1948 = .ok (.lor, 1) := by decide +kernel
theorem d_lw_1949 : decode code 1949 = .ok (.invokevirtual 195, 3) := by decide +kernel
theorem d_lw_1952 : decode code 1952 = .ok (.pop, 1) := by decide +kernel
theorem d_lw_1953 : decode code 1953 = .ok (.goto 239, 3) := by decide +kernel
theorem d_lw_1956 : decode code 1956 = .ok (.aload_n 1, 1) := by decide +kernel
theorem d_lw_1957 : decode code 1957 = .ok (.aload_n 0, 1) := by decide +kernel
theorem d_lw_1958 : decode code 1958 = .ok (.iload 4, 2) := by decide +kernel
theorem d_lw_1960 : decode code 1960 = .ok (.iconst 1, 1) := by decide +kernel
theorem d_lw_1961 : decode code 1961 = .ok (.iadd, 1) := by decide +kernel
theorem d_lw_1962 : decode code 1962 = .ok (.iaload, 1) := by decide +kernel
theorem d_lw_1963 : decode code 1963 = .ok (.invokevirtual 196, 3) := by decide +kernel
theorem d_lw_1966 : decode code 1966 = .ok (.pop, 1) := by decide +kernel
theorem d_lw_1967 : decode code 1967 = .ok (.aload_n 2, 1) := by decide +kernel
theorem d_lw_1968 : decode code 1968 = .ok (.aload_n 0, 1) := by decide +kernel
theorem d_lw_1969 : decode code 1969 = .ok (.iload 4, 2) := by decide +kernel
theorem d_lw_1971 : decode code 1971 = .ok (.iconst 1, 1) := by decide +kernel
theorem d_lw_1972 : decode code 1972 = .ok (.iadd, 1) := by decide +kernel
theorem d_lw_1973 : decode code 1973 = .ok (.iaload, 1) := by decide +kernel
theorem d_lw_1974 : decode code 1974 = .ok (.invokevirtual 199, 3) := by decide +kernel
theorem d_lw_1977 : decode code 1977 = .ok (.pop, 1) := by decide +kernel
theorem d_lw_1978 : decode code 1978 = .ok (.goto 214, 3) := by decide +kernel
theorem d_lw_1981 : decode code 1981 = .ok (.aload_n 1, 1) := by decide +kernel
theorem d_lw_1982 : decode code 1982 = .ok (.aload_n 0, 1) := by decide +kernel
theorem d_lw_1983 : decode code 1983 = .ok (.iload 4, 2) := by decide +kernel
theorem d_lw_1985 : decode code 1985 = .ok (.iconst 1, 1) := by decide +kernel
theorem d_lw_1986 : decode code 1986 = .ok (.iadd, 1) := by decide +kernel
theorem d_lw_1987 : decode code 1987 = .ok (.iaload, 1) := by decide +kernel
theorem d_lw_1988 : decode code 1988 = .ok (.aload_n 0, 1) := by decide +kernel
theorem d_lw_1989 : decode code 1989 = .ok (.iload 4, 2) := by decide +kernel
theorem d_lw_1991 : decode code 1991 = .ok (.iconst 2, 1) := by decide +kernel
theorem d_lw_1992 : decode code 1992 = .ok (.iadd, 1) := by decide +kernel
theorem d_lw_1993 : decode code 1993 = .ok (.iaload, 1) := by decide +kernel
theorem d_lw_1994 : decode code 1994 = .ok (.i2l, 1) := by decide +kernel
theorem d_lw_1995 : decode code 1995 = .ok (.bipush 32, 2) := by decide +kernel
theorem d_lw_1997 : decode code 1997 = .ok (.lshl, 1) := by decide +kernel
theorem d_lw_1998 : decode code 1998 = .ok (.aload_n 0, 1) := by decide +kernel
theorem d_lw_1999 : decode code 1999 = .ok (.iload 4, 2) := by decide +kernel
theorem d_lw_2001 : decode code 2001 = .ok (.iconst 3, 1) := by decide +kernel
theorem d_lw_2002 : decode code 2002 = .ok (.iadd, 1) := by decide +kernel
theorem d_lw_2003 : decode code 2003 = .ok (.iaload, 1) := by decide +kernel
theorem d_lw_2004 : decode code 2004 = .ok (.i2l, 1) := by decide +kernel
theorem d_lw_2005 : decode code 2005 = .ok (.ldc2_w 149, 3) := by decide +kernel
theorem d_lw_2008 : decode code 2008 = .ok (.land, 1) := by decide +kernel
theorem d_lw_2009 : decode code 2009 = .ok (.lor, 1) := by decide +kernel
theorem d_lw_2010 : decode code 2010 = .ok (.invokevirtual 200, 3) := by decide +kernel
theorem d_lw_2013 : decode code 2013 = .ok (.pop, 1) := by decide +kernel
theorem d_lw_2014 : decode code 2014 = .ok (.aload_n 2, 1) := by decide +kernel
theorem d_lw_2015 : decode code 2015 = .ok (.aload_n 0, 1) := by decide +kernel
theorem d_lw_2016 : decode code 2016 = .ok (.iload 4, 2) := by decide +kernel
theorem d_lw_2018 : decode code 2018 = .ok (.iconst 1, 1) := by decide +kernel
theorem d_lw_2019 : decode code 2019 = .ok (.iadd, 1) := by decide +kernel
theorem d_lw_2020 : decode code 2020 = .ok (.iaload, 1) := by decide +kernel
theorem d_lw_2021 : decode code 2021 = .ok (.aload_n 0, 1) := by decide +kernel
theorem d_lw_2022 : decode code 2022 = .ok (.iload 4, 2) := by decide +kernel
theorem d_lw_2024 : decode code 2024 = .ok (.iconst 2, 1) := by decide +kernel
theorem d_lw_2025 : decode code 2025 = .ok (.iadd, 1) := by decide +kernel
theorem d_lw_2026 : decode code 2026 = .ok (.iaload, 1) := by decide +kernel
theorem d_lw_2027 : decode code 2027 = .ok (.i2l, 1) := by decide +kernel
theorem d_lw_2028 : decode code 2028 = .ok (.bipush 32, 2) := by decide +kernel
theorem d_lw_2030 : decode code 2030 = .ok (.lshl, 1) := by decide +kernel
theorem d_lw_2031 : decode code 2031 = .ok (.aload_n 0, 1) := by decide +kernel
theorem d_lw_2032 : decode code 2032 = .ok (.iload 4, 2) := by decide +kernel
theorem d_lw_2034 : decode code 2034 = .ok (.iconst 3, 1) := by decide +kernel
theorem d_lw_2035 : decode code 2035 = .ok (.iadd, 1) := by decide +kernel
theorem d_lw_2036 : decode code 2036 = .ok (.iaload, 1) := by decide +kernel
theorem d_lw_2037 : decode code 2037 = .ok (.i2l, 1) := by decide +kernel
theorem d_lw_2038 : decode code 2038 = .ok (.ldc2_w 149, 3) := by decide +kernel
theorem d_lw_2041 : decode code 2041 = .ok (.land, 1) := by decide +kernel
theorem d_lw_2042 : decode code 2042 = .ok (.lor, 1) := by decide +kernel
theorem d_lw_2043 : decode code 2043 = .ok (.invokevirtual 203, 3) := by decide +kernel
theorem d_lw_2046 : decode code 2046 = .ok (.pop, 1) := by decide +kernel
theorem d_lw_2047 : decode code 2047 = .ok (.goto 145, 3) := by decide +kernel
theorem d_lw_2050 : decode code 2050 = .ok (.aload_n 1, 1) := by decide +kernel
theorem d_lw_2051 : decode code 2051 = .ok (.invokevirtual 204, 3) := by decide +kernel
theorem d_lw_2054 : decode code 2054 = .ok (.pop2, 1) := by decide +kernel
theorem d_lw_2055 : decode code 2055 = .ok (.aload_n 2, 1) := by decide +kernel
theorem d_lw_2056 : decode code 2056 = .ok (.invokevirtual 207, 3) := by decide +kernel
theorem d_lw_2059 : decode code 2059 = .ok (.pop2, 1) := by decide +kernel
theorem d_lw_2060 : decode code 2060 = .ok (.goto 132, 3) := by decide +kernel
theorem d_lw_2063 : decode code 2063 = .ok (.aload_n 1, 1) := by decide +kernel
theorem d_lw_2064 : decode code 2064 = .ok (.invokevirtual 208, 3) := by decide +kernel
theorem d_lw_2067 : decode code 2067 = .ok (.pop2, 1) := by decide +kernel
theorem d_lw_2068 : decode code 2068 = .ok (.aload_n 2, 1) := by decide +kernel
theorem d_lw_2069 : decode code 2069 = .ok (.invokevirtual 211, 3) := by decide +kernel
theorem d_lw_2072 : decode code 2072 = .ok (.pop2, 1) := by decide +kernel
theorem d_lw_2073 : decode code 2073 = .ok (.goto 119, 3) := by decide +kernel
theorem d_lw_2076 : decode code 2076 = .ok (.aload_n 1, 1) := by decide +kernel
theorem d_lw_2077 : decode code 2077 = .ok (.invokevirtual 212, 3) := by decide +kernel
theorem d_lw_2080 : decode code 2080 = .ok (.pop, 1) := by decide +kernel
theorem d_lw_2081 : decode code 2081 = .ok (.aload_n 2, 1) := by decide +kernel
theorem d_lw_2082 : decode code 2082 = .ok (.invokevirtual 215, 3) := by decide +kernel
theorem d_lw_2085 : decode code 2085 = .ok (.pop, 1) := by decide +kernel
theorem d_lw_2086 : decode code 2086 = .ok (.goto 106, 3) := by decide +kernel
theorem d_lw_2089 : decode code 2089 = .ok (.aload_n 1, 1) := by decide +kernel
theorem d_lw_2090 : decode code 2090 = .ok (.aload_n 0, 1) := by decide +kernel
theorem d_lw_2091 : decode code 2091 = .ok (.iload 4, 2) := by decide +kernel
theorem d_lw_2093 : decode code 2093 = .ok (.iconst 1, 1) := by decide +kernel
theorem d_lw_2094 : decode code 2094 = .ok (.iadd, 1) := by decide +kernel
theorem d_lw_2095 : decode code 2095 = .ok (.iaload, 1) := by decide +kernel
theorem d_lw_2096 : decode code 2096 = .ok (.invokevirtual 216, 3) := by decide +kernel
theorem d_lw_2099 : decode code 2099 = .ok (.pop, 1) := by decide +kernel
theorem d_lw_2100 : decode code 2100 = .ok (.aload_n 2, 1) := by decide +kernel
theorem d_lw_2101 : decode code 2101 = .ok (.aload_n 0, 1) := by decide +kernel
theorem d_lw_2102 : decode code 2102 = .ok (.iload 4, 2) := by decide +kernel
theorem d_lw_2104 : decode code 2104 = .ok (.iconst 1, 1) := by decide +kernel
theorem d_lw_2105 : decode code 2105 = .ok (.iadd, 1) := by decide +kernel
theorem d_lw_2106 : decode code 2106 = .ok (.iaload, 1) := by decide +kernel
theorem d_lw_2107 : decode code 2107 = .ok (.invokevirtual 219, 3) := by decide +kernel
theorem d_lw_2110 : decode code 2110 = .ok (.pop, 1) := by decide +kernel
theorem d_lw_2111 : decode code 2111 = .ok (.goto 81, 3) := by decide +kernel
theorem d_lw_2114 : decode code 2114 = .ok (.aload_n 1, 1) := by decide +kernel
theorem d_lw_2115 : decode code 2115 = .ok (.aload_n 0, 1) := by decide +kernel
theorem d_lw_2116 : decode code 2116 = .ok (.iload 4, 2) := by decide +kernel
theorem d_lw_2118 : decode code 2118 = .ok (.iconst 1, 1) := by decide +kernel
theorem d_lw_2119 : decode code 2119 = .ok (.iadd, 1) := by decide +kernel
theorem d_lw_2120 : decode code 2120 = .ok (.iaload, 1) := by decide +kernel
theorem d_lw_2121 : decode code 2121 = .ok (.invokevirtual 220, 3) := by decide +kernel
theorem d_lw_2124 : decode code 2124 = .ok (.pop, 1) := by decide +kernel
theorem d_lw_2125 : decode code 2125 = .ok (.aload_n 2, 1) := by decide +kernel
theorem d_lw_2126 : decode code 2126 = .ok (.aload_n 0, 1) := by decide +kernel
theorem d_lw_2127 : decode code 2127 = .ok (.iload 4, 2) := by decide +kernel
theorem d_lw_2129 : decode code 2129 = .ok (.iconst 1, 1) := by decide +kernel
theorem d_lw_2130 : decode code 2130 = .ok (.iadd, 1) := by decide +kernel
theorem d_lw_2131 : decode code 2131 = .ok (.iaload, 1) := by decide +kernel
theorem d_lw_2132 : decode code 2132 = .ok (.invokevirtual 223, 3) := by decide +kernel
theorem d_lw_2135 : decode code 2135 = .ok (.pop, 1) := by decide +kernel
theorem d_lw_2136 : decode code 2136 = .ok (.goto 56, 3) := by decide +kernel
theorem d_lw_2139 : decode code 2139 = .ok (.aload_n 1, 1) := by decide +kernel
theorem d_lw_2140 : decode code 2140 = .ok (.aload_n 0, 1) := by decide +kernel
theorem d_lw_2141 : decode code 2141 = .ok (.iload 4, 2) := by decide +kernel
theorem d_lw_2143 : decode code 2143 = .ok (.iconst 1, 1) := by decide +kernel
theorem d_lw_2144 : decode code 2144 = .ok (.iadd, 1) := by decide +kernel
theorem d_lw_2145 : decode code 2145 = .ok (.iaload, 1) := by decide +kernel
theorem d_lw_2146 : decode code 2146 = .ok (.invokevirtual 224, 3) := by decide +kernel
theorem d_lw_2149 : decode code 2149 = .ok (.pop, 1) := by decide +kernel
theorem d_lw_2150 : decode code 2150 = .ok (.aload_n 2, 1) := by decide +kernel
theorem d_lw_2151 : decode code 2151 = .ok (.aload_n 0, 1) := by decide +kernel
theorem d_lw_2152 : decode code 2152 = .ok (.iload 4, 2) := by decide +kernel
theorem d_lw_2154 : decode code 2154 = .ok (.iconst 1, 1) := by decide +kernel
theorem d_lw_2155 : decode code 2155 = .ok (.iadd, 1) := by decide +kernel
theorem d_lw_2156 : decode code 2156 = .ok (.iaload, 1) := by decide +kernel
theorem d_lw_2157 : decode code 2157 = .ok (.invokevirtual 227, 3) := by decide +kernel
theorem d_lw_2160 : decode code 2160 = .ok (.pop, 1) := by decide +kernel
theorem d_lw_2161 : decode code 2161 = .ok (.goto 31, 3) := by decide +kernel
theorem d_lw_2164 : decode code 2164 = .ok (.aload_n 1, 1) := by decide +kernel
theorem d_lw_2165 : decode code 2165 = .ok (.aload_n 0, 1) := by decide +kernel
theorem d_lw_2166 : decode code 2166 = .ok (.iload 4, 2) := by decide +kernel
theorem d_lw_2168 : decode code 2168 = .ok (.iconst 1, 1) := by decide +kernel
theorem d_lw_2169 : decode code 2169 = .ok (.iadd, 1) := by decide +kernel
theorem d_lw_2170 : decode code 2170 = .ok (.iaload, 1) := by decide +kernel
theorem d_lw_2171 : decode code 2171 = .ok (.aload_n 3, 1) := by decide +kernel
theorem d_lw_2172 : decode code 2172 = .ok (.invokestatic 228, 3) := by decide +kernel
theorem d_lw_2175 : decode code 2175 = .ok (.istore 5, 2) := by decide +kernel
theorem d_lw_2177 : decode code 2177 = .ok (.aload_n 2, 1) := by decide +kernel
theorem d_lw_2178 : decode code 2178 = .ok (.aload_n 0, 1) := by decide +kernel
theorem d_lw_2179 : decode code 2179 = .ok (.iload 4, 2) := by decide +kernel
theorem d_lw_2181 : decode code 2181 = .ok (.iconst 1, 1) := by decide +kernel
theorem d_lw_2182 : decode code 2182 = .ok (.iadd, 1) := by decide +kernel
theorem d_lw_2183 : decode code 2183 = .ok (.iaload, 1) := by decide +kernel
theorem d_lw_2184 : decode code 2184 = .ok (.invokevirtual 231, 3) := by decide +kernel
theorem d_lw_2187 : decode code 2187 = .ok (.lstore 6, 2) := by decide +kernel
theorem d_lw_2189 : decode code 2189 = .ok (.goto 3, 3) := by decide +kernel
theorem d_lw_2192 : decode code 2192 = .ok (.iinc 4 10, 3) := by decide +kernel
theorem d_lw_2195 : decode code 2195 = .ok (.goto (-2172), 3) := by decide +kernel
theorem d_lw_2198 : decode code 2198 = .ok (.iconst 1, 1) := by decide +kernel
theorem d_lw_2199 : decode code 2199 = .ok (.ireturn, 1) := by decide +kernel
