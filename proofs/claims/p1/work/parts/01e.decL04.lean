theorem ni_dL_law_1728 : decode cL_law 1728 = .ok (.iconst 2, 1) := by decide +kernel
theorem ni_dL_law_1729 : decode cL_law 1729 = .ok (.iadd, 1) := by decide +kernel
theorem ni_dL_law_1730 : decode cL_law 1730 = .ok (.iaload, 1) := by decide +kernel
theorem ni_dL_law_1731 : decode cL_law 1731 = .ok (.aload_n 3, 1) := by decide +kernel
theorem ni_dL_law_1732 : decode cL_law 1732 = .ok (.invokestatic 253, 3) := by decide +kernel
theorem ni_dL_law_1735 : decode cL_law 1735 = .ok (.istore 6, 2) := by decide +kernel
theorem ni_dL_law_1737 : decode cL_law 1737 = .ok (.aload_n 2, 1) := by decide +kernel
theorem ni_dL_law_1738 : decode cL_law 1738 = .ok (.aload_n 0, 1) := by decide +kernel
theorem ni_dL_law_1739 : decode cL_law 1739 = .ok (.iload 5, 2) := by decide +kernel
theorem ni_dL_law_1741 : decode cL_law 1741 = .ok (.iconst 1, 1) := by decide +kernel
theorem ni_dL_law_1742 : decode cL_law 1742 = .ok (.iadd, 1) := by decide +kernel
theorem ni_dL_law_1743 : decode cL_law 1743 = .ok (.iaload, 1) := by decide +kernel
theorem ni_dL_law_1744 : decode cL_law 1744 = .ok (.aload_n 0, 1) := by decide +kernel
theorem ni_dL_law_1745 : decode cL_law 1745 = .ok (.iload 5, 2) := by decide +kernel
theorem ni_dL_law_1747 : decode cL_law 1747 = .ok (.iconst 2, 1) := by decide +kernel
theorem ni_dL_law_1748 : decode cL_law 1748 = .ok (.iadd, 1) := by decide +kernel
theorem ni_dL_law_1749 : decode cL_law 1749 = .ok (.iaload, 1) := by decide +kernel
theorem ni_dL_law_1750 : decode cL_law 1750 = .ok (.invokevirtual 255, 3) := by decide +kernel
theorem ni_dL_law_1753 : decode cL_law 1753 = .ok (.istore 7, 2) := by decide +kernel
theorem ni_dL_law_1755 : decode cL_law 1755 = .ok (.aload_n 2, 1) := by decide +kernel
theorem ni_dL_law_1756 : decode cL_law 1756 = .ok (.invokevirtual 161, 3) := by decide +kernel
theorem ni_dL_law_1759 : decode cL_law 1759 = .ok (.iload 6, 2) := by decide +kernel
theorem ni_dL_law_1761 : decode cL_law 1761 = .ok (.if_icmp .eq 5, 3) := by decide +kernel
theorem ni_dL_law_1766 : decode cL_law 1766 = .ok (.iload 6, 2) := by decide +kernel
theorem ni_dL_law_1768 : decode cL_law 1768 = .ok (.ifCond .ne 15, 3) := by decide +kernel
theorem ni_dL_law_1783 : decode cL_law 1783 = .ok (.goto 1534, 3) := by decide +kernel
theorem ni_dL_law_1786 : decode cL_law 1786 = .ok (.aload_n 1, 1) := by decide +kernel
theorem ni_dL_law_1787 : decode cL_law 1787 = .ok (.aload_n 0, 1) := by decide +kernel
theorem ni_dL_law_1788 : decode cL_law 1788 = .ok (.iload 5, 2) := by decide +kernel
theorem ni_dL_law_1790 : decode cL_law 1790 = .ok (.iconst 1, 1) := by decide +kernel
theorem ni_dL_law_1791 : decode cL_law 1791 = .ok (.iadd, 1) := by decide +kernel
theorem ni_dL_law_1792 : decode cL_law 1792 = .ok (.iaload, 1) := by decide +kernel
theorem ni_dL_law_1793 : decode cL_law 1793 = .ok (.aload_n 3, 1) := by decide +kernel
theorem ni_dL_law_1794 : decode cL_law 1794 = .ok (.invokestatic 256, 3) := by decide +kernel
theorem ni_dL_law_1797 : decode cL_law 1797 = .ok (.istore 6, 2) := by decide +kernel
theorem ni_dL_law_1799 : decode cL_law 1799 = .ok (.aload_n 2, 1) := by decide +kernel
theorem ni_dL_law_1800 : decode cL_law 1800 = .ok (.aload_n 0, 1) := by decide +kernel
theorem ni_dL_law_1801 : decode cL_law 1801 = .ok (.iload 5, 2) := by decide +kernel
theorem ni_dL_law_1803 : decode cL_law 1803 = .ok (.iconst 1, 1) := by decide +kernel
theorem ni_dL_law_1804 : decode cL_law 1804 = .ok (.iadd, 1) := by decide +kernel
theorem ni_dL_law_1805 : decode cL_law 1805 = .ok (.iaload, 1) := by decide +kernel
theorem ni_dL_law_1806 : decode cL_law 1806 = .ok (.invokevirtual 258, 3) := by decide +kernel
theorem ni_dL_law_1809 : decode cL_law 1809 = .ok (.istore 7, 2) := by decide +kernel
theorem ni_dL_law_1811 : decode cL_law 1811 = .ok (.aload_n 2, 1) := by decide +kernel
theorem ni_dL_law_1812 : decode cL_law 1812 = .ok (.invokevirtual 161, 3) := by decide +kernel
theorem ni_dL_law_1815 : decode cL_law 1815 = .ok (.iload 6, 2) := by decide +kernel
theorem ni_dL_law_1817 : decode cL_law 1817 = .ok (.if_icmp .eq 5, 3) := by decide +kernel
theorem ni_dL_law_1822 : decode cL_law 1822 = .ok (.iload 6, 2) := by decide +kernel
theorem ni_dL_law_1824 : decode cL_law 1824 = .ok (.ifCond .ne 15, 3) := by decide +kernel
theorem ni_dL_law_1839 : decode cL_law 1839 = .ok (.goto 1478, 3) := by decide +kernel
theorem ni_dL_law_1842 : decode cL_law 1842 = .ok (.aload_n 1, 1) := by decide +kernel
theorem ni_dL_law_1843 : decode cL_law 1843 = .ok (.aload_n 0, 1) := by decide +kernel
theorem ni_dL_law_1844 : decode cL_law 1844 = .ok (.iload 5, 2) := by decide +kernel
theorem ni_dL_law_1846 : decode cL_law 1846 = .ok (.iconst 1, 1) := by decide +kernel
theorem ni_dL_law_1847 : decode cL_law 1847 = .ok (.iadd, 1) := by decide +kernel
theorem ni_dL_law_1848 : decode cL_law 1848 = .ok (.iaload, 1) := by decide +kernel
theorem ni_dL_law_1849 : decode cL_law 1849 = .ok (.aload_n 3, 1) := by decide +kernel
theorem ni_dL_law_1850 : decode cL_law 1850 = .ok (.invokestatic 259, 3) := by decide +kernel
theorem ni_dL_law_1853 : decode cL_law 1853 = .ok (.istore 6, 2) := by decide +kernel
theorem ni_dL_law_1855 : decode cL_law 1855 = .ok (.aload_n 2, 1) := by decide +kernel
theorem ni_dL_law_1856 : decode cL_law 1856 = .ok (.aload_n 0, 1) := by decide +kernel
theorem ni_dL_law_1857 : decode cL_law 1857 = .ok (.iload 5, 2) := by decide +kernel
theorem ni_dL_law_1859 : decode cL_law 1859 = .ok (.iconst 1, 1) := by decide +kernel
theorem ni_dL_law_1860 : decode cL_law 1860 = .ok (.iadd, 1) := by decide +kernel
theorem ni_dL_law_1861 : decode cL_law 1861 = .ok (.iaload, 1) := by decide +kernel
theorem ni_dL_law_1862 : decode cL_law 1862 = .ok (.invokevirtual 261, 3) := by decide +kernel
theorem ni_dL_law_1865 : decode cL_law 1865 = .ok (.istore 7, 2) := by decide +kernel
theorem ni_dL_law_1867 : decode cL_law 1867 = .ok (.aload_n 2, 1) := by decide +kernel
theorem ni_dL_law_1868 : decode cL_law 1868 = .ok (.invokevirtual 161, 3) := by decide +kernel
theorem ni_dL_law_1871 : decode cL_law 1871 = .ok (.iload 6, 2) := by decide +kernel
theorem ni_dL_law_1873 : decode cL_law 1873 = .ok (.if_icmp .eq 5, 3) := by decide +kernel
theorem ni_dL_law_1878 : decode cL_law 1878 = .ok (.iload 6, 2) := by decide +kernel
theorem ni_dL_law_1880 : decode cL_law 1880 = .ok (.ifCond .ne 15, 3) := by decide +kernel
theorem ni_dL_law_1895 : decode cL_law 1895 = .ok (.goto 1422, 3) := by decide +kernel
theorem ni_dL_law_1898 : decode cL_law 1898 = .ok (.aload_n 1, 1) := by decide +kernel
theorem ni_dL_law_1899 : decode cL_law 1899 = .ok (.aload_n 0, 1) := by decide +kernel
theorem ni_dL_law_1900 : decode cL_law 1900 = .ok (.iload 5, 2) := by decide +kernel
theorem ni_dL_law_1902 : decode cL_law 1902 = .ok (.iconst 1, 1) := by decide +kernel
theorem ni_dL_law_1903 : decode cL_law 1903 = .ok (.iadd, 1) := by decide +kernel
theorem ni_dL_law_1904 : decode cL_law 1904 = .ok (.iaload, 1) := by decide +kernel
theorem ni_dL_law_1905 : decode cL_law 1905 = .ok (.aload_n 3, 1) := by decide +kernel
theorem ni_dL_law_1906 : decode cL_law 1906 = .ok (.invokestatic 262, 3) := by decide +kernel
theorem ni_dL_law_1909 : decode cL_law 1909 = .ok (.istore 6, 2) := by decide +kernel
theorem ni_dL_law_1911 : decode cL_law 1911 = .ok (.aload_n 2, 1) := by decide +kernel
theorem ni_dL_law_1912 : decode cL_law 1912 = .ok (.aload_n 0, 1) := by decide +kernel
theorem ni_dL_law_1913 : decode cL_law 1913 = .ok (.iload 5, 2) := by decide +kernel
theorem ni_dL_law_1915 : decode cL_law 1915 = .ok (.iconst 1, 1) := by decide +kernel
theorem ni_dL_law_1916 : decode cL_law 1916 = .ok (.iadd, 1) := by decide +kernel
theorem ni_dL_law_1917 : decode cL_law 1917 = .ok (.iaload, 1) := by decide +kernel
theorem ni_dL_law_1918 : decode cL_law 1918 = .ok (.invokevirtual 264, 3) := by decide +kernel
theorem ni_dL_law_1921 : decode cL_law 1921 = .ok (.istore 7, 2) := by decide +kernel
theorem ni_dL_law_1923 : decode cL_law 1923 = .ok (.aload_n 2, 1) := by decide +kernel
theorem ni_dL_law_1924 : decode cL_law 1924 = .ok (.invokevirtual 161, 3) := by decide +kernel
theorem ni_dL_law_1927 : decode cL_law 1927 = .ok (.iload 6, 2) := by decide +kernel
theorem ni_dL_law_1929 : decode cL_law 1929 = .ok (.if_icmp .eq 5, 3) := by decide +kernel
theorem ni_dL_law_1934 : decode cL_law 1934 = .ok (.iload 6, 2) := by decide +kernel
theorem ni_dL_law_1936 : decode cL_law 1936 = .ok (.ifCond .ne 15, 3) := by decide +kernel
theorem ni_dL_law_1951 : decode cL_law 1951 = .ok (.goto 1366, 3) := by decide +kernel
theorem ni_dL_law_1954 : decode cL_law 1954 = .ok (.aload_n 1, 1) := by decide +kernel
theorem ni_dL_law_1955 : decode cL_law 1955 = .ok (.aload_n 0, 1) := by decide +kernel
theorem ni_dL_law_1956 : decode cL_law 1956 = .ok (.iload 5, 2) := by decide +kernel
theorem ni_dL_law_1958 : decode cL_law 1958 = .ok (.iconst 1, 1) := by decide +kernel
theorem ni_dL_law_1959 : decode cL_law 1959 = .ok (.iadd, 1) := by decide +kernel
theorem ni_dL_law_1960 : decode cL_law 1960 = .ok (.iaload, 1) := by decide +kernel
theorem ni_dL_law_1961 : decode cL_law 1961 = .ok (.aload_n 0, 1) := by decide +kernel
theorem ni_dL_law_1962 : decode cL_law 1962 = .ok (.iload 5, 2) := by decide +kernel
theorem ni_dL_law_1964 : decode cL_law 1964 = .ok (.iconst 2, 1) := by decide +kernel
theorem ni_dL_law_1965 : decode cL_law 1965 = .ok (.iadd, 1) := by decide +kernel
theorem ni_dL_law_1966 : decode cL_law 1966 = .ok (.iaload, 1) := by decide +kernel
theorem ni_dL_law_1967 : decode cL_law 1967 = .ok (.aload_n 3, 1) := by decide +kernel
theorem ni_dL_law_1968 : decode cL_law 1968 = .ok (.invokestatic 265, 3) := by decide +kernel
theorem ni_dL_law_1971 : decode cL_law 1971 = .ok (.istore 6, 2) := by decide +kernel
theorem ni_dL_law_1973 : decode cL_law 1973 = .ok (.aload_n 2, 1) := by decide +kernel
theorem ni_dL_law_1974 : decode cL_law 1974 = .ok (.aload_n 0, 1) := by decide +kernel
theorem ni_dL_law_1975 : decode cL_law 1975 = .ok (.iload 5, 2) := by decide +kernel
theorem ni_dL_law_1977 : decode cL_law 1977 = .ok (.iconst 1, 1) := by decide +kernel
theorem ni_dL_law_1978 : decode cL_law 1978 = .ok (.iadd, 1) := by decide +kernel
theorem ni_dL_law_1979 : decode cL_law 1979 = .ok (.iaload, 1) := by decide +kernel
theorem ni_dL_law_1980 : decode cL_law 1980 = .ok (.aload_n 0, 1) := by decide +kernel
theorem ni_dL_law_1981 : decode cL_law 1981 = .ok (.iload 5, 2) := by decide +kernel
theorem ni_dL_law_1983 : decode cL_law 1983 = .ok (.iconst 2, 1) := by decide +kernel
theorem ni_dL_law_1984 : decode cL_law 1984 = .ok (.iadd, 1) := by decide +kernel
theorem ni_dL_law_1985 : decode cL_law 1985 = .ok (.iaload, 1) := by decide +kernel
theorem ni_dL_law_1986 : decode cL_law 1986 = .ok (.invokevirtual 267, 3) := by decide +kernel
theorem ni_dL_law_1989 : decode cL_law 1989 = .ok (.istore 7, 2) := by decide +kernel
theorem ni_dL_law_1991 : decode cL_law 1991 = .ok (.aload_n 2, 1) := by decide +kernel
theorem ni_dL_law_1992 : decode cL_law 1992 = .ok (.invokevirtual 161, 3) := by decide +kernel
theorem ni_dL_law_1995 : decode cL_law 1995 = .ok (.iload 6, 2) := by decide +kernel
theorem ni_dL_law_1997 : decode cL_law 1997 = .ok (.if_icmp .eq 5, 3) := by decide +kernel
theorem ni_dL_law_2002 : decode cL_law 2002 = .ok (.iload 6, 2) := by decide +kernel
theorem ni_dL_law_2004 : decode cL_law 2004 = .ok (.ifCond .ne 15, 3) := by decide +kernel
theorem ni_dL_law_2019 : decode cL_law 2019 = .ok (.goto 1298, 3) := by decide +kernel
theorem ni_dL_law_2022 : decode cL_law 2022 = .ok (.aload_n 1, 1) := by decide +kernel
theorem ni_dL_law_2023 : decode cL_law 2023 = .ok (.aload_n 0, 1) := by decide +kernel
theorem ni_dL_law_2024 : decode cL_law 2024 = .ok (.iload 5, 2) := by decide +kernel
theorem ni_dL_law_2026 : decode cL_law 2026 = .ok (.iconst 1, 1) := by decide +kernel
theorem ni_dL_law_2027 : decode cL_law 2027 = .ok (.iadd, 1) := by decide +kernel
theorem ni_dL_law_2028 : decode cL_law 2028 = .ok (.iaload, 1) := by decide +kernel
theorem ni_dL_law_2029 : decode cL_law 2029 = .ok (.aload_n 0, 1) := by decide +kernel
theorem ni_dL_law_2030 : decode cL_law 2030 = .ok (.iload 5, 2) := by decide +kernel
theorem ni_dL_law_2032 : decode cL_law 2032 = .ok (.iconst 2, 1) := by decide +kernel
theorem ni_dL_law_2033 : decode cL_law 2033 = .ok (.iadd, 1) := by decide +kernel
theorem ni_dL_law_2034 : decode cL_law 2034 = .ok (.iaload, 1) := by decide +kernel
theorem ni_dL_law_2035 : decode cL_law 2035 = .ok (.aload_n 3, 1) := by decide +kernel
theorem ni_dL_law_2036 : decode cL_law 2036 = .ok (.invokestatic 268, 3) := by decide +kernel
theorem ni_dL_law_2039 : decode cL_law 2039 = .ok (.istore 6, 2) := by decide +kernel
theorem ni_dL_law_2041 : decode cL_law 2041 = .ok (.aload_n 2, 1) := by decide +kernel
theorem ni_dL_law_2042 : decode cL_law 2042 = .ok (.aload_n 0, 1) := by decide +kernel
theorem ni_dL_law_2043 : decode cL_law 2043 = .ok (.iload 5, 2) := by decide +kernel
theorem ni_dL_law_2045 : decode cL_law 2045 = .ok (.iconst 1, 1) := by decide +kernel
theorem ni_dL_law_2046 : decode cL_law 2046 = .ok (.iadd, 1) := by decide +kernel
theorem ni_dL_law_2047 : decode cL_law 2047 = .ok (.iaload, 1) := by decide +kernel
theorem ni_dL_law_2048 : decode cL_law 2048 = .ok (.aload_n 0, 1) := by decide +kernel
theorem ni_dL_law_2049 : decode cL_law 2049 = .ok (.iload 5, 2) := by decide +kernel
theorem ni_dL_law_2051 : decode cL_law 2051 = .ok (.iconst 2, 1) := by decide +kernel
theorem ni_dL_law_2052 : decode cL_law 2052 = .ok (.iadd, 1) := by decide +kernel
theorem ni_dL_law_2053 : decode cL_law 2053 = .ok (.iaload, 1) := by decide +kernel
theorem ni_dL_law_2054 : decode cL_law 2054 = .ok (.invokevirtual 270, 3) := by decide +kernel
theorem ni_dL_law_2057 : decode cL_law 2057 = .ok (.istore 7, 2) := by decide +kernel
theorem ni_dL_law_2059 : decode cL_law 2059 = .ok (.aload_n 2, 1) := by decide +kernel
theorem ni_dL_law_2060 : decode cL_law 2060 = .ok (.invokevirtual 161, 3) := by decide +kernel
theorem ni_dL_law_2063 : decode cL_law 2063 = .ok (.iload 6, 2) := by decide +kernel
theorem ni_dL_law_2065 : decode cL_law 2065 = .ok (.if_icmp .eq 5, 3) := by decide +kernel
theorem ni_dL_law_2070 : decode cL_law 2070 = .ok (.iload 6, 2) := by decide +kernel
theorem ni_dL_law_2072 : decode cL_law 2072 = .ok (.ifCond .ne 15, 3) := by decide +kernel
theorem ni_dL_law_2087 : decode cL_law 2087 = .ok (.goto 1230, 3) := by decide +kernel
theorem ni_dL_law_2090 : decode cL_law 2090 = .ok (.aload_n 1, 1) := by decide +kernel
theorem ni_dL_law_2091 : decode cL_law 2091 = .ok (.aload_n 0, 1) := by decide +kernel
theorem ni_dL_law_2092 : decode cL_law 2092 = .ok (.iload 5, 2) := by decide +kernel
theorem ni_dL_law_2094 : decode cL_law 2094 = .ok (.iconst 1, 1) := by decide +kernel
theorem ni_dL_law_2095 : decode cL_law 2095 = .ok (.iadd, 1) := by decide +kernel
theorem ni_dL_law_2096 : decode cL_law 2096 = .ok (.iaload, 1) := by decide +kernel
theorem ni_dL_law_2097 : decode cL_law 2097 = .ok (.aload_n 0, 1) := by decide +kernel
theorem ni_dL_law_2098 : decode cL_law 2098 = .ok (.iload 5, 2) := by decide +kernel
theorem ni_dL_law_2100 : decode cL_law 2100 = .ok (.iconst 2, 1) := by decide +kernel
theorem ni_dL_law_2101 : decode cL_law 2101 = .ok (.iadd, 1) := by decide +kernel
theorem ni_dL_law_2102 : decode cL_law 2102 = .ok (.iaload, 1) := by decide +kernel
theorem ni_dL_law_2103 : decode cL_law 2103 = .ok (.aload_n 3, 1) := by decide +kernel
theorem ni_dL_law_2104 : decode cL_law 2104 = .ok (.invokestatic 271, 3) := by decide +kernel
theorem ni_dL_law_2107 : decode cL_law 2107 = .ok (.istore 6, 2) := by decide +kernel
theorem ni_dL_law_2109 : decode cL_law 2109 = .ok (.aload_n 2, 1) := by decide +kernel
theorem ni_dL_law_2110 : decode cL_law 2110 = .ok (.aload_n 0, 1) := by decide +kernel
theorem ni_dL_law_2111 : decode cL_law 2111 = .ok (.iload 5, 2) := by decide +kernel
theorem ni_dL_law_2113 : decode cL_law 2113 = .ok (.iconst 1, 1) := by decide +kernel
theorem ni_dL_law_2114 : decode cL_law 2114 = .ok (.iadd, 1) := by decide +kernel
theorem ni_dL_law_2115 : decode cL_law 2115 = .ok (.iaload, 1) := by decide +kernel
theorem ni_dL_law_2116 : decode cL_law 2116 = .ok (.aload_n 0, 1) := by decide +kernel
theorem ni_dL_law_2117 : decode cL_law 2117 = .ok (.iload 5, 2) := by decide +kernel
theorem ni_dL_law_2119 : decode cL_law 2119 = .ok (.iconst 2, 1) := by decide +kernel
theorem ni_dL_law_2120 : decode cL_law 2120 = .ok (.iadd, 1) := by decide +kernel
theorem ni_dL_law_2121 : decode cL_law 2121 = .ok (.iaload, 1) := by decide +kernel
theorem ni_dL_law_2122 : decode cL_law 2122 = .ok (.invokevirtual 273, 3) := by decide +kernel
theorem ni_dL_law_2125 : decode cL_law 2125 = .ok (.istore 7, 2) := by decide +kernel
theorem ni_dL_law_2127 : decode cL_law 2127 = .ok (.aload_n 2, 1) := by decide +kernel
theorem ni_dL_law_2128 : decode cL_law 2128 = .ok (.invokevirtual 161, 3) := by decide +kernel
theorem ni_dL_law_2131 : decode cL_law 2131 = .ok (.iload 6, 2) := by decide +kernel
theorem ni_dL_law_2133 : decode cL_law 2133 = .ok (.if_icmp .eq 5, 3) := by decide +kernel
theorem ni_dL_law_2138 : decode cL_law 2138 = .ok (.iload 6, 2) := by decide +kernel
theorem ni_dL_law_2140 : decode cL_law 2140 = .ok (.ifCond .ne 15, 3) := by decide +kernel
theorem ni_dL_law_2155 : decode cL_law 2155 = .ok (.goto 1162, 3) := by decide +kernel
