theorem dL_law_1747 : decode cL_law 1747 = .ok (.aload_n 1, 1) := by decide +kernel
theorem dL_law_1748 : decode cL_law 1748 = .ok (.aload_n 0, 1) := by decide +kernel
theorem dL_law_1749 : decode cL_law 1749 = .ok (.iload 4, 2) := by decide +kernel
theorem dL_law_1751 : decode cL_law 1751 = .ok (.iconst 1, 1) := by decide +kernel
theorem dL_law_1752 : decode cL_law 1752 = .ok (.iadd, 1) := by decide +kernel
theorem dL_law_1753 : decode cL_law 1753 = .ok (.iaload, 1) := by decide +kernel
theorem dL_law_1754 : decode cL_law 1754 = .ok (.aload_n 0, 1) := by decide +kernel
theorem dL_law_1755 : decode cL_law 1755 = .ok (.iload 4, 2) := by decide +kernel
theorem dL_law_1757 : decode cL_law 1757 = .ok (.iconst 2, 1) := by decide +kernel
theorem dL_law_1758 : decode cL_law 1758 = .ok (.iadd, 1) := by decide +kernel
theorem dL_law_1759 : decode cL_law 1759 = .ok (.iaload, 1) := by decide +kernel
theorem dL_law_1760 : decode cL_law 1760 = .ok (.aload_n 0, 1) := by decide +kernel
theorem dL_law_1761 : decode cL_law 1761 = .ok (.iload 4, 2) := by decide +kernel
theorem dL_law_1763 : decode cL_law 1763 = .ok (.iconst 3, 1) := by decide +kernel
theorem dL_law_1764 : decode cL_law 1764 = .ok (.iadd, 1) := by decide +kernel
theorem dL_law_1765 : decode cL_law 1765 = .ok (.iaload, 1) := by decide +kernel
theorem dL_law_1766 : decode cL_law 1766 = .ok (.ifCond .eq 7, 3) := by decide +kernel
theorem dL_law_1769 : decode cL_law 1769 = .ok (.iconst 1, 1) := by decide +kernel
theorem dL_law_1770 : decode cL_law 1770 = .ok (.goto 4, 3) := by decide +kernel
theorem dL_law_1773 : decode cL_law 1773 = .ok (.iconst 0, 1) := by decide +kernel
theorem dL_law_1774 : decode cL_law 1774 = .ok (.aload_n 3, 1) := by decide +kernel
theorem dL_law_1775 : decode cL_law 1775 = .ok (.invokestatic 205, 3) := by decide +kernel
theorem dL_law_1778 : decode cL_law 1778 = .ok (.istore 5, 2) := by decide +kernel
theorem dL_law_1780 : decode cL_law 1780 = .ok (.aload_n 2, 1) := by decide +kernel
theorem dL_law_1781 : decode cL_law 1781 = .ok (.aload_n 0, 1) := by decide +kernel
theorem dL_law_1782 : decode cL_law 1782 = .ok (.iload 4, 2) := by decide +kernel
theorem dL_law_1784 : decode cL_law 1784 = .ok (.iconst 1, 1) := by decide +kernel
theorem dL_law_1785 : decode cL_law 1785 = .ok (.iadd, 1) := by decide +kernel
theorem dL_law_1786 : decode cL_law 1786 = .ok (.iaload, 1) := by decide +kernel
theorem dL_law_1787 : decode cL_law 1787 = .ok (.aload_n 0, 1) := by decide +kernel
theorem dL_law_1788 : decode cL_law 1788 = .ok (.iload 4, 2) := by decide +kernel
theorem dL_law_1790 : decode cL_law 1790 = .ok (.iconst 2, 1) := by decide +kernel
theorem dL_law_1791 : decode cL_law 1791 = .ok (.iadd, 1) := by decide +kernel
theorem dL_law_1792 : decode cL_law 1792 = .ok (.iaload, 1) := by decide +kernel
theorem dL_law_1793 : decode cL_law 1793 = .ok (.aload_n 0, 1) := by decide +kernel
theorem dL_law_1794 : decode cL_law 1794 = .ok (.iload 4, 2) := by decide +kernel
theorem dL_law_1796 : decode cL_law 1796 = .ok (.iconst 3, 1) := by decide +kernel
theorem dL_law_1797 : decode cL_law 1797 = .ok (.iadd, 1) := by decide +kernel
theorem dL_law_1798 : decode cL_law 1798 = .ok (.iaload, 1) := by decide +kernel
theorem dL_law_1799 : decode cL_law 1799 = .ok (.ifCond .eq 7, 3) := by decide +kernel
theorem dL_law_1802 : decode cL_law 1802 = .ok (.iconst 1, 1) := by decide +kernel
theorem dL_law_1803 : decode cL_law 1803 = .ok (.goto 4, 3) := by decide +kernel
theorem dL_law_1806 : decode cL_law 1806 = .ok (.iconst 0, 1) := by decide +kernel
theorem dL_law_1807 : decode cL_law 1807 = .ok (.invokevirtual 207, 3) := by decide +kernel
theorem dL_law_1810 : decode cL_law 1810 = .ok (.istore 6, 2) := by decide +kernel
theorem dL_law_1812 : decode cL_law 1812 = .ok (.aload_n 2, 1) := by decide +kernel
theorem dL_law_1813 : decode cL_law 1813 = .ok (.invokevirtual 126, 3) := by decide +kernel
theorem dL_law_1816 : decode cL_law 1816 = .ok (.iload 5, 2) := by decide +kernel
theorem dL_law_1818 : decode cL_law 1818 = .ok (.if_icmp .eq 5, 3) := by decide +kernel
theorem dL_law_1823 : decode cL_law 1823 = .ok (.iload 5, 2) := by decide +kernel
theorem dL_law_1825 : decode cL_law 1825 = .ok (.ifCond .ne 15, 3) := by decide +kernel
theorem dL_law_1828 : decode cL_law 1828 = .ok (.aload_n 3, 1) := by decide +kernel
theorem dL_law_1829 : decode cL_law 1829 = .ok (.iconst 0, 1) := by decide +kernel
theorem dL_law_1830 : decode cL_law 1830 = .ok (.laload, 1) := by decide +kernel
theorem dL_law_1831 : decode cL_law 1831 = .ok (.iload 6, 2) := by decide +kernel
theorem dL_law_1833 : decode cL_law 1833 = .ok (.i2l, 1) := by decide +kernel
theorem dL_law_1834 : decode cL_law 1834 = .ok (.lcmp, 1) := by decide +kernel
theorem dL_law_1835 : decode cL_law 1835 = .ok (.ifCond .eq 5, 3) := by decide +kernel
theorem dL_law_1840 : decode cL_law 1840 = .ok (.goto 694, 3) := by decide +kernel
theorem dL_law_1843 : decode cL_law 1843 = .ok (.aload_n 1, 1) := by decide +kernel
theorem dL_law_1844 : decode cL_law 1844 = .ok (.aload_n 0, 1) := by decide +kernel
theorem dL_law_1845 : decode cL_law 1845 = .ok (.iload 4, 2) := by decide +kernel
theorem dL_law_1847 : decode cL_law 1847 = .ok (.iconst 1, 1) := by decide +kernel
theorem dL_law_1848 : decode cL_law 1848 = .ok (.iadd, 1) := by decide +kernel
theorem dL_law_1849 : decode cL_law 1849 = .ok (.iaload, 1) := by decide +kernel
theorem dL_law_1850 : decode cL_law 1850 = .ok (.aload_n 0, 1) := by decide +kernel
theorem dL_law_1851 : decode cL_law 1851 = .ok (.iload 4, 2) := by decide +kernel
theorem dL_law_1853 : decode cL_law 1853 = .ok (.iconst 2, 1) := by decide +kernel
theorem dL_law_1854 : decode cL_law 1854 = .ok (.iadd, 1) := by decide +kernel
theorem dL_law_1855 : decode cL_law 1855 = .ok (.iaload, 1) := by decide +kernel
theorem dL_law_1856 : decode cL_law 1856 = .ok (.aload_n 0, 1) := by decide +kernel
theorem dL_law_1857 : decode cL_law 1857 = .ok (.iload 4, 2) := by decide +kernel
theorem dL_law_1859 : decode cL_law 1859 = .ok (.iconst 3, 1) := by decide +kernel
theorem dL_law_1860 : decode cL_law 1860 = .ok (.iadd, 1) := by decide +kernel
theorem dL_law_1861 : decode cL_law 1861 = .ok (.iaload, 1) := by decide +kernel
theorem dL_law_1862 : decode cL_law 1862 = .ok (.aload_n 3, 1) := by decide +kernel
theorem dL_law_1863 : decode cL_law 1863 = .ok (.invokestatic 208, 3) := by decide +kernel
theorem dL_law_1866 : decode cL_law 1866 = .ok (.istore 5, 2) := by decide +kernel
theorem dL_law_1868 : decode cL_law 1868 = .ok (.aload_n 2, 1) := by decide +kernel
theorem dL_law_1869 : decode cL_law 1869 = .ok (.aload_n 0, 1) := by decide +kernel
theorem dL_law_1870 : decode cL_law 1870 = .ok (.iload 4, 2) := by decide +kernel
theorem dL_law_1872 : decode cL_law 1872 = .ok (.iconst 1, 1) := by decide +kernel
theorem dL_law_1873 : decode cL_law 1873 = .ok (.iadd, 1) := by decide +kernel
theorem dL_law_1874 : decode cL_law 1874 = .ok (.iaload, 1) := by decide +kernel
theorem dL_law_1875 : decode cL_law 1875 = .ok (.aload_n 0, 1) := by decide +kernel
theorem dL_law_1876 : decode cL_law 1876 = .ok (.iload 4, 2) := by decide +kernel
theorem dL_law_1878 : decode cL_law 1878 = .ok (.iconst 2, 1) := by decide +kernel
theorem dL_law_1879 : decode cL_law 1879 = .ok (.iadd, 1) := by decide +kernel
theorem dL_law_1880 : decode cL_law 1880 = .ok (.iaload, 1) := by decide +kernel
theorem dL_law_1881 : decode cL_law 1881 = .ok (.aload_n 0, 1) := by decide +kernel
theorem dL_law_1882 : decode cL_law 1882 = .ok (.iload 4, 2) := by decide +kernel
theorem dL_law_1884 : decode cL_law 1884 = .ok (.iconst 3, 1) := by decide +kernel
theorem dL_law_1885 : decode cL_law 1885 = .ok (.iadd, 1) := by decide +kernel
theorem dL_law_1886 : decode cL_law 1886 = .ok (.iaload, 1) := by decide +kernel
theorem dL_law_1887 : decode cL_law 1887 = .ok (.invokevirtual 210, 3) := by decide +kernel
theorem dL_law_1890 : decode cL_law 1890 = .ok (.istore 6, 2) := by decide +kernel
theorem dL_law_1892 : decode cL_law 1892 = .ok (.aload_n 2, 1) := by decide +kernel
theorem dL_law_1893 : decode cL_law 1893 = .ok (.invokevirtual 126, 3) := by decide +kernel
theorem dL_law_1896 : decode cL_law 1896 = .ok (.iload 5, 2) := by decide +kernel
theorem dL_law_1898 : decode cL_law 1898 = .ok (.if_icmp .eq 5, 3) := by decide +kernel
theorem dL_law_1903 : decode cL_law 1903 = .ok (.iload 5, 2) := by decide +kernel
theorem dL_law_1905 : decode cL_law 1905 = .ok (.ifCond .ne 15, 3) := by decide +kernel
theorem dL_law_1908 : decode cL_law 1908 = .ok (.aload_n 3, 1) := by decide +kernel
theorem dL_law_1909 : decode cL_law 1909 = .ok (.iconst 0, 1) := by decide +kernel
theorem dL_law_1910 : decode cL_law 1910 = .ok (.laload, 1) := by decide +kernel
theorem dL_law_1911 : decode cL_law 1911 = .ok (.iload 6, 2) := by decide +kernel
theorem dL_law_1913 : decode cL_law 1913 = .ok (.i2l, 1) := by decide +kernel
theorem dL_law_1914 : decode cL_law 1914 = .ok (.lcmp, 1) := by decide +kernel
theorem dL_law_1915 : decode cL_law 1915 = .ok (.ifCond .eq 5, 3) := by decide +kernel
theorem dL_law_1920 : decode cL_law 1920 = .ok (.goto 614, 3) := by decide +kernel
theorem dL_law_1923 : decode cL_law 1923 = .ok (.aload_n 1, 1) := by decide +kernel
theorem dL_law_1924 : decode cL_law 1924 = .ok (.aload_n 0, 1) := by decide +kernel
theorem dL_law_1925 : decode cL_law 1925 = .ok (.iload 4, 2) := by decide +kernel
theorem dL_law_1927 : decode cL_law 1927 = .ok (.iconst 1, 1) := by decide +kernel
theorem dL_law_1928 : decode cL_law 1928 = .ok (.iadd, 1) := by decide +kernel
theorem dL_law_1929 : decode cL_law 1929 = .ok (.iaload, 1) := by decide +kernel
theorem dL_law_1930 : decode cL_law 1930 = .ok (.aload_n 3, 1) := by decide +kernel
theorem dL_law_1931 : decode cL_law 1931 = .ok (.invokestatic 211, 3) := by decide +kernel
theorem dL_law_1934 : decode cL_law 1934 = .ok (.istore 5, 2) := by decide +kernel
theorem dL_law_1936 : decode cL_law 1936 = .ok (.aload_n 2, 1) := by decide +kernel
theorem dL_law_1937 : decode cL_law 1937 = .ok (.aload_n 0, 1) := by decide +kernel
theorem dL_law_1938 : decode cL_law 1938 = .ok (.iload 4, 2) := by decide +kernel
theorem dL_law_1940 : decode cL_law 1940 = .ok (.iconst 1, 1) := by decide +kernel
theorem dL_law_1941 : decode cL_law 1941 = .ok (.iadd, 1) := by decide +kernel
theorem dL_law_1942 : decode cL_law 1942 = .ok (.iaload, 1) := by decide +kernel
theorem dL_law_1943 : decode cL_law 1943 = .ok (.invokevirtual 213, 3) := by decide +kernel
theorem dL_law_1946 : decode cL_law 1946 = .ok (.lstore 6, 2) := by decide +kernel
theorem dL_law_1948 : decode cL_law 1948 = .ok (.aload_n 2, 1) := by decide +kernel
theorem dL_law_1949 : decode cL_law 1949 = .ok (.invokevirtual 126, 3) := by decide +kernel
theorem dL_law_1952 : decode cL_law 1952 = .ok (.iload 5, 2) := by decide +kernel
theorem dL_law_1954 : decode cL_law 1954 = .ok (.if_icmp .eq 5, 3) := by decide +kernel
theorem dL_law_1959 : decode cL_law 1959 = .ok (.iload 5, 2) := by decide +kernel
theorem dL_law_1961 : decode cL_law 1961 = .ok (.ifCond .ne 14, 3) := by decide +kernel
theorem dL_law_1964 : decode cL_law 1964 = .ok (.aload_n 3, 1) := by decide +kernel
theorem dL_law_1965 : decode cL_law 1965 = .ok (.iconst 0, 1) := by decide +kernel
theorem dL_law_1966 : decode cL_law 1966 = .ok (.laload, 1) := by decide +kernel
theorem dL_law_1967 : decode cL_law 1967 = .ok (.lload 6, 2) := by decide +kernel
theorem dL_law_1969 : decode cL_law 1969 = .ok (.lcmp, 1) := by decide +kernel
theorem dL_law_1970 : decode cL_law 1970 = .ok (.ifCond .eq 5, 3) := by decide +kernel
theorem dL_law_1975 : decode cL_law 1975 = .ok (.goto 559, 3) := by decide +kernel
theorem dL_law_1978 : decode cL_law 1978 = .ok (.aload_n 1, 1) := by decide +kernel
theorem dL_law_1979 : decode cL_law 1979 = .ok (.aload_n 0, 1) := by decide +kernel
theorem dL_law_1980 : decode cL_law 1980 = .ok (.iload 4, 2) := by decide +kernel
theorem dL_law_1982 : decode cL_law 1982 = .ok (.iconst 1, 1) := by decide +kernel
theorem dL_law_1983 : decode cL_law 1983 = .ok (.iadd, 1) := by decide +kernel
theorem dL_law_1984 : decode cL_law 1984 = .ok (.iaload, 1) := by decide +kernel
theorem dL_law_1985 : decode cL_law 1985 = .ok (.aload_n 0, 1) := by decide +kernel
theorem dL_law_1986 : decode cL_law 1986 = .ok (.iload 4, 2) := by decide +kernel
theorem dL_law_1988 : decode cL_law 1988 = .ok (.iconst 2, 1) := by decide +kernel
theorem dL_law_1989 : decode cL_law 1989 = .ok (.iadd, 1) := by decide +kernel
theorem dL_law_1990 : decode cL_law 1990 = .ok (.iaload, 1) := by decide +kernel
theorem dL_law_1991 : decode cL_law 1991 = .ok (.aload_n 3, 1) := by decide +kernel
theorem dL_law_1992 : decode cL_law 1992 = .ok (.invokestatic 214, 3) := by decide +kernel
theorem dL_law_1995 : decode cL_law 1995 = .ok (.istore 5, 2) := by decide +kernel
theorem dL_law_1997 : decode cL_law 1997 = .ok (.aload_n 2, 1) := by decide +kernel
theorem dL_law_1998 : decode cL_law 1998 = .ok (.aload_n 0, 1) := by decide +kernel
theorem dL_law_1999 : decode cL_law 1999 = .ok (.iload 4, 2) := by decide +kernel
theorem dL_law_2001 : decode cL_law 2001 = .ok (.iconst 1, 1) := by decide +kernel
theorem dL_law_2002 : decode cL_law 2002 = .ok (.iadd, 1) := by decide +kernel
theorem dL_law_2003 : decode cL_law 2003 = .ok (.iaload, 1) := by decide +kernel
theorem dL_law_2004 : decode cL_law 2004 = .ok (.aload_n 0, 1) := by decide +kernel
theorem dL_law_2005 : decode cL_law 2005 = .ok (.iload 4, 2) := by decide +kernel
theorem dL_law_2007 : decode cL_law 2007 = .ok (.iconst 2, 1) := by decide +kernel
theorem dL_law_2008 : decode cL_law 2008 = .ok (.iadd, 1) := by decide +kernel
theorem dL_law_2009 : decode cL_law 2009 = .ok (.iaload, 1) := by decide +kernel
theorem dL_law_2010 : decode cL_law 2010 = .ok (.invokevirtual 216, 3) := by decide +kernel
theorem dL_law_2013 : decode cL_law 2013 = .ok (.istore 6, 2) := by decide +kernel
theorem dL_law_2015 : decode cL_law 2015 = .ok (.aload_n 2, 1) := by decide +kernel
theorem dL_law_2016 : decode cL_law 2016 = .ok (.invokevirtual 126, 3) := by decide +kernel
theorem dL_law_2019 : decode cL_law 2019 = .ok (.iload 5, 2) := by decide +kernel
theorem dL_law_2021 : decode cL_law 2021 = .ok (.if_icmp .eq 5, 3) := by decide +kernel
theorem dL_law_2026 : decode cL_law 2026 = .ok (.iload 5, 2) := by decide +kernel
theorem dL_law_2028 : decode cL_law 2028 = .ok (.ifCond .ne 15, 3) := by decide +kernel
theorem dL_law_2031 : decode cL_law 2031 = .ok (.aload_n 3, 1) := by decide +kernel
theorem dL_law_2032 : decode cL_law 2032 = .ok (.iconst 0, 1) := by decide +kernel
theorem dL_law_2033 : decode cL_law 2033 = .ok (.laload, 1) := by decide +kernel
theorem dL_law_2034 : decode cL_law 2034 = .ok (.iload 6, 2) := by decide +kernel
theorem dL_law_2036 : decode cL_law 2036 = .ok (.i2l, 1) := by decide +kernel
theorem dL_law_2037 : decode cL_law 2037 = .ok (.lcmp, 1) := by decide +kernel
theorem dL_law_2038 : decode cL_law 2038 = .ok (.ifCond .eq 5, 3) := by decide +kernel
theorem dL_law_2043 : decode cL_law 2043 = .ok (.goto 491, 3) := by decide +kernel
theorem dL_law_2046 : decode cL_law 2046 = .ok (.aload_n 1, 1) := by decide +kernel
theorem dL_law_2047 : decode cL_law 2047 = .ok (.aload_n 0, 1) := by decide +kernel
theorem dL_law_2048 : decode cL_law 2048 = .ok (.iload 4, 2) := by decide +kernel
theorem dL_law_2050 : decode cL_law 2050 = .ok (.iconst 1, 1) := by decide +kernel
theorem dL_law_2051 : decode cL_law 2051 = .ok (.iadd, 1) := by decide +kernel
theorem dL_law_2052 : decode cL_law 2052 = .ok (.iaload, 1) := by decide +kernel
theorem dL_law_2053 : decode cL_law 2053 = .ok (.aload_n 0, 1) := by decide +kernel
theorem dL_law_2054 : decode cL_law 2054 = .ok (.iload 4, 2) := by decide +kernel
theorem dL_law_2056 : decode cL_law 2056 = .ok (.iconst 2, 1) := by decide +kernel
theorem dL_law_2057 : decode cL_law 2057 = .ok (.iadd, 1) := by decide +kernel
theorem dL_law_2058 : decode cL_law 2058 = .ok (.iaload, 1) := by decide +kernel
theorem dL_law_2059 : decode cL_law 2059 = .ok (.aload_n 0, 1) := by decide +kernel
theorem dL_law_2060 : decode cL_law 2060 = .ok (.iload 4, 2) := by decide +kernel
theorem dL_law_2062 : decode cL_law 2062 = .ok (.iconst 3, 1) := by decide +kernel
theorem dL_law_2063 : decode cL_law 2063 = .ok (.iadd, 1) := by decide +kernel
theorem dL_law_2064 : decode cL_law 2064 = .ok (.iaload, 1) := by decide +kernel
theorem dL_law_2065 : decode cL_law 2065 = .ok (.ifCond .eq 7, 3) := by decide +kernel
theorem dL_law_2068 : decode cL_law 2068 = .ok (.iconst 1, 1) := by decide +kernel
theorem dL_law_2069 : decode cL_law 2069 = .ok (.goto 4, 3) := by decide +kernel
theorem dL_law_2072 : decode cL_law 2072 = .ok (.iconst 0, 1) := by decide +kernel
theorem dL_law_2073 : decode cL_law 2073 = .ok (.aload_n 3, 1) := by decide +kernel
theorem dL_law_2074 : decode cL_law 2074 = .ok (.invokestatic 217, 3) := by decide +kernel
theorem dL_law_2077 : decode cL_law 2077 = .ok (.istore 5, 2) := by decide +kernel
theorem dL_law_2079 : decode cL_law 2079 = .ok (.aload_n 2, 1) := by decide +kernel
theorem dL_law_2080 : decode cL_law 2080 = .ok (.aload_n 0, 1) := by decide +kernel
theorem dL_law_2081 : decode cL_law 2081 = .ok (.iload 4, 2) := by decide +kernel
theorem dL_law_2083 : decode cL_law 2083 = .ok (.iconst 1, 1) := by decide +kernel
theorem dL_law_2084 : decode cL_law 2084 = .ok (.iadd, 1) := by decide +kernel
theorem dL_law_2085 : decode cL_law 2085 = .ok (.iaload, 1) := by decide +kernel
theorem dL_law_2086 : decode cL_law 2086 = .ok (.aload_n 0, 1) := by decide +kernel
theorem dL_law_2087 : decode cL_law 2087 = .ok (.iload 4, 2) := by decide +kernel
theorem dL_law_2089 : decode cL_law 2089 = .ok (.iconst 2, 1) := by decide +kernel
theorem dL_law_2090 : decode cL_law 2090 = .ok (.iadd, 1) := by decide +kernel
theorem dL_law_2091 : decode cL_law 2091 = .ok (.iaload, 1) := by decide +kernel
theorem dL_law_2092 : decode cL_law 2092 = .ok (.aload_n 0, 1) := by decide +kernel
theorem dL_law_2093 : decode cL_law 2093 = .ok (.iload 4, 2) := by decide +kernel
theorem dL_law_2095 : decode cL_law 2095 = .ok (.iconst 3, 1) := by decide +kernel
theorem dL_law_2096 : decode cL_law 2096 = .ok (.iadd, 1) := by decide +kernel
theorem dL_law_2097 : decode cL_law 2097 = .ok (.iaload, 1) := by decide +kernel
theorem dL_law_2098 : decode cL_law 2098 = .ok (.ifCond .eq 7, 3) := by decide +kernel
theorem dL_law_2101 : decode cL_law 2101 = .ok (.iconst 1, 1) := by decide +kernel
theorem dL_law_2102 : decode cL_law 2102 = .ok (.goto 4, 3) := by decide +kernel
theorem dL_law_2105 : decode cL_law 2105 = .ok (.iconst 0, 1) := by decide +kernel
theorem dL_law_2106 : decode cL_law 2106 = .ok (.invokevirtual 219, 3) := by decide +kernel
theorem dL_law_2109 : decode cL_law 2109 = .ok (.istore 6, 2) := by decide +kernel
theorem dL_law_2111 : decode cL_law 2111 = .ok (.aload_n 2, 1) := by decide +kernel
theorem dL_law_2112 : decode cL_law 2112 = .ok (.invokevirtual 126, 3) := by decide +kernel
theorem dL_law_2115 : decode cL_law 2115 = .ok (.iload 5, 2) := by decide +kernel
theorem dL_law_2117 : decode cL_law 2117 = .ok (.if_icmp .eq 5, 3) := by decide +kernel
theorem dL_law_2122 : decode cL_law 2122 = .ok (.iload 5, 2) := by decide +kernel
theorem dL_law_2124 : decode cL_law 2124 = .ok (.ifCond .ne 15, 3) := by decide +kernel
theorem dL_law_2127 : decode cL_law 2127 = .ok (.aload_n 3, 1) := by decide +kernel
theorem dL_law_2128 : decode cL_law 2128 = .ok (.iconst 0, 1) := by decide +kernel
theorem dL_law_2129 : decode cL_law 2129 = .ok (.laload, 1) := by decide +kernel
theorem dL_law_2130 : decode cL_law 2130 = .ok (.iload 6, 2) := by decide +kernel
theorem dL_law_2132 : decode cL_law 2132 = .ok (.i2l, 1) := by decide +kernel
theorem dL_law_2133 : decode cL_law 2133 = .ok (.lcmp, 1) := by decide +kernel
theorem dL_law_2134 : decode cL_law 2134 = .ok (.ifCond .eq 5, 3) := by decide +kernel
theorem dL_law_2139 : decode cL_law 2139 = .ok (.goto 395, 3) := by decide +kernel
theorem dL_law_2142 : decode cL_law 2142 = .ok (.aload_n 1, 1) := by decide +kernel
theorem dL_law_2143 : decode cL_law 2143 = .ok (.aload_n 0, 1) := by decide +kernel
theorem dL_law_2144 : decode cL_law 2144 = .ok (.iload 4, 2) := by decide +kernel
theorem dL_law_2146 : decode cL_law 2146 = .ok (.iconst 1, 1) := by decide +kernel
theorem dL_law_2147 : decode cL_law 2147 = .ok (.iadd, 1) := by decide +kernel
theorem dL_law_2148 : decode cL_law 2148 = .ok (.iaload, 1) := by decide +kernel
theorem dL_law_2149 : decode cL_law 2149 = .ok (.aload_n 0, 1) := by decide +kernel
theorem dL_law_2150 : decode cL_law 2150 = .ok (.iload 4, 2) := by decide +kernel
theorem dL_law_2152 : decode cL_law 2152 = .ok (.iconst 2, 1) := by decide +kernel
theorem dL_law_2153 : decode cL_law 2153 = .ok (.iadd, 1) := by decide +kernel
theorem dL_law_2154 : decode cL_law 2154 = .ok (.iaload, 1) := by decide +kernel
theorem dL_law_2155 : decode cL_law 2155 = .ok (.aload_n 0, 1) := by decide +kernel
theorem dL_law_2156 : decode cL_law 2156 = .ok (.iload 4, 2) := by decide +kernel
theorem dL_law_2158 : decode cL_law 2158 = .ok (.iconst 3, 1) := by decide +kernel
theorem dL_law_2159 : decode cL_law 2159 = .ok (.iadd, 1) := by decide +kernel
theorem dL_law_2160 : decode cL_law 2160 = .ok (.iaload, 1) := by decide +kernel
theorem dL_law_2161 : decode cL_law 2161 = .ok (.aload_n 3, 1) := by decide +kernel
theorem dL_law_2162 : decode cL_law 2162 = .ok (.invokestatic 220, 3) := by decide +kernel
theorem dL_law_2165 : decode cL_law 2165 = .ok (.istore 5, 2) := by decide +kernel
theorem dL_law_2167 : decode cL_law 2167 = .ok (.aload_n 2, 1) := by decide +kernel
theorem dL_law_2168 : decode cL_law 2168 = .ok (.aload_n 0, 1) := by decide +kernel
theorem dL_law_2169 : decode cL_law 2169 = .ok (.iload 4, 2) := by decide +kernel
theorem dL_law_2171 : decode cL_law 2171 = .ok (.iconst 1, 1) := by decide +kernel
theorem dL_law_2172 : decode cL_law 2172 = .ok (.iadd, 1) := by decide +kernel
theorem dL_law_2173 : decode cL_law 2173 = .ok (.iaload, 1) := by decide +kernel
theorem dL_law_2174 : decode cL_law 2174 = .ok (.aload_n 0, 1) := by decide +kernel
theorem dL_law_2175 : decode cL_law 2175 = .ok (.iload 4, 2) := by decide +kernel
theorem dL_law_2177 : decode cL_law 2177 = .ok (.iconst 2, 1) := by decide +kernel
theorem dL_law_2178 : decode cL_law 2178 = .ok (.iadd, 1) := by decide +kernel
theorem dL_law_2179 : decode cL_law 2179 = .ok (.iaload, 1) := by decide +kernel
theorem dL_law_2180 : decode cL_law 2180 = .ok (.aload_n 0, 1) := by decide +kernel
theorem dL_law_2181 : decode cL_law 2181 = .ok (.iload 4, 2) := by decide +kernel
theorem dL_law_2183 : decode cL_law 2183 = .ok (.iconst 3, 1) := by decide +kernel
theorem dL_law_2184 : decode cL_law 2184 = .ok (.iadd, 1) := by decide +kernel
theorem dL_law_2185 : decode cL_law 2185 = .ok (.iaload, 1) := by decide +kernel
theorem dL_law_2186 : decode cL_law 2186 = .ok (.invokevirtual 222, 3) := by decide +kernel
theorem dL_law_2189 : decode cL_law 2189 = .ok (.istore 6, 2) := by decide +kernel
theorem dL_law_2191 : decode cL_law 2191 = .ok (.aload_n 2, 1) := by decide +kernel
theorem dL_law_2192 : decode cL_law 2192 = .ok (.invokevirtual 126, 3) := by decide +kernel
theorem dL_law_2195 : decode cL_law 2195 = .ok (.iload 5, 2) := by decide +kernel
theorem dL_law_2197 : decode cL_law 2197 = .ok (.if_icmp .eq 5, 3) := by decide +kernel
theorem dL_law_2202 : decode cL_law 2202 = .ok (.iload 5, 2) := by decide +kernel
theorem dL_law_2204 : decode cL_law 2204 = .ok (.ifCond .ne 15, 3) := by decide +kernel
theorem dL_law_2207 : decode cL_law 2207 = .ok (.aload_n 3, 1) := by decide +kernel
theorem dL_law_2208 : decode cL_law 2208 = .ok (.iconst 0, 1) := by decide +kernel
theorem dL_law_2209 : decode cL_law 2209 = .ok (.laload, 1) := by decide +kernel
theorem dL_law_2210 : decode cL_law 2210 = .ok (.iload 6, 2) := by decide +kernel
theorem dL_law_2212 : decode cL_law 2212 = .ok (.i2l, 1) := by decide +kernel
theorem dL_law_2213 : decode cL_law 2213 = .ok (.lcmp, 1) := by decide +kernel
theorem dL_law_2214 : decode cL_law 2214 = .ok (.ifCond .eq 5, 3) := by decide +kernel
theorem dL_law_2219 : decode cL_law 2219 = .ok (.goto 315, 3) := by decide +kernel
theorem dL_law_2222 : decode cL_law 2222 = .ok (.aload_n 1, 1) := by decide +kernel
theorem dL_law_2223 : decode cL_law 2223 = .ok (.aload_n 0, 1) := by decide +kernel
theorem dL_law_2224 : decode cL_law 2224 = .ok (.iload 4, 2) := by decide +kernel
theorem dL_law_2226 : decode cL_law 2226 = .ok (.iconst 1, 1) := by decide +kernel
theorem dL_law_2227 : decode cL_law 2227 = .ok (.iadd, 1) := by decide +kernel
theorem dL_law_2228 : decode cL_law 2228 = .ok (.iaload, 1) := by decide +kernel
theorem dL_law_2229 : decode cL_law 2229 = .ok (.aload_n 0, 1) := by decide +kernel
theorem dL_law_2230 : decode cL_law 2230 = .ok (.iload 4, 2) := by decide +kernel
theorem dL_law_2232 : decode cL_law 2232 = .ok (.iconst 2, 1) := by decide +kernel
theorem dL_law_2233 : decode cL_law 2233 = .ok (.iadd, 1) := by decide +kernel
theorem dL_law_2234 : decode cL_law 2234 = .ok (.iaload, 1) := by decide +kernel
theorem dL_law_2235 : decode cL_law 2235 = .ok (.i2l, 1) := by decide +kernel
theorem dL_law_2236 : decode cL_law 2236 = .ok (.bipush 32, 2) := by decide +kernel
theorem dL_law_2238 : decode cL_law 2238 = .ok (.lshl, 1) := by decide +kernel
theorem dL_law_2239 : decode cL_law 2239 = .ok (.aload_n 0, 1) := by decide +kernel
theorem dL_law_2240 : decode cL_law 2240 = .ok (.iload 4, 2) := by decide +kernel
theorem dL_law_2242 : decode cL_law 2242 = .ok (.iconst 3, 1) := by decide +kernel
theorem dL_law_2243 : decode cL_law 2243 = .ok (.iadd, 1) := by decide +kernel
theorem dL_law_2244 : decode cL_law 2244 = .ok (.iaload, 1) := by decide +kernel
theorem dL_law_2245 : decode cL_law 2245 = .ok (.i2l, 1) := by decide +kernel
theorem dL_law_2246 : decode cL_law 2246 = .ok (.ldc2_w 223, 3) := by decide +kernel
theorem dL_law_2249 : decode cL_law 2249 = .ok (.land, 1) := by decide +kernel
theorem dL_law_2250 : decode cL_law 2250 = .ok (.lor, 1) := by decide +kernel
theorem dL_law_2251 : decode cL_law 2251 = .ok (.aload_n 3, 1) := by decide +kernel
theorem dL_law_2252 : decode cL_law 2252 = .ok (.invokestatic 225, 3) := by decide +kernel
theorem dL_law_2255 : decode cL_law 2255 = .ok (.istore 5, 2) := by decide +kernel
theorem dL_law_2257 : decode cL_law 2257 = .ok (.aload_n 2, 1) := by decide +kernel
theorem dL_law_2258 : decode cL_law 2258 = .ok (.aload_n 0, 1) := by decide +kernel
theorem dL_law_2259 : decode cL_law 2259 = .ok (.iload 4, 2) := by decide +kernel
theorem dL_law_2261 : decode cL_law 2261 = .ok (.iconst 1, 1) := by decide +kernel
theorem dL_law_2262 : decode cL_law 2262 = .ok (.iadd, 1) := by decide +kernel
theorem dL_law_2263 : decode cL_law 2263 = .ok (.iaload, 1) := by decide +kernel
theorem dL_law_2264 : decode cL_law 2264 = .ok (.aload_n 0, 1) := by decide +kernel
theorem dL_law_2265 : decode cL_law 2265 = .ok (.iload 4, 2) := by decide +kernel
theorem dL_law_2267 : decode cL_law 2267 = .ok (.iconst 2, 1) := by decide +kernel
theorem dL_law_2268 : decode cL_law 2268 = .ok (.iadd, 1) := by decide +kernel
theorem dL_law_2269 : decode cL_law 2269 = .ok (.iaload, 1) := by decide +kernel
theorem dL_law_2270 : decode cL_law 2270 = .ok (.i2l, 1) := by decide +kernel
theorem dL_law_2271 : decode cL_law 2271 = .ok (.bipush 32, 2) := by decide +kernel
theorem dL_law_2273 : decode cL_law 2273 = .ok (.lshl, 1) := by decide +kernel
theorem dL_law_2274 : decode cL_law 2274 = .ok (.aload_n 0, 1) := by decide +kernel
theorem dL_law_2275 : decode cL_law 2275 = .ok (.iload 4, 2) := by decide +kernel
theorem dL_law_2277 : decode cL_law 2277 = .ok (.iconst 3, 1) := by decide +kernel
theorem dL_law_2278 : decode cL_law 2278 = .ok (.iadd, 1) := by decide +kernel
theorem dL_law_2279 : decode cL_law 2279 = .ok (.iaload, 1) := by decide +kernel
theorem dL_law_2280 : decode cL_law 2280 = .ok (.i2l, 1) := by decide +kernel
theorem dL_law_2281 : decode cL_law 2281 = .ok (.ldc2_w 223, 3) := by decide +kernel
theorem dL_law_2284 : decode cL_law 2284 = .ok (.land, 1) := by decide +kernel
theorem dL_law_2285 : decode cL_law 2285 = .ok (.lor, 1) := by decide +kernel
theorem dL_law_2286 : decode cL_law 2286 = .ok (.invokevirtual 228, 3) := by decide +kernel
theorem dL_law_2289 : decode cL_law 2289 = .ok (.istore 6, 2) := by decide +kernel
theorem dL_law_2291 : decode cL_law 2291 = .ok (.aload_n 2, 1) := by decide +kernel
theorem dL_law_2292 : decode cL_law 2292 = .ok (.invokevirtual 126, 3) := by decide +kernel
theorem dL_law_2295 : decode cL_law 2295 = .ok (.iload 5, 2) := by decide +kernel
theorem dL_law_2297 : decode cL_law 2297 = .ok (.if_icmp .eq 5, 3) := by decide +kernel
theorem dL_law_2302 : decode cL_law 2302 = .ok (.iload 5, 2) := by decide +kernel
theorem dL_law_2304 : decode cL_law 2304 = .ok (.ifCond .ne 15, 3) := by decide +kernel
theorem dL_law_2307 : decode cL_law 2307 = .ok (.aload_n 3, 1) := by decide +kernel
theorem dL_law_2308 : decode cL_law 2308 = .ok (.iconst 0, 1) := by decide +kernel
theorem dL_law_2309 : decode cL_law 2309 = .ok (.laload, 1) := by decide +kernel
theorem dL_law_2310 : decode cL_law 2310 = .ok (.iload 6, 2) := by decide +kernel
theorem dL_law_2312 : decode cL_law 2312 = .ok (.i2l, 1) := by decide +kernel
theorem dL_law_2313 : decode cL_law 2313 = .ok (.lcmp, 1) := by decide +kernel
theorem dL_law_2314 : decode cL_law 2314 = .ok (.ifCond .eq 5, 3) := by decide +kernel
theorem dL_law_2319 : decode cL_law 2319 = .ok (.goto 215, 3) := by decide +kernel
theorem dL_law_2322 : decode cL_law 2322 = .ok (.aload_n 1, 1) := by decide +kernel
theorem dL_law_2323 : decode cL_law 2323 = .ok (.aload_n 0, 1) := by decide +kernel
theorem dL_law_2324 : decode cL_law 2324 = .ok (.iload 4, 2) := by decide +kernel
theorem dL_law_2326 : decode cL_law 2326 = .ok (.iconst 1, 1) := by decide +kernel
theorem dL_law_2327 : decode cL_law 2327 = .ok (.iadd, 1) := by decide +kernel
theorem dL_law_2328 : decode cL_law 2328 = .ok (.iaload, 1) := by decide +kernel
theorem dL_law_2329 : decode cL_law 2329 = .ok (.i2l, 1) := by decide +kernel
theorem dL_law_2330 : decode cL_law 2330 = .ok (.bipush 32, 2) := by decide +kernel
theorem dL_law_2332 : decode cL_law 2332 = .ok (.lshl, 1) := by decide +kernel
theorem dL_law_2333 : decode cL_law 2333 = .ok (.aload_n 0, 1) := by decide +kernel
theorem dL_law_2334 : decode cL_law 2334 = .ok (.iload 4, 2) := by decide +kernel
theorem dL_law_2336 : decode cL_law 2336 = .ok (.iconst 2, 1) := by decide +kernel
theorem dL_law_2337 : decode cL_law 2337 = .ok (.iadd, 1) := by decide +kernel
theorem dL_law_2338 : decode cL_law 2338 = .ok (.iaload, 1) := by decide +kernel
theorem dL_law_2339 : decode cL_law 2339 = .ok (.i2l, 1) := by decide +kernel
theorem dL_law_2340 : decode cL_law 2340 = .ok (.ldc2_w 223, 3) := by decide +kernel
theorem dL_law_2343 : decode cL_law 2343 = .ok (.land, 1) := by decide +kernel
theorem dL_law_2344 : decode cL_law 2344 = .ok (.lor, 1) := by decide +kernel
theorem dL_law_2345 : decode cL_law 2345 = .ok (.aload_n 0, 1) := by decide +kernel
theorem dL_law_2346 : decode cL_law 2346 = .ok (.iload 4, 2) := by decide +kernel
theorem dL_law_2348 : decode cL_law 2348 = .ok (.iconst 3, 1) := by decide +kernel
theorem dL_law_2349 : decode cL_law 2349 = .ok (.iadd, 1) := by decide +kernel
theorem dL_law_2350 : decode cL_law 2350 = .ok (.iaload, 1) := by decide +kernel
theorem dL_law_2351 : decode cL_law 2351 = .ok (.aload_n 3, 1) := by decide +kernel
theorem dL_law_2352 : decode cL_law 2352 = .ok (.invokestatic 229, 3) := by decide +kernel
theorem dL_law_2355 : decode cL_law 2355 = .ok (.istore 5, 2) := by decide +kernel
theorem dL_law_2357 : decode cL_law 2357 = .ok (.aload_n 2, 1) := by decide +kernel
theorem dL_law_2358 : decode cL_law 2358 = .ok (.aload_n 0, 1) := by decide +kernel
theorem dL_law_2359 : decode cL_law 2359 = .ok (.iload 4, 2) := by decide +kernel
theorem dL_law_2361 : decode cL_law 2361 = .ok (.iconst 1, 1) := by decide +kernel
theorem dL_law_2362 : decode cL_law 2362 = .ok (.iadd, 1) := by decide +kernel
theorem dL_law_2363 : decode cL_law 2363 = .ok (.iaload, 1) := by decide +kernel
theorem dL_law_2364 : decode cL_law 2364 = .ok (.i2l, 1) := by decide +kernel
theorem dL_law_2365 : decode cL_law 2365 = .ok (.bipush 32, 2) := by decide +kernel
theorem dL_law_2367 : decode cL_law 2367 = .ok (.lshl, 1) := by decide +kernel
theorem dL_law_2368 : decode cL_law 2368 = .ok (.aload_n 0, 1) := by decide +kernel
theorem dL_law_2369 : decode cL_law 2369 = .ok (.iload 4, 2) := by decide +kernel
theorem dL_law_2371 : decode cL_law 2371 = .ok (.iconst 2, 1) := by decide +kernel
theorem dL_law_2372 : decode cL_law 2372 = .ok (.iadd, 1) := by decide +kernel
theorem dL_law_2373 : decode cL_law 2373 = .ok (.iaload, 1) := by decide +kernel
theorem dL_law_2374 : decode cL_law 2374 = .ok (.i2l, 1) := by decide +kernel
theorem dL_law_2375 : decode cL_law 2375 = .ok (.ldc2_w 223, 3) := by decide +kernel
theorem dL_law_2378 : decode cL_law 2378 = .ok (.land, 1) := by decide +kernel
theorem dL_law_2379 : decode cL_law 2379 = .ok (.lor, 1) := by decide +kernel
theorem dL_law_2380 : decode cL_law 2380 = .ok (.aload_n 0, 1) := by decide +kernel
theorem dL_law_2381 : decode cL_law 2381 = .ok (.iload 4, 2) := by decide +kernel
theorem dL_law_2383 : decode cL_law 2383 = .ok (.iconst 3, 1) := by decide +kernel
theorem dL_law_2384 : decode cL_law 2384 = .ok (.iadd, 1) := by decide +kernel
theorem dL_law_2385 : decode cL_law 2385 = .ok (.iaload, 1) := by decide +kernel
theorem dL_law_2386 : decode cL_law 2386 = .ok (.invokevirtual 232, 3) := by decide +kernel
theorem dL_law_2389 : decode cL_law 2389 = .ok (.istore 6, 2) := by decide +kernel
theorem dL_law_2391 : decode cL_law 2391 = .ok (.aload_n 2, 1) := by decide +kernel
theorem dL_law_2392 : decode cL_law 2392 = .ok (.invokevirtual 126, 3) := by decide +kernel
theorem dL_law_2395 : decode cL_law 2395 = .ok (.iload 5, 2) := by decide +kernel
theorem dL_law_2397 : decode cL_law 2397 = .ok (.if_icmp .eq 5, 3) := by decide +kernel
theorem dL_law_2402 : decode cL_law 2402 = .ok (.iload 5, 2) := by decide +kernel
theorem dL_law_2404 : decode cL_law 2404 = .ok (.ifCond .ne 15, 3) := by decide +kernel
theorem dL_law_2407 : decode cL_law 2407 = .ok (.aload_n 3, 1) := by decide +kernel
theorem dL_law_2408 : decode cL_law 2408 = .ok (.iconst 0, 1) := by decide +kernel
theorem dL_law_2409 : decode cL_law 2409 = .ok (.laload, 1) := by decide +kernel
theorem dL_law_2410 : decode cL_law 2410 = .ok (.iload 6, 2) := by decide +kernel
theorem dL_law_2412 : decode cL_law 2412 = .ok (.i2l, 1) := by decide +kernel
theorem dL_law_2413 : decode cL_law 2413 = .ok (.lcmp, 1) := by decide +kernel
theorem dL_law_2414 : decode cL_law 2414 = .ok (.ifCond .eq 5, 3) := by decide +kernel
theorem dL_law_2419 : decode cL_law 2419 = .ok (.goto 115, 3) := by decide +kernel
theorem dL_law_2422 : decode cL_law 2422 = .ok (.aload_n 1, 1) := by decide +kernel
theorem dL_law_2423 : decode cL_law 2423 = .ok (.aload_n 0, 1) := by decide +kernel
theorem dL_law_2424 : decode cL_law 2424 = .ok (.iload 4, 2) := by decide +kernel
theorem dL_law_2426 : decode cL_law 2426 = .ok (.iconst 1, 1) := by decide +kernel
theorem dL_law_2427 : decode cL_law 2427 = .ok (.iadd, 1) := by decide +kernel
theorem dL_law_2428 : decode cL_law 2428 = .ok (.iaload, 1) := by decide +kernel
theorem dL_law_2429 : decode cL_law 2429 = .ok (.aload_n 3, 1) := by decide +kernel
theorem dL_law_2430 : decode cL_law 2430 = .ok (.invokestatic 233, 3) := by decide +kernel
theorem dL_law_2433 : decode cL_law 2433 = .ok (.istore 5, 2) := by decide +kernel
theorem dL_law_2435 : decode cL_law 2435 = .ok (.aload_n 2, 1) := by decide +kernel
theorem dL_law_2436 : decode cL_law 2436 = .ok (.aload_n 0, 1) := by decide +kernel
theorem dL_law_2437 : decode cL_law 2437 = .ok (.iload 4, 2) := by decide +kernel
theorem dL_law_2439 : decode cL_law 2439 = .ok (.iconst 1, 1) := by decide +kernel
theorem dL_law_2440 : decode cL_law 2440 = .ok (.iadd, 1) := by decide +kernel
theorem dL_law_2441 : decode cL_law 2441 = .ok (.iaload, 1) := by decide +kernel
theorem dL_law_2442 : decode cL_law 2442 = .ok (.invokevirtual 235, 3) := by decide +kernel
theorem dL_law_2445 : decode cL_law 2445 = .ok (.istore 6, 2) := by decide +kernel
theorem dL_law_2447 : decode cL_law 2447 = .ok (.aload_n 2, 1) := by decide +kernel
theorem dL_law_2448 : decode cL_law 2448 = .ok (.invokevirtual 126, 3) := by decide +kernel
theorem dL_law_2451 : decode cL_law 2451 = .ok (.iload 5, 2) := by decide +kernel
theorem dL_law_2453 : decode cL_law 2453 = .ok (.if_icmp .eq 5, 3) := by decide +kernel
theorem dL_law_2458 : decode cL_law 2458 = .ok (.iload 5, 2) := by decide +kernel
theorem dL_law_2460 : decode cL_law 2460 = .ok (.ifCond .ne 15, 3) := by decide +kernel
theorem dL_law_2463 : decode cL_law 2463 = .ok (.aload_n 3, 1) := by decide +kernel
theorem dL_law_2464 : decode cL_law 2464 = .ok (.iconst 0, 1) := by decide +kernel
theorem dL_law_2465 : decode cL_law 2465 = .ok (.laload, 1) := by decide +kernel
theorem dL_law_2466 : decode cL_law 2466 = .ok (.iload 6, 2) := by decide +kernel
theorem dL_law_2468 : decode cL_law 2468 = .ok (.i2l, 1) := by decide +kernel
theorem dL_law_2469 : decode cL_law 2469 = .ok (.lcmp, 1) := by decide +kernel
theorem dL_law_2470 : decode cL_law 2470 = .ok (.ifCond .eq 5, 3) := by decide +kernel
theorem dL_law_2475 : decode cL_law 2475 = .ok (.goto 59, 3) := by decide +kernel
theorem dL_law_2478 : decode cL_law 2478 = .ok (.aload_n 1, 1) := by decide +kernel
theorem dL_law_2479 : decode cL_law 2479 = .ok (.aload_n 0, 1) := by decide +kernel
theorem dL_law_2480 : decode cL_law 2480 = .ok (.iload 4, 2) := by decide +kernel
theorem dL_law_2482 : decode cL_law 2482 = .ok (.iconst 1, 1) := by decide +kernel
theorem dL_law_2483 : decode cL_law 2483 = .ok (.iadd, 1) := by decide +kernel
theorem dL_law_2484 : decode cL_law 2484 = .ok (.iaload, 1) := by decide +kernel
theorem dL_law_2485 : decode cL_law 2485 = .ok (.aload_n 3, 1) := by decide +kernel
theorem dL_law_2486 : decode cL_law 2486 = .ok (.invokestatic 236, 3) := by decide +kernel
theorem dL_law_2489 : decode cL_law 2489 = .ok (.istore 5, 2) := by decide +kernel
theorem dL_law_2491 : decode cL_law 2491 = .ok (.aload_n 2, 1) := by decide +kernel
theorem dL_law_2492 : decode cL_law 2492 = .ok (.aload_n 0, 1) := by decide +kernel
theorem dL_law_2493 : decode cL_law 2493 = .ok (.iload 4, 2) := by decide +kernel
theorem dL_law_2495 : decode cL_law 2495 = .ok (.iconst 1, 1) := by decide +kernel
theorem dL_law_2496 : decode cL_law 2496 = .ok (.iadd, 1) := by decide +kernel
theorem dL_law_2497 : decode cL_law 2497 = .ok (.iaload, 1) := by decide +kernel
theorem dL_law_2498 : decode cL_law 2498 = .ok (.invokevirtual 238, 3) := by decide +kernel
theorem dL_law_2501 : decode cL_law 2501 = .ok (.istore 6, 2) := by decide +kernel
theorem dL_law_2503 : decode cL_law 2503 = .ok (.aload_n 2, 1) := by decide +kernel
theorem dL_law_2504 : decode cL_law 2504 = .ok (.invokevirtual 126, 3) := by decide +kernel
theorem dL_law_2507 : decode cL_law 2507 = .ok (.iload 5, 2) := by decide +kernel
theorem dL_law_2509 : decode cL_law 2509 = .ok (.if_icmp .eq 5, 3) := by decide +kernel
theorem dL_law_2514 : decode cL_law 2514 = .ok (.iload 5, 2) := by decide +kernel
theorem dL_law_2516 : decode cL_law 2516 = .ok (.ifCond .ne 15, 3) := by decide +kernel
theorem dL_law_2519 : decode cL_law 2519 = .ok (.aload_n 3, 1) := by decide +kernel
theorem dL_law_2520 : decode cL_law 2520 = .ok (.iconst 0, 1) := by decide +kernel
theorem dL_law_2521 : decode cL_law 2521 = .ok (.laload, 1) := by decide +kernel
theorem dL_law_2522 : decode cL_law 2522 = .ok (.iload 6, 2) := by decide +kernel
theorem dL_law_2524 : decode cL_law 2524 = .ok (.i2l, 1) := by decide +kernel
theorem dL_law_2525 : decode cL_law 2525 = .ok (.lcmp, 1) := by decide +kernel
theorem dL_law_2526 : decode cL_law 2526 = .ok (.ifCond .eq 5, 3) := by decide +kernel
theorem dL_law_2531 : decode cL_law 2531 = .ok (.goto 3, 3) := by decide +kernel
theorem dL_law_2534 : decode cL_law 2534 = .ok (.iinc 4 7, 3) := by decide +kernel
theorem dL_law_2537 : decode cL_law 2537 = .ok (.goto (-2514), 3) := by decide +kernel
theorem dL_law_2540 : decode cL_law 2540 = .ok (.iconst 1, 1) := by decide +kernel
theorem dL_law_2541 : decode cL_law 2541 = .ok (.ireturn, 1) := by decide +kernel
