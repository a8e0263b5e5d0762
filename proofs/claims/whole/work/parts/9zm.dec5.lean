/-! the law's decode rows -/
theorem dL_law__1829 : decode cL_law_ 1829 = .ok (.iload 5, 2) := by decide +kernel
theorem dL_law__1831 : decode cL_law_ 1831 = .ok (.if_icmp .eq 5, 3) := by decide +kernel
theorem dL_law__1834 : decode cL_law_ 1834 = .ok (.iconst 0, 1) := by decide +kernel
theorem dL_law__1835 : decode cL_law_ 1835 = .ok (.ireturn, 1) := by decide +kernel
theorem dL_law__1836 : decode cL_law_ 1836 = .ok (.iload 5, 2) := by decide +kernel
theorem dL_law__1838 : decode cL_law_ 1838 = .ok (.ifCond .ne 15, 3) := by decide +kernel
theorem dL_law__1841 : decode cL_law_ 1841 = .ok (.aload_n 3, 1) := by decide +kernel
theorem dL_law__1842 : decode cL_law_ 1842 = .ok (.iconst 0, 1) := by decide +kernel
theorem dL_law__1843 : decode cL_law_ 1843 = .ok (.laload, 1) := by decide +kernel
theorem dL_law__1844 : decode cL_law_ 1844 = .ok (.iload 6, 2) := by decide +kernel
theorem dL_law__1846 : decode cL_law_ 1846 = .ok (.i2l, 1) := by decide +kernel
theorem dL_law__1847 : decode cL_law_ 1847 = .ok (.lcmp, 1) := by decide +kernel
theorem dL_law__1848 : decode cL_law_ 1848 = .ok (.ifCond .eq 5, 3) := by decide +kernel
theorem dL_law__1851 : decode cL_law_ 1851 = .ok (.iconst 0, 1) := by decide +kernel
theorem dL_law__1852 : decode cL_law_ 1852 = .ok (.ireturn, 1) := by decide +kernel
theorem dL_law__1853 : decode cL_law_ 1853 = .ok (.goto 945, 3) := by decide +kernel
theorem dL_law__1856 : decode cL_law_ 1856 = .ok (.aload_n 1, 1) := by decide +kernel
theorem dL_law__1857 : decode cL_law_ 1857 = .ok (.aload_n 0, 1) := by decide +kernel
theorem dL_law__1858 : decode cL_law_ 1858 = .ok (.iload 4, 2) := by decide +kernel
theorem dL_law__1860 : decode cL_law_ 1860 = .ok (.iconst 1, 1) := by decide +kernel
theorem dL_law__1861 : decode cL_law_ 1861 = .ok (.iadd, 1) := by decide +kernel
theorem dL_law__1862 : decode cL_law_ 1862 = .ok (.iaload, 1) := by decide +kernel
theorem dL_law__1863 : decode cL_law_ 1863 = .ok (.aload_n 0, 1) := by decide +kernel
theorem dL_law__1864 : decode cL_law_ 1864 = .ok (.iload 4, 2) := by decide +kernel
theorem dL_law__1866 : decode cL_law_ 1866 = .ok (.iconst 2, 1) := by decide +kernel
theorem dL_law__1867 : decode cL_law_ 1867 = .ok (.iadd, 1) := by decide +kernel
theorem dL_law__1868 : decode cL_law_ 1868 = .ok (.iaload, 1) := by decide +kernel
theorem dL_law__1869 : decode cL_law_ 1869 = .ok (.aload_n 3, 1) := by decide +kernel
theorem dL_law__1870 : decode cL_law_ 1870 = .ok (.invokestatic 220, 3) := by decide +kernel
theorem dL_law__1873 : decode cL_law_ 1873 = .ok (.istore 5, 2) := by decide +kernel
theorem dL_law__1875 : decode cL_law_ 1875 = .ok (.aload_n 2, 1) := by decide +kernel
theorem dL_law__1876 : decode cL_law_ 1876 = .ok (.aload_n 0, 1) := by decide +kernel
theorem dL_law__1877 : decode cL_law_ 1877 = .ok (.iload 4, 2) := by decide +kernel
theorem dL_law__1879 : decode cL_law_ 1879 = .ok (.iconst 1, 1) := by decide +kernel
theorem dL_law__1880 : decode cL_law_ 1880 = .ok (.iadd, 1) := by decide +kernel
theorem dL_law__1881 : decode cL_law_ 1881 = .ok (.iaload, 1) := by decide +kernel
theorem dL_law__1882 : decode cL_law_ 1882 = .ok (.aload_n 0, 1) := by decide +kernel
theorem dL_law__1883 : decode cL_law_ 1883 = .ok (.iload 4, 2) := by decide +kernel
theorem dL_law__1885 : decode cL_law_ 1885 = .ok (.iconst 2, 1) := by decide +kernel
theorem dL_law__1886 : decode cL_law_ 1886 = .ok (.iadd, 1) := by decide +kernel
theorem dL_law__1887 : decode cL_law_ 1887 = .ok (.iaload, 1) := by decide +kernel
theorem dL_law__1888 : decode cL_law_ 1888 = .ok (.invokevirtual 222, 3) := by decide +kernel
theorem dL_law__1891 : decode cL_law_ 1891 = .ok (.istore 6, 2) := by decide +kernel
theorem dL_law__1893 : decode cL_law_ 1893 = .ok (.aload_n 2, 1) := by decide +kernel
theorem dL_law__1894 : decode cL_law_ 1894 = .ok (.invokevirtual 142, 3) := by decide +kernel
theorem dL_law__1897 : decode cL_law_ 1897 = .ok (.iload 5, 2) := by decide +kernel
theorem dL_law__1899 : decode cL_law_ 1899 = .ok (.if_icmp .eq 5, 3) := by decide +kernel
theorem dL_law__1902 : decode cL_law_ 1902 = .ok (.iconst 0, 1) := by decide +kernel
theorem dL_law__1903 : decode cL_law_ 1903 = .ok (.ireturn, 1) := by decide +kernel
theorem dL_law__1904 : decode cL_law_ 1904 = .ok (.iload 5, 2) := by decide +kernel
theorem dL_law__1906 : decode cL_law_ 1906 = .ok (.ifCond .ne 15, 3) := by decide +kernel
theorem dL_law__1909 : decode cL_law_ 1909 = .ok (.aload_n 3, 1) := by decide +kernel
theorem dL_law__1910 : decode cL_law_ 1910 = .ok (.iconst 0, 1) := by decide +kernel
theorem dL_law__1911 : decode cL_law_ 1911 = .ok (.laload, 1) := by decide +kernel
theorem dL_law__1912 : decode cL_law_ 1912 = .ok (.iload 6, 2) := by decide +kernel
theorem dL_law__1914 : decode cL_law_ 1914 = .ok (.i2l, 1) := by decide +kernel
theorem dL_law__1915 : decode cL_law_ 1915 = .ok (.lcmp, 1) := by decide +kernel
theorem dL_law__1916 : decode cL_law_ 1916 = .ok (.ifCond .eq 5, 3) := by decide +kernel
theorem dL_law__1919 : decode cL_law_ 1919 = .ok (.iconst 0, 1) := by decide +kernel
theorem dL_law__1920 : decode cL_law_ 1920 = .ok (.ireturn, 1) := by decide +kernel
theorem dL_law__1921 : decode cL_law_ 1921 = .ok (.goto 877, 3) := by decide +kernel
theorem dL_law__1924 : decode cL_law_ 1924 = .ok (.aload_n 1, 1) := by decide +kernel
theorem dL_law__1925 : decode cL_law_ 1925 = .ok (.aload_n 0, 1) := by decide +kernel
theorem dL_law__1926 : decode cL_law_ 1926 = .ok (.iload 4, 2) := by decide +kernel
theorem dL_law__1928 : decode cL_law_ 1928 = .ok (.iconst 1, 1) := by decide +kernel
theorem dL_law__1929 : decode cL_law_ 1929 = .ok (.iadd, 1) := by decide +kernel
theorem dL_law__1930 : decode cL_law_ 1930 = .ok (.iaload, 1) := by decide +kernel
theorem dL_law__1931 : decode cL_law_ 1931 = .ok (.aload_n 0, 1) := by decide +kernel
theorem dL_law__1932 : decode cL_law_ 1932 = .ok (.iload 4, 2) := by decide +kernel
theorem dL_law__1934 : decode cL_law_ 1934 = .ok (.iconst 2, 1) := by decide +kernel
theorem dL_law__1935 : decode cL_law_ 1935 = .ok (.iadd, 1) := by decide +kernel
theorem dL_law__1936 : decode cL_law_ 1936 = .ok (.iaload, 1) := by decide +kernel
theorem dL_law__1937 : decode cL_law_ 1937 = .ok (.aload_n 0, 1) := by decide +kernel
theorem dL_law__1938 : decode cL_law_ 1938 = .ok (.iload 4, 2) := by decide +kernel
theorem dL_law__1940 : decode cL_law_ 1940 = .ok (.iconst 3, 1) := by decide +kernel
theorem dL_law__1941 : decode cL_law_ 1941 = .ok (.iadd, 1) := by decide +kernel
theorem dL_law__1942 : decode cL_law_ 1942 = .ok (.iaload, 1) := by decide +kernel
theorem dL_law__1943 : decode cL_law_ 1943 = .ok (.aload_n 3, 1) := by decide +kernel
theorem dL_law__1944 : decode cL_law_ 1944 = .ok (.invokestatic 223, 3) := by decide +kernel
theorem dL_law__1947 : decode cL_law_ 1947 = .ok (.istore 5, 2) := by decide +kernel
theorem dL_law__1949 : decode cL_law_ 1949 = .ok (.aload_n 2, 1) := by decide +kernel
theorem dL_law__1950 : decode cL_law_ 1950 = .ok (.aload_n 0, 1) := by decide +kernel
theorem dL_law__1951 : decode cL_law_ 1951 = .ok (.iload 4, 2) := by decide +kernel
theorem dL_law__1953 : decode cL_law_ 1953 = .ok (.iconst 1, 1) := by decide +kernel
theorem dL_law__1954 : decode cL_law_ 1954 = .ok (.iadd, 1) := by decide +kernel
theorem dL_law__1955 : decode cL_law_ 1955 = .ok (.iaload, 1) := by decide +kernel
theorem dL_law__1956 : decode cL_law_ 1956 = .ok (.aload_n 0, 1) := by decide +kernel
theorem dL_law__1957 : decode cL_law_ 1957 = .ok (.iload 4, 2) := by decide +kernel
theorem dL_law__1959 : decode cL_law_ 1959 = .ok (.iconst 2, 1) := by decide +kernel
theorem dL_law__1960 : decode cL_law_ 1960 = .ok (.iadd, 1) := by decide +kernel
theorem dL_law__1961 : decode cL_law_ 1961 = .ok (.iaload, 1) := by decide +kernel
theorem dL_law__1962 : decode cL_law_ 1962 = .ok (.aload_n 0, 1) := by decide +kernel
theorem dL_law__1963 : decode cL_law_ 1963 = .ok (.iload 4, 2) := by decide +kernel
theorem dL_law__1965 : decode cL_law_ 1965 = .ok (.iconst 3, 1) := by decide +kernel
theorem dL_law__1966 : decode cL_law_ 1966 = .ok (.iadd, 1) := by decide +kernel
theorem dL_law__1967 : decode cL_law_ 1967 = .ok (.iaload, 1) := by decide +kernel
theorem dL_law__1968 : decode cL_law_ 1968 = .ok (.invokevirtual 225, 3) := by decide +kernel
theorem dL_law__1971 : decode cL_law_ 1971 = .ok (.istore 6, 2) := by decide +kernel
theorem dL_law__1973 : decode cL_law_ 1973 = .ok (.aload_n 2, 1) := by decide +kernel
theorem dL_law__1974 : decode cL_law_ 1974 = .ok (.invokevirtual 142, 3) := by decide +kernel
theorem dL_law__1977 : decode cL_law_ 1977 = .ok (.iload 5, 2) := by decide +kernel
theorem dL_law__1979 : decode cL_law_ 1979 = .ok (.if_icmp .eq 5, 3) := by decide +kernel
theorem dL_law__1982 : decode cL_law_ 1982 = .ok (.iconst 0, 1) := by decide +kernel
theorem dL_law__1983 : decode cL_law_ 1983 = .ok (.ireturn, 1) := by decide +kernel
theorem dL_law__1984 : decode cL_law_ 1984 = .ok (.iload 5, 2) := by decide +kernel
theorem dL_law__1986 : decode cL_law_ 1986 = .ok (.ifCond .ne 15, 3) := by decide +kernel
theorem dL_law__1989 : decode cL_law_ 1989 = .ok (.aload_n 3, 1) := by decide +kernel
theorem dL_law__1990 : decode cL_law_ 1990 = .ok (.iconst 0, 1) := by decide +kernel
theorem dL_law__1991 : decode cL_law_ 1991 = .ok (.laload, 1) := by decide +kernel
theorem dL_law__1992 : decode cL_law_ 1992 = .ok (.iload 6, 2) := by decide +kernel
theorem dL_law__1994 : decode cL_law_ 1994 = .ok (.i2l, 1) := by decide +kernel
theorem dL_law__1995 : decode cL_law_ 1995 = .ok (.lcmp, 1) := by decide +kernel
theorem dL_law__1996 : decode cL_law_ 1996 = .ok (.ifCond .eq 5, 3) := by decide +kernel
theorem dL_law__1999 : decode cL_law_ 1999 = .ok (.iconst 0, 1) := by decide +kernel
theorem dL_law__2000 : decode cL_law_ 2000 = .ok (.ireturn, 1) := by decide +kernel
theorem dL_law__2001 : decode cL_law_ 2001 = .ok (.goto 797, 3) := by decide +kernel
theorem dL_law__2004 : decode cL_law_ 2004 = .ok (.aload_n 1, 1) := by decide +kernel
theorem dL_law__2005 : decode cL_law_ 2005 = .ok (.aload_n 0, 1) := by decide +kernel
theorem dL_law__2006 : decode cL_law_ 2006 = .ok (.iload 4, 2) := by decide +kernel
theorem dL_law__2008 : decode cL_law_ 2008 = .ok (.iconst 1, 1) := by decide +kernel
theorem dL_law__2009 : decode cL_law_ 2009 = .ok (.iadd, 1) := by decide +kernel
theorem dL_law__2010 : decode cL_law_ 2010 = .ok (.iaload, 1) := by decide +kernel
theorem dL_law__2011 : decode cL_law_ 2011 = .ok (.aload_n 0, 1) := by decide +kernel
theorem dL_law__2012 : decode cL_law_ 2012 = .ok (.iload 4, 2) := by decide +kernel
theorem dL_law__2014 : decode cL_law_ 2014 = .ok (.iconst 2, 1) := by decide +kernel
theorem dL_law__2015 : decode cL_law_ 2015 = .ok (.iadd, 1) := by decide +kernel
theorem dL_law__2016 : decode cL_law_ 2016 = .ok (.iaload, 1) := by decide +kernel
theorem dL_law__2017 : decode cL_law_ 2017 = .ok (.aload_n 3, 1) := by decide +kernel
theorem dL_law__2018 : decode cL_law_ 2018 = .ok (.invokestatic 226, 3) := by decide +kernel
theorem dL_law__2021 : decode cL_law_ 2021 = .ok (.istore 5, 2) := by decide +kernel
theorem dL_law__2023 : decode cL_law_ 2023 = .ok (.aload_n 2, 1) := by decide +kernel
theorem dL_law__2024 : decode cL_law_ 2024 = .ok (.aload_n 0, 1) := by decide +kernel
theorem dL_law__2025 : decode cL_law_ 2025 = .ok (.iload 4, 2) := by decide +kernel
theorem dL_law__2027 : decode cL_law_ 2027 = .ok (.iconst 1, 1) := by decide +kernel
theorem dL_law__2028 : decode cL_law_ 2028 = .ok (.iadd, 1) := by decide +kernel
theorem dL_law__2029 : decode cL_law_ 2029 = .ok (.iaload, 1) := by decide +kernel
theorem dL_law__2030 : decode cL_law_ 2030 = .ok (.aload_n 0, 1) := by decide +kernel
theorem dL_law__2031 : decode cL_law_ 2031 = .ok (.iload 4, 2) := by decide +kernel
theorem dL_law__2033 : decode cL_law_ 2033 = .ok (.iconst 2, 1) := by decide +kernel
theorem dL_law__2034 : decode cL_law_ 2034 = .ok (.iadd, 1) := by decide +kernel
theorem dL_law__2035 : decode cL_law_ 2035 = .ok (.iaload, 1) := by decide +kernel
theorem dL_law__2036 : decode cL_law_ 2036 = .ok (.invokevirtual 228, 3) := by decide +kernel
theorem dL_law__2039 : decode cL_law_ 2039 = .ok (.istore 6, 2) := by decide +kernel
theorem dL_law__2041 : decode cL_law_ 2041 = .ok (.aload_n 2, 1) := by decide +kernel
theorem dL_law__2042 : decode cL_law_ 2042 = .ok (.invokevirtual 142, 3) := by decide +kernel
theorem dL_law__2045 : decode cL_law_ 2045 = .ok (.iload 5, 2) := by decide +kernel
theorem dL_law__2047 : decode cL_law_ 2047 = .ok (.if_icmp .eq 5, 3) := by decide +kernel
theorem dL_law__2050 : decode cL_law_ 2050 = .ok (.iconst 0, 1) := by decide +kernel
theorem dL_law__2051 : decode cL_law_ 2051 = .ok (.ireturn, 1) := by decide +kernel
theorem dL_law__2052 : decode cL_law_ 2052 = .ok (.iload 5, 2) := by decide +kernel
theorem dL_law__2054 : decode cL_law_ 2054 = .ok (.ifCond .ne 15, 3) := by decide +kernel
theorem dL_law__2057 : decode cL_law_ 2057 = .ok (.aload_n 3, 1) := by decide +kernel
theorem dL_law__2058 : decode cL_law_ 2058 = .ok (.iconst 0, 1) := by decide +kernel
theorem dL_law__2059 : decode cL_law_ 2059 = .ok (.laload, 1) := by decide +kernel
theorem dL_law__2060 : decode cL_law_ 2060 = .ok (.iload 6, 2) := by decide +kernel
theorem dL_law__2062 : decode cL_law_ 2062 = .ok (.i2l, 1) := by decide +kernel
theorem dL_law__2063 : decode cL_law_ 2063 = .ok (.lcmp, 1) := by decide +kernel
theorem dL_law__2064 : decode cL_law_ 2064 = .ok (.ifCond .eq 5, 3) := by decide +kernel
theorem dL_law__2067 : decode cL_law_ 2067 = .ok (.iconst 0, 1) := by decide +kernel
theorem dL_law__2068 : decode cL_law_ 2068 = .ok (.ireturn, 1) := by decide +kernel
theorem dL_law__2069 : decode cL_law_ 2069 = .ok (.goto 729, 3) := by decide +kernel
theorem dL_law__2072 : decode cL_law_ 2072 = .ok (.aload_n 1, 1) := by decide +kernel
theorem dL_law__2073 : decode cL_law_ 2073 = .ok (.aload_n 0, 1) := by decide +kernel
theorem dL_law__2074 : decode cL_law_ 2074 = .ok (.iload 4, 2) := by decide +kernel
theorem dL_law__2076 : decode cL_law_ 2076 = .ok (.iconst 1, 1) := by decide +kernel
theorem dL_law__2077 : decode cL_law_ 2077 = .ok (.iadd, 1) := by decide +kernel
theorem dL_law__2078 : decode cL_law_ 2078 = .ok (.iaload, 1) := by decide +kernel
theorem dL_law__2079 : decode cL_law_ 2079 = .ok (.aload_n 0, 1) := by decide +kernel
theorem dL_law__2080 : decode cL_law_ 2080 = .ok (.iload 4, 2) := by decide +kernel
theorem dL_law__2082 : decode cL_law_ 2082 = .ok (.iconst 2, 1) := by decide +kernel
theorem dL_law__2083 : decode cL_law_ 2083 = .ok (.iadd, 1) := by decide +kernel
theorem dL_law__2084 : decode cL_law_ 2084 = .ok (.iaload, 1) := by decide +kernel
theorem dL_law__2085 : decode cL_law_ 2085 = .ok (.aload_n 3, 1) := by decide +kernel
theorem dL_law__2086 : decode cL_law_ 2086 = .ok (.invokestatic 229, 3) := by decide +kernel
theorem dL_law__2089 : decode cL_law_ 2089 = .ok (.istore 5, 2) := by decide +kernel
theorem dL_law__2091 : decode cL_law_ 2091 = .ok (.aload_n 2, 1) := by decide +kernel
theorem dL_law__2092 : decode cL_law_ 2092 = .ok (.aload_n 0, 1) := by decide +kernel
theorem dL_law__2093 : decode cL_law_ 2093 = .ok (.iload 4, 2) := by decide +kernel
theorem dL_law__2095 : decode cL_law_ 2095 = .ok (.iconst 1, 1) := by decide +kernel
theorem dL_law__2096 : decode cL_law_ 2096 = .ok (.iadd, 1) := by decide +kernel
theorem dL_law__2097 : decode cL_law_ 2097 = .ok (.iaload, 1) := by decide +kernel
theorem dL_law__2098 : decode cL_law_ 2098 = .ok (.aload_n 0, 1) := by decide +kernel
theorem dL_law__2099 : decode cL_law_ 2099 = .ok (.iload 4, 2) := by decide +kernel
theorem dL_law__2101 : decode cL_law_ 2101 = .ok (.iconst 2, 1) := by decide +kernel
theorem dL_law__2102 : decode cL_law_ 2102 = .ok (.iadd, 1) := by decide +kernel
theorem dL_law__2103 : decode cL_law_ 2103 = .ok (.iaload, 1) := by decide +kernel
theorem dL_law__2104 : decode cL_law_ 2104 = .ok (.invokevirtual 231, 3) := by decide +kernel
theorem dL_law__2107 : decode cL_law_ 2107 = .ok (.istore 6, 2) := by decide +kernel
theorem dL_law__2109 : decode cL_law_ 2109 = .ok (.aload_n 2, 1) := by decide +kernel
theorem dL_law__2110 : decode cL_law_ 2110 = .ok (.invokevirtual 142, 3) := by decide +kernel
theorem dL_law__2113 : decode cL_law_ 2113 = .ok (.iload 5, 2) := by decide +kernel
theorem dL_law__2115 : decode cL_law_ 2115 = .ok (.if_icmp .eq 5, 3) := by decide +kernel
theorem dL_law__2118 : decode cL_law_ 2118 = .ok (.iconst 0, 1) := by decide +kernel
theorem dL_law__2119 : decode cL_law_ 2119 = .ok (.ireturn, 1) := by decide +kernel
theorem dL_law__2120 : decode cL_law_ 2120 = .ok (.iload 5, 2) := by decide +kernel
theorem dL_law__2122 : decode cL_law_ 2122 = .ok (.ifCond .ne 15, 3) := by decide +kernel
theorem dL_law__2125 : decode cL_law_ 2125 = .ok (.aload_n 3, 1) := by decide +kernel
theorem dL_law__2126 : decode cL_law_ 2126 = .ok (.iconst 0, 1) := by decide +kernel
theorem dL_law__2127 : decode cL_law_ 2127 = .ok (.laload, 1) := by decide +kernel
theorem dL_law__2128 : decode cL_law_ 2128 = .ok (.iload 6, 2) := by decide +kernel
theorem dL_law__2130 : decode cL_law_ 2130 = .ok (.i2l, 1) := by decide +kernel
theorem dL_law__2131 : decode cL_law_ 2131 = .ok (.lcmp, 1) := by decide +kernel
theorem dL_law__2132 : decode cL_law_ 2132 = .ok (.ifCond .eq 5, 3) := by decide +kernel
theorem dL_law__2135 : decode cL_law_ 2135 = .ok (.iconst 0, 1) := by decide +kernel
theorem dL_law__2136 : decode cL_law_ 2136 = .ok (.ireturn, 1) := by decide +kernel
theorem dL_law__2137 : decode cL_law_ 2137 = .ok (.goto 661, 3) := by decide +kernel
theorem dL_law__2140 : decode cL_law_ 2140 = .ok (.aload_n 1, 1) := by decide +kernel
theorem dL_law__2141 : decode cL_law_ 2141 = .ok (.aload_n 0, 1) := by decide +kernel
theorem dL_law__2142 : decode cL_law_ 2142 = .ok (.iload 4, 2) := by decide +kernel
theorem dL_law__2144 : decode cL_law_ 2144 = .ok (.iconst 1, 1) := by decide +kernel
theorem dL_law__2145 : decode cL_law_ 2145 = .ok (.iadd, 1) := by decide +kernel
theorem dL_law__2146 : decode cL_law_ 2146 = .ok (.iaload, 1) := by decide +kernel
theorem dL_law__2147 : decode cL_law_ 2147 = .ok (.aload_n 3, 1) := by decide +kernel
