/-! ===== what stands at each place: the law, 5 ===== -/
theorem dL_law__1866 : decode cL_law_ 1866 = .ok (.aload_n 0, 1) := by decide +kernel
theorem dL_law__1867 : decode cL_law_ 1867 = .ok (.iload 4, 2) := by decide +kernel
theorem dL_law__1869 : decode cL_law_ 1869 = .ok (.iconst 1, 1) := by decide +kernel
theorem dL_law__1870 : decode cL_law_ 1870 = .ok (.iadd, 1) := by decide +kernel
theorem dL_law__1871 : decode cL_law_ 1871 = .ok (.iaload, 1) := by decide +kernel
theorem dL_law__1872 : decode cL_law_ 1872 = .ok (.aload_n 0, 1) := by decide +kernel
theorem dL_law__1873 : decode cL_law_ 1873 = .ok (.iload 4, 2) := by decide +kernel
theorem dL_law__1875 : decode cL_law_ 1875 = .ok (.iconst 2, 1) := by decide +kernel
theorem dL_law__1876 : decode cL_law_ 1876 = .ok (.iadd, 1) := by decide +kernel
theorem dL_law__1877 : decode cL_law_ 1877 = .ok (.iaload, 1) := by decide +kernel
theorem dL_law__1878 : decode cL_law_ 1878 = .ok (.invokevirtual 235, 3) := by decide +kernel
theorem dL_law__1881 : decode cL_law_ 1881 = .ok (.istore 6, 2) := by decide +kernel
theorem dL_law__1883 : decode cL_law_ 1883 = .ok (.aload_n 2, 1) := by decide +kernel
theorem dL_law__1884 : decode cL_law_ 1884 = .ok (.invokevirtual 152, 3) := by decide +kernel
theorem dL_law__1887 : decode cL_law_ 1887 = .ok (.iload 5, 2) := by decide +kernel
theorem dL_law__1889 : decode cL_law_ 1889 = .ok (.if_icmp .eq 5, 3) := by decide +kernel
theorem dL_law__1892 : decode cL_law_ 1892 = .ok (.iconst 0, 1) := by decide +kernel
theorem dL_law__1893 : decode cL_law_ 1893 = .ok (.ireturn, 1) := by decide +kernel
theorem dL_law__1894 : decode cL_law_ 1894 = .ok (.iload 5, 2) := by decide +kernel
theorem dL_law__1896 : decode cL_law_ 1896 = .ok (.ifCond .ne 15, 3) := by decide +kernel
theorem dL_law__1899 : decode cL_law_ 1899 = .ok (.aload_n 3, 1) := by decide +kernel
theorem dL_law__1900 : decode cL_law_ 1900 = .ok (.iconst 0, 1) := by decide +kernel
theorem dL_law__1901 : decode cL_law_ 1901 = .ok (.laload, 1) := by decide +kernel
theorem dL_law__1902 : decode cL_law_ 1902 = .ok (.iload 6, 2) := by decide +kernel
theorem dL_law__1904 : decode cL_law_ 1904 = .ok (.i2l, 1) := by decide +kernel
theorem dL_law__1905 : decode cL_law_ 1905 = .ok (.lcmp, 1) := by decide +kernel
theorem dL_law__1906 : decode cL_law_ 1906 = .ok (.ifCond .eq 5, 3) := by decide +kernel
theorem dL_law__1909 : decode cL_law_ 1909 = .ok (.iconst 0, 1) := by decide +kernel
theorem dL_law__1910 : decode cL_law_ 1910 = .ok (.ireturn, 1) := by decide +kernel
theorem dL_law__1911 : decode cL_law_ 1911 = .ok (.goto 1039, 3) := by decide +kernel
theorem dL_law__1914 : decode cL_law_ 1914 = .ok (.aload_n 1, 1) := by decide +kernel
theorem dL_law__1915 : decode cL_law_ 1915 = .ok (.aload_n 3, 1) := by decide +kernel
theorem dL_law__1916 : decode cL_law_ 1916 = .ok (.invokestatic 236, 3) := by decide +kernel
theorem dL_law__1919 : decode cL_law_ 1919 = .ok (.istore 5, 2) := by decide +kernel
theorem dL_law__1921 : decode cL_law_ 1921 = .ok (.aload_n 2, 1) := by decide +kernel
theorem dL_law__1922 : decode cL_law_ 1922 = .ok (.invokevirtual 239, 3) := by decide +kernel
theorem dL_law__1925 : decode cL_law_ 1925 = .ok (.lstore 6, 2) := by decide +kernel
theorem dL_law__1927 : decode cL_law_ 1927 = .ok (.aload_n 2, 1) := by decide +kernel
theorem dL_law__1928 : decode cL_law_ 1928 = .ok (.invokevirtual 152, 3) := by decide +kernel
theorem dL_law__1931 : decode cL_law_ 1931 = .ok (.iload 5, 2) := by decide +kernel
theorem dL_law__1933 : decode cL_law_ 1933 = .ok (.if_icmp .eq 5, 3) := by decide +kernel
theorem dL_law__1936 : decode cL_law_ 1936 = .ok (.iconst 0, 1) := by decide +kernel
theorem dL_law__1937 : decode cL_law_ 1937 = .ok (.ireturn, 1) := by decide +kernel
theorem dL_law__1938 : decode cL_law_ 1938 = .ok (.iload 5, 2) := by decide +kernel
theorem dL_law__1940 : decode cL_law_ 1940 = .ok (.ifCond .ne 14, 3) := by decide +kernel
theorem dL_law__1943 : decode cL_law_ 1943 = .ok (.aload_n 3, 1) := by decide +kernel
theorem dL_law__1944 : decode cL_law_ 1944 = .ok (.iconst 0, 1) := by decide +kernel
theorem dL_law__1945 : decode cL_law_ 1945 = .ok (.laload, 1) := by decide +kernel
theorem dL_law__1946 : decode cL_law_ 1946 = .ok (.lload 6, 2) := by decide +kernel
theorem dL_law__1948 : decode cL_law_ 1948 = .ok (.lcmp, 1) := by decide +kernel
theorem dL_law__1949 : decode cL_law_ 1949 = .ok (.ifCond .eq 5, 3) := by decide +kernel
theorem dL_law__1952 : decode cL_law_ 1952 = .ok (.iconst 0, 1) := by decide +kernel
theorem dL_law__1953 : decode cL_law_ 1953 = .ok (.ireturn, 1) := by decide +kernel
theorem dL_law__1954 : decode cL_law_ 1954 = .ok (.goto 996, 3) := by decide +kernel
theorem dL_law__1957 : decode cL_law_ 1957 = .ok (.aload_n 1, 1) := by decide +kernel
theorem dL_law__1958 : decode cL_law_ 1958 = .ok (.aload_n 0, 1) := by decide +kernel
theorem dL_law__1959 : decode cL_law_ 1959 = .ok (.iload 4, 2) := by decide +kernel
theorem dL_law__1961 : decode cL_law_ 1961 = .ok (.iconst 1, 1) := by decide +kernel
theorem dL_law__1962 : decode cL_law_ 1962 = .ok (.iadd, 1) := by decide +kernel
theorem dL_law__1963 : decode cL_law_ 1963 = .ok (.iaload, 1) := by decide +kernel
theorem dL_law__1964 : decode cL_law_ 1964 = .ok (.aload_n 3, 1) := by decide +kernel
theorem dL_law__1965 : decode cL_law_ 1965 = .ok (.invokestatic 240, 3) := by decide +kernel
theorem dL_law__1968 : decode cL_law_ 1968 = .ok (.istore 5, 2) := by decide +kernel
theorem dL_law__1970 : decode cL_law_ 1970 = .ok (.aload_n 2, 1) := by decide +kernel
theorem dL_law__1971 : decode cL_law_ 1971 = .ok (.aload_n 0, 1) := by decide +kernel
theorem dL_law__1972 : decode cL_law_ 1972 = .ok (.iload 4, 2) := by decide +kernel
theorem dL_law__1974 : decode cL_law_ 1974 = .ok (.iconst 1, 1) := by decide +kernel
theorem dL_law__1975 : decode cL_law_ 1975 = .ok (.iadd, 1) := by decide +kernel
theorem dL_law__1976 : decode cL_law_ 1976 = .ok (.iaload, 1) := by decide +kernel
theorem dL_law__1977 : decode cL_law_ 1977 = .ok (.invokevirtual 242, 3) := by decide +kernel
theorem dL_law__1980 : decode cL_law_ 1980 = .ok (.istore 6, 2) := by decide +kernel
theorem dL_law__1982 : decode cL_law_ 1982 = .ok (.aload_n 2, 1) := by decide +kernel
theorem dL_law__1983 : decode cL_law_ 1983 = .ok (.invokevirtual 152, 3) := by decide +kernel
theorem dL_law__1986 : decode cL_law_ 1986 = .ok (.iload 5, 2) := by decide +kernel
theorem dL_law__1988 : decode cL_law_ 1988 = .ok (.if_icmp .eq 5, 3) := by decide +kernel
theorem dL_law__1991 : decode cL_law_ 1991 = .ok (.iconst 0, 1) := by decide +kernel
theorem dL_law__1992 : decode cL_law_ 1992 = .ok (.ireturn, 1) := by decide +kernel
theorem dL_law__1993 : decode cL_law_ 1993 = .ok (.iload 5, 2) := by decide +kernel
theorem dL_law__1995 : decode cL_law_ 1995 = .ok (.ifCond .ne 15, 3) := by decide +kernel
theorem dL_law__1998 : decode cL_law_ 1998 = .ok (.aload_n 3, 1) := by decide +kernel
theorem dL_law__1999 : decode cL_law_ 1999 = .ok (.iconst 0, 1) := by decide +kernel
theorem dL_law__2000 : decode cL_law_ 2000 = .ok (.laload, 1) := by decide +kernel
theorem dL_law__2001 : decode cL_law_ 2001 = .ok (.iload 6, 2) := by decide +kernel
theorem dL_law__2003 : decode cL_law_ 2003 = .ok (.i2l, 1) := by decide +kernel
theorem dL_law__2004 : decode cL_law_ 2004 = .ok (.lcmp, 1) := by decide +kernel
theorem dL_law__2005 : decode cL_law_ 2005 = .ok (.ifCond .eq 5, 3) := by decide +kernel
theorem dL_law__2008 : decode cL_law_ 2008 = .ok (.iconst 0, 1) := by decide +kernel
theorem dL_law__2009 : decode cL_law_ 2009 = .ok (.ireturn, 1) := by decide +kernel
theorem dL_law__2010 : decode cL_law_ 2010 = .ok (.goto 940, 3) := by decide +kernel
theorem dL_law__2013 : decode cL_law_ 2013 = .ok (.aload_n 1, 1) := by decide +kernel
theorem dL_law__2014 : decode cL_law_ 2014 = .ok (.aload_n 3, 1) := by decide +kernel
theorem dL_law__2015 : decode cL_law_ 2015 = .ok (.invokestatic 243, 3) := by decide +kernel
theorem dL_law__2018 : decode cL_law_ 2018 = .ok (.istore 5, 2) := by decide +kernel
theorem dL_law__2020 : decode cL_law_ 2020 = .ok (.aload_n 2, 1) := by decide +kernel
theorem dL_law__2021 : decode cL_law_ 2021 = .ok (.invokevirtual 245, 3) := by decide +kernel
theorem dL_law__2024 : decode cL_law_ 2024 = .ok (.istore 6, 2) := by decide +kernel
theorem dL_law__2026 : decode cL_law_ 2026 = .ok (.aload_n 2, 1) := by decide +kernel
theorem dL_law__2027 : decode cL_law_ 2027 = .ok (.invokevirtual 152, 3) := by decide +kernel
theorem dL_law__2030 : decode cL_law_ 2030 = .ok (.iload 5, 2) := by decide +kernel
theorem dL_law__2032 : decode cL_law_ 2032 = .ok (.if_icmp .eq 5, 3) := by decide +kernel
theorem dL_law__2035 : decode cL_law_ 2035 = .ok (.iconst 0, 1) := by decide +kernel
theorem dL_law__2036 : decode cL_law_ 2036 = .ok (.ireturn, 1) := by decide +kernel
theorem dL_law__2037 : decode cL_law_ 2037 = .ok (.iload 5, 2) := by decide +kernel
theorem dL_law__2039 : decode cL_law_ 2039 = .ok (.ifCond .ne 15, 3) := by decide +kernel
theorem dL_law__2042 : decode cL_law_ 2042 = .ok (.aload_n 3, 1) := by decide +kernel
theorem dL_law__2043 : decode cL_law_ 2043 = .ok (.iconst 0, 1) := by decide +kernel
theorem dL_law__2044 : decode cL_law_ 2044 = .ok (.laload, 1) := by decide +kernel
theorem dL_law__2045 : decode cL_law_ 2045 = .ok (.iload 6, 2) := by decide +kernel
theorem dL_law__2047 : decode cL_law_ 2047 = .ok (.i2l, 1) := by decide +kernel
theorem dL_law__2048 : decode cL_law_ 2048 = .ok (.lcmp, 1) := by decide +kernel
theorem dL_law__2049 : decode cL_law_ 2049 = .ok (.ifCond .eq 5, 3) := by decide +kernel
theorem dL_law__2052 : decode cL_law_ 2052 = .ok (.iconst 0, 1) := by decide +kernel
theorem dL_law__2053 : decode cL_law_ 2053 = .ok (.ireturn, 1) := by decide +kernel
theorem dL_law__2054 : decode cL_law_ 2054 = .ok (.goto 896, 3) := by decide +kernel
theorem dL_law__2057 : decode cL_law_ 2057 = .ok (.aload_n 1, 1) := by decide +kernel
theorem dL_law__2058 : decode cL_law_ 2058 = .ok (.aload_n 0, 1) := by decide +kernel
theorem dL_law__2059 : decode cL_law_ 2059 = .ok (.iload 4, 2) := by decide +kernel
theorem dL_law__2061 : decode cL_law_ 2061 = .ok (.iconst 1, 1) := by decide +kernel
theorem dL_law__2062 : decode cL_law_ 2062 = .ok (.iadd, 1) := by decide +kernel
theorem dL_law__2063 : decode cL_law_ 2063 = .ok (.iaload, 1) := by decide +kernel
theorem dL_law__2064 : decode cL_law_ 2064 = .ok (.aload_n 0, 1) := by decide +kernel
theorem dL_law__2065 : decode cL_law_ 2065 = .ok (.iload 4, 2) := by decide +kernel
theorem dL_law__2067 : decode cL_law_ 2067 = .ok (.iconst 2, 1) := by decide +kernel
theorem dL_law__2068 : decode cL_law_ 2068 = .ok (.iadd, 1) := by decide +kernel
theorem dL_law__2069 : decode cL_law_ 2069 = .ok (.iaload, 1) := by decide +kernel
theorem dL_law__2070 : decode cL_law_ 2070 = .ok (.aload_n 0, 1) := by decide +kernel
theorem dL_law__2071 : decode cL_law_ 2071 = .ok (.iload 4, 2) := by decide +kernel
theorem dL_law__2073 : decode cL_law_ 2073 = .ok (.iconst 3, 1) := by decide +kernel
theorem dL_law__2074 : decode cL_law_ 2074 = .ok (.iadd, 1) := by decide +kernel
theorem dL_law__2075 : decode cL_law_ 2075 = .ok (.iaload, 1) := by decide +kernel
theorem dL_law__2076 : decode cL_law_ 2076 = .ok (.aload_n 3, 1) := by decide +kernel
theorem dL_law__2077 : decode cL_law_ 2077 = .ok (.invokestatic 246, 3) := by decide +kernel
theorem dL_law__2080 : decode cL_law_ 2080 = .ok (.istore 5, 2) := by decide +kernel
theorem dL_law__2082 : decode cL_law_ 2082 = .ok (.aload_n 2, 1) := by decide +kernel
theorem dL_law__2083 : decode cL_law_ 2083 = .ok (.aload_n 0, 1) := by decide +kernel
theorem dL_law__2084 : decode cL_law_ 2084 = .ok (.iload 4, 2) := by decide +kernel
theorem dL_law__2086 : decode cL_law_ 2086 = .ok (.iconst 1, 1) := by decide +kernel
theorem dL_law__2087 : decode cL_law_ 2087 = .ok (.iadd, 1) := by decide +kernel
theorem dL_law__2088 : decode cL_law_ 2088 = .ok (.iaload, 1) := by decide +kernel
theorem dL_law__2089 : decode cL_law_ 2089 = .ok (.aload_n 0, 1) := by decide +kernel
theorem dL_law__2090 : decode cL_law_ 2090 = .ok (.iload 4, 2) := by decide +kernel
theorem dL_law__2092 : decode cL_law_ 2092 = .ok (.iconst 2, 1) := by decide +kernel
theorem dL_law__2093 : decode cL_law_ 2093 = .ok (.iadd, 1) := by decide +kernel
theorem dL_law__2094 : decode cL_law_ 2094 = .ok (.iaload, 1) := by decide +kernel
theorem dL_law__2095 : decode cL_law_ 2095 = .ok (.aload_n 0, 1) := by decide +kernel
theorem dL_law__2096 : decode cL_law_ 2096 = .ok (.iload 4, 2) := by decide +kernel
theorem dL_law__2098 : decode cL_law_ 2098 = .ok (.iconst 3, 1) := by decide +kernel
theorem dL_law__2099 : decode cL_law_ 2099 = .ok (.iadd, 1) := by decide +kernel
theorem dL_law__2100 : decode cL_law_ 2100 = .ok (.iaload, 1) := by decide +kernel
theorem dL_law__2101 : decode cL_law_ 2101 = .ok (.invokevirtual 248, 3) := by decide +kernel
theorem dL_law__2104 : decode cL_law_ 2104 = .ok (.istore 6, 2) := by decide +kernel
theorem dL_law__2106 : decode cL_law_ 2106 = .ok (.aload_n 2, 1) := by decide +kernel
theorem dL_law__2107 : decode cL_law_ 2107 = .ok (.invokevirtual 152, 3) := by decide +kernel
theorem dL_law__2110 : decode cL_law_ 2110 = .ok (.iload 5, 2) := by decide +kernel
theorem dL_law__2112 : decode cL_law_ 2112 = .ok (.if_icmp .eq 5, 3) := by decide +kernel
theorem dL_law__2115 : decode cL_law_ 2115 = .ok (.iconst 0, 1) := by decide +kernel
theorem dL_law__2116 : decode cL_law_ 2116 = .ok (.ireturn, 1) := by decide +kernel
theorem dL_law__2117 : decode cL_law_ 2117 = .ok (.iload 5, 2) := by decide +kernel
theorem dL_law__2119 : decode cL_law_ 2119 = .ok (.ifCond .ne 15, 3) := by decide +kernel
theorem dL_law__2122 : decode cL_law_ 2122 = .ok (.aload_n 3, 1) := by decide +kernel
theorem dL_law__2123 : decode cL_law_ 2123 = .ok (.iconst 0, 1) := by decide +kernel
theorem dL_law__2124 : decode cL_law_ 2124 = .ok (.laload, 1) := by decide +kernel
theorem dL_law__2125 : decode cL_law_ 2125 = .ok (.iload 6, 2) := by decide +kernel
theorem dL_law__2127 : decode cL_law_ 2127 = .ok (.i2l, 1) := by decide +kernel
theorem dL_law__2128 : decode cL_law_ 2128 = .ok (.lcmp, 1) := by decide +kernel
theorem dL_law__2129 : decode cL_law_ 2129 = .ok (.ifCond .eq 5, 3) := by decide +kernel
theorem dL_law__2132 : decode cL_law_ 2132 = .ok (.iconst 0, 1) := by decide +kernel
theorem dL_law__2133 : decode cL_law_ 2133 = .ok (.ireturn, 1) := by decide +kernel
theorem dL_law__2134 : decode cL_law_ 2134 = .ok (.goto 816, 3) := by decide +kernel
theorem dL_law__2137 : decode cL_law_ 2137 = .ok (.aload_n 1, 1) := by decide +kernel
theorem dL_law__2138 : decode cL_law_ 2138 = .ok (.aload_n 0, 1) := by decide +kernel
theorem dL_law__2139 : decode cL_law_ 2139 = .ok (.iload 4, 2) := by decide +kernel
theorem dL_law__2141 : decode cL_law_ 2141 = .ok (.iconst 1, 1) := by decide +kernel
theorem dL_law__2142 : decode cL_law_ 2142 = .ok (.iadd, 1) := by decide +kernel
theorem dL_law__2143 : decode cL_law_ 2143 = .ok (.iaload, 1) := by decide +kernel
theorem dL_law__2144 : decode cL_law_ 2144 = .ok (.aload_n 3, 1) := by decide +kernel
theorem dL_law__2145 : decode cL_law_ 2145 = .ok (.invokestatic 249, 3) := by decide +kernel
theorem dL_law__2148 : decode cL_law_ 2148 = .ok (.istore 5, 2) := by decide +kernel
theorem dL_law__2150 : decode cL_law_ 2150 = .ok (.aload_n 2, 1) := by decide +kernel
theorem dL_law__2151 : decode cL_law_ 2151 = .ok (.aload_n 0, 1) := by decide +kernel
theorem dL_law__2152 : decode cL_law_ 2152 = .ok (.iload 4, 2) := by decide +kernel
theorem dL_law__2154 : decode cL_law_ 2154 = .ok (.iconst 1, 1) := by decide +kernel
theorem dL_law__2155 : decode cL_law_ 2155 = .ok (.iadd, 1) := by decide +kernel
theorem dL_law__2156 : decode cL_law_ 2156 = .ok (.iaload, 1) := by decide +kernel
theorem dL_law__2157 : decode cL_law_ 2157 = .ok (.invokevirtual 251, 3) := by decide +kernel
theorem dL_law__2160 : decode cL_law_ 2160 = .ok (.istore 6, 2) := by decide +kernel
theorem dL_law__2162 : decode cL_law_ 2162 = .ok (.aload_n 2, 1) := by decide +kernel
theorem dL_law__2163 : decode cL_law_ 2163 = .ok (.invokevirtual 152, 3) := by decide +kernel
theorem dL_law__2166 : decode cL_law_ 2166 = .ok (.iload 5, 2) := by decide +kernel
theorem dL_law__2168 : decode cL_law_ 2168 = .ok (.if_icmp .eq 5, 3) := by decide +kernel
theorem dL_law__2171 : decode cL_law_ 2171 = .ok (.iconst 0, 1) := by decide +kernel
theorem dL_law__2172 : decode cL_law_ 2172 = .ok (.ireturn, 1) := by decide +kernel
theorem dL_law__2173 : decode cL_law_ 2173 = .ok (.iload 5, 2) := by decide +kernel
theorem dL_law__2175 : decode cL_law_ 2175 = .ok (.ifCond .ne 15, 3) := by decide +kernel
theorem dL_law__2178 : decode cL_law_ 2178 = .ok (.aload_n 3, 1) := by decide +kernel
theorem dL_law__2179 : decode cL_law_ 2179 = .ok (.iconst 0, 1) := by decide +kernel
theorem dL_law__2180 : decode cL_law_ 2180 = .ok (.laload, 1) := by decide +kernel
theorem dL_law__2181 : decode cL_law_ 2181 = .ok (.iload 6, 2) := by decide +kernel
theorem dL_law__2183 : decode cL_law_ 2183 = .ok (.i2l, 1) := by decide +kernel
theorem dL_law__2184 : decode cL_law_ 2184 = .ok (.lcmp, 1) := by decide +kernel
theorem dL_law__2185 : decode cL_law_ 2185 = .ok (.ifCond .eq 5, 3) := by decide +kernel
theorem dL_law__2188 : decode cL_law_ 2188 = .ok (.iconst 0, 1) := by decide +kernel
theorem dL_law__2189 : decode cL_law_ 2189 = .ok (.ireturn, 1) := by decide +kernel
theorem dL_law__2190 : decode cL_law_ 2190 = .ok (.goto 760, 3) := by decide +kernel
theorem dL_law__2193 : decode cL_law_ 2193 = .ok (.aload_n 1, 1) := by decide +kernel
theorem dL_law__2194 : decode cL_law_ 2194 = .ok (.aload_n 0, 1) := by decide +kernel
theorem dL_law__2195 : decode cL_law_ 2195 = .ok (.iload 4, 2) := by decide +kernel
theorem dL_law__2197 : decode cL_law_ 2197 = .ok (.iconst 1, 1) := by decide +kernel
theorem dL_law__2198 : decode cL_law_ 2198 = .ok (.iadd, 1) := by decide +kernel
theorem dL_law__2199 : decode cL_law_ 2199 = .ok (.iaload, 1) := by decide +kernel
theorem dL_law__2200 : decode cL_law_ 2200 = .ok (.aload_n 0, 1) := by decide +kernel
theorem dL_law__2201 : decode cL_law_ 2201 = .ok (.iload 4, 2) := by decide +kernel
theorem dL_law__2203 : decode cL_law_ 2203 = .ok (.iconst 2, 1) := by decide +kernel
theorem dL_law__2204 : decode cL_law_ 2204 = .ok (.iadd, 1) := by decide +kernel
theorem dL_law__2205 : decode cL_law_ 2205 = .ok (.iaload, 1) := by decide +kernel
theorem dL_law__2206 : decode cL_law_ 2206 = .ok (.aload_n 3, 1) := by decide +kernel
theorem dL_law__2207 : decode cL_law_ 2207 = .ok (.invokestatic 252, 3) := by decide +kernel
theorem dL_law__2210 : decode cL_law_ 2210 = .ok (.istore 5, 2) := by decide +kernel
theorem dL_law__2212 : decode cL_law_ 2212 = .ok (.aload_n 2, 1) := by decide +kernel
theorem dL_law__2213 : decode cL_law_ 2213 = .ok (.aload_n 0, 1) := by decide +kernel

