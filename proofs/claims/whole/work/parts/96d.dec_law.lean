theorem dL_law_1920 : decode cL_law 1920 = .ok (.ireturn, 1) := by decide +kernel
theorem dL_law_1921 : decode cL_law 1921 = .ok (.iload 6, 2) := by decide +kernel
theorem dL_law_1923 : decode cL_law 1923 = .ok (.ifCond .ne 15, 3) := by decide +kernel
theorem dL_law_1926 : decode cL_law 1926 = .ok (.aload_n 3, 1) := by decide +kernel
theorem dL_law_1927 : decode cL_law 1927 = .ok (.iconst 0, 1) := by decide +kernel
theorem dL_law_1928 : decode cL_law 1928 = .ok (.laload, 1) := by decide +kernel
theorem dL_law_1929 : decode cL_law 1929 = .ok (.iload 7, 2) := by decide +kernel
theorem dL_law_1931 : decode cL_law 1931 = .ok (.i2l, 1) := by decide +kernel
theorem dL_law_1932 : decode cL_law 1932 = .ok (.lcmp, 1) := by decide +kernel
theorem dL_law_1933 : decode cL_law 1933 = .ok (.ifCond .eq 5, 3) := by decide +kernel
theorem dL_law_1936 : decode cL_law 1936 = .ok (.iconst 0, 1) := by decide +kernel
theorem dL_law_1937 : decode cL_law 1937 = .ok (.ireturn, 1) := by decide +kernel
theorem dL_law_1938 : decode cL_law 1938 = .ok (.goto 2311, 3) := by decide +kernel
theorem dL_law_1941 : decode cL_law 1941 = .ok (.aload_n 1, 1) := by decide +kernel
theorem dL_law_1942 : decode cL_law 1942 = .ok (.aload_n 0, 1) := by decide +kernel
theorem dL_law_1943 : decode cL_law 1943 = .ok (.iload 5, 2) := by decide +kernel
theorem dL_law_1945 : decode cL_law 1945 = .ok (.iconst 1, 1) := by decide +kernel
theorem dL_law_1946 : decode cL_law 1946 = .ok (.iadd, 1) := by decide +kernel
theorem dL_law_1947 : decode cL_law 1947 = .ok (.iaload, 1) := by decide +kernel
theorem dL_law_1948 : decode cL_law 1948 = .ok (.aload_n 0, 1) := by decide +kernel
theorem dL_law_1949 : decode cL_law 1949 = .ok (.iload 5, 2) := by decide +kernel
theorem dL_law_1951 : decode cL_law 1951 = .ok (.iconst 2, 1) := by decide +kernel
theorem dL_law_1952 : decode cL_law 1952 = .ok (.iadd, 1) := by decide +kernel
theorem dL_law_1953 : decode cL_law 1953 = .ok (.iaload, 1) := by decide +kernel
theorem dL_law_1954 : decode cL_law 1954 = .ok (.aload_n 0, 1) := by decide +kernel
theorem dL_law_1955 : decode cL_law 1955 = .ok (.iload 5, 2) := by decide +kernel
theorem dL_law_1957 : decode cL_law 1957 = .ok (.iconst 3, 1) := by decide +kernel
theorem dL_law_1958 : decode cL_law 1958 = .ok (.iadd, 1) := by decide +kernel
theorem dL_law_1959 : decode cL_law 1959 = .ok (.iaload, 1) := by decide +kernel
theorem dL_law_1960 : decode cL_law 1960 = .ok (.aload_n 0, 1) := by decide +kernel
theorem dL_law_1961 : decode cL_law 1961 = .ok (.iload 5, 2) := by decide +kernel
theorem dL_law_1963 : decode cL_law 1963 = .ok (.iconst 4, 1) := by decide +kernel
theorem dL_law_1964 : decode cL_law 1964 = .ok (.iadd, 1) := by decide +kernel
theorem dL_law_1965 : decode cL_law 1965 = .ok (.iaload, 1) := by decide +kernel
theorem dL_law_1966 : decode cL_law 1966 = .ok (.aload_n 3, 1) := by decide +kernel
theorem dL_law_1967 : decode cL_law 1967 = .ok (.invokestatic 293, 3) := by decide +kernel
theorem dL_law_1970 : decode cL_law 1970 = .ok (.istore 6, 2) := by decide +kernel
theorem dL_law_1972 : decode cL_law 1972 = .ok (.aload_n 2, 1) := by decide +kernel
theorem dL_law_1973 : decode cL_law 1973 = .ok (.aload_n 0, 1) := by decide +kernel
theorem dL_law_1974 : decode cL_law 1974 = .ok (.iload 5, 2) := by decide +kernel
theorem dL_law_1976 : decode cL_law 1976 = .ok (.iconst 1, 1) := by decide +kernel
theorem dL_law_1977 : decode cL_law 1977 = .ok (.iadd, 1) := by decide +kernel
theorem dL_law_1978 : decode cL_law 1978 = .ok (.iaload, 1) := by decide +kernel
theorem dL_law_1979 : decode cL_law 1979 = .ok (.aload_n 0, 1) := by decide +kernel
theorem dL_law_1980 : decode cL_law 1980 = .ok (.iload 5, 2) := by decide +kernel
theorem dL_law_1982 : decode cL_law 1982 = .ok (.iconst 2, 1) := by decide +kernel
theorem dL_law_1983 : decode cL_law 1983 = .ok (.iadd, 1) := by decide +kernel
theorem dL_law_1984 : decode cL_law 1984 = .ok (.iaload, 1) := by decide +kernel
theorem dL_law_1985 : decode cL_law 1985 = .ok (.aload_n 0, 1) := by decide +kernel
theorem dL_law_1986 : decode cL_law 1986 = .ok (.iload 5, 2) := by decide +kernel
theorem dL_law_1988 : decode cL_law 1988 = .ok (.iconst 3, 1) := by decide +kernel
theorem dL_law_1989 : decode cL_law 1989 = .ok (.iadd, 1) := by decide +kernel
theorem dL_law_1990 : decode cL_law 1990 = .ok (.iaload, 1) := by decide +kernel
theorem dL_law_1991 : decode cL_law 1991 = .ok (.aload_n 0, 1) := by decide +kernel
theorem dL_law_1992 : decode cL_law 1992 = .ok (.iload 5, 2) := by decide +kernel
theorem dL_law_1994 : decode cL_law 1994 = .ok (.iconst 4, 1) := by decide +kernel
theorem dL_law_1995 : decode cL_law 1995 = .ok (.iadd, 1) := by decide +kernel
theorem dL_law_1996 : decode cL_law 1996 = .ok (.iaload, 1) := by decide +kernel
theorem dL_law_1997 : decode cL_law 1997 = .ok (.invokevirtual 295, 3) := by decide +kernel
theorem dL_law_2000 : decode cL_law 2000 = .ok (.lstore 7, 2) := by decide +kernel
theorem dL_law_2002 : decode cL_law 2002 = .ok (.aload_n 2, 1) := by decide +kernel
theorem dL_law_2003 : decode cL_law 2003 = .ok (.invokevirtual 202, 3) := by decide +kernel
theorem dL_law_2006 : decode cL_law 2006 = .ok (.iload 6, 2) := by decide +kernel
theorem dL_law_2008 : decode cL_law 2008 = .ok (.if_icmp .eq 5, 3) := by decide +kernel
theorem dL_law_2011 : decode cL_law 2011 = .ok (.iconst 0, 1) := by decide +kernel
theorem dL_law_2012 : decode cL_law 2012 = .ok (.ireturn, 1) := by decide +kernel
theorem dL_law_2013 : decode cL_law 2013 = .ok (.iload 6, 2) := by decide +kernel
theorem dL_law_2015 : decode cL_law 2015 = .ok (.ifCond .ne 14, 3) := by decide +kernel
theorem dL_law_2018 : decode cL_law 2018 = .ok (.aload_n 3, 1) := by decide +kernel
theorem dL_law_2019 : decode cL_law 2019 = .ok (.iconst 0, 1) := by decide +kernel
theorem dL_law_2020 : decode cL_law 2020 = .ok (.laload, 1) := by decide +kernel
theorem dL_law_2021 : decode cL_law 2021 = .ok (.lload 7, 2) := by decide +kernel
theorem dL_law_2023 : decode cL_law 2023 = .ok (.lcmp, 1) := by decide +kernel
theorem dL_law_2024 : decode cL_law 2024 = .ok (.ifCond .eq 5, 3) := by decide +kernel
theorem dL_law_2027 : decode cL_law 2027 = .ok (.iconst 0, 1) := by decide +kernel
theorem dL_law_2028 : decode cL_law 2028 = .ok (.ireturn, 1) := by decide +kernel
theorem dL_law_2029 : decode cL_law 2029 = .ok (.goto 2220, 3) := by decide +kernel
theorem dL_law_2032 : decode cL_law 2032 = .ok (.aload_n 1, 1) := by decide +kernel
theorem dL_law_2033 : decode cL_law 2033 = .ok (.aload_n 0, 1) := by decide +kernel
theorem dL_law_2034 : decode cL_law 2034 = .ok (.iload 5, 2) := by decide +kernel
theorem dL_law_2036 : decode cL_law 2036 = .ok (.iconst 1, 1) := by decide +kernel
theorem dL_law_2037 : decode cL_law 2037 = .ok (.iadd, 1) := by decide +kernel
theorem dL_law_2038 : decode cL_law 2038 = .ok (.iaload, 1) := by decide +kernel
theorem dL_law_2039 : decode cL_law 2039 = .ok (.aload_n 0, 1) := by decide +kernel
theorem dL_law_2040 : decode cL_law 2040 = .ok (.iload 5, 2) := by decide +kernel
theorem dL_law_2042 : decode cL_law 2042 = .ok (.iconst 2, 1) := by decide +kernel
theorem dL_law_2043 : decode cL_law 2043 = .ok (.iadd, 1) := by decide +kernel
theorem dL_law_2044 : decode cL_law 2044 = .ok (.iaload, 1) := by decide +kernel
theorem dL_law_2045 : decode cL_law 2045 = .ok (.aload_n 0, 1) := by decide +kernel
theorem dL_law_2046 : decode cL_law 2046 = .ok (.iload 5, 2) := by decide +kernel
theorem dL_law_2048 : decode cL_law 2048 = .ok (.iconst 3, 1) := by decide +kernel
theorem dL_law_2049 : decode cL_law 2049 = .ok (.iadd, 1) := by decide +kernel
theorem dL_law_2050 : decode cL_law 2050 = .ok (.iaload, 1) := by decide +kernel
theorem dL_law_2051 : decode cL_law 2051 = .ok (.aload_n 0, 1) := by decide +kernel
theorem dL_law_2052 : decode cL_law 2052 = .ok (.iload 5, 2) := by decide +kernel
theorem dL_law_2054 : decode cL_law 2054 = .ok (.iconst 4, 1) := by decide +kernel
theorem dL_law_2055 : decode cL_law 2055 = .ok (.iadd, 1) := by decide +kernel
theorem dL_law_2056 : decode cL_law 2056 = .ok (.iaload, 1) := by decide +kernel
theorem dL_law_2057 : decode cL_law 2057 = .ok (.aload_n 3, 1) := by decide +kernel
theorem dL_law_2058 : decode cL_law 2058 = .ok (.invokestatic 296, 3) := by decide +kernel
theorem dL_law_2061 : decode cL_law 2061 = .ok (.istore 6, 2) := by decide +kernel
theorem dL_law_2063 : decode cL_law 2063 = .ok (.aload_n 2, 1) := by decide +kernel
theorem dL_law_2064 : decode cL_law 2064 = .ok (.aload_n 0, 1) := by decide +kernel
theorem dL_law_2065 : decode cL_law 2065 = .ok (.iload 5, 2) := by decide +kernel
theorem dL_law_2067 : decode cL_law 2067 = .ok (.iconst 1, 1) := by decide +kernel
theorem dL_law_2068 : decode cL_law 2068 = .ok (.iadd, 1) := by decide +kernel
theorem dL_law_2069 : decode cL_law 2069 = .ok (.iaload, 1) := by decide +kernel
theorem dL_law_2070 : decode cL_law 2070 = .ok (.aload_n 0, 1) := by decide +kernel
theorem dL_law_2071 : decode cL_law 2071 = .ok (.iload 5, 2) := by decide +kernel
theorem dL_law_2073 : decode cL_law 2073 = .ok (.iconst 2, 1) := by decide +kernel
theorem dL_law_2074 : decode cL_law 2074 = .ok (.iadd, 1) := by decide +kernel
theorem dL_law_2075 : decode cL_law 2075 = .ok (.iaload, 1) := by decide +kernel
theorem dL_law_2076 : decode cL_law 2076 = .ok (.aload_n 0, 1) := by decide +kernel
theorem dL_law_2077 : decode cL_law 2077 = .ok (.iload 5, 2) := by decide +kernel
theorem dL_law_2079 : decode cL_law 2079 = .ok (.iconst 3, 1) := by decide +kernel
theorem dL_law_2080 : decode cL_law 2080 = .ok (.iadd, 1) := by decide +kernel
theorem dL_law_2081 : decode cL_law 2081 = .ok (.iaload, 1) := by decide +kernel
theorem dL_law_2082 : decode cL_law 2082 = .ok (.aload_n 0, 1) := by decide +kernel
theorem dL_law_2083 : decode cL_law 2083 = .ok (.iload 5, 2) := by decide +kernel
theorem dL_law_2085 : decode cL_law 2085 = .ok (.iconst 4, 1) := by decide +kernel
theorem dL_law_2086 : decode cL_law 2086 = .ok (.iadd, 1) := by decide +kernel
theorem dL_law_2087 : decode cL_law 2087 = .ok (.iaload, 1) := by decide +kernel
theorem dL_law_2088 : decode cL_law 2088 = .ok (.invokevirtual 298, 3) := by decide +kernel
theorem dL_law_2091 : decode cL_law 2091 = .ok (.lstore 7, 2) := by decide +kernel
theorem dL_law_2093 : decode cL_law 2093 = .ok (.aload_n 2, 1) := by decide +kernel
theorem dL_law_2094 : decode cL_law 2094 = .ok (.invokevirtual 202, 3) := by decide +kernel
theorem dL_law_2097 : decode cL_law 2097 = .ok (.iload 6, 2) := by decide +kernel
theorem dL_law_2099 : decode cL_law 2099 = .ok (.if_icmp .eq 5, 3) := by decide +kernel
theorem dL_law_2102 : decode cL_law 2102 = .ok (.iconst 0, 1) := by decide +kernel
theorem dL_law_2103 : decode cL_law 2103 = .ok (.ireturn, 1) := by decide +kernel
theorem dL_law_2104 : decode cL_law 2104 = .ok (.iload 6, 2) := by decide +kernel
theorem dL_law_2106 : decode cL_law 2106 = .ok (.ifCond .ne 14, 3) := by decide +kernel
theorem dL_law_2109 : decode cL_law 2109 = .ok (.aload_n 3, 1) := by decide +kernel
theorem dL_law_2110 : decode cL_law 2110 = .ok (.iconst 0, 1) := by decide +kernel
theorem dL_law_2111 : decode cL_law 2111 = .ok (.laload, 1) := by decide +kernel
theorem dL_law_2112 : decode cL_law 2112 = .ok (.lload 7, 2) := by decide +kernel
theorem dL_law_2114 : decode cL_law 2114 = .ok (.lcmp, 1) := by decide +kernel
theorem dL_law_2115 : decode cL_law 2115 = .ok (.ifCond .eq 5, 3) := by decide +kernel
theorem dL_law_2118 : decode cL_law 2118 = .ok (.iconst 0, 1) := by decide +kernel
theorem dL_law_2119 : decode cL_law 2119 = .ok (.ireturn, 1) := by decide +kernel
theorem dL_law_2120 : decode cL_law 2120 = .ok (.goto 2129, 3) := by decide +kernel
theorem dL_law_2123 : decode cL_law 2123 = .ok (.aload_n 1, 1) := by decide +kernel
theorem dL_law_2124 : decode cL_law 2124 = .ok (.aload_n 0, 1) := by decide +kernel
theorem dL_law_2125 : decode cL_law 2125 = .ok (.iload 5, 2) := by decide +kernel
theorem dL_law_2127 : decode cL_law 2127 = .ok (.iconst 1, 1) := by decide +kernel
theorem dL_law_2128 : decode cL_law 2128 = .ok (.iadd, 1) := by decide +kernel
theorem dL_law_2129 : decode cL_law 2129 = .ok (.iaload, 1) := by decide +kernel
theorem dL_law_2130 : decode cL_law 2130 = .ok (.aload_n 0, 1) := by decide +kernel
theorem dL_law_2131 : decode cL_law 2131 = .ok (.iload 5, 2) := by decide +kernel
theorem dL_law_2133 : decode cL_law 2133 = .ok (.iconst 2, 1) := by decide +kernel
theorem dL_law_2134 : decode cL_law 2134 = .ok (.iadd, 1) := by decide +kernel
theorem dL_law_2135 : decode cL_law 2135 = .ok (.iaload, 1) := by decide +kernel
theorem dL_law_2136 : decode cL_law 2136 = .ok (.aload_n 0, 1) := by decide +kernel
theorem dL_law_2137 : decode cL_law 2137 = .ok (.iload 5, 2) := by decide +kernel
theorem dL_law_2139 : decode cL_law 2139 = .ok (.iconst 3, 1) := by decide +kernel
theorem dL_law_2140 : decode cL_law 2140 = .ok (.iadd, 1) := by decide +kernel
theorem dL_law_2141 : decode cL_law 2141 = .ok (.iaload, 1) := by decide +kernel
theorem dL_law_2142 : decode cL_law 2142 = .ok (.aload_n 0, 1) := by decide +kernel
theorem dL_law_2143 : decode cL_law 2143 = .ok (.iload 5, 2) := by decide +kernel
theorem dL_law_2145 : decode cL_law 2145 = .ok (.iconst 4, 1) := by decide +kernel
theorem dL_law_2146 : decode cL_law 2146 = .ok (.iadd, 1) := by decide +kernel
theorem dL_law_2147 : decode cL_law 2147 = .ok (.iaload, 1) := by decide +kernel
theorem dL_law_2148 : decode cL_law 2148 = .ok (.aload 4, 2) := by decide +kernel
theorem dL_law_2150 : decode cL_law 2150 = .ok (.invokestatic 299, 3) := by decide +kernel
theorem dL_law_2153 : decode cL_law 2153 = .ok (.istore 6, 2) := by decide +kernel
theorem dL_law_2155 : decode cL_law 2155 = .ok (.aload_n 2, 1) := by decide +kernel
theorem dL_law_2156 : decode cL_law 2156 = .ok (.aload_n 0, 1) := by decide +kernel
theorem dL_law_2157 : decode cL_law 2157 = .ok (.iload 5, 2) := by decide +kernel
theorem dL_law_2159 : decode cL_law 2159 = .ok (.iconst 1, 1) := by decide +kernel
theorem dL_law_2160 : decode cL_law 2160 = .ok (.iadd, 1) := by decide +kernel
theorem dL_law_2161 : decode cL_law 2161 = .ok (.iaload, 1) := by decide +kernel
theorem dL_law_2162 : decode cL_law 2162 = .ok (.aload_n 0, 1) := by decide +kernel
theorem dL_law_2163 : decode cL_law 2163 = .ok (.iload 5, 2) := by decide +kernel
theorem dL_law_2165 : decode cL_law 2165 = .ok (.iconst 2, 1) := by decide +kernel
theorem dL_law_2166 : decode cL_law 2166 = .ok (.iadd, 1) := by decide +kernel
theorem dL_law_2167 : decode cL_law 2167 = .ok (.iaload, 1) := by decide +kernel
theorem dL_law_2168 : decode cL_law 2168 = .ok (.aload_n 0, 1) := by decide +kernel
theorem dL_law_2169 : decode cL_law 2169 = .ok (.iload 5, 2) := by decide +kernel
theorem dL_law_2171 : decode cL_law 2171 = .ok (.iconst 3, 1) := by decide +kernel
theorem dL_law_2172 : decode cL_law 2172 = .ok (.iadd, 1) := by decide +kernel
theorem dL_law_2173 : decode cL_law 2173 = .ok (.iaload, 1) := by decide +kernel
theorem dL_law_2174 : decode cL_law 2174 = .ok (.aload_n 0, 1) := by decide +kernel
theorem dL_law_2175 : decode cL_law 2175 = .ok (.iload 5, 2) := by decide +kernel
theorem dL_law_2177 : decode cL_law 2177 = .ok (.iconst 4, 1) := by decide +kernel
theorem dL_law_2178 : decode cL_law 2178 = .ok (.iadd, 1) := by decide +kernel
theorem dL_law_2179 : decode cL_law 2179 = .ok (.iaload, 1) := by decide +kernel
theorem dL_law_2180 : decode cL_law 2180 = .ok (.invokevirtual 302, 3) := by decide +kernel
theorem dL_law_2183 : decode cL_law 2183 = .ok (.dstore 7, 2) := by decide +kernel
theorem dL_law_2185 : decode cL_law 2185 = .ok (.aload_n 2, 1) := by decide +kernel
theorem dL_law_2186 : decode cL_law 2186 = .ok (.invokevirtual 202, 3) := by decide +kernel
theorem dL_law_2189 : decode cL_law 2189 = .ok (.iload 6, 2) := by decide +kernel
theorem dL_law_2191 : decode cL_law 2191 = .ok (.if_icmp .eq 5, 3) := by decide +kernel
theorem dL_law_2194 : decode cL_law 2194 = .ok (.iconst 0, 1) := by decide +kernel
theorem dL_law_2195 : decode cL_law 2195 = .ok (.ireturn, 1) := by decide +kernel
theorem dL_law_2196 : decode cL_law 2196 = .ok (.iload 6, 2) := by decide +kernel
theorem dL_law_2198 : decode cL_law 2198 = .ok (.ifCond .ne 35, 3) := by decide +kernel
theorem dL_law_2201 : decode cL_law 2201 = .ok (.aload 4, 2) := by decide +kernel
theorem dL_law_2203 : decode cL_law 2203 = .ok (.iconst 0, 1) := by decide +kernel
theorem dL_law_2204 : decode cL_law 2204 = .ok (.daload, 1) := by decide +kernel
theorem dL_law_2205 : decode cL_law 2205 = .ok (.dload 7, 2) := by decide +kernel
theorem dL_law_2207 : decode cL_law 2207 = .ok (.dcmp .l, 1) := by decide +kernel
theorem dL_law_2208 : decode cL_law 2208 = .ok (.ifCond .eq 25, 3) := by decide +kernel
theorem dL_law_2211 : decode cL_law 2211 = .ok (.aload 4, 2) := by decide +kernel
theorem dL_law_2213 : decode cL_law 2213 = .ok (.iconst 0, 1) := by decide +kernel
theorem dL_law_2214 : decode cL_law 2214 = .ok (.daload, 1) := by decide +kernel
theorem dL_law_2215 : decode cL_law 2215 = .ok (.aload 4, 2) := by decide +kernel
theorem dL_law_2217 : decode cL_law 2217 = .ok (.iconst 0, 1) := by decide +kernel
theorem dL_law_2218 : decode cL_law 2218 = .ok (.daload, 1) := by decide +kernel
theorem dL_law_2219 : decode cL_law 2219 = .ok (.dcmp .l, 1) := by decide +kernel
theorem dL_law_2220 : decode cL_law 2220 = .ok (.ifCond .eq 11, 3) := by decide +kernel
theorem dL_law_2223 : decode cL_law 2223 = .ok (.dload 7, 2) := by decide +kernel
theorem dL_law_2225 : decode cL_law 2225 = .ok (.dload 7, 2) := by decide +kernel
theorem dL_law_2227 : decode cL_law 2227 = .ok (.dcmp .l, 1) := by decide +kernel
theorem dL_law_2228 : decode cL_law 2228 = .ok (.ifCond .ne 5, 3) := by decide +kernel
theorem dL_law_2231 : decode cL_law 2231 = .ok (.iconst 0, 1) := by decide +kernel
theorem dL_law_2232 : decode cL_law 2232 = .ok (.ireturn, 1) := by decide +kernel
theorem dL_law_2233 : decode cL_law 2233 = .ok (.goto 2016, 3) := by decide +kernel
theorem dL_law_2236 : decode cL_law 2236 = .ok (.aload_n 1, 1) := by decide +kernel
theorem dL_law_2237 : decode cL_law 2237 = .ok (.aload_n 0, 1) := by decide +kernel
theorem dL_law_2238 : decode cL_law 2238 = .ok (.iload 5, 2) := by decide +kernel
theorem dL_law_2240 : decode cL_law 2240 = .ok (.iconst 1, 1) := by decide +kernel
theorem dL_law_2241 : decode cL_law 2241 = .ok (.iadd, 1) := by decide +kernel
theorem dL_law_2242 : decode cL_law 2242 = .ok (.iaload, 1) := by decide +kernel
theorem dL_law_2243 : decode cL_law 2243 = .ok (.aload_n 0, 1) := by decide +kernel
theorem dL_law_2244 : decode cL_law 2244 = .ok (.iload 5, 2) := by decide +kernel
theorem dL_law_2246 : decode cL_law 2246 = .ok (.iconst 2, 1) := by decide +kernel
theorem dL_law_2247 : decode cL_law 2247 = .ok (.iadd, 1) := by decide +kernel
theorem dL_law_2248 : decode cL_law 2248 = .ok (.iaload, 1) := by decide +kernel
theorem dL_law_2249 : decode cL_law 2249 = .ok (.aload_n 0, 1) := by decide +kernel
theorem dL_law_2250 : decode cL_law 2250 = .ok (.iload 5, 2) := by decide +kernel
theorem dL_law_2252 : decode cL_law 2252 = .ok (.iconst 3, 1) := by decide +kernel
theorem dL_law_2253 : decode cL_law 2253 = .ok (.iadd, 1) := by decide +kernel
theorem dL_law_2254 : decode cL_law 2254 = .ok (.iaload, 1) := by decide +kernel
theorem dL_law_2255 : decode cL_law 2255 = .ok (.aload_n 0, 1) := by decide +kernel
theorem dL_law_2256 : decode cL_law 2256 = .ok (.iload 5, 2) := by decide +kernel
theorem dL_law_2258 : decode cL_law 2258 = .ok (.iconst 4, 1) := by decide +kernel
theorem dL_law_2259 : decode cL_law 2259 = .ok (.iadd, 1) := by decide +kernel
theorem dL_law_2260 : decode cL_law 2260 = .ok (.iaload, 1) := by decide +kernel
theorem dL_law_2261 : decode cL_law 2261 = .ok (.aload_n 3, 1) := by decide +kernel
theorem dL_law_2262 : decode cL_law 2262 = .ok (.invokestatic 303, 3) := by decide +kernel
theorem dL_law_2265 : decode cL_law 2265 = .ok (.istore 6, 2) := by decide +kernel
theorem dL_law_2267 : decode cL_law 2267 = .ok (.aload_n 2, 1) := by decide +kernel
theorem dL_law_2268 : decode cL_law 2268 = .ok (.aload_n 0, 1) := by decide +kernel
theorem dL_law_2269 : decode cL_law 2269 = .ok (.iload 5, 2) := by decide +kernel
theorem dL_law_2271 : decode cL_law 2271 = .ok (.iconst 1, 1) := by decide +kernel
theorem dL_law_2272 : decode cL_law 2272 = .ok (.iadd, 1) := by decide +kernel
theorem dL_law_2273 : decode cL_law 2273 = .ok (.iaload, 1) := by decide +kernel
theorem dL_law_2274 : decode cL_law 2274 = .ok (.aload_n 0, 1) := by decide +kernel
theorem dL_law_2275 : decode cL_law 2275 = .ok (.iload 5, 2) := by decide +kernel
theorem dL_law_2277 : decode cL_law 2277 = .ok (.iconst 2, 1) := by decide +kernel
theorem dL_law_2278 : decode cL_law 2278 = .ok (.iadd, 1) := by decide +kernel
theorem dL_law_2279 : decode cL_law 2279 = .ok (.iaload, 1) := by decide +kernel
theorem dL_law_2280 : decode cL_law 2280 = .ok (.aload_n 0, 1) := by decide +kernel
theorem dL_law_2281 : decode cL_law 2281 = .ok (.iload 5, 2) := by decide +kernel
theorem dL_law_2283 : decode cL_law 2283 = .ok (.iconst 3, 1) := by decide +kernel
theorem dL_law_2284 : decode cL_law 2284 = .ok (.iadd, 1) := by decide +kernel
theorem dL_law_2285 : decode cL_law 2285 = .ok (.iaload, 1) := by decide +kernel
theorem dL_law_2286 : decode cL_law 2286 = .ok (.aload_n 0, 1) := by decide +kernel
theorem dL_law_2287 : decode cL_law 2287 = .ok (.iload 5, 2) := by decide +kernel
theorem dL_law_2289 : decode cL_law 2289 = .ok (.iconst 4, 1) := by decide +kernel
theorem dL_law_2290 : decode cL_law 2290 = .ok (.iadd, 1) := by decide +kernel
theorem dL_law_2291 : decode cL_law 2291 = .ok (.iaload, 1) := by decide +kernel
theorem dL_law_2292 : decode cL_law 2292 = .ok (.invokevirtual 305, 3) := by decide +kernel
theorem dL_law_2295 : decode cL_law 2295 = .ok (.istore 7, 2) := by decide +kernel
theorem dL_law_2297 : decode cL_law 2297 = .ok (.aload_n 2, 1) := by decide +kernel
theorem dL_law_2298 : decode cL_law 2298 = .ok (.invokevirtual 202, 3) := by decide +kernel
theorem dL_law_2301 : decode cL_law 2301 = .ok (.iload 6, 2) := by decide +kernel
theorem dL_law_2303 : decode cL_law 2303 = .ok (.if_icmp .eq 5, 3) := by decide +kernel
theorem dL_law_2306 : decode cL_law 2306 = .ok (.iconst 0, 1) := by decide +kernel
theorem dL_law_2307 : decode cL_law 2307 = .ok (.ireturn, 1) := by decide +kernel
theorem dL_law_2308 : decode cL_law 2308 = .ok (.iload 6, 2) := by decide +kernel
theorem dL_law_2310 : decode cL_law 2310 = .ok (.ifCond .ne 15, 3) := by decide +kernel
theorem dL_law_2313 : decode cL_law 2313 = .ok (.aload_n 3, 1) := by decide +kernel
theorem dL_law_2314 : decode cL_law 2314 = .ok (.iconst 0, 1) := by decide +kernel
theorem dL_law_2315 : decode cL_law 2315 = .ok (.laload, 1) := by decide +kernel
theorem dL_law_2316 : decode cL_law 2316 = .ok (.iload 7, 2) := by decide +kernel
theorem dL_law_2318 : decode cL_law 2318 = .ok (.i2l, 1) := by decide +kernel
theorem dL_law_2319 : decode cL_law 2319 = .ok (.lcmp, 1) := by decide +kernel
theorem dL_law_2320 : decode cL_law 2320 = .ok (.ifCond .eq 5, 3) := by decide +kernel
theorem dL_law_2323 : decode cL_law 2323 = .ok (.iconst 0, 1) := by decide +kernel
theorem dL_law_2324 : decode cL_law 2324 = .ok (.ireturn, 1) := by decide +kernel
theorem dL_law_2325 : decode cL_law 2325 = .ok (.goto 1924, 3) := by decide +kernel
theorem dL_law_2328 : decode cL_law 2328 = .ok (.aload_n 1, 1) := by decide +kernel
theorem dL_law_2329 : decode cL_law 2329 = .ok (.aload_n 0, 1) := by decide +kernel
theorem dL_law_2330 : decode cL_law 2330 = .ok (.iload 5, 2) := by decide +kernel
theorem dL_law_2332 : decode cL_law 2332 = .ok (.iconst 1, 1) := by decide +kernel
theorem dL_law_2333 : decode cL_law 2333 = .ok (.iadd, 1) := by decide +kernel
theorem dL_law_2334 : decode cL_law 2334 = .ok (.iaload, 1) := by decide +kernel
theorem dL_law_2335 : decode cL_law 2335 = .ok (.aload_n 0, 1) := by decide +kernel
theorem dL_law_2336 : decode cL_law 2336 = .ok (.iload 5, 2) := by decide +kernel
theorem dL_law_2338 : decode cL_law 2338 = .ok (.iconst 2, 1) := by decide +kernel
theorem dL_law_2339 : decode cL_law 2339 = .ok (.iadd, 1) := by decide +kernel
theorem dL_law_2340 : decode cL_law 2340 = .ok (.iaload, 1) := by decide +kernel
theorem dL_law_2341 : decode cL_law 2341 = .ok (.aload_n 0, 1) := by decide +kernel
theorem dL_law_2342 : decode cL_law 2342 = .ok (.iload 5, 2) := by decide +kernel
theorem dL_law_2344 : decode cL_law 2344 = .ok (.iconst 3, 1) := by decide +kernel
theorem dL_law_2345 : decode cL_law 2345 = .ok (.iadd, 1) := by decide +kernel
theorem dL_law_2346 : decode cL_law 2346 = .ok (.iaload, 1) := by decide +kernel
theorem dL_law_2347 : decode cL_law 2347 = .ok (.aload_n 3, 1) := by decide +kernel
theorem dL_law_2348 : decode cL_law 2348 = .ok (.invokestatic 306, 3) := by decide +kernel
theorem dL_law_2351 : decode cL_law 2351 = .ok (.istore 6, 2) := by decide +kernel
theorem dL_law_2353 : decode cL_law 2353 = .ok (.aload_n 2, 1) := by decide +kernel
theorem dL_law_2354 : decode cL_law 2354 = .ok (.aload_n 0, 1) := by decide +kernel
theorem dL_law_2355 : decode cL_law 2355 = .ok (.iload 5, 2) := by decide +kernel
theorem dL_law_2357 : decode cL_law 2357 = .ok (.iconst 1, 1) := by decide +kernel
theorem dL_law_2358 : decode cL_law 2358 = .ok (.iadd, 1) := by decide +kernel
theorem dL_law_2359 : decode cL_law 2359 = .ok (.iaload, 1) := by decide +kernel
theorem dL_law_2360 : decode cL_law 2360 = .ok (.aload_n 0, 1) := by decide +kernel
theorem dL_law_2361 : decode cL_law 2361 = .ok (.iload 5, 2) := by decide +kernel
theorem dL_law_2363 : decode cL_law 2363 = .ok (.iconst 2, 1) := by decide +kernel
theorem dL_law_2364 : decode cL_law 2364 = .ok (.iadd, 1) := by decide +kernel
theorem dL_law_2365 : decode cL_law 2365 = .ok (.iaload, 1) := by decide +kernel
theorem dL_law_2366 : decode cL_law 2366 = .ok (.aload_n 0, 1) := by decide +kernel
theorem dL_law_2367 : decode cL_law 2367 = .ok (.iload 5, 2) := by decide +kernel
theorem dL_law_2369 : decode cL_law 2369 = .ok (.iconst 3, 1) := by decide +kernel
theorem dL_law_2370 : decode cL_law 2370 = .ok (.iadd, 1) := by decide +kernel
theorem dL_law_2371 : decode cL_law 2371 = .ok (.iaload, 1) := by decide +kernel
theorem dL_law_2372 : decode cL_law 2372 = .ok (.invokevirtual 308, 3) := by decide +kernel
theorem dL_law_2375 : decode cL_law 2375 = .ok (.istore 7, 2) := by decide +kernel
theorem dL_law_2377 : decode cL_law 2377 = .ok (.aload_n 2, 1) := by decide +kernel
theorem dL_law_2378 : decode cL_law 2378 = .ok (.invokevirtual 202, 3) := by decide +kernel
theorem dL_law_2381 : decode cL_law 2381 = .ok (.iload 6, 2) := by decide +kernel
theorem dL_law_2383 : decode cL_law 2383 = .ok (.if_icmp .eq 5, 3) := by decide +kernel
theorem dL_law_2386 : decode cL_law 2386 = .ok (.iconst 0, 1) := by decide +kernel
theorem dL_law_2387 : decode cL_law 2387 = .ok (.ireturn, 1) := by decide +kernel
theorem dL_law_2388 : decode cL_law 2388 = .ok (.iload 6, 2) := by decide +kernel
theorem dL_law_2390 : decode cL_law 2390 = .ok (.ifCond .ne 15, 3) := by decide +kernel
theorem dL_law_2393 : decode cL_law 2393 = .ok (.aload_n 3, 1) := by decide +kernel
theorem dL_law_2394 : decode cL_law 2394 = .ok (.iconst 0, 1) := by decide +kernel
theorem dL_law_2395 : decode cL_law 2395 = .ok (.laload, 1) := by decide +kernel
theorem dL_law_2396 : decode cL_law 2396 = .ok (.iload 7, 2) := by decide +kernel
theorem dL_law_2398 : decode cL_law 2398 = .ok (.i2l, 1) := by decide +kernel
theorem dL_law_2399 : decode cL_law 2399 = .ok (.lcmp, 1) := by decide +kernel
theorem dL_law_2400 : decode cL_law 2400 = .ok (.ifCond .eq 5, 3) := by decide +kernel
theorem dL_law_2403 : decode cL_law 2403 = .ok (.iconst 0, 1) := by decide +kernel
theorem dL_law_2404 : decode cL_law 2404 = .ok (.ireturn, 1) := by decide +kernel
theorem dL_law_2405 : decode cL_law 2405 = .ok (.goto 1844, 3) := by decide +kernel
theorem dL_law_2408 : decode cL_law 2408 = .ok (.aload_n 1, 1) := by decide +kernel
theorem dL_law_2409 : decode cL_law 2409 = .ok (.aload_n 0, 1) := by decide +kernel
theorem dL_law_2410 : decode cL_law 2410 = .ok (.iload 5, 2) := by decide +kernel
theorem dL_law_2412 : decode cL_law 2412 = .ok (.iconst 1, 1) := by decide +kernel
theorem dL_law_2413 : decode cL_law 2413 = .ok (.iadd, 1) := by decide +kernel
theorem dL_law_2414 : decode cL_law 2414 = .ok (.iaload, 1) := by decide +kernel
theorem dL_law_2415 : decode cL_law 2415 = .ok (.aload_n 0, 1) := by decide +kernel
theorem dL_law_2416 : decode cL_law 2416 = .ok (.iload 5, 2) := by decide +kernel
theorem dL_law_2418 : decode cL_law 2418 = .ok (.iconst 2, 1) := by decide +kernel
theorem dL_law_2419 : decode cL_law 2419 = .ok (.iadd, 1) := by decide +kernel
theorem dL_law_2420 : decode cL_law 2420 = .ok (.iaload, 1) := by decide +kernel
theorem dL_law_2421 : decode cL_law 2421 = .ok (.aload_n 3, 1) := by decide +kernel
theorem dL_law_2422 : decode cL_law 2422 = .ok (.invokestatic 309, 3) := by decide +kernel
theorem dL_law_2425 : decode cL_law 2425 = .ok (.istore 6, 2) := by decide +kernel
theorem dL_law_2427 : decode cL_law 2427 = .ok (.aload_n 2, 1) := by decide +kernel
theorem dL_law_2428 : decode cL_law 2428 = .ok (.aload_n 0, 1) := by decide +kernel
theorem dL_law_2429 : decode cL_law 2429 = .ok (.iload 5, 2) := by decide +kernel
theorem dL_law_2431 : decode cL_law 2431 = .ok (.iconst 1, 1) := by decide +kernel
theorem dL_law_2432 : decode cL_law 2432 = .ok (.iadd, 1) := by decide +kernel
theorem dL_law_2433 : decode cL_law 2433 = .ok (.iaload, 1) := by decide +kernel
theorem dL_law_2434 : decode cL_law 2434 = .ok (.aload_n 0, 1) := by decide +kernel
theorem dL_law_2435 : decode cL_law 2435 = .ok (.iload 5, 2) := by decide +kernel
theorem dL_law_2437 : decode cL_law 2437 = .ok (.iconst 2, 1) := by decide +kernel
theorem dL_law_2438 : decode cL_law 2438 = .ok (.iadd, 1) := by decide +kernel
theorem dL_law_2439 : decode cL_law 2439 = .ok (.iaload, 1) := by decide +kernel
theorem dL_law_2440 : decode cL_law 2440 = .ok (.invokevirtual 311, 3) := by decide +kernel
theorem dL_law_2443 : decode cL_law 2443 = .ok (.istore 7, 2) := by decide +kernel
theorem dL_law_2445 : decode cL_law 2445 = .ok (.aload_n 2, 1) := by decide +kernel
theorem dL_law_2446 : decode cL_law 2446 = .ok (.invokevirtual 202, 3) := by decide +kernel
theorem dL_law_2449 : decode cL_law 2449 = .ok (.iload 6, 2) := by decide +kernel
theorem dL_law_2451 : decode cL_law 2451 = .ok (.if_icmp .eq 5, 3) := by decide +kernel
theorem dL_law_2454 : decode cL_law 2454 = .ok (.iconst 0, 1) := by decide +kernel
theorem dL_law_2455 : decode cL_law 2455 = .ok (.ireturn, 1) := by decide +kernel
theorem dL_law_2456 : decode cL_law 2456 = .ok (.iload 6, 2) := by decide +kernel
theorem dL_law_2458 : decode cL_law 2458 = .ok (.ifCond .ne 15, 3) := by decide +kernel
theorem dL_law_2461 : decode cL_law 2461 = .ok (.aload_n 3, 1) := by decide +kernel
theorem dL_law_2462 : decode cL_law 2462 = .ok (.iconst 0, 1) := by decide +kernel
theorem dL_law_2463 : decode cL_law 2463 = .ok (.laload, 1) := by decide +kernel
theorem dL_law_2464 : decode cL_law 2464 = .ok (.iload 7, 2) := by decide +kernel
theorem dL_law_2466 : decode cL_law 2466 = .ok (.i2l, 1) := by decide +kernel
theorem dL_law_2467 : decode cL_law 2467 = .ok (.lcmp, 1) := by decide +kernel
theorem dL_law_2468 : decode cL_law 2468 = .ok (.ifCond .eq 5, 3) := by decide +kernel
theorem dL_law_2471 : decode cL_law 2471 = .ok (.iconst 0, 1) := by decide +kernel
theorem dL_law_2472 : decode cL_law 2472 = .ok (.ireturn, 1) := by decide +kernel
theorem dL_law_2473 : decode cL_law 2473 = .ok (.goto 1776, 3) := by decide +kernel
theorem dL_law_2476 : decode cL_law 2476 = .ok (.aload_n 1, 1) := by decide +kernel
theorem dL_law_2477 : decode cL_law 2477 = .ok (.aload_n 0, 1) := by decide +kernel
theorem dL_law_2478 : decode cL_law 2478 = .ok (.iload 5, 2) := by decide +kernel
theorem dL_law_2480 : decode cL_law 2480 = .ok (.iconst 1, 1) := by decide +kernel
theorem dL_law_2481 : decode cL_law 2481 = .ok (.iadd, 1) := by decide +kernel
theorem dL_law_2482 : decode cL_law 2482 = .ok (.iaload, 1) := by decide +kernel
theorem dL_law_2483 : decode cL_law 2483 = .ok (.aload_n 0, 1) := by decide +kernel
theorem dL_law_2484 : decode cL_law 2484 = .ok (.iload 5, 2) := by decide +kernel
theorem dL_law_2486 : decode cL_law 2486 = .ok (.iconst 2, 1) := by decide +kernel
theorem dL_law_2487 : decode cL_law 2487 = .ok (.iadd, 1) := by decide +kernel
theorem dL_law_2488 : decode cL_law 2488 = .ok (.iaload, 1) := by decide +kernel
theorem dL_law_2489 : decode cL_law 2489 = .ok (.aload_n 3, 1) := by decide +kernel
theorem dL_law_2490 : decode cL_law 2490 = .ok (.invokestatic 312, 3) := by decide +kernel
theorem dL_law_2493 : decode cL_law 2493 = .ok (.istore 6, 2) := by decide +kernel
theorem dL_law_2495 : decode cL_law 2495 = .ok (.aload_n 2, 1) := by decide +kernel
theorem dL_law_2496 : decode cL_law 2496 = .ok (.aload_n 0, 1) := by decide +kernel
theorem dL_law_2497 : decode cL_law 2497 = .ok (.iload 5, 2) := by decide +kernel
theorem dL_law_2499 : decode cL_law 2499 = .ok (.iconst 1, 1) := by decide +kernel
theorem dL_law_2500 : decode cL_law 2500 = .ok (.iadd, 1) := by decide +kernel
theorem dL_law_2501 : decode cL_law 2501 = .ok (.iaload, 1) := by decide +kernel
theorem dL_law_2502 : decode cL_law 2502 = .ok (.aload_n 0, 1) := by decide +kernel
theorem dL_law_2503 : decode cL_law 2503 = .ok (.iload 5, 2) := by decide +kernel
theorem dL_law_2505 : decode cL_law 2505 = .ok (.iconst 2, 1) := by decide +kernel
theorem dL_law_2506 : decode cL_law 2506 = .ok (.iadd, 1) := by decide +kernel
theorem dL_law_2507 : decode cL_law 2507 = .ok (.iaload, 1) := by decide +kernel
theorem dL_law_2508 : decode cL_law 2508 = .ok (.invokevirtual 314, 3) := by decide +kernel
theorem dL_law_2511 : decode cL_law 2511 = .ok (.istore 7, 2) := by decide +kernel
theorem dL_law_2513 : decode cL_law 2513 = .ok (.aload_n 2, 1) := by decide +kernel
theorem dL_law_2514 : decode cL_law 2514 = .ok (.invokevirtual 202, 3) := by decide +kernel
theorem dL_law_2517 : decode cL_law 2517 = .ok (.iload 6, 2) := by decide +kernel
theorem dL_law_2519 : decode cL_law 2519 = .ok (.if_icmp .eq 5, 3) := by decide +kernel
theorem dL_law_2522 : decode cL_law 2522 = .ok (.iconst 0, 1) := by decide +kernel
theorem dL_law_2523 : decode cL_law 2523 = .ok (.ireturn, 1) := by decide +kernel
theorem dL_law_2524 : decode cL_law 2524 = .ok (.iload 6, 2) := by decide +kernel
theorem dL_law_2526 : decode cL_law 2526 = .ok (.ifCond .ne 15, 3) := by decide +kernel
theorem dL_law_2529 : decode cL_law 2529 = .ok (.aload_n 3, 1) := by decide +kernel
theorem dL_law_2530 : decode cL_law 2530 = .ok (.iconst 0, 1) := by decide +kernel
theorem dL_law_2531 : decode cL_law 2531 = .ok (.laload, 1) := by decide +kernel
theorem dL_law_2532 : decode cL_law 2532 = .ok (.iload 7, 2) := by decide +kernel
theorem dL_law_2534 : decode cL_law 2534 = .ok (.i2l, 1) := by decide +kernel
theorem dL_law_2535 : decode cL_law 2535 = .ok (.lcmp, 1) := by decide +kernel
theorem dL_law_2536 : decode cL_law 2536 = .ok (.ifCond .eq 5, 3) := by decide +kernel
theorem dL_law_2539 : decode cL_law 2539 = .ok (.iconst 0, 1) := by decide +kernel
theorem dL_law_2540 : decode cL_law 2540 = .ok (.ireturn, 1) := by decide +kernel
theorem dL_law_2541 : decode cL_law 2541 = .ok (.goto 1708, 3) := by decide +kernel
theorem dL_law_2544 : decode cL_law 2544 = .ok (.aload_n 1, 1) := by decide +kernel
theorem dL_law_2545 : decode cL_law 2545 = .ok (.aload_n 0, 1) := by decide +kernel
theorem dL_law_2546 : decode cL_law 2546 = .ok (.iload 5, 2) := by decide +kernel
theorem dL_law_2548 : decode cL_law 2548 = .ok (.iconst 1, 1) := by decide +kernel
theorem dL_law_2549 : decode cL_law 2549 = .ok (.iadd, 1) := by decide +kernel
theorem dL_law_2550 : decode cL_law 2550 = .ok (.iaload, 1) := by decide +kernel
theorem dL_law_2551 : decode cL_law 2551 = .ok (.aload_n 0, 1) := by decide +kernel
theorem dL_law_2552 : decode cL_law 2552 = .ok (.iload 5, 2) := by decide +kernel
theorem dL_law_2554 : decode cL_law 2554 = .ok (.iconst 2, 1) := by decide +kernel
theorem dL_law_2555 : decode cL_law 2555 = .ok (.iadd, 1) := by decide +kernel
theorem dL_law_2556 : decode cL_law 2556 = .ok (.iaload, 1) := by decide +kernel
theorem dL_law_2557 : decode cL_law 2557 = .ok (.aload_n 3, 1) := by decide +kernel
theorem dL_law_2558 : decode cL_law 2558 = .ok (.invokestatic 315, 3) := by decide +kernel
theorem dL_law_2561 : decode cL_law 2561 = .ok (.istore 6, 2) := by decide +kernel
theorem dL_law_2563 : decode cL_law 2563 = .ok (.aload_n 2, 1) := by decide +kernel
theorem dL_law_2564 : decode cL_law 2564 = .ok (.aload_n 0, 1) := by decide +kernel
theorem dL_law_2565 : decode cL_law 2565 = .ok (.iload 5, 2) := by decide +kernel
theorem dL_law_2567 : decode cL_law 2567 = .ok (.iconst 1, 1) := by decide +kernel
theorem dL_law_2568 : decode cL_law 2568 = .ok (.iadd, 1) := by decide +kernel
theorem dL_law_2569 : decode cL_law 2569 = .ok (.iaload, 1) := by decide +kernel
theorem dL_law_2570 : decode cL_law 2570 = .ok (.aload_n 0, 1) := by decide +kernel
theorem dL_law_2571 : decode cL_law 2571 = .ok (.iload 5, 2) := by decide +kernel
theorem dL_law_2573 : decode cL_law 2573 = .ok (.iconst 2, 1) := by decide +kernel
theorem dL_law_2574 : decode cL_law 2574 = .ok (.iadd, 1) := by decide +kernel
theorem dL_law_2575 : decode cL_law 2575 = .ok (.iaload, 1) := by decide +kernel
theorem dL_law_2576 : decode cL_law 2576 = .ok (.invokevirtual 317, 3) := by decide +kernel
theorem dL_law_2579 : decode cL_law 2579 = .ok (.istore 7, 2) := by decide +kernel
theorem dL_law_2581 : decode cL_law 2581 = .ok (.aload_n 2, 1) := by decide +kernel
theorem dL_law_2582 : decode cL_law 2582 = .ok (.invokevirtual 202, 3) := by decide +kernel
theorem dL_law_2585 : decode cL_law 2585 = .ok (.iload 6, 2) := by decide +kernel
theorem dL_law_2587 : decode cL_law 2587 = .ok (.if_icmp .eq 5, 3) := by decide +kernel
theorem dL_law_2590 : decode cL_law 2590 = .ok (.iconst 0, 1) := by decide +kernel
theorem dL_law_2591 : decode cL_law 2591 = .ok (.ireturn, 1) := by decide +kernel
theorem dL_law_2592 : decode cL_law 2592 = .ok (.iload 6, 2) := by decide +kernel
theorem dL_law_2594 : decode cL_law 2594 = .ok (.ifCond .ne 15, 3) := by decide +kernel
theorem dL_law_2597 : decode cL_law 2597 = .ok (.aload_n 3, 1) := by decide +kernel
theorem dL_law_2598 : decode cL_law 2598 = .ok (.iconst 0, 1) := by decide +kernel
theorem dL_law_2599 : decode cL_law 2599 = .ok (.laload, 1) := by decide +kernel
theorem dL_law_2600 : decode cL_law 2600 = .ok (.iload 7, 2) := by decide +kernel
theorem dL_law_2602 : decode cL_law 2602 = .ok (.i2l, 1) := by decide +kernel
theorem dL_law_2603 : decode cL_law 2603 = .ok (.lcmp, 1) := by decide +kernel
theorem dL_law_2604 : decode cL_law 2604 = .ok (.ifCond .eq 5, 3) := by decide +kernel
theorem dL_law_2607 : decode cL_law 2607 = .ok (.iconst 0, 1) := by decide +kernel
theorem dL_law_2608 : decode cL_law 2608 = .ok (.ireturn, 1) := by decide +kernel
theorem dL_law_2609 : decode cL_law 2609 = .ok (.goto 1640, 3) := by decide +kernel
theorem dL_law_2612 : decode cL_law 2612 = .ok (.aload_n 1, 1) := by decide +kernel
theorem dL_law_2613 : decode cL_law 2613 = .ok (.aload_n 0, 1) := by decide +kernel
theorem dL_law_2614 : decode cL_law 2614 = .ok (.iload 5, 2) := by decide +kernel
theorem dL_law_2616 : decode cL_law 2616 = .ok (.iconst 1, 1) := by decide +kernel
theorem dL_law_2617 : decode cL_law 2617 = .ok (.iadd, 1) := by decide +kernel
theorem dL_law_2618 : decode cL_law 2618 = .ok (.iaload, 1) := by decide +kernel
theorem dL_law_2619 : decode cL_law 2619 = .ok (.aload_n 0, 1) := by decide +kernel
theorem dL_law_2620 : decode cL_law 2620 = .ok (.iload 5, 2) := by decide +kernel
theorem dL_law_2622 : decode cL_law 2622 = .ok (.iconst 2, 1) := by decide +kernel
theorem dL_law_2623 : decode cL_law 2623 = .ok (.iadd, 1) := by decide +kernel
theorem dL_law_2624 : decode cL_law 2624 = .ok (.iaload, 1) := by decide +kernel
theorem dL_law_2625 : decode cL_law 2625 = .ok (.aload_n 3, 1) := by decide +kernel
theorem dL_law_2626 : decode cL_law 2626 = .ok (.invokestatic 318, 3) := by decide +kernel
theorem dL_law_2629 : decode cL_law 2629 = .ok (.istore 6, 2) := by decide +kernel
theorem dL_law_2631 : decode cL_law 2631 = .ok (.aload_n 2, 1) := by decide +kernel
theorem dL_law_2632 : decode cL_law 2632 = .ok (.aload_n 0, 1) := by decide +kernel
theorem dL_law_2633 : decode cL_law 2633 = .ok (.iload 5, 2) := by decide +kernel
theorem dL_law_2635 : decode cL_law 2635 = .ok (.iconst 1, 1) := by decide +kernel
theorem dL_law_2636 : decode cL_law 2636 = .ok (.iadd, 1) := by decide +kernel
theorem dL_law_2637 : decode cL_law 2637 = .ok (.iaload, 1) := by decide +kernel
theorem dL_law_2638 : decode cL_law 2638 = .ok (.aload_n 0, 1) := by decide +kernel
theorem dL_law_2639 : decode cL_law 2639 = .ok (.iload 5, 2) := by decide +kernel
theorem dL_law_2641 : decode cL_law 2641 = .ok (.iconst 2, 1) := by decide +kernel
theorem dL_law_2642 : decode cL_law 2642 = .ok (.iadd, 1) := by decide +kernel
theorem dL_law_2643 : decode cL_law 2643 = .ok (.iaload, 1) := by decide +kernel
theorem dL_law_2644 : decode cL_law 2644 = .ok (.invokevirtual 320, 3) := by decide +kernel
theorem dL_law_2647 : decode cL_law 2647 = .ok (.istore 7, 2) := by decide +kernel
theorem dL_law_2649 : decode cL_law 2649 = .ok (.aload_n 2, 1) := by decide +kernel
theorem dL_law_2650 : decode cL_law 2650 = .ok (.invokevirtual 202, 3) := by decide +kernel
theorem dL_law_2653 : decode cL_law 2653 = .ok (.iload 6, 2) := by decide +kernel
theorem dL_law_2655 : decode cL_law 2655 = .ok (.if_icmp .eq 5, 3) := by decide +kernel
theorem dL_law_2658 : decode cL_law 2658 = .ok (.iconst 0, 1) := by decide +kernel
theorem dL_law_2659 : decode cL_law 2659 = .ok (.ireturn, 1) := by decide +kernel
theorem dL_law_2660 : decode cL_law 2660 = .ok (.iload 6, 2) := by decide +kernel
theorem dL_law_2662 : decode cL_law 2662 = .ok (.ifCond .ne 15, 3) := by decide +kernel
theorem dL_law_2665 : decode cL_law 2665 = .ok (.aload_n 3, 1) := by decide +kernel
theorem dL_law_2666 : decode cL_law 2666 = .ok (.iconst 0, 1) := by decide +kernel
theorem dL_law_2667 : decode cL_law 2667 = .ok (.laload, 1) := by decide +kernel
theorem dL_law_2668 : decode cL_law 2668 = .ok (.iload 7, 2) := by decide +kernel
theorem dL_law_2670 : decode cL_law 2670 = .ok (.i2l, 1) := by decide +kernel
theorem dL_law_2671 : decode cL_law 2671 = .ok (.lcmp, 1) := by decide +kernel
theorem dL_law_2672 : decode cL_law 2672 = .ok (.ifCond .eq 5, 3) := by decide +kernel
theorem dL_law_2675 : decode cL_law 2675 = .ok (.iconst 0, 1) := by decide +kernel
theorem dL_law_2676 : decode cL_law 2676 = .ok (.ireturn, 1) := by decide +kernel
theorem dL_law_2677 : decode cL_law 2677 = .ok (.goto 1572, 3) := by decide +kernel
theorem dL_law_2680 : decode cL_law 2680 = .ok (.aload_n 1, 1) := by decide +kernel
theorem dL_law_2681 : decode cL_law 2681 = .ok (.aload_n 0, 1) := by decide +kernel
theorem dL_law_2682 : decode cL_law 2682 = .ok (.iload 5, 2) := by decide +kernel
theorem dL_law_2684 : decode cL_law 2684 = .ok (.iconst 1, 1) := by decide +kernel
theorem dL_law_2685 : decode cL_law 2685 = .ok (.iadd, 1) := by decide +kernel
theorem dL_law_2686 : decode cL_law 2686 = .ok (.iaload, 1) := by decide +kernel
theorem dL_law_2687 : decode cL_law 2687 = .ok (.aload_n 0, 1) := by decide +kernel
theorem dL_law_2688 : decode cL_law 2688 = .ok (.iload 5, 2) := by decide +kernel
theorem dL_law_2690 : decode cL_law 2690 = .ok (.iconst 2, 1) := by decide +kernel
theorem dL_law_2691 : decode cL_law 2691 = .ok (.iadd, 1) := by decide +kernel
theorem dL_law_2692 : decode cL_law 2692 = .ok (.iaload, 1) := by decide +kernel
theorem dL_law_2693 : decode cL_law 2693 = .ok (.aload_n 3, 1) := by decide +kernel
theorem dL_law_2694 : decode cL_law 2694 = .ok (.invokestatic 321, 3) := by decide +kernel
theorem dL_law_2697 : decode cL_law 2697 = .ok (.istore 6, 2) := by decide +kernel
theorem dL_law_2699 : decode cL_law 2699 = .ok (.aload_n 2, 1) := by decide +kernel
theorem dL_law_2700 : decode cL_law 2700 = .ok (.aload_n 0, 1) := by decide +kernel
theorem dL_law_2701 : decode cL_law 2701 = .ok (.iload 5, 2) := by decide +kernel
theorem dL_law_2703 : decode cL_law 2703 = .ok (.iconst 1, 1) := by decide +kernel
theorem dL_law_2704 : decode cL_law 2704 = .ok (.iadd, 1) := by decide +kernel
theorem dL_law_2705 : decode cL_law 2705 = .ok (.iaload, 1) := by decide +kernel
theorem dL_law_2706 : decode cL_law 2706 = .ok (.aload_n 0, 1) := by decide +kernel
theorem dL_law_2707 : decode cL_law 2707 = .ok (.iload 5, 2) := by decide +kernel
theorem dL_law_2709 : decode cL_law 2709 = .ok (.iconst 2, 1) := by decide +kernel
theorem dL_law_2710 : decode cL_law 2710 = .ok (.iadd, 1) := by decide +kernel
theorem dL_law_2711 : decode cL_law 2711 = .ok (.iaload, 1) := by decide +kernel
theorem dL_law_2712 : decode cL_law 2712 = .ok (.invokevirtual 323, 3) := by decide +kernel
theorem dL_law_2715 : decode cL_law 2715 = .ok (.istore 7, 2) := by decide +kernel
theorem dL_law_2717 : decode cL_law 2717 = .ok (.aload_n 2, 1) := by decide +kernel
theorem dL_law_2718 : decode cL_law 2718 = .ok (.invokevirtual 202, 3) := by decide +kernel
theorem dL_law_2721 : decode cL_law 2721 = .ok (.iload 6, 2) := by decide +kernel
theorem dL_law_2723 : decode cL_law 2723 = .ok (.if_icmp .eq 5, 3) := by decide +kernel
theorem dL_law_2726 : decode cL_law 2726 = .ok (.iconst 0, 1) := by decide +kernel
theorem dL_law_2727 : decode cL_law 2727 = .ok (.ireturn, 1) := by decide +kernel
theorem dL_law_2728 : decode cL_law 2728 = .ok (.iload 6, 2) := by decide +kernel
theorem dL_law_2730 : decode cL_law 2730 = .ok (.ifCond .ne 15, 3) := by decide +kernel
theorem dL_law_2733 : decode cL_law 2733 = .ok (.aload_n 3, 1) := by decide +kernel
theorem dL_law_2734 : decode cL_law 2734 = .ok (.iconst 0, 1) := by decide +kernel
theorem dL_law_2735 : decode cL_law 2735 = .ok (.laload, 1) := by decide +kernel
theorem dL_law_2736 : decode cL_law 2736 = .ok (.iload 7, 2) := by decide +kernel
theorem dL_law_2738 : decode cL_law 2738 = .ok (.i2l, 1) := by decide +kernel
theorem dL_law_2739 : decode cL_law 2739 = .ok (.lcmp, 1) := by decide +kernel
theorem dL_law_2740 : decode cL_law 2740 = .ok (.ifCond .eq 5, 3) := by decide +kernel
theorem dL_law_2743 : decode cL_law 2743 = .ok (.iconst 0, 1) := by decide +kernel
theorem dL_law_2744 : decode cL_law 2744 = .ok (.ireturn, 1) := by decide +kernel
theorem dL_law_2745 : decode cL_law 2745 = .ok (.goto 1504, 3) := by decide +kernel
theorem dL_law_2748 : decode cL_law 2748 = .ok (.aload_n 1, 1) := by decide +kernel
theorem dL_law_2749 : decode cL_law 2749 = .ok (.aload_n 0, 1) := by decide +kernel
theorem dL_law_2750 : decode cL_law 2750 = .ok (.iload 5, 2) := by decide +kernel
theorem dL_law_2752 : decode cL_law 2752 = .ok (.iconst 1, 1) := by decide +kernel
theorem dL_law_2753 : decode cL_law 2753 = .ok (.iadd, 1) := by decide +kernel
theorem dL_law_2754 : decode cL_law 2754 = .ok (.iaload, 1) := by decide +kernel
theorem dL_law_2755 : decode cL_law 2755 = .ok (.aload_n 0, 1) := by decide +kernel
theorem dL_law_2756 : decode cL_law 2756 = .ok (.iload 5, 2) := by decide +kernel
theorem dL_law_2758 : decode cL_law 2758 = .ok (.iconst 2, 1) := by decide +kernel
theorem dL_law_2759 : decode cL_law 2759 = .ok (.iadd, 1) := by decide +kernel
theorem dL_law_2760 : decode cL_law 2760 = .ok (.iaload, 1) := by decide +kernel
theorem dL_law_2761 : decode cL_law 2761 = .ok (.aload_n 3, 1) := by decide +kernel
theorem dL_law_2762 : decode cL_law 2762 = .ok (.invokestatic 324, 3) := by decide +kernel
theorem dL_law_2765 : decode cL_law 2765 = .ok (.istore 6, 2) := by decide +kernel
theorem dL_law_2767 : decode cL_law 2767 = .ok (.aload_n 2, 1) := by decide +kernel
theorem dL_law_2768 : decode cL_law 2768 = .ok (.aload_n 0, 1) := by decide +kernel
theorem dL_law_2769 : decode cL_law 2769 = .ok (.iload 5, 2) := by decide +kernel
theorem dL_law_2771 : decode cL_law 2771 = .ok (.iconst 1, 1) := by decide +kernel
theorem dL_law_2772 : decode cL_law 2772 = .ok (.iadd, 1) := by decide +kernel
theorem dL_law_2773 : decode cL_law 2773 = .ok (.iaload, 1) := by decide +kernel
theorem dL_law_2774 : decode cL_law 2774 = .ok (.aload_n 0, 1) := by decide +kernel
theorem dL_law_2775 : decode cL_law 2775 = .ok (.iload 5, 2) := by decide +kernel
theorem dL_law_2777 : decode cL_law 2777 = .ok (.iconst 2, 1) := by decide +kernel
theorem dL_law_2778 : decode cL_law 2778 = .ok (.iadd, 1) := by decide +kernel
theorem dL_law_2779 : decode cL_law 2779 = .ok (.iaload, 1) := by decide +kernel
theorem dL_law_2780 : decode cL_law 2780 = .ok (.invokevirtual 326, 3) := by decide +kernel
theorem dL_law_2783 : decode cL_law 2783 = .ok (.istore 7, 2) := by decide +kernel
theorem dL_law_2785 : decode cL_law 2785 = .ok (.aload_n 2, 1) := by decide +kernel
theorem dL_law_2786 : decode cL_law 2786 = .ok (.invokevirtual 202, 3) := by decide +kernel
theorem dL_law_2789 : decode cL_law 2789 = .ok (.iload 6, 2) := by decide +kernel
theorem dL_law_2791 : decode cL_law 2791 = .ok (.if_icmp .eq 5, 3) := by decide +kernel
theorem dL_law_2794 : decode cL_law 2794 = .ok (.iconst 0, 1) := by decide +kernel
theorem dL_law_2795 : decode cL_law 2795 = .ok (.ireturn, 1) := by decide +kernel
theorem dL_law_2796 : decode cL_law 2796 = .ok (.iload 6, 2) := by decide +kernel
theorem dL_law_2798 : decode cL_law 2798 = .ok (.ifCond .ne 15, 3) := by decide +kernel
theorem dL_law_2801 : decode cL_law 2801 = .ok (.aload_n 3, 1) := by decide +kernel
theorem dL_law_2802 : decode cL_law 2802 = .ok (.iconst 0, 1) := by decide +kernel
theorem dL_law_2803 : decode cL_law 2803 = .ok (.laload, 1) := by decide +kernel
