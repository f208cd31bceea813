/-! what the law's instructions are -/
theorem dL_law_1912 : decode cL_law 1912 = .ok (.iaload, 1) := by decide +kernel
theorem dL_law_1913 : decode cL_law 1913 = .ok (.aload_n 0, 1) := by decide +kernel
theorem dL_law_1914 : decode cL_law 1914 = .ok (.iload 5, 2) := by decide +kernel
theorem dL_law_1916 : decode cL_law 1916 = .ok (.iconst 2, 1) := by decide +kernel
theorem dL_law_1917 : decode cL_law 1917 = .ok (.iadd, 1) := by decide +kernel
theorem dL_law_1918 : decode cL_law 1918 = .ok (.iaload, 1) := by decide +kernel
theorem dL_law_1919 : decode cL_law 1919 = .ok (.aload_n 3, 1) := by decide +kernel
theorem dL_law_1920 : decode cL_law 1920 = .ok (.invokestatic 296, 3) := by decide +kernel
theorem dL_law_1923 : decode cL_law 1923 = .ok (.istore 6, 2) := by decide +kernel
theorem dL_law_1925 : decode cL_law 1925 = .ok (.aload_n 2, 1) := by decide +kernel
theorem dL_law_1926 : decode cL_law 1926 = .ok (.aload_n 0, 1) := by decide +kernel
theorem dL_law_1927 : decode cL_law 1927 = .ok (.iload 5, 2) := by decide +kernel
theorem dL_law_1929 : decode cL_law 1929 = .ok (.iconst 1, 1) := by decide +kernel
theorem dL_law_1930 : decode cL_law 1930 = .ok (.iadd, 1) := by decide +kernel
theorem dL_law_1931 : decode cL_law 1931 = .ok (.iaload, 1) := by decide +kernel
theorem dL_law_1932 : decode cL_law 1932 = .ok (.aload_n 0, 1) := by decide +kernel
theorem dL_law_1933 : decode cL_law 1933 = .ok (.iload 5, 2) := by decide +kernel
theorem dL_law_1935 : decode cL_law 1935 = .ok (.iconst 2, 1) := by decide +kernel
theorem dL_law_1936 : decode cL_law 1936 = .ok (.iadd, 1) := by decide +kernel
theorem dL_law_1937 : decode cL_law 1937 = .ok (.iaload, 1) := by decide +kernel
theorem dL_law_1938 : decode cL_law 1938 = .ok (.invokevirtual 298, 3) := by decide +kernel
theorem dL_law_1941 : decode cL_law 1941 = .ok (.istore 7, 2) := by decide +kernel
theorem dL_law_1943 : decode cL_law 1943 = .ok (.aload_n 2, 1) := by decide +kernel
theorem dL_law_1944 : decode cL_law 1944 = .ok (.invokevirtual 186, 3) := by decide +kernel
theorem dL_law_1947 : decode cL_law 1947 = .ok (.iload 6, 2) := by decide +kernel
theorem dL_law_1949 : decode cL_law 1949 = .ok (.if_icmp .eq 5, 3) := by decide +kernel
theorem dL_law_1952 : decode cL_law 1952 = .ok (.iconst 0, 1) := by decide +kernel
theorem dL_law_1953 : decode cL_law 1953 = .ok (.ireturn, 1) := by decide +kernel
theorem dL_law_1954 : decode cL_law 1954 = .ok (.iload 6, 2) := by decide +kernel
theorem dL_law_1956 : decode cL_law 1956 = .ok (.ifCond .ne 15, 3) := by decide +kernel
theorem dL_law_1959 : decode cL_law 1959 = .ok (.aload_n 3, 1) := by decide +kernel
theorem dL_law_1960 : decode cL_law 1960 = .ok (.iconst 0, 1) := by decide +kernel
theorem dL_law_1961 : decode cL_law 1961 = .ok (.laload, 1) := by decide +kernel
theorem dL_law_1962 : decode cL_law 1962 = .ok (.iload 7, 2) := by decide +kernel
theorem dL_law_1964 : decode cL_law 1964 = .ok (.i2l, 1) := by decide +kernel
theorem dL_law_1965 : decode cL_law 1965 = .ok (.lcmp, 1) := by decide +kernel
theorem dL_law_1966 : decode cL_law 1966 = .ok (.ifCond .eq 5, 3) := by decide +kernel
theorem dL_law_1969 : decode cL_law 1969 = .ok (.iconst 0, 1) := by decide +kernel
theorem dL_law_1970 : decode cL_law 1970 = .ok (.ireturn, 1) := by decide +kernel
theorem dL_law_1971 : decode cL_law 1971 = .ok (.goto 1525, 3) := by decide +kernel
theorem dL_law_1974 : decode cL_law 1974 = .ok (.aload_n 1, 1) := by decide +kernel
theorem dL_law_1975 : decode cL_law 1975 = .ok (.aload_n 0, 1) := by decide +kernel
theorem dL_law_1976 : decode cL_law 1976 = .ok (.iload 5, 2) := by decide +kernel
theorem dL_law_1978 : decode cL_law 1978 = .ok (.iconst 1, 1) := by decide +kernel
theorem dL_law_1979 : decode cL_law 1979 = .ok (.iadd, 1) := by decide +kernel
theorem dL_law_1980 : decode cL_law 1980 = .ok (.iaload, 1) := by decide +kernel
theorem dL_law_1981 : decode cL_law 1981 = .ok (.aload_n 3, 1) := by decide +kernel
theorem dL_law_1982 : decode cL_law 1982 = .ok (.invokestatic 299, 3) := by decide +kernel
theorem dL_law_1985 : decode cL_law 1985 = .ok (.istore 6, 2) := by decide +kernel
theorem dL_law_1987 : decode cL_law 1987 = .ok (.aload_n 2, 1) := by decide +kernel
theorem dL_law_1988 : decode cL_law 1988 = .ok (.aload_n 0, 1) := by decide +kernel
theorem dL_law_1989 : decode cL_law 1989 = .ok (.iload 5, 2) := by decide +kernel
theorem dL_law_1991 : decode cL_law 1991 = .ok (.iconst 1, 1) := by decide +kernel
theorem dL_law_1992 : decode cL_law 1992 = .ok (.iadd, 1) := by decide +kernel
theorem dL_law_1993 : decode cL_law 1993 = .ok (.iaload, 1) := by decide +kernel
theorem dL_law_1994 : decode cL_law 1994 = .ok (.invokevirtual 301, 3) := by decide +kernel
theorem dL_law_1997 : decode cL_law 1997 = .ok (.istore 7, 2) := by decide +kernel
theorem dL_law_1999 : decode cL_law 1999 = .ok (.aload_n 2, 1) := by decide +kernel
theorem dL_law_2000 : decode cL_law 2000 = .ok (.invokevirtual 186, 3) := by decide +kernel
theorem dL_law_2003 : decode cL_law 2003 = .ok (.iload 6, 2) := by decide +kernel
theorem dL_law_2005 : decode cL_law 2005 = .ok (.if_icmp .eq 5, 3) := by decide +kernel
theorem dL_law_2008 : decode cL_law 2008 = .ok (.iconst 0, 1) := by decide +kernel
theorem dL_law_2009 : decode cL_law 2009 = .ok (.ireturn, 1) := by decide +kernel
theorem dL_law_2010 : decode cL_law 2010 = .ok (.iload 6, 2) := by decide +kernel
theorem dL_law_2012 : decode cL_law 2012 = .ok (.ifCond .ne 15, 3) := by decide +kernel
theorem dL_law_2015 : decode cL_law 2015 = .ok (.aload_n 3, 1) := by decide +kernel
theorem dL_law_2016 : decode cL_law 2016 = .ok (.iconst 0, 1) := by decide +kernel
theorem dL_law_2017 : decode cL_law 2017 = .ok (.laload, 1) := by decide +kernel
theorem dL_law_2018 : decode cL_law 2018 = .ok (.iload 7, 2) := by decide +kernel
theorem dL_law_2020 : decode cL_law 2020 = .ok (.i2l, 1) := by decide +kernel
theorem dL_law_2021 : decode cL_law 2021 = .ok (.lcmp, 1) := by decide +kernel
theorem dL_law_2022 : decode cL_law 2022 = .ok (.ifCond .eq 5, 3) := by decide +kernel
theorem dL_law_2025 : decode cL_law 2025 = .ok (.iconst 0, 1) := by decide +kernel
theorem dL_law_2026 : decode cL_law 2026 = .ok (.ireturn, 1) := by decide +kernel
theorem dL_law_2027 : decode cL_law 2027 = .ok (.goto 1469, 3) := by decide +kernel
theorem dL_law_2030 : decode cL_law 2030 = .ok (.aload_n 1, 1) := by decide +kernel
theorem dL_law_2031 : decode cL_law 2031 = .ok (.invokevirtual 302, 3) := by decide +kernel
theorem dL_law_2034 : decode cL_law 2034 = .ok (.aload_n 2, 1) := by decide +kernel
theorem dL_law_2035 : decode cL_law 2035 = .ok (.invokevirtual 305, 3) := by decide +kernel
theorem dL_law_2038 : decode cL_law 2038 = .ok (.if_icmp .eq 1458, 3) := by decide +kernel
theorem dL_law_2041 : decode cL_law 2041 = .ok (.iconst 0, 1) := by decide +kernel
theorem dL_law_2042 : decode cL_law 2042 = .ok (.ireturn, 1) := by decide +kernel
theorem dL_law_2043 : decode cL_law 2043 = .ok (.aload_n 1, 1) := by decide +kernel
theorem dL_law_2044 : decode cL_law 2044 = .ok (.aload_n 0, 1) := by decide +kernel
theorem dL_law_2045 : decode cL_law 2045 = .ok (.iload 5, 2) := by decide +kernel
theorem dL_law_2047 : decode cL_law 2047 = .ok (.iconst 1, 1) := by decide +kernel
theorem dL_law_2048 : decode cL_law 2048 = .ok (.iadd, 1) := by decide +kernel
theorem dL_law_2049 : decode cL_law 2049 = .ok (.iaload, 1) := by decide +kernel
theorem dL_law_2050 : decode cL_law 2050 = .ok (.aload_n 3, 1) := by decide +kernel
theorem dL_law_2051 : decode cL_law 2051 = .ok (.invokestatic 306, 3) := by decide +kernel
theorem dL_law_2054 : decode cL_law 2054 = .ok (.istore 6, 2) := by decide +kernel
theorem dL_law_2056 : decode cL_law 2056 = .ok (.aload_n 2, 1) := by decide +kernel
theorem dL_law_2057 : decode cL_law 2057 = .ok (.aload_n 0, 1) := by decide +kernel
theorem dL_law_2058 : decode cL_law 2058 = .ok (.iload 5, 2) := by decide +kernel
theorem dL_law_2060 : decode cL_law 2060 = .ok (.iconst 1, 1) := by decide +kernel
theorem dL_law_2061 : decode cL_law 2061 = .ok (.iadd, 1) := by decide +kernel
theorem dL_law_2062 : decode cL_law 2062 = .ok (.iaload, 1) := by decide +kernel
theorem dL_law_2063 : decode cL_law 2063 = .ok (.invokevirtual 308, 3) := by decide +kernel
theorem dL_law_2066 : decode cL_law 2066 = .ok (.istore 7, 2) := by decide +kernel
theorem dL_law_2068 : decode cL_law 2068 = .ok (.aload_n 2, 1) := by decide +kernel
theorem dL_law_2069 : decode cL_law 2069 = .ok (.invokevirtual 186, 3) := by decide +kernel
theorem dL_law_2072 : decode cL_law 2072 = .ok (.iload 6, 2) := by decide +kernel
theorem dL_law_2074 : decode cL_law 2074 = .ok (.if_icmp .eq 5, 3) := by decide +kernel
theorem dL_law_2077 : decode cL_law 2077 = .ok (.iconst 0, 1) := by decide +kernel
theorem dL_law_2078 : decode cL_law 2078 = .ok (.ireturn, 1) := by decide +kernel
theorem dL_law_2079 : decode cL_law 2079 = .ok (.iload 6, 2) := by decide +kernel
theorem dL_law_2081 : decode cL_law 2081 = .ok (.ifCond .ne 15, 3) := by decide +kernel
theorem dL_law_2084 : decode cL_law 2084 = .ok (.aload_n 3, 1) := by decide +kernel
theorem dL_law_2085 : decode cL_law 2085 = .ok (.iconst 0, 1) := by decide +kernel
theorem dL_law_2086 : decode cL_law 2086 = .ok (.laload, 1) := by decide +kernel
theorem dL_law_2087 : decode cL_law 2087 = .ok (.iload 7, 2) := by decide +kernel
theorem dL_law_2089 : decode cL_law 2089 = .ok (.i2l, 1) := by decide +kernel
theorem dL_law_2090 : decode cL_law 2090 = .ok (.lcmp, 1) := by decide +kernel
theorem dL_law_2091 : decode cL_law 2091 = .ok (.ifCond .eq 5, 3) := by decide +kernel
theorem dL_law_2094 : decode cL_law 2094 = .ok (.iconst 0, 1) := by decide +kernel
theorem dL_law_2095 : decode cL_law 2095 = .ok (.ireturn, 1) := by decide +kernel
theorem dL_law_2096 : decode cL_law 2096 = .ok (.goto 1400, 3) := by decide +kernel
theorem dL_law_2099 : decode cL_law 2099 = .ok (.aload_n 1, 1) := by decide +kernel
theorem dL_law_2100 : decode cL_law 2100 = .ok (.aload_n 0, 1) := by decide +kernel
theorem dL_law_2101 : decode cL_law 2101 = .ok (.iload 5, 2) := by decide +kernel
theorem dL_law_2103 : decode cL_law 2103 = .ok (.iconst 1, 1) := by decide +kernel
theorem dL_law_2104 : decode cL_law 2104 = .ok (.iadd, 1) := by decide +kernel
theorem dL_law_2105 : decode cL_law 2105 = .ok (.iaload, 1) := by decide +kernel
theorem dL_law_2106 : decode cL_law 2106 = .ok (.aload_n 3, 1) := by decide +kernel
theorem dL_law_2107 : decode cL_law 2107 = .ok (.invokestatic 309, 3) := by decide +kernel
theorem dL_law_2110 : decode cL_law 2110 = .ok (.istore 6, 2) := by decide +kernel
theorem dL_law_2112 : decode cL_law 2112 = .ok (.aload_n 2, 1) := by decide +kernel
theorem dL_law_2113 : decode cL_law 2113 = .ok (.aload_n 0, 1) := by decide +kernel
theorem dL_law_2114 : decode cL_law 2114 = .ok (.iload 5, 2) := by decide +kernel
theorem dL_law_2116 : decode cL_law 2116 = .ok (.iconst 1, 1) := by decide +kernel
theorem dL_law_2117 : decode cL_law 2117 = .ok (.iadd, 1) := by decide +kernel
theorem dL_law_2118 : decode cL_law 2118 = .ok (.iaload, 1) := by decide +kernel
theorem dL_law_2119 : decode cL_law 2119 = .ok (.invokevirtual 311, 3) := by decide +kernel
theorem dL_law_2122 : decode cL_law 2122 = .ok (.istore 7, 2) := by decide +kernel
theorem dL_law_2124 : decode cL_law 2124 = .ok (.aload_n 2, 1) := by decide +kernel
theorem dL_law_2125 : decode cL_law 2125 = .ok (.invokevirtual 186, 3) := by decide +kernel
theorem dL_law_2128 : decode cL_law 2128 = .ok (.iload 6, 2) := by decide +kernel
theorem dL_law_2130 : decode cL_law 2130 = .ok (.if_icmp .eq 5, 3) := by decide +kernel
theorem dL_law_2133 : decode cL_law 2133 = .ok (.iconst 0, 1) := by decide +kernel
theorem dL_law_2134 : decode cL_law 2134 = .ok (.ireturn, 1) := by decide +kernel
theorem dL_law_2135 : decode cL_law 2135 = .ok (.iload 6, 2) := by decide +kernel
theorem dL_law_2137 : decode cL_law 2137 = .ok (.ifCond .ne 15, 3) := by decide +kernel
theorem dL_law_2140 : decode cL_law 2140 = .ok (.aload_n 3, 1) := by decide +kernel
theorem dL_law_2141 : decode cL_law 2141 = .ok (.iconst 0, 1) := by decide +kernel
theorem dL_law_2142 : decode cL_law 2142 = .ok (.laload, 1) := by decide +kernel
theorem dL_law_2143 : decode cL_law 2143 = .ok (.iload 7, 2) := by decide +kernel
theorem dL_law_2145 : decode cL_law 2145 = .ok (.i2l, 1) := by decide +kernel
theorem dL_law_2146 : decode cL_law 2146 = .ok (.lcmp, 1) := by decide +kernel
theorem dL_law_2147 : decode cL_law 2147 = .ok (.ifCond .eq 5, 3) := by decide +kernel
theorem dL_law_2150 : decode cL_law 2150 = .ok (.iconst 0, 1) := by decide +kernel
theorem dL_law_2151 : decode cL_law 2151 = .ok (.ireturn, 1) := by decide +kernel
theorem dL_law_2152 : decode cL_law 2152 = .ok (.goto 1344, 3) := by decide +kernel
theorem dL_law_2155 : decode cL_law 2155 = .ok (.aload_n 1, 1) := by decide +kernel
theorem dL_law_2156 : decode cL_law 2156 = .ok (.aload_n 0, 1) := by decide +kernel
theorem dL_law_2157 : decode cL_law 2157 = .ok (.iload 5, 2) := by decide +kernel
theorem dL_law_2159 : decode cL_law 2159 = .ok (.iconst 1, 1) := by decide +kernel
theorem dL_law_2160 : decode cL_law 2160 = .ok (.iadd, 1) := by decide +kernel
theorem dL_law_2161 : decode cL_law 2161 = .ok (.iaload, 1) := by decide +kernel
theorem dL_law_2162 : decode cL_law 2162 = .ok (.aload_n 3, 1) := by decide +kernel
theorem dL_law_2163 : decode cL_law 2163 = .ok (.invokestatic 312, 3) := by decide +kernel
theorem dL_law_2166 : decode cL_law 2166 = .ok (.istore 6, 2) := by decide +kernel
theorem dL_law_2168 : decode cL_law 2168 = .ok (.aload_n 2, 1) := by decide +kernel
theorem dL_law_2169 : decode cL_law 2169 = .ok (.aload_n 0, 1) := by decide +kernel
theorem dL_law_2170 : decode cL_law 2170 = .ok (.iload 5, 2) := by decide +kernel
theorem dL_law_2172 : decode cL_law 2172 = .ok (.iconst 1, 1) := by decide +kernel
theorem dL_law_2173 : decode cL_law 2173 = .ok (.iadd, 1) := by decide +kernel
theorem dL_law_2174 : decode cL_law 2174 = .ok (.iaload, 1) := by decide +kernel
theorem dL_law_2175 : decode cL_law 2175 = .ok (.invokevirtual 314, 3) := by decide +kernel
theorem dL_law_2178 : decode cL_law 2178 = .ok (.istore 7, 2) := by decide +kernel
theorem dL_law_2180 : decode cL_law 2180 = .ok (.aload_n 2, 1) := by decide +kernel
theorem dL_law_2181 : decode cL_law 2181 = .ok (.invokevirtual 186, 3) := by decide +kernel
theorem dL_law_2184 : decode cL_law 2184 = .ok (.iload 6, 2) := by decide +kernel
theorem dL_law_2186 : decode cL_law 2186 = .ok (.if_icmp .eq 5, 3) := by decide +kernel
theorem dL_law_2189 : decode cL_law 2189 = .ok (.iconst 0, 1) := by decide +kernel
theorem dL_law_2190 : decode cL_law 2190 = .ok (.ireturn, 1) := by decide +kernel
theorem dL_law_2191 : decode cL_law 2191 = .ok (.iload 6, 2) := by decide +kernel
theorem dL_law_2193 : decode cL_law 2193 = .ok (.ifCond .ne 15, 3) := by decide +kernel
theorem dL_law_2196 : decode cL_law 2196 = .ok (.aload_n 3, 1) := by decide +kernel
theorem dL_law_2197 : decode cL_law 2197 = .ok (.iconst 0, 1) := by decide +kernel
theorem dL_law_2198 : decode cL_law 2198 = .ok (.laload, 1) := by decide +kernel
theorem dL_law_2199 : decode cL_law 2199 = .ok (.iload 7, 2) := by decide +kernel
theorem dL_law_2201 : decode cL_law 2201 = .ok (.i2l, 1) := by decide +kernel
theorem dL_law_2202 : decode cL_law 2202 = .ok (.lcmp, 1) := by decide +kernel
theorem dL_law_2203 : decode cL_law 2203 = .ok (.ifCond .eq 5, 3) := by decide +kernel
theorem dL_law_2206 : decode cL_law 2206 = .ok (.iconst 0, 1) := by decide +kernel
theorem dL_law_2207 : decode cL_law 2207 = .ok (.ireturn, 1) := by decide +kernel
theorem dL_law_2208 : decode cL_law 2208 = .ok (.goto 1288, 3) := by decide +kernel
theorem dL_law_2211 : decode cL_law 2211 = .ok (.aload_n 1, 1) := by decide +kernel
theorem dL_law_2212 : decode cL_law 2212 = .ok (.aload_n 0, 1) := by decide +kernel
theorem dL_law_2213 : decode cL_law 2213 = .ok (.iload 5, 2) := by decide +kernel
theorem dL_law_2215 : decode cL_law 2215 = .ok (.iconst 1, 1) := by decide +kernel
theorem dL_law_2216 : decode cL_law 2216 = .ok (.iadd, 1) := by decide +kernel
theorem dL_law_2217 : decode cL_law 2217 = .ok (.iaload, 1) := by decide +kernel
theorem dL_law_2218 : decode cL_law 2218 = .ok (.aload_n 3, 1) := by decide +kernel
theorem dL_law_2219 : decode cL_law 2219 = .ok (.invokestatic 315, 3) := by decide +kernel
theorem dL_law_2222 : decode cL_law 2222 = .ok (.istore 6, 2) := by decide +kernel
theorem dL_law_2224 : decode cL_law 2224 = .ok (.aload_n 2, 1) := by decide +kernel
theorem dL_law_2225 : decode cL_law 2225 = .ok (.aload_n 0, 1) := by decide +kernel
theorem dL_law_2226 : decode cL_law 2226 = .ok (.iload 5, 2) := by decide +kernel
theorem dL_law_2228 : decode cL_law 2228 = .ok (.iconst 1, 1) := by decide +kernel
theorem dL_law_2229 : decode cL_law 2229 = .ok (.iadd, 1) := by decide +kernel
theorem dL_law_2230 : decode cL_law 2230 = .ok (.iaload, 1) := by decide +kernel
theorem dL_law_2231 : decode cL_law 2231 = .ok (.invokevirtual 317, 3) := by decide +kernel
theorem dL_law_2234 : decode cL_law 2234 = .ok (.istore 7, 2) := by decide +kernel
theorem dL_law_2236 : decode cL_law 2236 = .ok (.aload_n 2, 1) := by decide +kernel
theorem dL_law_2237 : decode cL_law 2237 = .ok (.invokevirtual 186, 3) := by decide +kernel
theorem dL_law_2240 : decode cL_law 2240 = .ok (.iload 6, 2) := by decide +kernel
theorem dL_law_2242 : decode cL_law 2242 = .ok (.if_icmp .eq 5, 3) := by decide +kernel
theorem dL_law_2245 : decode cL_law 2245 = .ok (.iconst 0, 1) := by decide +kernel
theorem dL_law_2246 : decode cL_law 2246 = .ok (.ireturn, 1) := by decide +kernel
theorem dL_law_2247 : decode cL_law 2247 = .ok (.iload 6, 2) := by decide +kernel
theorem dL_law_2249 : decode cL_law 2249 = .ok (.ifCond .ne 15, 3) := by decide +kernel
theorem dL_law_2252 : decode cL_law 2252 = .ok (.aload_n 3, 1) := by decide +kernel
theorem dL_law_2253 : decode cL_law 2253 = .ok (.iconst 0, 1) := by decide +kernel
theorem dL_law_2254 : decode cL_law 2254 = .ok (.laload, 1) := by decide +kernel
theorem dL_law_2255 : decode cL_law 2255 = .ok (.iload 7, 2) := by decide +kernel
theorem dL_law_2257 : decode cL_law 2257 = .ok (.i2l, 1) := by decide +kernel
theorem dL_law_2258 : decode cL_law 2258 = .ok (.lcmp, 1) := by decide +kernel
theorem dL_law_2259 : decode cL_law 2259 = .ok (.ifCond .eq 5, 3) := by decide +kernel
theorem dL_law_2262 : decode cL_law 2262 = .ok (.iconst 0, 1) := by decide +kernel
theorem dL_law_2263 : decode cL_law 2263 = .ok (.ireturn, 1) := by decide +kernel
theorem dL_law_2264 : decode cL_law 2264 = .ok (.goto 1232, 3) := by decide +kernel
theorem dL_law_2267 : decode cL_law 2267 = .ok (.aload_n 1, 1) := by decide +kernel
theorem dL_law_2268 : decode cL_law 2268 = .ok (.aload_n 0, 1) := by decide +kernel
theorem dL_law_2269 : decode cL_law 2269 = .ok (.iload 5, 2) := by decide +kernel
theorem dL_law_2271 : decode cL_law 2271 = .ok (.iconst 1, 1) := by decide +kernel
theorem dL_law_2272 : decode cL_law 2272 = .ok (.iadd, 1) := by decide +kernel
theorem dL_law_2273 : decode cL_law 2273 = .ok (.iaload, 1) := by decide +kernel
theorem dL_law_2274 : decode cL_law 2274 = .ok (.aload 4, 2) := by decide +kernel
theorem dL_law_2276 : decode cL_law 2276 = .ok (.invokestatic 318, 3) := by decide +kernel
theorem dL_law_2279 : decode cL_law 2279 = .ok (.istore 6, 2) := by decide +kernel
theorem dL_law_2281 : decode cL_law 2281 = .ok (.aload_n 2, 1) := by decide +kernel
theorem dL_law_2282 : decode cL_law 2282 = .ok (.aload_n 0, 1) := by decide +kernel
theorem dL_law_2283 : decode cL_law 2283 = .ok (.iload 5, 2) := by decide +kernel
theorem dL_law_2285 : decode cL_law 2285 = .ok (.iconst 1, 1) := by decide +kernel
theorem dL_law_2286 : decode cL_law 2286 = .ok (.iadd, 1) := by decide +kernel
theorem dL_law_2287 : decode cL_law 2287 = .ok (.iaload, 1) := by decide +kernel
theorem dL_law_2288 : decode cL_law 2288 = .ok (.invokevirtual 321, 3) := by decide +kernel
theorem dL_law_2291 : decode cL_law 2291 = .ok (.dstore 7, 2) := by decide +kernel
theorem dL_law_2293 : decode cL_law 2293 = .ok (.aload_n 2, 1) := by decide +kernel
theorem dL_law_2294 : decode cL_law 2294 = .ok (.invokevirtual 186, 3) := by decide +kernel
theorem dL_law_2297 : decode cL_law 2297 = .ok (.iload 6, 2) := by decide +kernel
theorem dL_law_2299 : decode cL_law 2299 = .ok (.if_icmp .eq 5, 3) := by decide +kernel
theorem dL_law_2302 : decode cL_law 2302 = .ok (.iconst 0, 1) := by decide +kernel
theorem dL_law_2303 : decode cL_law 2303 = .ok (.ireturn, 1) := by decide +kernel
theorem dL_law_2304 : decode cL_law 2304 = .ok (.iload 6, 2) := by decide +kernel
theorem dL_law_2306 : decode cL_law 2306 = .ok (.ifCond .ne 35, 3) := by decide +kernel
theorem dL_law_2309 : decode cL_law 2309 = .ok (.aload 4, 2) := by decide +kernel
theorem dL_law_2311 : decode cL_law 2311 = .ok (.iconst 0, 1) := by decide +kernel
theorem dL_law_2312 : decode cL_law 2312 = .ok (.daload, 1) := by decide +kernel
theorem dL_law_2313 : decode cL_law 2313 = .ok (.dload 7, 2) := by decide +kernel
theorem dL_law_2315 : decode cL_law 2315 = .ok (.dcmp .l, 1) := by decide +kernel
theorem dL_law_2316 : decode cL_law 2316 = .ok (.ifCond .eq 25, 3) := by decide +kernel
theorem dL_law_2319 : decode cL_law 2319 = .ok (.aload 4, 2) := by decide +kernel
theorem dL_law_2321 : decode cL_law 2321 = .ok (.iconst 0, 1) := by decide +kernel
theorem dL_law_2322 : decode cL_law 2322 = .ok (.daload, 1) := by decide +kernel
theorem dL_law_2323 : decode cL_law 2323 = .ok (.aload 4, 2) := by decide +kernel
theorem dL_law_2325 : decode cL_law 2325 = .ok (.iconst 0, 1) := by decide +kernel
theorem dL_law_2326 : decode cL_law 2326 = .ok (.daload, 1) := by decide +kernel
theorem dL_law_2327 : decode cL_law 2327 = .ok (.dcmp .l, 1) := by decide +kernel
