theorem dL_law__2003 : decode cL_law_ 2003 = .ok (.iload 4, 2) := by decide +kernel
theorem dL_law__2005 : decode cL_law_ 2005 = .ok (.iconst 1, 1) := by decide +kernel
theorem dL_law__2006 : decode cL_law_ 2006 = .ok (.iadd, 1) := by decide +kernel
theorem dL_law__2007 : decode cL_law_ 2007 = .ok (.iaload, 1) := by decide +kernel
theorem dL_law__2008 : decode cL_law_ 2008 = .ok (.aload_n 3, 1) := by decide +kernel
theorem dL_law__2009 : decode cL_law_ 2009 = .ok (.invokestatic 229, 3) := by decide +kernel
theorem dL_law__2012 : decode cL_law_ 2012 = .ok (.istore 5, 2) := by decide +kernel
theorem dL_law__2014 : decode cL_law_ 2014 = .ok (.aload_n 2, 1) := by decide +kernel
theorem dL_law__2015 : decode cL_law_ 2015 = .ok (.aload_n 0, 1) := by decide +kernel
theorem dL_law__2016 : decode cL_law_ 2016 = .ok (.iload 4, 2) := by decide +kernel
theorem dL_law__2018 : decode cL_law_ 2018 = .ok (.iconst 1, 1) := by decide +kernel
theorem dL_law__2019 : decode cL_law_ 2019 = .ok (.iadd, 1) := by decide +kernel
theorem dL_law__2020 : decode cL_law_ 2020 = .ok (.iaload, 1) := by decide +kernel
theorem dL_law__2021 : decode cL_law_ 2021 = .ok (.invokevirtual 231, 3) := by decide +kernel
theorem dL_law__2024 : decode cL_law_ 2024 = .ok (.istore 6, 2) := by decide +kernel
theorem dL_law__2026 : decode cL_law_ 2026 = .ok (.aload_n 2, 1) := by decide +kernel
theorem dL_law__2027 : decode cL_law_ 2027 = .ok (.invokevirtual 137, 3) := by decide +kernel
theorem dL_law__2030 : decode cL_law_ 2030 = .ok (.iload 5, 2) := by decide +kernel
theorem dL_law__2032 : decode cL_law_ 2032 = .ok (.if_icmp .eq 5, 3) := by decide +kernel
theorem dL_law__2035 : decode cL_law_ 2035 = .ok (.iconst 0, 1) := by decide +kernel
theorem dL_law__2036 : decode cL_law_ 2036 = .ok (.ireturn, 1) := by decide +kernel
theorem dL_law__2037 : decode cL_law_ 2037 = .ok (.iload 5, 2) := by decide +kernel
theorem dL_law__2039 : decode cL_law_ 2039 = .ok (.ifCond .ne 15, 3) := by decide +kernel
theorem dL_law__2042 : decode cL_law_ 2042 = .ok (.aload_n 3, 1) := by decide +kernel
theorem dL_law__2043 : decode cL_law_ 2043 = .ok (.iconst 0, 1) := by decide +kernel
theorem dL_law__2044 : decode cL_law_ 2044 = .ok (.laload, 1) := by decide +kernel
theorem dL_law__2045 : decode cL_law_ 2045 = .ok (.iload 6, 2) := by decide +kernel
theorem dL_law__2047 : decode cL_law_ 2047 = .ok (.i2l, 1) := by decide +kernel
theorem dL_law__2048 : decode cL_law_ 2048 = .ok (.lcmp, 1) := by decide +kernel
theorem dL_law__2049 : decode cL_law_ 2049 = .ok (.ifCond .eq 5, 3) := by decide +kernel
theorem dL_law__2052 : decode cL_law_ 2052 = .ok (.iconst 0, 1) := by decide +kernel
theorem dL_law__2053 : decode cL_law_ 2053 = .ok (.ireturn, 1) := by decide +kernel
theorem dL_law__2054 : decode cL_law_ 2054 = .ok (.goto 753, 3) := by decide +kernel
theorem dL_law__2057 : decode cL_law_ 2057 = .ok (.aload_n 1, 1) := by decide +kernel
theorem dL_law__2058 : decode cL_law_ 2058 = .ok (.aload_n 0, 1) := by decide +kernel
theorem dL_law__2059 : decode cL_law_ 2059 = .ok (.iload 4, 2) := by decide +kernel
theorem dL_law__2061 : decode cL_law_ 2061 = .ok (.iconst 1, 1) := by decide +kernel
theorem dL_law__2062 : decode cL_law_ 2062 = .ok (.iadd, 1) := by decide +kernel
theorem dL_law__2063 : decode cL_law_ 2063 = .ok (.iaload, 1) := by decide +kernel
theorem dL_law__2064 : decode cL_law_ 2064 = .ok (.aload_n 0, 1) := by decide +kernel
theorem dL_law__2065 : decode cL_law_ 2065 = .ok (.iload 4, 2) := by decide +kernel
theorem dL_law__2067 : decode cL_law_ 2067 = .ok (.iconst 2, 1) := by decide +kernel
theorem dL_law__2068 : decode cL_law_ 2068 = .ok (.iadd, 1) := by decide +kernel
theorem dL_law__2069 : decode cL_law_ 2069 = .ok (.iaload, 1) := by decide +kernel
theorem dL_law__2070 : decode cL_law_ 2070 = .ok (.aload_n 3, 1) := by decide +kernel
theorem dL_law__2071 : decode cL_law_ 2071 = .ok (.invokestatic 232, 3) := by decide +kernel
theorem dL_law__2074 : decode cL_law_ 2074 = .ok (.istore 5, 2) := by decide +kernel
theorem dL_law__2076 : decode cL_law_ 2076 = .ok (.aload_n 2, 1) := by decide +kernel
theorem dL_law__2077 : decode cL_law_ 2077 = .ok (.aload_n 0, 1) := by decide +kernel
theorem dL_law__2078 : decode cL_law_ 2078 = .ok (.iload 4, 2) := by decide +kernel
theorem dL_law__2080 : decode cL_law_ 2080 = .ok (.iconst 1, 1) := by decide +kernel
theorem dL_law__2081 : decode cL_law_ 2081 = .ok (.iadd, 1) := by decide +kernel
theorem dL_law__2082 : decode cL_law_ 2082 = .ok (.iaload, 1) := by decide +kernel
theorem dL_law__2083 : decode cL_law_ 2083 = .ok (.aload_n 0, 1) := by decide +kernel
theorem dL_law__2084 : decode cL_law_ 2084 = .ok (.iload 4, 2) := by decide +kernel
theorem dL_law__2086 : decode cL_law_ 2086 = .ok (.iconst 2, 1) := by decide +kernel
theorem dL_law__2087 : decode cL_law_ 2087 = .ok (.iadd, 1) := by decide +kernel
theorem dL_law__2088 : decode cL_law_ 2088 = .ok (.iaload, 1) := by decide +kernel
theorem dL_law__2089 : decode cL_law_ 2089 = .ok (.invokevirtual 234, 3) := by decide +kernel
theorem dL_law__2092 : decode cL_law_ 2092 = .ok (.istore 6, 2) := by decide +kernel
theorem dL_law__2094 : decode cL_law_ 2094 = .ok (.aload_n 2, 1) := by decide +kernel
theorem dL_law__2095 : decode cL_law_ 2095 = .ok (.invokevirtual 137, 3) := by decide +kernel
theorem dL_law__2098 : decode cL_law_ 2098 = .ok (.iload 5, 2) := by decide +kernel
theorem dL_law__2100 : decode cL_law_ 2100 = .ok (.if_icmp .eq 5, 3) := by decide +kernel
theorem dL_law__2103 : decode cL_law_ 2103 = .ok (.iconst 0, 1) := by decide +kernel
theorem dL_law__2104 : decode cL_law_ 2104 = .ok (.ireturn, 1) := by decide +kernel
theorem dL_law__2105 : decode cL_law_ 2105 = .ok (.iload 5, 2) := by decide +kernel
theorem dL_law__2107 : decode cL_law_ 2107 = .ok (.ifCond .ne 15, 3) := by decide +kernel
theorem dL_law__2110 : decode cL_law_ 2110 = .ok (.aload_n 3, 1) := by decide +kernel
theorem dL_law__2111 : decode cL_law_ 2111 = .ok (.iconst 0, 1) := by decide +kernel
theorem dL_law__2112 : decode cL_law_ 2112 = .ok (.laload, 1) := by decide +kernel
theorem dL_law__2113 : decode cL_law_ 2113 = .ok (.iload 6, 2) := by decide +kernel
theorem dL_law__2115 : decode cL_law_ 2115 = .ok (.i2l, 1) := by decide +kernel
theorem dL_law__2116 : decode cL_law_ 2116 = .ok (.lcmp, 1) := by decide +kernel
theorem dL_law__2117 : decode cL_law_ 2117 = .ok (.ifCond .eq 5, 3) := by decide +kernel
theorem dL_law__2120 : decode cL_law_ 2120 = .ok (.iconst 0, 1) := by decide +kernel
theorem dL_law__2121 : decode cL_law_ 2121 = .ok (.ireturn, 1) := by decide +kernel
theorem dL_law__2122 : decode cL_law_ 2122 = .ok (.goto 685, 3) := by decide +kernel
theorem dL_law__2125 : decode cL_law_ 2125 = .ok (.aload_n 1, 1) := by decide +kernel
theorem dL_law__2126 : decode cL_law_ 2126 = .ok (.aload_n 0, 1) := by decide +kernel
theorem dL_law__2127 : decode cL_law_ 2127 = .ok (.iload 4, 2) := by decide +kernel
theorem dL_law__2129 : decode cL_law_ 2129 = .ok (.iconst 1, 1) := by decide +kernel
theorem dL_law__2130 : decode cL_law_ 2130 = .ok (.iadd, 1) := by decide +kernel
theorem dL_law__2131 : decode cL_law_ 2131 = .ok (.iaload, 1) := by decide +kernel
theorem dL_law__2132 : decode cL_law_ 2132 = .ok (.aload_n 3, 1) := by decide +kernel
theorem dL_law__2133 : decode cL_law_ 2133 = .ok (.invokestatic 235, 3) := by decide +kernel
theorem dL_law__2136 : decode cL_law_ 2136 = .ok (.istore 5, 2) := by decide +kernel
theorem dL_law__2138 : decode cL_law_ 2138 = .ok (.aload_n 2, 1) := by decide +kernel
theorem dL_law__2139 : decode cL_law_ 2139 = .ok (.aload_n 0, 1) := by decide +kernel
theorem dL_law__2140 : decode cL_law_ 2140 = .ok (.iload 4, 2) := by decide +kernel
theorem dL_law__2142 : decode cL_law_ 2142 = .ok (.iconst 1, 1) := by decide +kernel
theorem dL_law__2143 : decode cL_law_ 2143 = .ok (.iadd, 1) := by decide +kernel
theorem dL_law__2144 : decode cL_law_ 2144 = .ok (.iaload, 1) := by decide +kernel
theorem dL_law__2145 : decode cL_law_ 2145 = .ok (.invokevirtual 237, 3) := by decide +kernel
theorem dL_law__2148 : decode cL_law_ 2148 = .ok (.istore 6, 2) := by decide +kernel
theorem dL_law__2150 : decode cL_law_ 2150 = .ok (.aload_n 2, 1) := by decide +kernel
theorem dL_law__2151 : decode cL_law_ 2151 = .ok (.invokevirtual 137, 3) := by decide +kernel
theorem dL_law__2154 : decode cL_law_ 2154 = .ok (.iload 5, 2) := by decide +kernel
theorem dL_law__2156 : decode cL_law_ 2156 = .ok (.if_icmp .eq 5, 3) := by decide +kernel
theorem dL_law__2159 : decode cL_law_ 2159 = .ok (.iconst 0, 1) := by decide +kernel
theorem dL_law__2160 : decode cL_law_ 2160 = .ok (.ireturn, 1) := by decide +kernel
theorem dL_law__2161 : decode cL_law_ 2161 = .ok (.iload 5, 2) := by decide +kernel
theorem dL_law__2163 : decode cL_law_ 2163 = .ok (.ifCond .ne 15, 3) := by decide +kernel
theorem dL_law__2166 : decode cL_law_ 2166 = .ok (.aload_n 3, 1) := by decide +kernel
theorem dL_law__2167 : decode cL_law_ 2167 = .ok (.iconst 0, 1) := by decide +kernel
theorem dL_law__2168 : decode cL_law_ 2168 = .ok (.laload, 1) := by decide +kernel
theorem dL_law__2169 : decode cL_law_ 2169 = .ok (.iload 6, 2) := by decide +kernel
theorem dL_law__2171 : decode cL_law_ 2171 = .ok (.i2l, 1) := by decide +kernel
theorem dL_law__2172 : decode cL_law_ 2172 = .ok (.lcmp, 1) := by decide +kernel
theorem dL_law__2173 : decode cL_law_ 2173 = .ok (.ifCond .eq 5, 3) := by decide +kernel
theorem dL_law__2176 : decode cL_law_ 2176 = .ok (.iconst 0, 1) := by decide +kernel
theorem dL_law__2177 : decode cL_law_ 2177 = .ok (.ireturn, 1) := by decide +kernel
theorem dL_law__2178 : decode cL_law_ 2178 = .ok (.goto 629, 3) := by decide +kernel
theorem dL_law__2181 : decode cL_law_ 2181 = .ok (.aload_n 1, 1) := by decide +kernel
theorem dL_law__2182 : decode cL_law_ 2182 = .ok (.aload_n 0, 1) := by decide +kernel
theorem dL_law__2183 : decode cL_law_ 2183 = .ok (.iload 4, 2) := by decide +kernel
theorem dL_law__2185 : decode cL_law_ 2185 = .ok (.iconst 1, 1) := by decide +kernel
theorem dL_law__2186 : decode cL_law_ 2186 = .ok (.iadd, 1) := by decide +kernel
theorem dL_law__2187 : decode cL_law_ 2187 = .ok (.iaload, 1) := by decide +kernel
theorem dL_law__2188 : decode cL_law_ 2188 = .ok (.aload_n 0, 1) := by decide +kernel
theorem dL_law__2189 : decode cL_law_ 2189 = .ok (.iload 4, 2) := by decide +kernel
theorem dL_law__2191 : decode cL_law_ 2191 = .ok (.iconst 2, 1) := by decide +kernel
theorem dL_law__2192 : decode cL_law_ 2192 = .ok (.iadd, 1) := by decide +kernel
theorem dL_law__2193 : decode cL_law_ 2193 = .ok (.iaload, 1) := by decide +kernel
theorem dL_law__2194 : decode cL_law_ 2194 = .ok (.aload_n 3, 1) := by decide +kernel
theorem dL_law__2195 : decode cL_law_ 2195 = .ok (.invokestatic 238, 3) := by decide +kernel
theorem dL_law__2198 : decode cL_law_ 2198 = .ok (.istore 5, 2) := by decide +kernel
theorem dL_law__2200 : decode cL_law_ 2200 = .ok (.aload_n 2, 1) := by decide +kernel
theorem dL_law__2201 : decode cL_law_ 2201 = .ok (.aload_n 0, 1) := by decide +kernel
theorem dL_law__2202 : decode cL_law_ 2202 = .ok (.iload 4, 2) := by decide +kernel
theorem dL_law__2204 : decode cL_law_ 2204 = .ok (.iconst 1, 1) := by decide +kernel
theorem dL_law__2205 : decode cL_law_ 2205 = .ok (.iadd, 1) := by decide +kernel
theorem dL_law__2206 : decode cL_law_ 2206 = .ok (.iaload, 1) := by decide +kernel
theorem dL_law__2207 : decode cL_law_ 2207 = .ok (.aload_n 0, 1) := by decide +kernel
theorem dL_law__2208 : decode cL_law_ 2208 = .ok (.iload 4, 2) := by decide +kernel
theorem dL_law__2210 : decode cL_law_ 2210 = .ok (.iconst 2, 1) := by decide +kernel
theorem dL_law__2211 : decode cL_law_ 2211 = .ok (.iadd, 1) := by decide +kernel
theorem dL_law__2212 : decode cL_law_ 2212 = .ok (.iaload, 1) := by decide +kernel
theorem dL_law__2213 : decode cL_law_ 2213 = .ok (.invokevirtual 240, 3) := by decide +kernel
theorem dL_law__2216 : decode cL_law_ 2216 = .ok (.istore 6, 2) := by decide +kernel
theorem dL_law__2218 : decode cL_law_ 2218 = .ok (.aload_n 2, 1) := by decide +kernel
theorem dL_law__2219 : decode cL_law_ 2219 = .ok (.invokevirtual 137, 3) := by decide +kernel
theorem dL_law__2222 : decode cL_law_ 2222 = .ok (.iload 5, 2) := by decide +kernel
theorem dL_law__2224 : decode cL_law_ 2224 = .ok (.if_icmp .eq 5, 3) := by decide +kernel
theorem dL_law__2227 : decode cL_law_ 2227 = .ok (.iconst 0, 1) := by decide +kernel
theorem dL_law__2228 : decode cL_law_ 2228 = .ok (.ireturn, 1) := by decide +kernel
theorem dL_law__2229 : decode cL_law_ 2229 = .ok (.iload 5, 2) := by decide +kernel
theorem dL_law__2231 : decode cL_law_ 2231 = .ok (.ifCond .ne 15, 3) := by decide +kernel
theorem dL_law__2234 : decode cL_law_ 2234 = .ok (.aload_n 3, 1) := by decide +kernel
theorem dL_law__2235 : decode cL_law_ 2235 = .ok (.iconst 0, 1) := by decide +kernel
theorem dL_law__2236 : decode cL_law_ 2236 = .ok (.laload, 1) := by decide +kernel
theorem dL_law__2237 : decode cL_law_ 2237 = .ok (.iload 6, 2) := by decide +kernel
theorem dL_law__2239 : decode cL_law_ 2239 = .ok (.i2l, 1) := by decide +kernel
theorem dL_law__2240 : decode cL_law_ 2240 = .ok (.lcmp, 1) := by decide +kernel
theorem dL_law__2241 : decode cL_law_ 2241 = .ok (.ifCond .eq 5, 3) := by decide +kernel
theorem dL_law__2244 : decode cL_law_ 2244 = .ok (.iconst 0, 1) := by decide +kernel
theorem dL_law__2245 : decode cL_law_ 2245 = .ok (.ireturn, 1) := by decide +kernel
theorem dL_law__2246 : decode cL_law_ 2246 = .ok (.goto 561, 3) := by decide +kernel
theorem dL_law__2249 : decode cL_law_ 2249 = .ok (.aload_n 1, 1) := by decide +kernel
theorem dL_law__2250 : decode cL_law_ 2250 = .ok (.aload_n 0, 1) := by decide +kernel
theorem dL_law__2251 : decode cL_law_ 2251 = .ok (.iload 4, 2) := by decide +kernel
theorem dL_law__2253 : decode cL_law_ 2253 = .ok (.iconst 1, 1) := by decide +kernel
theorem dL_law__2254 : decode cL_law_ 2254 = .ok (.iadd, 1) := by decide +kernel
theorem dL_law__2255 : decode cL_law_ 2255 = .ok (.iaload, 1) := by decide +kernel
theorem dL_law__2256 : decode cL_law_ 2256 = .ok (.aload_n 0, 1) := by decide +kernel
theorem dL_law__2257 : decode cL_law_ 2257 = .ok (.iload 4, 2) := by decide +kernel
theorem dL_law__2259 : decode cL_law_ 2259 = .ok (.iconst 2, 1) := by decide +kernel
theorem dL_law__2260 : decode cL_law_ 2260 = .ok (.iadd, 1) := by decide +kernel
theorem dL_law__2261 : decode cL_law_ 2261 = .ok (.iaload, 1) := by decide +kernel
theorem dL_law__2262 : decode cL_law_ 2262 = .ok (.aload_n 3, 1) := by decide +kernel
theorem dL_law__2263 : decode cL_law_ 2263 = .ok (.invokestatic 241, 3) := by decide +kernel
theorem dL_law__2266 : decode cL_law_ 2266 = .ok (.istore 5, 2) := by decide +kernel
theorem dL_law__2268 : decode cL_law_ 2268 = .ok (.aload_n 2, 1) := by decide +kernel
theorem dL_law__2269 : decode cL_law_ 2269 = .ok (.aload_n 0, 1) := by decide +kernel
theorem dL_law__2270 : decode cL_law_ 2270 = .ok (.iload 4, 2) := by decide +kernel
theorem dL_law__2272 : decode cL_law_ 2272 = .ok (.iconst 1, 1) := by decide +kernel
theorem dL_law__2273 : decode cL_law_ 2273 = .ok (.iadd, 1) := by decide +kernel
theorem dL_law__2274 : decode cL_law_ 2274 = .ok (.iaload, 1) := by decide +kernel
theorem dL_law__2275 : decode cL_law_ 2275 = .ok (.aload_n 0, 1) := by decide +kernel
theorem dL_law__2276 : decode cL_law_ 2276 = .ok (.iload 4, 2) := by decide +kernel
theorem dL_law__2278 : decode cL_law_ 2278 = .ok (.iconst 2, 1) := by decide +kernel
theorem dL_law__2279 : decode cL_law_ 2279 = .ok (.iadd, 1) := by decide +kernel
theorem dL_law__2280 : decode cL_law_ 2280 = .ok (.iaload, 1) := by decide +kernel
theorem dL_law__2281 : decode cL_law_ 2281 = .ok (.invokevirtual 243, 3) := by decide +kernel
theorem dL_law__2284 : decode cL_law_ 2284 = .ok (.istore 6, 2) := by decide +kernel
theorem dL_law__2286 : decode cL_law_ 2286 = .ok (.aload_n 2, 1) := by decide +kernel
theorem dL_law__2287 : decode cL_law_ 2287 = .ok (.invokevirtual 137, 3) := by decide +kernel
theorem dL_law__2290 : decode cL_law_ 2290 = .ok (.iload 5, 2) := by decide +kernel
theorem dL_law__2292 : decode cL_law_ 2292 = .ok (.if_icmp .eq 5, 3) := by decide +kernel
theorem dL_law__2295 : decode cL_law_ 2295 = .ok (.iconst 0, 1) := by decide +kernel
theorem dL_law__2296 : decode cL_law_ 2296 = .ok (.ireturn, 1) := by decide +kernel
theorem dL_law__2297 : decode cL_law_ 2297 = .ok (.iload 5, 2) := by decide +kernel
theorem dL_law__2299 : decode cL_law_ 2299 = .ok (.ifCond .ne 15, 3) := by decide +kernel
theorem dL_law__2302 : decode cL_law_ 2302 = .ok (.aload_n 3, 1) := by decide +kernel
theorem dL_law__2303 : decode cL_law_ 2303 = .ok (.iconst 0, 1) := by decide +kernel
theorem dL_law__2304 : decode cL_law_ 2304 = .ok (.laload, 1) := by decide +kernel
theorem dL_law__2305 : decode cL_law_ 2305 = .ok (.iload 6, 2) := by decide +kernel
theorem dL_law__2307 : decode cL_law_ 2307 = .ok (.i2l, 1) := by decide +kernel
theorem dL_law__2308 : decode cL_law_ 2308 = .ok (.lcmp, 1) := by decide +kernel
theorem dL_law__2309 : decode cL_law_ 2309 = .ok (.ifCond .eq 5, 3) := by decide +kernel
theorem dL_law__2312 : decode cL_law_ 2312 = .ok (.iconst 0, 1) := by decide +kernel
theorem dL_law__2313 : decode cL_law_ 2313 = .ok (.ireturn, 1) := by decide +kernel
theorem dL_law__2314 : decode cL_law_ 2314 = .ok (.goto 493, 3) := by decide +kernel
theorem dL_law__2317 : decode cL_law_ 2317 = .ok (.aload_n 1, 1) := by decide +kernel
theorem dL_law__2318 : decode cL_law_ 2318 = .ok (.aload_n 0, 1) := by decide +kernel
theorem dL_law__2319 : decode cL_law_ 2319 = .ok (.iload 4, 2) := by decide +kernel
theorem dL_law__2321 : decode cL_law_ 2321 = .ok (.iconst 1, 1) := by decide +kernel
theorem dL_law__2322 : decode cL_law_ 2322 = .ok (.iadd, 1) := by decide +kernel
theorem dL_law__2323 : decode cL_law_ 2323 = .ok (.iaload, 1) := by decide +kernel
theorem dL_law__2324 : decode cL_law_ 2324 = .ok (.aload_n 3, 1) := by decide +kernel
theorem dL_law__2325 : decode cL_law_ 2325 = .ok (.invokestatic 244, 3) := by decide +kernel
theorem dL_law__2328 : decode cL_law_ 2328 = .ok (.istore 5, 2) := by decide +kernel
theorem dL_law__2330 : decode cL_law_ 2330 = .ok (.aload_n 2, 1) := by decide +kernel
theorem dL_law__2331 : decode cL_law_ 2331 = .ok (.aload_n 0, 1) := by decide +kernel
theorem dL_law__2332 : decode cL_law_ 2332 = .ok (.iload 4, 2) := by decide +kernel
theorem dL_law__2334 : decode cL_law_ 2334 = .ok (.iconst 1, 1) := by decide +kernel
theorem dL_law__2335 : decode cL_law_ 2335 = .ok (.iadd, 1) := by decide +kernel
theorem dL_law__2336 : decode cL_law_ 2336 = .ok (.iaload, 1) := by decide +kernel
theorem dL_law__2337 : decode cL_law_ 2337 = .ok (.invokevirtual 246, 3) := by decide +kernel
theorem dL_law__2340 : decode cL_law_ 2340 = .ok (.istore 6, 2) := by decide +kernel
theorem dL_law__2342 : decode cL_law_ 2342 = .ok (.aload_n 2, 1) := by decide +kernel
theorem dL_law__2343 : decode cL_law_ 2343 = .ok (.invokevirtual 137, 3) := by decide +kernel
theorem dL_law__2346 : decode cL_law_ 2346 = .ok (.iload 5, 2) := by decide +kernel
theorem dL_law__2348 : decode cL_law_ 2348 = .ok (.if_icmp .eq 5, 3) := by decide +kernel
theorem dL_law__2351 : decode cL_law_ 2351 = .ok (.iconst 0, 1) := by decide +kernel
theorem dL_law__2352 : decode cL_law_ 2352 = .ok (.ireturn, 1) := by decide +kernel
theorem dL_law__2353 : decode cL_law_ 2353 = .ok (.iload 5, 2) := by decide +kernel
theorem dL_law__2355 : decode cL_law_ 2355 = .ok (.ifCond .ne 15, 3) := by decide +kernel
theorem dL_law__2358 : decode cL_law_ 2358 = .ok (.aload_n 3, 1) := by decide +kernel
theorem dL_law__2359 : decode cL_law_ 2359 = .ok (.iconst 0, 1) := by decide +kernel
theorem dL_law__2360 : decode cL_law_ 2360 = .ok (.laload, 1) := by decide +kernel
theorem dL_law__2361 : decode cL_law_ 2361 = .ok (.iload 6, 2) := by decide +kernel
theorem dL_law__2363 : decode cL_law_ 2363 = .ok (.i2l, 1) := by decide +kernel
theorem dL_law__2364 : decode cL_law_ 2364 = .ok (.lcmp, 1) := by decide +kernel
theorem dL_law__2365 : decode cL_law_ 2365 = .ok (.ifCond .eq 5, 3) := by decide +kernel
theorem dL_law__2368 : decode cL_law_ 2368 = .ok (.iconst 0, 1) := by decide +kernel
theorem dL_law__2369 : decode cL_law_ 2369 = .ok (.ireturn, 1) := by decide +kernel
theorem dL_law__2370 : decode cL_law_ 2370 = .ok (.goto 437, 3) := by decide +kernel
theorem dL_law__2373 : decode cL_law_ 2373 = .ok (.aload_n 1, 1) := by decide +kernel
theorem dL_law__2374 : decode cL_law_ 2374 = .ok (.aload_n 0, 1) := by decide +kernel
theorem dL_law__2375 : decode cL_law_ 2375 = .ok (.iload 4, 2) := by decide +kernel
theorem dL_law__2377 : decode cL_law_ 2377 = .ok (.iconst 1, 1) := by decide +kernel
theorem dL_law__2378 : decode cL_law_ 2378 = .ok (.iadd, 1) := by decide +kernel
theorem dL_law__2379 : decode cL_law_ 2379 = .ok (.iaload, 1) := by decide +kernel
theorem dL_law__2380 : decode cL_law_ 2380 = .ok (.aload_n 0, 1) := by decide +kernel
theorem dL_law__2381 : decode cL_law_ 2381 = .ok (.iload 4, 2) := by decide +kernel
theorem dL_law__2383 : decode cL_law_ 2383 = .ok (.iconst 2, 1) := by decide +kernel
theorem dL_law__2384 : decode cL_law_ 2384 = .ok (.iadd, 1) := by decide +kernel
theorem dL_law__2385 : decode cL_law_ 2385 = .ok (.iaload, 1) := by decide +kernel
theorem dL_law__2386 : decode cL_law_ 2386 = .ok (.aload_n 0, 1) := by decide +kernel
theorem dL_law__2387 : decode cL_law_ 2387 = .ok (.iload 4, 2) := by decide +kernel
theorem dL_law__2389 : decode cL_law_ 2389 = .ok (.iconst 3, 1) := by decide +kernel
theorem dL_law__2390 : decode cL_law_ 2390 = .ok (.iadd, 1) := by decide +kernel
theorem dL_law__2391 : decode cL_law_ 2391 = .ok (.iaload, 1) := by decide +kernel
theorem dL_law__2392 : decode cL_law_ 2392 = .ok (.aload_n 3, 1) := by decide +kernel
theorem dL_law__2393 : decode cL_law_ 2393 = .ok (.invokestatic 247, 3) := by decide +kernel
theorem dL_law__2396 : decode cL_law_ 2396 = .ok (.istore 5, 2) := by decide +kernel
theorem dL_law__2398 : decode cL_law_ 2398 = .ok (.aload_n 2, 1) := by decide +kernel
theorem dL_law__2399 : decode cL_law_ 2399 = .ok (.aload_n 0, 1) := by decide +kernel
theorem dL_law__2400 : decode cL_law_ 2400 = .ok (.iload 4, 2) := by decide +kernel
theorem dL_law__2402 : decode cL_law_ 2402 = .ok (.iconst 1, 1) := by decide +kernel
theorem dL_law__2403 : decode cL_law_ 2403 = .ok (.iadd, 1) := by decide +kernel
theorem dL_law__2404 : decode cL_law_ 2404 = .ok (.iaload, 1) := by decide +kernel
theorem dL_law__2405 : decode cL_law_ 2405 = .ok (.aload_n 0, 1) := by decide +kernel
theorem dL_law__2406 : decode cL_law_ 2406 = .ok (.iload 4, 2) := by decide +kernel
theorem dL_law__2408 : decode cL_law_ 2408 = .ok (.iconst 2, 1) := by decide +kernel
theorem dL_law__2409 : decode cL_law_ 2409 = .ok (.iadd, 1) := by decide +kernel
theorem dL_law__2410 : decode cL_law_ 2410 = .ok (.iaload, 1) := by decide +kernel
theorem dL_law__2411 : decode cL_law_ 2411 = .ok (.aload_n 0, 1) := by decide +kernel
theorem dL_law__2412 : decode cL_law_ 2412 = .ok (.iload 4, 2) := by decide +kernel
theorem dL_law__2414 : decode cL_law_ 2414 = .ok (.iconst 3, 1) := by decide +kernel
theorem dL_law__2415 : decode cL_law_ 2415 = .ok (.iadd, 1) := by decide +kernel
theorem dL_law__2416 : decode cL_law_ 2416 = .ok (.iaload, 1) := by decide +kernel
theorem dL_law__2417 : decode cL_law_ 2417 = .ok (.invokevirtual 249, 3) := by decide +kernel
theorem dL_law__2420 : decode cL_law_ 2420 = .ok (.istore 6, 2) := by decide +kernel
theorem dL_law__2422 : decode cL_law_ 2422 = .ok (.aload_n 2, 1) := by decide +kernel
theorem dL_law__2423 : decode cL_law_ 2423 = .ok (.invokevirtual 137, 3) := by decide +kernel
theorem dL_law__2426 : decode cL_law_ 2426 = .ok (.iload 5, 2) := by decide +kernel
theorem dL_law__2428 : decode cL_law_ 2428 = .ok (.if_icmp .eq 5, 3) := by decide +kernel
theorem dL_law__2431 : decode cL_law_ 2431 = .ok (.iconst 0, 1) := by decide +kernel
theorem dL_law__2432 : decode cL_law_ 2432 = .ok (.ireturn, 1) := by decide +kernel
theorem dL_law__2433 : decode cL_law_ 2433 = .ok (.iload 5, 2) := by decide +kernel
theorem dL_law__2435 : decode cL_law_ 2435 = .ok (.ifCond .ne 15, 3) := by decide +kernel
theorem dL_law__2438 : decode cL_law_ 2438 = .ok (.aload_n 3, 1) := by decide +kernel
theorem dL_law__2439 : decode cL_law_ 2439 = .ok (.iconst 0, 1) := by decide +kernel
theorem dL_law__2440 : decode cL_law_ 2440 = .ok (.laload, 1) := by decide +kernel
theorem dL_law__2441 : decode cL_law_ 2441 = .ok (.iload 6, 2) := by decide +kernel
theorem dL_law__2443 : decode cL_law_ 2443 = .ok (.i2l, 1) := by decide +kernel
theorem dL_law__2444 : decode cL_law_ 2444 = .ok (.lcmp, 1) := by decide +kernel
theorem dL_law__2445 : decode cL_law_ 2445 = .ok (.ifCond .eq 5, 3) := by decide +kernel
theorem dL_law__2448 : decode cL_law_ 2448 = .ok (.iconst 0, 1) := by decide +kernel
theorem dL_law__2449 : decode cL_law_ 2449 = .ok (.ireturn, 1) := by decide +kernel
theorem dL_law__2450 : decode cL_law_ 2450 = .ok (.goto 357, 3) := by decide +kernel
theorem dL_law__2453 : decode cL_law_ 2453 = .ok (.aload_n 1, 1) := by decide +kernel
theorem dL_law__2454 : decode cL_law_ 2454 = .ok (.aload_n 0, 1) := by decide +kernel
theorem dL_law__2455 : decode cL_law_ 2455 = .ok (.iload 4, 2) := by decide +kernel
theorem dL_law__2457 : decode cL_law_ 2457 = .ok (.iconst 1, 1) := by decide +kernel
theorem dL_law__2458 : decode cL_law_ 2458 = .ok (.iadd, 1) := by decide +kernel
theorem dL_law__2459 : decode cL_law_ 2459 = .ok (.iaload, 1) := by decide +kernel
theorem dL_law__2460 : decode cL_law_ 2460 = .ok (.aload_n 0, 1) := by decide +kernel
