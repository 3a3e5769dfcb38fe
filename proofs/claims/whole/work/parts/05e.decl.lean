theorem dL_law_2044 : decode cL_law 2044 = .ok (.if_icmp .eq 953, 3) := by decide +kernel
theorem dL_law_2047 : decode cL_law 2047 = .ok (.iconst 0, 1) := by decide +kernel
theorem dL_law_2048 : decode cL_law 2048 = .ok (.ireturn, 1) := by decide +kernel
theorem dL_law_2049 : decode cL_law 2049 = .ok (.aload_n 1, 1) := by decide +kernel
theorem dL_law_2050 : decode cL_law 2050 = .ok (.aload_n 0, 1) := by decide +kernel
theorem dL_law_2051 : decode cL_law 2051 = .ok (.iload 5, 2) := by decide +kernel
theorem dL_law_2053 : decode cL_law 2053 = .ok (.iconst 1, 1) := by decide +kernel
theorem dL_law_2054 : decode cL_law 2054 = .ok (.iadd, 1) := by decide +kernel
theorem dL_law_2055 : decode cL_law 2055 = .ok (.iaload, 1) := by decide +kernel
theorem dL_law_2056 : decode cL_law 2056 = .ok (.aload_n 3, 1) := by decide +kernel
theorem dL_law_2057 : decode cL_law 2057 = .ok (.invokestatic 254, 3) := by decide +kernel
theorem dL_law_2060 : decode cL_law 2060 = .ok (.istore 6, 2) := by decide +kernel
theorem dL_law_2062 : decode cL_law 2062 = .ok (.aload_n 2, 1) := by decide +kernel
theorem dL_law_2063 : decode cL_law 2063 = .ok (.aload_n 0, 1) := by decide +kernel
theorem dL_law_2064 : decode cL_law 2064 = .ok (.iload 5, 2) := by decide +kernel
theorem dL_law_2066 : decode cL_law 2066 = .ok (.iconst 1, 1) := by decide +kernel
theorem dL_law_2067 : decode cL_law 2067 = .ok (.iadd, 1) := by decide +kernel
theorem dL_law_2068 : decode cL_law 2068 = .ok (.iaload, 1) := by decide +kernel
theorem dL_law_2069 : decode cL_law 2069 = .ok (.invokevirtual 256, 3) := by decide +kernel
theorem dL_law_2072 : decode cL_law 2072 = .ok (.istore 7, 2) := by decide +kernel
theorem dL_law_2074 : decode cL_law 2074 = .ok (.aload_n 2, 1) := by decide +kernel
theorem dL_law_2075 : decode cL_law 2075 = .ok (.invokevirtual 155, 3) := by decide +kernel
theorem dL_law_2078 : decode cL_law 2078 = .ok (.iload 6, 2) := by decide +kernel
theorem dL_law_2080 : decode cL_law 2080 = .ok (.if_icmp .eq 5, 3) := by decide +kernel
theorem dL_law_2083 : decode cL_law 2083 = .ok (.iconst 0, 1) := by decide +kernel
theorem dL_law_2084 : decode cL_law 2084 = .ok (.ireturn, 1) := by decide +kernel
theorem dL_law_2085 : decode cL_law 2085 = .ok (.iload 6, 2) := by decide +kernel
theorem dL_law_2087 : decode cL_law 2087 = .ok (.ifCond .ne 15, 3) := by decide +kernel
theorem dL_law_2090 : decode cL_law 2090 = .ok (.aload_n 3, 1) := by decide +kernel
theorem dL_law_2091 : decode cL_law 2091 = .ok (.iconst 0, 1) := by decide +kernel
theorem dL_law_2092 : decode cL_law 2092 = .ok (.laload, 1) := by decide +kernel
theorem dL_law_2093 : decode cL_law 2093 = .ok (.iload 7, 2) := by decide +kernel
theorem dL_law_2095 : decode cL_law 2095 = .ok (.i2l, 1) := by decide +kernel
theorem dL_law_2096 : decode cL_law 2096 = .ok (.lcmp, 1) := by decide +kernel
theorem dL_law_2097 : decode cL_law 2097 = .ok (.ifCond .eq 5, 3) := by decide +kernel
theorem dL_law_2100 : decode cL_law 2100 = .ok (.iconst 0, 1) := by decide +kernel
theorem dL_law_2101 : decode cL_law 2101 = .ok (.ireturn, 1) := by decide +kernel
theorem dL_law_2102 : decode cL_law 2102 = .ok (.goto 895, 3) := by decide +kernel
theorem dL_law_2105 : decode cL_law 2105 = .ok (.aload_n 1, 1) := by decide +kernel
theorem dL_law_2106 : decode cL_law 2106 = .ok (.aload_n 0, 1) := by decide +kernel
theorem dL_law_2107 : decode cL_law 2107 = .ok (.iload 5, 2) := by decide +kernel
theorem dL_law_2109 : decode cL_law 2109 = .ok (.iconst 1, 1) := by decide +kernel
theorem dL_law_2110 : decode cL_law 2110 = .ok (.iadd, 1) := by decide +kernel
theorem dL_law_2111 : decode cL_law 2111 = .ok (.iaload, 1) := by decide +kernel
theorem dL_law_2112 : decode cL_law 2112 = .ok (.aload_n 3, 1) := by decide +kernel
theorem dL_law_2113 : decode cL_law 2113 = .ok (.invokestatic 257, 3) := by decide +kernel
theorem dL_law_2116 : decode cL_law 2116 = .ok (.istore 6, 2) := by decide +kernel
theorem dL_law_2118 : decode cL_law 2118 = .ok (.aload_n 2, 1) := by decide +kernel
theorem dL_law_2119 : decode cL_law 2119 = .ok (.aload_n 0, 1) := by decide +kernel
theorem dL_law_2120 : decode cL_law 2120 = .ok (.iload 5, 2) := by decide +kernel
theorem dL_law_2122 : decode cL_law 2122 = .ok (.iconst 1, 1) := by decide +kernel
theorem dL_law_2123 : decode cL_law 2123 = .ok (.iadd, 1) := by decide +kernel
theorem dL_law_2124 : decode cL_law 2124 = .ok (.iaload, 1) := by decide +kernel
theorem dL_law_2125 : decode cL_law 2125 = .ok (.invokevirtual 259, 3) := by decide +kernel
theorem dL_law_2128 : decode cL_law 2128 = .ok (.istore 7, 2) := by decide +kernel
theorem dL_law_2130 : decode cL_law 2130 = .ok (.aload_n 2, 1) := by decide +kernel
theorem dL_law_2131 : decode cL_law 2131 = .ok (.invokevirtual 155, 3) := by decide +kernel
theorem dL_law_2134 : decode cL_law 2134 = .ok (.iload 6, 2) := by decide +kernel
theorem dL_law_2136 : decode cL_law 2136 = .ok (.if_icmp .eq 5, 3) := by decide +kernel
theorem dL_law_2139 : decode cL_law 2139 = .ok (.iconst 0, 1) := by decide +kernel
theorem dL_law_2140 : decode cL_law 2140 = .ok (.ireturn, 1) := by decide +kernel
theorem dL_law_2141 : decode cL_law 2141 = .ok (.iload 6, 2) := by decide +kernel
theorem dL_law_2143 : decode cL_law 2143 = .ok (.ifCond .ne 15, 3) := by decide +kernel
theorem dL_law_2146 : decode cL_law 2146 = .ok (.aload_n 3, 1) := by decide +kernel
theorem dL_law_2147 : decode cL_law 2147 = .ok (.iconst 0, 1) := by decide +kernel
theorem dL_law_2148 : decode cL_law 2148 = .ok (.laload, 1) := by decide +kernel
theorem dL_law_2149 : decode cL_law 2149 = .ok (.iload 7, 2) := by decide +kernel
theorem dL_law_2151 : decode cL_law 2151 = .ok (.i2l, 1) := by decide +kernel
theorem dL_law_2152 : decode cL_law 2152 = .ok (.lcmp, 1) := by decide +kernel
theorem dL_law_2153 : decode cL_law 2153 = .ok (.ifCond .eq 5, 3) := by decide +kernel
theorem dL_law_2156 : decode cL_law 2156 = .ok (.iconst 0, 1) := by decide +kernel
theorem dL_law_2157 : decode cL_law 2157 = .ok (.ireturn, 1) := by decide +kernel
theorem dL_law_2158 : decode cL_law 2158 = .ok (.goto 839, 3) := by decide +kernel
theorem dL_law_2161 : decode cL_law 2161 = .ok (.aload_n 1, 1) := by decide +kernel
theorem dL_law_2162 : decode cL_law 2162 = .ok (.aload_n 0, 1) := by decide +kernel
theorem dL_law_2163 : decode cL_law 2163 = .ok (.iload 5, 2) := by decide +kernel
theorem dL_law_2165 : decode cL_law 2165 = .ok (.iconst 1, 1) := by decide +kernel
theorem dL_law_2166 : decode cL_law 2166 = .ok (.iadd, 1) := by decide +kernel
theorem dL_law_2167 : decode cL_law 2167 = .ok (.iaload, 1) := by decide +kernel
theorem dL_law_2168 : decode cL_law 2168 = .ok (.aload_n 0, 1) := by decide +kernel
theorem dL_law_2169 : decode cL_law 2169 = .ok (.iload 5, 2) := by decide +kernel
theorem dL_law_2171 : decode cL_law 2171 = .ok (.iconst 2, 1) := by decide +kernel
theorem dL_law_2172 : decode cL_law 2172 = .ok (.iadd, 1) := by decide +kernel
theorem dL_law_2173 : decode cL_law 2173 = .ok (.iaload, 1) := by decide +kernel
theorem dL_law_2174 : decode cL_law 2174 = .ok (.aload_n 3, 1) := by decide +kernel
theorem dL_law_2175 : decode cL_law 2175 = .ok (.invokestatic 260, 3) := by decide +kernel
theorem dL_law_2178 : decode cL_law 2178 = .ok (.istore 6, 2) := by decide +kernel
theorem dL_law_2180 : decode cL_law 2180 = .ok (.aload_n 2, 1) := by decide +kernel
theorem dL_law_2181 : decode cL_law 2181 = .ok (.aload_n 0, 1) := by decide +kernel
theorem dL_law_2182 : decode cL_law 2182 = .ok (.iload 5, 2) := by decide +kernel
theorem dL_law_2184 : decode cL_law 2184 = .ok (.iconst 1, 1) := by decide +kernel
theorem dL_law_2185 : decode cL_law 2185 = .ok (.iadd, 1) := by decide +kernel
theorem dL_law_2186 : decode cL_law 2186 = .ok (.iaload, 1) := by decide +kernel
theorem dL_law_2187 : decode cL_law 2187 = .ok (.aload_n 0, 1) := by decide +kernel
theorem dL_law_2188 : decode cL_law 2188 = .ok (.iload 5, 2) := by decide +kernel
theorem dL_law_2190 : decode cL_law 2190 = .ok (.iconst 2, 1) := by decide +kernel
theorem dL_law_2191 : decode cL_law 2191 = .ok (.iadd, 1) := by decide +kernel
theorem dL_law_2192 : decode cL_law 2192 = .ok (.iaload, 1) := by decide +kernel
theorem dL_law_2193 : decode cL_law 2193 = .ok (.invokevirtual 262, 3) := by decide +kernel
theorem dL_law_2196 : decode cL_law 2196 = .ok (.istore 7, 2) := by decide +kernel
theorem dL_law_2198 : decode cL_law 2198 = .ok (.aload_n 2, 1) := by decide +kernel
theorem dL_law_2199 : decode cL_law 2199 = .ok (.invokevirtual 155, 3) := by decide +kernel
theorem dL_law_2202 : decode cL_law 2202 = .ok (.iload 6, 2) := by decide +kernel
theorem dL_law_2204 : decode cL_law 2204 = .ok (.if_icmp .eq 5, 3) := by decide +kernel
theorem dL_law_2207 : decode cL_law 2207 = .ok (.iconst 0, 1) := by decide +kernel
theorem dL_law_2208 : decode cL_law 2208 = .ok (.ireturn, 1) := by decide +kernel
theorem dL_law_2209 : decode cL_law 2209 = .ok (.iload 6, 2) := by decide +kernel
theorem dL_law_2211 : decode cL_law 2211 = .ok (.ifCond .ne 15, 3) := by decide +kernel
theorem dL_law_2214 : decode cL_law 2214 = .ok (.aload_n 3, 1) := by decide +kernel
theorem dL_law_2215 : decode cL_law 2215 = .ok (.iconst 0, 1) := by decide +kernel
theorem dL_law_2216 : decode cL_law 2216 = .ok (.laload, 1) := by decide +kernel
theorem dL_law_2217 : decode cL_law 2217 = .ok (.iload 7, 2) := by decide +kernel
theorem dL_law_2219 : decode cL_law 2219 = .ok (.i2l, 1) := by decide +kernel
theorem dL_law_2220 : decode cL_law 2220 = .ok (.lcmp, 1) := by decide +kernel
theorem dL_law_2221 : decode cL_law 2221 = .ok (.ifCond .eq 5, 3) := by decide +kernel
theorem dL_law_2224 : decode cL_law 2224 = .ok (.iconst 0, 1) := by decide +kernel
theorem dL_law_2225 : decode cL_law 2225 = .ok (.ireturn, 1) := by decide +kernel
theorem dL_law_2226 : decode cL_law 2226 = .ok (.goto 771, 3) := by decide +kernel
theorem dL_law_2229 : decode cL_law 2229 = .ok (.aload_n 1, 1) := by decide +kernel
theorem dL_law_2230 : decode cL_law 2230 = .ok (.invokevirtual 263, 3) := by decide +kernel
theorem dL_law_2233 : decode cL_law 2233 = .ok (.aload_n 2, 1) := by decide +kernel
theorem dL_law_2234 : decode cL_law 2234 = .ok (.invokevirtual 266, 3) := by decide +kernel
theorem dL_law_2237 : decode cL_law 2237 = .ok (.if_icmp .eq 760, 3) := by decide +kernel
theorem dL_law_2240 : decode cL_law 2240 = .ok (.iconst 0, 1) := by decide +kernel
theorem dL_law_2241 : decode cL_law 2241 = .ok (.ireturn, 1) := by decide +kernel
theorem dL_law_2242 : decode cL_law 2242 = .ok (.aload_n 1, 1) := by decide +kernel
theorem dL_law_2243 : decode cL_law 2243 = .ok (.aload_n 0, 1) := by decide +kernel
theorem dL_law_2244 : decode cL_law 2244 = .ok (.iload 5, 2) := by decide +kernel
theorem dL_law_2246 : decode cL_law 2246 = .ok (.iconst 1, 1) := by decide +kernel
theorem dL_law_2247 : decode cL_law 2247 = .ok (.iadd, 1) := by decide +kernel
theorem dL_law_2248 : decode cL_law 2248 = .ok (.iaload, 1) := by decide +kernel
theorem dL_law_2249 : decode cL_law 2249 = .ok (.aload_n 0, 1) := by decide +kernel
theorem dL_law_2250 : decode cL_law 2250 = .ok (.iload 5, 2) := by decide +kernel
theorem dL_law_2252 : decode cL_law 2252 = .ok (.iconst 2, 1) := by decide +kernel
theorem dL_law_2253 : decode cL_law 2253 = .ok (.iadd, 1) := by decide +kernel
theorem dL_law_2254 : decode cL_law 2254 = .ok (.iaload, 1) := by decide +kernel
theorem dL_law_2255 : decode cL_law 2255 = .ok (.aload_n 3, 1) := by decide +kernel
theorem dL_law_2256 : decode cL_law 2256 = .ok (.invokestatic 267, 3) := by decide +kernel
theorem dL_law_2259 : decode cL_law 2259 = .ok (.istore 6, 2) := by decide +kernel
theorem dL_law_2261 : decode cL_law 2261 = .ok (.aload_n 2, 1) := by decide +kernel
theorem dL_law_2262 : decode cL_law 2262 = .ok (.aload_n 0, 1) := by decide +kernel
theorem dL_law_2263 : decode cL_law 2263 = .ok (.iload 5, 2) := by decide +kernel
theorem dL_law_2265 : decode cL_law 2265 = .ok (.iconst 1, 1) := by decide +kernel
theorem dL_law_2266 : decode cL_law 2266 = .ok (.iadd, 1) := by decide +kernel
theorem dL_law_2267 : decode cL_law 2267 = .ok (.iaload, 1) := by decide +kernel
theorem dL_law_2268 : decode cL_law 2268 = .ok (.aload_n 0, 1) := by decide +kernel
theorem dL_law_2269 : decode cL_law 2269 = .ok (.iload 5, 2) := by decide +kernel
theorem dL_law_2271 : decode cL_law 2271 = .ok (.iconst 2, 1) := by decide +kernel
theorem dL_law_2272 : decode cL_law 2272 = .ok (.iadd, 1) := by decide +kernel
theorem dL_law_2273 : decode cL_law 2273 = .ok (.iaload, 1) := by decide +kernel
theorem dL_law_2274 : decode cL_law 2274 = .ok (.invokevirtual 269, 3) := by decide +kernel
theorem dL_law_2277 : decode cL_law 2277 = .ok (.istore 7, 2) := by decide +kernel
theorem dL_law_2279 : decode cL_law 2279 = .ok (.aload_n 2, 1) := by decide +kernel
theorem dL_law_2280 : decode cL_law 2280 = .ok (.invokevirtual 155, 3) := by decide +kernel
theorem dL_law_2283 : decode cL_law 2283 = .ok (.iload 6, 2) := by decide +kernel
theorem dL_law_2285 : decode cL_law 2285 = .ok (.if_icmp .eq 5, 3) := by decide +kernel
theorem dL_law_2288 : decode cL_law 2288 = .ok (.iconst 0, 1) := by decide +kernel
theorem dL_law_2289 : decode cL_law 2289 = .ok (.ireturn, 1) := by decide +kernel
theorem dL_law_2290 : decode cL_law 2290 = .ok (.iload 6, 2) := by decide +kernel
theorem dL_law_2292 : decode cL_law 2292 = .ok (.ifCond .ne 15, 3) := by decide +kernel
theorem dL_law_2295 : decode cL_law 2295 = .ok (.aload_n 3, 1) := by decide +kernel
theorem dL_law_2296 : decode cL_law 2296 = .ok (.iconst 0, 1) := by decide +kernel
theorem dL_law_2297 : decode cL_law 2297 = .ok (.laload, 1) := by decide +kernel
theorem dL_law_2298 : decode cL_law 2298 = .ok (.iload 7, 2) := by decide +kernel
theorem dL_law_2300 : decode cL_law 2300 = .ok (.i2l, 1) := by decide +kernel
theorem dL_law_2301 : decode cL_law 2301 = .ok (.lcmp, 1) := by decide +kernel
theorem dL_law_2302 : decode cL_law 2302 = .ok (.ifCond .eq 5, 3) := by decide +kernel
theorem dL_law_2305 : decode cL_law 2305 = .ok (.iconst 0, 1) := by decide +kernel
theorem dL_law_2306 : decode cL_law 2306 = .ok (.ireturn, 1) := by decide +kernel
theorem dL_law_2307 : decode cL_law 2307 = .ok (.goto 690, 3) := by decide +kernel
theorem dL_law_2310 : decode cL_law 2310 = .ok (.aload_n 1, 1) := by decide +kernel
theorem dL_law_2311 : decode cL_law 2311 = .ok (.invokevirtual 270, 3) := by decide +kernel
theorem dL_law_2314 : decode cL_law 2314 = .ok (.aload_n 2, 1) := by decide +kernel
theorem dL_law_2315 : decode cL_law 2315 = .ok (.invokevirtual 273, 3) := by decide +kernel
theorem dL_law_2318 : decode cL_law 2318 = .ok (.if_icmp .eq 679, 3) := by decide +kernel
theorem dL_law_2321 : decode cL_law 2321 = .ok (.iconst 0, 1) := by decide +kernel
theorem dL_law_2322 : decode cL_law 2322 = .ok (.ireturn, 1) := by decide +kernel
theorem dL_law_2323 : decode cL_law 2323 = .ok (.aload_n 1, 1) := by decide +kernel
theorem dL_law_2324 : decode cL_law 2324 = .ok (.invokevirtual 274, 3) := by decide +kernel
theorem dL_law_2327 : decode cL_law 2327 = .ok (.aload_n 2, 1) := by decide +kernel
theorem dL_law_2328 : decode cL_law 2328 = .ok (.invokevirtual 277, 3) := by decide +kernel
theorem dL_law_2331 : decode cL_law 2331 = .ok (.if_icmp .eq 666, 3) := by decide +kernel
theorem dL_law_2334 : decode cL_law 2334 = .ok (.iconst 0, 1) := by decide +kernel
theorem dL_law_2335 : decode cL_law 2335 = .ok (.ireturn, 1) := by decide +kernel
theorem dL_law_2336 : decode cL_law 2336 = .ok (.aload_n 1, 1) := by decide +kernel
theorem dL_law_2337 : decode cL_law 2337 = .ok (.invokevirtual 278, 3) := by decide +kernel
theorem dL_law_2340 : decode cL_law 2340 = .ok (.aload_n 2, 1) := by decide +kernel
theorem dL_law_2341 : decode cL_law 2341 = .ok (.invokevirtual 281, 3) := by decide +kernel
theorem dL_law_2344 : decode cL_law 2344 = .ok (.if_icmp .eq 653, 3) := by decide +kernel
theorem dL_law_2347 : decode cL_law 2347 = .ok (.iconst 0, 1) := by decide +kernel
theorem dL_law_2348 : decode cL_law 2348 = .ok (.ireturn, 1) := by decide +kernel
theorem dL_law_2349 : decode cL_law 2349 = .ok (.aload_n 1, 1) := by decide +kernel
theorem dL_law_2350 : decode cL_law 2350 = .ok (.invokevirtual 282, 3) := by decide +kernel
theorem dL_law_2353 : decode cL_law 2353 = .ok (.aload_n 2, 1) := by decide +kernel
theorem dL_law_2354 : decode cL_law 2354 = .ok (.invokevirtual 285, 3) := by decide +kernel
theorem dL_law_2357 : decode cL_law 2357 = .ok (.if_icmp .eq 640, 3) := by decide +kernel
theorem dL_law_2360 : decode cL_law 2360 = .ok (.iconst 0, 1) := by decide +kernel
theorem dL_law_2361 : decode cL_law 2361 = .ok (.ireturn, 1) := by decide +kernel
theorem dL_law_2362 : decode cL_law 2362 = .ok (.aload_n 1, 1) := by decide +kernel
theorem dL_law_2363 : decode cL_law 2363 = .ok (.invokevirtual 286, 3) := by decide +kernel
theorem dL_law_2366 : decode cL_law 2366 = .ok (.dstore 6, 2) := by decide +kernel
theorem dL_law_2368 : decode cL_law 2368 = .ok (.aload_n 2, 1) := by decide +kernel
theorem dL_law_2369 : decode cL_law 2369 = .ok (.invokevirtual 290, 3) := by decide +kernel
theorem dL_law_2372 : decode cL_law 2372 = .ok (.dstore 8, 2) := by decide +kernel
theorem dL_law_2374 : decode cL_law 2374 = .ok (.dload 6, 2) := by decide +kernel
theorem dL_law_2376 : decode cL_law 2376 = .ok (.dload 8, 2) := by decide +kernel
theorem dL_law_2378 : decode cL_law 2378 = .ok (.dcmp .l, 1) := by decide +kernel
theorem dL_law_2379 : decode cL_law 2379 = .ok (.ifCond .eq 21, 3) := by decide +kernel
theorem dL_law_2382 : decode cL_law 2382 = .ok (.dload 6, 2) := by decide +kernel
theorem dL_law_2384 : decode cL_law 2384 = .ok (.dload 6, 2) := by decide +kernel
theorem dL_law_2386 : decode cL_law 2386 = .ok (.dcmp .l, 1) := by decide +kernel
theorem dL_law_2387 : decode cL_law 2387 = .ok (.ifCond .eq 11, 3) := by decide +kernel
theorem dL_law_2390 : decode cL_law 2390 = .ok (.dload 8, 2) := by decide +kernel
theorem dL_law_2392 : decode cL_law 2392 = .ok (.dload 8, 2) := by decide +kernel
theorem dL_law_2394 : decode cL_law 2394 = .ok (.dcmp .l, 1) := by decide +kernel
theorem dL_law_2395 : decode cL_law 2395 = .ok (.ifCond .ne 5, 3) := by decide +kernel
theorem dL_law_2398 : decode cL_law 2398 = .ok (.iconst 0, 1) := by decide +kernel
theorem dL_law_2399 : decode cL_law 2399 = .ok (.ireturn, 1) := by decide +kernel
theorem dL_law_2400 : decode cL_law 2400 = .ok (.goto 597, 3) := by decide +kernel
theorem dL_law_2403 : decode cL_law 2403 = .ok (.aload_n 1, 1) := by decide +kernel
theorem dL_law_2404 : decode cL_law 2404 = .ok (.aload_n 0, 1) := by decide +kernel
theorem dL_law_2405 : decode cL_law 2405 = .ok (.iload 5, 2) := by decide +kernel
theorem dL_law_2407 : decode cL_law 2407 = .ok (.iconst 1, 1) := by decide +kernel
theorem dL_law_2408 : decode cL_law 2408 = .ok (.iadd, 1) := by decide +kernel
theorem dL_law_2409 : decode cL_law 2409 = .ok (.iaload, 1) := by decide +kernel
theorem dL_law_2410 : decode cL_law 2410 = .ok (.aload_n 0, 1) := by decide +kernel
theorem dL_law_2411 : decode cL_law 2411 = .ok (.iload 5, 2) := by decide +kernel
theorem dL_law_2413 : decode cL_law 2413 = .ok (.iconst 2, 1) := by decide +kernel
theorem dL_law_2414 : decode cL_law 2414 = .ok (.iadd, 1) := by decide +kernel
theorem dL_law_2415 : decode cL_law 2415 = .ok (.iaload, 1) := by decide +kernel
theorem dL_law_2416 : decode cL_law 2416 = .ok (.aload 4, 2) := by decide +kernel
theorem dL_law_2418 : decode cL_law 2418 = .ok (.invokestatic 291, 3) := by decide +kernel
theorem dL_law_2421 : decode cL_law 2421 = .ok (.istore 6, 2) := by decide +kernel
theorem dL_law_2423 : decode cL_law 2423 = .ok (.aload_n 2, 1) := by decide +kernel
theorem dL_law_2424 : decode cL_law 2424 = .ok (.aload_n 0, 1) := by decide +kernel
theorem dL_law_2425 : decode cL_law 2425 = .ok (.iload 5, 2) := by decide +kernel
theorem dL_law_2427 : decode cL_law 2427 = .ok (.iconst 1, 1) := by decide +kernel
theorem dL_law_2428 : decode cL_law 2428 = .ok (.iadd, 1) := by decide +kernel
theorem dL_law_2429 : decode cL_law 2429 = .ok (.iaload, 1) := by decide +kernel
theorem dL_law_2430 : decode cL_law 2430 = .ok (.aload_n 0, 1) := by decide +kernel
theorem dL_law_2431 : decode cL_law 2431 = .ok (.iload 5, 2) := by decide +kernel
theorem dL_law_2433 : decode cL_law 2433 = .ok (.iconst 2, 1) := by decide +kernel
theorem dL_law_2434 : decode cL_law 2434 = .ok (.iadd, 1) := by decide +kernel
theorem dL_law_2435 : decode cL_law 2435 = .ok (.iaload, 1) := by decide +kernel
theorem dL_law_2436 : decode cL_law 2436 = .ok (.invokevirtual 294, 3) := by decide +kernel
theorem dL_law_2439 : decode cL_law 2439 = .ok (.fstore 7, 2) := by decide +kernel
theorem dL_law_2441 : decode cL_law 2441 = .ok (.aload_n 2, 1) := by decide +kernel
theorem dL_law_2442 : decode cL_law 2442 = .ok (.invokevirtual 155, 3) := by decide +kernel
theorem dL_law_2445 : decode cL_law 2445 = .ok (.iload 6, 2) := by decide +kernel
theorem dL_law_2447 : decode cL_law 2447 = .ok (.if_icmp .eq 5, 3) := by decide +kernel
theorem dL_law_2450 : decode cL_law 2450 = .ok (.iconst 0, 1) := by decide +kernel
theorem dL_law_2451 : decode cL_law 2451 = .ok (.ireturn, 1) := by decide +kernel
theorem dL_law_2452 : decode cL_law 2452 = .ok (.iload 6, 2) := by decide +kernel
theorem dL_law_2454 : decode cL_law 2454 = .ok (.ifCond .ne 36, 3) := by decide +kernel
theorem dL_law_2457 : decode cL_law 2457 = .ok (.aload 4, 2) := by decide +kernel
theorem dL_law_2459 : decode cL_law 2459 = .ok (.iconst 0, 1) := by decide +kernel
theorem dL_law_2460 : decode cL_law 2460 = .ok (.daload, 1) := by decide +kernel
theorem dL_law_2461 : decode cL_law 2461 = .ok (.fload 7, 2) := by decide +kernel
theorem dL_law_2463 : decode cL_law 2463 = .ok (.f2d, 1) := by decide +kernel
theorem dL_law_2464 : decode cL_law 2464 = .ok (.dcmp .l, 1) := by decide +kernel
theorem dL_law_2465 : decode cL_law 2465 = .ok (.ifCond .eq 25, 3) := by decide +kernel
theorem dL_law_2468 : decode cL_law 2468 = .ok (.aload 4, 2) := by decide +kernel
theorem dL_law_2470 : decode cL_law 2470 = .ok (.iconst 0, 1) := by decide +kernel
theorem dL_law_2471 : decode cL_law 2471 = .ok (.daload, 1) := by decide +kernel
theorem dL_law_2472 : decode cL_law 2472 = .ok (.aload 4, 2) := by decide +kernel
theorem dL_law_2474 : decode cL_law 2474 = .ok (.iconst 0, 1) := by decide +kernel
theorem dL_law_2475 : decode cL_law 2475 = .ok (.daload, 1) := by decide +kernel
theorem dL_law_2476 : decode cL_law 2476 = .ok (.dcmp .l, 1) := by decide +kernel
theorem dL_law_2477 : decode cL_law 2477 = .ok (.ifCond .eq 11, 3) := by decide +kernel
theorem dL_law_2480 : decode cL_law 2480 = .ok (.fload 7, 2) := by decide +kernel
theorem dL_law_2482 : decode cL_law 2482 = .ok (.fload 7, 2) := by decide +kernel
theorem dL_law_2484 : decode cL_law 2484 = .ok (.fcmp .l, 1) := by decide +kernel
theorem dL_law_2485 : decode cL_law 2485 = .ok (.ifCond .ne 5, 3) := by decide +kernel
theorem dL_law_2488 : decode cL_law 2488 = .ok (.iconst 0, 1) := by decide +kernel
theorem dL_law_2489 : decode cL_law 2489 = .ok (.ireturn, 1) := by decide +kernel
theorem dL_law_2490 : decode cL_law 2490 = .ok (.goto 507, 3) := by decide +kernel
theorem dL_law_2493 : decode cL_law 2493 = .ok (.aload_n 1, 1) := by decide +kernel
theorem dL_law_2494 : decode cL_law 2494 = .ok (.aload_n 0, 1) := by decide +kernel
theorem dL_law_2495 : decode cL_law 2495 = .ok (.iload 5, 2) := by decide +kernel
theorem dL_law_2497 : decode cL_law 2497 = .ok (.iconst 1, 1) := by decide +kernel
theorem dL_law_2498 : decode cL_law 2498 = .ok (.iadd, 1) := by decide +kernel
theorem dL_law_2499 : decode cL_law 2499 = .ok (.iaload, 1) := by decide +kernel
theorem dL_law_2500 : decode cL_law 2500 = .ok (.i2c, 1) := by decide +kernel
theorem dL_law_2501 : decode cL_law 2501 = .ok (.aload_n 3, 1) := by decide +kernel
theorem dL_law_2502 : decode cL_law 2502 = .ok (.invokestatic 295, 3) := by decide +kernel
theorem dL_law_2505 : decode cL_law 2505 = .ok (.istore 6, 2) := by decide +kernel
theorem dL_law_2507 : decode cL_law 2507 = .ok (.aload_n 2, 1) := by decide +kernel
theorem dL_law_2508 : decode cL_law 2508 = .ok (.aload_n 0, 1) := by decide +kernel
theorem dL_law_2509 : decode cL_law 2509 = .ok (.iload 5, 2) := by decide +kernel
theorem dL_law_2511 : decode cL_law 2511 = .ok (.iconst 1, 1) := by decide +kernel
theorem dL_law_2512 : decode cL_law 2512 = .ok (.iadd, 1) := by decide +kernel
theorem dL_law_2513 : decode cL_law 2513 = .ok (.iaload, 1) := by decide +kernel
theorem dL_law_2514 : decode cL_law 2514 = .ok (.i2c, 1) := by decide +kernel
theorem dL_law_2515 : decode cL_law 2515 = .ok (.invokevirtual 298, 3) := by decide +kernel
theorem dL_law_2518 : decode cL_law 2518 = .ok (.istore 7, 2) := by decide +kernel
theorem dL_law_2520 : decode cL_law 2520 = .ok (.aload_n 2, 1) := by decide +kernel
theorem dL_law_2521 : decode cL_law 2521 = .ok (.invokevirtual 155, 3) := by decide +kernel
theorem dL_law_2524 : decode cL_law 2524 = .ok (.iload 6, 2) := by decide +kernel
theorem dL_law_2526 : decode cL_law 2526 = .ok (.if_icmp .eq 5, 3) := by decide +kernel
theorem dL_law_2529 : decode cL_law 2529 = .ok (.iconst 0, 1) := by decide +kernel
