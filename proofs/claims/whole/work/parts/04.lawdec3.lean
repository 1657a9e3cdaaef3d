theorem dL_law__2114 : decode cL_law_ 2114 = .ok (.iload 4, 2) := by decide +kernel
theorem dL_law__2116 : decode cL_law_ 2116 = .ok (.iconst 1, 1) := by decide +kernel
theorem dL_law__2117 : decode cL_law_ 2117 = .ok (.iadd, 1) := by decide +kernel
theorem dL_law__2118 : decode cL_law_ 2118 = .ok (.iaload, 1) := by decide +kernel
theorem dL_law__2119 : decode cL_law_ 2119 = .ok (.aload_n 3, 1) := by decide +kernel
theorem dL_law__2120 : decode cL_law_ 2120 = .ok (.invokestatic 238, 3) := by decide +kernel
theorem dL_law__2123 : decode cL_law_ 2123 = .ok (.istore 5, 2) := by decide +kernel
theorem dL_law__2125 : decode cL_law_ 2125 = .ok (.aload_n 2, 1) := by decide +kernel
theorem dL_law__2126 : decode cL_law_ 2126 = .ok (.aload_n 0, 1) := by decide +kernel
theorem dL_law__2127 : decode cL_law_ 2127 = .ok (.iload 4, 2) := by decide +kernel
theorem dL_law__2129 : decode cL_law_ 2129 = .ok (.iconst 1, 1) := by decide +kernel
theorem dL_law__2130 : decode cL_law_ 2130 = .ok (.iadd, 1) := by decide +kernel
theorem dL_law__2131 : decode cL_law_ 2131 = .ok (.iaload, 1) := by decide +kernel
theorem dL_law__2132 : decode cL_law_ 2132 = .ok (.invokevirtual 240, 3) := by decide +kernel
theorem dL_law__2135 : decode cL_law_ 2135 = .ok (.istore 6, 2) := by decide +kernel
theorem dL_law__2137 : decode cL_law_ 2137 = .ok (.aload_n 2, 1) := by decide +kernel
theorem dL_law__2138 : decode cL_law_ 2138 = .ok (.invokevirtual 131, 3) := by decide +kernel
theorem dL_law__2141 : decode cL_law_ 2141 = .ok (.iload 5, 2) := by decide +kernel
theorem dL_law__2143 : decode cL_law_ 2143 = .ok (.if_icmp .eq 5, 3) := by decide +kernel
theorem dL_law__2146 : decode cL_law_ 2146 = .ok (.iconst 0, 1) := by decide +kernel
theorem dL_law__2147 : decode cL_law_ 2147 = .ok (.ireturn, 1) := by decide +kernel
theorem dL_law__2148 : decode cL_law_ 2148 = .ok (.iload 5, 2) := by decide +kernel
theorem dL_law__2150 : decode cL_law_ 2150 = .ok (.ifCond .ne 15, 3) := by decide +kernel
theorem dL_law__2153 : decode cL_law_ 2153 = .ok (.aload_n 3, 1) := by decide +kernel
theorem dL_law__2154 : decode cL_law_ 2154 = .ok (.iconst 0, 1) := by decide +kernel
theorem dL_law__2155 : decode cL_law_ 2155 = .ok (.laload, 1) := by decide +kernel
theorem dL_law__2156 : decode cL_law_ 2156 = .ok (.iload 6, 2) := by decide +kernel
theorem dL_law__2158 : decode cL_law_ 2158 = .ok (.i2l, 1) := by decide +kernel
theorem dL_law__2159 : decode cL_law_ 2159 = .ok (.lcmp, 1) := by decide +kernel
theorem dL_law__2160 : decode cL_law_ 2160 = .ok (.ifCond .eq 5, 3) := by decide +kernel
theorem dL_law__2163 : decode cL_law_ 2163 = .ok (.iconst 0, 1) := by decide +kernel
theorem dL_law__2164 : decode cL_law_ 2164 = .ok (.ireturn, 1) := by decide +kernel
theorem dL_law__2165 : decode cL_law_ 2165 = .ok (.goto 564, 3) := by decide +kernel
theorem dL_law__2168 : decode cL_law_ 2168 = .ok (.aload_n 1, 1) := by decide +kernel
theorem dL_law__2169 : decode cL_law_ 2169 = .ok (.invokevirtual 241, 3) := by decide +kernel
theorem dL_law__2172 : decode cL_law_ 2172 = .ok (.aload_n 2, 1) := by decide +kernel
theorem dL_law__2173 : decode cL_law_ 2173 = .ok (.invokevirtual 244, 3) := by decide +kernel
theorem dL_law__2176 : decode cL_law_ 2176 = .ok (.if_icmp .eq 553, 3) := by decide +kernel
theorem dL_law__2179 : decode cL_law_ 2179 = .ok (.iconst 0, 1) := by decide +kernel
theorem dL_law__2180 : decode cL_law_ 2180 = .ok (.ireturn, 1) := by decide +kernel
theorem dL_law__2181 : decode cL_law_ 2181 = .ok (.aload_n 1, 1) := by decide +kernel
theorem dL_law__2182 : decode cL_law_ 2182 = .ok (.aload_n 0, 1) := by decide +kernel
theorem dL_law__2183 : decode cL_law_ 2183 = .ok (.iload 4, 2) := by decide +kernel
theorem dL_law__2185 : decode cL_law_ 2185 = .ok (.iconst 1, 1) := by decide +kernel
theorem dL_law__2186 : decode cL_law_ 2186 = .ok (.iadd, 1) := by decide +kernel
theorem dL_law__2187 : decode cL_law_ 2187 = .ok (.iaload, 1) := by decide +kernel
theorem dL_law__2188 : decode cL_law_ 2188 = .ok (.aload_n 0, 1) := by decide +kernel
theorem dL_law__2189 : decode cL_law_ 2189 = .ok (.iload 4, 2) := by decide +kernel
theorem dL_law__2191 : decode cL_law_ 2191 = .ok (.iconst 2, 1) := by decide +kernel
theorem dL_law__2192 : decode cL_law_ 2192 = .ok (.iadd, 1) := by decide +kernel
theorem dL_law__2193 : decode cL_law_ 2193 = .ok (.iaload, 1) := by decide +kernel
theorem dL_law__2194 : decode cL_law_ 2194 = .ok (.aload_n 3, 1) := by decide +kernel
theorem dL_law__2195 : decode cL_law_ 2195 = .ok (.invokestatic 245, 3) := by decide +kernel
theorem dL_law__2198 : decode cL_law_ 2198 = .ok (.istore 5, 2) := by decide +kernel
theorem dL_law__2200 : decode cL_law_ 2200 = .ok (.aload_n 2, 1) := by decide +kernel
theorem dL_law__2201 : decode cL_law_ 2201 = .ok (.aload_n 0, 1) := by decide +kernel
theorem dL_law__2202 : decode cL_law_ 2202 = .ok (.iload 4, 2) := by decide +kernel
theorem dL_law__2204 : decode cL_law_ 2204 = .ok (.iconst 1, 1) := by decide +kernel
theorem dL_law__2205 : decode cL_law_ 2205 = .ok (.iadd, 1) := by decide +kernel
theorem dL_law__2206 : decode cL_law_ 2206 = .ok (.iaload, 1) := by decide +kernel
theorem dL_law__2207 : decode cL_law_ 2207 = .ok (.aload_n 0, 1) := by decide +kernel
theorem dL_law__2208 : decode cL_law_ 2208 = .ok (.iload 4, 2) := by decide +kernel
theorem dL_law__2210 : decode cL_law_ 2210 = .ok (.iconst 2, 1) := by decide +kernel
theorem dL_law__2211 : decode cL_law_ 2211 = .ok (.iadd, 1) := by decide +kernel
theorem dL_law__2212 : decode cL_law_ 2212 = .ok (.iaload, 1) := by decide +kernel
theorem dL_law__2213 : decode cL_law_ 2213 = .ok (.invokevirtual 247, 3) := by decide +kernel
theorem dL_law__2216 : decode cL_law_ 2216 = .ok (.istore 6, 2) := by decide +kernel
theorem dL_law__2218 : decode cL_law_ 2218 = .ok (.aload_n 2, 1) := by decide +kernel
theorem dL_law__2219 : decode cL_law_ 2219 = .ok (.invokevirtual 131, 3) := by decide +kernel
theorem dL_law__2222 : decode cL_law_ 2222 = .ok (.iload 5, 2) := by decide +kernel
theorem dL_law__2224 : decode cL_law_ 2224 = .ok (.if_icmp .eq 5, 3) := by decide +kernel
theorem dL_law__2227 : decode cL_law_ 2227 = .ok (.iconst 0, 1) := by decide +kernel
theorem dL_law__2228 : decode cL_law_ 2228 = .ok (.ireturn, 1) := by decide +kernel
theorem dL_law__2229 : decode cL_law_ 2229 = .ok (.iload 5, 2) := by decide +kernel
theorem dL_law__2231 : decode cL_law_ 2231 = .ok (.ifCond .ne 15, 3) := by decide +kernel
theorem dL_law__2234 : decode cL_law_ 2234 = .ok (.aload_n 3, 1) := by decide +kernel
theorem dL_law__2235 : decode cL_law_ 2235 = .ok (.iconst 0, 1) := by decide +kernel
theorem dL_law__2236 : decode cL_law_ 2236 = .ok (.laload, 1) := by decide +kernel
theorem dL_law__2237 : decode cL_law_ 2237 = .ok (.iload 6, 2) := by decide +kernel
theorem dL_law__2239 : decode cL_law_ 2239 = .ok (.i2l, 1) := by decide +kernel
theorem dL_law__2240 : decode cL_law_ 2240 = .ok (.lcmp, 1) := by decide +kernel
theorem dL_law__2241 : decode cL_law_ 2241 = .ok (.ifCond .eq 5, 3) := by decide +kernel
theorem dL_law__2244 : decode cL_law_ 2244 = .ok (.iconst 0, 1) := by decide +kernel
theorem dL_law__2245 : decode cL_law_ 2245 = .ok (.ireturn, 1) := by decide +kernel
theorem dL_law__2246 : decode cL_law_ 2246 = .ok (.goto 483, 3) := by decide +kernel
theorem dL_law__2249 : decode cL_law_ 2249 = .ok (.aload_n 1, 1) := by decide +kernel
theorem dL_law__2250 : decode cL_law_ 2250 = .ok (.aload_n 0, 1) := by decide +kernel
theorem dL_law__2251 : decode cL_law_ 2251 = .ok (.iload 4, 2) := by decide +kernel
theorem dL_law__2253 : decode cL_law_ 2253 = .ok (.iconst 1, 1) := by decide +kernel
theorem dL_law__2254 : decode cL_law_ 2254 = .ok (.iadd, 1) := by decide +kernel
theorem dL_law__2255 : decode cL_law_ 2255 = .ok (.iaload, 1) := by decide +kernel
theorem dL_law__2256 : decode cL_law_ 2256 = .ok (.aload_n 3, 1) := by decide +kernel
theorem dL_law__2257 : decode cL_law_ 2257 = .ok (.invokestatic 248, 3) := by decide +kernel
theorem dL_law__2260 : decode cL_law_ 2260 = .ok (.istore 5, 2) := by decide +kernel
theorem dL_law__2262 : decode cL_law_ 2262 = .ok (.aload_n 2, 1) := by decide +kernel
theorem dL_law__2263 : decode cL_law_ 2263 = .ok (.aload_n 0, 1) := by decide +kernel
theorem dL_law__2264 : decode cL_law_ 2264 = .ok (.iload 4, 2) := by decide +kernel
theorem dL_law__2266 : decode cL_law_ 2266 = .ok (.iconst 1, 1) := by decide +kernel
theorem dL_law__2267 : decode cL_law_ 2267 = .ok (.iadd, 1) := by decide +kernel
theorem dL_law__2268 : decode cL_law_ 2268 = .ok (.iaload, 1) := by decide +kernel
theorem dL_law__2269 : decode cL_law_ 2269 = .ok (.invokevirtual 250, 3) := by decide +kernel
theorem dL_law__2272 : decode cL_law_ 2272 = .ok (.istore 6, 2) := by decide +kernel
theorem dL_law__2274 : decode cL_law_ 2274 = .ok (.aload_n 2, 1) := by decide +kernel
theorem dL_law__2275 : decode cL_law_ 2275 = .ok (.invokevirtual 131, 3) := by decide +kernel
theorem dL_law__2278 : decode cL_law_ 2278 = .ok (.iload 5, 2) := by decide +kernel
theorem dL_law__2280 : decode cL_law_ 2280 = .ok (.if_icmp .eq 5, 3) := by decide +kernel
theorem dL_law__2283 : decode cL_law_ 2283 = .ok (.iconst 0, 1) := by decide +kernel
theorem dL_law__2284 : decode cL_law_ 2284 = .ok (.ireturn, 1) := by decide +kernel
theorem dL_law__2285 : decode cL_law_ 2285 = .ok (.iload 5, 2) := by decide +kernel
theorem dL_law__2287 : decode cL_law_ 2287 = .ok (.ifCond .ne 15, 3) := by decide +kernel
theorem dL_law__2290 : decode cL_law_ 2290 = .ok (.aload_n 3, 1) := by decide +kernel
theorem dL_law__2291 : decode cL_law_ 2291 = .ok (.iconst 0, 1) := by decide +kernel
theorem dL_law__2292 : decode cL_law_ 2292 = .ok (.laload, 1) := by decide +kernel
theorem dL_law__2293 : decode cL_law_ 2293 = .ok (.iload 6, 2) := by decide +kernel
theorem dL_law__2295 : decode cL_law_ 2295 = .ok (.i2l, 1) := by decide +kernel
theorem dL_law__2296 : decode cL_law_ 2296 = .ok (.lcmp, 1) := by decide +kernel
theorem dL_law__2297 : decode cL_law_ 2297 = .ok (.ifCond .eq 5, 3) := by decide +kernel
theorem dL_law__2300 : decode cL_law_ 2300 = .ok (.iconst 0, 1) := by decide +kernel
theorem dL_law__2301 : decode cL_law_ 2301 = .ok (.ireturn, 1) := by decide +kernel
theorem dL_law__2302 : decode cL_law_ 2302 = .ok (.goto 427, 3) := by decide +kernel
theorem dL_law__2305 : decode cL_law_ 2305 = .ok (.aload_n 1, 1) := by decide +kernel
theorem dL_law__2306 : decode cL_law_ 2306 = .ok (.aload_n 0, 1) := by decide +kernel
theorem dL_law__2307 : decode cL_law_ 2307 = .ok (.iload 4, 2) := by decide +kernel
theorem dL_law__2309 : decode cL_law_ 2309 = .ok (.iconst 1, 1) := by decide +kernel
theorem dL_law__2310 : decode cL_law_ 2310 = .ok (.iadd, 1) := by decide +kernel
theorem dL_law__2311 : decode cL_law_ 2311 = .ok (.iaload, 1) := by decide +kernel
theorem dL_law__2312 : decode cL_law_ 2312 = .ok (.aload_n 3, 1) := by decide +kernel
theorem dL_law__2313 : decode cL_law_ 2313 = .ok (.invokestatic 251, 3) := by decide +kernel
theorem dL_law__2316 : decode cL_law_ 2316 = .ok (.istore 5, 2) := by decide +kernel
theorem dL_law__2318 : decode cL_law_ 2318 = .ok (.aload_n 2, 1) := by decide +kernel
theorem dL_law__2319 : decode cL_law_ 2319 = .ok (.aload_n 0, 1) := by decide +kernel
theorem dL_law__2320 : decode cL_law_ 2320 = .ok (.iload 4, 2) := by decide +kernel
theorem dL_law__2322 : decode cL_law_ 2322 = .ok (.iconst 1, 1) := by decide +kernel
theorem dL_law__2323 : decode cL_law_ 2323 = .ok (.iadd, 1) := by decide +kernel
theorem dL_law__2324 : decode cL_law_ 2324 = .ok (.iaload, 1) := by decide +kernel
theorem dL_law__2325 : decode cL_law_ 2325 = .ok (.invokevirtual 253, 3) := by decide +kernel
theorem dL_law__2328 : decode cL_law_ 2328 = .ok (.istore 6, 2) := by decide +kernel
theorem dL_law__2330 : decode cL_law_ 2330 = .ok (.aload_n 2, 1) := by decide +kernel
theorem dL_law__2331 : decode cL_law_ 2331 = .ok (.invokevirtual 131, 3) := by decide +kernel
theorem dL_law__2334 : decode cL_law_ 2334 = .ok (.iload 5, 2) := by decide +kernel
theorem dL_law__2336 : decode cL_law_ 2336 = .ok (.if_icmp .eq 5, 3) := by decide +kernel
theorem dL_law__2339 : decode cL_law_ 2339 = .ok (.iconst 0, 1) := by decide +kernel
theorem dL_law__2340 : decode cL_law_ 2340 = .ok (.ireturn, 1) := by decide +kernel
theorem dL_law__2341 : decode cL_law_ 2341 = .ok (.iload 5, 2) := by decide +kernel
theorem dL_law__2343 : decode cL_law_ 2343 = .ok (.ifCond .ne 15, 3) := by decide +kernel
theorem dL_law__2346 : decode cL_law_ 2346 = .ok (.aload_n 3, 1) := by decide +kernel
theorem dL_law__2347 : decode cL_law_ 2347 = .ok (.iconst 0, 1) := by decide +kernel
theorem dL_law__2348 : decode cL_law_ 2348 = .ok (.laload, 1) := by decide +kernel
theorem dL_law__2349 : decode cL_law_ 2349 = .ok (.iload 6, 2) := by decide +kernel
theorem dL_law__2351 : decode cL_law_ 2351 = .ok (.i2l, 1) := by decide +kernel
theorem dL_law__2352 : decode cL_law_ 2352 = .ok (.lcmp, 1) := by decide +kernel
theorem dL_law__2353 : decode cL_law_ 2353 = .ok (.ifCond .eq 5, 3) := by decide +kernel
theorem dL_law__2356 : decode cL_law_ 2356 = .ok (.iconst 0, 1) := by decide +kernel
theorem dL_law__2357 : decode cL_law_ 2357 = .ok (.ireturn, 1) := by decide +kernel
theorem dL_law__2358 : decode cL_law_ 2358 = .ok (.goto 371, 3) := by decide +kernel
theorem dL_law__2361 : decode cL_law_ 2361 = .ok (.aload_n 1, 1) := by decide +kernel
theorem dL_law__2362 : decode cL_law_ 2362 = .ok (.aload_n 0, 1) := by decide +kernel
theorem dL_law__2363 : decode cL_law_ 2363 = .ok (.iload 4, 2) := by decide +kernel
theorem dL_law__2365 : decode cL_law_ 2365 = .ok (.iconst 1, 1) := by decide +kernel
theorem dL_law__2366 : decode cL_law_ 2366 = .ok (.iadd, 1) := by decide +kernel
theorem dL_law__2367 : decode cL_law_ 2367 = .ok (.iaload, 1) := by decide +kernel
theorem dL_law__2368 : decode cL_law_ 2368 = .ok (.aload_n 3, 1) := by decide +kernel
theorem dL_law__2369 : decode cL_law_ 2369 = .ok (.invokestatic 254, 3) := by decide +kernel
theorem dL_law__2372 : decode cL_law_ 2372 = .ok (.istore 5, 2) := by decide +kernel
theorem dL_law__2374 : decode cL_law_ 2374 = .ok (.aload_n 2, 1) := by decide +kernel
theorem dL_law__2375 : decode cL_law_ 2375 = .ok (.aload_n 0, 1) := by decide +kernel
theorem dL_law__2376 : decode cL_law_ 2376 = .ok (.iload 4, 2) := by decide +kernel
theorem dL_law__2378 : decode cL_law_ 2378 = .ok (.iconst 1, 1) := by decide +kernel
theorem dL_law__2379 : decode cL_law_ 2379 = .ok (.iadd, 1) := by decide +kernel
theorem dL_law__2380 : decode cL_law_ 2380 = .ok (.iaload, 1) := by decide +kernel
theorem dL_law__2381 : decode cL_law_ 2381 = .ok (.invokevirtual 256, 3) := by decide +kernel
theorem dL_law__2384 : decode cL_law_ 2384 = .ok (.istore 6, 2) := by decide +kernel
theorem dL_law__2386 : decode cL_law_ 2386 = .ok (.aload_n 2, 1) := by decide +kernel
theorem dL_law__2387 : decode cL_law_ 2387 = .ok (.invokevirtual 131, 3) := by decide +kernel
theorem dL_law__2390 : decode cL_law_ 2390 = .ok (.iload 5, 2) := by decide +kernel
theorem dL_law__2392 : decode cL_law_ 2392 = .ok (.if_icmp .eq 5, 3) := by decide +kernel
theorem dL_law__2395 : decode cL_law_ 2395 = .ok (.iconst 0, 1) := by decide +kernel
theorem dL_law__2396 : decode cL_law_ 2396 = .ok (.ireturn, 1) := by decide +kernel
theorem dL_law__2397 : decode cL_law_ 2397 = .ok (.iload 5, 2) := by decide +kernel
theorem dL_law__2399 : decode cL_law_ 2399 = .ok (.ifCond .ne 15, 3) := by decide +kernel
theorem dL_law__2402 : decode cL_law_ 2402 = .ok (.aload_n 3, 1) := by decide +kernel
theorem dL_law__2403 : decode cL_law_ 2403 = .ok (.iconst 0, 1) := by decide +kernel
theorem dL_law__2404 : decode cL_law_ 2404 = .ok (.laload, 1) := by decide +kernel
theorem dL_law__2405 : decode cL_law_ 2405 = .ok (.iload 6, 2) := by decide +kernel
theorem dL_law__2407 : decode cL_law_ 2407 = .ok (.i2l, 1) := by decide +kernel
theorem dL_law__2408 : decode cL_law_ 2408 = .ok (.lcmp, 1) := by decide +kernel
theorem dL_law__2409 : decode cL_law_ 2409 = .ok (.ifCond .eq 5, 3) := by decide +kernel
theorem dL_law__2412 : decode cL_law_ 2412 = .ok (.iconst 0, 1) := by decide +kernel
theorem dL_law__2413 : decode cL_law_ 2413 = .ok (.ireturn, 1) := by decide +kernel
theorem dL_law__2414 : decode cL_law_ 2414 = .ok (.goto 315, 3) := by decide +kernel
theorem dL_law__2417 : decode cL_law_ 2417 = .ok (.aload_n 1, 1) := by decide +kernel
theorem dL_law__2418 : decode cL_law_ 2418 = .ok (.aload_n 0, 1) := by decide +kernel
theorem dL_law__2419 : decode cL_law_ 2419 = .ok (.iload 4, 2) := by decide +kernel
theorem dL_law__2421 : decode cL_law_ 2421 = .ok (.iconst 1, 1) := by decide +kernel
theorem dL_law__2422 : decode cL_law_ 2422 = .ok (.iadd, 1) := by decide +kernel
theorem dL_law__2423 : decode cL_law_ 2423 = .ok (.iaload, 1) := by decide +kernel
theorem dL_law__2424 : decode cL_law_ 2424 = .ok (.aload_n 0, 1) := by decide +kernel
theorem dL_law__2425 : decode cL_law_ 2425 = .ok (.iload 4, 2) := by decide +kernel
theorem dL_law__2427 : decode cL_law_ 2427 = .ok (.iconst 2, 1) := by decide +kernel
theorem dL_law__2428 : decode cL_law_ 2428 = .ok (.iadd, 1) := by decide +kernel
theorem dL_law__2429 : decode cL_law_ 2429 = .ok (.iaload, 1) := by decide +kernel
theorem dL_law__2430 : decode cL_law_ 2430 = .ok (.aload_n 0, 1) := by decide +kernel
theorem dL_law__2431 : decode cL_law_ 2431 = .ok (.iload 4, 2) := by decide +kernel
theorem dL_law__2433 : decode cL_law_ 2433 = .ok (.iconst 3, 1) := by decide +kernel
theorem dL_law__2434 : decode cL_law_ 2434 = .ok (.iadd, 1) := by decide +kernel
theorem dL_law__2435 : decode cL_law_ 2435 = .ok (.iaload, 1) := by decide +kernel
theorem dL_law__2436 : decode cL_law_ 2436 = .ok (.aload_n 0, 1) := by decide +kernel
theorem dL_law__2437 : decode cL_law_ 2437 = .ok (.iload 4, 2) := by decide +kernel
theorem dL_law__2439 : decode cL_law_ 2439 = .ok (.iconst 4, 1) := by decide +kernel
theorem dL_law__2440 : decode cL_law_ 2440 = .ok (.iadd, 1) := by decide +kernel
theorem dL_law__2441 : decode cL_law_ 2441 = .ok (.iaload, 1) := by decide +kernel
theorem dL_law__2442 : decode cL_law_ 2442 = .ok (.aload_n 0, 1) := by decide +kernel
theorem dL_law__2443 : decode cL_law_ 2443 = .ok (.iload 4, 2) := by decide +kernel
theorem dL_law__2445 : decode cL_law_ 2445 = .ok (.iconst 5, 1) := by decide +kernel
theorem dL_law__2446 : decode cL_law_ 2446 = .ok (.iadd, 1) := by decide +kernel
theorem dL_law__2447 : decode cL_law_ 2447 = .ok (.iaload, 1) := by decide +kernel
theorem dL_law__2448 : decode cL_law_ 2448 = .ok (.aload_n 3, 1) := by decide +kernel
theorem dL_law__2449 : decode cL_law_ 2449 = .ok (.invokestatic 257, 3) := by decide +kernel
theorem dL_law__2452 : decode cL_law_ 2452 = .ok (.istore 5, 2) := by decide +kernel
theorem dL_law__2454 : decode cL_law_ 2454 = .ok (.aload_n 2, 1) := by decide +kernel
theorem dL_law__2455 : decode cL_law_ 2455 = .ok (.aload_n 0, 1) := by decide +kernel
theorem dL_law__2456 : decode cL_law_ 2456 = .ok (.iload 4, 2) := by decide +kernel
theorem dL_law__2458 : decode cL_law_ 2458 = .ok (.iconst 1, 1) := by decide +kernel
theorem dL_law__2459 : decode cL_law_ 2459 = .ok (.iadd, 1) := by decide +kernel
theorem dL_law__2460 : decode cL_law_ 2460 = .ok (.iaload, 1) := by decide +kernel
theorem dL_law__2461 : decode cL_law_ 2461 = .ok (.aload_n 0, 1) := by decide +kernel
theorem dL_law__2462 : decode cL_law_ 2462 = .ok (.iload 4, 2) := by decide +kernel
theorem dL_law__2464 : decode cL_law_ 2464 = .ok (.iconst 2, 1) := by decide +kernel
theorem dL_law__2465 : decode cL_law_ 2465 = .ok (.iadd, 1) := by decide +kernel
theorem dL_law__2466 : decode cL_law_ 2466 = .ok (.iaload, 1) := by decide +kernel
theorem dL_law__2467 : decode cL_law_ 2467 = .ok (.aload_n 0, 1) := by decide +kernel
theorem dL_law__2468 : decode cL_law_ 2468 = .ok (.iload 4, 2) := by decide +kernel
theorem dL_law__2470 : decode cL_law_ 2470 = .ok (.iconst 3, 1) := by decide +kernel
theorem dL_law__2471 : decode cL_law_ 2471 = .ok (.iadd, 1) := by decide +kernel
theorem dL_law__2472 : decode cL_law_ 2472 = .ok (.iaload, 1) := by decide +kernel
theorem dL_law__2473 : decode cL_law_ 2473 = .ok (.aload_n 0, 1) := by decide +kernel
theorem dL_law__2474 : decode cL_law_ 2474 = .ok (.iload 4, 2) := by decide +kernel
theorem dL_law__2476 : decode cL_law_ 2476 = .ok (.iconst 4, 1) := by decide +kernel
theorem dL_law__2477 : decode cL_law_ 2477 = .ok (.iadd, 1) := by decide +kernel
theorem dL_law__2478 : decode cL_law_ 2478 = .ok (.iaload, 1) := by decide +kernel
theorem dL_law__2479 : decode cL_law_ 2479 = .ok (.aload_n 0, 1) := by decide +kernel
theorem dL_law__2480 : decode cL_law_ 2480 = .ok (.iload 4, 2) := by decide +kernel
theorem dL_law__2482 : decode cL_law_ 2482 = .ok (.iconst 5, 1) := by decide +kernel
theorem dL_law__2483 : decode cL_law_ 2483 = .ok (.iadd, 1) := by decide +kernel
theorem dL_law__2484 : decode cL_law_ 2484 = .ok (.iaload, 1) := by decide +kernel
theorem dL_law__2485 : decode cL_law_ 2485 = .ok (.invokevirtual 260, 3) := by decide +kernel
theorem dL_law__2488 : decode cL_law_ 2488 = .ok (.istore 6, 2) := by decide +kernel
theorem dL_law__2490 : decode cL_law_ 2490 = .ok (.aload_n 2, 1) := by decide +kernel
theorem dL_law__2491 : decode cL_law_ 2491 = .ok (.invokevirtual 131, 3) := by decide +kernel
theorem dL_law__2494 : decode cL_law_ 2494 = .ok (.iload 5, 2) := by decide +kernel
theorem dL_law__2496 : decode cL_law_ 2496 = .ok (.if_icmp .eq 5, 3) := by decide +kernel
theorem dL_law__2499 : decode cL_law_ 2499 = .ok (.iconst 0, 1) := by decide +kernel
theorem dL_law__2500 : decode cL_law_ 2500 = .ok (.ireturn, 1) := by decide +kernel
theorem dL_law__2501 : decode cL_law_ 2501 = .ok (.iload 5, 2) := by decide +kernel
theorem dL_law__2503 : decode cL_law_ 2503 = .ok (.ifCond .ne 15, 3) := by decide +kernel
theorem dL_law__2506 : decode cL_law_ 2506 = .ok (.aload_n 3, 1) := by decide +kernel
theorem dL_law__2507 : decode cL_law_ 2507 = .ok (.iconst 0, 1) := by decide +kernel
theorem dL_law__2508 : decode cL_law_ 2508 = .ok (.laload, 1) := by decide +kernel
theorem dL_law__2509 : decode cL_law_ 2509 = .ok (.iload 6, 2) := by decide +kernel
theorem dL_law__2511 : decode cL_law_ 2511 = .ok (.i2l, 1) := by decide +kernel
theorem dL_law__2512 : decode cL_law_ 2512 = .ok (.lcmp, 1) := by decide +kernel
theorem dL_law__2513 : decode cL_law_ 2513 = .ok (.ifCond .eq 5, 3) := by decide +kernel
theorem dL_law__2516 : decode cL_law_ 2516 = .ok (.iconst 0, 1) := by decide +kernel
theorem dL_law__2517 : decode cL_law_ 2517 = .ok (.ireturn, 1) := by decide +kernel
theorem dL_law__2518 : decode cL_law_ 2518 = .ok (.goto 211, 3) := by decide +kernel
theorem dL_law__2521 : decode cL_law_ 2521 = .ok (.aload_n 1, 1) := by decide +kernel
theorem dL_law__2522 : decode cL_law_ 2522 = .ok (.aload_n 0, 1) := by decide +kernel
theorem dL_law__2523 : decode cL_law_ 2523 = .ok (.iload 4, 2) := by decide +kernel
theorem dL_law__2525 : decode cL_law_ 2525 = .ok (.iconst 1, 1) := by decide +kernel
theorem dL_law__2526 : decode cL_law_ 2526 = .ok (.iadd, 1) := by decide +kernel
theorem dL_law__2527 : decode cL_law_ 2527 = .ok (.iaload, 1) := by decide +kernel
theorem dL_law__2528 : decode cL_law_ 2528 = .ok (.aload_n 0, 1) := by decide +kernel
theorem dL_law__2529 : decode cL_law_ 2529 = .ok (.iload 4, 2) := by decide +kernel
theorem dL_law__2531 : decode cL_law_ 2531 = .ok (.iconst 2, 1) := by decide +kernel
theorem dL_law__2532 : decode cL_law_ 2532 = .ok (.iadd, 1) := by decide +kernel
theorem dL_law__2533 : decode cL_law_ 2533 = .ok (.iaload, 1) := by decide +kernel
theorem dL_law__2534 : decode cL_law_ 2534 = .ok (.aload_n 0, 1) := by decide +kernel
theorem dL_law__2535 : decode cL_law_ 2535 = .ok (.iload 4, 2) := by decide +kernel
theorem dL_law__2537 : decode cL_law_ 2537 = .ok (.iconst 3, 1) := by decide +kernel
theorem dL_law__2538 : decode cL_law_ 2538 = .ok (.iadd, 1) := by decide +kernel
theorem dL_law__2539 : decode cL_law_ 2539 = .ok (.iaload, 1) := by decide +kernel
theorem dL_law__2540 : decode cL_law_ 2540 = .ok (.aload_n 0, 1) := by decide +kernel
theorem dL_law__2541 : decode cL_law_ 2541 = .ok (.iload 4, 2) := by decide +kernel
theorem dL_law__2543 : decode cL_law_ 2543 = .ok (.iconst 4, 1) := by decide +kernel
theorem dL_law__2544 : decode cL_law_ 2544 = .ok (.iadd, 1) := by decide +kernel
theorem dL_law__2545 : decode cL_law_ 2545 = .ok (.iaload, 1) := by decide +kernel
theorem dL_law__2546 : decode cL_law_ 2546 = .ok (.aload_n 0, 1) := by decide +kernel
theorem dL_law__2547 : decode cL_law_ 2547 = .ok (.iload 4, 2) := by decide +kernel
theorem dL_law__2549 : decode cL_law_ 2549 = .ok (.iconst 5, 1) := by decide +kernel
theorem dL_law__2550 : decode cL_law_ 2550 = .ok (.iadd, 1) := by decide +kernel
theorem dL_law__2551 : decode cL_law_ 2551 = .ok (.iaload, 1) := by decide +kernel
theorem dL_law__2552 : decode cL_law_ 2552 = .ok (.aload_n 0, 1) := by decide +kernel
theorem dL_law__2553 : decode cL_law_ 2553 = .ok (.iload 4, 2) := by decide +kernel
theorem dL_law__2555 : decode cL_law_ 2555 = .ok (.bipush 6, 2) := by decide +kernel
theorem dL_law__2557 : decode cL_law_ 2557 = .ok (.iadd, 1) := by decide +kernel
theorem dL_law__2558 : decode cL_law_ 2558 = .ok (.iaload, 1) := by decide +kernel
theorem dL_law__2559 : decode cL_law_ 2559 = .ok (.aload_n 0, 1) := by decide +kernel
theorem dL_law__2560 : decode cL_law_ 2560 = .ok (.iload 4, 2) := by decide +kernel
theorem dL_law__2562 : decode cL_law_ 2562 = .ok (.bipush 7, 2) := by decide +kernel
theorem dL_law__2564 : decode cL_law_ 2564 = .ok (.iadd, 1) := by decide +kernel
theorem dL_law__2565 : decode cL_law_ 2565 = .ok (.iaload, 1) := by decide +kernel
theorem dL_law__2566 : decode cL_law_ 2566 = .ok (.aload_n 3, 1) := by decide +kernel
theorem dL_law__2567 : decode cL_law_ 2567 = .ok (.invokestatic 261, 3) := by decide +kernel
theorem dL_law__2570 : decode cL_law_ 2570 = .ok (.istore 5, 2) := by decide +kernel
theorem dL_law__2572 : decode cL_law_ 2572 = .ok (.aload_n 2, 1) := by decide +kernel
theorem dL_law__2573 : decode cL_law_ 2573 = .ok (.aload_n 0, 1) := by decide +kernel
theorem dL_law__2574 : decode cL_law_ 2574 = .ok (.iload 4, 2) := by decide +kernel
theorem dL_law__2576 : decode cL_law_ 2576 = .ok (.iconst 1, 1) := by decide +kernel
theorem dL_law__2577 : decode cL_law_ 2577 = .ok (.iadd, 1) := by decide +kernel
theorem dL_law__2578 : decode cL_law_ 2578 = .ok (.iaload, 1) := by decide +kernel
theorem dL_law__2579 : decode cL_law_ 2579 = .ok (.aload_n 0, 1) := by decide +kernel
theorem dL_law__2580 : decode cL_law_ 2580 = .ok (.iload 4, 2) := by decide +kernel
theorem dL_law__2582 : decode cL_law_ 2582 = .ok (.iconst 2, 1) := by decide +kernel
theorem dL_law__2583 : decode cL_law_ 2583 = .ok (.iadd, 1) := by decide +kernel
theorem dL_law__2584 : decode cL_law_ 2584 = .ok (.iaload, 1) := by decide +kernel
theorem dL_law__2585 : decode cL_law_ 2585 = .ok (.aload_n 0, 1) := by decide +kernel
theorem dL_law__2586 : decode cL_law_ 2586 = .ok (.iload 4, 2) := by decide +kernel
theorem dL_law__2588 : decode cL_law_ 2588 = .ok (.iconst 3, 1) := by decide +kernel
theorem dL_law__2589 : decode cL_law_ 2589 = .ok (.iadd, 1) := by decide +kernel
theorem dL_law__2590 : decode cL_law_ 2590 = .ok (.iaload, 1) := by decide +kernel
theorem dL_law__2591 : decode cL_law_ 2591 = .ok (.aload_n 0, 1) := by decide +kernel
theorem dL_law__2592 : decode cL_law_ 2592 = .ok (.iload 4, 2) := by decide +kernel
theorem dL_law__2594 : decode cL_law_ 2594 = .ok (.iconst 4, 1) := by decide +kernel
theorem dL_law__2595 : decode cL_law_ 2595 = .ok (.iadd, 1) := by decide +kernel
theorem dL_law__2596 : decode cL_law_ 2596 = .ok (.iaload, 1) := by decide +kernel
theorem dL_law__2597 : decode cL_law_ 2597 = .ok (.aload_n 0, 1) := by decide +kernel
theorem dL_law__2598 : decode cL_law_ 2598 = .ok (.iload 4, 2) := by decide +kernel
theorem dL_law__2600 : decode cL_law_ 2600 = .ok (.iconst 5, 1) := by decide +kernel
theorem dL_law__2601 : decode cL_law_ 2601 = .ok (.iadd, 1) := by decide +kernel
theorem dL_law__2602 : decode cL_law_ 2602 = .ok (.iaload, 1) := by decide +kernel
theorem dL_law__2603 : decode cL_law_ 2603 = .ok (.aload_n 0, 1) := by decide +kernel
theorem dL_law__2604 : decode cL_law_ 2604 = .ok (.iload 4, 2) := by decide +kernel
theorem dL_law__2606 : decode cL_law_ 2606 = .ok (.bipush 6, 2) := by decide +kernel
theorem dL_law__2608 : decode cL_law_ 2608 = .ok (.iadd, 1) := by decide +kernel
theorem dL_law__2609 : decode cL_law_ 2609 = .ok (.iaload, 1) := by decide +kernel
theorem dL_law__2610 : decode cL_law_ 2610 = .ok (.aload_n 0, 1) := by decide +kernel
theorem dL_law__2611 : decode cL_law_ 2611 = .ok (.iload 4, 2) := by decide +kernel
theorem dL_law__2613 : decode cL_law_ 2613 = .ok (.bipush 7, 2) := by decide +kernel
theorem dL_law__2615 : decode cL_law_ 2615 = .ok (.iadd, 1) := by decide +kernel
theorem dL_law__2616 : decode cL_law_ 2616 = .ok (.iaload, 1) := by decide +kernel
theorem dL_law__2617 : decode cL_law_ 2617 = .ok (.invokevirtual 264, 3) := by decide +kernel
theorem dL_law__2620 : decode cL_law_ 2620 = .ok (.istore 6, 2) := by decide +kernel
theorem dL_law__2622 : decode cL_law_ 2622 = .ok (.aload_n 2, 1) := by decide +kernel
theorem dL_law__2623 : decode cL_law_ 2623 = .ok (.invokevirtual 131, 3) := by decide +kernel
theorem dL_law__2626 : decode cL_law_ 2626 = .ok (.iload 5, 2) := by decide +kernel
theorem dL_law__2628 : decode cL_law_ 2628 = .ok (.if_icmp .eq 5, 3) := by decide +kernel
theorem dL_law__2631 : decode cL_law_ 2631 = .ok (.iconst 0, 1) := by decide +kernel
theorem dL_law__2632 : decode cL_law_ 2632 = .ok (.ireturn, 1) := by decide +kernel
theorem dL_law__2633 : decode cL_law_ 2633 = .ok (.iload 5, 2) := by decide +kernel
theorem dL_law__2635 : decode cL_law_ 2635 = .ok (.ifCond .ne 15, 3) := by decide +kernel
theorem dL_law__2638 : decode cL_law_ 2638 = .ok (.aload_n 3, 1) := by decide +kernel
theorem dL_law__2639 : decode cL_law_ 2639 = .ok (.iconst 0, 1) := by decide +kernel
theorem dL_law__2640 : decode cL_law_ 2640 = .ok (.laload, 1) := by decide +kernel
theorem dL_law__2641 : decode cL_law_ 2641 = .ok (.iload 6, 2) := by decide +kernel
theorem dL_law__2643 : decode cL_law_ 2643 = .ok (.i2l, 1) := by decide +kernel
theorem dL_law__2644 : decode cL_law_ 2644 = .ok (.lcmp, 1) := by decide +kernel
theorem dL_law__2645 : decode cL_law_ 2645 = .ok (.ifCond .eq 5, 3) := by decide +kernel
theorem dL_law__2648 : decode cL_law_ 2648 = .ok (.iconst 0, 1) := by decide +kernel
theorem dL_law__2649 : decode cL_law_ 2649 = .ok (.ireturn, 1) := by decide +kernel
theorem dL_law__2650 : decode cL_law_ 2650 = .ok (.goto 79, 3) := by decide +kernel
theorem dL_law__2653 : decode cL_law_ 2653 = .ok (.aload_n 1, 1) := by decide +kernel
theorem dL_law__2654 : decode cL_law_ 2654 = .ok (.invokevirtual 265, 3) := by decide +kernel
theorem dL_law__2657 : decode cL_law_ 2657 = .ok (.aload_n 2, 1) := by decide +kernel
theorem dL_law__2658 : decode cL_law_ 2658 = .ok (.invokevirtual 268, 3) := by decide +kernel
theorem dL_law__2661 : decode cL_law_ 2661 = .ok (.if_icmp .eq 68, 3) := by decide +kernel
theorem dL_law__2664 : decode cL_law_ 2664 = .ok (.iconst 0, 1) := by decide +kernel
theorem dL_law__2665 : decode cL_law_ 2665 = .ok (.ireturn, 1) := by decide +kernel
theorem dL_law__2666 : decode cL_law_ 2666 = .ok (.aload_n 1, 1) := by decide +kernel
theorem dL_law__2667 : decode cL_law_ 2667 = .ok (.invokevirtual 269, 3) := by decide +kernel
theorem dL_law__2670 : decode cL_law_ 2670 = .ok (.aload_n 2, 1) := by decide +kernel
theorem dL_law__2671 : decode cL_law_ 2671 = .ok (.invokevirtual 272, 3) := by decide +kernel
theorem dL_law__2674 : decode cL_law_ 2674 = .ok (.if_icmp .eq 55, 3) := by decide +kernel
theorem dL_law__2677 : decode cL_law_ 2677 = .ok (.iconst 0, 1) := by decide +kernel
theorem dL_law__2678 : decode cL_law_ 2678 = .ok (.ireturn, 1) := by decide +kernel
theorem dL_law__2679 : decode cL_law_ 2679 = .ok (.aload_n 1, 1) := by decide +kernel
theorem dL_law__2680 : decode cL_law_ 2680 = .ok (.aload_n 0, 1) := by decide +kernel
theorem dL_law__2681 : decode cL_law_ 2681 = .ok (.iload 4, 2) := by decide +kernel
theorem dL_law__2683 : decode cL_law_ 2683 = .ok (.iconst 1, 1) := by decide +kernel
theorem dL_law__2684 : decode cL_law_ 2684 = .ok (.iadd, 1) := by decide +kernel
theorem dL_law__2685 : decode cL_law_ 2685 = .ok (.iaload, 1) := by decide +kernel
theorem dL_law__2686 : decode cL_law_ 2686 = .ok (.invokevirtual 273, 3) := by decide +kernel
theorem dL_law__2689 : decode cL_law_ 2689 = .ok (.aload_n 2, 1) := by decide +kernel
theorem dL_law__2690 : decode cL_law_ 2690 = .ok (.aload_n 0, 1) := by decide +kernel
theorem dL_law__2691 : decode cL_law_ 2691 = .ok (.iload 4, 2) := by decide +kernel
theorem dL_law__2693 : decode cL_law_ 2693 = .ok (.iconst 1, 1) := by decide +kernel
theorem dL_law__2694 : decode cL_law_ 2694 = .ok (.iadd, 1) := by decide +kernel
theorem dL_law__2695 : decode cL_law_ 2695 = .ok (.iaload, 1) := by decide +kernel
theorem dL_law__2696 : decode cL_law_ 2696 = .ok (.invokevirtual 276, 3) := by decide +kernel
theorem dL_law__2699 : decode cL_law_ 2699 = .ok (.if_icmp .eq 30, 3) := by decide +kernel
theorem dL_law__2702 : decode cL_law_ 2702 = .ok (.iconst 0, 1) := by decide +kernel
theorem dL_law__2703 : decode cL_law_ 2703 = .ok (.ireturn, 1) := by decide +kernel
theorem dL_law__2704 : decode cL_law_ 2704 = .ok (.aload_n 1, 1) := by decide +kernel
theorem dL_law__2705 : decode cL_law_ 2705 = .ok (.aload_n 0, 1) := by decide +kernel
theorem dL_law__2706 : decode cL_law_ 2706 = .ok (.iload 4, 2) := by decide +kernel
theorem dL_law__2708 : decode cL_law_ 2708 = .ok (.iconst 1, 1) := by decide +kernel
theorem dL_law__2709 : decode cL_law_ 2709 = .ok (.iadd, 1) := by decide +kernel
theorem dL_law__2710 : decode cL_law_ 2710 = .ok (.iaload, 1) := by decide +kernel
theorem dL_law__2711 : decode cL_law_ 2711 = .ok (.invokevirtual 277, 3) := by decide +kernel
theorem dL_law__2714 : decode cL_law_ 2714 = .ok (.aload_n 2, 1) := by decide +kernel
theorem dL_law__2715 : decode cL_law_ 2715 = .ok (.aload_n 0, 1) := by decide +kernel
theorem dL_law__2716 : decode cL_law_ 2716 = .ok (.iload 4, 2) := by decide +kernel
theorem dL_law__2718 : decode cL_law_ 2718 = .ok (.iconst 1, 1) := by decide +kernel
theorem dL_law__2719 : decode cL_law_ 2719 = .ok (.iadd, 1) := by decide +kernel
theorem dL_law__2720 : decode cL_law_ 2720 = .ok (.iaload, 1) := by decide +kernel
theorem dL_law__2721 : decode cL_law_ 2721 = .ok (.invokevirtual 280, 3) := by decide +kernel
theorem dL_law__2724 : decode cL_law_ 2724 = .ok (.if_icmp .eq 5, 3) := by decide +kernel
theorem dL_law__2727 : decode cL_law_ 2727 = .ok (.iconst 0, 1) := by decide +kernel
theorem dL_law__2728 : decode cL_law_ 2728 = .ok (.ireturn, 1) := by decide +kernel
theorem dL_law__2729 : decode cL_law_ 2729 = .ok (.iinc 4 9, 3) := by decide +kernel
theorem dL_law__2732 : decode cL_law_ 2732 = .ok (.goto (-2709), 3) := by decide +kernel
theorem dL_law__2735 : decode cL_law_ 2735 = .ok (.iconst 1, 1) := by decide +kernel
theorem dL_law__2736 : decode cL_law_ 2736 = .ok (.ireturn, 1) := by decide +kernel
