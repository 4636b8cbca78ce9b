theorem dW_2075 : decode code 2075 = .ok (.goto 647, 3) := by decide +kernel
theorem dW_2078 : decode code 2078 = .ok (.aload_n 1, 1) := by decide +kernel
theorem dW_2079 : decode code 2079 = .ok (.invokevirtual 270, 3) := by decide +kernel
theorem dW_2082 : decode code 2082 = .ok (.aload_n 2, 1) := by decide +kernel
theorem dW_2083 : decode code 2083 = .ok (.invokevirtual 274, 3) := by decide +kernel
theorem dW_2086 : decode code 2086 = .ok (.lcmp, 1) := by decide +kernel
theorem dW_2087 : decode code 2087 = .ok (.ifCond .eq 635, 3) := by decide +kernel
theorem dW_2092 : decode code 2092 = .ok (.aload_n 1, 1) := by decide +kernel
theorem dW_2093 : decode code 2093 = .ok (.invokevirtual 275, 3) := by decide +kernel
theorem dW_2096 : decode code 2096 = .ok (.aload_n 2, 1) := by decide +kernel
theorem dW_2097 : decode code 2097 = .ok (.invokevirtual 278, 3) := by decide +kernel
theorem dW_2100 : decode code 2100 = .ok (.lcmp, 1) := by decide +kernel
theorem dW_2101 : decode code 2101 = .ok (.ifCond .eq 621, 3) := by decide +kernel
theorem dW_2106 : decode code 2106 = .ok (.aload_n 1, 1) := by decide +kernel
theorem dW_2107 : decode code 2107 = .ok (.aload_n 0, 1) := by decide +kernel
theorem dW_2108 : decode code 2108 = .ok (.iload 5, 2) := by decide +kernel
theorem dW_2110 : decode code 2110 = .ok (.iconst 1, 1) := by decide +kernel
theorem dW_2111 : decode code 2111 = .ok (.iadd, 1) := by decide +kernel
theorem dW_2112 : decode code 2112 = .ok (.iaload, 1) := by decide +kernel
theorem dW_2113 : decode code 2113 = .ok (.aload_n 3, 1) := by decide +kernel
theorem dW_2114 : decode code 2114 = .ok (.invokestatic 279, 3) := by decide +kernel
theorem dW_2117 : decode code 2117 = .ok (.istore 6, 2) := by decide +kernel
theorem dW_2119 : decode code 2119 = .ok (.aload_n 2, 1) := by decide +kernel
theorem dW_2120 : decode code 2120 = .ok (.aload_n 0, 1) := by decide +kernel
theorem dW_2121 : decode code 2121 = .ok (.iload 5, 2) := by decide +kernel
theorem dW_2123 : decode code 2123 = .ok (.iconst 1, 1) := by decide +kernel
theorem dW_2124 : decode code 2124 = .ok (.iadd, 1) := by decide +kernel
theorem dW_2125 : decode code 2125 = .ok (.iaload, 1) := by decide +kernel
theorem dW_2126 : decode code 2126 = .ok (.invokevirtual 281, 3) := by decide +kernel
theorem dW_2129 : decode code 2129 = .ok (.istore 7, 2) := by decide +kernel
theorem dW_2131 : decode code 2131 = .ok (.aload_n 2, 1) := by decide +kernel
theorem dW_2132 : decode code 2132 = .ok (.invokevirtual 160, 3) := by decide +kernel
theorem dW_2135 : decode code 2135 = .ok (.iload 6, 2) := by decide +kernel
theorem dW_2137 : decode code 2137 = .ok (.if_icmp .eq 5, 3) := by decide +kernel
theorem dW_2142 : decode code 2142 = .ok (.iload 6, 2) := by decide +kernel
theorem dW_2144 : decode code 2144 = .ok (.ifCond .ne 15, 3) := by decide +kernel
theorem dW_2147 : decode code 2147 = .ok (.aload_n 3, 1) := by decide +kernel
theorem dW_2148 : decode code 2148 = .ok (.iconst 0, 1) := by decide +kernel
theorem dW_2149 : decode code 2149 = .ok (.laload, 1) := by decide +kernel
theorem dW_2150 : decode code 2150 = .ok (.iload 7, 2) := by decide +kernel
theorem dW_2152 : decode code 2152 = .ok (.i2l, 1) := by decide +kernel
theorem dW_2153 : decode code 2153 = .ok (.lcmp, 1) := by decide +kernel
theorem dW_2154 : decode code 2154 = .ok (.ifCond .eq 5, 3) := by decide +kernel
theorem dW_2159 : decode code 2159 = .ok (.goto 563, 3) := by decide +kernel
theorem dW_2162 : decode code 2162 = .ok (.aload_n 1, 1) := by decide +kernel
theorem dW_2163 : decode code 2163 = .ok (.aload 4, 2) := by decide +kernel
theorem dW_2165 : decode code 2165 = .ok (.invokestatic 282, 3) := by decide +kernel
theorem dW_2168 : decode code 2168 = .ok (.istore 6, 2) := by decide +kernel
theorem dW_2170 : decode code 2170 = .ok (.aload_n 2, 1) := by decide +kernel
theorem dW_2171 : decode code 2171 = .ok (.invokevirtual 285, 3) := by decide +kernel
theorem dW_2174 : decode code 2174 = .ok (.dstore 7, 2) := by decide +kernel
theorem dW_2176 : decode code 2176 = .ok (.aload_n 2, 1) := by decide +kernel
theorem dW_2177 : decode code 2177 = .ok (.invokevirtual 160, 3) := by decide +kernel
theorem dW_2180 : decode code 2180 = .ok (.iload 6, 2) := by decide +kernel
theorem dW_2182 : decode code 2182 = .ok (.if_icmp .eq 5, 3) := by decide +kernel
theorem dW_2187 : decode code 2187 = .ok (.iload 6, 2) := by decide +kernel
theorem dW_2189 : decode code 2189 = .ok (.ifCond .ne 35, 3) := by decide +kernel
theorem dW_2192 : decode code 2192 = .ok (.aload 4, 2) := by decide +kernel
theorem dW_2194 : decode code 2194 = .ok (.iconst 0, 1) := by decide +kernel
theorem dW_2195 : decode code 2195 = .ok (.daload, 1) := by decide +kernel
theorem dW_2196 : decode code 2196 = .ok (.dload 7, 2) := by decide +kernel
theorem dW_2198 : decode code 2198 = .ok (.dcmp .l, 1) := by decide +kernel
theorem dW_2199 : decode code 2199 = .ok (.ifCond .eq 25, 3) := by decide +kernel
theorem dW_2224 : decode code 2224 = .ok (.goto 498, 3) := by decide +kernel
theorem dW_2227 : decode code 2227 = .ok (.aload_n 1, 1) := by decide +kernel
theorem dW_2228 : decode code 2228 = .ok (.aload 4, 2) := by decide +kernel
theorem dW_2230 : decode code 2230 = .ok (.invokestatic 286, 3) := by decide +kernel
theorem dW_2233 : decode code 2233 = .ok (.istore 6, 2) := by decide +kernel
theorem dW_2235 : decode code 2235 = .ok (.aload_n 2, 1) := by decide +kernel
theorem dW_2236 : decode code 2236 = .ok (.invokevirtual 288, 3) := by decide +kernel
theorem dW_2239 : decode code 2239 = .ok (.fstore 7, 2) := by decide +kernel
theorem dW_2241 : decode code 2241 = .ok (.aload_n 2, 1) := by decide +kernel
theorem dW_2242 : decode code 2242 = .ok (.invokevirtual 160, 3) := by decide +kernel
theorem dW_2245 : decode code 2245 = .ok (.iload 6, 2) := by decide +kernel
theorem dW_2247 : decode code 2247 = .ok (.if_icmp .eq 5, 3) := by decide +kernel
theorem dW_2252 : decode code 2252 = .ok (.iload 6, 2) := by decide +kernel
theorem dW_2254 : decode code 2254 = .ok (.ifCond .ne 36, 3) := by decide +kernel
theorem dW_2257 : decode code 2257 = .ok (.aload 4, 2) := by decide +kernel
theorem dW_2259 : decode code 2259 = .ok (.iconst 0, 1) := by decide +kernel
theorem dW_2260 : decode code 2260 = .ok (.daload, 1) := by decide +kernel
theorem dW_2261 : decode code 2261 = .ok (.fload 7, 2) := by decide +kernel
theorem dW_2263 : decode code 2263 = .ok (.f2d, 1) := by decide +kernel
theorem dW_2264 : decode code 2264 = .ok (.dcmp .l, 1) := by decide +kernel
theorem dW_2265 : decode code 2265 = .ok (.ifCond .eq 25, 3) := by decide +kernel
theorem dW_2290 : decode code 2290 = .ok (.goto 432, 3) := by decide +kernel
theorem dW_2293 : decode code 2293 = .ok (.aload_n 1, 1) := by decide +kernel
theorem dW_2294 : decode code 2294 = .ok (.invokevirtual 289, 3) := by decide +kernel
theorem dW_2297 : decode code 2297 = .ok (.aload_n 2, 1) := by decide +kernel
theorem dW_2298 : decode code 2298 = .ok (.invokevirtual 293, 3) := by decide +kernel
theorem dW_2301 : decode code 2301 = .ok (.if_icmp .eq 421, 3) := by decide +kernel
theorem dW_2306 : decode code 2306 = .ok (.aload_n 1, 1) := by decide +kernel
theorem dW_2307 : decode code 2307 = .ok (.aload_n 0, 1) := by decide +kernel
theorem dW_2308 : decode code 2308 = .ok (.iload 5, 2) := by decide +kernel
theorem dW_2310 : decode code 2310 = .ok (.iconst 1, 1) := by decide +kernel
theorem dW_2311 : decode code 2311 = .ok (.iadd, 1) := by decide +kernel
theorem dW_2312 : decode code 2312 = .ok (.iaload, 1) := by decide +kernel
theorem dW_2313 : decode code 2313 = .ok (.aload_n 3, 1) := by decide +kernel
theorem dW_2314 : decode code 2314 = .ok (.invokestatic 294, 3) := by decide +kernel
theorem dW_2317 : decode code 2317 = .ok (.istore 6, 2) := by decide +kernel
theorem dW_2319 : decode code 2319 = .ok (.aload_n 2, 1) := by decide +kernel
theorem dW_2320 : decode code 2320 = .ok (.aload_n 0, 1) := by decide +kernel
theorem dW_2321 : decode code 2321 = .ok (.iload 5, 2) := by decide +kernel
theorem dW_2323 : decode code 2323 = .ok (.iconst 1, 1) := by decide +kernel
theorem dW_2324 : decode code 2324 = .ok (.iadd, 1) := by decide +kernel
theorem dW_2325 : decode code 2325 = .ok (.iaload, 1) := by decide +kernel
theorem dW_2326 : decode code 2326 = .ok (.invokevirtual 296, 3) := by decide +kernel
theorem dW_2329 : decode code 2329 = .ok (.istore 7, 2) := by decide +kernel
theorem dW_2331 : decode code 2331 = .ok (.aload_n 2, 1) := by decide +kernel
theorem dW_2332 : decode code 2332 = .ok (.invokevirtual 160, 3) := by decide +kernel
theorem dW_2335 : decode code 2335 = .ok (.iload 6, 2) := by decide +kernel
theorem dW_2337 : decode code 2337 = .ok (.if_icmp .eq 5, 3) := by decide +kernel
theorem dW_2342 : decode code 2342 = .ok (.iload 6, 2) := by decide +kernel
theorem dW_2344 : decode code 2344 = .ok (.ifCond .ne 15, 3) := by decide +kernel
theorem dW_2347 : decode code 2347 = .ok (.aload_n 3, 1) := by decide +kernel
theorem dW_2348 : decode code 2348 = .ok (.iconst 0, 1) := by decide +kernel
theorem dW_2349 : decode code 2349 = .ok (.laload, 1) := by decide +kernel
theorem dW_2350 : decode code 2350 = .ok (.iload 7, 2) := by decide +kernel
theorem dW_2352 : decode code 2352 = .ok (.i2l, 1) := by decide +kernel
theorem dW_2353 : decode code 2353 = .ok (.lcmp, 1) := by decide +kernel
theorem dW_2354 : decode code 2354 = .ok (.ifCond .eq 5, 3) := by decide +kernel
theorem dW_2359 : decode code 2359 = .ok (.goto 363, 3) := by decide +kernel
theorem dW_2362 : decode code 2362 = .ok (.aload_n 1, 1) := by decide +kernel
theorem dW_2363 : decode code 2363 = .ok (.invokevirtual 297, 3) := by decide +kernel
theorem dW_2366 : decode code 2366 = .ok (.aload_n 2, 1) := by decide +kernel
theorem dW_2367 : decode code 2367 = .ok (.invokevirtual 300, 3) := by decide +kernel
theorem dW_2370 : decode code 2370 = .ok (.if_icmp .eq 352, 3) := by decide +kernel
theorem dW_2375 : decode code 2375 = .ok (.aload_n 1, 1) := by decide +kernel
theorem dW_2376 : decode code 2376 = .ok (.aload_n 0, 1) := by decide +kernel
theorem dW_2377 : decode code 2377 = .ok (.iload 5, 2) := by decide +kernel
theorem dW_2379 : decode code 2379 = .ok (.iconst 1, 1) := by decide +kernel
theorem dW_2380 : decode code 2380 = .ok (.iadd, 1) := by decide +kernel
theorem dW_2381 : decode code 2381 = .ok (.iaload, 1) := by decide +kernel
theorem dW_2382 : decode code 2382 = .ok (.aload_n 3, 1) := by decide +kernel
theorem dW_2383 : decode code 2383 = .ok (.invokestatic 301, 3) := by decide +kernel
theorem dW_2386 : decode code 2386 = .ok (.istore 6, 2) := by decide +kernel
theorem dW_2388 : decode code 2388 = .ok (.aload_n 2, 1) := by decide +kernel
theorem dW_2389 : decode code 2389 = .ok (.aload_n 0, 1) := by decide +kernel
theorem dW_2390 : decode code 2390 = .ok (.iload 5, 2) := by decide +kernel
theorem dW_2392 : decode code 2392 = .ok (.iconst 1, 1) := by decide +kernel
theorem dW_2393 : decode code 2393 = .ok (.iadd, 1) := by decide +kernel
theorem dW_2394 : decode code 2394 = .ok (.iaload, 1) := by decide +kernel
theorem dW_2395 : decode code 2395 = .ok (.invokevirtual 303, 3) := by decide +kernel
theorem dW_2398 : decode code 2398 = .ok (.istore 7, 2) := by decide +kernel
theorem dW_2400 : decode code 2400 = .ok (.aload_n 2, 1) := by decide +kernel
theorem dW_2401 : decode code 2401 = .ok (.invokevirtual 160, 3) := by decide +kernel
theorem dW_2404 : decode code 2404 = .ok (.iload 6, 2) := by decide +kernel
theorem dW_2406 : decode code 2406 = .ok (.if_icmp .eq 5, 3) := by decide +kernel
theorem dW_2411 : decode code 2411 = .ok (.iload 6, 2) := by decide +kernel
theorem dW_2413 : decode code 2413 = .ok (.ifCond .ne 15, 3) := by decide +kernel
theorem dW_2416 : decode code 2416 = .ok (.aload_n 3, 1) := by decide +kernel
theorem dW_2417 : decode code 2417 = .ok (.iconst 0, 1) := by decide +kernel
theorem dW_2418 : decode code 2418 = .ok (.laload, 1) := by decide +kernel
theorem dW_2419 : decode code 2419 = .ok (.iload 7, 2) := by decide +kernel
theorem dW_2421 : decode code 2421 = .ok (.i2l, 1) := by decide +kernel
theorem dW_2422 : decode code 2422 = .ok (.lcmp, 1) := by decide +kernel
theorem dW_2423 : decode code 2423 = .ok (.ifCond .eq 5, 3) := by decide +kernel
theorem dW_2428 : decode code 2428 = .ok (.goto 294, 3) := by decide +kernel
theorem dW_2431 : decode code 2431 = .ok (.aload_n 1, 1) := by decide +kernel
theorem dW_2432 : decode code 2432 = .ok (.aload_n 0, 1) := by decide +kernel
theorem dW_2433 : decode code 2433 = .ok (.iload 5, 2) := by decide +kernel
theorem dW_2435 : decode code 2435 = .ok (.iconst 1, 1) := by decide +kernel
theorem dW_2436 : decode code 2436 = .ok (.iadd, 1) := by decide +kernel
theorem dW_2437 : decode code 2437 = .ok (.iaload, 1) := by decide +kernel
theorem dW_2438 : decode code 2438 = .ok (.i2c, 1) := by decide +kernel
theorem dW_2439 : decode code 2439 = .ok (.aload_n 3, 1) := by decide +kernel
theorem dW_2440 : decode code 2440 = .ok (.invokestatic 304, 3) := by decide +kernel
theorem dW_2443 : decode code 2443 = .ok (.istore 6, 2) := by decide +kernel
theorem dW_2445 : decode code 2445 = .ok (.aload_n 2, 1) := by decide +kernel
theorem dW_2446 : decode code 2446 = .ok (.aload_n 0, 1) := by decide +kernel
theorem dW_2447 : decode code 2447 = .ok (.iload 5, 2) := by decide +kernel
theorem dW_2449 : decode code 2449 = .ok (.iconst 1, 1) := by decide +kernel
theorem dW_2450 : decode code 2450 = .ok (.iadd, 1) := by decide +kernel
theorem dW_2451 : decode code 2451 = .ok (.iaload, 1) := by decide +kernel
theorem dW_2452 : decode code 2452 = .ok (.i2c, 1) := by decide +kernel
theorem dW_2453 : decode code 2453 = .ok (.invokevirtual 307, 3) := by decide +kernel
theorem dW_2456 : decode code 2456 = .ok (.istore 7, 2) := by decide +kernel
theorem dW_2458 : decode code 2458 = .ok (.aload_n 2, 1) := by decide +kernel
theorem dW_2459 : decode code 2459 = .ok (.invokevirtual 160, 3) := by decide +kernel
theorem dW_2462 : decode code 2462 = .ok (.iload 6, 2) := by decide +kernel
theorem dW_2464 : decode code 2464 = .ok (.if_icmp .eq 5, 3) := by decide +kernel
theorem dW_2469 : decode code 2469 = .ok (.iload 6, 2) := by decide +kernel
theorem dW_2471 : decode code 2471 = .ok (.ifCond .ne 15, 3) := by decide +kernel
theorem dW_2474 : decode code 2474 = .ok (.aload_n 3, 1) := by decide +kernel
theorem dW_2475 : decode code 2475 = .ok (.iconst 0, 1) := by decide +kernel
theorem dW_2476 : decode code 2476 = .ok (.laload, 1) := by decide +kernel
theorem dW_2477 : decode code 2477 = .ok (.iload 7, 2) := by decide +kernel
theorem dW_2479 : decode code 2479 = .ok (.i2l, 1) := by decide +kernel
theorem dW_2480 : decode code 2480 = .ok (.lcmp, 1) := by decide +kernel
theorem dW_2481 : decode code 2481 = .ok (.ifCond .eq 5, 3) := by decide +kernel
theorem dW_2486 : decode code 2486 = .ok (.goto 236, 3) := by decide +kernel
theorem dW_2489 : decode code 2489 = .ok (.aload_n 1, 1) := by decide +kernel
theorem dW_2490 : decode code 2490 = .ok (.aload_n 3, 1) := by decide +kernel
theorem dW_2491 : decode code 2491 = .ok (.invokestatic 308, 3) := by decide +kernel
theorem dW_2494 : decode code 2494 = .ok (.istore 6, 2) := by decide +kernel
theorem dW_2496 : decode code 2496 = .ok (.aload_n 2, 1) := by decide +kernel
theorem dW_2497 : decode code 2497 = .ok (.invokevirtual 310, 3) := by decide +kernel
theorem dW_2500 : decode code 2500 = .ok (.istore 7, 2) := by decide +kernel
theorem dW_2502 : decode code 2502 = .ok (.aload_n 2, 1) := by decide +kernel
theorem dW_2503 : decode code 2503 = .ok (.invokevirtual 160, 3) := by decide +kernel
theorem dW_2506 : decode code 2506 = .ok (.iload 6, 2) := by decide +kernel
theorem dW_2508 : decode code 2508 = .ok (.if_icmp .eq 5, 3) := by decide +kernel
theorem dW_2513 : decode code 2513 = .ok (.iload 6, 2) := by decide +kernel
theorem dW_2515 : decode code 2515 = .ok (.ifCond .ne 15, 3) := by decide +kernel
theorem dW_2518 : decode code 2518 = .ok (.aload_n 3, 1) := by decide +kernel
theorem dW_2519 : decode code 2519 = .ok (.iconst 0, 1) := by decide +kernel
theorem dW_2520 : decode code 2520 = .ok (.laload, 1) := by decide +kernel
theorem dW_2521 : decode code 2521 = .ok (.iload 7, 2) := by decide +kernel
theorem dW_2523 : decode code 2523 = .ok (.i2l, 1) := by decide +kernel
theorem dW_2524 : decode code 2524 = .ok (.lcmp, 1) := by decide +kernel
theorem dW_2525 : decode code 2525 = .ok (.ifCond .eq 5, 3) := by decide +kernel
theorem dW_2530 : decode code 2530 = .ok (.goto 192, 3) := by decide +kernel
theorem dW_2533 : decode code 2533 = .ok (.aload_n 1, 1) := by decide +kernel
theorem dW_2534 : decode code 2534 = .ok (.aload_n 3, 1) := by decide +kernel
theorem dW_2535 : decode code 2535 = .ok (.invokestatic 311, 3) := by decide +kernel
theorem dW_2538 : decode code 2538 = .ok (.istore 6, 2) := by decide +kernel
theorem dW_2540 : decode code 2540 = .ok (.aload_n 2, 1) := by decide +kernel
theorem dW_2541 : decode code 2541 = .ok (.invokevirtual 313, 3) := by decide +kernel
theorem dW_2544 : decode code 2544 = .ok (.istore 7, 2) := by decide +kernel
theorem dW_2546 : decode code 2546 = .ok (.aload_n 2, 1) := by decide +kernel
theorem dW_2547 : decode code 2547 = .ok (.invokevirtual 160, 3) := by decide +kernel
theorem dW_2550 : decode code 2550 = .ok (.iload 6, 2) := by decide +kernel
theorem dW_2552 : decode code 2552 = .ok (.if_icmp .eq 5, 3) := by decide +kernel
theorem dW_2557 : decode code 2557 = .ok (.iload 6, 2) := by decide +kernel
theorem dW_2559 : decode code 2559 = .ok (.ifCond .ne 15, 3) := by decide +kernel
theorem dW_2562 : decode code 2562 = .ok (.aload_n 3, 1) := by decide +kernel
theorem dW_2563 : decode code 2563 = .ok (.iconst 0, 1) := by decide +kernel
theorem dW_2564 : decode code 2564 = .ok (.laload, 1) := by decide +kernel
theorem dW_2565 : decode code 2565 = .ok (.iload 7, 2) := by decide +kernel
theorem dW_2567 : decode code 2567 = .ok (.i2l, 1) := by decide +kernel
theorem dW_2568 : decode code 2568 = .ok (.lcmp, 1) := by decide +kernel
theorem dW_2569 : decode code 2569 = .ok (.ifCond .eq 5, 3) := by decide +kernel
theorem dW_2574 : decode code 2574 = .ok (.goto 148, 3) := by decide +kernel
theorem dW_2577 : decode code 2577 = .ok (.aload_n 1, 1) := by decide +kernel
theorem dW_2578 : decode code 2578 = .ok (.aload_n 3, 1) := by decide +kernel
theorem dW_2579 : decode code 2579 = .ok (.invokestatic 314, 3) := by decide +kernel
theorem dW_2582 : decode code 2582 = .ok (.istore 6, 2) := by decide +kernel
theorem dW_2584 : decode code 2584 = .ok (.aload_n 2, 1) := by decide +kernel
theorem dW_2585 : decode code 2585 = .ok (.invokevirtual 316, 3) := by decide +kernel
theorem dW_2588 : decode code 2588 = .ok (.istore 7, 2) := by decide +kernel
theorem dW_2590 : decode code 2590 = .ok (.aload_n 2, 1) := by decide +kernel
theorem dW_2591 : decode code 2591 = .ok (.invokevirtual 160, 3) := by decide +kernel
theorem dW_2594 : decode code 2594 = .ok (.iload 6, 2) := by decide +kernel
theorem dW_2596 : decode code 2596 = .ok (.if_icmp .eq 5, 3) := by decide +kernel
theorem dW_2601 : decode code 2601 = .ok (.iload 6, 2) := by decide +kernel
theorem dW_2603 : decode code 2603 = .ok (.ifCond .ne 15, 3) := by decide +kernel
theorem dW_2606 : decode code 2606 = .ok (.aload_n 3, 1) := by decide +kernel
theorem dW_2607 : decode code 2607 = .ok (.iconst 0, 1) := by decide +kernel
theorem dW_2608 : decode code 2608 = .ok (.laload, 1) := by decide +kernel
theorem dW_2609 : decode code 2609 = .ok (.iload 7, 2) := by decide +kernel
theorem dW_2611 : decode code 2611 = .ok (.i2l, 1) := by decide +kernel
theorem dW_2612 : decode code 2612 = .ok (.lcmp, 1) := by decide +kernel
theorem dW_2613 : decode code 2613 = .ok (.ifCond .eq 5, 3) := by decide +kernel
theorem dW_2618 : decode code 2618 = .ok (.goto 104, 3) := by decide +kernel
theorem dW_2621 : decode code 2621 = .ok (.aload_n 1, 1) := by decide +kernel
theorem dW_2622 : decode code 2622 = .ok (.aload_n 3, 1) := by decide +kernel
theorem dW_2623 : decode code 2623 = .ok (.invokestatic 317, 3) := by decide +kernel
theorem dW_2626 : decode code 2626 = .ok (.istore 6, 2) := by decide +kernel
theorem dW_2628 : decode code 2628 = .ok (.aload_n 2, 1) := by decide +kernel
theorem dW_2629 : decode code 2629 = .ok (.invokevirtual 319, 3) := by decide +kernel
theorem dW_2632 : decode code 2632 = .ok (.istore 7, 2) := by decide +kernel
theorem dW_2634 : decode code 2634 = .ok (.aload_n 2, 1) := by decide +kernel
theorem dW_2635 : decode code 2635 = .ok (.invokevirtual 160, 3) := by decide +kernel
theorem dW_2638 : decode code 2638 = .ok (.iload 6, 2) := by decide +kernel
theorem dW_2640 : decode code 2640 = .ok (.if_icmp .eq 5, 3) := by decide +kernel
theorem dW_2645 : decode code 2645 = .ok (.iload 6, 2) := by decide +kernel
theorem dW_2647 : decode code 2647 = .ok (.ifCond .ne 15, 3) := by decide +kernel
theorem dW_2650 : decode code 2650 = .ok (.aload_n 3, 1) := by decide +kernel
theorem dW_2651 : decode code 2651 = .ok (.iconst 0, 1) := by decide +kernel
theorem dW_2652 : decode code 2652 = .ok (.laload, 1) := by decide +kernel
theorem dW_2653 : decode code 2653 = .ok (.iload 7, 2) := by decide +kernel
theorem dW_2655 : decode code 2655 = .ok (.i2l, 1) := by decide +kernel
theorem dW_2656 : decode code 2656 = .ok (.lcmp, 1) := by decide +kernel
theorem dW_2657 : decode code 2657 = .ok (.ifCond .eq 5, 3) := by decide +kernel
theorem dW_2662 : decode code 2662 = .ok (.goto 60, 3) := by decide +kernel
theorem dW_2665 : decode code 2665 = .ok (.aload_n 1, 1) := by decide +kernel
theorem dW_2666 : decode code 2666 = .ok (.invokevirtual 320, 3) := by decide +kernel
theorem dW_2669 : decode code 2669 = .ok (.aload_n 2, 1) := by decide +kernel
theorem dW_2670 : decode code 2670 = .ok (.invokevirtual 323, 3) := by decide +kernel
theorem dW_2673 : decode code 2673 = .ok (.if_icmp .eq 49, 3) := by decide +kernel
theorem dW_2678 : decode code 2678 = .ok (.aload_n 1, 1) := by decide +kernel
theorem dW_2679 : decode code 2679 = .ok (.aload_n 3, 1) := by decide +kernel
theorem dW_2680 : decode code 2680 = .ok (.invokestatic 324, 3) := by decide +kernel
theorem dW_2683 : decode code 2683 = .ok (.istore 6, 2) := by decide +kernel
theorem dW_2685 : decode code 2685 = .ok (.aload_n 2, 1) := by decide +kernel
theorem dW_2686 : decode code 2686 = .ok (.invokevirtual 326, 3) := by decide +kernel
theorem dW_2689 : decode code 2689 = .ok (.istore 7, 2) := by decide +kernel
theorem dW_2691 : decode code 2691 = .ok (.aload_n 2, 1) := by decide +kernel
theorem dW_2692 : decode code 2692 = .ok (.invokevirtual 160, 3) := by decide +kernel
theorem dW_2695 : decode code 2695 = .ok (.iload 6, 2) := by decide +kernel
theorem dW_2697 : decode code 2697 = .ok (.if_icmp .eq 5, 3) := by decide +kernel
theorem dW_2702 : decode code 2702 = .ok (.iload 6, 2) := by decide +kernel
theorem dW_2704 : decode code 2704 = .ok (.ifCond .ne 15, 3) := by decide +kernel
theorem dW_2707 : decode code 2707 = .ok (.aload_n 3, 1) := by decide +kernel
theorem dW_2708 : decode code 2708 = .ok (.iconst 0, 1) := by decide +kernel
theorem dW_2709 : decode code 2709 = .ok (.laload, 1) := by decide +kernel
theorem dW_2710 : decode code 2710 = .ok (.iload 7, 2) := by decide +kernel
theorem dW_2712 : decode code 2712 = .ok (.i2l, 1) := by decide +kernel
theorem dW_2713 : decode code 2713 = .ok (.lcmp, 1) := by decide +kernel
theorem dW_2714 : decode code 2714 = .ok (.ifCond .eq 5, 3) := by decide +kernel
theorem dW_2719 : decode code 2719 = .ok (.goto 3, 3) := by decide +kernel
theorem dW_2722 : decode code 2722 = .ok (.iinc 5 4, 3) := by decide +kernel
theorem dW_2725 : decode code 2725 = .ok (.goto (-2697), 3) := by decide +kernel
theorem dW_2728 : decode code 2728 = .ok (.iconst 1, 1) := by decide +kernel
theorem dW_2729 : decode code 2729 = .ok (.ireturn, 1) := by decide +kernel
