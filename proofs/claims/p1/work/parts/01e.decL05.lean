theorem ni_dL_law_2158 : decode cL_law 2158 = .ok (.aload_n 1, 1) := by decide +kernel
theorem ni_dL_law_2159 : decode cL_law 2159 = .ok (.aload_n 0, 1) := by decide +kernel
theorem ni_dL_law_2160 : decode cL_law 2160 = .ok (.iload 5, 2) := by decide +kernel
theorem ni_dL_law_2162 : decode cL_law 2162 = .ok (.iconst 1, 1) := by decide +kernel
theorem ni_dL_law_2163 : decode cL_law 2163 = .ok (.iadd, 1) := by decide +kernel
theorem ni_dL_law_2164 : decode cL_law 2164 = .ok (.iaload, 1) := by decide +kernel
theorem ni_dL_law_2165 : decode cL_law 2165 = .ok (.aload_n 0, 1) := by decide +kernel
theorem ni_dL_law_2166 : decode cL_law 2166 = .ok (.iload 5, 2) := by decide +kernel
theorem ni_dL_law_2168 : decode cL_law 2168 = .ok (.iconst 2, 1) := by decide +kernel
theorem ni_dL_law_2169 : decode cL_law 2169 = .ok (.iadd, 1) := by decide +kernel
theorem ni_dL_law_2170 : decode cL_law 2170 = .ok (.iaload, 1) := by decide +kernel
theorem ni_dL_law_2171 : decode cL_law 2171 = .ok (.aload_n 3, 1) := by decide +kernel
theorem ni_dL_law_2172 : decode cL_law 2172 = .ok (.invokestatic 274, 3) := by decide +kernel
theorem ni_dL_law_2175 : decode cL_law 2175 = .ok (.istore 6, 2) := by decide +kernel
theorem ni_dL_law_2177 : decode cL_law 2177 = .ok (.aload_n 2, 1) := by decide +kernel
theorem ni_dL_law_2178 : decode cL_law 2178 = .ok (.aload_n 0, 1) := by decide +kernel
theorem ni_dL_law_2179 : decode cL_law 2179 = .ok (.iload 5, 2) := by decide +kernel
theorem ni_dL_law_2181 : decode cL_law 2181 = .ok (.iconst 1, 1) := by decide +kernel
theorem ni_dL_law_2182 : decode cL_law 2182 = .ok (.iadd, 1) := by decide +kernel
theorem ni_dL_law_2183 : decode cL_law 2183 = .ok (.iaload, 1) := by decide +kernel
theorem ni_dL_law_2184 : decode cL_law 2184 = .ok (.aload_n 0, 1) := by decide +kernel
theorem ni_dL_law_2185 : decode cL_law 2185 = .ok (.iload 5, 2) := by decide +kernel
theorem ni_dL_law_2187 : decode cL_law 2187 = .ok (.iconst 2, 1) := by decide +kernel
theorem ni_dL_law_2188 : decode cL_law 2188 = .ok (.iadd, 1) := by decide +kernel
theorem ni_dL_law_2189 : decode cL_law 2189 = .ok (.iaload, 1) := by decide +kernel
theorem ni_dL_law_2190 : decode cL_law 2190 = .ok (.invokevirtual 276, 3) := by decide +kernel
theorem ni_dL_law_2193 : decode cL_law 2193 = .ok (.istore 7, 2) := by decide +kernel
theorem ni_dL_law_2195 : decode cL_law 2195 = .ok (.aload_n 2, 1) := by decide +kernel
theorem ni_dL_law_2196 : decode cL_law 2196 = .ok (.invokevirtual 161, 3) := by decide +kernel
theorem ni_dL_law_2199 : decode cL_law 2199 = .ok (.iload 6, 2) := by decide +kernel
theorem ni_dL_law_2201 : decode cL_law 2201 = .ok (.if_icmp .eq 5, 3) := by decide +kernel
theorem ni_dL_law_2206 : decode cL_law 2206 = .ok (.iload 6, 2) := by decide +kernel
theorem ni_dL_law_2208 : decode cL_law 2208 = .ok (.ifCond .ne 15, 3) := by decide +kernel
theorem ni_dL_law_2223 : decode cL_law 2223 = .ok (.goto 1094, 3) := by decide +kernel
theorem ni_dL_law_2226 : decode cL_law 2226 = .ok (.aload_n 1, 1) := by decide +kernel
theorem ni_dL_law_2227 : decode cL_law 2227 = .ok (.aload_n 0, 1) := by decide +kernel
theorem ni_dL_law_2228 : decode cL_law 2228 = .ok (.iload 5, 2) := by decide +kernel
theorem ni_dL_law_2230 : decode cL_law 2230 = .ok (.iconst 1, 1) := by decide +kernel
theorem ni_dL_law_2231 : decode cL_law 2231 = .ok (.iadd, 1) := by decide +kernel
theorem ni_dL_law_2232 : decode cL_law 2232 = .ok (.iaload, 1) := by decide +kernel
theorem ni_dL_law_2233 : decode cL_law 2233 = .ok (.aload_n 3, 1) := by decide +kernel
theorem ni_dL_law_2234 : decode cL_law 2234 = .ok (.invokestatic 277, 3) := by decide +kernel
theorem ni_dL_law_2237 : decode cL_law 2237 = .ok (.istore 6, 2) := by decide +kernel
theorem ni_dL_law_2239 : decode cL_law 2239 = .ok (.aload_n 2, 1) := by decide +kernel
theorem ni_dL_law_2240 : decode cL_law 2240 = .ok (.aload_n 0, 1) := by decide +kernel
theorem ni_dL_law_2241 : decode cL_law 2241 = .ok (.iload 5, 2) := by decide +kernel
theorem ni_dL_law_2243 : decode cL_law 2243 = .ok (.iconst 1, 1) := by decide +kernel
theorem ni_dL_law_2244 : decode cL_law 2244 = .ok (.iadd, 1) := by decide +kernel
theorem ni_dL_law_2245 : decode cL_law 2245 = .ok (.iaload, 1) := by decide +kernel
theorem ni_dL_law_2246 : decode cL_law 2246 = .ok (.invokevirtual 279, 3) := by decide +kernel
theorem ni_dL_law_2249 : decode cL_law 2249 = .ok (.istore 7, 2) := by decide +kernel
theorem ni_dL_law_2251 : decode cL_law 2251 = .ok (.aload_n 2, 1) := by decide +kernel
theorem ni_dL_law_2252 : decode cL_law 2252 = .ok (.invokevirtual 161, 3) := by decide +kernel
theorem ni_dL_law_2255 : decode cL_law 2255 = .ok (.iload 6, 2) := by decide +kernel
theorem ni_dL_law_2257 : decode cL_law 2257 = .ok (.if_icmp .eq 5, 3) := by decide +kernel
theorem ni_dL_law_2262 : decode cL_law 2262 = .ok (.iload 6, 2) := by decide +kernel
theorem ni_dL_law_2264 : decode cL_law 2264 = .ok (.ifCond .ne 15, 3) := by decide +kernel
theorem ni_dL_law_2279 : decode cL_law 2279 = .ok (.goto 1038, 3) := by decide +kernel
theorem ni_dL_law_2282 : decode cL_law 2282 = .ok (.aload_n 1, 1) := by decide +kernel
theorem ni_dL_law_2283 : decode cL_law 2283 = .ok (.aload_n 0, 1) := by decide +kernel
theorem ni_dL_law_2284 : decode cL_law 2284 = .ok (.iload 5, 2) := by decide +kernel
theorem ni_dL_law_2286 : decode cL_law 2286 = .ok (.iconst 1, 1) := by decide +kernel
theorem ni_dL_law_2287 : decode cL_law 2287 = .ok (.iadd, 1) := by decide +kernel
theorem ni_dL_law_2288 : decode cL_law 2288 = .ok (.iaload, 1) := by decide +kernel
theorem ni_dL_law_2289 : decode cL_law 2289 = .ok (.aload_n 0, 1) := by decide +kernel
theorem ni_dL_law_2290 : decode cL_law 2290 = .ok (.iload 5, 2) := by decide +kernel
theorem ni_dL_law_2292 : decode cL_law 2292 = .ok (.iconst 2, 1) := by decide +kernel
theorem ni_dL_law_2293 : decode cL_law 2293 = .ok (.iadd, 1) := by decide +kernel
theorem ni_dL_law_2294 : decode cL_law 2294 = .ok (.iaload, 1) := by decide +kernel
theorem ni_dL_law_2295 : decode cL_law 2295 = .ok (.ifCond .eq 7, 3) := by decide +kernel
theorem ni_dL_law_2298 : decode cL_law 2298 = .ok (.iconst 1, 1) := by decide +kernel
theorem ni_dL_law_2299 : decode cL_law 2299 = .ok (.goto 4, 3) := by decide +kernel
theorem ni_dL_law_2302 : decode cL_law 2302 = .ok (.iconst 0, 1) := by decide +kernel
theorem ni_dL_law_2303 : decode cL_law 2303 = .ok (.aload_n 3, 1) := by decide +kernel
theorem ni_dL_law_2304 : decode cL_law 2304 = .ok (.invokestatic 280, 3) := by decide +kernel
theorem ni_dL_law_2307 : decode cL_law 2307 = .ok (.istore 6, 2) := by decide +kernel
theorem ni_dL_law_2309 : decode cL_law 2309 = .ok (.aload_n 2, 1) := by decide +kernel
theorem ni_dL_law_2310 : decode cL_law 2310 = .ok (.aload_n 0, 1) := by decide +kernel
theorem ni_dL_law_2311 : decode cL_law 2311 = .ok (.iload 5, 2) := by decide +kernel
theorem ni_dL_law_2313 : decode cL_law 2313 = .ok (.iconst 1, 1) := by decide +kernel
theorem ni_dL_law_2314 : decode cL_law 2314 = .ok (.iadd, 1) := by decide +kernel
theorem ni_dL_law_2315 : decode cL_law 2315 = .ok (.iaload, 1) := by decide +kernel
theorem ni_dL_law_2316 : decode cL_law 2316 = .ok (.aload_n 0, 1) := by decide +kernel
theorem ni_dL_law_2317 : decode cL_law 2317 = .ok (.iload 5, 2) := by decide +kernel
theorem ni_dL_law_2319 : decode cL_law 2319 = .ok (.iconst 2, 1) := by decide +kernel
theorem ni_dL_law_2320 : decode cL_law 2320 = .ok (.iadd, 1) := by decide +kernel
theorem ni_dL_law_2321 : decode cL_law 2321 = .ok (.iaload, 1) := by decide +kernel
theorem ni_dL_law_2322 : decode cL_law 2322 = .ok (.ifCond .eq 7, 3) := by decide +kernel
theorem ni_dL_law_2325 : decode cL_law 2325 = .ok (.iconst 1, 1) := by decide +kernel
theorem ni_dL_law_2326 : decode cL_law 2326 = .ok (.goto 4, 3) := by decide +kernel
theorem ni_dL_law_2329 : decode cL_law 2329 = .ok (.iconst 0, 1) := by decide +kernel
theorem ni_dL_law_2330 : decode cL_law 2330 = .ok (.invokevirtual 282, 3) := by decide +kernel
theorem ni_dL_law_2333 : decode cL_law 2333 = .ok (.istore 7, 2) := by decide +kernel
theorem ni_dL_law_2335 : decode cL_law 2335 = .ok (.aload_n 2, 1) := by decide +kernel
theorem ni_dL_law_2336 : decode cL_law 2336 = .ok (.invokevirtual 161, 3) := by decide +kernel
theorem ni_dL_law_2339 : decode cL_law 2339 = .ok (.iload 6, 2) := by decide +kernel
theorem ni_dL_law_2341 : decode cL_law 2341 = .ok (.if_icmp .eq 5, 3) := by decide +kernel
theorem ni_dL_law_2346 : decode cL_law 2346 = .ok (.iload 6, 2) := by decide +kernel
theorem ni_dL_law_2348 : decode cL_law 2348 = .ok (.ifCond .ne 15, 3) := by decide +kernel
theorem ni_dL_law_2363 : decode cL_law 2363 = .ok (.goto 954, 3) := by decide +kernel
theorem ni_dL_law_2366 : decode cL_law 2366 = .ok (.aload_n 1, 1) := by decide +kernel
theorem ni_dL_law_2367 : decode cL_law 2367 = .ok (.aload_n 0, 1) := by decide +kernel
theorem ni_dL_law_2368 : decode cL_law 2368 = .ok (.iload 5, 2) := by decide +kernel
theorem ni_dL_law_2370 : decode cL_law 2370 = .ok (.iconst 1, 1) := by decide +kernel
theorem ni_dL_law_2371 : decode cL_law 2371 = .ok (.iadd, 1) := by decide +kernel
theorem ni_dL_law_2372 : decode cL_law 2372 = .ok (.iaload, 1) := by decide +kernel
theorem ni_dL_law_2373 : decode cL_law 2373 = .ok (.aload_n 0, 1) := by decide +kernel
theorem ni_dL_law_2374 : decode cL_law 2374 = .ok (.iload 5, 2) := by decide +kernel
theorem ni_dL_law_2376 : decode cL_law 2376 = .ok (.iconst 2, 1) := by decide +kernel
theorem ni_dL_law_2377 : decode cL_law 2377 = .ok (.iadd, 1) := by decide +kernel
theorem ni_dL_law_2378 : decode cL_law 2378 = .ok (.iaload, 1) := by decide +kernel
theorem ni_dL_law_2379 : decode cL_law 2379 = .ok (.ifCond .eq 7, 3) := by decide +kernel
theorem ni_dL_law_2382 : decode cL_law 2382 = .ok (.iconst 1, 1) := by decide +kernel
theorem ni_dL_law_2383 : decode cL_law 2383 = .ok (.goto 4, 3) := by decide +kernel
theorem ni_dL_law_2386 : decode cL_law 2386 = .ok (.iconst 0, 1) := by decide +kernel
theorem ni_dL_law_2387 : decode cL_law 2387 = .ok (.aload_n 0, 1) := by decide +kernel
theorem ni_dL_law_2388 : decode cL_law 2388 = .ok (.iload 5, 2) := by decide +kernel
theorem ni_dL_law_2390 : decode cL_law 2390 = .ok (.iconst 3, 1) := by decide +kernel
theorem ni_dL_law_2391 : decode cL_law 2391 = .ok (.iadd, 1) := by decide +kernel
theorem ni_dL_law_2392 : decode cL_law 2392 = .ok (.iaload, 1) := by decide +kernel
theorem ni_dL_law_2393 : decode cL_law 2393 = .ok (.aload_n 3, 1) := by decide +kernel
theorem ni_dL_law_2394 : decode cL_law 2394 = .ok (.invokestatic 283, 3) := by decide +kernel
theorem ni_dL_law_2397 : decode cL_law 2397 = .ok (.istore 6, 2) := by decide +kernel
theorem ni_dL_law_2399 : decode cL_law 2399 = .ok (.aload_n 2, 1) := by decide +kernel
theorem ni_dL_law_2400 : decode cL_law 2400 = .ok (.aload_n 0, 1) := by decide +kernel
theorem ni_dL_law_2401 : decode cL_law 2401 = .ok (.iload 5, 2) := by decide +kernel
theorem ni_dL_law_2403 : decode cL_law 2403 = .ok (.iconst 1, 1) := by decide +kernel
theorem ni_dL_law_2404 : decode cL_law 2404 = .ok (.iadd, 1) := by decide +kernel
theorem ni_dL_law_2405 : decode cL_law 2405 = .ok (.iaload, 1) := by decide +kernel
theorem ni_dL_law_2406 : decode cL_law 2406 = .ok (.aload_n 0, 1) := by decide +kernel
theorem ni_dL_law_2407 : decode cL_law 2407 = .ok (.iload 5, 2) := by decide +kernel
theorem ni_dL_law_2409 : decode cL_law 2409 = .ok (.iconst 2, 1) := by decide +kernel
theorem ni_dL_law_2410 : decode cL_law 2410 = .ok (.iadd, 1) := by decide +kernel
theorem ni_dL_law_2411 : decode cL_law 2411 = .ok (.iaload, 1) := by decide +kernel
theorem ni_dL_law_2412 : decode cL_law 2412 = .ok (.ifCond .eq 7, 3) := by decide +kernel
theorem ni_dL_law_2415 : decode cL_law 2415 = .ok (.iconst 1, 1) := by decide +kernel
theorem ni_dL_law_2416 : decode cL_law 2416 = .ok (.goto 4, 3) := by decide +kernel
theorem ni_dL_law_2419 : decode cL_law 2419 = .ok (.iconst 0, 1) := by decide +kernel
theorem ni_dL_law_2420 : decode cL_law 2420 = .ok (.aload_n 0, 1) := by decide +kernel
theorem ni_dL_law_2421 : decode cL_law 2421 = .ok (.iload 5, 2) := by decide +kernel
theorem ni_dL_law_2423 : decode cL_law 2423 = .ok (.iconst 3, 1) := by decide +kernel
theorem ni_dL_law_2424 : decode cL_law 2424 = .ok (.iadd, 1) := by decide +kernel
theorem ni_dL_law_2425 : decode cL_law 2425 = .ok (.iaload, 1) := by decide +kernel
theorem ni_dL_law_2426 : decode cL_law 2426 = .ok (.invokevirtual 286, 3) := by decide +kernel
theorem ni_dL_law_2429 : decode cL_law 2429 = .ok (.istore 7, 2) := by decide +kernel
theorem ni_dL_law_2431 : decode cL_law 2431 = .ok (.aload_n 2, 1) := by decide +kernel
theorem ni_dL_law_2432 : decode cL_law 2432 = .ok (.invokevirtual 161, 3) := by decide +kernel
theorem ni_dL_law_2435 : decode cL_law 2435 = .ok (.iload 6, 2) := by decide +kernel
theorem ni_dL_law_2437 : decode cL_law 2437 = .ok (.if_icmp .eq 5, 3) := by decide +kernel
theorem ni_dL_law_2442 : decode cL_law 2442 = .ok (.iload 6, 2) := by decide +kernel
theorem ni_dL_law_2444 : decode cL_law 2444 = .ok (.ifCond .ne 15, 3) := by decide +kernel
theorem ni_dL_law_2459 : decode cL_law 2459 = .ok (.goto 858, 3) := by decide +kernel
theorem ni_dL_law_2462 : decode cL_law 2462 = .ok (.aload_n 1, 1) := by decide +kernel
theorem ni_dL_law_2463 : decode cL_law 2463 = .ok (.aload_n 0, 1) := by decide +kernel
theorem ni_dL_law_2464 : decode cL_law 2464 = .ok (.iload 5, 2) := by decide +kernel
theorem ni_dL_law_2466 : decode cL_law 2466 = .ok (.iconst 1, 1) := by decide +kernel
theorem ni_dL_law_2467 : decode cL_law 2467 = .ok (.iadd, 1) := by decide +kernel
theorem ni_dL_law_2468 : decode cL_law 2468 = .ok (.iaload, 1) := by decide +kernel
theorem ni_dL_law_2469 : decode cL_law 2469 = .ok (.aload_n 0, 1) := by decide +kernel
theorem ni_dL_law_2470 : decode cL_law 2470 = .ok (.iload 5, 2) := by decide +kernel
theorem ni_dL_law_2472 : decode cL_law 2472 = .ok (.iconst 2, 1) := by decide +kernel
theorem ni_dL_law_2473 : decode cL_law 2473 = .ok (.iadd, 1) := by decide +kernel
theorem ni_dL_law_2474 : decode cL_law 2474 = .ok (.iaload, 1) := by decide +kernel
theorem ni_dL_law_2475 : decode cL_law 2475 = .ok (.ifCond .eq 7, 3) := by decide +kernel
theorem ni_dL_law_2478 : decode cL_law 2478 = .ok (.iconst 1, 1) := by decide +kernel
theorem ni_dL_law_2479 : decode cL_law 2479 = .ok (.goto 4, 3) := by decide +kernel
theorem ni_dL_law_2482 : decode cL_law 2482 = .ok (.iconst 0, 1) := by decide +kernel
theorem ni_dL_law_2483 : decode cL_law 2483 = .ok (.aload_n 3, 1) := by decide +kernel
theorem ni_dL_law_2484 : decode cL_law 2484 = .ok (.invokestatic 287, 3) := by decide +kernel
theorem ni_dL_law_2487 : decode cL_law 2487 = .ok (.istore 6, 2) := by decide +kernel
theorem ni_dL_law_2489 : decode cL_law 2489 = .ok (.aload_n 2, 1) := by decide +kernel
theorem ni_dL_law_2490 : decode cL_law 2490 = .ok (.aload_n 0, 1) := by decide +kernel
theorem ni_dL_law_2491 : decode cL_law 2491 = .ok (.iload 5, 2) := by decide +kernel
theorem ni_dL_law_2493 : decode cL_law 2493 = .ok (.iconst 1, 1) := by decide +kernel
theorem ni_dL_law_2494 : decode cL_law 2494 = .ok (.iadd, 1) := by decide +kernel
theorem ni_dL_law_2495 : decode cL_law 2495 = .ok (.iaload, 1) := by decide +kernel
theorem ni_dL_law_2496 : decode cL_law 2496 = .ok (.aload_n 0, 1) := by decide +kernel
theorem ni_dL_law_2497 : decode cL_law 2497 = .ok (.iload 5, 2) := by decide +kernel
theorem ni_dL_law_2499 : decode cL_law 2499 = .ok (.iconst 2, 1) := by decide +kernel
theorem ni_dL_law_2500 : decode cL_law 2500 = .ok (.iadd, 1) := by decide +kernel
theorem ni_dL_law_2501 : decode cL_law 2501 = .ok (.iaload, 1) := by decide +kernel
theorem ni_dL_law_2502 : decode cL_law 2502 = .ok (.ifCond .eq 7, 3) := by decide +kernel
theorem ni_dL_law_2505 : decode cL_law 2505 = .ok (.iconst 1, 1) := by decide +kernel
theorem ni_dL_law_2506 : decode cL_law 2506 = .ok (.goto 4, 3) := by decide +kernel
theorem ni_dL_law_2509 : decode cL_law 2509 = .ok (.iconst 0, 1) := by decide +kernel
theorem ni_dL_law_2510 : decode cL_law 2510 = .ok (.invokevirtual 289, 3) := by decide +kernel
theorem ni_dL_law_2513 : decode cL_law 2513 = .ok (.istore 7, 2) := by decide +kernel
theorem ni_dL_law_2515 : decode cL_law 2515 = .ok (.aload_n 2, 1) := by decide +kernel
theorem ni_dL_law_2516 : decode cL_law 2516 = .ok (.invokevirtual 161, 3) := by decide +kernel
theorem ni_dL_law_2519 : decode cL_law 2519 = .ok (.iload 6, 2) := by decide +kernel
theorem ni_dL_law_2521 : decode cL_law 2521 = .ok (.if_icmp .eq 5, 3) := by decide +kernel
theorem ni_dL_law_2526 : decode cL_law 2526 = .ok (.iload 6, 2) := by decide +kernel
theorem ni_dL_law_2528 : decode cL_law 2528 = .ok (.ifCond .ne 15, 3) := by decide +kernel
theorem ni_dL_law_2543 : decode cL_law 2543 = .ok (.goto 774, 3) := by decide +kernel
theorem ni_dL_law_2546 : decode cL_law 2546 = .ok (.aload_n 1, 1) := by decide +kernel
theorem ni_dL_law_2547 : decode cL_law 2547 = .ok (.aload_n 0, 1) := by decide +kernel
theorem ni_dL_law_2548 : decode cL_law 2548 = .ok (.iload 5, 2) := by decide +kernel
theorem ni_dL_law_2550 : decode cL_law 2550 = .ok (.iconst 1, 1) := by decide +kernel
theorem ni_dL_law_2551 : decode cL_law 2551 = .ok (.iadd, 1) := by decide +kernel
theorem ni_dL_law_2552 : decode cL_law 2552 = .ok (.iaload, 1) := by decide +kernel
