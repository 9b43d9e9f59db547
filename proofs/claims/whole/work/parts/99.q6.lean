/-! ===== what stands at each place: the law, 6 ===== -/
theorem dL_law__2214 : decode cL_law_ 2214 = .ok (.iload 4, 2) := by decide +kernel
theorem dL_law__2216 : decode cL_law_ 2216 = .ok (.iconst 1, 1) := by decide +kernel
theorem dL_law__2217 : decode cL_law_ 2217 = .ok (.iadd, 1) := by decide +kernel
theorem dL_law__2218 : decode cL_law_ 2218 = .ok (.iaload, 1) := by decide +kernel
theorem dL_law__2219 : decode cL_law_ 2219 = .ok (.aload_n 0, 1) := by decide +kernel
theorem dL_law__2220 : decode cL_law_ 2220 = .ok (.iload 4, 2) := by decide +kernel
theorem dL_law__2222 : decode cL_law_ 2222 = .ok (.iconst 2, 1) := by decide +kernel
theorem dL_law__2223 : decode cL_law_ 2223 = .ok (.iadd, 1) := by decide +kernel
theorem dL_law__2224 : decode cL_law_ 2224 = .ok (.iaload, 1) := by decide +kernel
theorem dL_law__2225 : decode cL_law_ 2225 = .ok (.invokevirtual 254, 3) := by decide +kernel
theorem dL_law__2228 : decode cL_law_ 2228 = .ok (.istore 6, 2) := by decide +kernel
theorem dL_law__2230 : decode cL_law_ 2230 = .ok (.aload_n 2, 1) := by decide +kernel
theorem dL_law__2231 : decode cL_law_ 2231 = .ok (.invokevirtual 152, 3) := by decide +kernel
theorem dL_law__2234 : decode cL_law_ 2234 = .ok (.iload 5, 2) := by decide +kernel
theorem dL_law__2236 : decode cL_law_ 2236 = .ok (.if_icmp .eq 5, 3) := by decide +kernel
theorem dL_law__2239 : decode cL_law_ 2239 = .ok (.iconst 0, 1) := by decide +kernel
theorem dL_law__2240 : decode cL_law_ 2240 = .ok (.ireturn, 1) := by decide +kernel
theorem dL_law__2241 : decode cL_law_ 2241 = .ok (.iload 5, 2) := by decide +kernel
theorem dL_law__2243 : decode cL_law_ 2243 = .ok (.ifCond .ne 15, 3) := by decide +kernel
theorem dL_law__2246 : decode cL_law_ 2246 = .ok (.aload_n 3, 1) := by decide +kernel
theorem dL_law__2247 : decode cL_law_ 2247 = .ok (.iconst 0, 1) := by decide +kernel
theorem dL_law__2248 : decode cL_law_ 2248 = .ok (.laload, 1) := by decide +kernel
theorem dL_law__2249 : decode cL_law_ 2249 = .ok (.iload 6, 2) := by decide +kernel
theorem dL_law__2251 : decode cL_law_ 2251 = .ok (.i2l, 1) := by decide +kernel
theorem dL_law__2252 : decode cL_law_ 2252 = .ok (.lcmp, 1) := by decide +kernel
theorem dL_law__2253 : decode cL_law_ 2253 = .ok (.ifCond .eq 5, 3) := by decide +kernel
theorem dL_law__2256 : decode cL_law_ 2256 = .ok (.iconst 0, 1) := by decide +kernel
theorem dL_law__2257 : decode cL_law_ 2257 = .ok (.ireturn, 1) := by decide +kernel
theorem dL_law__2258 : decode cL_law_ 2258 = .ok (.goto 692, 3) := by decide +kernel
theorem dL_law__2261 : decode cL_law_ 2261 = .ok (.aload_n 1, 1) := by decide +kernel
theorem dL_law__2262 : decode cL_law_ 2262 = .ok (.aload_n 0, 1) := by decide +kernel
theorem dL_law__2263 : decode cL_law_ 2263 = .ok (.iload 4, 2) := by decide +kernel
theorem dL_law__2265 : decode cL_law_ 2265 = .ok (.iconst 1, 1) := by decide +kernel
theorem dL_law__2266 : decode cL_law_ 2266 = .ok (.iadd, 1) := by decide +kernel
theorem dL_law__2267 : decode cL_law_ 2267 = .ok (.iaload, 1) := by decide +kernel
theorem dL_law__2268 : decode cL_law_ 2268 = .ok (.aload_n 0, 1) := by decide +kernel
theorem dL_law__2269 : decode cL_law_ 2269 = .ok (.iload 4, 2) := by decide +kernel
theorem dL_law__2271 : decode cL_law_ 2271 = .ok (.iconst 2, 1) := by decide +kernel
theorem dL_law__2272 : decode cL_law_ 2272 = .ok (.iadd, 1) := by decide +kernel
theorem dL_law__2273 : decode cL_law_ 2273 = .ok (.iaload, 1) := by decide +kernel
theorem dL_law__2274 : decode cL_law_ 2274 = .ok (.aload_n 3, 1) := by decide +kernel
theorem dL_law__2275 : decode cL_law_ 2275 = .ok (.invokestatic 255, 3) := by decide +kernel
theorem dL_law__2278 : decode cL_law_ 2278 = .ok (.istore 5, 2) := by decide +kernel
theorem dL_law__2280 : decode cL_law_ 2280 = .ok (.aload_n 2, 1) := by decide +kernel
theorem dL_law__2281 : decode cL_law_ 2281 = .ok (.aload_n 0, 1) := by decide +kernel
theorem dL_law__2282 : decode cL_law_ 2282 = .ok (.iload 4, 2) := by decide +kernel
theorem dL_law__2284 : decode cL_law_ 2284 = .ok (.iconst 1, 1) := by decide +kernel
theorem dL_law__2285 : decode cL_law_ 2285 = .ok (.iadd, 1) := by decide +kernel
theorem dL_law__2286 : decode cL_law_ 2286 = .ok (.iaload, 1) := by decide +kernel
theorem dL_law__2287 : decode cL_law_ 2287 = .ok (.aload_n 0, 1) := by decide +kernel
theorem dL_law__2288 : decode cL_law_ 2288 = .ok (.iload 4, 2) := by decide +kernel
theorem dL_law__2290 : decode cL_law_ 2290 = .ok (.iconst 2, 1) := by decide +kernel
theorem dL_law__2291 : decode cL_law_ 2291 = .ok (.iadd, 1) := by decide +kernel
theorem dL_law__2292 : decode cL_law_ 2292 = .ok (.iaload, 1) := by decide +kernel
theorem dL_law__2293 : decode cL_law_ 2293 = .ok (.invokevirtual 257, 3) := by decide +kernel
theorem dL_law__2296 : decode cL_law_ 2296 = .ok (.istore 6, 2) := by decide +kernel
theorem dL_law__2298 : decode cL_law_ 2298 = .ok (.aload_n 2, 1) := by decide +kernel
theorem dL_law__2299 : decode cL_law_ 2299 = .ok (.invokevirtual 152, 3) := by decide +kernel
theorem dL_law__2302 : decode cL_law_ 2302 = .ok (.iload 5, 2) := by decide +kernel
theorem dL_law__2304 : decode cL_law_ 2304 = .ok (.if_icmp .eq 5, 3) := by decide +kernel
theorem dL_law__2307 : decode cL_law_ 2307 = .ok (.iconst 0, 1) := by decide +kernel
theorem dL_law__2308 : decode cL_law_ 2308 = .ok (.ireturn, 1) := by decide +kernel
theorem dL_law__2309 : decode cL_law_ 2309 = .ok (.iload 5, 2) := by decide +kernel
theorem dL_law__2311 : decode cL_law_ 2311 = .ok (.ifCond .ne 15, 3) := by decide +kernel
theorem dL_law__2314 : decode cL_law_ 2314 = .ok (.aload_n 3, 1) := by decide +kernel
theorem dL_law__2315 : decode cL_law_ 2315 = .ok (.iconst 0, 1) := by decide +kernel
theorem dL_law__2316 : decode cL_law_ 2316 = .ok (.laload, 1) := by decide +kernel
theorem dL_law__2317 : decode cL_law_ 2317 = .ok (.iload 6, 2) := by decide +kernel
theorem dL_law__2319 : decode cL_law_ 2319 = .ok (.i2l, 1) := by decide +kernel
theorem dL_law__2320 : decode cL_law_ 2320 = .ok (.lcmp, 1) := by decide +kernel
theorem dL_law__2321 : decode cL_law_ 2321 = .ok (.ifCond .eq 5, 3) := by decide +kernel
theorem dL_law__2324 : decode cL_law_ 2324 = .ok (.iconst 0, 1) := by decide +kernel
theorem dL_law__2325 : decode cL_law_ 2325 = .ok (.ireturn, 1) := by decide +kernel
theorem dL_law__2326 : decode cL_law_ 2326 = .ok (.goto 624, 3) := by decide +kernel
theorem dL_law__2329 : decode cL_law_ 2329 = .ok (.aload_n 1, 1) := by decide +kernel
theorem dL_law__2330 : decode cL_law_ 2330 = .ok (.aload_n 0, 1) := by decide +kernel
theorem dL_law__2331 : decode cL_law_ 2331 = .ok (.iload 4, 2) := by decide +kernel
theorem dL_law__2333 : decode cL_law_ 2333 = .ok (.iconst 1, 1) := by decide +kernel
theorem dL_law__2334 : decode cL_law_ 2334 = .ok (.iadd, 1) := by decide +kernel
theorem dL_law__2335 : decode cL_law_ 2335 = .ok (.iaload, 1) := by decide +kernel
theorem dL_law__2336 : decode cL_law_ 2336 = .ok (.aload_n 0, 1) := by decide +kernel
theorem dL_law__2337 : decode cL_law_ 2337 = .ok (.iload 4, 2) := by decide +kernel
theorem dL_law__2339 : decode cL_law_ 2339 = .ok (.iconst 2, 1) := by decide +kernel
theorem dL_law__2340 : decode cL_law_ 2340 = .ok (.iadd, 1) := by decide +kernel
theorem dL_law__2341 : decode cL_law_ 2341 = .ok (.iaload, 1) := by decide +kernel
theorem dL_law__2342 : decode cL_law_ 2342 = .ok (.aload_n 3, 1) := by decide +kernel
theorem dL_law__2343 : decode cL_law_ 2343 = .ok (.invokestatic 258, 3) := by decide +kernel
theorem dL_law__2346 : decode cL_law_ 2346 = .ok (.istore 5, 2) := by decide +kernel
theorem dL_law__2348 : decode cL_law_ 2348 = .ok (.aload_n 2, 1) := by decide +kernel
theorem dL_law__2349 : decode cL_law_ 2349 = .ok (.aload_n 0, 1) := by decide +kernel
theorem dL_law__2350 : decode cL_law_ 2350 = .ok (.iload 4, 2) := by decide +kernel
theorem dL_law__2352 : decode cL_law_ 2352 = .ok (.iconst 1, 1) := by decide +kernel
theorem dL_law__2353 : decode cL_law_ 2353 = .ok (.iadd, 1) := by decide +kernel
theorem dL_law__2354 : decode cL_law_ 2354 = .ok (.iaload, 1) := by decide +kernel
theorem dL_law__2355 : decode cL_law_ 2355 = .ok (.aload_n 0, 1) := by decide +kernel
theorem dL_law__2356 : decode cL_law_ 2356 = .ok (.iload 4, 2) := by decide +kernel
theorem dL_law__2358 : decode cL_law_ 2358 = .ok (.iconst 2, 1) := by decide +kernel
theorem dL_law__2359 : decode cL_law_ 2359 = .ok (.iadd, 1) := by decide +kernel
theorem dL_law__2360 : decode cL_law_ 2360 = .ok (.iaload, 1) := by decide +kernel
theorem dL_law__2361 : decode cL_law_ 2361 = .ok (.invokevirtual 260, 3) := by decide +kernel
theorem dL_law__2364 : decode cL_law_ 2364 = .ok (.istore 6, 2) := by decide +kernel
theorem dL_law__2366 : decode cL_law_ 2366 = .ok (.aload_n 2, 1) := by decide +kernel
theorem dL_law__2367 : decode cL_law_ 2367 = .ok (.invokevirtual 152, 3) := by decide +kernel
theorem dL_law__2370 : decode cL_law_ 2370 = .ok (.iload 5, 2) := by decide +kernel
theorem dL_law__2372 : decode cL_law_ 2372 = .ok (.if_icmp .eq 5, 3) := by decide +kernel
theorem dL_law__2375 : decode cL_law_ 2375 = .ok (.iconst 0, 1) := by decide +kernel
theorem dL_law__2376 : decode cL_law_ 2376 = .ok (.ireturn, 1) := by decide +kernel
theorem dL_law__2377 : decode cL_law_ 2377 = .ok (.iload 5, 2) := by decide +kernel
theorem dL_law__2379 : decode cL_law_ 2379 = .ok (.ifCond .ne 15, 3) := by decide +kernel
theorem dL_law__2382 : decode cL_law_ 2382 = .ok (.aload_n 3, 1) := by decide +kernel
theorem dL_law__2383 : decode cL_law_ 2383 = .ok (.iconst 0, 1) := by decide +kernel
theorem dL_law__2384 : decode cL_law_ 2384 = .ok (.laload, 1) := by decide +kernel
theorem dL_law__2385 : decode cL_law_ 2385 = .ok (.iload 6, 2) := by decide +kernel
theorem dL_law__2387 : decode cL_law_ 2387 = .ok (.i2l, 1) := by decide +kernel
theorem dL_law__2388 : decode cL_law_ 2388 = .ok (.lcmp, 1) := by decide +kernel
theorem dL_law__2389 : decode cL_law_ 2389 = .ok (.ifCond .eq 5, 3) := by decide +kernel
theorem dL_law__2392 : decode cL_law_ 2392 = .ok (.iconst 0, 1) := by decide +kernel
theorem dL_law__2393 : decode cL_law_ 2393 = .ok (.ireturn, 1) := by decide +kernel
theorem dL_law__2394 : decode cL_law_ 2394 = .ok (.goto 556, 3) := by decide +kernel
theorem dL_law__2397 : decode cL_law_ 2397 = .ok (.aload_n 1, 1) := by decide +kernel
theorem dL_law__2398 : decode cL_law_ 2398 = .ok (.aload_n 0, 1) := by decide +kernel
theorem dL_law__2399 : decode cL_law_ 2399 = .ok (.iload 4, 2) := by decide +kernel
theorem dL_law__2401 : decode cL_law_ 2401 = .ok (.iconst 1, 1) := by decide +kernel
theorem dL_law__2402 : decode cL_law_ 2402 = .ok (.iadd, 1) := by decide +kernel
theorem dL_law__2403 : decode cL_law_ 2403 = .ok (.iaload, 1) := by decide +kernel
theorem dL_law__2404 : decode cL_law_ 2404 = .ok (.aload_n 3, 1) := by decide +kernel
theorem dL_law__2405 : decode cL_law_ 2405 = .ok (.invokestatic 261, 3) := by decide +kernel
theorem dL_law__2408 : decode cL_law_ 2408 = .ok (.istore 5, 2) := by decide +kernel
theorem dL_law__2410 : decode cL_law_ 2410 = .ok (.aload_n 2, 1) := by decide +kernel
theorem dL_law__2411 : decode cL_law_ 2411 = .ok (.aload_n 0, 1) := by decide +kernel
theorem dL_law__2412 : decode cL_law_ 2412 = .ok (.iload 4, 2) := by decide +kernel
theorem dL_law__2414 : decode cL_law_ 2414 = .ok (.iconst 1, 1) := by decide +kernel
theorem dL_law__2415 : decode cL_law_ 2415 = .ok (.iadd, 1) := by decide +kernel
theorem dL_law__2416 : decode cL_law_ 2416 = .ok (.iaload, 1) := by decide +kernel
theorem dL_law__2417 : decode cL_law_ 2417 = .ok (.invokevirtual 263, 3) := by decide +kernel
theorem dL_law__2420 : decode cL_law_ 2420 = .ok (.istore 6, 2) := by decide +kernel
theorem dL_law__2422 : decode cL_law_ 2422 = .ok (.aload_n 2, 1) := by decide +kernel
theorem dL_law__2423 : decode cL_law_ 2423 = .ok (.invokevirtual 152, 3) := by decide +kernel
theorem dL_law__2426 : decode cL_law_ 2426 = .ok (.iload 5, 2) := by decide +kernel
theorem dL_law__2428 : decode cL_law_ 2428 = .ok (.if_icmp .eq 5, 3) := by decide +kernel
theorem dL_law__2431 : decode cL_law_ 2431 = .ok (.iconst 0, 1) := by decide +kernel
theorem dL_law__2432 : decode cL_law_ 2432 = .ok (.ireturn, 1) := by decide +kernel
theorem dL_law__2433 : decode cL_law_ 2433 = .ok (.iload 5, 2) := by decide +kernel
theorem dL_law__2435 : decode cL_law_ 2435 = .ok (.ifCond .ne 15, 3) := by decide +kernel
theorem dL_law__2438 : decode cL_law_ 2438 = .ok (.aload_n 3, 1) := by decide +kernel
theorem dL_law__2439 : decode cL_law_ 2439 = .ok (.iconst 0, 1) := by decide +kernel
theorem dL_law__2440 : decode cL_law_ 2440 = .ok (.laload, 1) := by decide +kernel
theorem dL_law__2441 : decode cL_law_ 2441 = .ok (.iload 6, 2) := by decide +kernel
theorem dL_law__2443 : decode cL_law_ 2443 = .ok (.i2l, 1) := by decide +kernel
theorem dL_law__2444 : decode cL_law_ 2444 = .ok (.lcmp, 1) := by decide +kernel
theorem dL_law__2445 : decode cL_law_ 2445 = .ok (.ifCond .eq 5, 3) := by decide +kernel
theorem dL_law__2448 : decode cL_law_ 2448 = .ok (.iconst 0, 1) := by decide +kernel
theorem dL_law__2449 : decode cL_law_ 2449 = .ok (.ireturn, 1) := by decide +kernel
theorem dL_law__2450 : decode cL_law_ 2450 = .ok (.goto 500, 3) := by decide +kernel
theorem dL_law__2453 : decode cL_law_ 2453 = .ok (.aload_n 1, 1) := by decide +kernel
theorem dL_law__2454 : decode cL_law_ 2454 = .ok (.aload_n 0, 1) := by decide +kernel
theorem dL_law__2455 : decode cL_law_ 2455 = .ok (.iload 4, 2) := by decide +kernel
theorem dL_law__2457 : decode cL_law_ 2457 = .ok (.iconst 1, 1) := by decide +kernel
theorem dL_law__2458 : decode cL_law_ 2458 = .ok (.iadd, 1) := by decide +kernel
theorem dL_law__2459 : decode cL_law_ 2459 = .ok (.iaload, 1) := by decide +kernel
theorem dL_law__2460 : decode cL_law_ 2460 = .ok (.aload_n 3, 1) := by decide +kernel
theorem dL_law__2461 : decode cL_law_ 2461 = .ok (.invokestatic 264, 3) := by decide +kernel
theorem dL_law__2464 : decode cL_law_ 2464 = .ok (.istore 5, 2) := by decide +kernel
theorem dL_law__2466 : decode cL_law_ 2466 = .ok (.aload_n 2, 1) := by decide +kernel
theorem dL_law__2467 : decode cL_law_ 2467 = .ok (.aload_n 0, 1) := by decide +kernel
theorem dL_law__2468 : decode cL_law_ 2468 = .ok (.iload 4, 2) := by decide +kernel
theorem dL_law__2470 : decode cL_law_ 2470 = .ok (.iconst 1, 1) := by decide +kernel
theorem dL_law__2471 : decode cL_law_ 2471 = .ok (.iadd, 1) := by decide +kernel
theorem dL_law__2472 : decode cL_law_ 2472 = .ok (.iaload, 1) := by decide +kernel
theorem dL_law__2473 : decode cL_law_ 2473 = .ok (.invokevirtual 266, 3) := by decide +kernel
theorem dL_law__2476 : decode cL_law_ 2476 = .ok (.istore 6, 2) := by decide +kernel
theorem dL_law__2478 : decode cL_law_ 2478 = .ok (.aload_n 2, 1) := by decide +kernel
theorem dL_law__2479 : decode cL_law_ 2479 = .ok (.invokevirtual 152, 3) := by decide +kernel
theorem dL_law__2482 : decode cL_law_ 2482 = .ok (.iload 5, 2) := by decide +kernel
theorem dL_law__2484 : decode cL_law_ 2484 = .ok (.if_icmp .eq 5, 3) := by decide +kernel
theorem dL_law__2487 : decode cL_law_ 2487 = .ok (.iconst 0, 1) := by decide +kernel
theorem dL_law__2488 : decode cL_law_ 2488 = .ok (.ireturn, 1) := by decide +kernel
theorem dL_law__2489 : decode cL_law_ 2489 = .ok (.iload 5, 2) := by decide +kernel
theorem dL_law__2491 : decode cL_law_ 2491 = .ok (.ifCond .ne 15, 3) := by decide +kernel
theorem dL_law__2494 : decode cL_law_ 2494 = .ok (.aload_n 3, 1) := by decide +kernel
theorem dL_law__2495 : decode cL_law_ 2495 = .ok (.iconst 0, 1) := by decide +kernel
theorem dL_law__2496 : decode cL_law_ 2496 = .ok (.laload, 1) := by decide +kernel
theorem dL_law__2497 : decode cL_law_ 2497 = .ok (.iload 6, 2) := by decide +kernel
theorem dL_law__2499 : decode cL_law_ 2499 = .ok (.i2l, 1) := by decide +kernel
theorem dL_law__2500 : decode cL_law_ 2500 = .ok (.lcmp, 1) := by decide +kernel
theorem dL_law__2501 : decode cL_law_ 2501 = .ok (.ifCond .eq 5, 3) := by decide +kernel
theorem dL_law__2504 : decode cL_law_ 2504 = .ok (.iconst 0, 1) := by decide +kernel
theorem dL_law__2505 : decode cL_law_ 2505 = .ok (.ireturn, 1) := by decide +kernel
theorem dL_law__2506 : decode cL_law_ 2506 = .ok (.goto 444, 3) := by decide +kernel
theorem dL_law__2509 : decode cL_law_ 2509 = .ok (.aload_n 1, 1) := by decide +kernel
theorem dL_law__2510 : decode cL_law_ 2510 = .ok (.aload_n 0, 1) := by decide +kernel
theorem dL_law__2511 : decode cL_law_ 2511 = .ok (.iload 4, 2) := by decide +kernel
theorem dL_law__2513 : decode cL_law_ 2513 = .ok (.iconst 1, 1) := by decide +kernel
theorem dL_law__2514 : decode cL_law_ 2514 = .ok (.iadd, 1) := by decide +kernel
theorem dL_law__2515 : decode cL_law_ 2515 = .ok (.iaload, 1) := by decide +kernel
theorem dL_law__2516 : decode cL_law_ 2516 = .ok (.aload_n 3, 1) := by decide +kernel
theorem dL_law__2517 : decode cL_law_ 2517 = .ok (.invokestatic 267, 3) := by decide +kernel
theorem dL_law__2520 : decode cL_law_ 2520 = .ok (.istore 5, 2) := by decide +kernel
theorem dL_law__2522 : decode cL_law_ 2522 = .ok (.aload_n 2, 1) := by decide +kernel
theorem dL_law__2523 : decode cL_law_ 2523 = .ok (.aload_n 0, 1) := by decide +kernel
theorem dL_law__2524 : decode cL_law_ 2524 = .ok (.iload 4, 2) := by decide +kernel
theorem dL_law__2526 : decode cL_law_ 2526 = .ok (.iconst 1, 1) := by decide +kernel
theorem dL_law__2527 : decode cL_law_ 2527 = .ok (.iadd, 1) := by decide +kernel
theorem dL_law__2528 : decode cL_law_ 2528 = .ok (.iaload, 1) := by decide +kernel
theorem dL_law__2529 : decode cL_law_ 2529 = .ok (.invokevirtual 269, 3) := by decide +kernel
theorem dL_law__2532 : decode cL_law_ 2532 = .ok (.istore 6, 2) := by decide +kernel
theorem dL_law__2534 : decode cL_law_ 2534 = .ok (.aload_n 2, 1) := by decide +kernel
theorem dL_law__2535 : decode cL_law_ 2535 = .ok (.invokevirtual 152, 3) := by decide +kernel
theorem dL_law__2538 : decode cL_law_ 2538 = .ok (.iload 5, 2) := by decide +kernel
theorem dL_law__2540 : decode cL_law_ 2540 = .ok (.if_icmp .eq 5, 3) := by decide +kernel
theorem dL_law__2543 : decode cL_law_ 2543 = .ok (.iconst 0, 1) := by decide +kernel
theorem dL_law__2544 : decode cL_law_ 2544 = .ok (.ireturn, 1) := by decide +kernel
theorem dL_law__2545 : decode cL_law_ 2545 = .ok (.iload 5, 2) := by decide +kernel
theorem dL_law__2547 : decode cL_law_ 2547 = .ok (.ifCond .ne 15, 3) := by decide +kernel
theorem dL_law__2550 : decode cL_law_ 2550 = .ok (.aload_n 3, 1) := by decide +kernel
theorem dL_law__2551 : decode cL_law_ 2551 = .ok (.iconst 0, 1) := by decide +kernel
theorem dL_law__2552 : decode cL_law_ 2552 = .ok (.laload, 1) := by decide +kernel
theorem dL_law__2553 : decode cL_law_ 2553 = .ok (.iload 6, 2) := by decide +kernel
theorem dL_law__2555 : decode cL_law_ 2555 = .ok (.i2l, 1) := by decide +kernel
theorem dL_law__2556 : decode cL_law_ 2556 = .ok (.lcmp, 1) := by decide +kernel

