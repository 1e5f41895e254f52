theorem dL_law_2206 : decode cL_law 2206 = .ok (.aload_n 2, 1) := by decide +kernel
theorem dL_law_2207 : decode cL_law 2207 = .ok (.invokevirtual 139, 3) := by decide +kernel
theorem dL_law_2210 : decode cL_law 2210 = .ok (.iload 6, 2) := by decide +kernel
theorem dL_law_2212 : decode cL_law 2212 = .ok (.if_icmp .eq 5, 3) := by decide +kernel
theorem dL_law_2215 : decode cL_law 2215 = .ok (.iconst 0, 1) := by decide +kernel
theorem dL_law_2216 : decode cL_law 2216 = .ok (.ireturn, 1) := by decide +kernel
theorem dL_law_2217 : decode cL_law 2217 = .ok (.iload 6, 2) := by decide +kernel
theorem dL_law_2219 : decode cL_law 2219 = .ok (.ifCond .ne 15, 3) := by decide +kernel
theorem dL_law_2222 : decode cL_law 2222 = .ok (.aload_n 3, 1) := by decide +kernel
theorem dL_law_2223 : decode cL_law 2223 = .ok (.iconst 0, 1) := by decide +kernel
theorem dL_law_2224 : decode cL_law 2224 = .ok (.laload, 1) := by decide +kernel
theorem dL_law_2225 : decode cL_law 2225 = .ok (.iload 7, 2) := by decide +kernel
theorem dL_law_2227 : decode cL_law 2227 = .ok (.i2l, 1) := by decide +kernel
theorem dL_law_2228 : decode cL_law 2228 = .ok (.lcmp, 1) := by decide +kernel
theorem dL_law_2229 : decode cL_law 2229 = .ok (.ifCond .eq 5, 3) := by decide +kernel
theorem dL_law_2232 : decode cL_law 2232 = .ok (.iconst 0, 1) := by decide +kernel
theorem dL_law_2233 : decode cL_law 2233 = .ok (.ireturn, 1) := by decide +kernel
theorem dL_law_2234 : decode cL_law 2234 = .ok (.goto 326, 3) := by decide +kernel
theorem dL_law_2237 : decode cL_law 2237 = .ok (.aload_n 1, 1) := by decide +kernel
theorem dL_law_2238 : decode cL_law 2238 = .ok (.aload_n 3, 1) := by decide +kernel
theorem dL_law_2239 : decode cL_law 2239 = .ok (.invokestatic 269, 3) := by decide +kernel
theorem dL_law_2242 : decode cL_law 2242 = .ok (.istore 6, 2) := by decide +kernel
theorem dL_law_2244 : decode cL_law 2244 = .ok (.aload_n 2, 1) := by decide +kernel
theorem dL_law_2245 : decode cL_law 2245 = .ok (.invokevirtual 272, 3) := by decide +kernel
theorem dL_law_2248 : decode cL_law 2248 = .ok (.istore 7, 2) := by decide +kernel
theorem dL_law_2250 : decode cL_law 2250 = .ok (.aload_n 2, 1) := by decide +kernel
theorem dL_law_2251 : decode cL_law 2251 = .ok (.invokevirtual 139, 3) := by decide +kernel
theorem dL_law_2254 : decode cL_law 2254 = .ok (.iload 6, 2) := by decide +kernel
theorem dL_law_2256 : decode cL_law 2256 = .ok (.if_icmp .eq 5, 3) := by decide +kernel
theorem dL_law_2259 : decode cL_law 2259 = .ok (.iconst 0, 1) := by decide +kernel
theorem dL_law_2260 : decode cL_law 2260 = .ok (.ireturn, 1) := by decide +kernel
theorem dL_law_2261 : decode cL_law 2261 = .ok (.iload 6, 2) := by decide +kernel
theorem dL_law_2263 : decode cL_law 2263 = .ok (.ifCond .ne 15, 3) := by decide +kernel
theorem dL_law_2266 : decode cL_law 2266 = .ok (.aload_n 3, 1) := by decide +kernel
theorem dL_law_2267 : decode cL_law 2267 = .ok (.iconst 0, 1) := by decide +kernel
theorem dL_law_2268 : decode cL_law 2268 = .ok (.laload, 1) := by decide +kernel
theorem dL_law_2269 : decode cL_law 2269 = .ok (.iload 7, 2) := by decide +kernel
theorem dL_law_2271 : decode cL_law 2271 = .ok (.i2l, 1) := by decide +kernel
theorem dL_law_2272 : decode cL_law 2272 = .ok (.lcmp, 1) := by decide +kernel
theorem dL_law_2273 : decode cL_law 2273 = .ok (.ifCond .eq 5, 3) := by decide +kernel
theorem dL_law_2276 : decode cL_law 2276 = .ok (.iconst 0, 1) := by decide +kernel
theorem dL_law_2277 : decode cL_law 2277 = .ok (.ireturn, 1) := by decide +kernel
theorem dL_law_2278 : decode cL_law 2278 = .ok (.goto 282, 3) := by decide +kernel
theorem dL_law_2281 : decode cL_law 2281 = .ok (.aload_n 1, 1) := by decide +kernel
theorem dL_law_2282 : decode cL_law 2282 = .ok (.aload_n 3, 1) := by decide +kernel
theorem dL_law_2283 : decode cL_law 2283 = .ok (.invokestatic 273, 3) := by decide +kernel
theorem dL_law_2286 : decode cL_law 2286 = .ok (.istore 6, 2) := by decide +kernel
theorem dL_law_2288 : decode cL_law 2288 = .ok (.aload_n 2, 1) := by decide +kernel
theorem dL_law_2289 : decode cL_law 2289 = .ok (.invokevirtual 275, 3) := by decide +kernel
theorem dL_law_2292 : decode cL_law 2292 = .ok (.istore 7, 2) := by decide +kernel
theorem dL_law_2294 : decode cL_law 2294 = .ok (.aload_n 2, 1) := by decide +kernel
theorem dL_law_2295 : decode cL_law 2295 = .ok (.invokevirtual 139, 3) := by decide +kernel
theorem dL_law_2298 : decode cL_law 2298 = .ok (.iload 6, 2) := by decide +kernel
theorem dL_law_2300 : decode cL_law 2300 = .ok (.if_icmp .eq 5, 3) := by decide +kernel
theorem dL_law_2303 : decode cL_law 2303 = .ok (.iconst 0, 1) := by decide +kernel
theorem dL_law_2304 : decode cL_law 2304 = .ok (.ireturn, 1) := by decide +kernel
theorem dL_law_2305 : decode cL_law 2305 = .ok (.iload 6, 2) := by decide +kernel
theorem dL_law_2307 : decode cL_law 2307 = .ok (.ifCond .ne 15, 3) := by decide +kernel
theorem dL_law_2310 : decode cL_law 2310 = .ok (.aload_n 3, 1) := by decide +kernel
theorem dL_law_2311 : decode cL_law 2311 = .ok (.iconst 0, 1) := by decide +kernel
theorem dL_law_2312 : decode cL_law 2312 = .ok (.laload, 1) := by decide +kernel
theorem dL_law_2313 : decode cL_law 2313 = .ok (.iload 7, 2) := by decide +kernel
theorem dL_law_2315 : decode cL_law 2315 = .ok (.i2l, 1) := by decide +kernel
theorem dL_law_2316 : decode cL_law 2316 = .ok (.lcmp, 1) := by decide +kernel
theorem dL_law_2317 : decode cL_law 2317 = .ok (.ifCond .eq 5, 3) := by decide +kernel
theorem dL_law_2320 : decode cL_law 2320 = .ok (.iconst 0, 1) := by decide +kernel
theorem dL_law_2321 : decode cL_law 2321 = .ok (.ireturn, 1) := by decide +kernel
theorem dL_law_2322 : decode cL_law 2322 = .ok (.goto 238, 3) := by decide +kernel
theorem dL_law_2325 : decode cL_law 2325 = .ok (.aload_n 1, 1) := by decide +kernel
theorem dL_law_2326 : decode cL_law 2326 = .ok (.aload_n 3, 1) := by decide +kernel
theorem dL_law_2327 : decode cL_law 2327 = .ok (.invokestatic 276, 3) := by decide +kernel
theorem dL_law_2330 : decode cL_law 2330 = .ok (.istore 6, 2) := by decide +kernel
theorem dL_law_2332 : decode cL_law 2332 = .ok (.aload_n 2, 1) := by decide +kernel
theorem dL_law_2333 : decode cL_law 2333 = .ok (.invokevirtual 278, 3) := by decide +kernel
theorem dL_law_2336 : decode cL_law 2336 = .ok (.istore 7, 2) := by decide +kernel
theorem dL_law_2338 : decode cL_law 2338 = .ok (.aload_n 2, 1) := by decide +kernel
theorem dL_law_2339 : decode cL_law 2339 = .ok (.invokevirtual 139, 3) := by decide +kernel
theorem dL_law_2342 : decode cL_law 2342 = .ok (.iload 6, 2) := by decide +kernel
theorem dL_law_2344 : decode cL_law 2344 = .ok (.if_icmp .eq 5, 3) := by decide +kernel
theorem dL_law_2347 : decode cL_law 2347 = .ok (.iconst 0, 1) := by decide +kernel
theorem dL_law_2348 : decode cL_law 2348 = .ok (.ireturn, 1) := by decide +kernel
theorem dL_law_2349 : decode cL_law 2349 = .ok (.iload 6, 2) := by decide +kernel
theorem dL_law_2351 : decode cL_law 2351 = .ok (.ifCond .ne 15, 3) := by decide +kernel
theorem dL_law_2354 : decode cL_law 2354 = .ok (.aload_n 3, 1) := by decide +kernel
theorem dL_law_2355 : decode cL_law 2355 = .ok (.iconst 0, 1) := by decide +kernel
theorem dL_law_2356 : decode cL_law 2356 = .ok (.laload, 1) := by decide +kernel
theorem dL_law_2357 : decode cL_law 2357 = .ok (.iload 7, 2) := by decide +kernel
theorem dL_law_2359 : decode cL_law 2359 = .ok (.i2l, 1) := by decide +kernel
theorem dL_law_2360 : decode cL_law 2360 = .ok (.lcmp, 1) := by decide +kernel
theorem dL_law_2361 : decode cL_law 2361 = .ok (.ifCond .eq 5, 3) := by decide +kernel
theorem dL_law_2364 : decode cL_law 2364 = .ok (.iconst 0, 1) := by decide +kernel
theorem dL_law_2365 : decode cL_law 2365 = .ok (.ireturn, 1) := by decide +kernel
theorem dL_law_2366 : decode cL_law 2366 = .ok (.goto 194, 3) := by decide +kernel
theorem dL_law_2369 : decode cL_law 2369 = .ok (.aload_n 1, 1) := by decide +kernel
theorem dL_law_2370 : decode cL_law 2370 = .ok (.aload_n 0, 1) := by decide +kernel
theorem dL_law_2371 : decode cL_law 2371 = .ok (.iload 5, 2) := by decide +kernel
theorem dL_law_2373 : decode cL_law 2373 = .ok (.iconst 1, 1) := by decide +kernel
theorem dL_law_2374 : decode cL_law 2374 = .ok (.iadd, 1) := by decide +kernel
theorem dL_law_2375 : decode cL_law 2375 = .ok (.iaload, 1) := by decide +kernel
theorem dL_law_2376 : decode cL_law 2376 = .ok (.aload_n 3, 1) := by decide +kernel
theorem dL_law_2377 : decode cL_law 2377 = .ok (.invokestatic 279, 3) := by decide +kernel
theorem dL_law_2380 : decode cL_law 2380 = .ok (.istore 6, 2) := by decide +kernel
theorem dL_law_2382 : decode cL_law 2382 = .ok (.aload_n 2, 1) := by decide +kernel
theorem dL_law_2383 : decode cL_law 2383 = .ok (.aload_n 0, 1) := by decide +kernel
theorem dL_law_2384 : decode cL_law 2384 = .ok (.iload 5, 2) := by decide +kernel
theorem dL_law_2386 : decode cL_law 2386 = .ok (.iconst 1, 1) := by decide +kernel
theorem dL_law_2387 : decode cL_law 2387 = .ok (.iadd, 1) := by decide +kernel
theorem dL_law_2388 : decode cL_law 2388 = .ok (.iaload, 1) := by decide +kernel
theorem dL_law_2389 : decode cL_law 2389 = .ok (.invokevirtual 281, 3) := by decide +kernel
theorem dL_law_2392 : decode cL_law 2392 = .ok (.istore 7, 2) := by decide +kernel
theorem dL_law_2394 : decode cL_law 2394 = .ok (.aload_n 2, 1) := by decide +kernel
theorem dL_law_2395 : decode cL_law 2395 = .ok (.invokevirtual 139, 3) := by decide +kernel
theorem dL_law_2398 : decode cL_law 2398 = .ok (.iload 6, 2) := by decide +kernel
theorem dL_law_2400 : decode cL_law 2400 = .ok (.if_icmp .eq 5, 3) := by decide +kernel
theorem dL_law_2403 : decode cL_law 2403 = .ok (.iconst 0, 1) := by decide +kernel
theorem dL_law_2404 : decode cL_law 2404 = .ok (.ireturn, 1) := by decide +kernel
theorem dL_law_2405 : decode cL_law 2405 = .ok (.iload 6, 2) := by decide +kernel
theorem dL_law_2407 : decode cL_law 2407 = .ok (.ifCond .ne 15, 3) := by decide +kernel
theorem dL_law_2410 : decode cL_law 2410 = .ok (.aload_n 3, 1) := by decide +kernel
theorem dL_law_2411 : decode cL_law 2411 = .ok (.iconst 0, 1) := by decide +kernel
theorem dL_law_2412 : decode cL_law 2412 = .ok (.laload, 1) := by decide +kernel
theorem dL_law_2413 : decode cL_law 2413 = .ok (.iload 7, 2) := by decide +kernel
theorem dL_law_2415 : decode cL_law 2415 = .ok (.i2l, 1) := by decide +kernel
theorem dL_law_2416 : decode cL_law 2416 = .ok (.lcmp, 1) := by decide +kernel
theorem dL_law_2417 : decode cL_law 2417 = .ok (.ifCond .eq 5, 3) := by decide +kernel
theorem dL_law_2420 : decode cL_law 2420 = .ok (.iconst 0, 1) := by decide +kernel
theorem dL_law_2421 : decode cL_law 2421 = .ok (.ireturn, 1) := by decide +kernel
theorem dL_law_2422 : decode cL_law 2422 = .ok (.goto 138, 3) := by decide +kernel
theorem dL_law_2425 : decode cL_law 2425 = .ok (.aload_n 1, 1) := by decide +kernel
theorem dL_law_2426 : decode cL_law 2426 = .ok (.aload_n 0, 1) := by decide +kernel
theorem dL_law_2427 : decode cL_law 2427 = .ok (.iload 5, 2) := by decide +kernel
theorem dL_law_2429 : decode cL_law 2429 = .ok (.iconst 1, 1) := by decide +kernel
theorem dL_law_2430 : decode cL_law 2430 = .ok (.iadd, 1) := by decide +kernel
theorem dL_law_2431 : decode cL_law 2431 = .ok (.iaload, 1) := by decide +kernel
theorem dL_law_2432 : decode cL_law 2432 = .ok (.aload_n 3, 1) := by decide +kernel
theorem dL_law_2433 : decode cL_law 2433 = .ok (.invokestatic 282, 3) := by decide +kernel
theorem dL_law_2436 : decode cL_law 2436 = .ok (.istore 6, 2) := by decide +kernel
theorem dL_law_2438 : decode cL_law 2438 = .ok (.aload_n 2, 1) := by decide +kernel
theorem dL_law_2439 : decode cL_law 2439 = .ok (.aload_n 0, 1) := by decide +kernel
theorem dL_law_2440 : decode cL_law 2440 = .ok (.iload 5, 2) := by decide +kernel
theorem dL_law_2442 : decode cL_law 2442 = .ok (.iconst 1, 1) := by decide +kernel
theorem dL_law_2443 : decode cL_law 2443 = .ok (.iadd, 1) := by decide +kernel
theorem dL_law_2444 : decode cL_law 2444 = .ok (.iaload, 1) := by decide +kernel
theorem dL_law_2445 : decode cL_law 2445 = .ok (.invokevirtual 284, 3) := by decide +kernel
theorem dL_law_2448 : decode cL_law 2448 = .ok (.istore 7, 2) := by decide +kernel
theorem dL_law_2450 : decode cL_law 2450 = .ok (.aload_n 2, 1) := by decide +kernel
theorem dL_law_2451 : decode cL_law 2451 = .ok (.invokevirtual 139, 3) := by decide +kernel
theorem dL_law_2454 : decode cL_law 2454 = .ok (.iload 6, 2) := by decide +kernel
theorem dL_law_2456 : decode cL_law 2456 = .ok (.if_icmp .eq 5, 3) := by decide +kernel
theorem dL_law_2459 : decode cL_law 2459 = .ok (.iconst 0, 1) := by decide +kernel
theorem dL_law_2460 : decode cL_law 2460 = .ok (.ireturn, 1) := by decide +kernel
theorem dL_law_2461 : decode cL_law 2461 = .ok (.iload 6, 2) := by decide +kernel
theorem dL_law_2463 : decode cL_law 2463 = .ok (.ifCond .ne 15, 3) := by decide +kernel
theorem dL_law_2466 : decode cL_law 2466 = .ok (.aload_n 3, 1) := by decide +kernel
theorem dL_law_2467 : decode cL_law 2467 = .ok (.iconst 0, 1) := by decide +kernel
theorem dL_law_2468 : decode cL_law 2468 = .ok (.laload, 1) := by decide +kernel
theorem dL_law_2469 : decode cL_law 2469 = .ok (.iload 7, 2) := by decide +kernel
theorem dL_law_2471 : decode cL_law 2471 = .ok (.i2l, 1) := by decide +kernel
theorem dL_law_2472 : decode cL_law 2472 = .ok (.lcmp, 1) := by decide +kernel
theorem dL_law_2473 : decode cL_law 2473 = .ok (.ifCond .eq 5, 3) := by decide +kernel
theorem dL_law_2476 : decode cL_law 2476 = .ok (.iconst 0, 1) := by decide +kernel
theorem dL_law_2477 : decode cL_law 2477 = .ok (.ireturn, 1) := by decide +kernel
theorem dL_law_2478 : decode cL_law 2478 = .ok (.goto 82, 3) := by decide +kernel
theorem dL_law_2481 : decode cL_law 2481 = .ok (.aload_n 1, 1) := by decide +kernel
theorem dL_law_2482 : decode cL_law 2482 = .ok (.aload_n 3, 1) := by decide +kernel
theorem dL_law_2483 : decode cL_law 2483 = .ok (.invokestatic 285, 3) := by decide +kernel
theorem dL_law_2486 : decode cL_law 2486 = .ok (.istore 6, 2) := by decide +kernel
theorem dL_law_2488 : decode cL_law 2488 = .ok (.aload_n 2, 1) := by decide +kernel
theorem dL_law_2489 : decode cL_law 2489 = .ok (.invokevirtual 287, 3) := by decide +kernel
theorem dL_law_2492 : decode cL_law 2492 = .ok (.istore 7, 2) := by decide +kernel
theorem dL_law_2494 : decode cL_law 2494 = .ok (.aload_n 2, 1) := by decide +kernel
theorem dL_law_2495 : decode cL_law 2495 = .ok (.invokevirtual 139, 3) := by decide +kernel
theorem dL_law_2498 : decode cL_law 2498 = .ok (.iload 6, 2) := by decide +kernel
theorem dL_law_2500 : decode cL_law 2500 = .ok (.if_icmp .eq 5, 3) := by decide +kernel
theorem dL_law_2503 : decode cL_law 2503 = .ok (.iconst 0, 1) := by decide +kernel
theorem dL_law_2504 : decode cL_law 2504 = .ok (.ireturn, 1) := by decide +kernel
theorem dL_law_2505 : decode cL_law 2505 = .ok (.iload 6, 2) := by decide +kernel
theorem dL_law_2507 : decode cL_law 2507 = .ok (.ifCond .ne 15, 3) := by decide +kernel
theorem dL_law_2510 : decode cL_law 2510 = .ok (.aload_n 3, 1) := by decide +kernel
theorem dL_law_2511 : decode cL_law 2511 = .ok (.iconst 0, 1) := by decide +kernel
theorem dL_law_2512 : decode cL_law 2512 = .ok (.laload, 1) := by decide +kernel
theorem dL_law_2513 : decode cL_law 2513 = .ok (.iload 7, 2) := by decide +kernel
theorem dL_law_2515 : decode cL_law 2515 = .ok (.i2l, 1) := by decide +kernel
theorem dL_law_2516 : decode cL_law 2516 = .ok (.lcmp, 1) := by decide +kernel
theorem dL_law_2517 : decode cL_law 2517 = .ok (.ifCond .eq 5, 3) := by decide +kernel
theorem dL_law_2520 : decode cL_law 2520 = .ok (.iconst 0, 1) := by decide +kernel
theorem dL_law_2521 : decode cL_law 2521 = .ok (.ireturn, 1) := by decide +kernel
theorem dL_law_2522 : decode cL_law 2522 = .ok (.goto 38, 3) := by decide +kernel
theorem dL_law_2525 : decode cL_law 2525 = .ok (.aload_n 1, 1) := by decide +kernel
theorem dL_law_2526 : decode cL_law 2526 = .ok (.invokevirtual 288, 3) := by decide +kernel
theorem dL_law_2529 : decode cL_law 2529 = .ok (.aload_n 2, 1) := by decide +kernel
theorem dL_law_2530 : decode cL_law 2530 = .ok (.invokevirtual 291, 3) := by decide +kernel
theorem dL_law_2533 : decode cL_law 2533 = .ok (.goto 27, 3) := by decide +kernel
theorem dL_law_2536 : decode cL_law 2536 = .ok (.aload_n 1, 1) := by decide +kernel
theorem dL_law_2537 : decode cL_law 2537 = .ok (.invokestatic 292, 3) := by decide +kernel
theorem dL_law_2540 : decode cL_law 2540 = .ok (.istore 6, 2) := by decide +kernel
theorem dL_law_2542 : decode cL_law 2542 = .ok (.aload_n 2, 1) := by decide +kernel
theorem dL_law_2543 : decode cL_law 2543 = .ok (.invokevirtual 295, 3) := by decide +kernel
theorem dL_law_2546 : decode cL_law 2546 = .ok (.aload_n 2, 1) := by decide +kernel
theorem dL_law_2547 : decode cL_law 2547 = .ok (.invokevirtual 139, 3) := by decide +kernel
theorem dL_law_2550 : decode cL_law 2550 = .ok (.iload 6, 2) := by decide +kernel
theorem dL_law_2552 : decode cL_law 2552 = .ok (.if_icmp .eq 5, 3) := by decide +kernel
theorem dL_law_2555 : decode cL_law 2555 = .ok (.iconst 0, 1) := by decide +kernel
theorem dL_law_2556 : decode cL_law 2556 = .ok (.ireturn, 1) := by decide +kernel
theorem dL_law_2557 : decode cL_law 2557 = .ok (.goto 3, 3) := by decide +kernel
theorem dL_law_2560 : decode cL_law 2560 = .ok (.iinc 5 5, 3) := by decide +kernel
theorem dL_law_2563 : decode cL_law 2563 = .ok (.goto (-2535), 3) := by decide +kernel
theorem dL_law_2566 : decode cL_law 2566 = .ok (.iconst 1, 1) := by decide +kernel
theorem dL_law_2567 : decode cL_law 2567 = .ok (.ireturn, 1) := by decide +kernel
