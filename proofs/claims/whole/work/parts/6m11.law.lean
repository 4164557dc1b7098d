theorem dL_law_2322 : decode cL_law 2322 = .ok (.invokevirtual 148, 3) := by decide +kernel
theorem dL_law_2325 : decode cL_law 2325 = .ok (.iload 6, 2) := by decide +kernel
theorem dL_law_2327 : decode cL_law 2327 = .ok (.if_icmp .eq 5, 3) := by decide +kernel
theorem dL_law_2330 : decode cL_law 2330 = .ok (.iconst 0, 1) := by decide +kernel
theorem dL_law_2331 : decode cL_law 2331 = .ok (.ireturn, 1) := by decide +kernel
theorem dL_law_2332 : decode cL_law 2332 = .ok (.iload 6, 2) := by decide +kernel
theorem dL_law_2334 : decode cL_law 2334 = .ok (.ifCond .ne 15, 3) := by decide +kernel
theorem dL_law_2337 : decode cL_law 2337 = .ok (.aload_n 3, 1) := by decide +kernel
theorem dL_law_2338 : decode cL_law 2338 = .ok (.iconst 0, 1) := by decide +kernel
theorem dL_law_2339 : decode cL_law 2339 = .ok (.laload, 1) := by decide +kernel
theorem dL_law_2340 : decode cL_law 2340 = .ok (.iload 7, 2) := by decide +kernel
theorem dL_law_2342 : decode cL_law 2342 = .ok (.i2l, 1) := by decide +kernel
theorem dL_law_2343 : decode cL_law 2343 = .ok (.lcmp, 1) := by decide +kernel
theorem dL_law_2344 : decode cL_law 2344 = .ok (.ifCond .eq 5, 3) := by decide +kernel
theorem dL_law_2347 : decode cL_law 2347 = .ok (.iconst 0, 1) := by decide +kernel
theorem dL_law_2348 : decode cL_law 2348 = .ok (.ireturn, 1) := by decide +kernel
theorem dL_law_2349 : decode cL_law 2349 = .ok (.goto 148, 3) := by decide +kernel
theorem dL_law_2352 : decode cL_law 2352 = .ok (.aload_n 1, 1) := by decide +kernel
theorem dL_law_2353 : decode cL_law 2353 = .ok (.aload_n 3, 1) := by decide +kernel
theorem dL_law_2354 : decode cL_law 2354 = .ok (.invokestatic 297, 3) := by decide +kernel
theorem dL_law_2357 : decode cL_law 2357 = .ok (.istore 6, 2) := by decide +kernel
theorem dL_law_2359 : decode cL_law 2359 = .ok (.aload_n 2, 1) := by decide +kernel
theorem dL_law_2360 : decode cL_law 2360 = .ok (.invokevirtual 299, 3) := by decide +kernel
theorem dL_law_2363 : decode cL_law 2363 = .ok (.istore 7, 2) := by decide +kernel
theorem dL_law_2365 : decode cL_law 2365 = .ok (.aload_n 2, 1) := by decide +kernel
theorem dL_law_2366 : decode cL_law 2366 = .ok (.invokevirtual 148, 3) := by decide +kernel
theorem dL_law_2369 : decode cL_law 2369 = .ok (.iload 6, 2) := by decide +kernel
theorem dL_law_2371 : decode cL_law 2371 = .ok (.if_icmp .eq 5, 3) := by decide +kernel
theorem dL_law_2374 : decode cL_law 2374 = .ok (.iconst 0, 1) := by decide +kernel
theorem dL_law_2375 : decode cL_law 2375 = .ok (.ireturn, 1) := by decide +kernel
theorem dL_law_2376 : decode cL_law 2376 = .ok (.iload 6, 2) := by decide +kernel
theorem dL_law_2378 : decode cL_law 2378 = .ok (.ifCond .ne 15, 3) := by decide +kernel
theorem dL_law_2381 : decode cL_law 2381 = .ok (.aload_n 3, 1) := by decide +kernel
theorem dL_law_2382 : decode cL_law 2382 = .ok (.iconst 0, 1) := by decide +kernel
theorem dL_law_2383 : decode cL_law 2383 = .ok (.laload, 1) := by decide +kernel
theorem dL_law_2384 : decode cL_law 2384 = .ok (.iload 7, 2) := by decide +kernel
theorem dL_law_2386 : decode cL_law 2386 = .ok (.i2l, 1) := by decide +kernel
theorem dL_law_2387 : decode cL_law 2387 = .ok (.lcmp, 1) := by decide +kernel
theorem dL_law_2388 : decode cL_law 2388 = .ok (.ifCond .eq 5, 3) := by decide +kernel
theorem dL_law_2391 : decode cL_law 2391 = .ok (.iconst 0, 1) := by decide +kernel
theorem dL_law_2392 : decode cL_law 2392 = .ok (.ireturn, 1) := by decide +kernel
theorem dL_law_2393 : decode cL_law 2393 = .ok (.goto 104, 3) := by decide +kernel
theorem dL_law_2396 : decode cL_law 2396 = .ok (.aload_n 1, 1) := by decide +kernel
theorem dL_law_2397 : decode cL_law 2397 = .ok (.aload_n 3, 1) := by decide +kernel
theorem dL_law_2398 : decode cL_law 2398 = .ok (.invokestatic 300, 3) := by decide +kernel
theorem dL_law_2401 : decode cL_law 2401 = .ok (.istore 6, 2) := by decide +kernel
theorem dL_law_2403 : decode cL_law 2403 = .ok (.aload_n 2, 1) := by decide +kernel
theorem dL_law_2404 : decode cL_law 2404 = .ok (.invokevirtual 302, 3) := by decide +kernel
theorem dL_law_2407 : decode cL_law 2407 = .ok (.istore 7, 2) := by decide +kernel
theorem dL_law_2409 : decode cL_law 2409 = .ok (.aload_n 2, 1) := by decide +kernel
theorem dL_law_2410 : decode cL_law 2410 = .ok (.invokevirtual 148, 3) := by decide +kernel
theorem dL_law_2413 : decode cL_law 2413 = .ok (.iload 6, 2) := by decide +kernel
theorem dL_law_2415 : decode cL_law 2415 = .ok (.if_icmp .eq 5, 3) := by decide +kernel
theorem dL_law_2418 : decode cL_law 2418 = .ok (.iconst 0, 1) := by decide +kernel
theorem dL_law_2419 : decode cL_law 2419 = .ok (.ireturn, 1) := by decide +kernel
theorem dL_law_2420 : decode cL_law 2420 = .ok (.iload 6, 2) := by decide +kernel
theorem dL_law_2422 : decode cL_law 2422 = .ok (.ifCond .ne 15, 3) := by decide +kernel
theorem dL_law_2425 : decode cL_law 2425 = .ok (.aload_n 3, 1) := by decide +kernel
theorem dL_law_2426 : decode cL_law 2426 = .ok (.iconst 0, 1) := by decide +kernel
theorem dL_law_2427 : decode cL_law 2427 = .ok (.laload, 1) := by decide +kernel
theorem dL_law_2428 : decode cL_law 2428 = .ok (.iload 7, 2) := by decide +kernel
theorem dL_law_2430 : decode cL_law 2430 = .ok (.i2l, 1) := by decide +kernel
theorem dL_law_2431 : decode cL_law 2431 = .ok (.lcmp, 1) := by decide +kernel
theorem dL_law_2432 : decode cL_law 2432 = .ok (.ifCond .eq 5, 3) := by decide +kernel
theorem dL_law_2435 : decode cL_law 2435 = .ok (.iconst 0, 1) := by decide +kernel
theorem dL_law_2436 : decode cL_law 2436 = .ok (.ireturn, 1) := by decide +kernel
theorem dL_law_2437 : decode cL_law 2437 = .ok (.goto 60, 3) := by decide +kernel
theorem dL_law_2440 : decode cL_law 2440 = .ok (.aload_n 1, 1) := by decide +kernel
theorem dL_law_2441 : decode cL_law 2441 = .ok (.invokevirtual 303, 3) := by decide +kernel
theorem dL_law_2444 : decode cL_law 2444 = .ok (.aload_n 2, 1) := by decide +kernel
theorem dL_law_2445 : decode cL_law 2445 = .ok (.invokevirtual 306, 3) := by decide +kernel
theorem dL_law_2448 : decode cL_law 2448 = .ok (.if_icmp .eq 49, 3) := by decide +kernel
theorem dL_law_2451 : decode cL_law 2451 = .ok (.iconst 0, 1) := by decide +kernel
theorem dL_law_2452 : decode cL_law 2452 = .ok (.ireturn, 1) := by decide +kernel
theorem dL_law_2453 : decode cL_law 2453 = .ok (.aload_n 1, 1) := by decide +kernel
theorem dL_law_2454 : decode cL_law 2454 = .ok (.aload_n 3, 1) := by decide +kernel
theorem dL_law_2455 : decode cL_law 2455 = .ok (.invokestatic 307, 3) := by decide +kernel
theorem dL_law_2458 : decode cL_law 2458 = .ok (.istore 6, 2) := by decide +kernel
theorem dL_law_2460 : decode cL_law 2460 = .ok (.aload_n 2, 1) := by decide +kernel
theorem dL_law_2461 : decode cL_law 2461 = .ok (.invokevirtual 309, 3) := by decide +kernel
theorem dL_law_2464 : decode cL_law 2464 = .ok (.istore 7, 2) := by decide +kernel
theorem dL_law_2466 : decode cL_law 2466 = .ok (.aload_n 2, 1) := by decide +kernel
theorem dL_law_2467 : decode cL_law 2467 = .ok (.invokevirtual 148, 3) := by decide +kernel
theorem dL_law_2470 : decode cL_law 2470 = .ok (.iload 6, 2) := by decide +kernel
theorem dL_law_2472 : decode cL_law 2472 = .ok (.if_icmp .eq 5, 3) := by decide +kernel
theorem dL_law_2475 : decode cL_law 2475 = .ok (.iconst 0, 1) := by decide +kernel
theorem dL_law_2476 : decode cL_law 2476 = .ok (.ireturn, 1) := by decide +kernel
theorem dL_law_2477 : decode cL_law 2477 = .ok (.iload 6, 2) := by decide +kernel
theorem dL_law_2479 : decode cL_law 2479 = .ok (.ifCond .ne 15, 3) := by decide +kernel
theorem dL_law_2482 : decode cL_law 2482 = .ok (.aload_n 3, 1) := by decide +kernel
theorem dL_law_2483 : decode cL_law 2483 = .ok (.iconst 0, 1) := by decide +kernel
theorem dL_law_2484 : decode cL_law 2484 = .ok (.laload, 1) := by decide +kernel
theorem dL_law_2485 : decode cL_law 2485 = .ok (.iload 7, 2) := by decide +kernel
theorem dL_law_2487 : decode cL_law 2487 = .ok (.i2l, 1) := by decide +kernel
theorem dL_law_2488 : decode cL_law 2488 = .ok (.lcmp, 1) := by decide +kernel
theorem dL_law_2489 : decode cL_law 2489 = .ok (.ifCond .eq 5, 3) := by decide +kernel
theorem dL_law_2492 : decode cL_law 2492 = .ok (.iconst 0, 1) := by decide +kernel
theorem dL_law_2493 : decode cL_law 2493 = .ok (.ireturn, 1) := by decide +kernel
theorem dL_law_2494 : decode cL_law 2494 = .ok (.goto 3, 3) := by decide +kernel
theorem dL_law_2497 : decode cL_law 2497 = .ok (.iinc 5 5, 3) := by decide +kernel
theorem dL_law_2500 : decode cL_law 2500 = .ok (.goto (-2472), 3) := by decide +kernel
theorem dL_law_2503 : decode cL_law 2503 = .ok (.iconst 1, 1) := by decide +kernel
theorem dL_law_2504 : decode cL_law 2504 = .ok (.ireturn, 1) := by decide +kernel
