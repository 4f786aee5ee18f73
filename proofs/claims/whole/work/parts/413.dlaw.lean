theorem dL_law__2324 : decode cL_law_ 2324 = .ok (.if_icmp .eq 5, 3) := by decide +kernel
theorem dL_law__2327 : decode cL_law_ 2327 = .ok (.iconst 0, 1) := by decide +kernel
theorem dL_law__2328 : decode cL_law_ 2328 = .ok (.ireturn, 1) := by decide +kernel
theorem dL_law__2329 : decode cL_law_ 2329 = .ok (.iload 5, 2) := by decide +kernel
theorem dL_law__2331 : decode cL_law_ 2331 = .ok (.ifCond .ne 15, 3) := by decide +kernel
theorem dL_law__2334 : decode cL_law_ 2334 = .ok (.aload_n 3, 1) := by decide +kernel
theorem dL_law__2335 : decode cL_law_ 2335 = .ok (.iconst 0, 1) := by decide +kernel
theorem dL_law__2336 : decode cL_law_ 2336 = .ok (.laload, 1) := by decide +kernel
theorem dL_law__2337 : decode cL_law_ 2337 = .ok (.iload 6, 2) := by decide +kernel
theorem dL_law__2339 : decode cL_law_ 2339 = .ok (.i2l, 1) := by decide +kernel
theorem dL_law__2340 : decode cL_law_ 2340 = .ok (.lcmp, 1) := by decide +kernel
theorem dL_law__2341 : decode cL_law_ 2341 = .ok (.ifCond .eq 5, 3) := by decide +kernel
theorem dL_law__2344 : decode cL_law_ 2344 = .ok (.iconst 0, 1) := by decide +kernel
theorem dL_law__2345 : decode cL_law_ 2345 = .ok (.ireturn, 1) := by decide +kernel
theorem dL_law__2346 : decode cL_law_ 2346 = .ok (.goto 673, 3) := by decide +kernel
theorem dL_law__2349 : decode cL_law_ 2349 = .ok (.aload_n 1, 1) := by decide +kernel
theorem dL_law__2350 : decode cL_law_ 2350 = .ok (.aload_n 0, 1) := by decide +kernel
theorem dL_law__2351 : decode cL_law_ 2351 = .ok (.iload 4, 2) := by decide +kernel
theorem dL_law__2353 : decode cL_law_ 2353 = .ok (.iconst 1, 1) := by decide +kernel
theorem dL_law__2354 : decode cL_law_ 2354 = .ok (.iadd, 1) := by decide +kernel
theorem dL_law__2355 : decode cL_law_ 2355 = .ok (.iaload, 1) := by decide +kernel
theorem dL_law__2356 : decode cL_law_ 2356 = .ok (.aload_n 3, 1) := by decide +kernel
theorem dL_law__2357 : decode cL_law_ 2357 = .ok (.invokestatic 236, 3) := by decide +kernel
theorem dL_law__2360 : decode cL_law_ 2360 = .ok (.istore 5, 2) := by decide +kernel
theorem dL_law__2362 : decode cL_law_ 2362 = .ok (.aload_n 2, 1) := by decide +kernel
theorem dL_law__2363 : decode cL_law_ 2363 = .ok (.aload_n 0, 1) := by decide +kernel
theorem dL_law__2364 : decode cL_law_ 2364 = .ok (.iload 4, 2) := by decide +kernel
theorem dL_law__2366 : decode cL_law_ 2366 = .ok (.iconst 1, 1) := by decide +kernel
theorem dL_law__2367 : decode cL_law_ 2367 = .ok (.iadd, 1) := by decide +kernel
theorem dL_law__2368 : decode cL_law_ 2368 = .ok (.iaload, 1) := by decide +kernel
theorem dL_law__2369 : decode cL_law_ 2369 = .ok (.invokevirtual 238, 3) := by decide +kernel
theorem dL_law__2372 : decode cL_law_ 2372 = .ok (.istore 6, 2) := by decide +kernel
theorem dL_law__2374 : decode cL_law_ 2374 = .ok (.aload_n 2, 1) := by decide +kernel
theorem dL_law__2375 : decode cL_law_ 2375 = .ok (.invokevirtual 141, 3) := by decide +kernel
theorem dL_law__2378 : decode cL_law_ 2378 = .ok (.iload 5, 2) := by decide +kernel
theorem dL_law__2380 : decode cL_law_ 2380 = .ok (.if_icmp .eq 5, 3) := by decide +kernel
theorem dL_law__2383 : decode cL_law_ 2383 = .ok (.iconst 0, 1) := by decide +kernel
theorem dL_law__2384 : decode cL_law_ 2384 = .ok (.ireturn, 1) := by decide +kernel
theorem dL_law__2385 : decode cL_law_ 2385 = .ok (.iload 5, 2) := by decide +kernel
theorem dL_law__2387 : decode cL_law_ 2387 = .ok (.ifCond .ne 15, 3) := by decide +kernel
theorem dL_law__2390 : decode cL_law_ 2390 = .ok (.aload_n 3, 1) := by decide +kernel
theorem dL_law__2391 : decode cL_law_ 2391 = .ok (.iconst 0, 1) := by decide +kernel
theorem dL_law__2392 : decode cL_law_ 2392 = .ok (.laload, 1) := by decide +kernel
theorem dL_law__2393 : decode cL_law_ 2393 = .ok (.iload 6, 2) := by decide +kernel
theorem dL_law__2395 : decode cL_law_ 2395 = .ok (.i2l, 1) := by decide +kernel
theorem dL_law__2396 : decode cL_law_ 2396 = .ok (.lcmp, 1) := by decide +kernel
theorem dL_law__2397 : decode cL_law_ 2397 = .ok (.ifCond .eq 5, 3) := by decide +kernel
theorem dL_law__2400 : decode cL_law_ 2400 = .ok (.iconst 0, 1) := by decide +kernel
theorem dL_law__2401 : decode cL_law_ 2401 = .ok (.ireturn, 1) := by decide +kernel
theorem dL_law__2402 : decode cL_law_ 2402 = .ok (.goto 617, 3) := by decide +kernel
theorem dL_law__2405 : decode cL_law_ 2405 = .ok (.aload_n 1, 1) := by decide +kernel
theorem dL_law__2406 : decode cL_law_ 2406 = .ok (.aload_n 0, 1) := by decide +kernel
theorem dL_law__2407 : decode cL_law_ 2407 = .ok (.iload 4, 2) := by decide +kernel
theorem dL_law__2409 : decode cL_law_ 2409 = .ok (.iconst 1, 1) := by decide +kernel
theorem dL_law__2410 : decode cL_law_ 2410 = .ok (.iadd, 1) := by decide +kernel
theorem dL_law__2411 : decode cL_law_ 2411 = .ok (.iaload, 1) := by decide +kernel
theorem dL_law__2412 : decode cL_law_ 2412 = .ok (.aload_n 3, 1) := by decide +kernel
theorem dL_law__2413 : decode cL_law_ 2413 = .ok (.invokestatic 239, 3) := by decide +kernel
theorem dL_law__2416 : decode cL_law_ 2416 = .ok (.istore 5, 2) := by decide +kernel
theorem dL_law__2418 : decode cL_law_ 2418 = .ok (.aload_n 2, 1) := by decide +kernel
theorem dL_law__2419 : decode cL_law_ 2419 = .ok (.aload_n 0, 1) := by decide +kernel
theorem dL_law__2420 : decode cL_law_ 2420 = .ok (.iload 4, 2) := by decide +kernel
theorem dL_law__2422 : decode cL_law_ 2422 = .ok (.iconst 1, 1) := by decide +kernel
theorem dL_law__2423 : decode cL_law_ 2423 = .ok (.iadd, 1) := by decide +kernel
theorem dL_law__2424 : decode cL_law_ 2424 = .ok (.iaload, 1) := by decide +kernel
theorem dL_law__2425 : decode cL_law_ 2425 = .ok (.invokevirtual 241, 3) := by decide +kernel
theorem dL_law__2428 : decode cL_law_ 2428 = .ok (.istore 6, 2) := by decide +kernel
theorem dL_law__2430 : decode cL_law_ 2430 = .ok (.aload_n 2, 1) := by decide +kernel
theorem dL_law__2431 : decode cL_law_ 2431 = .ok (.invokevirtual 141, 3) := by decide +kernel
theorem dL_law__2434 : decode cL_law_ 2434 = .ok (.iload 5, 2) := by decide +kernel
theorem dL_law__2436 : decode cL_law_ 2436 = .ok (.if_icmp .eq 5, 3) := by decide +kernel
theorem dL_law__2439 : decode cL_law_ 2439 = .ok (.iconst 0, 1) := by decide +kernel
theorem dL_law__2440 : decode cL_law_ 2440 = .ok (.ireturn, 1) := by decide +kernel
theorem dL_law__2441 : decode cL_law_ 2441 = .ok (.iload 5, 2) := by decide +kernel
theorem dL_law__2443 : decode cL_law_ 2443 = .ok (.ifCond .ne 15, 3) := by decide +kernel
theorem dL_law__2446 : decode cL_law_ 2446 = .ok (.aload_n 3, 1) := by decide +kernel
theorem dL_law__2447 : decode cL_law_ 2447 = .ok (.iconst 0, 1) := by decide +kernel
theorem dL_law__2448 : decode cL_law_ 2448 = .ok (.laload, 1) := by decide +kernel
theorem dL_law__2449 : decode cL_law_ 2449 = .ok (.iload 6, 2) := by decide +kernel
theorem dL_law__2451 : decode cL_law_ 2451 = .ok (.i2l, 1) := by decide +kernel
theorem dL_law__2452 : decode cL_law_ 2452 = .ok (.lcmp, 1) := by decide +kernel
theorem dL_law__2453 : decode cL_law_ 2453 = .ok (.ifCond .eq 5, 3) := by decide +kernel
theorem dL_law__2456 : decode cL_law_ 2456 = .ok (.iconst 0, 1) := by decide +kernel
theorem dL_law__2457 : decode cL_law_ 2457 = .ok (.ireturn, 1) := by decide +kernel
theorem dL_law__2458 : decode cL_law_ 2458 = .ok (.goto 561, 3) := by decide +kernel
theorem dL_law__2461 : decode cL_law_ 2461 = .ok (.aload_n 1, 1) := by decide +kernel
theorem dL_law__2462 : decode cL_law_ 2462 = .ok (.aload_n 0, 1) := by decide +kernel
theorem dL_law__2463 : decode cL_law_ 2463 = .ok (.iload 4, 2) := by decide +kernel
theorem dL_law__2465 : decode cL_law_ 2465 = .ok (.iconst 1, 1) := by decide +kernel
theorem dL_law__2466 : decode cL_law_ 2466 = .ok (.iadd, 1) := by decide +kernel
theorem dL_law__2467 : decode cL_law_ 2467 = .ok (.iaload, 1) := by decide +kernel
theorem dL_law__2468 : decode cL_law_ 2468 = .ok (.aload_n 3, 1) := by decide +kernel
theorem dL_law__2469 : decode cL_law_ 2469 = .ok (.invokestatic 242, 3) := by decide +kernel
theorem dL_law__2472 : decode cL_law_ 2472 = .ok (.istore 5, 2) := by decide +kernel
theorem dL_law__2474 : decode cL_law_ 2474 = .ok (.aload_n 2, 1) := by decide +kernel
theorem dL_law__2475 : decode cL_law_ 2475 = .ok (.aload_n 0, 1) := by decide +kernel
theorem dL_law__2476 : decode cL_law_ 2476 = .ok (.iload 4, 2) := by decide +kernel
theorem dL_law__2478 : decode cL_law_ 2478 = .ok (.iconst 1, 1) := by decide +kernel
theorem dL_law__2479 : decode cL_law_ 2479 = .ok (.iadd, 1) := by decide +kernel
theorem dL_law__2480 : decode cL_law_ 2480 = .ok (.iaload, 1) := by decide +kernel
theorem dL_law__2481 : decode cL_law_ 2481 = .ok (.invokevirtual 244, 3) := by decide +kernel
theorem dL_law__2484 : decode cL_law_ 2484 = .ok (.istore 6, 2) := by decide +kernel
theorem dL_law__2486 : decode cL_law_ 2486 = .ok (.aload_n 2, 1) := by decide +kernel
theorem dL_law__2487 : decode cL_law_ 2487 = .ok (.invokevirtual 141, 3) := by decide +kernel
theorem dL_law__2490 : decode cL_law_ 2490 = .ok (.iload 5, 2) := by decide +kernel
theorem dL_law__2492 : decode cL_law_ 2492 = .ok (.if_icmp .eq 5, 3) := by decide +kernel
theorem dL_law__2495 : decode cL_law_ 2495 = .ok (.iconst 0, 1) := by decide +kernel
theorem dL_law__2496 : decode cL_law_ 2496 = .ok (.ireturn, 1) := by decide +kernel
theorem dL_law__2497 : decode cL_law_ 2497 = .ok (.iload 5, 2) := by decide +kernel
theorem dL_law__2499 : decode cL_law_ 2499 = .ok (.ifCond .ne 15, 3) := by decide +kernel
theorem dL_law__2502 : decode cL_law_ 2502 = .ok (.aload_n 3, 1) := by decide +kernel
theorem dL_law__2503 : decode cL_law_ 2503 = .ok (.iconst 0, 1) := by decide +kernel
theorem dL_law__2504 : decode cL_law_ 2504 = .ok (.laload, 1) := by decide +kernel
theorem dL_law__2505 : decode cL_law_ 2505 = .ok (.iload 6, 2) := by decide +kernel
theorem dL_law__2507 : decode cL_law_ 2507 = .ok (.i2l, 1) := by decide +kernel
theorem dL_law__2508 : decode cL_law_ 2508 = .ok (.lcmp, 1) := by decide +kernel
theorem dL_law__2509 : decode cL_law_ 2509 = .ok (.ifCond .eq 5, 3) := by decide +kernel
theorem dL_law__2512 : decode cL_law_ 2512 = .ok (.iconst 0, 1) := by decide +kernel
theorem dL_law__2513 : decode cL_law_ 2513 = .ok (.ireturn, 1) := by decide +kernel
theorem dL_law__2514 : decode cL_law_ 2514 = .ok (.goto 505, 3) := by decide +kernel
theorem dL_law__2517 : decode cL_law_ 2517 = .ok (.aload_n 1, 1) := by decide +kernel
theorem dL_law__2518 : decode cL_law_ 2518 = .ok (.aload_n 0, 1) := by decide +kernel
theorem dL_law__2519 : decode cL_law_ 2519 = .ok (.iload 4, 2) := by decide +kernel
theorem dL_law__2521 : decode cL_law_ 2521 = .ok (.iconst 1, 1) := by decide +kernel
theorem dL_law__2522 : decode cL_law_ 2522 = .ok (.iadd, 1) := by decide +kernel
theorem dL_law__2523 : decode cL_law_ 2523 = .ok (.iaload, 1) := by decide +kernel
theorem dL_law__2524 : decode cL_law_ 2524 = .ok (.aload_n 0, 1) := by decide +kernel
theorem dL_law__2525 : decode cL_law_ 2525 = .ok (.iload 4, 2) := by decide +kernel
theorem dL_law__2527 : decode cL_law_ 2527 = .ok (.iconst 2, 1) := by decide +kernel
theorem dL_law__2528 : decode cL_law_ 2528 = .ok (.iadd, 1) := by decide +kernel
theorem dL_law__2529 : decode cL_law_ 2529 = .ok (.iaload, 1) := by decide +kernel
theorem dL_law__2530 : decode cL_law_ 2530 = .ok (.aload_n 3, 1) := by decide +kernel
theorem dL_law__2531 : decode cL_law_ 2531 = .ok (.invokestatic 245, 3) := by decide +kernel
theorem dL_law__2534 : decode cL_law_ 2534 = .ok (.istore 5, 2) := by decide +kernel
theorem dL_law__2536 : decode cL_law_ 2536 = .ok (.aload_n 2, 1) := by decide +kernel
theorem dL_law__2537 : decode cL_law_ 2537 = .ok (.aload_n 0, 1) := by decide +kernel
theorem dL_law__2538 : decode cL_law_ 2538 = .ok (.iload 4, 2) := by decide +kernel
theorem dL_law__2540 : decode cL_law_ 2540 = .ok (.iconst 1, 1) := by decide +kernel
theorem dL_law__2541 : decode cL_law_ 2541 = .ok (.iadd, 1) := by decide +kernel
theorem dL_law__2542 : decode cL_law_ 2542 = .ok (.iaload, 1) := by decide +kernel
theorem dL_law__2543 : decode cL_law_ 2543 = .ok (.aload_n 0, 1) := by decide +kernel
theorem dL_law__2544 : decode cL_law_ 2544 = .ok (.iload 4, 2) := by decide +kernel
theorem dL_law__2546 : decode cL_law_ 2546 = .ok (.iconst 2, 1) := by decide +kernel
theorem dL_law__2547 : decode cL_law_ 2547 = .ok (.iadd, 1) := by decide +kernel
theorem dL_law__2548 : decode cL_law_ 2548 = .ok (.iaload, 1) := by decide +kernel
theorem dL_law__2549 : decode cL_law_ 2549 = .ok (.invokevirtual 247, 3) := by decide +kernel
theorem dL_law__2552 : decode cL_law_ 2552 = .ok (.istore 6, 2) := by decide +kernel
theorem dL_law__2554 : decode cL_law_ 2554 = .ok (.aload_n 2, 1) := by decide +kernel
theorem dL_law__2555 : decode cL_law_ 2555 = .ok (.invokevirtual 141, 3) := by decide +kernel
theorem dL_law__2558 : decode cL_law_ 2558 = .ok (.iload 5, 2) := by decide +kernel
theorem dL_law__2560 : decode cL_law_ 2560 = .ok (.if_icmp .eq 5, 3) := by decide +kernel
theorem dL_law__2563 : decode cL_law_ 2563 = .ok (.iconst 0, 1) := by decide +kernel
theorem dL_law__2564 : decode cL_law_ 2564 = .ok (.ireturn, 1) := by decide +kernel
theorem dL_law__2565 : decode cL_law_ 2565 = .ok (.iload 5, 2) := by decide +kernel
theorem dL_law__2567 : decode cL_law_ 2567 = .ok (.ifCond .ne 15, 3) := by decide +kernel
theorem dL_law__2570 : decode cL_law_ 2570 = .ok (.aload_n 3, 1) := by decide +kernel
theorem dL_law__2571 : decode cL_law_ 2571 = .ok (.iconst 0, 1) := by decide +kernel
theorem dL_law__2572 : decode cL_law_ 2572 = .ok (.laload, 1) := by decide +kernel
theorem dL_law__2573 : decode cL_law_ 2573 = .ok (.iload 6, 2) := by decide +kernel
theorem dL_law__2575 : decode cL_law_ 2575 = .ok (.i2l, 1) := by decide +kernel
theorem dL_law__2576 : decode cL_law_ 2576 = .ok (.lcmp, 1) := by decide +kernel
theorem dL_law__2577 : decode cL_law_ 2577 = .ok (.ifCond .eq 5, 3) := by decide +kernel
theorem dL_law__2580 : decode cL_law_ 2580 = .ok (.iconst 0, 1) := by decide +kernel
theorem dL_law__2581 : decode cL_law_ 2581 = .ok (.ireturn, 1) := by decide +kernel
theorem dL_law__2582 : decode cL_law_ 2582 = .ok (.goto 437, 3) := by decide +kernel
theorem dL_law__2585 : decode cL_law_ 2585 = .ok (.aload_n 1, 1) := by decide +kernel
theorem dL_law__2586 : decode cL_law_ 2586 = .ok (.aload_n 0, 1) := by decide +kernel
theorem dL_law__2587 : decode cL_law_ 2587 = .ok (.iload 4, 2) := by decide +kernel
theorem dL_law__2589 : decode cL_law_ 2589 = .ok (.iconst 1, 1) := by decide +kernel
theorem dL_law__2590 : decode cL_law_ 2590 = .ok (.iadd, 1) := by decide +kernel
theorem dL_law__2591 : decode cL_law_ 2591 = .ok (.iaload, 1) := by decide +kernel
theorem dL_law__2592 : decode cL_law_ 2592 = .ok (.aload_n 0, 1) := by decide +kernel
theorem dL_law__2593 : decode cL_law_ 2593 = .ok (.iload 4, 2) := by decide +kernel
theorem dL_law__2595 : decode cL_law_ 2595 = .ok (.iconst 2, 1) := by decide +kernel
theorem dL_law__2596 : decode cL_law_ 2596 = .ok (.iadd, 1) := by decide +kernel
theorem dL_law__2597 : decode cL_law_ 2597 = .ok (.iaload, 1) := by decide +kernel
theorem dL_law__2598 : decode cL_law_ 2598 = .ok (.aload_n 0, 1) := by decide +kernel
theorem dL_law__2599 : decode cL_law_ 2599 = .ok (.iload 4, 2) := by decide +kernel
theorem dL_law__2601 : decode cL_law_ 2601 = .ok (.iconst 3, 1) := by decide +kernel
theorem dL_law__2602 : decode cL_law_ 2602 = .ok (.iadd, 1) := by decide +kernel
theorem dL_law__2603 : decode cL_law_ 2603 = .ok (.iaload, 1) := by decide +kernel
theorem dL_law__2604 : decode cL_law_ 2604 = .ok (.aload_n 0, 1) := by decide +kernel
theorem dL_law__2605 : decode cL_law_ 2605 = .ok (.iload 4, 2) := by decide +kernel
theorem dL_law__2607 : decode cL_law_ 2607 = .ok (.iconst 4, 1) := by decide +kernel
theorem dL_law__2608 : decode cL_law_ 2608 = .ok (.iadd, 1) := by decide +kernel
theorem dL_law__2609 : decode cL_law_ 2609 = .ok (.iaload, 1) := by decide +kernel
theorem dL_law__2610 : decode cL_law_ 2610 = .ok (.aload_n 0, 1) := by decide +kernel
theorem dL_law__2611 : decode cL_law_ 2611 = .ok (.iload 4, 2) := by decide +kernel
theorem dL_law__2613 : decode cL_law_ 2613 = .ok (.iconst 5, 1) := by decide +kernel
theorem dL_law__2614 : decode cL_law_ 2614 = .ok (.iadd, 1) := by decide +kernel
theorem dL_law__2615 : decode cL_law_ 2615 = .ok (.iaload, 1) := by decide +kernel
theorem dL_law__2616 : decode cL_law_ 2616 = .ok (.aload_n 3, 1) := by decide +kernel
theorem dL_law__2617 : decode cL_law_ 2617 = .ok (.invokestatic 248, 3) := by decide +kernel
theorem dL_law__2620 : decode cL_law_ 2620 = .ok (.istore 5, 2) := by decide +kernel
theorem dL_law__2622 : decode cL_law_ 2622 = .ok (.aload_n 2, 1) := by decide +kernel
theorem dL_law__2623 : decode cL_law_ 2623 = .ok (.aload_n 0, 1) := by decide +kernel
theorem dL_law__2624 : decode cL_law_ 2624 = .ok (.iload 4, 2) := by decide +kernel
theorem dL_law__2626 : decode cL_law_ 2626 = .ok (.iconst 1, 1) := by decide +kernel
theorem dL_law__2627 : decode cL_law_ 2627 = .ok (.iadd, 1) := by decide +kernel
theorem dL_law__2628 : decode cL_law_ 2628 = .ok (.iaload, 1) := by decide +kernel
theorem dL_law__2629 : decode cL_law_ 2629 = .ok (.aload_n 0, 1) := by decide +kernel
theorem dL_law__2630 : decode cL_law_ 2630 = .ok (.iload 4, 2) := by decide +kernel
theorem dL_law__2632 : decode cL_law_ 2632 = .ok (.iconst 2, 1) := by decide +kernel
theorem dL_law__2633 : decode cL_law_ 2633 = .ok (.iadd, 1) := by decide +kernel
theorem dL_law__2634 : decode cL_law_ 2634 = .ok (.iaload, 1) := by decide +kernel
theorem dL_law__2635 : decode cL_law_ 2635 = .ok (.aload_n 0, 1) := by decide +kernel
theorem dL_law__2636 : decode cL_law_ 2636 = .ok (.iload 4, 2) := by decide +kernel
theorem dL_law__2638 : decode cL_law_ 2638 = .ok (.iconst 3, 1) := by decide +kernel
theorem dL_law__2639 : decode cL_law_ 2639 = .ok (.iadd, 1) := by decide +kernel
theorem dL_law__2640 : decode cL_law_ 2640 = .ok (.iaload, 1) := by decide +kernel
theorem dL_law__2641 : decode cL_law_ 2641 = .ok (.aload_n 0, 1) := by decide +kernel
theorem dL_law__2642 : decode cL_law_ 2642 = .ok (.iload 4, 2) := by decide +kernel
theorem dL_law__2644 : decode cL_law_ 2644 = .ok (.iconst 4, 1) := by decide +kernel
theorem dL_law__2645 : decode cL_law_ 2645 = .ok (.iadd, 1) := by decide +kernel
theorem dL_law__2646 : decode cL_law_ 2646 = .ok (.iaload, 1) := by decide +kernel
theorem dL_law__2647 : decode cL_law_ 2647 = .ok (.aload_n 0, 1) := by decide +kernel
theorem dL_law__2648 : decode cL_law_ 2648 = .ok (.iload 4, 2) := by decide +kernel
theorem dL_law__2650 : decode cL_law_ 2650 = .ok (.iconst 5, 1) := by decide +kernel
theorem dL_law__2651 : decode cL_law_ 2651 = .ok (.iadd, 1) := by decide +kernel
theorem dL_law__2652 : decode cL_law_ 2652 = .ok (.iaload, 1) := by decide +kernel
theorem dL_law__2653 : decode cL_law_ 2653 = .ok (.invokevirtual 251, 3) := by decide +kernel
theorem dL_law__2656 : decode cL_law_ 2656 = .ok (.istore 6, 2) := by decide +kernel
theorem dL_law__2658 : decode cL_law_ 2658 = .ok (.aload_n 2, 1) := by decide +kernel
theorem dL_law__2659 : decode cL_law_ 2659 = .ok (.invokevirtual 141, 3) := by decide +kernel
theorem dL_law__2662 : decode cL_law_ 2662 = .ok (.iload 5, 2) := by decide +kernel
theorem dL_law__2664 : decode cL_law_ 2664 = .ok (.if_icmp .eq 5, 3) := by decide +kernel
theorem dL_law__2667 : decode cL_law_ 2667 = .ok (.iconst 0, 1) := by decide +kernel
theorem dL_law__2668 : decode cL_law_ 2668 = .ok (.ireturn, 1) := by decide +kernel
theorem dL_law__2669 : decode cL_law_ 2669 = .ok (.iload 5, 2) := by decide +kernel
theorem dL_law__2671 : decode cL_law_ 2671 = .ok (.ifCond .ne 15, 3) := by decide +kernel
theorem dL_law__2674 : decode cL_law_ 2674 = .ok (.aload_n 3, 1) := by decide +kernel
theorem dL_law__2675 : decode cL_law_ 2675 = .ok (.iconst 0, 1) := by decide +kernel
theorem dL_law__2676 : decode cL_law_ 2676 = .ok (.laload, 1) := by decide +kernel
theorem dL_law__2677 : decode cL_law_ 2677 = .ok (.iload 6, 2) := by decide +kernel
theorem dL_law__2679 : decode cL_law_ 2679 = .ok (.i2l, 1) := by decide +kernel
theorem dL_law__2680 : decode cL_law_ 2680 = .ok (.lcmp, 1) := by decide +kernel
theorem dL_law__2681 : decode cL_law_ 2681 = .ok (.ifCond .eq 5, 3) := by decide +kernel
theorem dL_law__2684 : decode cL_law_ 2684 = .ok (.iconst 0, 1) := by decide +kernel
theorem dL_law__2685 : decode cL_law_ 2685 = .ok (.ireturn, 1) := by decide +kernel
theorem dL_law__2686 : decode cL_law_ 2686 = .ok (.goto 333, 3) := by decide +kernel
theorem dL_law__2689 : decode cL_law_ 2689 = .ok (.aload_n 1, 1) := by decide +kernel
theorem dL_law__2690 : decode cL_law_ 2690 = .ok (.aload_n 0, 1) := by decide +kernel
theorem dL_law__2691 : decode cL_law_ 2691 = .ok (.iload 4, 2) := by decide +kernel
theorem dL_law__2693 : decode cL_law_ 2693 = .ok (.iconst 1, 1) := by decide +kernel
theorem dL_law__2694 : decode cL_law_ 2694 = .ok (.iadd, 1) := by decide +kernel
theorem dL_law__2695 : decode cL_law_ 2695 = .ok (.iaload, 1) := by decide +kernel
theorem dL_law__2696 : decode cL_law_ 2696 = .ok (.aload_n 0, 1) := by decide +kernel
theorem dL_law__2697 : decode cL_law_ 2697 = .ok (.iload 4, 2) := by decide +kernel
theorem dL_law__2699 : decode cL_law_ 2699 = .ok (.iconst 2, 1) := by decide +kernel
theorem dL_law__2700 : decode cL_law_ 2700 = .ok (.iadd, 1) := by decide +kernel
theorem dL_law__2701 : decode cL_law_ 2701 = .ok (.iaload, 1) := by decide +kernel
theorem dL_law__2702 : decode cL_law_ 2702 = .ok (.aload_n 0, 1) := by decide +kernel
theorem dL_law__2703 : decode cL_law_ 2703 = .ok (.iload 4, 2) := by decide +kernel
theorem dL_law__2705 : decode cL_law_ 2705 = .ok (.iconst 3, 1) := by decide +kernel
theorem dL_law__2706 : decode cL_law_ 2706 = .ok (.iadd, 1) := by decide +kernel
theorem dL_law__2707 : decode cL_law_ 2707 = .ok (.iaload, 1) := by decide +kernel
theorem dL_law__2708 : decode cL_law_ 2708 = .ok (.aload_n 0, 1) := by decide +kernel
theorem dL_law__2709 : decode cL_law_ 2709 = .ok (.iload 4, 2) := by decide +kernel
theorem dL_law__2711 : decode cL_law_ 2711 = .ok (.iconst 4, 1) := by decide +kernel
theorem dL_law__2712 : decode cL_law_ 2712 = .ok (.iadd, 1) := by decide +kernel
theorem dL_law__2713 : decode cL_law_ 2713 = .ok (.iaload, 1) := by decide +kernel
theorem dL_law__2714 : decode cL_law_ 2714 = .ok (.aload_n 0, 1) := by decide +kernel
theorem dL_law__2715 : decode cL_law_ 2715 = .ok (.iload 4, 2) := by decide +kernel
theorem dL_law__2717 : decode cL_law_ 2717 = .ok (.iconst 5, 1) := by decide +kernel
theorem dL_law__2718 : decode cL_law_ 2718 = .ok (.iadd, 1) := by decide +kernel
theorem dL_law__2719 : decode cL_law_ 2719 = .ok (.iaload, 1) := by decide +kernel
theorem dL_law__2720 : decode cL_law_ 2720 = .ok (.aload_n 0, 1) := by decide +kernel
theorem dL_law__2721 : decode cL_law_ 2721 = .ok (.iload 4, 2) := by decide +kernel
theorem dL_law__2723 : decode cL_law_ 2723 = .ok (.bipush 6, 2) := by decide +kernel
theorem dL_law__2725 : decode cL_law_ 2725 = .ok (.iadd, 1) := by decide +kernel
theorem dL_law__2726 : decode cL_law_ 2726 = .ok (.iaload, 1) := by decide +kernel
theorem dL_law__2727 : decode cL_law_ 2727 = .ok (.aload_n 3, 1) := by decide +kernel
theorem dL_law__2728 : decode cL_law_ 2728 = .ok (.invokestatic 252, 3) := by decide +kernel
theorem dL_law__2731 : decode cL_law_ 2731 = .ok (.istore 5, 2) := by decide +kernel
theorem dL_law__2733 : decode cL_law_ 2733 = .ok (.aload_n 2, 1) := by decide +kernel
theorem dL_law__2734 : decode cL_law_ 2734 = .ok (.aload_n 0, 1) := by decide +kernel
theorem dL_law__2735 : decode cL_law_ 2735 = .ok (.iload 4, 2) := by decide +kernel
theorem dL_law__2737 : decode cL_law_ 2737 = .ok (.iconst 1, 1) := by decide +kernel
theorem dL_law__2738 : decode cL_law_ 2738 = .ok (.iadd, 1) := by decide +kernel
theorem dL_law__2739 : decode cL_law_ 2739 = .ok (.iaload, 1) := by decide +kernel
theorem dL_law__2740 : decode cL_law_ 2740 = .ok (.aload_n 0, 1) := by decide +kernel
theorem dL_law__2741 : decode cL_law_ 2741 = .ok (.iload 4, 2) := by decide +kernel
theorem dL_law__2743 : decode cL_law_ 2743 = .ok (.iconst 2, 1) := by decide +kernel
theorem dL_law__2744 : decode cL_law_ 2744 = .ok (.iadd, 1) := by decide +kernel
theorem dL_law__2745 : decode cL_law_ 2745 = .ok (.iaload, 1) := by decide +kernel
theorem dL_law__2746 : decode cL_law_ 2746 = .ok (.aload_n 0, 1) := by decide +kernel
theorem dL_law__2747 : decode cL_law_ 2747 = .ok (.iload 4, 2) := by decide +kernel
theorem dL_law__2749 : decode cL_law_ 2749 = .ok (.iconst 3, 1) := by decide +kernel
theorem dL_law__2750 : decode cL_law_ 2750 = .ok (.iadd, 1) := by decide +kernel
theorem dL_law__2751 : decode cL_law_ 2751 = .ok (.iaload, 1) := by decide +kernel
theorem dL_law__2752 : decode cL_law_ 2752 = .ok (.aload_n 0, 1) := by decide +kernel
theorem dL_law__2753 : decode cL_law_ 2753 = .ok (.iload 4, 2) := by decide +kernel
theorem dL_law__2755 : decode cL_law_ 2755 = .ok (.iconst 4, 1) := by decide +kernel
theorem dL_law__2756 : decode cL_law_ 2756 = .ok (.iadd, 1) := by decide +kernel
theorem dL_law__2757 : decode cL_law_ 2757 = .ok (.iaload, 1) := by decide +kernel
theorem dL_law__2758 : decode cL_law_ 2758 = .ok (.aload_n 0, 1) := by decide +kernel
theorem dL_law__2759 : decode cL_law_ 2759 = .ok (.iload 4, 2) := by decide +kernel
theorem dL_law__2761 : decode cL_law_ 2761 = .ok (.iconst 5, 1) := by decide +kernel
theorem dL_law__2762 : decode cL_law_ 2762 = .ok (.iadd, 1) := by decide +kernel
theorem dL_law__2763 : decode cL_law_ 2763 = .ok (.iaload, 1) := by decide +kernel
theorem dL_law__2764 : decode cL_law_ 2764 = .ok (.aload_n 0, 1) := by decide +kernel
theorem dL_law__2765 : decode cL_law_ 2765 = .ok (.iload 4, 2) := by decide +kernel
theorem dL_law__2767 : decode cL_law_ 2767 = .ok (.bipush 6, 2) := by decide +kernel
theorem dL_law__2769 : decode cL_law_ 2769 = .ok (.iadd, 1) := by decide +kernel
theorem dL_law__2770 : decode cL_law_ 2770 = .ok (.iaload, 1) := by decide +kernel
theorem dL_law__2771 : decode cL_law_ 2771 = .ok (.invokevirtual 254, 3) := by decide +kernel
theorem dL_law__2774 : decode cL_law_ 2774 = .ok (.istore 6, 2) := by decide +kernel
theorem dL_law__2776 : decode cL_law_ 2776 = .ok (.aload_n 2, 1) := by decide +kernel
theorem dL_law__2777 : decode cL_law_ 2777 = .ok (.invokevirtual 141, 3) := by decide +kernel
theorem dL_law__2780 : decode cL_law_ 2780 = .ok (.iload 5, 2) := by decide +kernel
theorem dL_law__2782 : decode cL_law_ 2782 = .ok (.if_icmp .eq 5, 3) := by decide +kernel
theorem dL_law__2785 : decode cL_law_ 2785 = .ok (.iconst 0, 1) := by decide +kernel
theorem dL_law__2786 : decode cL_law_ 2786 = .ok (.ireturn, 1) := by decide +kernel
theorem dL_law__2787 : decode cL_law_ 2787 = .ok (.iload 5, 2) := by decide +kernel
theorem dL_law__2789 : decode cL_law_ 2789 = .ok (.ifCond .ne 15, 3) := by decide +kernel
theorem dL_law__2792 : decode cL_law_ 2792 = .ok (.aload_n 3, 1) := by decide +kernel
theorem dL_law__2793 : decode cL_law_ 2793 = .ok (.iconst 0, 1) := by decide +kernel
theorem dL_law__2794 : decode cL_law_ 2794 = .ok (.laload, 1) := by decide +kernel
theorem dL_law__2795 : decode cL_law_ 2795 = .ok (.iload 6, 2) := by decide +kernel
theorem dL_law__2797 : decode cL_law_ 2797 = .ok (.i2l, 1) := by decide +kernel
theorem dL_law__2798 : decode cL_law_ 2798 = .ok (.lcmp, 1) := by decide +kernel
theorem dL_law__2799 : decode cL_law_ 2799 = .ok (.ifCond .eq 5, 3) := by decide +kernel
theorem dL_law__2802 : decode cL_law_ 2802 = .ok (.iconst 0, 1) := by decide +kernel
theorem dL_law__2803 : decode cL_law_ 2803 = .ok (.ireturn, 1) := by decide +kernel
theorem dL_law__2804 : decode cL_law_ 2804 = .ok (.goto 215, 3) := by decide +kernel
theorem dL_law__2807 : decode cL_law_ 2807 = .ok (.aload_n 1, 1) := by decide +kernel
theorem dL_law__2808 : decode cL_law_ 2808 = .ok (.aload_n 0, 1) := by decide +kernel
theorem dL_law__2809 : decode cL_law_ 2809 = .ok (.iload 4, 2) := by decide +kernel
theorem dL_law__2811 : decode cL_law_ 2811 = .ok (.iconst 1, 1) := by decide +kernel
theorem dL_law__2812 : decode cL_law_ 2812 = .ok (.iadd, 1) := by decide +kernel
theorem dL_law__2813 : decode cL_law_ 2813 = .ok (.iaload, 1) := by decide +kernel
theorem dL_law__2814 : decode cL_law_ 2814 = .ok (.aload_n 0, 1) := by decide +kernel
theorem dL_law__2815 : decode cL_law_ 2815 = .ok (.iload 4, 2) := by decide +kernel
theorem dL_law__2817 : decode cL_law_ 2817 = .ok (.iconst 2, 1) := by decide +kernel
theorem dL_law__2818 : decode cL_law_ 2818 = .ok (.iadd, 1) := by decide +kernel
theorem dL_law__2819 : decode cL_law_ 2819 = .ok (.iaload, 1) := by decide +kernel
theorem dL_law__2820 : decode cL_law_ 2820 = .ok (.aload_n 0, 1) := by decide +kernel
theorem dL_law__2821 : decode cL_law_ 2821 = .ok (.iload 4, 2) := by decide +kernel
theorem dL_law__2823 : decode cL_law_ 2823 = .ok (.iconst 3, 1) := by decide +kernel
theorem dL_law__2824 : decode cL_law_ 2824 = .ok (.iadd, 1) := by decide +kernel
theorem dL_law__2825 : decode cL_law_ 2825 = .ok (.iaload, 1) := by decide +kernel
theorem dL_law__2826 : decode cL_law_ 2826 = .ok (.aload_n 3, 1) := by decide +kernel
theorem dL_law__2827 : decode cL_law_ 2827 = .ok (.invokestatic 255, 3) := by decide +kernel
theorem dL_law__2830 : decode cL_law_ 2830 = .ok (.istore 5, 2) := by decide +kernel
theorem dL_law__2832 : decode cL_law_ 2832 = .ok (.aload_n 2, 1) := by decide +kernel
theorem dL_law__2833 : decode cL_law_ 2833 = .ok (.aload_n 0, 1) := by decide +kernel
theorem dL_law__2834 : decode cL_law_ 2834 = .ok (.iload 4, 2) := by decide +kernel
theorem dL_law__2836 : decode cL_law_ 2836 = .ok (.iconst 1, 1) := by decide +kernel
theorem dL_law__2837 : decode cL_law_ 2837 = .ok (.iadd, 1) := by decide +kernel
theorem dL_law__2838 : decode cL_law_ 2838 = .ok (.iaload, 1) := by decide +kernel
theorem dL_law__2839 : decode cL_law_ 2839 = .ok (.aload_n 0, 1) := by decide +kernel
theorem dL_law__2840 : decode cL_law_ 2840 = .ok (.iload 4, 2) := by decide +kernel
theorem dL_law__2842 : decode cL_law_ 2842 = .ok (.iconst 2, 1) := by decide +kernel
theorem dL_law__2843 : decode cL_law_ 2843 = .ok (.iadd, 1) := by decide +kernel
theorem dL_law__2844 : decode cL_law_ 2844 = .ok (.iaload, 1) := by decide +kernel
theorem dL_law__2845 : decode cL_law_ 2845 = .ok (.aload_n 0, 1) := by decide +kernel
theorem dL_law__2846 : decode cL_law_ 2846 = .ok (.iload 4, 2) := by decide +kernel
theorem dL_law__2848 : decode cL_law_ 2848 = .ok (.iconst 3, 1) := by decide +kernel
theorem dL_law__2849 : decode cL_law_ 2849 = .ok (.iadd, 1) := by decide +kernel
theorem dL_law__2850 : decode cL_law_ 2850 = .ok (.iaload, 1) := by decide +kernel
theorem dL_law__2851 : decode cL_law_ 2851 = .ok (.invokevirtual 257, 3) := by decide +kernel
theorem dL_law__2854 : decode cL_law_ 2854 = .ok (.istore 6, 2) := by decide +kernel
theorem dL_law__2856 : decode cL_law_ 2856 = .ok (.aload_n 2, 1) := by decide +kernel
theorem dL_law__2857 : decode cL_law_ 2857 = .ok (.invokevirtual 141, 3) := by decide +kernel
theorem dL_law__2860 : decode cL_law_ 2860 = .ok (.iload 5, 2) := by decide +kernel
theorem dL_law__2862 : decode cL_law_ 2862 = .ok (.if_icmp .eq 5, 3) := by decide +kernel
theorem dL_law__2865 : decode cL_law_ 2865 = .ok (.iconst 0, 1) := by decide +kernel
theorem dL_law__2866 : decode cL_law_ 2866 = .ok (.ireturn, 1) := by decide +kernel
theorem dL_law__2867 : decode cL_law_ 2867 = .ok (.iload 5, 2) := by decide +kernel
theorem dL_law__2869 : decode cL_law_ 2869 = .ok (.ifCond .ne 15, 3) := by decide +kernel
theorem dL_law__2872 : decode cL_law_ 2872 = .ok (.aload_n 3, 1) := by decide +kernel
theorem dL_law__2873 : decode cL_law_ 2873 = .ok (.iconst 0, 1) := by decide +kernel
theorem dL_law__2874 : decode cL_law_ 2874 = .ok (.laload, 1) := by decide +kernel
theorem dL_law__2875 : decode cL_law_ 2875 = .ok (.iload 6, 2) := by decide +kernel
theorem dL_law__2877 : decode cL_law_ 2877 = .ok (.i2l, 1) := by decide +kernel
theorem dL_law__2878 : decode cL_law_ 2878 = .ok (.lcmp, 1) := by decide +kernel
theorem dL_law__2879 : decode cL_law_ 2879 = .ok (.ifCond .eq 5, 3) := by decide +kernel
theorem dL_law__2882 : decode cL_law_ 2882 = .ok (.iconst 0, 1) := by decide +kernel
theorem dL_law__2883 : decode cL_law_ 2883 = .ok (.ireturn, 1) := by decide +kernel
theorem dL_law__2884 : decode cL_law_ 2884 = .ok (.goto 135, 3) := by decide +kernel
theorem dL_law__2887 : decode cL_law_ 2887 = .ok (.aload_n 1, 1) := by decide +kernel
theorem dL_law__2888 : decode cL_law_ 2888 = .ok (.aload_n 0, 1) := by decide +kernel
theorem dL_law__2889 : decode cL_law_ 2889 = .ok (.iload 4, 2) := by decide +kernel
theorem dL_law__2891 : decode cL_law_ 2891 = .ok (.iconst 1, 1) := by decide +kernel
theorem dL_law__2892 : decode cL_law_ 2892 = .ok (.iadd, 1) := by decide +kernel
theorem dL_law__2893 : decode cL_law_ 2893 = .ok (.iaload, 1) := by decide +kernel
theorem dL_law__2894 : decode cL_law_ 2894 = .ok (.aload_n 3, 1) := by decide +kernel
theorem dL_law__2895 : decode cL_law_ 2895 = .ok (.invokestatic 258, 3) := by decide +kernel
theorem dL_law__2898 : decode cL_law_ 2898 = .ok (.istore 5, 2) := by decide +kernel
theorem dL_law__2900 : decode cL_law_ 2900 = .ok (.aload_n 2, 1) := by decide +kernel
theorem dL_law__2901 : decode cL_law_ 2901 = .ok (.aload_n 0, 1) := by decide +kernel
theorem dL_law__2902 : decode cL_law_ 2902 = .ok (.iload 4, 2) := by decide +kernel
theorem dL_law__2904 : decode cL_law_ 2904 = .ok (.iconst 1, 1) := by decide +kernel
theorem dL_law__2905 : decode cL_law_ 2905 = .ok (.iadd, 1) := by decide +kernel
theorem dL_law__2906 : decode cL_law_ 2906 = .ok (.iaload, 1) := by decide +kernel
theorem dL_law__2907 : decode cL_law_ 2907 = .ok (.invokevirtual 260, 3) := by decide +kernel
theorem dL_law__2910 : decode cL_law_ 2910 = .ok (.istore 6, 2) := by decide +kernel
theorem dL_law__2912 : decode cL_law_ 2912 = .ok (.aload_n 2, 1) := by decide +kernel
theorem dL_law__2913 : decode cL_law_ 2913 = .ok (.invokevirtual 141, 3) := by decide +kernel
theorem dL_law__2916 : decode cL_law_ 2916 = .ok (.iload 5, 2) := by decide +kernel
theorem dL_law__2918 : decode cL_law_ 2918 = .ok (.if_icmp .eq 5, 3) := by decide +kernel
theorem dL_law__2921 : decode cL_law_ 2921 = .ok (.iconst 0, 1) := by decide +kernel
theorem dL_law__2922 : decode cL_law_ 2922 = .ok (.ireturn, 1) := by decide +kernel
theorem dL_law__2923 : decode cL_law_ 2923 = .ok (.iload 5, 2) := by decide +kernel
theorem dL_law__2925 : decode cL_law_ 2925 = .ok (.ifCond .ne 15, 3) := by decide +kernel
theorem dL_law__2928 : decode cL_law_ 2928 = .ok (.aload_n 3, 1) := by decide +kernel
theorem dL_law__2929 : decode cL_law_ 2929 = .ok (.iconst 0, 1) := by decide +kernel
theorem dL_law__2930 : decode cL_law_ 2930 = .ok (.laload, 1) := by decide +kernel
theorem dL_law__2931 : decode cL_law_ 2931 = .ok (.iload 6, 2) := by decide +kernel
theorem dL_law__2933 : decode cL_law_ 2933 = .ok (.i2l, 1) := by decide +kernel
theorem dL_law__2934 : decode cL_law_ 2934 = .ok (.lcmp, 1) := by decide +kernel
theorem dL_law__2935 : decode cL_law_ 2935 = .ok (.ifCond .eq 5, 3) := by decide +kernel
theorem dL_law__2938 : decode cL_law_ 2938 = .ok (.iconst 0, 1) := by decide +kernel
theorem dL_law__2939 : decode cL_law_ 2939 = .ok (.ireturn, 1) := by decide +kernel
theorem dL_law__2940 : decode cL_law_ 2940 = .ok (.goto 79, 3) := by decide +kernel
theorem dL_law__2943 : decode cL_law_ 2943 = .ok (.aload_n 1, 1) := by decide +kernel
theorem dL_law__2944 : decode cL_law_ 2944 = .ok (.invokevirtual 261, 3) := by decide +kernel
theorem dL_law__2947 : decode cL_law_ 2947 = .ok (.aload_n 2, 1) := by decide +kernel
theorem dL_law__2948 : decode cL_law_ 2948 = .ok (.invokevirtual 264, 3) := by decide +kernel
theorem dL_law__2951 : decode cL_law_ 2951 = .ok (.if_icmp .eq 68, 3) := by decide +kernel
theorem dL_law__2954 : decode cL_law_ 2954 = .ok (.iconst 0, 1) := by decide +kernel
theorem dL_law__2955 : decode cL_law_ 2955 = .ok (.ireturn, 1) := by decide +kernel
theorem dL_law__2956 : decode cL_law_ 2956 = .ok (.aload_n 1, 1) := by decide +kernel
theorem dL_law__2957 : decode cL_law_ 2957 = .ok (.invokevirtual 265, 3) := by decide +kernel
theorem dL_law__2960 : decode cL_law_ 2960 = .ok (.aload_n 2, 1) := by decide +kernel
theorem dL_law__2961 : decode cL_law_ 2961 = .ok (.invokevirtual 268, 3) := by decide +kernel
theorem dL_law__2964 : decode cL_law_ 2964 = .ok (.if_icmp .eq 55, 3) := by decide +kernel
theorem dL_law__2967 : decode cL_law_ 2967 = .ok (.iconst 0, 1) := by decide +kernel
theorem dL_law__2968 : decode cL_law_ 2968 = .ok (.ireturn, 1) := by decide +kernel
theorem dL_law__2969 : decode cL_law_ 2969 = .ok (.aload_n 1, 1) := by decide +kernel
theorem dL_law__2970 : decode cL_law_ 2970 = .ok (.aload_n 0, 1) := by decide +kernel
theorem dL_law__2971 : decode cL_law_ 2971 = .ok (.iload 4, 2) := by decide +kernel
theorem dL_law__2973 : decode cL_law_ 2973 = .ok (.iconst 1, 1) := by decide +kernel
theorem dL_law__2974 : decode cL_law_ 2974 = .ok (.iadd, 1) := by decide +kernel
theorem dL_law__2975 : decode cL_law_ 2975 = .ok (.iaload, 1) := by decide +kernel
theorem dL_law__2976 : decode cL_law_ 2976 = .ok (.invokevirtual 269, 3) := by decide +kernel
theorem dL_law__2979 : decode cL_law_ 2979 = .ok (.aload_n 2, 1) := by decide +kernel
theorem dL_law__2980 : decode cL_law_ 2980 = .ok (.aload_n 0, 1) := by decide +kernel
theorem dL_law__2981 : decode cL_law_ 2981 = .ok (.iload 4, 2) := by decide +kernel
theorem dL_law__2983 : decode cL_law_ 2983 = .ok (.iconst 1, 1) := by decide +kernel
theorem dL_law__2984 : decode cL_law_ 2984 = .ok (.iadd, 1) := by decide +kernel
theorem dL_law__2985 : decode cL_law_ 2985 = .ok (.iaload, 1) := by decide +kernel
theorem dL_law__2986 : decode cL_law_ 2986 = .ok (.invokevirtual 272, 3) := by decide +kernel
theorem dL_law__2989 : decode cL_law_ 2989 = .ok (.if_icmp .eq 30, 3) := by decide +kernel
theorem dL_law__2992 : decode cL_law_ 2992 = .ok (.iconst 0, 1) := by decide +kernel
theorem dL_law__2993 : decode cL_law_ 2993 = .ok (.ireturn, 1) := by decide +kernel
theorem dL_law__2994 : decode cL_law_ 2994 = .ok (.aload_n 1, 1) := by decide +kernel
theorem dL_law__2995 : decode cL_law_ 2995 = .ok (.aload_n 0, 1) := by decide +kernel
theorem dL_law__2996 : decode cL_law_ 2996 = .ok (.iload 4, 2) := by decide +kernel
theorem dL_law__2998 : decode cL_law_ 2998 = .ok (.iconst 1, 1) := by decide +kernel
theorem dL_law__2999 : decode cL_law_ 2999 = .ok (.iadd, 1) := by decide +kernel
theorem dL_law__3000 : decode cL_law_ 3000 = .ok (.iaload, 1) := by decide +kernel
theorem dL_law__3001 : decode cL_law_ 3001 = .ok (.invokevirtual 273, 3) := by decide +kernel
theorem dL_law__3004 : decode cL_law_ 3004 = .ok (.aload_n 2, 1) := by decide +kernel
theorem dL_law__3005 : decode cL_law_ 3005 = .ok (.aload_n 0, 1) := by decide +kernel
theorem dL_law__3006 : decode cL_law_ 3006 = .ok (.iload 4, 2) := by decide +kernel
theorem dL_law__3008 : decode cL_law_ 3008 = .ok (.iconst 1, 1) := by decide +kernel
theorem dL_law__3009 : decode cL_law_ 3009 = .ok (.iadd, 1) := by decide +kernel
theorem dL_law__3010 : decode cL_law_ 3010 = .ok (.iaload, 1) := by decide +kernel
theorem dL_law__3011 : decode cL_law_ 3011 = .ok (.invokevirtual 276, 3) := by decide +kernel
theorem dL_law__3014 : decode cL_law_ 3014 = .ok (.if_icmp .eq 5, 3) := by decide +kernel
theorem dL_law__3017 : decode cL_law_ 3017 = .ok (.iconst 0, 1) := by decide +kernel
theorem dL_law__3018 : decode cL_law_ 3018 = .ok (.ireturn, 1) := by decide +kernel
theorem dL_law__3019 : decode cL_law_ 3019 = .ok (.iinc 4 8, 3) := by decide +kernel
theorem dL_law__3022 : decode cL_law_ 3022 = .ok (.goto (-2999), 3) := by decide +kernel
theorem dL_law__3025 : decode cL_law_ 3025 = .ok (.iconst 1, 1) := by decide +kernel
theorem dL_law__3026 : decode cL_law_ 3026 = .ok (.ireturn, 1) := by decide +kernel
