/-! WHAT STANDS AT EVERY PLACE OF THE LAW, 7 -/
theorem cl361_35 : ([(2309, .aload_n 3, 2310), (2310, .invokestatic 240, 2313), (2313, .istore 5, 2315), (2315, .aload_n 2, 2316), (2316, .aload_n 0, 2317), (2317, .iload 4, 2319), (2319, .iconst 1, 2320), (2320, .iadd, 2321), (2321, .iaload, 2322), (2322, .aload_n 0, 2323), (2323, .iload 4, 2325), (2325, .iconst 2, 2326), (2326, .iadd, 2327), (2327, .iaload, 2328), (2328, .aload_n 0, 2329), (2329, .iload 4, 2331), (2331, .iconst 3, 2332), (2332, .iadd, 2333), (2333, .iaload, 2334), (2334, .aload_n 0, 2335), (2335, .iload 4, 2337), (2337, .iconst 4, 2338), (2338, .iadd, 2339), (2339, .iaload, 2340), (2340, .aload_n 0, 2341), (2341, .iload 4, 2343), (2343, .iconst 5, 2344), (2344, .iadd, 2345), (2345, .iaload, 2346), (2346, .invokevirtual 243, 2349), (2349, .istore 6, 2351), (2351, .aload_n 2, 2352), (2352, .invokevirtual 128, 2355), (2355, .iload 5, 2357), (2357, .if_icmp .eq 5, 2360), (2360, .iconst 0, 2361), (2361, .ireturn, 2362), (2362, .iload 5, 2364), (2364, .ifCond .ne 15, 2367), (2367, .aload_n 3, 2368)] : List (Nat × Instr × Nat)).all (fun q => decide (pm_code 361 q.1 = some q.2)) = true := by decide +kernel
theorem c361_2309 : pm_code 361 2309 = some (.aload_n 3, 2310) := pm_of cl361_35 0 (q := (2309, .aload_n 3, 2310)) rfl
theorem c361_2310 : pm_code 361 2310 = some (.invokestatic 240, 2313) := pm_of cl361_35 1 (q := (2310, .invokestatic 240, 2313)) rfl
theorem c361_2313 : pm_code 361 2313 = some (.istore 5, 2315) := pm_of cl361_35 2 (q := (2313, .istore 5, 2315)) rfl
theorem c361_2315 : pm_code 361 2315 = some (.aload_n 2, 2316) := pm_of cl361_35 3 (q := (2315, .aload_n 2, 2316)) rfl
theorem c361_2316 : pm_code 361 2316 = some (.aload_n 0, 2317) := pm_of cl361_35 4 (q := (2316, .aload_n 0, 2317)) rfl
theorem c361_2317 : pm_code 361 2317 = some (.iload 4, 2319) := pm_of cl361_35 5 (q := (2317, .iload 4, 2319)) rfl
theorem c361_2319 : pm_code 361 2319 = some (.iconst 1, 2320) := pm_of cl361_35 6 (q := (2319, .iconst 1, 2320)) rfl
theorem c361_2320 : pm_code 361 2320 = some (.iadd, 2321) := pm_of cl361_35 7 (q := (2320, .iadd, 2321)) rfl
theorem c361_2321 : pm_code 361 2321 = some (.iaload, 2322) := pm_of cl361_35 8 (q := (2321, .iaload, 2322)) rfl
theorem c361_2322 : pm_code 361 2322 = some (.aload_n 0, 2323) := pm_of cl361_35 9 (q := (2322, .aload_n 0, 2323)) rfl
theorem c361_2323 : pm_code 361 2323 = some (.iload 4, 2325) := pm_of cl361_35 10 (q := (2323, .iload 4, 2325)) rfl
theorem c361_2325 : pm_code 361 2325 = some (.iconst 2, 2326) := pm_of cl361_35 11 (q := (2325, .iconst 2, 2326)) rfl
theorem c361_2326 : pm_code 361 2326 = some (.iadd, 2327) := pm_of cl361_35 12 (q := (2326, .iadd, 2327)) rfl
theorem c361_2327 : pm_code 361 2327 = some (.iaload, 2328) := pm_of cl361_35 13 (q := (2327, .iaload, 2328)) rfl
theorem c361_2328 : pm_code 361 2328 = some (.aload_n 0, 2329) := pm_of cl361_35 14 (q := (2328, .aload_n 0, 2329)) rfl
theorem c361_2329 : pm_code 361 2329 = some (.iload 4, 2331) := pm_of cl361_35 15 (q := (2329, .iload 4, 2331)) rfl
theorem c361_2331 : pm_code 361 2331 = some (.iconst 3, 2332) := pm_of cl361_35 16 (q := (2331, .iconst 3, 2332)) rfl
theorem c361_2332 : pm_code 361 2332 = some (.iadd, 2333) := pm_of cl361_35 17 (q := (2332, .iadd, 2333)) rfl
theorem c361_2333 : pm_code 361 2333 = some (.iaload, 2334) := pm_of cl361_35 18 (q := (2333, .iaload, 2334)) rfl
theorem c361_2334 : pm_code 361 2334 = some (.aload_n 0, 2335) := pm_of cl361_35 19 (q := (2334, .aload_n 0, 2335)) rfl
theorem c361_2335 : pm_code 361 2335 = some (.iload 4, 2337) := pm_of cl361_35 20 (q := (2335, .iload 4, 2337)) rfl
theorem c361_2337 : pm_code 361 2337 = some (.iconst 4, 2338) := pm_of cl361_35 21 (q := (2337, .iconst 4, 2338)) rfl
theorem c361_2338 : pm_code 361 2338 = some (.iadd, 2339) := pm_of cl361_35 22 (q := (2338, .iadd, 2339)) rfl
theorem c361_2339 : pm_code 361 2339 = some (.iaload, 2340) := pm_of cl361_35 23 (q := (2339, .iaload, 2340)) rfl
theorem c361_2340 : pm_code 361 2340 = some (.aload_n 0, 2341) := pm_of cl361_35 24 (q := (2340, .aload_n 0, 2341)) rfl
theorem c361_2341 : pm_code 361 2341 = some (.iload 4, 2343) := pm_of cl361_35 25 (q := (2341, .iload 4, 2343)) rfl
theorem c361_2343 : pm_code 361 2343 = some (.iconst 5, 2344) := pm_of cl361_35 26 (q := (2343, .iconst 5, 2344)) rfl
theorem c361_2344 : pm_code 361 2344 = some (.iadd, 2345) := pm_of cl361_35 27 (q := (2344, .iadd, 2345)) rfl
theorem c361_2345 : pm_code 361 2345 = some (.iaload, 2346) := pm_of cl361_35 28 (q := (2345, .iaload, 2346)) rfl
theorem c361_2346 : pm_code 361 2346 = some (.invokevirtual 243, 2349) := pm_of cl361_35 29 (q := (2346, .invokevirtual 243, 2349)) rfl
theorem c361_2349 : pm_code 361 2349 = some (.istore 6, 2351) := pm_of cl361_35 30 (q := (2349, .istore 6, 2351)) rfl
theorem c361_2351 : pm_code 361 2351 = some (.aload_n 2, 2352) := pm_of cl361_35 31 (q := (2351, .aload_n 2, 2352)) rfl
theorem c361_2352 : pm_code 361 2352 = some (.invokevirtual 128, 2355) := pm_of cl361_35 32 (q := (2352, .invokevirtual 128, 2355)) rfl
theorem c361_2355 : pm_code 361 2355 = some (.iload 5, 2357) := pm_of cl361_35 33 (q := (2355, .iload 5, 2357)) rfl
theorem c361_2357 : pm_code 361 2357 = some (.if_icmp .eq 5, 2360) := pm_of cl361_35 34 (q := (2357, .if_icmp .eq 5, 2360)) rfl
theorem c361_2360 : pm_code 361 2360 = some (.iconst 0, 2361) := pm_of cl361_35 35 (q := (2360, .iconst 0, 2361)) rfl
theorem c361_2361 : pm_code 361 2361 = some (.ireturn, 2362) := pm_of cl361_35 36 (q := (2361, .ireturn, 2362)) rfl
theorem c361_2362 : pm_code 361 2362 = some (.iload 5, 2364) := pm_of cl361_35 37 (q := (2362, .iload 5, 2364)) rfl
theorem c361_2364 : pm_code 361 2364 = some (.ifCond .ne 15, 2367) := pm_of cl361_35 38 (q := (2364, .ifCond .ne 15, 2367)) rfl
theorem c361_2367 : pm_code 361 2367 = some (.aload_n 3, 2368) := pm_of cl361_35 39 (q := (2367, .aload_n 3, 2368)) rfl
theorem cl361_36 : ([(2368, .iconst 0, 2369), (2369, .laload, 2370), (2370, .iload 6, 2372), (2372, .i2l, 2373), (2373, .lcmp, 2374), (2374, .ifCond .eq 5, 2377), (2377, .iconst 0, 2378), (2378, .ireturn, 2379), (2379, .goto 197, 2382), (2382, .aload_n 1, 2383), (2383, .aload_n 0, 2384), (2384, .iload 4, 2386), (2386, .iconst 1, 2387), (2387, .iadd, 2388), (2388, .iaload, 2389), (2389, .aload_n 0, 2390), (2390, .iload 4, 2392), (2392, .iconst 2, 2393), (2393, .iadd, 2394), (2394, .iaload, 2395), (2395, .aload_n 0, 2396), (2396, .iload 4, 2398), (2398, .iconst 3, 2399), (2399, .iadd, 2400), (2400, .iaload, 2401), (2401, .aload_n 0, 2402), (2402, .iload 4, 2404), (2404, .iconst 4, 2405), (2405, .iadd, 2406), (2406, .iaload, 2407), (2407, .aload_n 0, 2408), (2408, .iload 4, 2410), (2410, .iconst 5, 2411), (2411, .iadd, 2412), (2412, .iaload, 2413), (2413, .aload_n 0, 2414), (2414, .iload 4, 2416), (2416, .bipush 6, 2418), (2418, .iadd, 2419), (2419, .iaload, 2420)] : List (Nat × Instr × Nat)).all (fun q => decide (pm_code 361 q.1 = some q.2)) = true := by decide +kernel
theorem c361_2368 : pm_code 361 2368 = some (.iconst 0, 2369) := pm_of cl361_36 0 (q := (2368, .iconst 0, 2369)) rfl
theorem c361_2369 : pm_code 361 2369 = some (.laload, 2370) := pm_of cl361_36 1 (q := (2369, .laload, 2370)) rfl
theorem c361_2370 : pm_code 361 2370 = some (.iload 6, 2372) := pm_of cl361_36 2 (q := (2370, .iload 6, 2372)) rfl
theorem c361_2372 : pm_code 361 2372 = some (.i2l, 2373) := pm_of cl361_36 3 (q := (2372, .i2l, 2373)) rfl
theorem c361_2373 : pm_code 361 2373 = some (.lcmp, 2374) := pm_of cl361_36 4 (q := (2373, .lcmp, 2374)) rfl
theorem c361_2374 : pm_code 361 2374 = some (.ifCond .eq 5, 2377) := pm_of cl361_36 5 (q := (2374, .ifCond .eq 5, 2377)) rfl
theorem c361_2377 : pm_code 361 2377 = some (.iconst 0, 2378) := pm_of cl361_36 6 (q := (2377, .iconst 0, 2378)) rfl
theorem c361_2378 : pm_code 361 2378 = some (.ireturn, 2379) := pm_of cl361_36 7 (q := (2378, .ireturn, 2379)) rfl
theorem c361_2379 : pm_code 361 2379 = some (.goto 197, 2382) := pm_of cl361_36 8 (q := (2379, .goto 197, 2382)) rfl
theorem c361_2382 : pm_code 361 2382 = some (.aload_n 1, 2383) := pm_of cl361_36 9 (q := (2382, .aload_n 1, 2383)) rfl
theorem c361_2383 : pm_code 361 2383 = some (.aload_n 0, 2384) := pm_of cl361_36 10 (q := (2383, .aload_n 0, 2384)) rfl
theorem c361_2384 : pm_code 361 2384 = some (.iload 4, 2386) := pm_of cl361_36 11 (q := (2384, .iload 4, 2386)) rfl
theorem c361_2386 : pm_code 361 2386 = some (.iconst 1, 2387) := pm_of cl361_36 12 (q := (2386, .iconst 1, 2387)) rfl
theorem c361_2387 : pm_code 361 2387 = some (.iadd, 2388) := pm_of cl361_36 13 (q := (2387, .iadd, 2388)) rfl
theorem c361_2388 : pm_code 361 2388 = some (.iaload, 2389) := pm_of cl361_36 14 (q := (2388, .iaload, 2389)) rfl
theorem c361_2389 : pm_code 361 2389 = some (.aload_n 0, 2390) := pm_of cl361_36 15 (q := (2389, .aload_n 0, 2390)) rfl
theorem c361_2390 : pm_code 361 2390 = some (.iload 4, 2392) := pm_of cl361_36 16 (q := (2390, .iload 4, 2392)) rfl
theorem c361_2392 : pm_code 361 2392 = some (.iconst 2, 2393) := pm_of cl361_36 17 (q := (2392, .iconst 2, 2393)) rfl
theorem c361_2393 : pm_code 361 2393 = some (.iadd, 2394) := pm_of cl361_36 18 (q := (2393, .iadd, 2394)) rfl
theorem c361_2394 : pm_code 361 2394 = some (.iaload, 2395) := pm_of cl361_36 19 (q := (2394, .iaload, 2395)) rfl
theorem c361_2395 : pm_code 361 2395 = some (.aload_n 0, 2396) := pm_of cl361_36 20 (q := (2395, .aload_n 0, 2396)) rfl
theorem c361_2396 : pm_code 361 2396 = some (.iload 4, 2398) := pm_of cl361_36 21 (q := (2396, .iload 4, 2398)) rfl
theorem c361_2398 : pm_code 361 2398 = some (.iconst 3, 2399) := pm_of cl361_36 22 (q := (2398, .iconst 3, 2399)) rfl
theorem c361_2399 : pm_code 361 2399 = some (.iadd, 2400) := pm_of cl361_36 23 (q := (2399, .iadd, 2400)) rfl
theorem c361_2400 : pm_code 361 2400 = some (.iaload, 2401) := pm_of cl361_36 24 (q := (2400, .iaload, 2401)) rfl
theorem c361_2401 : pm_code 361 2401 = some (.aload_n 0, 2402) := pm_of cl361_36 25 (q := (2401, .aload_n 0, 2402)) rfl
theorem c361_2402 : pm_code 361 2402 = some (.iload 4, 2404) := pm_of cl361_36 26 (q := (2402, .iload 4, 2404)) rfl
theorem c361_2404 : pm_code 361 2404 = some (.iconst 4, 2405) := pm_of cl361_36 27 (q := (2404, .iconst 4, 2405)) rfl
theorem c361_2405 : pm_code 361 2405 = some (.iadd, 2406) := pm_of cl361_36 28 (q := (2405, .iadd, 2406)) rfl
theorem c361_2406 : pm_code 361 2406 = some (.iaload, 2407) := pm_of cl361_36 29 (q := (2406, .iaload, 2407)) rfl
theorem c361_2407 : pm_code 361 2407 = some (.aload_n 0, 2408) := pm_of cl361_36 30 (q := (2407, .aload_n 0, 2408)) rfl
theorem c361_2408 : pm_code 361 2408 = some (.iload 4, 2410) := pm_of cl361_36 31 (q := (2408, .iload 4, 2410)) rfl
theorem c361_2410 : pm_code 361 2410 = some (.iconst 5, 2411) := pm_of cl361_36 32 (q := (2410, .iconst 5, 2411)) rfl
theorem c361_2411 : pm_code 361 2411 = some (.iadd, 2412) := pm_of cl361_36 33 (q := (2411, .iadd, 2412)) rfl
theorem c361_2412 : pm_code 361 2412 = some (.iaload, 2413) := pm_of cl361_36 34 (q := (2412, .iaload, 2413)) rfl
theorem c361_2413 : pm_code 361 2413 = some (.aload_n 0, 2414) := pm_of cl361_36 35 (q := (2413, .aload_n 0, 2414)) rfl
theorem c361_2414 : pm_code 361 2414 = some (.iload 4, 2416) := pm_of cl361_36 36 (q := (2414, .iload 4, 2416)) rfl
theorem c361_2416 : pm_code 361 2416 = some (.bipush 6, 2418) := pm_of cl361_36 37 (q := (2416, .bipush 6, 2418)) rfl
theorem c361_2418 : pm_code 361 2418 = some (.iadd, 2419) := pm_of cl361_36 38 (q := (2418, .iadd, 2419)) rfl
theorem c361_2419 : pm_code 361 2419 = some (.iaload, 2420) := pm_of cl361_36 39 (q := (2419, .iaload, 2420)) rfl
theorem cl361_37 : ([(2420, .aload_n 3, 2421), (2421, .invokestatic 244, 2424), (2424, .istore 5, 2426), (2426, .aload_n 2, 2427), (2427, .aload_n 0, 2428), (2428, .iload 4, 2430), (2430, .iconst 1, 2431), (2431, .iadd, 2432), (2432, .iaload, 2433), (2433, .aload_n 0, 2434), (2434, .iload 4, 2436), (2436, .iconst 2, 2437), (2437, .iadd, 2438), (2438, .iaload, 2439), (2439, .aload_n 0, 2440), (2440, .iload 4, 2442), (2442, .iconst 3, 2443), (2443, .iadd, 2444), (2444, .iaload, 2445), (2445, .aload_n 0, 2446), (2446, .iload 4, 2448), (2448, .iconst 4, 2449), (2449, .iadd, 2450), (2450, .iaload, 2451), (2451, .aload_n 0, 2452), (2452, .iload 4, 2454), (2454, .iconst 5, 2455), (2455, .iadd, 2456), (2456, .iaload, 2457), (2457, .aload_n 0, 2458), (2458, .iload 4, 2460), (2460, .bipush 6, 2462), (2462, .iadd, 2463), (2463, .iaload, 2464), (2464, .invokevirtual 246, 2467), (2467, .istore 6, 2469), (2469, .aload_n 2, 2470), (2470, .invokevirtual 128, 2473), (2473, .iload 5, 2475), (2475, .if_icmp .eq 5, 2478)] : List (Nat × Instr × Nat)).all (fun q => decide (pm_code 361 q.1 = some q.2)) = true := by decide +kernel
theorem c361_2420 : pm_code 361 2420 = some (.aload_n 3, 2421) := pm_of cl361_37 0 (q := (2420, .aload_n 3, 2421)) rfl
theorem c361_2421 : pm_code 361 2421 = some (.invokestatic 244, 2424) := pm_of cl361_37 1 (q := (2421, .invokestatic 244, 2424)) rfl
theorem c361_2424 : pm_code 361 2424 = some (.istore 5, 2426) := pm_of cl361_37 2 (q := (2424, .istore 5, 2426)) rfl
theorem c361_2426 : pm_code 361 2426 = some (.aload_n 2, 2427) := pm_of cl361_37 3 (q := (2426, .aload_n 2, 2427)) rfl
theorem c361_2427 : pm_code 361 2427 = some (.aload_n 0, 2428) := pm_of cl361_37 4 (q := (2427, .aload_n 0, 2428)) rfl
theorem c361_2428 : pm_code 361 2428 = some (.iload 4, 2430) := pm_of cl361_37 5 (q := (2428, .iload 4, 2430)) rfl
theorem c361_2430 : pm_code 361 2430 = some (.iconst 1, 2431) := pm_of cl361_37 6 (q := (2430, .iconst 1, 2431)) rfl
theorem c361_2431 : pm_code 361 2431 = some (.iadd, 2432) := pm_of cl361_37 7 (q := (2431, .iadd, 2432)) rfl
theorem c361_2432 : pm_code 361 2432 = some (.iaload, 2433) := pm_of cl361_37 8 (q := (2432, .iaload, 2433)) rfl
theorem c361_2433 : pm_code 361 2433 = some (.aload_n 0, 2434) := pm_of cl361_37 9 (q := (2433, .aload_n 0, 2434)) rfl
theorem c361_2434 : pm_code 361 2434 = some (.iload 4, 2436) := pm_of cl361_37 10 (q := (2434, .iload 4, 2436)) rfl
theorem c361_2436 : pm_code 361 2436 = some (.iconst 2, 2437) := pm_of cl361_37 11 (q := (2436, .iconst 2, 2437)) rfl
theorem c361_2437 : pm_code 361 2437 = some (.iadd, 2438) := pm_of cl361_37 12 (q := (2437, .iadd, 2438)) rfl
theorem c361_2438 : pm_code 361 2438 = some (.iaload, 2439) := pm_of cl361_37 13 (q := (2438, .iaload, 2439)) rfl
theorem c361_2439 : pm_code 361 2439 = some (.aload_n 0, 2440) := pm_of cl361_37 14 (q := (2439, .aload_n 0, 2440)) rfl
theorem c361_2440 : pm_code 361 2440 = some (.iload 4, 2442) := pm_of cl361_37 15 (q := (2440, .iload 4, 2442)) rfl
theorem c361_2442 : pm_code 361 2442 = some (.iconst 3, 2443) := pm_of cl361_37 16 (q := (2442, .iconst 3, 2443)) rfl
theorem c361_2443 : pm_code 361 2443 = some (.iadd, 2444) := pm_of cl361_37 17 (q := (2443, .iadd, 2444)) rfl
theorem c361_2444 : pm_code 361 2444 = some (.iaload, 2445) := pm_of cl361_37 18 (q := (2444, .iaload, 2445)) rfl
theorem c361_2445 : pm_code 361 2445 = some (.aload_n 0, 2446) := pm_of cl361_37 19 (q := (2445, .aload_n 0, 2446)) rfl
theorem c361_2446 : pm_code 361 2446 = some (.iload 4, 2448) := pm_of cl361_37 20 (q := (2446, .iload 4, 2448)) rfl
theorem c361_2448 : pm_code 361 2448 = some (.iconst 4, 2449) := pm_of cl361_37 21 (q := (2448, .iconst 4, 2449)) rfl
theorem c361_2449 : pm_code 361 2449 = some (.iadd, 2450) := pm_of cl361_37 22 (q := (2449, .iadd, 2450)) rfl
theorem c361_2450 : pm_code 361 2450 = some (.iaload, 2451) := pm_of cl361_37 23 (q := (2450, .iaload, 2451)) rfl
theorem c361_2451 : pm_code 361 2451 = some (.aload_n 0, 2452) := pm_of cl361_37 24 (q := (2451, .aload_n 0, 2452)) rfl
theorem c361_2452 : pm_code 361 2452 = some (.iload 4, 2454) := pm_of cl361_37 25 (q := (2452, .iload 4, 2454)) rfl
theorem c361_2454 : pm_code 361 2454 = some (.iconst 5, 2455) := pm_of cl361_37 26 (q := (2454, .iconst 5, 2455)) rfl
theorem c361_2455 : pm_code 361 2455 = some (.iadd, 2456) := pm_of cl361_37 27 (q := (2455, .iadd, 2456)) rfl
theorem c361_2456 : pm_code 361 2456 = some (.iaload, 2457) := pm_of cl361_37 28 (q := (2456, .iaload, 2457)) rfl
theorem c361_2457 : pm_code 361 2457 = some (.aload_n 0, 2458) := pm_of cl361_37 29 (q := (2457, .aload_n 0, 2458)) rfl
theorem c361_2458 : pm_code 361 2458 = some (.iload 4, 2460) := pm_of cl361_37 30 (q := (2458, .iload 4, 2460)) rfl
theorem c361_2460 : pm_code 361 2460 = some (.bipush 6, 2462) := pm_of cl361_37 31 (q := (2460, .bipush 6, 2462)) rfl
theorem c361_2462 : pm_code 361 2462 = some (.iadd, 2463) := pm_of cl361_37 32 (q := (2462, .iadd, 2463)) rfl
theorem c361_2463 : pm_code 361 2463 = some (.iaload, 2464) := pm_of cl361_37 33 (q := (2463, .iaload, 2464)) rfl
theorem c361_2464 : pm_code 361 2464 = some (.invokevirtual 246, 2467) := pm_of cl361_37 34 (q := (2464, .invokevirtual 246, 2467)) rfl
theorem c361_2467 : pm_code 361 2467 = some (.istore 6, 2469) := pm_of cl361_37 35 (q := (2467, .istore 6, 2469)) rfl
theorem c361_2469 : pm_code 361 2469 = some (.aload_n 2, 2470) := pm_of cl361_37 36 (q := (2469, .aload_n 2, 2470)) rfl
theorem c361_2470 : pm_code 361 2470 = some (.invokevirtual 128, 2473) := pm_of cl361_37 37 (q := (2470, .invokevirtual 128, 2473)) rfl
theorem c361_2473 : pm_code 361 2473 = some (.iload 5, 2475) := pm_of cl361_37 38 (q := (2473, .iload 5, 2475)) rfl
theorem c361_2475 : pm_code 361 2475 = some (.if_icmp .eq 5, 2478) := pm_of cl361_37 39 (q := (2475, .if_icmp .eq 5, 2478)) rfl
theorem cl361_38 : ([(2478, .iconst 0, 2479), (2479, .ireturn, 2480), (2480, .iload 5, 2482), (2482, .ifCond .ne 15, 2485), (2485, .aload_n 3, 2486), (2486, .iconst 0, 2487), (2487, .laload, 2488), (2488, .iload 6, 2490), (2490, .i2l, 2491), (2491, .lcmp, 2492), (2492, .ifCond .eq 5, 2495), (2495, .iconst 0, 2496), (2496, .ireturn, 2497), (2497, .goto 79, 2500), (2500, .aload_n 1, 2501), (2501, .invokevirtual 247, 2504), (2504, .aload_n 2, 2505), (2505, .invokevirtual 250, 2508), (2508, .if_icmp .eq 68, 2511), (2511, .iconst 0, 2512), (2512, .ireturn, 2513), (2513, .aload_n 1, 2514), (2514, .invokevirtual 251, 2517), (2517, .aload_n 2, 2518), (2518, .invokevirtual 254, 2521), (2521, .if_icmp .eq 55, 2524), (2524, .iconst 0, 2525), (2525, .ireturn, 2526), (2526, .aload_n 1, 2527), (2527, .aload_n 0, 2528), (2528, .iload 4, 2530), (2530, .iconst 1, 2531), (2531, .iadd, 2532), (2532, .iaload, 2533), (2533, .invokevirtual 255, 2536), (2536, .aload_n 2, 2537), (2537, .aload_n 0, 2538), (2538, .iload 4, 2540), (2540, .iconst 1, 2541), (2541, .iadd, 2542)] : List (Nat × Instr × Nat)).all (fun q => decide (pm_code 361 q.1 = some q.2)) = true := by decide +kernel
theorem c361_2478 : pm_code 361 2478 = some (.iconst 0, 2479) := pm_of cl361_38 0 (q := (2478, .iconst 0, 2479)) rfl
theorem c361_2479 : pm_code 361 2479 = some (.ireturn, 2480) := pm_of cl361_38 1 (q := (2479, .ireturn, 2480)) rfl
theorem c361_2480 : pm_code 361 2480 = some (.iload 5, 2482) := pm_of cl361_38 2 (q := (2480, .iload 5, 2482)) rfl
theorem c361_2482 : pm_code 361 2482 = some (.ifCond .ne 15, 2485) := pm_of cl361_38 3 (q := (2482, .ifCond .ne 15, 2485)) rfl
theorem c361_2485 : pm_code 361 2485 = some (.aload_n 3, 2486) := pm_of cl361_38 4 (q := (2485, .aload_n 3, 2486)) rfl
theorem c361_2486 : pm_code 361 2486 = some (.iconst 0, 2487) := pm_of cl361_38 5 (q := (2486, .iconst 0, 2487)) rfl
theorem c361_2487 : pm_code 361 2487 = some (.laload, 2488) := pm_of cl361_38 6 (q := (2487, .laload, 2488)) rfl
theorem c361_2488 : pm_code 361 2488 = some (.iload 6, 2490) := pm_of cl361_38 7 (q := (2488, .iload 6, 2490)) rfl
theorem c361_2490 : pm_code 361 2490 = some (.i2l, 2491) := pm_of cl361_38 8 (q := (2490, .i2l, 2491)) rfl
theorem c361_2491 : pm_code 361 2491 = some (.lcmp, 2492) := pm_of cl361_38 9 (q := (2491, .lcmp, 2492)) rfl
theorem c361_2492 : pm_code 361 2492 = some (.ifCond .eq 5, 2495) := pm_of cl361_38 10 (q := (2492, .ifCond .eq 5, 2495)) rfl
theorem c361_2495 : pm_code 361 2495 = some (.iconst 0, 2496) := pm_of cl361_38 11 (q := (2495, .iconst 0, 2496)) rfl
theorem c361_2496 : pm_code 361 2496 = some (.ireturn, 2497) := pm_of cl361_38 12 (q := (2496, .ireturn, 2497)) rfl
theorem c361_2497 : pm_code 361 2497 = some (.goto 79, 2500) := pm_of cl361_38 13 (q := (2497, .goto 79, 2500)) rfl
theorem c361_2500 : pm_code 361 2500 = some (.aload_n 1, 2501) := pm_of cl361_38 14 (q := (2500, .aload_n 1, 2501)) rfl
theorem c361_2501 : pm_code 361 2501 = some (.invokevirtual 247, 2504) := pm_of cl361_38 15 (q := (2501, .invokevirtual 247, 2504)) rfl
theorem c361_2504 : pm_code 361 2504 = some (.aload_n 2, 2505) := pm_of cl361_38 16 (q := (2504, .aload_n 2, 2505)) rfl
theorem c361_2505 : pm_code 361 2505 = some (.invokevirtual 250, 2508) := pm_of cl361_38 17 (q := (2505, .invokevirtual 250, 2508)) rfl
theorem c361_2508 : pm_code 361 2508 = some (.if_icmp .eq 68, 2511) := pm_of cl361_38 18 (q := (2508, .if_icmp .eq 68, 2511)) rfl
theorem c361_2511 : pm_code 361 2511 = some (.iconst 0, 2512) := pm_of cl361_38 19 (q := (2511, .iconst 0, 2512)) rfl
theorem c361_2512 : pm_code 361 2512 = some (.ireturn, 2513) := pm_of cl361_38 20 (q := (2512, .ireturn, 2513)) rfl
theorem c361_2513 : pm_code 361 2513 = some (.aload_n 1, 2514) := pm_of cl361_38 21 (q := (2513, .aload_n 1, 2514)) rfl
theorem c361_2514 : pm_code 361 2514 = some (.invokevirtual 251, 2517) := pm_of cl361_38 22 (q := (2514, .invokevirtual 251, 2517)) rfl
theorem c361_2517 : pm_code 361 2517 = some (.aload_n 2, 2518) := pm_of cl361_38 23 (q := (2517, .aload_n 2, 2518)) rfl
theorem c361_2518 : pm_code 361 2518 = some (.invokevirtual 254, 2521) := pm_of cl361_38 24 (q := (2518, .invokevirtual 254, 2521)) rfl
theorem c361_2521 : pm_code 361 2521 = some (.if_icmp .eq 55, 2524) := pm_of cl361_38 25 (q := (2521, .if_icmp .eq 55, 2524)) rfl
theorem c361_2524 : pm_code 361 2524 = some (.iconst 0, 2525) := pm_of cl361_38 26 (q := (2524, .iconst 0, 2525)) rfl
theorem c361_2525 : pm_code 361 2525 = some (.ireturn, 2526) := pm_of cl361_38 27 (q := (2525, .ireturn, 2526)) rfl
theorem c361_2526 : pm_code 361 2526 = some (.aload_n 1, 2527) := pm_of cl361_38 28 (q := (2526, .aload_n 1, 2527)) rfl
theorem c361_2527 : pm_code 361 2527 = some (.aload_n 0, 2528) := pm_of cl361_38 29 (q := (2527, .aload_n 0, 2528)) rfl
theorem c361_2528 : pm_code 361 2528 = some (.iload 4, 2530) := pm_of cl361_38 30 (q := (2528, .iload 4, 2530)) rfl
theorem c361_2530 : pm_code 361 2530 = some (.iconst 1, 2531) := pm_of cl361_38 31 (q := (2530, .iconst 1, 2531)) rfl
theorem c361_2531 : pm_code 361 2531 = some (.iadd, 2532) := pm_of cl361_38 32 (q := (2531, .iadd, 2532)) rfl
theorem c361_2532 : pm_code 361 2532 = some (.iaload, 2533) := pm_of cl361_38 33 (q := (2532, .iaload, 2533)) rfl
theorem c361_2533 : pm_code 361 2533 = some (.invokevirtual 255, 2536) := pm_of cl361_38 34 (q := (2533, .invokevirtual 255, 2536)) rfl
theorem c361_2536 : pm_code 361 2536 = some (.aload_n 2, 2537) := pm_of cl361_38 35 (q := (2536, .aload_n 2, 2537)) rfl
theorem c361_2537 : pm_code 361 2537 = some (.aload_n 0, 2538) := pm_of cl361_38 36 (q := (2537, .aload_n 0, 2538)) rfl
theorem c361_2538 : pm_code 361 2538 = some (.iload 4, 2540) := pm_of cl361_38 37 (q := (2538, .iload 4, 2540)) rfl
theorem c361_2540 : pm_code 361 2540 = some (.iconst 1, 2541) := pm_of cl361_38 38 (q := (2540, .iconst 1, 2541)) rfl
theorem c361_2541 : pm_code 361 2541 = some (.iadd, 2542) := pm_of cl361_38 39 (q := (2541, .iadd, 2542)) rfl
theorem cl361_39 : ([(2542, .iaload, 2543), (2543, .invokevirtual 258, 2546), (2546, .if_icmp .eq 30, 2549), (2549, .iconst 0, 2550), (2550, .ireturn, 2551), (2551, .aload_n 1, 2552), (2552, .aload_n 0, 2553), (2553, .iload 4, 2555), (2555, .iconst 1, 2556), (2556, .iadd, 2557), (2557, .iaload, 2558), (2558, .invokevirtual 259, 2561), (2561, .aload_n 2, 2562), (2562, .aload_n 0, 2563), (2563, .iload 4, 2565), (2565, .iconst 1, 2566), (2566, .iadd, 2567), (2567, .iaload, 2568), (2568, .invokevirtual 262, 2571), (2571, .if_icmp .eq 5, 2574), (2574, .iconst 0, 2575), (2575, .ireturn, 2576), (2576, .iinc 4 7, 2579), (2579, .goto (-2556), 2582), (2582, .iconst 1, 2583), (2583, .ireturn, 2584)] : List (Nat × Instr × Nat)).all (fun q => decide (pm_code 361 q.1 = some q.2)) = true := by decide +kernel
theorem c361_2542 : pm_code 361 2542 = some (.iaload, 2543) := pm_of cl361_39 0 (q := (2542, .iaload, 2543)) rfl
theorem c361_2543 : pm_code 361 2543 = some (.invokevirtual 258, 2546) := pm_of cl361_39 1 (q := (2543, .invokevirtual 258, 2546)) rfl
theorem c361_2546 : pm_code 361 2546 = some (.if_icmp .eq 30, 2549) := pm_of cl361_39 2 (q := (2546, .if_icmp .eq 30, 2549)) rfl
theorem c361_2549 : pm_code 361 2549 = some (.iconst 0, 2550) := pm_of cl361_39 3 (q := (2549, .iconst 0, 2550)) rfl
theorem c361_2550 : pm_code 361 2550 = some (.ireturn, 2551) := pm_of cl361_39 4 (q := (2550, .ireturn, 2551)) rfl
theorem c361_2551 : pm_code 361 2551 = some (.aload_n 1, 2552) := pm_of cl361_39 5 (q := (2551, .aload_n 1, 2552)) rfl
theorem c361_2552 : pm_code 361 2552 = some (.aload_n 0, 2553) := pm_of cl361_39 6 (q := (2552, .aload_n 0, 2553)) rfl
theorem c361_2553 : pm_code 361 2553 = some (.iload 4, 2555) := pm_of cl361_39 7 (q := (2553, .iload 4, 2555)) rfl
theorem c361_2555 : pm_code 361 2555 = some (.iconst 1, 2556) := pm_of cl361_39 8 (q := (2555, .iconst 1, 2556)) rfl
theorem c361_2556 : pm_code 361 2556 = some (.iadd, 2557) := pm_of cl361_39 9 (q := (2556, .iadd, 2557)) rfl
theorem c361_2557 : pm_code 361 2557 = some (.iaload, 2558) := pm_of cl361_39 10 (q := (2557, .iaload, 2558)) rfl
theorem c361_2558 : pm_code 361 2558 = some (.invokevirtual 259, 2561) := pm_of cl361_39 11 (q := (2558, .invokevirtual 259, 2561)) rfl
theorem c361_2561 : pm_code 361 2561 = some (.aload_n 2, 2562) := pm_of cl361_39 12 (q := (2561, .aload_n 2, 2562)) rfl
theorem c361_2562 : pm_code 361 2562 = some (.aload_n 0, 2563) := pm_of cl361_39 13 (q := (2562, .aload_n 0, 2563)) rfl
theorem c361_2563 : pm_code 361 2563 = some (.iload 4, 2565) := pm_of cl361_39 14 (q := (2563, .iload 4, 2565)) rfl
theorem c361_2565 : pm_code 361 2565 = some (.iconst 1, 2566) := pm_of cl361_39 15 (q := (2565, .iconst 1, 2566)) rfl
theorem c361_2566 : pm_code 361 2566 = some (.iadd, 2567) := pm_of cl361_39 16 (q := (2566, .iadd, 2567)) rfl
theorem c361_2567 : pm_code 361 2567 = some (.iaload, 2568) := pm_of cl361_39 17 (q := (2567, .iaload, 2568)) rfl
theorem c361_2568 : pm_code 361 2568 = some (.invokevirtual 262, 2571) := pm_of cl361_39 18 (q := (2568, .invokevirtual 262, 2571)) rfl
theorem c361_2571 : pm_code 361 2571 = some (.if_icmp .eq 5, 2574) := pm_of cl361_39 19 (q := (2571, .if_icmp .eq 5, 2574)) rfl
theorem c361_2574 : pm_code 361 2574 = some (.iconst 0, 2575) := pm_of cl361_39 20 (q := (2574, .iconst 0, 2575)) rfl
theorem c361_2575 : pm_code 361 2575 = some (.ireturn, 2576) := pm_of cl361_39 21 (q := (2575, .ireturn, 2576)) rfl
theorem c361_2576 : pm_code 361 2576 = some (.iinc 4 7, 2579) := pm_of cl361_39 22 (q := (2576, .iinc 4 7, 2579)) rfl
theorem c361_2579 : pm_code 361 2579 = some (.goto (-2556), 2582) := pm_of cl361_39 23 (q := (2579, .goto (-2556), 2582)) rfl
theorem c361_2582 : pm_code 361 2582 = some (.iconst 1, 2583) := pm_of cl361_39 24 (q := (2582, .iconst 1, 2583)) rfl
theorem c361_2583 : pm_code 361 2583 = some (.ireturn, 2584) := pm_of cl361_39 25 (q := (2583, .ireturn, 2584)) rfl
