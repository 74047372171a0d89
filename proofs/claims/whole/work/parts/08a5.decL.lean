theorem dL_law__2461 : decode cL_law_ 2461 = .ok (.iload 4, 2) := by decide +kernel
theorem dL_law__2463 : decode cL_law_ 2463 = .ok (.iconst 2, 1) := by decide +kernel
theorem dL_law__2464 : decode cL_law_ 2464 = .ok (.iadd, 1) := by decide +kernel
theorem dL_law__2465 : decode cL_law_ 2465 = .ok (.iaload, 1) := by decide +kernel
theorem dL_law__2466 : decode cL_law_ 2466 = .ok (.aload_n 3, 1) := by decide +kernel
theorem dL_law__2467 : decode cL_law_ 2467 = .ok (.invokestatic 250, 3) := by decide +kernel
theorem dL_law__2470 : decode cL_law_ 2470 = .ok (.istore 5, 2) := by decide +kernel
theorem dL_law__2472 : decode cL_law_ 2472 = .ok (.aload_n 2, 1) := by decide +kernel
theorem dL_law__2473 : decode cL_law_ 2473 = .ok (.aload_n 0, 1) := by decide +kernel
theorem dL_law__2474 : decode cL_law_ 2474 = .ok (.iload 4, 2) := by decide +kernel
theorem dL_law__2476 : decode cL_law_ 2476 = .ok (.iconst 1, 1) := by decide +kernel
theorem dL_law__2477 : decode cL_law_ 2477 = .ok (.iadd, 1) := by decide +kernel
theorem dL_law__2478 : decode cL_law_ 2478 = .ok (.iaload, 1) := by decide +kernel
theorem dL_law__2479 : decode cL_law_ 2479 = .ok (.aload_n 0, 1) := by decide +kernel
theorem dL_law__2480 : decode cL_law_ 2480 = .ok (.iload 4, 2) := by decide +kernel
theorem dL_law__2482 : decode cL_law_ 2482 = .ok (.iconst 2, 1) := by decide +kernel
theorem dL_law__2483 : decode cL_law_ 2483 = .ok (.iadd, 1) := by decide +kernel
theorem dL_law__2484 : decode cL_law_ 2484 = .ok (.iaload, 1) := by decide +kernel
theorem dL_law__2485 : decode cL_law_ 2485 = .ok (.invokevirtual 252, 3) := by decide +kernel
theorem dL_law__2488 : decode cL_law_ 2488 = .ok (.istore 6, 2) := by decide +kernel
theorem dL_law__2490 : decode cL_law_ 2490 = .ok (.aload_n 2, 1) := by decide +kernel
theorem dL_law__2491 : decode cL_law_ 2491 = .ok (.invokevirtual 137, 3) := by decide +kernel
theorem dL_law__2494 : decode cL_law_ 2494 = .ok (.iload 5, 2) := by decide +kernel
theorem dL_law__2496 : decode cL_law_ 2496 = .ok (.if_icmp .eq 5, 3) := by decide +kernel
theorem dL_law__2499 : decode cL_law_ 2499 = .ok (.iconst 0, 1) := by decide +kernel
theorem dL_law__2500 : decode cL_law_ 2500 = .ok (.ireturn, 1) := by decide +kernel
theorem dL_law__2501 : decode cL_law_ 2501 = .ok (.iload 5, 2) := by decide +kernel
theorem dL_law__2503 : decode cL_law_ 2503 = .ok (.ifCond .ne 15, 3) := by decide +kernel
theorem dL_law__2506 : decode cL_law_ 2506 = .ok (.aload_n 3, 1) := by decide +kernel
theorem dL_law__2507 : decode cL_law_ 2507 = .ok (.iconst 0, 1) := by decide +kernel
theorem dL_law__2508 : decode cL_law_ 2508 = .ok (.laload, 1) := by decide +kernel
theorem dL_law__2509 : decode cL_law_ 2509 = .ok (.iload 6, 2) := by decide +kernel
theorem dL_law__2511 : decode cL_law_ 2511 = .ok (.i2l, 1) := by decide +kernel
theorem dL_law__2512 : decode cL_law_ 2512 = .ok (.lcmp, 1) := by decide +kernel
theorem dL_law__2513 : decode cL_law_ 2513 = .ok (.ifCond .eq 5, 3) := by decide +kernel
theorem dL_law__2516 : decode cL_law_ 2516 = .ok (.iconst 0, 1) := by decide +kernel
theorem dL_law__2517 : decode cL_law_ 2517 = .ok (.ireturn, 1) := by decide +kernel
theorem dL_law__2518 : decode cL_law_ 2518 = .ok (.goto 289, 3) := by decide +kernel
theorem dL_law__2521 : decode cL_law_ 2521 = .ok (.aload_n 1, 1) := by decide +kernel
theorem dL_law__2522 : decode cL_law_ 2522 = .ok (.aload_n 0, 1) := by decide +kernel
theorem dL_law__2523 : decode cL_law_ 2523 = .ok (.iload 4, 2) := by decide +kernel
theorem dL_law__2525 : decode cL_law_ 2525 = .ok (.iconst 1, 1) := by decide +kernel
theorem dL_law__2526 : decode cL_law_ 2526 = .ok (.iadd, 1) := by decide +kernel
theorem dL_law__2527 : decode cL_law_ 2527 = .ok (.iaload, 1) := by decide +kernel
theorem dL_law__2528 : decode cL_law_ 2528 = .ok (.aload_n 0, 1) := by decide +kernel
theorem dL_law__2529 : decode cL_law_ 2529 = .ok (.iload 4, 2) := by decide +kernel
theorem dL_law__2531 : decode cL_law_ 2531 = .ok (.iconst 2, 1) := by decide +kernel
theorem dL_law__2532 : decode cL_law_ 2532 = .ok (.iadd, 1) := by decide +kernel
theorem dL_law__2533 : decode cL_law_ 2533 = .ok (.iaload, 1) := by decide +kernel
theorem dL_law__2534 : decode cL_law_ 2534 = .ok (.aload_n 0, 1) := by decide +kernel
theorem dL_law__2535 : decode cL_law_ 2535 = .ok (.iload 4, 2) := by decide +kernel
theorem dL_law__2537 : decode cL_law_ 2537 = .ok (.iconst 3, 1) := by decide +kernel
theorem dL_law__2538 : decode cL_law_ 2538 = .ok (.iadd, 1) := by decide +kernel
theorem dL_law__2539 : decode cL_law_ 2539 = .ok (.iaload, 1) := by decide +kernel
theorem dL_law__2540 : decode cL_law_ 2540 = .ok (.aload_n 0, 1) := by decide +kernel
theorem dL_law__2541 : decode cL_law_ 2541 = .ok (.iload 4, 2) := by decide +kernel
theorem dL_law__2543 : decode cL_law_ 2543 = .ok (.iconst 4, 1) := by decide +kernel
theorem dL_law__2544 : decode cL_law_ 2544 = .ok (.iadd, 1) := by decide +kernel
theorem dL_law__2545 : decode cL_law_ 2545 = .ok (.iaload, 1) := by decide +kernel
theorem dL_law__2546 : decode cL_law_ 2546 = .ok (.aload_n 3, 1) := by decide +kernel
theorem dL_law__2547 : decode cL_law_ 2547 = .ok (.invokestatic 253, 3) := by decide +kernel
theorem dL_law__2550 : decode cL_law_ 2550 = .ok (.istore 5, 2) := by decide +kernel
theorem dL_law__2552 : decode cL_law_ 2552 = .ok (.aload_n 2, 1) := by decide +kernel
theorem dL_law__2553 : decode cL_law_ 2553 = .ok (.aload_n 0, 1) := by decide +kernel
theorem dL_law__2554 : decode cL_law_ 2554 = .ok (.iload 4, 2) := by decide +kernel
theorem dL_law__2556 : decode cL_law_ 2556 = .ok (.iconst 1, 1) := by decide +kernel
theorem dL_law__2557 : decode cL_law_ 2557 = .ok (.iadd, 1) := by decide +kernel
theorem dL_law__2558 : decode cL_law_ 2558 = .ok (.iaload, 1) := by decide +kernel
theorem dL_law__2559 : decode cL_law_ 2559 = .ok (.aload_n 0, 1) := by decide +kernel
theorem dL_law__2560 : decode cL_law_ 2560 = .ok (.iload 4, 2) := by decide +kernel
theorem dL_law__2562 : decode cL_law_ 2562 = .ok (.iconst 2, 1) := by decide +kernel
theorem dL_law__2563 : decode cL_law_ 2563 = .ok (.iadd, 1) := by decide +kernel
theorem dL_law__2564 : decode cL_law_ 2564 = .ok (.iaload, 1) := by decide +kernel
theorem dL_law__2565 : decode cL_law_ 2565 = .ok (.aload_n 0, 1) := by decide +kernel
theorem dL_law__2566 : decode cL_law_ 2566 = .ok (.iload 4, 2) := by decide +kernel
theorem dL_law__2568 : decode cL_law_ 2568 = .ok (.iconst 3, 1) := by decide +kernel
theorem dL_law__2569 : decode cL_law_ 2569 = .ok (.iadd, 1) := by decide +kernel
theorem dL_law__2570 : decode cL_law_ 2570 = .ok (.iaload, 1) := by decide +kernel
theorem dL_law__2571 : decode cL_law_ 2571 = .ok (.aload_n 0, 1) := by decide +kernel
theorem dL_law__2572 : decode cL_law_ 2572 = .ok (.iload 4, 2) := by decide +kernel
theorem dL_law__2574 : decode cL_law_ 2574 = .ok (.iconst 4, 1) := by decide +kernel
theorem dL_law__2575 : decode cL_law_ 2575 = .ok (.iadd, 1) := by decide +kernel
theorem dL_law__2576 : decode cL_law_ 2576 = .ok (.iaload, 1) := by decide +kernel
theorem dL_law__2577 : decode cL_law_ 2577 = .ok (.invokevirtual 256, 3) := by decide +kernel
theorem dL_law__2580 : decode cL_law_ 2580 = .ok (.istore 6, 2) := by decide +kernel
theorem dL_law__2582 : decode cL_law_ 2582 = .ok (.aload_n 2, 1) := by decide +kernel
theorem dL_law__2583 : decode cL_law_ 2583 = .ok (.invokevirtual 137, 3) := by decide +kernel
theorem dL_law__2586 : decode cL_law_ 2586 = .ok (.iload 5, 2) := by decide +kernel
theorem dL_law__2588 : decode cL_law_ 2588 = .ok (.if_icmp .eq 5, 3) := by decide +kernel
theorem dL_law__2591 : decode cL_law_ 2591 = .ok (.iconst 0, 1) := by decide +kernel
theorem dL_law__2592 : decode cL_law_ 2592 = .ok (.ireturn, 1) := by decide +kernel
theorem dL_law__2593 : decode cL_law_ 2593 = .ok (.iload 5, 2) := by decide +kernel
theorem dL_law__2595 : decode cL_law_ 2595 = .ok (.ifCond .ne 15, 3) := by decide +kernel
theorem dL_law__2598 : decode cL_law_ 2598 = .ok (.aload_n 3, 1) := by decide +kernel
theorem dL_law__2599 : decode cL_law_ 2599 = .ok (.iconst 0, 1) := by decide +kernel
theorem dL_law__2600 : decode cL_law_ 2600 = .ok (.laload, 1) := by decide +kernel
theorem dL_law__2601 : decode cL_law_ 2601 = .ok (.iload 6, 2) := by decide +kernel
theorem dL_law__2603 : decode cL_law_ 2603 = .ok (.i2l, 1) := by decide +kernel
theorem dL_law__2604 : decode cL_law_ 2604 = .ok (.lcmp, 1) := by decide +kernel
theorem dL_law__2605 : decode cL_law_ 2605 = .ok (.ifCond .eq 5, 3) := by decide +kernel
theorem dL_law__2608 : decode cL_law_ 2608 = .ok (.iconst 0, 1) := by decide +kernel
theorem dL_law__2609 : decode cL_law_ 2609 = .ok (.ireturn, 1) := by decide +kernel
theorem dL_law__2610 : decode cL_law_ 2610 = .ok (.goto 197, 3) := by decide +kernel
theorem dL_law__2613 : decode cL_law_ 2613 = .ok (.aload_n 1, 1) := by decide +kernel
theorem dL_law__2614 : decode cL_law_ 2614 = .ok (.aload_n 0, 1) := by decide +kernel
theorem dL_law__2615 : decode cL_law_ 2615 = .ok (.iload 4, 2) := by decide +kernel
theorem dL_law__2617 : decode cL_law_ 2617 = .ok (.iconst 1, 1) := by decide +kernel
theorem dL_law__2618 : decode cL_law_ 2618 = .ok (.iadd, 1) := by decide +kernel
theorem dL_law__2619 : decode cL_law_ 2619 = .ok (.iaload, 1) := by decide +kernel
theorem dL_law__2620 : decode cL_law_ 2620 = .ok (.aload_n 0, 1) := by decide +kernel
theorem dL_law__2621 : decode cL_law_ 2621 = .ok (.iload 4, 2) := by decide +kernel
theorem dL_law__2623 : decode cL_law_ 2623 = .ok (.iconst 2, 1) := by decide +kernel
theorem dL_law__2624 : decode cL_law_ 2624 = .ok (.iadd, 1) := by decide +kernel
theorem dL_law__2625 : decode cL_law_ 2625 = .ok (.iaload, 1) := by decide +kernel
theorem dL_law__2626 : decode cL_law_ 2626 = .ok (.aload_n 0, 1) := by decide +kernel
theorem dL_law__2627 : decode cL_law_ 2627 = .ok (.iload 4, 2) := by decide +kernel
theorem dL_law__2629 : decode cL_law_ 2629 = .ok (.iconst 3, 1) := by decide +kernel
theorem dL_law__2630 : decode cL_law_ 2630 = .ok (.iadd, 1) := by decide +kernel
theorem dL_law__2631 : decode cL_law_ 2631 = .ok (.iaload, 1) := by decide +kernel
theorem dL_law__2632 : decode cL_law_ 2632 = .ok (.aload_n 0, 1) := by decide +kernel
theorem dL_law__2633 : decode cL_law_ 2633 = .ok (.iload 4, 2) := by decide +kernel
theorem dL_law__2635 : decode cL_law_ 2635 = .ok (.iconst 4, 1) := by decide +kernel
theorem dL_law__2636 : decode cL_law_ 2636 = .ok (.iadd, 1) := by decide +kernel
theorem dL_law__2637 : decode cL_law_ 2637 = .ok (.iaload, 1) := by decide +kernel
theorem dL_law__2638 : decode cL_law_ 2638 = .ok (.aload_n 0, 1) := by decide +kernel
theorem dL_law__2639 : decode cL_law_ 2639 = .ok (.iload 4, 2) := by decide +kernel
theorem dL_law__2641 : decode cL_law_ 2641 = .ok (.iconst 5, 1) := by decide +kernel
theorem dL_law__2642 : decode cL_law_ 2642 = .ok (.iadd, 1) := by decide +kernel
theorem dL_law__2643 : decode cL_law_ 2643 = .ok (.iaload, 1) := by decide +kernel
theorem dL_law__2644 : decode cL_law_ 2644 = .ok (.aload_n 0, 1) := by decide +kernel
theorem dL_law__2645 : decode cL_law_ 2645 = .ok (.iload 4, 2) := by decide +kernel
theorem dL_law__2647 : decode cL_law_ 2647 = .ok (.bipush 6, 2) := by decide +kernel
theorem dL_law__2649 : decode cL_law_ 2649 = .ok (.iadd, 1) := by decide +kernel
theorem dL_law__2650 : decode cL_law_ 2650 = .ok (.iaload, 1) := by decide +kernel
theorem dL_law__2651 : decode cL_law_ 2651 = .ok (.aload_n 3, 1) := by decide +kernel
theorem dL_law__2652 : decode cL_law_ 2652 = .ok (.invokestatic 257, 3) := by decide +kernel
theorem dL_law__2655 : decode cL_law_ 2655 = .ok (.istore 5, 2) := by decide +kernel
theorem dL_law__2657 : decode cL_law_ 2657 = .ok (.aload_n 2, 1) := by decide +kernel
theorem dL_law__2658 : decode cL_law_ 2658 = .ok (.aload_n 0, 1) := by decide +kernel
theorem dL_law__2659 : decode cL_law_ 2659 = .ok (.iload 4, 2) := by decide +kernel
theorem dL_law__2661 : decode cL_law_ 2661 = .ok (.iconst 1, 1) := by decide +kernel
theorem dL_law__2662 : decode cL_law_ 2662 = .ok (.iadd, 1) := by decide +kernel
theorem dL_law__2663 : decode cL_law_ 2663 = .ok (.iaload, 1) := by decide +kernel
theorem dL_law__2664 : decode cL_law_ 2664 = .ok (.aload_n 0, 1) := by decide +kernel
theorem dL_law__2665 : decode cL_law_ 2665 = .ok (.iload 4, 2) := by decide +kernel
theorem dL_law__2667 : decode cL_law_ 2667 = .ok (.iconst 2, 1) := by decide +kernel
theorem dL_law__2668 : decode cL_law_ 2668 = .ok (.iadd, 1) := by decide +kernel
theorem dL_law__2669 : decode cL_law_ 2669 = .ok (.iaload, 1) := by decide +kernel
theorem dL_law__2670 : decode cL_law_ 2670 = .ok (.aload_n 0, 1) := by decide +kernel
theorem dL_law__2671 : decode cL_law_ 2671 = .ok (.iload 4, 2) := by decide +kernel
theorem dL_law__2673 : decode cL_law_ 2673 = .ok (.iconst 3, 1) := by decide +kernel
theorem dL_law__2674 : decode cL_law_ 2674 = .ok (.iadd, 1) := by decide +kernel
theorem dL_law__2675 : decode cL_law_ 2675 = .ok (.iaload, 1) := by decide +kernel
theorem dL_law__2676 : decode cL_law_ 2676 = .ok (.aload_n 0, 1) := by decide +kernel
theorem dL_law__2677 : decode cL_law_ 2677 = .ok (.iload 4, 2) := by decide +kernel
theorem dL_law__2679 : decode cL_law_ 2679 = .ok (.iconst 4, 1) := by decide +kernel
theorem dL_law__2680 : decode cL_law_ 2680 = .ok (.iadd, 1) := by decide +kernel
theorem dL_law__2681 : decode cL_law_ 2681 = .ok (.iaload, 1) := by decide +kernel
theorem dL_law__2682 : decode cL_law_ 2682 = .ok (.aload_n 0, 1) := by decide +kernel
theorem dL_law__2683 : decode cL_law_ 2683 = .ok (.iload 4, 2) := by decide +kernel
theorem dL_law__2685 : decode cL_law_ 2685 = .ok (.iconst 5, 1) := by decide +kernel
theorem dL_law__2686 : decode cL_law_ 2686 = .ok (.iadd, 1) := by decide +kernel
theorem dL_law__2687 : decode cL_law_ 2687 = .ok (.iaload, 1) := by decide +kernel
theorem dL_law__2688 : decode cL_law_ 2688 = .ok (.aload_n 0, 1) := by decide +kernel
theorem dL_law__2689 : decode cL_law_ 2689 = .ok (.iload 4, 2) := by decide +kernel
theorem dL_law__2691 : decode cL_law_ 2691 = .ok (.bipush 6, 2) := by decide +kernel
theorem dL_law__2693 : decode cL_law_ 2693 = .ok (.iadd, 1) := by decide +kernel
theorem dL_law__2694 : decode cL_law_ 2694 = .ok (.iaload, 1) := by decide +kernel
theorem dL_law__2695 : decode cL_law_ 2695 = .ok (.invokevirtual 260, 3) := by decide +kernel
theorem dL_law__2698 : decode cL_law_ 2698 = .ok (.istore 6, 2) := by decide +kernel
theorem dL_law__2700 : decode cL_law_ 2700 = .ok (.aload_n 2, 1) := by decide +kernel
theorem dL_law__2701 : decode cL_law_ 2701 = .ok (.invokevirtual 137, 3) := by decide +kernel
theorem dL_law__2704 : decode cL_law_ 2704 = .ok (.iload 5, 2) := by decide +kernel
theorem dL_law__2706 : decode cL_law_ 2706 = .ok (.if_icmp .eq 5, 3) := by decide +kernel
theorem dL_law__2709 : decode cL_law_ 2709 = .ok (.iconst 0, 1) := by decide +kernel
theorem dL_law__2710 : decode cL_law_ 2710 = .ok (.ireturn, 1) := by decide +kernel
theorem dL_law__2711 : decode cL_law_ 2711 = .ok (.iload 5, 2) := by decide +kernel
theorem dL_law__2713 : decode cL_law_ 2713 = .ok (.ifCond .ne 15, 3) := by decide +kernel
theorem dL_law__2716 : decode cL_law_ 2716 = .ok (.aload_n 3, 1) := by decide +kernel
theorem dL_law__2717 : decode cL_law_ 2717 = .ok (.iconst 0, 1) := by decide +kernel
theorem dL_law__2718 : decode cL_law_ 2718 = .ok (.laload, 1) := by decide +kernel
theorem dL_law__2719 : decode cL_law_ 2719 = .ok (.iload 6, 2) := by decide +kernel
theorem dL_law__2721 : decode cL_law_ 2721 = .ok (.i2l, 1) := by decide +kernel
theorem dL_law__2722 : decode cL_law_ 2722 = .ok (.lcmp, 1) := by decide +kernel
theorem dL_law__2723 : decode cL_law_ 2723 = .ok (.ifCond .eq 5, 3) := by decide +kernel
theorem dL_law__2726 : decode cL_law_ 2726 = .ok (.iconst 0, 1) := by decide +kernel
theorem dL_law__2727 : decode cL_law_ 2727 = .ok (.ireturn, 1) := by decide +kernel
theorem dL_law__2728 : decode cL_law_ 2728 = .ok (.goto 79, 3) := by decide +kernel
theorem dL_law__2731 : decode cL_law_ 2731 = .ok (.aload_n 1, 1) := by decide +kernel
theorem dL_law__2732 : decode cL_law_ 2732 = .ok (.invokevirtual 261, 3) := by decide +kernel
theorem dL_law__2735 : decode cL_law_ 2735 = .ok (.aload_n 2, 1) := by decide +kernel
theorem dL_law__2736 : decode cL_law_ 2736 = .ok (.invokevirtual 264, 3) := by decide +kernel
theorem dL_law__2739 : decode cL_law_ 2739 = .ok (.if_icmp .eq 68, 3) := by decide +kernel
theorem dL_law__2742 : decode cL_law_ 2742 = .ok (.iconst 0, 1) := by decide +kernel
theorem dL_law__2743 : decode cL_law_ 2743 = .ok (.ireturn, 1) := by decide +kernel
theorem dL_law__2744 : decode cL_law_ 2744 = .ok (.aload_n 1, 1) := by decide +kernel
theorem dL_law__2745 : decode cL_law_ 2745 = .ok (.invokevirtual 265, 3) := by decide +kernel
theorem dL_law__2748 : decode cL_law_ 2748 = .ok (.aload_n 2, 1) := by decide +kernel
theorem dL_law__2749 : decode cL_law_ 2749 = .ok (.invokevirtual 268, 3) := by decide +kernel
theorem dL_law__2752 : decode cL_law_ 2752 = .ok (.if_icmp .eq 55, 3) := by decide +kernel
theorem dL_law__2755 : decode cL_law_ 2755 = .ok (.iconst 0, 1) := by decide +kernel
theorem dL_law__2756 : decode cL_law_ 2756 = .ok (.ireturn, 1) := by decide +kernel
theorem dL_law__2757 : decode cL_law_ 2757 = .ok (.aload_n 1, 1) := by decide +kernel
theorem dL_law__2758 : decode cL_law_ 2758 = .ok (.aload_n 0, 1) := by decide +kernel
theorem dL_law__2759 : decode cL_law_ 2759 = .ok (.iload 4, 2) := by decide +kernel
theorem dL_law__2761 : decode cL_law_ 2761 = .ok (.iconst 1, 1) := by decide +kernel
theorem dL_law__2762 : decode cL_law_ 2762 = .ok (.iadd, 1) := by decide +kernel
theorem dL_law__2763 : decode cL_law_ 2763 = .ok (.iaload, 1) := by decide +kernel
theorem dL_law__2764 : decode cL_law_ 2764 = .ok (.invokevirtual 269, 3) := by decide +kernel
theorem dL_law__2767 : decode cL_law_ 2767 = .ok (.aload_n 2, 1) := by decide +kernel
theorem dL_law__2768 : decode cL_law_ 2768 = .ok (.aload_n 0, 1) := by decide +kernel
theorem dL_law__2769 : decode cL_law_ 2769 = .ok (.iload 4, 2) := by decide +kernel
theorem dL_law__2771 : decode cL_law_ 2771 = .ok (.iconst 1, 1) := by decide +kernel
theorem dL_law__2772 : decode cL_law_ 2772 = .ok (.iadd, 1) := by decide +kernel
theorem dL_law__2773 : decode cL_law_ 2773 = .ok (.iaload, 1) := by decide +kernel
theorem dL_law__2774 : decode cL_law_ 2774 = .ok (.invokevirtual 272, 3) := by decide +kernel
theorem dL_law__2777 : decode cL_law_ 2777 = .ok (.if_icmp .eq 30, 3) := by decide +kernel
theorem dL_law__2780 : decode cL_law_ 2780 = .ok (.iconst 0, 1) := by decide +kernel
theorem dL_law__2781 : decode cL_law_ 2781 = .ok (.ireturn, 1) := by decide +kernel
theorem dL_law__2782 : decode cL_law_ 2782 = .ok (.aload_n 1, 1) := by decide +kernel
theorem dL_law__2783 : decode cL_law_ 2783 = .ok (.aload_n 0, 1) := by decide +kernel
theorem dL_law__2784 : decode cL_law_ 2784 = .ok (.iload 4, 2) := by decide +kernel
theorem dL_law__2786 : decode cL_law_ 2786 = .ok (.iconst 1, 1) := by decide +kernel
theorem dL_law__2787 : decode cL_law_ 2787 = .ok (.iadd, 1) := by decide +kernel
theorem dL_law__2788 : decode cL_law_ 2788 = .ok (.iaload, 1) := by decide +kernel
theorem dL_law__2789 : decode cL_law_ 2789 = .ok (.invokevirtual 273, 3) := by decide +kernel
theorem dL_law__2792 : decode cL_law_ 2792 = .ok (.aload_n 2, 1) := by decide +kernel
theorem dL_law__2793 : decode cL_law_ 2793 = .ok (.aload_n 0, 1) := by decide +kernel
theorem dL_law__2794 : decode cL_law_ 2794 = .ok (.iload 4, 2) := by decide +kernel
theorem dL_law__2796 : decode cL_law_ 2796 = .ok (.iconst 1, 1) := by decide +kernel
theorem dL_law__2797 : decode cL_law_ 2797 = .ok (.iadd, 1) := by decide +kernel
theorem dL_law__2798 : decode cL_law_ 2798 = .ok (.iaload, 1) := by decide +kernel
theorem dL_law__2799 : decode cL_law_ 2799 = .ok (.invokevirtual 276, 3) := by decide +kernel
theorem dL_law__2802 : decode cL_law_ 2802 = .ok (.if_icmp .eq 5, 3) := by decide +kernel
theorem dL_law__2805 : decode cL_law_ 2805 = .ok (.iconst 0, 1) := by decide +kernel
theorem dL_law__2806 : decode cL_law_ 2806 = .ok (.ireturn, 1) := by decide +kernel
theorem dL_law__2807 : decode cL_law_ 2807 = .ok (.iinc 4 9, 3) := by decide +kernel
theorem dL_law__2810 : decode cL_law_ 2810 = .ok (.goto (-2787), 3) := by decide +kernel
theorem dL_law__2813 : decode cL_law_ 2813 = .ok (.iconst 1, 1) := by decide +kernel
theorem dL_law__2814 : decode cL_law_ 2814 = .ok (.ireturn, 1) := by decide +kernel
