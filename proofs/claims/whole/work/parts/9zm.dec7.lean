/-! the law's decode rows -/
theorem dL_law__2476 : decode cL_law_ 2476 = .ok (.ifCond .ne 15, 3) := by decide +kernel
theorem dL_law__2479 : decode cL_law_ 2479 = .ok (.aload_n 3, 1) := by decide +kernel
theorem dL_law__2480 : decode cL_law_ 2480 = .ok (.iconst 0, 1) := by decide +kernel
theorem dL_law__2481 : decode cL_law_ 2481 = .ok (.laload, 1) := by decide +kernel
theorem dL_law__2482 : decode cL_law_ 2482 = .ok (.iload 6, 2) := by decide +kernel
theorem dL_law__2484 : decode cL_law_ 2484 = .ok (.i2l, 1) := by decide +kernel
theorem dL_law__2485 : decode cL_law_ 2485 = .ok (.lcmp, 1) := by decide +kernel
theorem dL_law__2486 : decode cL_law_ 2486 = .ok (.ifCond .eq 5, 3) := by decide +kernel
theorem dL_law__2489 : decode cL_law_ 2489 = .ok (.iconst 0, 1) := by decide +kernel
theorem dL_law__2490 : decode cL_law_ 2490 = .ok (.ireturn, 1) := by decide +kernel
theorem dL_law__2491 : decode cL_law_ 2491 = .ok (.goto 307, 3) := by decide +kernel
theorem dL_law__2494 : decode cL_law_ 2494 = .ok (.aload_n 1, 1) := by decide +kernel
theorem dL_law__2495 : decode cL_law_ 2495 = .ok (.aload_n 0, 1) := by decide +kernel
theorem dL_law__2496 : decode cL_law_ 2496 = .ok (.iload 4, 2) := by decide +kernel
theorem dL_law__2498 : decode cL_law_ 2498 = .ok (.iconst 1, 1) := by decide +kernel
theorem dL_law__2499 : decode cL_law_ 2499 = .ok (.iadd, 1) := by decide +kernel
theorem dL_law__2500 : decode cL_law_ 2500 = .ok (.iaload, 1) := by decide +kernel
theorem dL_law__2501 : decode cL_law_ 2501 = .ok (.aload_n 0, 1) := by decide +kernel
theorem dL_law__2502 : decode cL_law_ 2502 = .ok (.iload 4, 2) := by decide +kernel
theorem dL_law__2504 : decode cL_law_ 2504 = .ok (.iconst 2, 1) := by decide +kernel
theorem dL_law__2505 : decode cL_law_ 2505 = .ok (.iadd, 1) := by decide +kernel
theorem dL_law__2506 : decode cL_law_ 2506 = .ok (.iaload, 1) := by decide +kernel
theorem dL_law__2507 : decode cL_law_ 2507 = .ok (.aload_n 3, 1) := by decide +kernel
theorem dL_law__2508 : decode cL_law_ 2508 = .ok (.invokestatic 252, 3) := by decide +kernel
theorem dL_law__2511 : decode cL_law_ 2511 = .ok (.istore 5, 2) := by decide +kernel
theorem dL_law__2513 : decode cL_law_ 2513 = .ok (.aload_n 2, 1) := by decide +kernel
theorem dL_law__2514 : decode cL_law_ 2514 = .ok (.aload_n 0, 1) := by decide +kernel
theorem dL_law__2515 : decode cL_law_ 2515 = .ok (.iload 4, 2) := by decide +kernel
theorem dL_law__2517 : decode cL_law_ 2517 = .ok (.iconst 1, 1) := by decide +kernel
theorem dL_law__2518 : decode cL_law_ 2518 = .ok (.iadd, 1) := by decide +kernel
theorem dL_law__2519 : decode cL_law_ 2519 = .ok (.iaload, 1) := by decide +kernel
theorem dL_law__2520 : decode cL_law_ 2520 = .ok (.aload_n 0, 1) := by decide +kernel
theorem dL_law__2521 : decode cL_law_ 2521 = .ok (.iload 4, 2) := by decide +kernel
theorem dL_law__2523 : decode cL_law_ 2523 = .ok (.iconst 2, 1) := by decide +kernel
theorem dL_law__2524 : decode cL_law_ 2524 = .ok (.iadd, 1) := by decide +kernel
theorem dL_law__2525 : decode cL_law_ 2525 = .ok (.iaload, 1) := by decide +kernel
theorem dL_law__2526 : decode cL_law_ 2526 = .ok (.invokevirtual 254, 3) := by decide +kernel
theorem dL_law__2529 : decode cL_law_ 2529 = .ok (.istore 6, 2) := by decide +kernel
theorem dL_law__2531 : decode cL_law_ 2531 = .ok (.aload_n 2, 1) := by decide +kernel
theorem dL_law__2532 : decode cL_law_ 2532 = .ok (.invokevirtual 142, 3) := by decide +kernel
theorem dL_law__2535 : decode cL_law_ 2535 = .ok (.iload 5, 2) := by decide +kernel
theorem dL_law__2537 : decode cL_law_ 2537 = .ok (.if_icmp .eq 5, 3) := by decide +kernel
theorem dL_law__2540 : decode cL_law_ 2540 = .ok (.iconst 0, 1) := by decide +kernel
theorem dL_law__2541 : decode cL_law_ 2541 = .ok (.ireturn, 1) := by decide +kernel
theorem dL_law__2542 : decode cL_law_ 2542 = .ok (.iload 5, 2) := by decide +kernel
theorem dL_law__2544 : decode cL_law_ 2544 = .ok (.ifCond .ne 15, 3) := by decide +kernel
theorem dL_law__2547 : decode cL_law_ 2547 = .ok (.aload_n 3, 1) := by decide +kernel
theorem dL_law__2548 : decode cL_law_ 2548 = .ok (.iconst 0, 1) := by decide +kernel
theorem dL_law__2549 : decode cL_law_ 2549 = .ok (.laload, 1) := by decide +kernel
theorem dL_law__2550 : decode cL_law_ 2550 = .ok (.iload 6, 2) := by decide +kernel
theorem dL_law__2552 : decode cL_law_ 2552 = .ok (.i2l, 1) := by decide +kernel
theorem dL_law__2553 : decode cL_law_ 2553 = .ok (.lcmp, 1) := by decide +kernel
theorem dL_law__2554 : decode cL_law_ 2554 = .ok (.ifCond .eq 5, 3) := by decide +kernel
theorem dL_law__2557 : decode cL_law_ 2557 = .ok (.iconst 0, 1) := by decide +kernel
theorem dL_law__2558 : decode cL_law_ 2558 = .ok (.ireturn, 1) := by decide +kernel
theorem dL_law__2559 : decode cL_law_ 2559 = .ok (.goto 239, 3) := by decide +kernel
theorem dL_law__2562 : decode cL_law_ 2562 = .ok (.aload_n 1, 1) := by decide +kernel
theorem dL_law__2563 : decode cL_law_ 2563 = .ok (.aload_n 0, 1) := by decide +kernel
theorem dL_law__2564 : decode cL_law_ 2564 = .ok (.iload 4, 2) := by decide +kernel
theorem dL_law__2566 : decode cL_law_ 2566 = .ok (.iconst 1, 1) := by decide +kernel
theorem dL_law__2567 : decode cL_law_ 2567 = .ok (.iadd, 1) := by decide +kernel
theorem dL_law__2568 : decode cL_law_ 2568 = .ok (.iaload, 1) := by decide +kernel
theorem dL_law__2569 : decode cL_law_ 2569 = .ok (.aload_n 0, 1) := by decide +kernel
theorem dL_law__2570 : decode cL_law_ 2570 = .ok (.iload 4, 2) := by decide +kernel
theorem dL_law__2572 : decode cL_law_ 2572 = .ok (.iconst 2, 1) := by decide +kernel
theorem dL_law__2573 : decode cL_law_ 2573 = .ok (.iadd, 1) := by decide +kernel
theorem dL_law__2574 : decode cL_law_ 2574 = .ok (.iaload, 1) := by decide +kernel
theorem dL_law__2575 : decode cL_law_ 2575 = .ok (.aload_n 3, 1) := by decide +kernel
theorem dL_law__2576 : decode cL_law_ 2576 = .ok (.invokestatic 255, 3) := by decide +kernel
theorem dL_law__2579 : decode cL_law_ 2579 = .ok (.istore 5, 2) := by decide +kernel
theorem dL_law__2581 : decode cL_law_ 2581 = .ok (.aload_n 2, 1) := by decide +kernel
theorem dL_law__2582 : decode cL_law_ 2582 = .ok (.aload_n 0, 1) := by decide +kernel
theorem dL_law__2583 : decode cL_law_ 2583 = .ok (.iload 4, 2) := by decide +kernel
theorem dL_law__2585 : decode cL_law_ 2585 = .ok (.iconst 1, 1) := by decide +kernel
theorem dL_law__2586 : decode cL_law_ 2586 = .ok (.iadd, 1) := by decide +kernel
theorem dL_law__2587 : decode cL_law_ 2587 = .ok (.iaload, 1) := by decide +kernel
theorem dL_law__2588 : decode cL_law_ 2588 = .ok (.aload_n 0, 1) := by decide +kernel
theorem dL_law__2589 : decode cL_law_ 2589 = .ok (.iload 4, 2) := by decide +kernel
theorem dL_law__2591 : decode cL_law_ 2591 = .ok (.iconst 2, 1) := by decide +kernel
theorem dL_law__2592 : decode cL_law_ 2592 = .ok (.iadd, 1) := by decide +kernel
theorem dL_law__2593 : decode cL_law_ 2593 = .ok (.iaload, 1) := by decide +kernel
theorem dL_law__2594 : decode cL_law_ 2594 = .ok (.invokevirtual 257, 3) := by decide +kernel
theorem dL_law__2597 : decode cL_law_ 2597 = .ok (.istore 6, 2) := by decide +kernel
theorem dL_law__2599 : decode cL_law_ 2599 = .ok (.aload_n 2, 1) := by decide +kernel
theorem dL_law__2600 : decode cL_law_ 2600 = .ok (.invokevirtual 142, 3) := by decide +kernel
theorem dL_law__2603 : decode cL_law_ 2603 = .ok (.iload 5, 2) := by decide +kernel
theorem dL_law__2605 : decode cL_law_ 2605 = .ok (.if_icmp .eq 5, 3) := by decide +kernel
theorem dL_law__2608 : decode cL_law_ 2608 = .ok (.iconst 0, 1) := by decide +kernel
theorem dL_law__2609 : decode cL_law_ 2609 = .ok (.ireturn, 1) := by decide +kernel
theorem dL_law__2610 : decode cL_law_ 2610 = .ok (.iload 5, 2) := by decide +kernel
theorem dL_law__2612 : decode cL_law_ 2612 = .ok (.ifCond .ne 15, 3) := by decide +kernel
theorem dL_law__2615 : decode cL_law_ 2615 = .ok (.aload_n 3, 1) := by decide +kernel
theorem dL_law__2616 : decode cL_law_ 2616 = .ok (.iconst 0, 1) := by decide +kernel
theorem dL_law__2617 : decode cL_law_ 2617 = .ok (.laload, 1) := by decide +kernel
theorem dL_law__2618 : decode cL_law_ 2618 = .ok (.iload 6, 2) := by decide +kernel
theorem dL_law__2620 : decode cL_law_ 2620 = .ok (.i2l, 1) := by decide +kernel
theorem dL_law__2621 : decode cL_law_ 2621 = .ok (.lcmp, 1) := by decide +kernel
theorem dL_law__2622 : decode cL_law_ 2622 = .ok (.ifCond .eq 5, 3) := by decide +kernel
theorem dL_law__2625 : decode cL_law_ 2625 = .ok (.iconst 0, 1) := by decide +kernel
theorem dL_law__2626 : decode cL_law_ 2626 = .ok (.ireturn, 1) := by decide +kernel
theorem dL_law__2627 : decode cL_law_ 2627 = .ok (.goto 171, 3) := by decide +kernel
theorem dL_law__2630 : decode cL_law_ 2630 = .ok (.aload_n 1, 1) := by decide +kernel
theorem dL_law__2631 : decode cL_law_ 2631 = .ok (.aload_n 0, 1) := by decide +kernel
theorem dL_law__2632 : decode cL_law_ 2632 = .ok (.iload 4, 2) := by decide +kernel
theorem dL_law__2634 : decode cL_law_ 2634 = .ok (.iconst 1, 1) := by decide +kernel
theorem dL_law__2635 : decode cL_law_ 2635 = .ok (.iadd, 1) := by decide +kernel
theorem dL_law__2636 : decode cL_law_ 2636 = .ok (.iaload, 1) := by decide +kernel
theorem dL_law__2637 : decode cL_law_ 2637 = .ok (.aload_n 0, 1) := by decide +kernel
theorem dL_law__2638 : decode cL_law_ 2638 = .ok (.iload 4, 2) := by decide +kernel
theorem dL_law__2640 : decode cL_law_ 2640 = .ok (.iconst 2, 1) := by decide +kernel
theorem dL_law__2641 : decode cL_law_ 2641 = .ok (.iadd, 1) := by decide +kernel
theorem dL_law__2642 : decode cL_law_ 2642 = .ok (.iaload, 1) := by decide +kernel
theorem dL_law__2643 : decode cL_law_ 2643 = .ok (.aload_n 3, 1) := by decide +kernel
theorem dL_law__2644 : decode cL_law_ 2644 = .ok (.invokestatic 258, 3) := by decide +kernel
theorem dL_law__2647 : decode cL_law_ 2647 = .ok (.istore 5, 2) := by decide +kernel
theorem dL_law__2649 : decode cL_law_ 2649 = .ok (.aload_n 2, 1) := by decide +kernel
theorem dL_law__2650 : decode cL_law_ 2650 = .ok (.aload_n 0, 1) := by decide +kernel
theorem dL_law__2651 : decode cL_law_ 2651 = .ok (.iload 4, 2) := by decide +kernel
theorem dL_law__2653 : decode cL_law_ 2653 = .ok (.iconst 1, 1) := by decide +kernel
theorem dL_law__2654 : decode cL_law_ 2654 = .ok (.iadd, 1) := by decide +kernel
theorem dL_law__2655 : decode cL_law_ 2655 = .ok (.iaload, 1) := by decide +kernel
theorem dL_law__2656 : decode cL_law_ 2656 = .ok (.aload_n 0, 1) := by decide +kernel
theorem dL_law__2657 : decode cL_law_ 2657 = .ok (.iload 4, 2) := by decide +kernel
theorem dL_law__2659 : decode cL_law_ 2659 = .ok (.iconst 2, 1) := by decide +kernel
theorem dL_law__2660 : decode cL_law_ 2660 = .ok (.iadd, 1) := by decide +kernel
theorem dL_law__2661 : decode cL_law_ 2661 = .ok (.iaload, 1) := by decide +kernel
theorem dL_law__2662 : decode cL_law_ 2662 = .ok (.invokevirtual 260, 3) := by decide +kernel
theorem dL_law__2665 : decode cL_law_ 2665 = .ok (.istore 6, 2) := by decide +kernel
theorem dL_law__2667 : decode cL_law_ 2667 = .ok (.aload_n 2, 1) := by decide +kernel
theorem dL_law__2668 : decode cL_law_ 2668 = .ok (.invokevirtual 142, 3) := by decide +kernel
theorem dL_law__2671 : decode cL_law_ 2671 = .ok (.iload 5, 2) := by decide +kernel
theorem dL_law__2673 : decode cL_law_ 2673 = .ok (.if_icmp .eq 5, 3) := by decide +kernel
theorem dL_law__2676 : decode cL_law_ 2676 = .ok (.iconst 0, 1) := by decide +kernel
theorem dL_law__2677 : decode cL_law_ 2677 = .ok (.ireturn, 1) := by decide +kernel
theorem dL_law__2678 : decode cL_law_ 2678 = .ok (.iload 5, 2) := by decide +kernel
theorem dL_law__2680 : decode cL_law_ 2680 = .ok (.ifCond .ne 15, 3) := by decide +kernel
theorem dL_law__2683 : decode cL_law_ 2683 = .ok (.aload_n 3, 1) := by decide +kernel
theorem dL_law__2684 : decode cL_law_ 2684 = .ok (.iconst 0, 1) := by decide +kernel
theorem dL_law__2685 : decode cL_law_ 2685 = .ok (.laload, 1) := by decide +kernel
theorem dL_law__2686 : decode cL_law_ 2686 = .ok (.iload 6, 2) := by decide +kernel
theorem dL_law__2688 : decode cL_law_ 2688 = .ok (.i2l, 1) := by decide +kernel
theorem dL_law__2689 : decode cL_law_ 2689 = .ok (.lcmp, 1) := by decide +kernel
theorem dL_law__2690 : decode cL_law_ 2690 = .ok (.ifCond .eq 5, 3) := by decide +kernel
theorem dL_law__2693 : decode cL_law_ 2693 = .ok (.iconst 0, 1) := by decide +kernel
theorem dL_law__2694 : decode cL_law_ 2694 = .ok (.ireturn, 1) := by decide +kernel
theorem dL_law__2695 : decode cL_law_ 2695 = .ok (.goto 103, 3) := by decide +kernel
theorem dL_law__2698 : decode cL_law_ 2698 = .ok (.aload_n 1, 1) := by decide +kernel
theorem dL_law__2699 : decode cL_law_ 2699 = .ok (.invokevirtual 261, 3) := by decide +kernel
theorem dL_law__2702 : decode cL_law_ 2702 = .ok (.aload_n 2, 1) := by decide +kernel
theorem dL_law__2703 : decode cL_law_ 2703 = .ok (.invokevirtual 264, 3) := by decide +kernel
theorem dL_law__2706 : decode cL_law_ 2706 = .ok (.if_icmp .eq 92, 3) := by decide +kernel
theorem dL_law__2709 : decode cL_law_ 2709 = .ok (.iconst 0, 1) := by decide +kernel
theorem dL_law__2710 : decode cL_law_ 2710 = .ok (.ireturn, 1) := by decide +kernel
theorem dL_law__2711 : decode cL_law_ 2711 = .ok (.aload_n 1, 1) := by decide +kernel
theorem dL_law__2712 : decode cL_law_ 2712 = .ok (.aload_n 0, 1) := by decide +kernel
theorem dL_law__2713 : decode cL_law_ 2713 = .ok (.iload 4, 2) := by decide +kernel
theorem dL_law__2715 : decode cL_law_ 2715 = .ok (.iconst 1, 1) := by decide +kernel
theorem dL_law__2716 : decode cL_law_ 2716 = .ok (.iadd, 1) := by decide +kernel
theorem dL_law__2717 : decode cL_law_ 2717 = .ok (.iaload, 1) := by decide +kernel
theorem dL_law__2718 : decode cL_law_ 2718 = .ok (.invokevirtual 265, 3) := by decide +kernel
theorem dL_law__2721 : decode cL_law_ 2721 = .ok (.aload_n 2, 1) := by decide +kernel
theorem dL_law__2722 : decode cL_law_ 2722 = .ok (.aload_n 0, 1) := by decide +kernel
theorem dL_law__2723 : decode cL_law_ 2723 = .ok (.iload 4, 2) := by decide +kernel
theorem dL_law__2725 : decode cL_law_ 2725 = .ok (.iconst 1, 1) := by decide +kernel
theorem dL_law__2726 : decode cL_law_ 2726 = .ok (.iadd, 1) := by decide +kernel
theorem dL_law__2727 : decode cL_law_ 2727 = .ok (.iaload, 1) := by decide +kernel
theorem dL_law__2728 : decode cL_law_ 2728 = .ok (.invokevirtual 268, 3) := by decide +kernel
theorem dL_law__2731 : decode cL_law_ 2731 = .ok (.if_icmp .eq 67, 3) := by decide +kernel
theorem dL_law__2734 : decode cL_law_ 2734 = .ok (.iconst 0, 1) := by decide +kernel
theorem dL_law__2735 : decode cL_law_ 2735 = .ok (.ireturn, 1) := by decide +kernel
theorem dL_law__2736 : decode cL_law_ 2736 = .ok (.aload_n 1, 1) := by decide +kernel
theorem dL_law__2737 : decode cL_law_ 2737 = .ok (.invokevirtual 269, 3) := by decide +kernel
theorem dL_law__2740 : decode cL_law_ 2740 = .ok (.aload_n 2, 1) := by decide +kernel
theorem dL_law__2741 : decode cL_law_ 2741 = .ok (.invokevirtual 273, 3) := by decide +kernel
theorem dL_law__2744 : decode cL_law_ 2744 = .ok (.if_icmp .eq 54, 3) := by decide +kernel
theorem dL_law__2747 : decode cL_law_ 2747 = .ok (.iconst 0, 1) := by decide +kernel
theorem dL_law__2748 : decode cL_law_ 2748 = .ok (.ireturn, 1) := by decide +kernel
theorem dL_law__2749 : decode cL_law_ 2749 = .ok (.aload_n 1, 1) := by decide +kernel
theorem dL_law__2750 : decode cL_law_ 2750 = .ok (.invokevirtual 274, 3) := by decide +kernel
theorem dL_law__2753 : decode cL_law_ 2753 = .ok (.aload_n 2, 1) := by decide +kernel
theorem dL_law__2754 : decode cL_law_ 2754 = .ok (.invokevirtual 277, 3) := by decide +kernel
theorem dL_law__2757 : decode cL_law_ 2757 = .ok (.goto 41, 3) := by decide +kernel
theorem dL_law__2760 : decode cL_law_ 2760 = .ok (.aload_n 1, 1) := by decide +kernel
theorem dL_law__2761 : decode cL_law_ 2761 = .ok (.invokevirtual 278, 3) := by decide +kernel
theorem dL_law__2764 : decode cL_law_ 2764 = .ok (.aload_n 2, 1) := by decide +kernel
theorem dL_law__2765 : decode cL_law_ 2765 = .ok (.invokevirtual 281, 3) := by decide +kernel
theorem dL_law__2768 : decode cL_law_ 2768 = .ok (.if_icmp .eq 30, 3) := by decide +kernel
theorem dL_law__2771 : decode cL_law_ 2771 = .ok (.iconst 0, 1) := by decide +kernel
theorem dL_law__2772 : decode cL_law_ 2772 = .ok (.ireturn, 1) := by decide +kernel
theorem dL_law__2773 : decode cL_law_ 2773 = .ok (.aload_n 1, 1) := by decide +kernel
theorem dL_law__2774 : decode cL_law_ 2774 = .ok (.aload_n 0, 1) := by decide +kernel
theorem dL_law__2775 : decode cL_law_ 2775 = .ok (.iload 4, 2) := by decide +kernel
theorem dL_law__2777 : decode cL_law_ 2777 = .ok (.iconst 1, 1) := by decide +kernel
theorem dL_law__2778 : decode cL_law_ 2778 = .ok (.iadd, 1) := by decide +kernel
theorem dL_law__2779 : decode cL_law_ 2779 = .ok (.iaload, 1) := by decide +kernel
theorem dL_law__2780 : decode cL_law_ 2780 = .ok (.invokevirtual 282, 3) := by decide +kernel
theorem dL_law__2783 : decode cL_law_ 2783 = .ok (.aload_n 2, 1) := by decide +kernel
theorem dL_law__2784 : decode cL_law_ 2784 = .ok (.aload_n 0, 1) := by decide +kernel
theorem dL_law__2785 : decode cL_law_ 2785 = .ok (.iload 4, 2) := by decide +kernel
theorem dL_law__2787 : decode cL_law_ 2787 = .ok (.iconst 1, 1) := by decide +kernel
theorem dL_law__2788 : decode cL_law_ 2788 = .ok (.iadd, 1) := by decide +kernel
theorem dL_law__2789 : decode cL_law_ 2789 = .ok (.iaload, 1) := by decide +kernel
theorem dL_law__2790 : decode cL_law_ 2790 = .ok (.invokevirtual 285, 3) := by decide +kernel
theorem dL_law__2793 : decode cL_law_ 2793 = .ok (.if_icmp .eq 5, 3) := by decide +kernel
theorem dL_law__2796 : decode cL_law_ 2796 = .ok (.iconst 0, 1) := by decide +kernel
theorem dL_law__2797 : decode cL_law_ 2797 = .ok (.ireturn, 1) := by decide +kernel
theorem dL_law__2798 : decode cL_law_ 2798 = .ok (.iinc 4 6, 3) := by decide +kernel
theorem dL_law__2801 : decode cL_law_ 2801 = .ok (.goto (-2778), 3) := by decide +kernel
theorem dL_law__2804 : decode cL_law_ 2804 = .ok (.iconst 1, 1) := by decide +kernel
theorem dL_law__2805 : decode cL_law_ 2805 = .ok (.ireturn, 1) := by decide +kernel
