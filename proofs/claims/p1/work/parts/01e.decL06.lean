theorem ni_dL_law_2553 : decode cL_law 2553 = .ok (.aload_n 0, 1) := by decide +kernel
theorem ni_dL_law_2554 : decode cL_law 2554 = .ok (.iload 5, 2) := by decide +kernel
theorem ni_dL_law_2556 : decode cL_law 2556 = .ok (.iconst 2, 1) := by decide +kernel
theorem ni_dL_law_2557 : decode cL_law 2557 = .ok (.iadd, 1) := by decide +kernel
theorem ni_dL_law_2558 : decode cL_law 2558 = .ok (.iaload, 1) := by decide +kernel
theorem ni_dL_law_2559 : decode cL_law 2559 = .ok (.ifCond .eq 7, 3) := by decide +kernel
theorem ni_dL_law_2562 : decode cL_law 2562 = .ok (.iconst 1, 1) := by decide +kernel
theorem ni_dL_law_2563 : decode cL_law 2563 = .ok (.goto 4, 3) := by decide +kernel
theorem ni_dL_law_2566 : decode cL_law 2566 = .ok (.iconst 0, 1) := by decide +kernel
theorem ni_dL_law_2567 : decode cL_law 2567 = .ok (.aload_n 0, 1) := by decide +kernel
theorem ni_dL_law_2568 : decode cL_law 2568 = .ok (.iload 5, 2) := by decide +kernel
theorem ni_dL_law_2570 : decode cL_law 2570 = .ok (.iconst 3, 1) := by decide +kernel
theorem ni_dL_law_2571 : decode cL_law 2571 = .ok (.iadd, 1) := by decide +kernel
theorem ni_dL_law_2572 : decode cL_law 2572 = .ok (.iaload, 1) := by decide +kernel
theorem ni_dL_law_2573 : decode cL_law 2573 = .ok (.aload_n 3, 1) := by decide +kernel
theorem ni_dL_law_2574 : decode cL_law 2574 = .ok (.invokestatic 290, 3) := by decide +kernel
theorem ni_dL_law_2577 : decode cL_law 2577 = .ok (.istore 6, 2) := by decide +kernel
theorem ni_dL_law_2579 : decode cL_law 2579 = .ok (.aload_n 2, 1) := by decide +kernel
theorem ni_dL_law_2580 : decode cL_law 2580 = .ok (.aload_n 0, 1) := by decide +kernel
theorem ni_dL_law_2581 : decode cL_law 2581 = .ok (.iload 5, 2) := by decide +kernel
theorem ni_dL_law_2583 : decode cL_law 2583 = .ok (.iconst 1, 1) := by decide +kernel
theorem ni_dL_law_2584 : decode cL_law 2584 = .ok (.iadd, 1) := by decide +kernel
theorem ni_dL_law_2585 : decode cL_law 2585 = .ok (.iaload, 1) := by decide +kernel
theorem ni_dL_law_2586 : decode cL_law 2586 = .ok (.aload_n 0, 1) := by decide +kernel
theorem ni_dL_law_2587 : decode cL_law 2587 = .ok (.iload 5, 2) := by decide +kernel
theorem ni_dL_law_2589 : decode cL_law 2589 = .ok (.iconst 2, 1) := by decide +kernel
theorem ni_dL_law_2590 : decode cL_law 2590 = .ok (.iadd, 1) := by decide +kernel
theorem ni_dL_law_2591 : decode cL_law 2591 = .ok (.iaload, 1) := by decide +kernel
theorem ni_dL_law_2592 : decode cL_law 2592 = .ok (.ifCond .eq 7, 3) := by decide +kernel
theorem ni_dL_law_2595 : decode cL_law 2595 = .ok (.iconst 1, 1) := by decide +kernel
theorem ni_dL_law_2596 : decode cL_law 2596 = .ok (.goto 4, 3) := by decide +kernel
theorem ni_dL_law_2599 : decode cL_law 2599 = .ok (.iconst 0, 1) := by decide +kernel
theorem ni_dL_law_2600 : decode cL_law 2600 = .ok (.aload_n 0, 1) := by decide +kernel
theorem ni_dL_law_2601 : decode cL_law 2601 = .ok (.iload 5, 2) := by decide +kernel
theorem ni_dL_law_2603 : decode cL_law 2603 = .ok (.iconst 3, 1) := by decide +kernel
theorem ni_dL_law_2604 : decode cL_law 2604 = .ok (.iadd, 1) := by decide +kernel
theorem ni_dL_law_2605 : decode cL_law 2605 = .ok (.iaload, 1) := by decide +kernel
theorem ni_dL_law_2606 : decode cL_law 2606 = .ok (.invokevirtual 292, 3) := by decide +kernel
theorem ni_dL_law_2609 : decode cL_law 2609 = .ok (.istore 7, 2) := by decide +kernel
theorem ni_dL_law_2611 : decode cL_law 2611 = .ok (.aload_n 2, 1) := by decide +kernel
theorem ni_dL_law_2612 : decode cL_law 2612 = .ok (.invokevirtual 161, 3) := by decide +kernel
theorem ni_dL_law_2615 : decode cL_law 2615 = .ok (.iload 6, 2) := by decide +kernel
theorem ni_dL_law_2617 : decode cL_law 2617 = .ok (.if_icmp .eq 5, 3) := by decide +kernel
theorem ni_dL_law_2622 : decode cL_law 2622 = .ok (.iload 6, 2) := by decide +kernel
theorem ni_dL_law_2624 : decode cL_law 2624 = .ok (.ifCond .ne 15, 3) := by decide +kernel
theorem ni_dL_law_2639 : decode cL_law 2639 = .ok (.goto 678, 3) := by decide +kernel
theorem ni_dL_law_2642 : decode cL_law 2642 = .ok (.aload_n 1, 1) := by decide +kernel
theorem ni_dL_law_2643 : decode cL_law 2643 = .ok (.aload_n 0, 1) := by decide +kernel
theorem ni_dL_law_2644 : decode cL_law 2644 = .ok (.iload 5, 2) := by decide +kernel
theorem ni_dL_law_2646 : decode cL_law 2646 = .ok (.iconst 1, 1) := by decide +kernel
theorem ni_dL_law_2647 : decode cL_law 2647 = .ok (.iadd, 1) := by decide +kernel
theorem ni_dL_law_2648 : decode cL_law 2648 = .ok (.iaload, 1) := by decide +kernel
theorem ni_dL_law_2649 : decode cL_law 2649 = .ok (.aload_n 3, 1) := by decide +kernel
theorem ni_dL_law_2650 : decode cL_law 2650 = .ok (.invokestatic 293, 3) := by decide +kernel
theorem ni_dL_law_2653 : decode cL_law 2653 = .ok (.istore 6, 2) := by decide +kernel
theorem ni_dL_law_2655 : decode cL_law 2655 = .ok (.aload_n 2, 1) := by decide +kernel
theorem ni_dL_law_2656 : decode cL_law 2656 = .ok (.aload_n 0, 1) := by decide +kernel
theorem ni_dL_law_2657 : decode cL_law 2657 = .ok (.iload 5, 2) := by decide +kernel
theorem ni_dL_law_2659 : decode cL_law 2659 = .ok (.iconst 1, 1) := by decide +kernel
theorem ni_dL_law_2660 : decode cL_law 2660 = .ok (.iadd, 1) := by decide +kernel
theorem ni_dL_law_2661 : decode cL_law 2661 = .ok (.iaload, 1) := by decide +kernel
theorem ni_dL_law_2662 : decode cL_law 2662 = .ok (.invokevirtual 295, 3) := by decide +kernel
theorem ni_dL_law_2665 : decode cL_law 2665 = .ok (.istore 7, 2) := by decide +kernel
theorem ni_dL_law_2667 : decode cL_law 2667 = .ok (.aload_n 2, 1) := by decide +kernel
theorem ni_dL_law_2668 : decode cL_law 2668 = .ok (.invokevirtual 161, 3) := by decide +kernel
theorem ni_dL_law_2671 : decode cL_law 2671 = .ok (.iload 6, 2) := by decide +kernel
theorem ni_dL_law_2673 : decode cL_law 2673 = .ok (.if_icmp .eq 5, 3) := by decide +kernel
theorem ni_dL_law_2678 : decode cL_law 2678 = .ok (.iload 6, 2) := by decide +kernel
theorem ni_dL_law_2680 : decode cL_law 2680 = .ok (.ifCond .ne 15, 3) := by decide +kernel
theorem ni_dL_law_2695 : decode cL_law 2695 = .ok (.goto 622, 3) := by decide +kernel
theorem ni_dL_law_2698 : decode cL_law 2698 = .ok (.aload_n 1, 1) := by decide +kernel
theorem ni_dL_law_2699 : decode cL_law 2699 = .ok (.aload_n 0, 1) := by decide +kernel
theorem ni_dL_law_2700 : decode cL_law 2700 = .ok (.iload 5, 2) := by decide +kernel
theorem ni_dL_law_2702 : decode cL_law 2702 = .ok (.iconst 1, 1) := by decide +kernel
theorem ni_dL_law_2703 : decode cL_law 2703 = .ok (.iadd, 1) := by decide +kernel
theorem ni_dL_law_2704 : decode cL_law 2704 = .ok (.iaload, 1) := by decide +kernel
theorem ni_dL_law_2705 : decode cL_law 2705 = .ok (.aload_n 3, 1) := by decide +kernel
theorem ni_dL_law_2706 : decode cL_law 2706 = .ok (.invokestatic 296, 3) := by decide +kernel
theorem ni_dL_law_2709 : decode cL_law 2709 = .ok (.istore 6, 2) := by decide +kernel
theorem ni_dL_law_2711 : decode cL_law 2711 = .ok (.aload_n 2, 1) := by decide +kernel
theorem ni_dL_law_2712 : decode cL_law 2712 = .ok (.aload_n 0, 1) := by decide +kernel
theorem ni_dL_law_2713 : decode cL_law 2713 = .ok (.iload 5, 2) := by decide +kernel
theorem ni_dL_law_2715 : decode cL_law 2715 = .ok (.iconst 1, 1) := by decide +kernel
theorem ni_dL_law_2716 : decode cL_law 2716 = .ok (.iadd, 1) := by decide +kernel
theorem ni_dL_law_2717 : decode cL_law 2717 = .ok (.iaload, 1) := by decide +kernel
theorem ni_dL_law_2718 : decode cL_law 2718 = .ok (.invokevirtual 298, 3) := by decide +kernel
theorem ni_dL_law_2721 : decode cL_law 2721 = .ok (.istore 7, 2) := by decide +kernel
theorem ni_dL_law_2723 : decode cL_law 2723 = .ok (.aload_n 2, 1) := by decide +kernel
theorem ni_dL_law_2724 : decode cL_law 2724 = .ok (.invokevirtual 161, 3) := by decide +kernel
theorem ni_dL_law_2727 : decode cL_law 2727 = .ok (.iload 6, 2) := by decide +kernel
theorem ni_dL_law_2729 : decode cL_law 2729 = .ok (.if_icmp .eq 5, 3) := by decide +kernel
theorem ni_dL_law_2734 : decode cL_law 2734 = .ok (.iload 6, 2) := by decide +kernel
theorem ni_dL_law_2736 : decode cL_law 2736 = .ok (.ifCond .ne 15, 3) := by decide +kernel
theorem ni_dL_law_2751 : decode cL_law 2751 = .ok (.goto 566, 3) := by decide +kernel
theorem ni_dL_law_2754 : decode cL_law 2754 = .ok (.aload_n 1, 1) := by decide +kernel
theorem ni_dL_law_2755 : decode cL_law 2755 = .ok (.aload_n 0, 1) := by decide +kernel
theorem ni_dL_law_2756 : decode cL_law 2756 = .ok (.iload 5, 2) := by decide +kernel
theorem ni_dL_law_2758 : decode cL_law 2758 = .ok (.iconst 1, 1) := by decide +kernel
theorem ni_dL_law_2759 : decode cL_law 2759 = .ok (.iadd, 1) := by decide +kernel
theorem ni_dL_law_2760 : decode cL_law 2760 = .ok (.iaload, 1) := by decide +kernel
theorem ni_dL_law_2761 : decode cL_law 2761 = .ok (.aload_n 3, 1) := by decide +kernel
theorem ni_dL_law_2762 : decode cL_law 2762 = .ok (.invokestatic 299, 3) := by decide +kernel
theorem ni_dL_law_2765 : decode cL_law 2765 = .ok (.istore 6, 2) := by decide +kernel
theorem ni_dL_law_2767 : decode cL_law 2767 = .ok (.aload_n 2, 1) := by decide +kernel
theorem ni_dL_law_2768 : decode cL_law 2768 = .ok (.aload_n 0, 1) := by decide +kernel
theorem ni_dL_law_2769 : decode cL_law 2769 = .ok (.iload 5, 2) := by decide +kernel
theorem ni_dL_law_2771 : decode cL_law 2771 = .ok (.iconst 1, 1) := by decide +kernel
theorem ni_dL_law_2772 : decode cL_law 2772 = .ok (.iadd, 1) := by decide +kernel
theorem ni_dL_law_2773 : decode cL_law 2773 = .ok (.iaload, 1) := by decide +kernel
theorem ni_dL_law_2774 : decode cL_law 2774 = .ok (.invokevirtual 301, 3) := by decide +kernel
theorem ni_dL_law_2777 : decode cL_law 2777 = .ok (.istore 7, 2) := by decide +kernel
theorem ni_dL_law_2779 : decode cL_law 2779 = .ok (.aload_n 2, 1) := by decide +kernel
theorem ni_dL_law_2780 : decode cL_law 2780 = .ok (.invokevirtual 161, 3) := by decide +kernel
theorem ni_dL_law_2783 : decode cL_law 2783 = .ok (.iload 6, 2) := by decide +kernel
theorem ni_dL_law_2785 : decode cL_law 2785 = .ok (.if_icmp .eq 5, 3) := by decide +kernel
theorem ni_dL_law_2790 : decode cL_law 2790 = .ok (.iload 6, 2) := by decide +kernel
theorem ni_dL_law_2792 : decode cL_law 2792 = .ok (.ifCond .ne 15, 3) := by decide +kernel
theorem ni_dL_law_2807 : decode cL_law 2807 = .ok (.goto 510, 3) := by decide +kernel
theorem ni_dL_law_2810 : decode cL_law 2810 = .ok (.aload_n 1, 1) := by decide +kernel
theorem ni_dL_law_2811 : decode cL_law 2811 = .ok (.aload_n 0, 1) := by decide +kernel
theorem ni_dL_law_2812 : decode cL_law 2812 = .ok (.iload 5, 2) := by decide +kernel
theorem ni_dL_law_2814 : decode cL_law 2814 = .ok (.iconst 1, 1) := by decide +kernel
theorem ni_dL_law_2815 : decode cL_law 2815 = .ok (.iadd, 1) := by decide +kernel
theorem ni_dL_law_2816 : decode cL_law 2816 = .ok (.iaload, 1) := by decide +kernel
theorem ni_dL_law_2817 : decode cL_law 2817 = .ok (.aload_n 3, 1) := by decide +kernel
theorem ni_dL_law_2818 : decode cL_law 2818 = .ok (.invokestatic 302, 3) := by decide +kernel
theorem ni_dL_law_2821 : decode cL_law 2821 = .ok (.istore 6, 2) := by decide +kernel
theorem ni_dL_law_2823 : decode cL_law 2823 = .ok (.aload_n 2, 1) := by decide +kernel
theorem ni_dL_law_2824 : decode cL_law 2824 = .ok (.aload_n 0, 1) := by decide +kernel
theorem ni_dL_law_2825 : decode cL_law 2825 = .ok (.iload 5, 2) := by decide +kernel
theorem ni_dL_law_2827 : decode cL_law 2827 = .ok (.iconst 1, 1) := by decide +kernel
theorem ni_dL_law_2828 : decode cL_law 2828 = .ok (.iadd, 1) := by decide +kernel
theorem ni_dL_law_2829 : decode cL_law 2829 = .ok (.iaload, 1) := by decide +kernel
theorem ni_dL_law_2830 : decode cL_law 2830 = .ok (.invokevirtual 304, 3) := by decide +kernel
theorem ni_dL_law_2833 : decode cL_law 2833 = .ok (.istore 7, 2) := by decide +kernel
theorem ni_dL_law_2835 : decode cL_law 2835 = .ok (.aload_n 2, 1) := by decide +kernel
theorem ni_dL_law_2836 : decode cL_law 2836 = .ok (.invokevirtual 161, 3) := by decide +kernel
theorem ni_dL_law_2839 : decode cL_law 2839 = .ok (.iload 6, 2) := by decide +kernel
theorem ni_dL_law_2841 : decode cL_law 2841 = .ok (.if_icmp .eq 5, 3) := by decide +kernel
theorem ni_dL_law_2846 : decode cL_law 2846 = .ok (.iload 6, 2) := by decide +kernel
theorem ni_dL_law_2848 : decode cL_law 2848 = .ok (.ifCond .ne 15, 3) := by decide +kernel
theorem ni_dL_law_2863 : decode cL_law 2863 = .ok (.goto 454, 3) := by decide +kernel
theorem ni_dL_law_2866 : decode cL_law 2866 = .ok (.aload_n 1, 1) := by decide +kernel
theorem ni_dL_law_2867 : decode cL_law 2867 = .ok (.aload_n 0, 1) := by decide +kernel
theorem ni_dL_law_2868 : decode cL_law 2868 = .ok (.iload 5, 2) := by decide +kernel
theorem ni_dL_law_2870 : decode cL_law 2870 = .ok (.iconst 1, 1) := by decide +kernel
theorem ni_dL_law_2871 : decode cL_law 2871 = .ok (.iadd, 1) := by decide +kernel
theorem ni_dL_law_2872 : decode cL_law 2872 = .ok (.iaload, 1) := by decide +kernel
theorem ni_dL_law_2873 : decode cL_law 2873 = .ok (.aload_n 3, 1) := by decide +kernel
theorem ni_dL_law_2874 : decode cL_law 2874 = .ok (.invokestatic 305, 3) := by decide +kernel
theorem ni_dL_law_2877 : decode cL_law 2877 = .ok (.istore 6, 2) := by decide +kernel
theorem ni_dL_law_2879 : decode cL_law 2879 = .ok (.aload_n 2, 1) := by decide +kernel
theorem ni_dL_law_2880 : decode cL_law 2880 = .ok (.aload_n 0, 1) := by decide +kernel
theorem ni_dL_law_2881 : decode cL_law 2881 = .ok (.iload 5, 2) := by decide +kernel
theorem ni_dL_law_2883 : decode cL_law 2883 = .ok (.iconst 1, 1) := by decide +kernel
theorem ni_dL_law_2884 : decode cL_law 2884 = .ok (.iadd, 1) := by decide +kernel
theorem ni_dL_law_2885 : decode cL_law 2885 = .ok (.iaload, 1) := by decide +kernel
theorem ni_dL_law_2886 : decode cL_law 2886 = .ok (.invokevirtual 307, 3) := by decide +kernel
theorem ni_dL_law_2889 : decode cL_law 2889 = .ok (.istore 7, 2) := by decide +kernel
theorem ni_dL_law_2891 : decode cL_law 2891 = .ok (.aload_n 2, 1) := by decide +kernel
theorem ni_dL_law_2892 : decode cL_law 2892 = .ok (.invokevirtual 161, 3) := by decide +kernel
theorem ni_dL_law_2895 : decode cL_law 2895 = .ok (.iload 6, 2) := by decide +kernel
theorem ni_dL_law_2897 : decode cL_law 2897 = .ok (.if_icmp .eq 5, 3) := by decide +kernel
theorem ni_dL_law_2902 : decode cL_law 2902 = .ok (.iload 6, 2) := by decide +kernel
theorem ni_dL_law_2904 : decode cL_law 2904 = .ok (.ifCond .ne 15, 3) := by decide +kernel
theorem ni_dL_law_2919 : decode cL_law 2919 = .ok (.goto 398, 3) := by decide +kernel
theorem ni_dL_law_2922 : decode cL_law 2922 = .ok (.aload_n 1, 1) := by decide +kernel
theorem ni_dL_law_2923 : decode cL_law 2923 = .ok (.aload_n 0, 1) := by decide +kernel
theorem ni_dL_law_2924 : decode cL_law 2924 = .ok (.iload 5, 2) := by decide +kernel
theorem ni_dL_law_2926 : decode cL_law 2926 = .ok (.iconst 1, 1) := by decide +kernel
theorem ni_dL_law_2927 : decode cL_law 2927 = .ok (.iadd, 1) := by decide +kernel
theorem ni_dL_law_2928 : decode cL_law 2928 = .ok (.iaload, 1) := by decide +kernel
theorem ni_dL_law_2929 : decode cL_law 2929 = .ok (.aload_n 0, 1) := by decide +kernel
theorem ni_dL_law_2930 : decode cL_law 2930 = .ok (.iload 5, 2) := by decide +kernel
theorem ni_dL_law_2932 : decode cL_law 2932 = .ok (.iconst 2, 1) := by decide +kernel
theorem ni_dL_law_2933 : decode cL_law 2933 = .ok (.iadd, 1) := by decide +kernel
theorem ni_dL_law_2934 : decode cL_law 2934 = .ok (.iaload, 1) := by decide +kernel
theorem ni_dL_law_2935 : decode cL_law 2935 = .ok (.aload_n 3, 1) := by decide +kernel
theorem ni_dL_law_2936 : decode cL_law 2936 = .ok (.invokestatic 308, 3) := by decide +kernel
theorem ni_dL_law_2939 : decode cL_law 2939 = .ok (.istore 6, 2) := by decide +kernel
theorem ni_dL_law_2941 : decode cL_law 2941 = .ok (.aload_n 2, 1) := by decide +kernel
theorem ni_dL_law_2942 : decode cL_law 2942 = .ok (.aload_n 0, 1) := by decide +kernel
theorem ni_dL_law_2943 : decode cL_law 2943 = .ok (.iload 5, 2) := by decide +kernel
theorem ni_dL_law_2945 : decode cL_law 2945 = .ok (.iconst 1, 1) := by decide +kernel
theorem ni_dL_law_2946 : decode cL_law 2946 = .ok (.iadd, 1) := by decide +kernel
theorem ni_dL_law_2947 : decode cL_law 2947 = .ok (.iaload, 1) := by decide +kernel
theorem ni_dL_law_2948 : decode cL_law 2948 = .ok (.aload_n 0, 1) := by decide +kernel
theorem ni_dL_law_2949 : decode cL_law 2949 = .ok (.iload 5, 2) := by decide +kernel
theorem ni_dL_law_2951 : decode cL_law 2951 = .ok (.iconst 2, 1) := by decide +kernel
theorem ni_dL_law_2952 : decode cL_law 2952 = .ok (.iadd, 1) := by decide +kernel
theorem ni_dL_law_2953 : decode cL_law 2953 = .ok (.iaload, 1) := by decide +kernel
theorem ni_dL_law_2954 : decode cL_law 2954 = .ok (.invokevirtual 310, 3) := by decide +kernel
theorem ni_dL_law_2957 : decode cL_law 2957 = .ok (.istore 7, 2) := by decide +kernel
theorem ni_dL_law_2959 : decode cL_law 2959 = .ok (.aload_n 2, 1) := by decide +kernel
theorem ni_dL_law_2960 : decode cL_law 2960 = .ok (.invokevirtual 161, 3) := by decide +kernel
theorem ni_dL_law_2963 : decode cL_law 2963 = .ok (.iload 6, 2) := by decide +kernel
theorem ni_dL_law_2965 : decode cL_law 2965 = .ok (.if_icmp .eq 5, 3) := by decide +kernel
theorem ni_dL_law_2970 : decode cL_law 2970 = .ok (.iload 6, 2) := by decide +kernel
theorem ni_dL_law_2972 : decode cL_law 2972 = .ok (.ifCond .ne 15, 3) := by decide +kernel
theorem ni_dL_law_2987 : decode cL_law 2987 = .ok (.goto 330, 3) := by decide +kernel
