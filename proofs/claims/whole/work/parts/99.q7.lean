/-! ===== what stands at each place: the law, 7 ===== -/
theorem dL_law__2557 : decode cL_law_ 2557 = .ok (.ifCond .eq 5, 3) := by decide +kernel
theorem dL_law__2560 : decode cL_law_ 2560 = .ok (.iconst 0, 1) := by decide +kernel
theorem dL_law__2561 : decode cL_law_ 2561 = .ok (.ireturn, 1) := by decide +kernel
theorem dL_law__2562 : decode cL_law_ 2562 = .ok (.goto 388, 3) := by decide +kernel
theorem dL_law__2565 : decode cL_law_ 2565 = .ok (.aload_n 1, 1) := by decide +kernel
theorem dL_law__2566 : decode cL_law_ 2566 = .ok (.aload_n 0, 1) := by decide +kernel
theorem dL_law__2567 : decode cL_law_ 2567 = .ok (.iload 4, 2) := by decide +kernel
theorem dL_law__2569 : decode cL_law_ 2569 = .ok (.iconst 1, 1) := by decide +kernel
theorem dL_law__2570 : decode cL_law_ 2570 = .ok (.iadd, 1) := by decide +kernel
theorem dL_law__2571 : decode cL_law_ 2571 = .ok (.iaload, 1) := by decide +kernel
theorem dL_law__2572 : decode cL_law_ 2572 = .ok (.aload_n 0, 1) := by decide +kernel
theorem dL_law__2573 : decode cL_law_ 2573 = .ok (.iload 4, 2) := by decide +kernel
theorem dL_law__2575 : decode cL_law_ 2575 = .ok (.iconst 2, 1) := by decide +kernel
theorem dL_law__2576 : decode cL_law_ 2576 = .ok (.iadd, 1) := by decide +kernel
theorem dL_law__2577 : decode cL_law_ 2577 = .ok (.iaload, 1) := by decide +kernel
theorem dL_law__2578 : decode cL_law_ 2578 = .ok (.aload_n 3, 1) := by decide +kernel
theorem dL_law__2579 : decode cL_law_ 2579 = .ok (.invokestatic 270, 3) := by decide +kernel
theorem dL_law__2582 : decode cL_law_ 2582 = .ok (.istore 5, 2) := by decide +kernel
theorem dL_law__2584 : decode cL_law_ 2584 = .ok (.aload_n 2, 1) := by decide +kernel
theorem dL_law__2585 : decode cL_law_ 2585 = .ok (.aload_n 0, 1) := by decide +kernel
theorem dL_law__2586 : decode cL_law_ 2586 = .ok (.iload 4, 2) := by decide +kernel
theorem dL_law__2588 : decode cL_law_ 2588 = .ok (.iconst 1, 1) := by decide +kernel
theorem dL_law__2589 : decode cL_law_ 2589 = .ok (.iadd, 1) := by decide +kernel
theorem dL_law__2590 : decode cL_law_ 2590 = .ok (.iaload, 1) := by decide +kernel
theorem dL_law__2591 : decode cL_law_ 2591 = .ok (.aload_n 0, 1) := by decide +kernel
theorem dL_law__2592 : decode cL_law_ 2592 = .ok (.iload 4, 2) := by decide +kernel
theorem dL_law__2594 : decode cL_law_ 2594 = .ok (.iconst 2, 1) := by decide +kernel
theorem dL_law__2595 : decode cL_law_ 2595 = .ok (.iadd, 1) := by decide +kernel
theorem dL_law__2596 : decode cL_law_ 2596 = .ok (.iaload, 1) := by decide +kernel
theorem dL_law__2597 : decode cL_law_ 2597 = .ok (.invokevirtual 272, 3) := by decide +kernel
theorem dL_law__2600 : decode cL_law_ 2600 = .ok (.istore 6, 2) := by decide +kernel
theorem dL_law__2602 : decode cL_law_ 2602 = .ok (.aload_n 2, 1) := by decide +kernel
theorem dL_law__2603 : decode cL_law_ 2603 = .ok (.invokevirtual 152, 3) := by decide +kernel
theorem dL_law__2606 : decode cL_law_ 2606 = .ok (.iload 5, 2) := by decide +kernel
theorem dL_law__2608 : decode cL_law_ 2608 = .ok (.if_icmp .eq 5, 3) := by decide +kernel
theorem dL_law__2611 : decode cL_law_ 2611 = .ok (.iconst 0, 1) := by decide +kernel
theorem dL_law__2612 : decode cL_law_ 2612 = .ok (.ireturn, 1) := by decide +kernel
theorem dL_law__2613 : decode cL_law_ 2613 = .ok (.iload 5, 2) := by decide +kernel
theorem dL_law__2615 : decode cL_law_ 2615 = .ok (.ifCond .ne 15, 3) := by decide +kernel
theorem dL_law__2618 : decode cL_law_ 2618 = .ok (.aload_n 3, 1) := by decide +kernel
theorem dL_law__2619 : decode cL_law_ 2619 = .ok (.iconst 0, 1) := by decide +kernel
theorem dL_law__2620 : decode cL_law_ 2620 = .ok (.laload, 1) := by decide +kernel
theorem dL_law__2621 : decode cL_law_ 2621 = .ok (.iload 6, 2) := by decide +kernel
theorem dL_law__2623 : decode cL_law_ 2623 = .ok (.i2l, 1) := by decide +kernel
theorem dL_law__2624 : decode cL_law_ 2624 = .ok (.lcmp, 1) := by decide +kernel
theorem dL_law__2625 : decode cL_law_ 2625 = .ok (.ifCond .eq 5, 3) := by decide +kernel
theorem dL_law__2628 : decode cL_law_ 2628 = .ok (.iconst 0, 1) := by decide +kernel
theorem dL_law__2629 : decode cL_law_ 2629 = .ok (.ireturn, 1) := by decide +kernel
theorem dL_law__2630 : decode cL_law_ 2630 = .ok (.goto 320, 3) := by decide +kernel
theorem dL_law__2633 : decode cL_law_ 2633 = .ok (.aload_n 1, 1) := by decide +kernel
theorem dL_law__2634 : decode cL_law_ 2634 = .ok (.aload_n 0, 1) := by decide +kernel
theorem dL_law__2635 : decode cL_law_ 2635 = .ok (.iload 4, 2) := by decide +kernel
theorem dL_law__2637 : decode cL_law_ 2637 = .ok (.iconst 1, 1) := by decide +kernel
theorem dL_law__2638 : decode cL_law_ 2638 = .ok (.iadd, 1) := by decide +kernel
theorem dL_law__2639 : decode cL_law_ 2639 = .ok (.iaload, 1) := by decide +kernel
theorem dL_law__2640 : decode cL_law_ 2640 = .ok (.aload_n 0, 1) := by decide +kernel
theorem dL_law__2641 : decode cL_law_ 2641 = .ok (.iload 4, 2) := by decide +kernel
theorem dL_law__2643 : decode cL_law_ 2643 = .ok (.iconst 2, 1) := by decide +kernel
theorem dL_law__2644 : decode cL_law_ 2644 = .ok (.iadd, 1) := by decide +kernel
theorem dL_law__2645 : decode cL_law_ 2645 = .ok (.iaload, 1) := by decide +kernel
theorem dL_law__2646 : decode cL_law_ 2646 = .ok (.aload_n 0, 1) := by decide +kernel
theorem dL_law__2647 : decode cL_law_ 2647 = .ok (.iload 4, 2) := by decide +kernel
theorem dL_law__2649 : decode cL_law_ 2649 = .ok (.iconst 3, 1) := by decide +kernel
theorem dL_law__2650 : decode cL_law_ 2650 = .ok (.iadd, 1) := by decide +kernel
theorem dL_law__2651 : decode cL_law_ 2651 = .ok (.iaload, 1) := by decide +kernel
theorem dL_law__2652 : decode cL_law_ 2652 = .ok (.aload_n 3, 1) := by decide +kernel
theorem dL_law__2653 : decode cL_law_ 2653 = .ok (.invokestatic 273, 3) := by decide +kernel
theorem dL_law__2656 : decode cL_law_ 2656 = .ok (.istore 5, 2) := by decide +kernel
theorem dL_law__2658 : decode cL_law_ 2658 = .ok (.aload_n 2, 1) := by decide +kernel
theorem dL_law__2659 : decode cL_law_ 2659 = .ok (.aload_n 0, 1) := by decide +kernel
theorem dL_law__2660 : decode cL_law_ 2660 = .ok (.iload 4, 2) := by decide +kernel
theorem dL_law__2662 : decode cL_law_ 2662 = .ok (.iconst 1, 1) := by decide +kernel
theorem dL_law__2663 : decode cL_law_ 2663 = .ok (.iadd, 1) := by decide +kernel
theorem dL_law__2664 : decode cL_law_ 2664 = .ok (.iaload, 1) := by decide +kernel
theorem dL_law__2665 : decode cL_law_ 2665 = .ok (.aload_n 0, 1) := by decide +kernel
theorem dL_law__2666 : decode cL_law_ 2666 = .ok (.iload 4, 2) := by decide +kernel
theorem dL_law__2668 : decode cL_law_ 2668 = .ok (.iconst 2, 1) := by decide +kernel
theorem dL_law__2669 : decode cL_law_ 2669 = .ok (.iadd, 1) := by decide +kernel
theorem dL_law__2670 : decode cL_law_ 2670 = .ok (.iaload, 1) := by decide +kernel
theorem dL_law__2671 : decode cL_law_ 2671 = .ok (.aload_n 0, 1) := by decide +kernel
theorem dL_law__2672 : decode cL_law_ 2672 = .ok (.iload 4, 2) := by decide +kernel
theorem dL_law__2674 : decode cL_law_ 2674 = .ok (.iconst 3, 1) := by decide +kernel
theorem dL_law__2675 : decode cL_law_ 2675 = .ok (.iadd, 1) := by decide +kernel
theorem dL_law__2676 : decode cL_law_ 2676 = .ok (.iaload, 1) := by decide +kernel
theorem dL_law__2677 : decode cL_law_ 2677 = .ok (.invokevirtual 275, 3) := by decide +kernel
theorem dL_law__2680 : decode cL_law_ 2680 = .ok (.istore 6, 2) := by decide +kernel
theorem dL_law__2682 : decode cL_law_ 2682 = .ok (.aload_n 2, 1) := by decide +kernel
theorem dL_law__2683 : decode cL_law_ 2683 = .ok (.invokevirtual 152, 3) := by decide +kernel
theorem dL_law__2686 : decode cL_law_ 2686 = .ok (.iload 5, 2) := by decide +kernel
theorem dL_law__2688 : decode cL_law_ 2688 = .ok (.if_icmp .eq 5, 3) := by decide +kernel
theorem dL_law__2691 : decode cL_law_ 2691 = .ok (.iconst 0, 1) := by decide +kernel
theorem dL_law__2692 : decode cL_law_ 2692 = .ok (.ireturn, 1) := by decide +kernel
theorem dL_law__2693 : decode cL_law_ 2693 = .ok (.iload 5, 2) := by decide +kernel
theorem dL_law__2695 : decode cL_law_ 2695 = .ok (.ifCond .ne 15, 3) := by decide +kernel
theorem dL_law__2698 : decode cL_law_ 2698 = .ok (.aload_n 3, 1) := by decide +kernel
theorem dL_law__2699 : decode cL_law_ 2699 = .ok (.iconst 0, 1) := by decide +kernel
theorem dL_law__2700 : decode cL_law_ 2700 = .ok (.laload, 1) := by decide +kernel
theorem dL_law__2701 : decode cL_law_ 2701 = .ok (.iload 6, 2) := by decide +kernel
theorem dL_law__2703 : decode cL_law_ 2703 = .ok (.i2l, 1) := by decide +kernel
theorem dL_law__2704 : decode cL_law_ 2704 = .ok (.lcmp, 1) := by decide +kernel
theorem dL_law__2705 : decode cL_law_ 2705 = .ok (.ifCond .eq 5, 3) := by decide +kernel
theorem dL_law__2708 : decode cL_law_ 2708 = .ok (.iconst 0, 1) := by decide +kernel
theorem dL_law__2709 : decode cL_law_ 2709 = .ok (.ireturn, 1) := by decide +kernel
theorem dL_law__2710 : decode cL_law_ 2710 = .ok (.goto 240, 3) := by decide +kernel
theorem dL_law__2713 : decode cL_law_ 2713 = .ok (.aload_n 1, 1) := by decide +kernel
theorem dL_law__2714 : decode cL_law_ 2714 = .ok (.aload_n 0, 1) := by decide +kernel
theorem dL_law__2715 : decode cL_law_ 2715 = .ok (.iload 4, 2) := by decide +kernel
theorem dL_law__2717 : decode cL_law_ 2717 = .ok (.iconst 1, 1) := by decide +kernel
theorem dL_law__2718 : decode cL_law_ 2718 = .ok (.iadd, 1) := by decide +kernel
theorem dL_law__2719 : decode cL_law_ 2719 = .ok (.iaload, 1) := by decide +kernel
theorem dL_law__2720 : decode cL_law_ 2720 = .ok (.aload_n 0, 1) := by decide +kernel
theorem dL_law__2721 : decode cL_law_ 2721 = .ok (.iload 4, 2) := by decide +kernel
theorem dL_law__2723 : decode cL_law_ 2723 = .ok (.iconst 2, 1) := by decide +kernel
theorem dL_law__2724 : decode cL_law_ 2724 = .ok (.iadd, 1) := by decide +kernel
theorem dL_law__2725 : decode cL_law_ 2725 = .ok (.iaload, 1) := by decide +kernel
theorem dL_law__2726 : decode cL_law_ 2726 = .ok (.aload_n 0, 1) := by decide +kernel
theorem dL_law__2727 : decode cL_law_ 2727 = .ok (.iload 4, 2) := by decide +kernel
theorem dL_law__2729 : decode cL_law_ 2729 = .ok (.iconst 3, 1) := by decide +kernel
theorem dL_law__2730 : decode cL_law_ 2730 = .ok (.iadd, 1) := by decide +kernel
theorem dL_law__2731 : decode cL_law_ 2731 = .ok (.iaload, 1) := by decide +kernel
theorem dL_law__2732 : decode cL_law_ 2732 = .ok (.aload_n 3, 1) := by decide +kernel
theorem dL_law__2733 : decode cL_law_ 2733 = .ok (.invokestatic 276, 3) := by decide +kernel
theorem dL_law__2736 : decode cL_law_ 2736 = .ok (.istore 5, 2) := by decide +kernel
theorem dL_law__2738 : decode cL_law_ 2738 = .ok (.aload_n 2, 1) := by decide +kernel
theorem dL_law__2739 : decode cL_law_ 2739 = .ok (.aload_n 0, 1) := by decide +kernel
theorem dL_law__2740 : decode cL_law_ 2740 = .ok (.iload 4, 2) := by decide +kernel
theorem dL_law__2742 : decode cL_law_ 2742 = .ok (.iconst 1, 1) := by decide +kernel
theorem dL_law__2743 : decode cL_law_ 2743 = .ok (.iadd, 1) := by decide +kernel
theorem dL_law__2744 : decode cL_law_ 2744 = .ok (.iaload, 1) := by decide +kernel
theorem dL_law__2745 : decode cL_law_ 2745 = .ok (.aload_n 0, 1) := by decide +kernel
theorem dL_law__2746 : decode cL_law_ 2746 = .ok (.iload 4, 2) := by decide +kernel
theorem dL_law__2748 : decode cL_law_ 2748 = .ok (.iconst 2, 1) := by decide +kernel
theorem dL_law__2749 : decode cL_law_ 2749 = .ok (.iadd, 1) := by decide +kernel
theorem dL_law__2750 : decode cL_law_ 2750 = .ok (.iaload, 1) := by decide +kernel
theorem dL_law__2751 : decode cL_law_ 2751 = .ok (.aload_n 0, 1) := by decide +kernel
theorem dL_law__2752 : decode cL_law_ 2752 = .ok (.iload 4, 2) := by decide +kernel
theorem dL_law__2754 : decode cL_law_ 2754 = .ok (.iconst 3, 1) := by decide +kernel
theorem dL_law__2755 : decode cL_law_ 2755 = .ok (.iadd, 1) := by decide +kernel
theorem dL_law__2756 : decode cL_law_ 2756 = .ok (.iaload, 1) := by decide +kernel
theorem dL_law__2757 : decode cL_law_ 2757 = .ok (.invokevirtual 278, 3) := by decide +kernel
theorem dL_law__2760 : decode cL_law_ 2760 = .ok (.istore 6, 2) := by decide +kernel
theorem dL_law__2762 : decode cL_law_ 2762 = .ok (.aload_n 2, 1) := by decide +kernel
theorem dL_law__2763 : decode cL_law_ 2763 = .ok (.invokevirtual 152, 3) := by decide +kernel
theorem dL_law__2766 : decode cL_law_ 2766 = .ok (.iload 5, 2) := by decide +kernel
theorem dL_law__2768 : decode cL_law_ 2768 = .ok (.if_icmp .eq 5, 3) := by decide +kernel
theorem dL_law__2771 : decode cL_law_ 2771 = .ok (.iconst 0, 1) := by decide +kernel
theorem dL_law__2772 : decode cL_law_ 2772 = .ok (.ireturn, 1) := by decide +kernel
theorem dL_law__2773 : decode cL_law_ 2773 = .ok (.iload 5, 2) := by decide +kernel
theorem dL_law__2775 : decode cL_law_ 2775 = .ok (.ifCond .ne 15, 3) := by decide +kernel
theorem dL_law__2778 : decode cL_law_ 2778 = .ok (.aload_n 3, 1) := by decide +kernel
theorem dL_law__2779 : decode cL_law_ 2779 = .ok (.iconst 0, 1) := by decide +kernel
theorem dL_law__2780 : decode cL_law_ 2780 = .ok (.laload, 1) := by decide +kernel
theorem dL_law__2781 : decode cL_law_ 2781 = .ok (.iload 6, 2) := by decide +kernel
theorem dL_law__2783 : decode cL_law_ 2783 = .ok (.i2l, 1) := by decide +kernel
theorem dL_law__2784 : decode cL_law_ 2784 = .ok (.lcmp, 1) := by decide +kernel
theorem dL_law__2785 : decode cL_law_ 2785 = .ok (.ifCond .eq 5, 3) := by decide +kernel
theorem dL_law__2788 : decode cL_law_ 2788 = .ok (.iconst 0, 1) := by decide +kernel
theorem dL_law__2789 : decode cL_law_ 2789 = .ok (.ireturn, 1) := by decide +kernel
theorem dL_law__2790 : decode cL_law_ 2790 = .ok (.goto 160, 3) := by decide +kernel
theorem dL_law__2793 : decode cL_law_ 2793 = .ok (.aload_n 1, 1) := by decide +kernel
theorem dL_law__2794 : decode cL_law_ 2794 = .ok (.aload_n 0, 1) := by decide +kernel
theorem dL_law__2795 : decode cL_law_ 2795 = .ok (.iload 4, 2) := by decide +kernel
theorem dL_law__2797 : decode cL_law_ 2797 = .ok (.iconst 1, 1) := by decide +kernel
theorem dL_law__2798 : decode cL_law_ 2798 = .ok (.iadd, 1) := by decide +kernel
theorem dL_law__2799 : decode cL_law_ 2799 = .ok (.iaload, 1) := by decide +kernel
theorem dL_law__2800 : decode cL_law_ 2800 = .ok (.aload_n 0, 1) := by decide +kernel
theorem dL_law__2801 : decode cL_law_ 2801 = .ok (.iload 4, 2) := by decide +kernel
theorem dL_law__2803 : decode cL_law_ 2803 = .ok (.iconst 2, 1) := by decide +kernel
theorem dL_law__2804 : decode cL_law_ 2804 = .ok (.iadd, 1) := by decide +kernel
theorem dL_law__2805 : decode cL_law_ 2805 = .ok (.iaload, 1) := by decide +kernel
theorem dL_law__2806 : decode cL_law_ 2806 = .ok (.aload_n 3, 1) := by decide +kernel
theorem dL_law__2807 : decode cL_law_ 2807 = .ok (.invokestatic 279, 3) := by decide +kernel
theorem dL_law__2810 : decode cL_law_ 2810 = .ok (.istore 5, 2) := by decide +kernel
theorem dL_law__2812 : decode cL_law_ 2812 = .ok (.aload_n 2, 1) := by decide +kernel
theorem dL_law__2813 : decode cL_law_ 2813 = .ok (.aload_n 0, 1) := by decide +kernel
theorem dL_law__2814 : decode cL_law_ 2814 = .ok (.iload 4, 2) := by decide +kernel
theorem dL_law__2816 : decode cL_law_ 2816 = .ok (.iconst 1, 1) := by decide +kernel
theorem dL_law__2817 : decode cL_law_ 2817 = .ok (.iadd, 1) := by decide +kernel
theorem dL_law__2818 : decode cL_law_ 2818 = .ok (.iaload, 1) := by decide +kernel
theorem dL_law__2819 : decode cL_law_ 2819 = .ok (.aload_n 0, 1) := by decide +kernel
theorem dL_law__2820 : decode cL_law_ 2820 = .ok (.iload 4, 2) := by decide +kernel
theorem dL_law__2822 : decode cL_law_ 2822 = .ok (.iconst 2, 1) := by decide +kernel
theorem dL_law__2823 : decode cL_law_ 2823 = .ok (.iadd, 1) := by decide +kernel
theorem dL_law__2824 : decode cL_law_ 2824 = .ok (.iaload, 1) := by decide +kernel
theorem dL_law__2825 : decode cL_law_ 2825 = .ok (.invokevirtual 281, 3) := by decide +kernel
theorem dL_law__2828 : decode cL_law_ 2828 = .ok (.istore 6, 2) := by decide +kernel
theorem dL_law__2830 : decode cL_law_ 2830 = .ok (.aload_n 2, 1) := by decide +kernel
theorem dL_law__2831 : decode cL_law_ 2831 = .ok (.invokevirtual 152, 3) := by decide +kernel
theorem dL_law__2834 : decode cL_law_ 2834 = .ok (.iload 5, 2) := by decide +kernel
theorem dL_law__2836 : decode cL_law_ 2836 = .ok (.if_icmp .eq 5, 3) := by decide +kernel
theorem dL_law__2839 : decode cL_law_ 2839 = .ok (.iconst 0, 1) := by decide +kernel
theorem dL_law__2840 : decode cL_law_ 2840 = .ok (.ireturn, 1) := by decide +kernel
theorem dL_law__2841 : decode cL_law_ 2841 = .ok (.iload 5, 2) := by decide +kernel
theorem dL_law__2843 : decode cL_law_ 2843 = .ok (.ifCond .ne 15, 3) := by decide +kernel
theorem dL_law__2846 : decode cL_law_ 2846 = .ok (.aload_n 3, 1) := by decide +kernel
theorem dL_law__2847 : decode cL_law_ 2847 = .ok (.iconst 0, 1) := by decide +kernel
theorem dL_law__2848 : decode cL_law_ 2848 = .ok (.laload, 1) := by decide +kernel
theorem dL_law__2849 : decode cL_law_ 2849 = .ok (.iload 6, 2) := by decide +kernel
theorem dL_law__2851 : decode cL_law_ 2851 = .ok (.i2l, 1) := by decide +kernel
theorem dL_law__2852 : decode cL_law_ 2852 = .ok (.lcmp, 1) := by decide +kernel
theorem dL_law__2853 : decode cL_law_ 2853 = .ok (.ifCond .eq 5, 3) := by decide +kernel
theorem dL_law__2856 : decode cL_law_ 2856 = .ok (.iconst 0, 1) := by decide +kernel
theorem dL_law__2857 : decode cL_law_ 2857 = .ok (.ireturn, 1) := by decide +kernel
theorem dL_law__2858 : decode cL_law_ 2858 = .ok (.goto 92, 3) := by decide +kernel
theorem dL_law__2861 : decode cL_law_ 2861 = .ok (.aload_n 1, 1) := by decide +kernel
theorem dL_law__2862 : decode cL_law_ 2862 = .ok (.invokevirtual 282, 3) := by decide +kernel
theorem dL_law__2865 : decode cL_law_ 2865 = .ok (.aload_n 2, 1) := by decide +kernel
theorem dL_law__2866 : decode cL_law_ 2866 = .ok (.invokevirtual 285, 3) := by decide +kernel
theorem dL_law__2869 : decode cL_law_ 2869 = .ok (.if_icmp .eq 81, 3) := by decide +kernel
theorem dL_law__2872 : decode cL_law_ 2872 = .ok (.iconst 0, 1) := by decide +kernel
theorem dL_law__2873 : decode cL_law_ 2873 = .ok (.ireturn, 1) := by decide +kernel
theorem dL_law__2874 : decode cL_law_ 2874 = .ok (.aload_n 1, 1) := by decide +kernel
theorem dL_law__2875 : decode cL_law_ 2875 = .ok (.invokevirtual 286, 3) := by decide +kernel
theorem dL_law__2878 : decode cL_law_ 2878 = .ok (.aload_n 2, 1) := by decide +kernel
theorem dL_law__2879 : decode cL_law_ 2879 = .ok (.invokevirtual 289, 3) := by decide +kernel
theorem dL_law__2882 : decode cL_law_ 2882 = .ok (.if_icmp .eq 68, 3) := by decide +kernel
theorem dL_law__2885 : decode cL_law_ 2885 = .ok (.iconst 0, 1) := by decide +kernel
theorem dL_law__2886 : decode cL_law_ 2886 = .ok (.ireturn, 1) := by decide +kernel
theorem dL_law__2887 : decode cL_law_ 2887 = .ok (.aload_n 1, 1) := by decide +kernel
theorem dL_law__2888 : decode cL_law_ 2888 = .ok (.invokevirtual 290, 3) := by decide +kernel

