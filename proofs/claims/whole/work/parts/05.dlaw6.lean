theorem dL_law_2533 : decode cL_law 2533 = .ok (.istore 7, 2) := by decide +kernel
theorem dL_law_2535 : decode cL_law 2535 = .ok (.aload_n 2, 1) := by decide +kernel
theorem dL_law_2536 : decode cL_law 2536 = .ok (.invokevirtual 163, 3) := by decide +kernel
theorem dL_law_2539 : decode cL_law 2539 = .ok (.iload 6, 2) := by decide +kernel
theorem dL_law_2541 : decode cL_law 2541 = .ok (.if_icmp .eq 5, 3) := by decide +kernel
theorem dL_law_2544 : decode cL_law 2544 = .ok (.iconst 0, 1) := by decide +kernel
theorem dL_law_2545 : decode cL_law 2545 = .ok (.ireturn, 1) := by decide +kernel
theorem dL_law_2546 : decode cL_law 2546 = .ok (.iload 6, 2) := by decide +kernel
theorem dL_law_2548 : decode cL_law 2548 = .ok (.ifCond .ne 15, 3) := by decide +kernel
theorem dL_law_2551 : decode cL_law 2551 = .ok (.aload_n 3, 1) := by decide +kernel
theorem dL_law_2552 : decode cL_law 2552 = .ok (.iconst 0, 1) := by decide +kernel
theorem dL_law_2553 : decode cL_law 2553 = .ok (.laload, 1) := by decide +kernel
theorem dL_law_2554 : decode cL_law 2554 = .ok (.iload 7, 2) := by decide +kernel
theorem dL_law_2556 : decode cL_law 2556 = .ok (.i2l, 1) := by decide +kernel
theorem dL_law_2557 : decode cL_law 2557 = .ok (.lcmp, 1) := by decide +kernel
theorem dL_law_2558 : decode cL_law 2558 = .ok (.ifCond .eq 5, 3) := by decide +kernel
theorem dL_law_2561 : decode cL_law 2561 = .ok (.iconst 0, 1) := by decide +kernel
theorem dL_law_2562 : decode cL_law 2562 = .ok (.ireturn, 1) := by decide +kernel
theorem dL_law_2563 : decode cL_law 2563 = .ok (.goto 409, 3) := by decide +kernel
theorem dL_law_2566 : decode cL_law 2566 = .ok (.aload_n 1, 1) := by decide +kernel
theorem dL_law_2567 : decode cL_law 2567 = .ok (.aload_n 0, 1) := by decide +kernel
theorem dL_law_2568 : decode cL_law 2568 = .ok (.iload 5, 2) := by decide +kernel
theorem dL_law_2570 : decode cL_law 2570 = .ok (.iconst 1, 1) := by decide +kernel
theorem dL_law_2571 : decode cL_law 2571 = .ok (.iadd, 1) := by decide +kernel
theorem dL_law_2572 : decode cL_law 2572 = .ok (.iaload, 1) := by decide +kernel
theorem dL_law_2573 : decode cL_law 2573 = .ok (.aload_n 0, 1) := by decide +kernel
theorem dL_law_2574 : decode cL_law 2574 = .ok (.iload 5, 2) := by decide +kernel
theorem dL_law_2576 : decode cL_law 2576 = .ok (.iconst 2, 1) := by decide +kernel
theorem dL_law_2577 : decode cL_law 2577 = .ok (.iadd, 1) := by decide +kernel
theorem dL_law_2578 : decode cL_law 2578 = .ok (.iaload, 1) := by decide +kernel
theorem dL_law_2579 : decode cL_law 2579 = .ok (.aload_n 3, 1) := by decide +kernel
theorem dL_law_2580 : decode cL_law 2580 = .ok (.invokestatic 289, 3) := by decide +kernel
theorem dL_law_2583 : decode cL_law 2583 = .ok (.istore 6, 2) := by decide +kernel
theorem dL_law_2585 : decode cL_law 2585 = .ok (.aload_n 2, 1) := by decide +kernel
theorem dL_law_2586 : decode cL_law 2586 = .ok (.aload_n 0, 1) := by decide +kernel
theorem dL_law_2587 : decode cL_law 2587 = .ok (.iload 5, 2) := by decide +kernel
theorem dL_law_2589 : decode cL_law 2589 = .ok (.iconst 1, 1) := by decide +kernel
theorem dL_law_2590 : decode cL_law 2590 = .ok (.iadd, 1) := by decide +kernel
theorem dL_law_2591 : decode cL_law 2591 = .ok (.iaload, 1) := by decide +kernel
theorem dL_law_2592 : decode cL_law 2592 = .ok (.aload_n 0, 1) := by decide +kernel
theorem dL_law_2593 : decode cL_law 2593 = .ok (.iload 5, 2) := by decide +kernel
theorem dL_law_2595 : decode cL_law 2595 = .ok (.iconst 2, 1) := by decide +kernel
theorem dL_law_2596 : decode cL_law 2596 = .ok (.iadd, 1) := by decide +kernel
theorem dL_law_2597 : decode cL_law 2597 = .ok (.iaload, 1) := by decide +kernel
theorem dL_law_2598 : decode cL_law 2598 = .ok (.invokevirtual 291, 3) := by decide +kernel
theorem dL_law_2601 : decode cL_law 2601 = .ok (.istore 7, 2) := by decide +kernel
theorem dL_law_2603 : decode cL_law 2603 = .ok (.aload_n 2, 1) := by decide +kernel
theorem dL_law_2604 : decode cL_law 2604 = .ok (.invokevirtual 163, 3) := by decide +kernel
theorem dL_law_2607 : decode cL_law 2607 = .ok (.iload 6, 2) := by decide +kernel
theorem dL_law_2609 : decode cL_law 2609 = .ok (.if_icmp .eq 5, 3) := by decide +kernel
theorem dL_law_2612 : decode cL_law 2612 = .ok (.iconst 0, 1) := by decide +kernel
theorem dL_law_2613 : decode cL_law 2613 = .ok (.ireturn, 1) := by decide +kernel
theorem dL_law_2614 : decode cL_law 2614 = .ok (.iload 6, 2) := by decide +kernel
theorem dL_law_2616 : decode cL_law 2616 = .ok (.ifCond .ne 15, 3) := by decide +kernel
theorem dL_law_2619 : decode cL_law 2619 = .ok (.aload_n 3, 1) := by decide +kernel
theorem dL_law_2620 : decode cL_law 2620 = .ok (.iconst 0, 1) := by decide +kernel
theorem dL_law_2621 : decode cL_law 2621 = .ok (.laload, 1) := by decide +kernel
theorem dL_law_2622 : decode cL_law 2622 = .ok (.iload 7, 2) := by decide +kernel
theorem dL_law_2624 : decode cL_law 2624 = .ok (.i2l, 1) := by decide +kernel
theorem dL_law_2625 : decode cL_law 2625 = .ok (.lcmp, 1) := by decide +kernel
theorem dL_law_2626 : decode cL_law 2626 = .ok (.ifCond .eq 5, 3) := by decide +kernel
theorem dL_law_2629 : decode cL_law 2629 = .ok (.iconst 0, 1) := by decide +kernel
theorem dL_law_2630 : decode cL_law 2630 = .ok (.ireturn, 1) := by decide +kernel
theorem dL_law_2631 : decode cL_law 2631 = .ok (.goto 341, 3) := by decide +kernel
theorem dL_law_2634 : decode cL_law 2634 = .ok (.aload_n 1, 1) := by decide +kernel
theorem dL_law_2635 : decode cL_law 2635 = .ok (.aload_n 0, 1) := by decide +kernel
theorem dL_law_2636 : decode cL_law 2636 = .ok (.iload 5, 2) := by decide +kernel
theorem dL_law_2638 : decode cL_law 2638 = .ok (.iconst 1, 1) := by decide +kernel
theorem dL_law_2639 : decode cL_law 2639 = .ok (.iadd, 1) := by decide +kernel
theorem dL_law_2640 : decode cL_law 2640 = .ok (.iaload, 1) := by decide +kernel
theorem dL_law_2641 : decode cL_law 2641 = .ok (.aload_n 3, 1) := by decide +kernel
theorem dL_law_2642 : decode cL_law 2642 = .ok (.invokestatic 292, 3) := by decide +kernel
theorem dL_law_2645 : decode cL_law 2645 = .ok (.istore 6, 2) := by decide +kernel
theorem dL_law_2647 : decode cL_law 2647 = .ok (.aload_n 2, 1) := by decide +kernel
theorem dL_law_2648 : decode cL_law 2648 = .ok (.aload_n 0, 1) := by decide +kernel
theorem dL_law_2649 : decode cL_law 2649 = .ok (.iload 5, 2) := by decide +kernel
theorem dL_law_2651 : decode cL_law 2651 = .ok (.iconst 1, 1) := by decide +kernel
theorem dL_law_2652 : decode cL_law 2652 = .ok (.iadd, 1) := by decide +kernel
theorem dL_law_2653 : decode cL_law 2653 = .ok (.iaload, 1) := by decide +kernel
theorem dL_law_2654 : decode cL_law 2654 = .ok (.invokevirtual 294, 3) := by decide +kernel
theorem dL_law_2657 : decode cL_law 2657 = .ok (.istore 7, 2) := by decide +kernel
theorem dL_law_2659 : decode cL_law 2659 = .ok (.aload_n 2, 1) := by decide +kernel
theorem dL_law_2660 : decode cL_law 2660 = .ok (.invokevirtual 163, 3) := by decide +kernel
theorem dL_law_2663 : decode cL_law 2663 = .ok (.iload 6, 2) := by decide +kernel
theorem dL_law_2665 : decode cL_law 2665 = .ok (.if_icmp .eq 5, 3) := by decide +kernel
theorem dL_law_2668 : decode cL_law 2668 = .ok (.iconst 0, 1) := by decide +kernel
theorem dL_law_2669 : decode cL_law 2669 = .ok (.ireturn, 1) := by decide +kernel
theorem dL_law_2670 : decode cL_law 2670 = .ok (.iload 6, 2) := by decide +kernel
theorem dL_law_2672 : decode cL_law 2672 = .ok (.ifCond .ne 15, 3) := by decide +kernel
theorem dL_law_2675 : decode cL_law 2675 = .ok (.aload_n 3, 1) := by decide +kernel
theorem dL_law_2676 : decode cL_law 2676 = .ok (.iconst 0, 1) := by decide +kernel
theorem dL_law_2677 : decode cL_law 2677 = .ok (.laload, 1) := by decide +kernel
theorem dL_law_2678 : decode cL_law 2678 = .ok (.iload 7, 2) := by decide +kernel
theorem dL_law_2680 : decode cL_law 2680 = .ok (.i2l, 1) := by decide +kernel
theorem dL_law_2681 : decode cL_law 2681 = .ok (.lcmp, 1) := by decide +kernel
theorem dL_law_2682 : decode cL_law 2682 = .ok (.ifCond .eq 5, 3) := by decide +kernel
theorem dL_law_2685 : decode cL_law 2685 = .ok (.iconst 0, 1) := by decide +kernel
theorem dL_law_2686 : decode cL_law 2686 = .ok (.ireturn, 1) := by decide +kernel
theorem dL_law_2687 : decode cL_law 2687 = .ok (.goto 285, 3) := by decide +kernel
theorem dL_law_2690 : decode cL_law 2690 = .ok (.aload_n 1, 1) := by decide +kernel
theorem dL_law_2691 : decode cL_law 2691 = .ok (.aload_n 0, 1) := by decide +kernel
theorem dL_law_2692 : decode cL_law 2692 = .ok (.iload 5, 2) := by decide +kernel
theorem dL_law_2694 : decode cL_law 2694 = .ok (.iconst 1, 1) := by decide +kernel
theorem dL_law_2695 : decode cL_law 2695 = .ok (.iadd, 1) := by decide +kernel
theorem dL_law_2696 : decode cL_law 2696 = .ok (.iaload, 1) := by decide +kernel
theorem dL_law_2697 : decode cL_law 2697 = .ok (.aload_n 3, 1) := by decide +kernel
theorem dL_law_2698 : decode cL_law 2698 = .ok (.invokestatic 295, 3) := by decide +kernel
theorem dL_law_2701 : decode cL_law 2701 = .ok (.istore 6, 2) := by decide +kernel
theorem dL_law_2703 : decode cL_law 2703 = .ok (.aload_n 2, 1) := by decide +kernel
theorem dL_law_2704 : decode cL_law 2704 = .ok (.aload_n 0, 1) := by decide +kernel
theorem dL_law_2705 : decode cL_law 2705 = .ok (.iload 5, 2) := by decide +kernel
theorem dL_law_2707 : decode cL_law 2707 = .ok (.iconst 1, 1) := by decide +kernel
theorem dL_law_2708 : decode cL_law 2708 = .ok (.iadd, 1) := by decide +kernel
theorem dL_law_2709 : decode cL_law 2709 = .ok (.iaload, 1) := by decide +kernel
theorem dL_law_2710 : decode cL_law 2710 = .ok (.invokevirtual 297, 3) := by decide +kernel
theorem dL_law_2713 : decode cL_law 2713 = .ok (.istore 7, 2) := by decide +kernel
theorem dL_law_2715 : decode cL_law 2715 = .ok (.aload_n 2, 1) := by decide +kernel
theorem dL_law_2716 : decode cL_law 2716 = .ok (.invokevirtual 163, 3) := by decide +kernel
theorem dL_law_2719 : decode cL_law 2719 = .ok (.iload 6, 2) := by decide +kernel
theorem dL_law_2721 : decode cL_law 2721 = .ok (.if_icmp .eq 5, 3) := by decide +kernel
theorem dL_law_2724 : decode cL_law 2724 = .ok (.iconst 0, 1) := by decide +kernel
theorem dL_law_2725 : decode cL_law 2725 = .ok (.ireturn, 1) := by decide +kernel
theorem dL_law_2726 : decode cL_law 2726 = .ok (.iload 6, 2) := by decide +kernel
theorem dL_law_2728 : decode cL_law 2728 = .ok (.ifCond .ne 15, 3) := by decide +kernel
theorem dL_law_2731 : decode cL_law 2731 = .ok (.aload_n 3, 1) := by decide +kernel
theorem dL_law_2732 : decode cL_law 2732 = .ok (.iconst 0, 1) := by decide +kernel
theorem dL_law_2733 : decode cL_law 2733 = .ok (.laload, 1) := by decide +kernel
theorem dL_law_2734 : decode cL_law 2734 = .ok (.iload 7, 2) := by decide +kernel
theorem dL_law_2736 : decode cL_law 2736 = .ok (.i2l, 1) := by decide +kernel
theorem dL_law_2737 : decode cL_law 2737 = .ok (.lcmp, 1) := by decide +kernel
theorem dL_law_2738 : decode cL_law 2738 = .ok (.ifCond .eq 5, 3) := by decide +kernel
theorem dL_law_2741 : decode cL_law 2741 = .ok (.iconst 0, 1) := by decide +kernel
theorem dL_law_2742 : decode cL_law 2742 = .ok (.ireturn, 1) := by decide +kernel
theorem dL_law_2743 : decode cL_law 2743 = .ok (.goto 229, 3) := by decide +kernel
theorem dL_law_2746 : decode cL_law 2746 = .ok (.aload_n 1, 1) := by decide +kernel
theorem dL_law_2747 : decode cL_law 2747 = .ok (.aload_n 0, 1) := by decide +kernel
theorem dL_law_2748 : decode cL_law 2748 = .ok (.iload 5, 2) := by decide +kernel
theorem dL_law_2750 : decode cL_law 2750 = .ok (.iconst 1, 1) := by decide +kernel
theorem dL_law_2751 : decode cL_law 2751 = .ok (.iadd, 1) := by decide +kernel
theorem dL_law_2752 : decode cL_law 2752 = .ok (.iaload, 1) := by decide +kernel
theorem dL_law_2753 : decode cL_law 2753 = .ok (.aload_n 3, 1) := by decide +kernel
theorem dL_law_2754 : decode cL_law 2754 = .ok (.invokestatic 298, 3) := by decide +kernel
theorem dL_law_2757 : decode cL_law 2757 = .ok (.istore 6, 2) := by decide +kernel
theorem dL_law_2759 : decode cL_law 2759 = .ok (.aload_n 2, 1) := by decide +kernel
theorem dL_law_2760 : decode cL_law 2760 = .ok (.aload_n 0, 1) := by decide +kernel
theorem dL_law_2761 : decode cL_law 2761 = .ok (.iload 5, 2) := by decide +kernel
theorem dL_law_2763 : decode cL_law 2763 = .ok (.iconst 1, 1) := by decide +kernel
theorem dL_law_2764 : decode cL_law 2764 = .ok (.iadd, 1) := by decide +kernel
theorem dL_law_2765 : decode cL_law 2765 = .ok (.iaload, 1) := by decide +kernel
theorem dL_law_2766 : decode cL_law 2766 = .ok (.invokevirtual 300, 3) := by decide +kernel
theorem dL_law_2769 : decode cL_law 2769 = .ok (.istore 7, 2) := by decide +kernel
theorem dL_law_2771 : decode cL_law 2771 = .ok (.aload_n 2, 1) := by decide +kernel
theorem dL_law_2772 : decode cL_law 2772 = .ok (.invokevirtual 163, 3) := by decide +kernel
theorem dL_law_2775 : decode cL_law 2775 = .ok (.iload 6, 2) := by decide +kernel
theorem dL_law_2777 : decode cL_law 2777 = .ok (.if_icmp .eq 5, 3) := by decide +kernel
theorem dL_law_2780 : decode cL_law 2780 = .ok (.iconst 0, 1) := by decide +kernel
theorem dL_law_2781 : decode cL_law 2781 = .ok (.ireturn, 1) := by decide +kernel
theorem dL_law_2782 : decode cL_law 2782 = .ok (.iload 6, 2) := by decide +kernel
theorem dL_law_2784 : decode cL_law 2784 = .ok (.ifCond .ne 15, 3) := by decide +kernel
theorem dL_law_2787 : decode cL_law 2787 = .ok (.aload_n 3, 1) := by decide +kernel
theorem dL_law_2788 : decode cL_law 2788 = .ok (.iconst 0, 1) := by decide +kernel
theorem dL_law_2789 : decode cL_law 2789 = .ok (.laload, 1) := by decide +kernel
theorem dL_law_2790 : decode cL_law 2790 = .ok (.iload 7, 2) := by decide +kernel
theorem dL_law_2792 : decode cL_law 2792 = .ok (.i2l, 1) := by decide +kernel
theorem dL_law_2793 : decode cL_law 2793 = .ok (.lcmp, 1) := by decide +kernel
theorem dL_law_2794 : decode cL_law 2794 = .ok (.ifCond .eq 5, 3) := by decide +kernel
theorem dL_law_2797 : decode cL_law 2797 = .ok (.iconst 0, 1) := by decide +kernel
theorem dL_law_2798 : decode cL_law 2798 = .ok (.ireturn, 1) := by decide +kernel
theorem dL_law_2799 : decode cL_law 2799 = .ok (.goto 173, 3) := by decide +kernel
theorem dL_law_2802 : decode cL_law 2802 = .ok (.aload_n 1, 1) := by decide +kernel
theorem dL_law_2803 : decode cL_law 2803 = .ok (.aload_n 0, 1) := by decide +kernel
theorem dL_law_2804 : decode cL_law 2804 = .ok (.iload 5, 2) := by decide +kernel
theorem dL_law_2806 : decode cL_law 2806 = .ok (.iconst 1, 1) := by decide +kernel
theorem dL_law_2807 : decode cL_law 2807 = .ok (.iadd, 1) := by decide +kernel
theorem dL_law_2808 : decode cL_law 2808 = .ok (.iaload, 1) := by decide +kernel
theorem dL_law_2809 : decode cL_law 2809 = .ok (.aload 4, 2) := by decide +kernel
theorem dL_law_2811 : decode cL_law 2811 = .ok (.invokestatic 301, 3) := by decide +kernel
theorem dL_law_2814 : decode cL_law 2814 = .ok (.istore 6, 2) := by decide +kernel
theorem dL_law_2816 : decode cL_law 2816 = .ok (.aload_n 2, 1) := by decide +kernel
theorem dL_law_2817 : decode cL_law 2817 = .ok (.aload_n 0, 1) := by decide +kernel
theorem dL_law_2818 : decode cL_law 2818 = .ok (.iload 5, 2) := by decide +kernel
theorem dL_law_2820 : decode cL_law 2820 = .ok (.iconst 1, 1) := by decide +kernel
theorem dL_law_2821 : decode cL_law 2821 = .ok (.iadd, 1) := by decide +kernel
theorem dL_law_2822 : decode cL_law 2822 = .ok (.iaload, 1) := by decide +kernel
theorem dL_law_2823 : decode cL_law 2823 = .ok (.invokevirtual 304, 3) := by decide +kernel
theorem dL_law_2826 : decode cL_law 2826 = .ok (.fstore 7, 2) := by decide +kernel
theorem dL_law_2828 : decode cL_law 2828 = .ok (.aload_n 2, 1) := by decide +kernel
theorem dL_law_2829 : decode cL_law 2829 = .ok (.invokevirtual 163, 3) := by decide +kernel
theorem dL_law_2832 : decode cL_law 2832 = .ok (.iload 6, 2) := by decide +kernel
theorem dL_law_2834 : decode cL_law 2834 = .ok (.if_icmp .eq 5, 3) := by decide +kernel
theorem dL_law_2837 : decode cL_law 2837 = .ok (.iconst 0, 1) := by decide +kernel
theorem dL_law_2838 : decode cL_law 2838 = .ok (.ireturn, 1) := by decide +kernel
theorem dL_law_2839 : decode cL_law 2839 = .ok (.iload 6, 2) := by decide +kernel
theorem dL_law_2841 : decode cL_law 2841 = .ok (.ifCond .ne 36, 3) := by decide +kernel
theorem dL_law_2844 : decode cL_law 2844 = .ok (.aload 4, 2) := by decide +kernel
theorem dL_law_2846 : decode cL_law 2846 = .ok (.iconst 0, 1) := by decide +kernel
theorem dL_law_2847 : decode cL_law 2847 = .ok (.daload, 1) := by decide +kernel
theorem dL_law_2848 : decode cL_law 2848 = .ok (.fload 7, 2) := by decide +kernel
theorem dL_law_2850 : decode cL_law 2850 = .ok (.f2d, 1) := by decide +kernel
theorem dL_law_2851 : decode cL_law 2851 = .ok (.dcmp .l, 1) := by decide +kernel
theorem dL_law_2852 : decode cL_law 2852 = .ok (.ifCond .eq 25, 3) := by decide +kernel
theorem dL_law_2855 : decode cL_law 2855 = .ok (.aload 4, 2) := by decide +kernel
theorem dL_law_2857 : decode cL_law 2857 = .ok (.iconst 0, 1) := by decide +kernel
theorem dL_law_2858 : decode cL_law 2858 = .ok (.daload, 1) := by decide +kernel
theorem dL_law_2859 : decode cL_law 2859 = .ok (.aload 4, 2) := by decide +kernel
theorem dL_law_2861 : decode cL_law 2861 = .ok (.iconst 0, 1) := by decide +kernel
theorem dL_law_2862 : decode cL_law 2862 = .ok (.daload, 1) := by decide +kernel
theorem dL_law_2863 : decode cL_law 2863 = .ok (.dcmp .l, 1) := by decide +kernel
theorem dL_law_2864 : decode cL_law 2864 = .ok (.ifCond .eq 11, 3) := by decide +kernel
theorem dL_law_2867 : decode cL_law 2867 = .ok (.fload 7, 2) := by decide +kernel
theorem dL_law_2869 : decode cL_law 2869 = .ok (.fload 7, 2) := by decide +kernel
theorem dL_law_2871 : decode cL_law 2871 = .ok (.fcmp .l, 1) := by decide +kernel
theorem dL_law_2872 : decode cL_law 2872 = .ok (.ifCond .ne 5, 3) := by decide +kernel
theorem dL_law_2875 : decode cL_law 2875 = .ok (.iconst 0, 1) := by decide +kernel
theorem dL_law_2876 : decode cL_law 2876 = .ok (.ireturn, 1) := by decide +kernel
theorem dL_law_2877 : decode cL_law 2877 = .ok (.goto 95, 3) := by decide +kernel
theorem dL_law_2880 : decode cL_law 2880 = .ok (.aload_n 1, 1) := by decide +kernel
theorem dL_law_2881 : decode cL_law 2881 = .ok (.aload 4, 2) := by decide +kernel
theorem dL_law_2883 : decode cL_law 2883 = .ok (.invokestatic 305, 3) := by decide +kernel
theorem dL_law_2886 : decode cL_law 2886 = .ok (.istore 6, 2) := by decide +kernel
theorem dL_law_2888 : decode cL_law 2888 = .ok (.aload_n 2, 1) := by decide +kernel
theorem dL_law_2889 : decode cL_law 2889 = .ok (.invokevirtual 308, 3) := by decide +kernel
theorem dL_law_2892 : decode cL_law 2892 = .ok (.dstore 7, 2) := by decide +kernel
theorem dL_law_2894 : decode cL_law 2894 = .ok (.aload_n 2, 1) := by decide +kernel
theorem dL_law_2895 : decode cL_law 2895 = .ok (.invokevirtual 163, 3) := by decide +kernel
theorem dL_law_2898 : decode cL_law 2898 = .ok (.iload 6, 2) := by decide +kernel
theorem dL_law_2900 : decode cL_law 2900 = .ok (.if_icmp .eq 5, 3) := by decide +kernel
theorem dL_law_2903 : decode cL_law 2903 = .ok (.iconst 0, 1) := by decide +kernel
theorem dL_law_2904 : decode cL_law 2904 = .ok (.ireturn, 1) := by decide +kernel
theorem dL_law_2905 : decode cL_law 2905 = .ok (.iload 6, 2) := by decide +kernel
theorem dL_law_2907 : decode cL_law 2907 = .ok (.ifCond .ne 35, 3) := by decide +kernel
theorem dL_law_2910 : decode cL_law 2910 = .ok (.aload 4, 2) := by decide +kernel
theorem dL_law_2912 : decode cL_law 2912 = .ok (.iconst 0, 1) := by decide +kernel
theorem dL_law_2913 : decode cL_law 2913 = .ok (.daload, 1) := by decide +kernel
theorem dL_law_2914 : decode cL_law 2914 = .ok (.dload 7, 2) := by decide +kernel
theorem dL_law_2916 : decode cL_law 2916 = .ok (.dcmp .l, 1) := by decide +kernel
theorem dL_law_2917 : decode cL_law 2917 = .ok (.ifCond .eq 25, 3) := by decide +kernel
theorem dL_law_2920 : decode cL_law 2920 = .ok (.aload 4, 2) := by decide +kernel
theorem dL_law_2922 : decode cL_law 2922 = .ok (.iconst 0, 1) := by decide +kernel
theorem dL_law_2923 : decode cL_law 2923 = .ok (.daload, 1) := by decide +kernel
theorem dL_law_2924 : decode cL_law 2924 = .ok (.aload 4, 2) := by decide +kernel
theorem dL_law_2926 : decode cL_law 2926 = .ok (.iconst 0, 1) := by decide +kernel
theorem dL_law_2927 : decode cL_law 2927 = .ok (.daload, 1) := by decide +kernel
theorem dL_law_2928 : decode cL_law 2928 = .ok (.dcmp .l, 1) := by decide +kernel
theorem dL_law_2929 : decode cL_law 2929 = .ok (.ifCond .eq 11, 3) := by decide +kernel
theorem dL_law_2932 : decode cL_law 2932 = .ok (.dload 7, 2) := by decide +kernel
theorem dL_law_2934 : decode cL_law 2934 = .ok (.dload 7, 2) := by decide +kernel
theorem dL_law_2936 : decode cL_law 2936 = .ok (.dcmp .l, 1) := by decide +kernel
theorem dL_law_2937 : decode cL_law 2937 = .ok (.ifCond .ne 5, 3) := by decide +kernel
theorem dL_law_2940 : decode cL_law 2940 = .ok (.iconst 0, 1) := by decide +kernel
theorem dL_law_2941 : decode cL_law 2941 = .ok (.ireturn, 1) := by decide +kernel
theorem dL_law_2942 : decode cL_law 2942 = .ok (.goto 30, 3) := by decide +kernel
theorem dL_law_2945 : decode cL_law 2945 = .ok (.aload_n 1, 1) := by decide +kernel
theorem dL_law_2946 : decode cL_law 2946 = .ok (.invokevirtual 309, 3) := by decide +kernel
theorem dL_law_2949 : decode cL_law 2949 = .ok (.aload_n 2, 1) := by decide +kernel
theorem dL_law_2950 : decode cL_law 2950 = .ok (.invokevirtual 313, 3) := by decide +kernel
theorem dL_law_2953 : decode cL_law 2953 = .ok (.lcmp, 1) := by decide +kernel
theorem dL_law_2954 : decode cL_law 2954 = .ok (.ifCond .eq 18, 3) := by decide +kernel
theorem dL_law_2957 : decode cL_law 2957 = .ok (.iconst 0, 1) := by decide +kernel
theorem dL_law_2958 : decode cL_law 2958 = .ok (.ireturn, 1) := by decide +kernel
theorem dL_law_2959 : decode cL_law 2959 = .ok (.aload_n 1, 1) := by decide +kernel
theorem dL_law_2960 : decode cL_law 2960 = .ok (.invokevirtual 314, 3) := by decide +kernel
theorem dL_law_2963 : decode cL_law 2963 = .ok (.aload_n 2, 1) := by decide +kernel
theorem dL_law_2964 : decode cL_law 2964 = .ok (.invokevirtual 318, 3) := by decide +kernel
theorem dL_law_2967 : decode cL_law 2967 = .ok (.if_icmp .eq 5, 3) := by decide +kernel
theorem dL_law_2970 : decode cL_law 2970 = .ok (.iconst 0, 1) := by decide +kernel
theorem dL_law_2971 : decode cL_law 2971 = .ok (.ireturn, 1) := by decide +kernel
theorem dL_law_2972 : decode cL_law 2972 = .ok (.iinc 5 5, 3) := by decide +kernel
theorem dL_law_2975 : decode cL_law 2975 = .ok (.goto (-2947), 3) := by decide +kernel
theorem dL_law_2978 : decode cL_law 2978 = .ok (.iconst 1, 1) := by decide +kernel
theorem dL_law_2979 : decode cL_law 2979 = .ok (.ireturn, 1) := by decide +kernel
