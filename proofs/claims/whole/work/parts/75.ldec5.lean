theorem dL_law_2658 : decode cL_law 2658 = .ok (.iconst 0, 1) := by decide +kernel
theorem dL_law_2659 : decode cL_law 2659 = .ok (.laload, 1) := by decide +kernel
theorem dL_law_2660 : decode cL_law 2660 = .ok (.iload 6, 2) := by decide +kernel
theorem dL_law_2662 : decode cL_law 2662 = .ok (.i2l, 1) := by decide +kernel
theorem dL_law_2663 : decode cL_law 2663 = .ok (.lcmp, 1) := by decide +kernel
theorem dL_law_2664 : decode cL_law 2664 = .ok (.ifCond .eq 5, 3) := by decide +kernel
theorem dL_law_2667 : decode cL_law 2667 = .ok (.iconst 0, 1) := by decide +kernel
theorem dL_law_2668 : decode cL_law 2668 = .ok (.ireturn, 1) := by decide +kernel
theorem dL_law_2669 : decode cL_law 2669 = .ok (.goto 1399, 3) := by decide +kernel
theorem dL_law_2672 : decode cL_law 2672 = .ok (.aload_n 1, 1) := by decide +kernel
theorem dL_law_2673 : decode cL_law 2673 = .ok (.aload_n 0, 1) := by decide +kernel
theorem dL_law_2674 : decode cL_law 2674 = .ok (.iload 4, 2) := by decide +kernel
theorem dL_law_2676 : decode cL_law 2676 = .ok (.iconst 1, 1) := by decide +kernel
theorem dL_law_2677 : decode cL_law 2677 = .ok (.iadd, 1) := by decide +kernel
theorem dL_law_2678 : decode cL_law 2678 = .ok (.iaload, 1) := by decide +kernel
theorem dL_law_2679 : decode cL_law 2679 = .ok (.aload_n 3, 1) := by decide +kernel
theorem dL_law_2680 : decode cL_law 2680 = .ok (.invokestatic 344, 3) := by decide +kernel
theorem dL_law_2683 : decode cL_law 2683 = .ok (.istore 5, 2) := by decide +kernel
theorem dL_law_2685 : decode cL_law 2685 = .ok (.aload_n 2, 1) := by decide +kernel
theorem dL_law_2686 : decode cL_law 2686 = .ok (.aload_n 0, 1) := by decide +kernel
theorem dL_law_2687 : decode cL_law 2687 = .ok (.iload 4, 2) := by decide +kernel
theorem dL_law_2689 : decode cL_law 2689 = .ok (.iconst 1, 1) := by decide +kernel
theorem dL_law_2690 : decode cL_law 2690 = .ok (.iadd, 1) := by decide +kernel
theorem dL_law_2691 : decode cL_law 2691 = .ok (.iaload, 1) := by decide +kernel
theorem dL_law_2692 : decode cL_law 2692 = .ok (.invokevirtual 346, 3) := by decide +kernel
theorem dL_law_2695 : decode cL_law 2695 = .ok (.istore 6, 2) := by decide +kernel
theorem dL_law_2697 : decode cL_law 2697 = .ok (.aload_n 2, 1) := by decide +kernel
theorem dL_law_2698 : decode cL_law 2698 = .ok (.invokevirtual 209, 3) := by decide +kernel
theorem dL_law_2701 : decode cL_law 2701 = .ok (.iload 5, 2) := by decide +kernel
theorem dL_law_2703 : decode cL_law 2703 = .ok (.if_icmp .eq 5, 3) := by decide +kernel
theorem dL_law_2706 : decode cL_law 2706 = .ok (.iconst 0, 1) := by decide +kernel
theorem dL_law_2707 : decode cL_law 2707 = .ok (.ireturn, 1) := by decide +kernel
theorem dL_law_2708 : decode cL_law 2708 = .ok (.iload 5, 2) := by decide +kernel
theorem dL_law_2710 : decode cL_law 2710 = .ok (.ifCond .ne 15, 3) := by decide +kernel
theorem dL_law_2713 : decode cL_law 2713 = .ok (.aload_n 3, 1) := by decide +kernel
theorem dL_law_2714 : decode cL_law 2714 = .ok (.iconst 0, 1) := by decide +kernel
theorem dL_law_2715 : decode cL_law 2715 = .ok (.laload, 1) := by decide +kernel
theorem dL_law_2716 : decode cL_law 2716 = .ok (.iload 6, 2) := by decide +kernel
theorem dL_law_2718 : decode cL_law 2718 = .ok (.i2l, 1) := by decide +kernel
theorem dL_law_2719 : decode cL_law 2719 = .ok (.lcmp, 1) := by decide +kernel
theorem dL_law_2720 : decode cL_law 2720 = .ok (.ifCond .eq 5, 3) := by decide +kernel
theorem dL_law_2723 : decode cL_law 2723 = .ok (.iconst 0, 1) := by decide +kernel
theorem dL_law_2724 : decode cL_law 2724 = .ok (.ireturn, 1) := by decide +kernel
theorem dL_law_2725 : decode cL_law 2725 = .ok (.goto 1343, 3) := by decide +kernel
theorem dL_law_2728 : decode cL_law 2728 = .ok (.aload_n 1, 1) := by decide +kernel
theorem dL_law_2729 : decode cL_law 2729 = .ok (.aload_n 0, 1) := by decide +kernel
theorem dL_law_2730 : decode cL_law 2730 = .ok (.iload 4, 2) := by decide +kernel
theorem dL_law_2732 : decode cL_law 2732 = .ok (.iconst 1, 1) := by decide +kernel
theorem dL_law_2733 : decode cL_law 2733 = .ok (.iadd, 1) := by decide +kernel
theorem dL_law_2734 : decode cL_law 2734 = .ok (.iaload, 1) := by decide +kernel
theorem dL_law_2735 : decode cL_law 2735 = .ok (.aload_n 0, 1) := by decide +kernel
theorem dL_law_2736 : decode cL_law 2736 = .ok (.iload 4, 2) := by decide +kernel
theorem dL_law_2738 : decode cL_law 2738 = .ok (.iconst 2, 1) := by decide +kernel
theorem dL_law_2739 : decode cL_law 2739 = .ok (.iadd, 1) := by decide +kernel
theorem dL_law_2740 : decode cL_law 2740 = .ok (.iaload, 1) := by decide +kernel
theorem dL_law_2741 : decode cL_law 2741 = .ok (.aload_n 0, 1) := by decide +kernel
theorem dL_law_2742 : decode cL_law 2742 = .ok (.iload 4, 2) := by decide +kernel
theorem dL_law_2744 : decode cL_law 2744 = .ok (.iconst 3, 1) := by decide +kernel
theorem dL_law_2745 : decode cL_law 2745 = .ok (.iadd, 1) := by decide +kernel
theorem dL_law_2746 : decode cL_law 2746 = .ok (.iaload, 1) := by decide +kernel
theorem dL_law_2747 : decode cL_law 2747 = .ok (.aload_n 0, 1) := by decide +kernel
theorem dL_law_2748 : decode cL_law 2748 = .ok (.iload 4, 2) := by decide +kernel
theorem dL_law_2750 : decode cL_law 2750 = .ok (.iconst 4, 1) := by decide +kernel
theorem dL_law_2751 : decode cL_law 2751 = .ok (.iadd, 1) := by decide +kernel
theorem dL_law_2752 : decode cL_law 2752 = .ok (.iaload, 1) := by decide +kernel
theorem dL_law_2753 : decode cL_law 2753 = .ok (.aload_n 3, 1) := by decide +kernel
theorem dL_law_2754 : decode cL_law 2754 = .ok (.invokestatic 347, 3) := by decide +kernel
theorem dL_law_2757 : decode cL_law 2757 = .ok (.istore 5, 2) := by decide +kernel
theorem dL_law_2759 : decode cL_law 2759 = .ok (.aload_n 2, 1) := by decide +kernel
theorem dL_law_2760 : decode cL_law 2760 = .ok (.aload_n 0, 1) := by decide +kernel
theorem dL_law_2761 : decode cL_law 2761 = .ok (.iload 4, 2) := by decide +kernel
theorem dL_law_2763 : decode cL_law 2763 = .ok (.iconst 1, 1) := by decide +kernel
theorem dL_law_2764 : decode cL_law 2764 = .ok (.iadd, 1) := by decide +kernel
theorem dL_law_2765 : decode cL_law 2765 = .ok (.iaload, 1) := by decide +kernel
theorem dL_law_2766 : decode cL_law 2766 = .ok (.aload_n 0, 1) := by decide +kernel
theorem dL_law_2767 : decode cL_law 2767 = .ok (.iload 4, 2) := by decide +kernel
theorem dL_law_2769 : decode cL_law 2769 = .ok (.iconst 2, 1) := by decide +kernel
theorem dL_law_2770 : decode cL_law 2770 = .ok (.iadd, 1) := by decide +kernel
theorem dL_law_2771 : decode cL_law 2771 = .ok (.iaload, 1) := by decide +kernel
theorem dL_law_2772 : decode cL_law 2772 = .ok (.aload_n 0, 1) := by decide +kernel
theorem dL_law_2773 : decode cL_law 2773 = .ok (.iload 4, 2) := by decide +kernel
theorem dL_law_2775 : decode cL_law 2775 = .ok (.iconst 3, 1) := by decide +kernel
theorem dL_law_2776 : decode cL_law 2776 = .ok (.iadd, 1) := by decide +kernel
theorem dL_law_2777 : decode cL_law 2777 = .ok (.iaload, 1) := by decide +kernel
theorem dL_law_2778 : decode cL_law 2778 = .ok (.aload_n 0, 1) := by decide +kernel
theorem dL_law_2779 : decode cL_law 2779 = .ok (.iload 4, 2) := by decide +kernel
theorem dL_law_2781 : decode cL_law 2781 = .ok (.iconst 4, 1) := by decide +kernel
theorem dL_law_2782 : decode cL_law 2782 = .ok (.iadd, 1) := by decide +kernel
theorem dL_law_2783 : decode cL_law 2783 = .ok (.iaload, 1) := by decide +kernel
theorem dL_law_2784 : decode cL_law 2784 = .ok (.invokevirtual 349, 3) := by decide +kernel
theorem dL_law_2787 : decode cL_law 2787 = .ok (.istore 6, 2) := by decide +kernel
theorem dL_law_2789 : decode cL_law 2789 = .ok (.aload_n 2, 1) := by decide +kernel
theorem dL_law_2790 : decode cL_law 2790 = .ok (.invokevirtual 209, 3) := by decide +kernel
theorem dL_law_2793 : decode cL_law 2793 = .ok (.iload 5, 2) := by decide +kernel
theorem dL_law_2795 : decode cL_law 2795 = .ok (.if_icmp .eq 5, 3) := by decide +kernel
theorem dL_law_2798 : decode cL_law 2798 = .ok (.iconst 0, 1) := by decide +kernel
theorem dL_law_2799 : decode cL_law 2799 = .ok (.ireturn, 1) := by decide +kernel
theorem dL_law_2800 : decode cL_law 2800 = .ok (.iload 5, 2) := by decide +kernel
theorem dL_law_2802 : decode cL_law 2802 = .ok (.ifCond .ne 15, 3) := by decide +kernel
theorem dL_law_2805 : decode cL_law 2805 = .ok (.aload_n 3, 1) := by decide +kernel
theorem dL_law_2806 : decode cL_law 2806 = .ok (.iconst 0, 1) := by decide +kernel
theorem dL_law_2807 : decode cL_law 2807 = .ok (.laload, 1) := by decide +kernel
theorem dL_law_2808 : decode cL_law 2808 = .ok (.iload 6, 2) := by decide +kernel
theorem dL_law_2810 : decode cL_law 2810 = .ok (.i2l, 1) := by decide +kernel
theorem dL_law_2811 : decode cL_law 2811 = .ok (.lcmp, 1) := by decide +kernel
theorem dL_law_2812 : decode cL_law 2812 = .ok (.ifCond .eq 5, 3) := by decide +kernel
theorem dL_law_2815 : decode cL_law 2815 = .ok (.iconst 0, 1) := by decide +kernel
theorem dL_law_2816 : decode cL_law 2816 = .ok (.ireturn, 1) := by decide +kernel
theorem dL_law_2817 : decode cL_law 2817 = .ok (.goto 1251, 3) := by decide +kernel
theorem dL_law_2820 : decode cL_law 2820 = .ok (.aload_n 1, 1) := by decide +kernel
theorem dL_law_2821 : decode cL_law 2821 = .ok (.aload_n 0, 1) := by decide +kernel
theorem dL_law_2822 : decode cL_law 2822 = .ok (.iload 4, 2) := by decide +kernel
theorem dL_law_2824 : decode cL_law 2824 = .ok (.iconst 1, 1) := by decide +kernel
theorem dL_law_2825 : decode cL_law 2825 = .ok (.iadd, 1) := by decide +kernel
theorem dL_law_2826 : decode cL_law 2826 = .ok (.iaload, 1) := by decide +kernel
theorem dL_law_2827 : decode cL_law 2827 = .ok (.aload_n 3, 1) := by decide +kernel
theorem dL_law_2828 : decode cL_law 2828 = .ok (.invokestatic 350, 3) := by decide +kernel
theorem dL_law_2831 : decode cL_law 2831 = .ok (.istore 5, 2) := by decide +kernel
theorem dL_law_2833 : decode cL_law 2833 = .ok (.aload_n 2, 1) := by decide +kernel
theorem dL_law_2834 : decode cL_law 2834 = .ok (.aload_n 0, 1) := by decide +kernel
theorem dL_law_2835 : decode cL_law 2835 = .ok (.iload 4, 2) := by decide +kernel
theorem dL_law_2837 : decode cL_law 2837 = .ok (.iconst 1, 1) := by decide +kernel
theorem dL_law_2838 : decode cL_law 2838 = .ok (.iadd, 1) := by decide +kernel
theorem dL_law_2839 : decode cL_law 2839 = .ok (.iaload, 1) := by decide +kernel
theorem dL_law_2840 : decode cL_law 2840 = .ok (.invokevirtual 352, 3) := by decide +kernel
theorem dL_law_2843 : decode cL_law 2843 = .ok (.istore 6, 2) := by decide +kernel
theorem dL_law_2845 : decode cL_law 2845 = .ok (.aload_n 2, 1) := by decide +kernel
theorem dL_law_2846 : decode cL_law 2846 = .ok (.invokevirtual 209, 3) := by decide +kernel
theorem dL_law_2849 : decode cL_law 2849 = .ok (.iload 5, 2) := by decide +kernel
theorem dL_law_2851 : decode cL_law 2851 = .ok (.if_icmp .eq 5, 3) := by decide +kernel
theorem dL_law_2854 : decode cL_law 2854 = .ok (.iconst 0, 1) := by decide +kernel
theorem dL_law_2855 : decode cL_law 2855 = .ok (.ireturn, 1) := by decide +kernel
theorem dL_law_2856 : decode cL_law 2856 = .ok (.iload 5, 2) := by decide +kernel
theorem dL_law_2858 : decode cL_law 2858 = .ok (.ifCond .ne 15, 3) := by decide +kernel
theorem dL_law_2861 : decode cL_law 2861 = .ok (.aload_n 3, 1) := by decide +kernel
theorem dL_law_2862 : decode cL_law 2862 = .ok (.iconst 0, 1) := by decide +kernel
theorem dL_law_2863 : decode cL_law 2863 = .ok (.laload, 1) := by decide +kernel
theorem dL_law_2864 : decode cL_law 2864 = .ok (.iload 6, 2) := by decide +kernel
theorem dL_law_2866 : decode cL_law 2866 = .ok (.i2l, 1) := by decide +kernel
theorem dL_law_2867 : decode cL_law 2867 = .ok (.lcmp, 1) := by decide +kernel
theorem dL_law_2868 : decode cL_law 2868 = .ok (.ifCond .eq 5, 3) := by decide +kernel
theorem dL_law_2871 : decode cL_law 2871 = .ok (.iconst 0, 1) := by decide +kernel
theorem dL_law_2872 : decode cL_law 2872 = .ok (.ireturn, 1) := by decide +kernel
theorem dL_law_2873 : decode cL_law 2873 = .ok (.goto 1195, 3) := by decide +kernel
theorem dL_law_2876 : decode cL_law 2876 = .ok (.aload_n 1, 1) := by decide +kernel
theorem dL_law_2877 : decode cL_law 2877 = .ok (.aload_n 0, 1) := by decide +kernel
theorem dL_law_2878 : decode cL_law 2878 = .ok (.iload 4, 2) := by decide +kernel
theorem dL_law_2880 : decode cL_law 2880 = .ok (.iconst 1, 1) := by decide +kernel
theorem dL_law_2881 : decode cL_law 2881 = .ok (.iadd, 1) := by decide +kernel
theorem dL_law_2882 : decode cL_law 2882 = .ok (.iaload, 1) := by decide +kernel
theorem dL_law_2883 : decode cL_law 2883 = .ok (.aload_n 0, 1) := by decide +kernel
theorem dL_law_2884 : decode cL_law 2884 = .ok (.iload 4, 2) := by decide +kernel
theorem dL_law_2886 : decode cL_law 2886 = .ok (.iconst 2, 1) := by decide +kernel
theorem dL_law_2887 : decode cL_law 2887 = .ok (.iadd, 1) := by decide +kernel
theorem dL_law_2888 : decode cL_law 2888 = .ok (.iaload, 1) := by decide +kernel
theorem dL_law_2889 : decode cL_law 2889 = .ok (.aload_n 3, 1) := by decide +kernel
theorem dL_law_2890 : decode cL_law 2890 = .ok (.invokestatic 353, 3) := by decide +kernel
theorem dL_law_2893 : decode cL_law 2893 = .ok (.istore 5, 2) := by decide +kernel
theorem dL_law_2895 : decode cL_law 2895 = .ok (.aload_n 2, 1) := by decide +kernel
theorem dL_law_2896 : decode cL_law 2896 = .ok (.aload_n 0, 1) := by decide +kernel
theorem dL_law_2897 : decode cL_law 2897 = .ok (.iload 4, 2) := by decide +kernel
theorem dL_law_2899 : decode cL_law 2899 = .ok (.iconst 1, 1) := by decide +kernel
theorem dL_law_2900 : decode cL_law 2900 = .ok (.iadd, 1) := by decide +kernel
theorem dL_law_2901 : decode cL_law 2901 = .ok (.iaload, 1) := by decide +kernel
theorem dL_law_2902 : decode cL_law 2902 = .ok (.aload_n 0, 1) := by decide +kernel
theorem dL_law_2903 : decode cL_law 2903 = .ok (.iload 4, 2) := by decide +kernel
theorem dL_law_2905 : decode cL_law 2905 = .ok (.iconst 2, 1) := by decide +kernel
theorem dL_law_2906 : decode cL_law 2906 = .ok (.iadd, 1) := by decide +kernel
theorem dL_law_2907 : decode cL_law 2907 = .ok (.iaload, 1) := by decide +kernel
theorem dL_law_2908 : decode cL_law 2908 = .ok (.invokevirtual 355, 3) := by decide +kernel
theorem dL_law_2911 : decode cL_law 2911 = .ok (.istore 6, 2) := by decide +kernel
theorem dL_law_2913 : decode cL_law 2913 = .ok (.aload_n 2, 1) := by decide +kernel
theorem dL_law_2914 : decode cL_law 2914 = .ok (.invokevirtual 209, 3) := by decide +kernel
theorem dL_law_2917 : decode cL_law 2917 = .ok (.iload 5, 2) := by decide +kernel
theorem dL_law_2919 : decode cL_law 2919 = .ok (.if_icmp .eq 5, 3) := by decide +kernel
theorem dL_law_2922 : decode cL_law 2922 = .ok (.iconst 0, 1) := by decide +kernel
theorem dL_law_2923 : decode cL_law 2923 = .ok (.ireturn, 1) := by decide +kernel
theorem dL_law_2924 : decode cL_law 2924 = .ok (.iload 5, 2) := by decide +kernel
theorem dL_law_2926 : decode cL_law 2926 = .ok (.ifCond .ne 15, 3) := by decide +kernel
theorem dL_law_2929 : decode cL_law 2929 = .ok (.aload_n 3, 1) := by decide +kernel
theorem dL_law_2930 : decode cL_law 2930 = .ok (.iconst 0, 1) := by decide +kernel
theorem dL_law_2931 : decode cL_law 2931 = .ok (.laload, 1) := by decide +kernel
theorem dL_law_2932 : decode cL_law 2932 = .ok (.iload 6, 2) := by decide +kernel
theorem dL_law_2934 : decode cL_law 2934 = .ok (.i2l, 1) := by decide +kernel
theorem dL_law_2935 : decode cL_law 2935 = .ok (.lcmp, 1) := by decide +kernel
theorem dL_law_2936 : decode cL_law 2936 = .ok (.ifCond .eq 5, 3) := by decide +kernel
theorem dL_law_2939 : decode cL_law 2939 = .ok (.iconst 0, 1) := by decide +kernel
theorem dL_law_2940 : decode cL_law 2940 = .ok (.ireturn, 1) := by decide +kernel
theorem dL_law_2941 : decode cL_law 2941 = .ok (.goto 1127, 3) := by decide +kernel
theorem dL_law_2944 : decode cL_law 2944 = .ok (.aload_n 1, 1) := by decide +kernel
theorem dL_law_2945 : decode cL_law 2945 = .ok (.aload_n 0, 1) := by decide +kernel
theorem dL_law_2946 : decode cL_law 2946 = .ok (.iload 4, 2) := by decide +kernel
theorem dL_law_2948 : decode cL_law 2948 = .ok (.iconst 1, 1) := by decide +kernel
theorem dL_law_2949 : decode cL_law 2949 = .ok (.iadd, 1) := by decide +kernel
theorem dL_law_2950 : decode cL_law 2950 = .ok (.iaload, 1) := by decide +kernel
theorem dL_law_2951 : decode cL_law 2951 = .ok (.aload_n 0, 1) := by decide +kernel
theorem dL_law_2952 : decode cL_law 2952 = .ok (.iload 4, 2) := by decide +kernel
theorem dL_law_2954 : decode cL_law 2954 = .ok (.iconst 2, 1) := by decide +kernel
theorem dL_law_2955 : decode cL_law 2955 = .ok (.iadd, 1) := by decide +kernel
theorem dL_law_2956 : decode cL_law 2956 = .ok (.iaload, 1) := by decide +kernel
theorem dL_law_2957 : decode cL_law 2957 = .ok (.aload_n 3, 1) := by decide +kernel
theorem dL_law_2958 : decode cL_law 2958 = .ok (.invokestatic 356, 3) := by decide +kernel
theorem dL_law_2961 : decode cL_law 2961 = .ok (.istore 5, 2) := by decide +kernel
theorem dL_law_2963 : decode cL_law 2963 = .ok (.aload_n 2, 1) := by decide +kernel
theorem dL_law_2964 : decode cL_law 2964 = .ok (.aload_n 0, 1) := by decide +kernel
theorem dL_law_2965 : decode cL_law 2965 = .ok (.iload 4, 2) := by decide +kernel
theorem dL_law_2967 : decode cL_law 2967 = .ok (.iconst 1, 1) := by decide +kernel
theorem dL_law_2968 : decode cL_law 2968 = .ok (.iadd, 1) := by decide +kernel
theorem dL_law_2969 : decode cL_law 2969 = .ok (.iaload, 1) := by decide +kernel
theorem dL_law_2970 : decode cL_law 2970 = .ok (.aload_n 0, 1) := by decide +kernel
theorem dL_law_2971 : decode cL_law 2971 = .ok (.iload 4, 2) := by decide +kernel
theorem dL_law_2973 : decode cL_law 2973 = .ok (.iconst 2, 1) := by decide +kernel
theorem dL_law_2974 : decode cL_law 2974 = .ok (.iadd, 1) := by decide +kernel
theorem dL_law_2975 : decode cL_law 2975 = .ok (.iaload, 1) := by decide +kernel
theorem dL_law_2976 : decode cL_law 2976 = .ok (.invokevirtual 358, 3) := by decide +kernel
theorem dL_law_2979 : decode cL_law 2979 = .ok (.istore 6, 2) := by decide +kernel
theorem dL_law_2981 : decode cL_law 2981 = .ok (.aload_n 2, 1) := by decide +kernel
theorem dL_law_2982 : decode cL_law 2982 = .ok (.invokevirtual 209, 3) := by decide +kernel
theorem dL_law_2985 : decode cL_law 2985 = .ok (.iload 5, 2) := by decide +kernel
theorem dL_law_2987 : decode cL_law 2987 = .ok (.if_icmp .eq 5, 3) := by decide +kernel
theorem dL_law_2990 : decode cL_law 2990 = .ok (.iconst 0, 1) := by decide +kernel
theorem dL_law_2991 : decode cL_law 2991 = .ok (.ireturn, 1) := by decide +kernel
theorem dL_law_2992 : decode cL_law 2992 = .ok (.iload 5, 2) := by decide +kernel
theorem dL_law_2994 : decode cL_law 2994 = .ok (.ifCond .ne 15, 3) := by decide +kernel
theorem dL_law_2997 : decode cL_law 2997 = .ok (.aload_n 3, 1) := by decide +kernel
theorem dL_law_2998 : decode cL_law 2998 = .ok (.iconst 0, 1) := by decide +kernel
theorem dL_law_2999 : decode cL_law 2999 = .ok (.laload, 1) := by decide +kernel
theorem dL_law_3000 : decode cL_law 3000 = .ok (.iload 6, 2) := by decide +kernel
theorem dL_law_3002 : decode cL_law 3002 = .ok (.i2l, 1) := by decide +kernel
theorem dL_law_3003 : decode cL_law 3003 = .ok (.lcmp, 1) := by decide +kernel
theorem dL_law_3004 : decode cL_law 3004 = .ok (.ifCond .eq 5, 3) := by decide +kernel
theorem dL_law_3007 : decode cL_law 3007 = .ok (.iconst 0, 1) := by decide +kernel
theorem dL_law_3008 : decode cL_law 3008 = .ok (.ireturn, 1) := by decide +kernel
theorem dL_law_3009 : decode cL_law 3009 = .ok (.goto 1059, 3) := by decide +kernel
theorem dL_law_3012 : decode cL_law 3012 = .ok (.aload_n 1, 1) := by decide +kernel
theorem dL_law_3013 : decode cL_law 3013 = .ok (.aload_n 0, 1) := by decide +kernel
theorem dL_law_3014 : decode cL_law 3014 = .ok (.iload 4, 2) := by decide +kernel
theorem dL_law_3016 : decode cL_law 3016 = .ok (.iconst 1, 1) := by decide +kernel
theorem dL_law_3017 : decode cL_law 3017 = .ok (.iadd, 1) := by decide +kernel
theorem dL_law_3018 : decode cL_law 3018 = .ok (.iaload, 1) := by decide +kernel
theorem dL_law_3019 : decode cL_law 3019 = .ok (.aload_n 3, 1) := by decide +kernel
theorem dL_law_3020 : decode cL_law 3020 = .ok (.invokestatic 359, 3) := by decide +kernel
theorem dL_law_3023 : decode cL_law 3023 = .ok (.istore 5, 2) := by decide +kernel
theorem dL_law_3025 : decode cL_law 3025 = .ok (.aload_n 2, 1) := by decide +kernel
theorem dL_law_3026 : decode cL_law 3026 = .ok (.aload_n 0, 1) := by decide +kernel
theorem dL_law_3027 : decode cL_law 3027 = .ok (.iload 4, 2) := by decide +kernel
theorem dL_law_3029 : decode cL_law 3029 = .ok (.iconst 1, 1) := by decide +kernel
theorem dL_law_3030 : decode cL_law 3030 = .ok (.iadd, 1) := by decide +kernel
theorem dL_law_3031 : decode cL_law 3031 = .ok (.iaload, 1) := by decide +kernel
theorem dL_law_3032 : decode cL_law 3032 = .ok (.invokevirtual 361, 3) := by decide +kernel
theorem dL_law_3035 : decode cL_law 3035 = .ok (.istore 6, 2) := by decide +kernel
theorem dL_law_3037 : decode cL_law 3037 = .ok (.aload_n 2, 1) := by decide +kernel
theorem dL_law_3038 : decode cL_law 3038 = .ok (.invokevirtual 209, 3) := by decide +kernel
theorem dL_law_3041 : decode cL_law 3041 = .ok (.iload 5, 2) := by decide +kernel
theorem dL_law_3043 : decode cL_law 3043 = .ok (.if_icmp .eq 5, 3) := by decide +kernel
theorem dL_law_3046 : decode cL_law 3046 = .ok (.iconst 0, 1) := by decide +kernel
theorem dL_law_3047 : decode cL_law 3047 = .ok (.ireturn, 1) := by decide +kernel
theorem dL_law_3048 : decode cL_law 3048 = .ok (.iload 5, 2) := by decide +kernel
theorem dL_law_3050 : decode cL_law 3050 = .ok (.ifCond .ne 15, 3) := by decide +kernel
theorem dL_law_3053 : decode cL_law 3053 = .ok (.aload_n 3, 1) := by decide +kernel
theorem dL_law_3054 : decode cL_law 3054 = .ok (.iconst 0, 1) := by decide +kernel
theorem dL_law_3055 : decode cL_law 3055 = .ok (.laload, 1) := by decide +kernel
theorem dL_law_3056 : decode cL_law 3056 = .ok (.iload 6, 2) := by decide +kernel
theorem dL_law_3058 : decode cL_law 3058 = .ok (.i2l, 1) := by decide +kernel
theorem dL_law_3059 : decode cL_law 3059 = .ok (.lcmp, 1) := by decide +kernel
theorem dL_law_3060 : decode cL_law 3060 = .ok (.ifCond .eq 5, 3) := by decide +kernel
theorem dL_law_3063 : decode cL_law 3063 = .ok (.iconst 0, 1) := by decide +kernel
theorem dL_law_3064 : decode cL_law 3064 = .ok (.ireturn, 1) := by decide +kernel
theorem dL_law_3065 : decode cL_law 3065 = .ok (.goto 1003, 3) := by decide +kernel
theorem dL_law_3068 : decode cL_law 3068 = .ok (.aload_n 1, 1) := by decide +kernel
theorem dL_law_3069 : decode cL_law 3069 = .ok (.aload_n 0, 1) := by decide +kernel
theorem dL_law_3070 : decode cL_law 3070 = .ok (.iload 4, 2) := by decide +kernel
theorem dL_law_3072 : decode cL_law 3072 = .ok (.iconst 1, 1) := by decide +kernel
theorem dL_law_3073 : decode cL_law 3073 = .ok (.iadd, 1) := by decide +kernel
theorem dL_law_3074 : decode cL_law 3074 = .ok (.iaload, 1) := by decide +kernel
theorem dL_law_3075 : decode cL_law 3075 = .ok (.aload_n 3, 1) := by decide +kernel
theorem dL_law_3076 : decode cL_law 3076 = .ok (.invokestatic 362, 3) := by decide +kernel
theorem dL_law_3079 : decode cL_law 3079 = .ok (.istore 5, 2) := by decide +kernel
theorem dL_law_3081 : decode cL_law 3081 = .ok (.aload_n 2, 1) := by decide +kernel
theorem dL_law_3082 : decode cL_law 3082 = .ok (.aload_n 0, 1) := by decide +kernel
theorem dL_law_3083 : decode cL_law 3083 = .ok (.iload 4, 2) := by decide +kernel
theorem dL_law_3085 : decode cL_law 3085 = .ok (.iconst 1, 1) := by decide +kernel
theorem dL_law_3086 : decode cL_law 3086 = .ok (.iadd, 1) := by decide +kernel
theorem dL_law_3087 : decode cL_law 3087 = .ok (.iaload, 1) := by decide +kernel
theorem dL_law_3088 : decode cL_law 3088 = .ok (.invokevirtual 364, 3) := by decide +kernel
theorem dL_law_3091 : decode cL_law 3091 = .ok (.istore 6, 2) := by decide +kernel
theorem dL_law_3093 : decode cL_law 3093 = .ok (.aload_n 2, 1) := by decide +kernel
theorem dL_law_3094 : decode cL_law 3094 = .ok (.invokevirtual 209, 3) := by decide +kernel
theorem dL_law_3097 : decode cL_law 3097 = .ok (.iload 5, 2) := by decide +kernel
theorem dL_law_3099 : decode cL_law 3099 = .ok (.if_icmp .eq 5, 3) := by decide +kernel
theorem dL_law_3102 : decode cL_law 3102 = .ok (.iconst 0, 1) := by decide +kernel
theorem dL_law_3103 : decode cL_law 3103 = .ok (.ireturn, 1) := by decide +kernel
theorem dL_law_3104 : decode cL_law 3104 = .ok (.iload 5, 2) := by decide +kernel
theorem dL_law_3106 : decode cL_law 3106 = .ok (.ifCond .ne 15, 3) := by decide +kernel
theorem dL_law_3109 : decode cL_law 3109 = .ok (.aload_n 3, 1) := by decide +kernel
theorem dL_law_3110 : decode cL_law 3110 = .ok (.iconst 0, 1) := by decide +kernel
theorem dL_law_3111 : decode cL_law 3111 = .ok (.laload, 1) := by decide +kernel
theorem dL_law_3112 : decode cL_law 3112 = .ok (.iload 6, 2) := by decide +kernel
theorem dL_law_3114 : decode cL_law 3114 = .ok (.i2l, 1) := by decide +kernel
theorem dL_law_3115 : decode cL_law 3115 = .ok (.lcmp, 1) := by decide +kernel
theorem dL_law_3116 : decode cL_law 3116 = .ok (.ifCond .eq 5, 3) := by decide +kernel
theorem dL_law_3119 : decode cL_law 3119 = .ok (.iconst 0, 1) := by decide +kernel
theorem dL_law_3120 : decode cL_law 3120 = .ok (.ireturn, 1) := by decide +kernel
theorem dL_law_3121 : decode cL_law 3121 = .ok (.goto 947, 3) := by decide +kernel
theorem dL_law_3124 : decode cL_law 3124 = .ok (.aload_n 1, 1) := by decide +kernel
theorem dL_law_3125 : decode cL_law 3125 = .ok (.aload_n 0, 1) := by decide +kernel
theorem dL_law_3126 : decode cL_law 3126 = .ok (.iload 4, 2) := by decide +kernel
theorem dL_law_3128 : decode cL_law 3128 = .ok (.iconst 1, 1) := by decide +kernel
