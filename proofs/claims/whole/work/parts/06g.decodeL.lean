/-! what the law's instructions are -/
theorem dL_law_2727 : decode cL_law 2727 = .ok (.ireturn, 1) := by decide +kernel
theorem dL_law_2728 : decode cL_law 2728 = .ok (.goto 768, 3) := by decide +kernel
theorem dL_law_2731 : decode cL_law 2731 = .ok (.aload_n 1, 1) := by decide +kernel
theorem dL_law_2732 : decode cL_law 2732 = .ok (.aload_n 0, 1) := by decide +kernel
theorem dL_law_2733 : decode cL_law 2733 = .ok (.iload 5, 2) := by decide +kernel
theorem dL_law_2735 : decode cL_law 2735 = .ok (.iconst 1, 1) := by decide +kernel
theorem dL_law_2736 : decode cL_law 2736 = .ok (.iadd, 1) := by decide +kernel
theorem dL_law_2737 : decode cL_law 2737 = .ok (.iaload, 1) := by decide +kernel
theorem dL_law_2738 : decode cL_law 2738 = .ok (.aload_n 0, 1) := by decide +kernel
theorem dL_law_2739 : decode cL_law 2739 = .ok (.iload 5, 2) := by decide +kernel
theorem dL_law_2741 : decode cL_law 2741 = .ok (.iconst 2, 1) := by decide +kernel
theorem dL_law_2742 : decode cL_law 2742 = .ok (.iadd, 1) := by decide +kernel
theorem dL_law_2743 : decode cL_law 2743 = .ok (.iaload, 1) := by decide +kernel
theorem dL_law_2744 : decode cL_law 2744 = .ok (.aload_n 3, 1) := by decide +kernel
theorem dL_law_2745 : decode cL_law 2745 = .ok (.invokestatic 343, 3) := by decide +kernel
theorem dL_law_2748 : decode cL_law 2748 = .ok (.istore 6, 2) := by decide +kernel
theorem dL_law_2750 : decode cL_law 2750 = .ok (.aload_n 2, 1) := by decide +kernel
theorem dL_law_2751 : decode cL_law 2751 = .ok (.aload_n 0, 1) := by decide +kernel
theorem dL_law_2752 : decode cL_law 2752 = .ok (.iload 5, 2) := by decide +kernel
theorem dL_law_2754 : decode cL_law 2754 = .ok (.iconst 1, 1) := by decide +kernel
theorem dL_law_2755 : decode cL_law 2755 = .ok (.iadd, 1) := by decide +kernel
theorem dL_law_2756 : decode cL_law 2756 = .ok (.iaload, 1) := by decide +kernel
theorem dL_law_2757 : decode cL_law 2757 = .ok (.aload_n 0, 1) := by decide +kernel
theorem dL_law_2758 : decode cL_law 2758 = .ok (.iload 5, 2) := by decide +kernel
theorem dL_law_2760 : decode cL_law 2760 = .ok (.iconst 2, 1) := by decide +kernel
theorem dL_law_2761 : decode cL_law 2761 = .ok (.iadd, 1) := by decide +kernel
theorem dL_law_2762 : decode cL_law 2762 = .ok (.iaload, 1) := by decide +kernel
theorem dL_law_2763 : decode cL_law 2763 = .ok (.invokevirtual 345, 3) := by decide +kernel
theorem dL_law_2766 : decode cL_law 2766 = .ok (.istore 7, 2) := by decide +kernel
theorem dL_law_2768 : decode cL_law 2768 = .ok (.aload_n 2, 1) := by decide +kernel
theorem dL_law_2769 : decode cL_law 2769 = .ok (.invokevirtual 186, 3) := by decide +kernel
theorem dL_law_2772 : decode cL_law 2772 = .ok (.iload 6, 2) := by decide +kernel
theorem dL_law_2774 : decode cL_law 2774 = .ok (.if_icmp .eq 5, 3) := by decide +kernel
theorem dL_law_2777 : decode cL_law 2777 = .ok (.iconst 0, 1) := by decide +kernel
theorem dL_law_2778 : decode cL_law 2778 = .ok (.ireturn, 1) := by decide +kernel
theorem dL_law_2779 : decode cL_law 2779 = .ok (.iload 6, 2) := by decide +kernel
theorem dL_law_2781 : decode cL_law 2781 = .ok (.ifCond .ne 15, 3) := by decide +kernel
theorem dL_law_2784 : decode cL_law 2784 = .ok (.aload_n 3, 1) := by decide +kernel
theorem dL_law_2785 : decode cL_law 2785 = .ok (.iconst 0, 1) := by decide +kernel
theorem dL_law_2786 : decode cL_law 2786 = .ok (.laload, 1) := by decide +kernel
theorem dL_law_2787 : decode cL_law 2787 = .ok (.iload 7, 2) := by decide +kernel
theorem dL_law_2789 : decode cL_law 2789 = .ok (.i2l, 1) := by decide +kernel
theorem dL_law_2790 : decode cL_law 2790 = .ok (.lcmp, 1) := by decide +kernel
theorem dL_law_2791 : decode cL_law 2791 = .ok (.ifCond .eq 5, 3) := by decide +kernel
theorem dL_law_2794 : decode cL_law 2794 = .ok (.iconst 0, 1) := by decide +kernel
theorem dL_law_2795 : decode cL_law 2795 = .ok (.ireturn, 1) := by decide +kernel
theorem dL_law_2796 : decode cL_law 2796 = .ok (.goto 700, 3) := by decide +kernel
theorem dL_law_2799 : decode cL_law 2799 = .ok (.aload_n 1, 1) := by decide +kernel
theorem dL_law_2800 : decode cL_law 2800 = .ok (.aload_n 0, 1) := by decide +kernel
theorem dL_law_2801 : decode cL_law 2801 = .ok (.iload 5, 2) := by decide +kernel
theorem dL_law_2803 : decode cL_law 2803 = .ok (.iconst 1, 1) := by decide +kernel
theorem dL_law_2804 : decode cL_law 2804 = .ok (.iadd, 1) := by decide +kernel
theorem dL_law_2805 : decode cL_law 2805 = .ok (.iaload, 1) := by decide +kernel
theorem dL_law_2806 : decode cL_law 2806 = .ok (.aload_n 0, 1) := by decide +kernel
theorem dL_law_2807 : decode cL_law 2807 = .ok (.iload 5, 2) := by decide +kernel
theorem dL_law_2809 : decode cL_law 2809 = .ok (.iconst 2, 1) := by decide +kernel
theorem dL_law_2810 : decode cL_law 2810 = .ok (.iadd, 1) := by decide +kernel
theorem dL_law_2811 : decode cL_law 2811 = .ok (.iaload, 1) := by decide +kernel
theorem dL_law_2812 : decode cL_law 2812 = .ok (.aload_n 0, 1) := by decide +kernel
theorem dL_law_2813 : decode cL_law 2813 = .ok (.iload 5, 2) := by decide +kernel
theorem dL_law_2815 : decode cL_law 2815 = .ok (.iconst 3, 1) := by decide +kernel
theorem dL_law_2816 : decode cL_law 2816 = .ok (.iadd, 1) := by decide +kernel
theorem dL_law_2817 : decode cL_law 2817 = .ok (.iaload, 1) := by decide +kernel
theorem dL_law_2818 : decode cL_law 2818 = .ok (.aload_n 3, 1) := by decide +kernel
theorem dL_law_2819 : decode cL_law 2819 = .ok (.invokestatic 346, 3) := by decide +kernel
theorem dL_law_2822 : decode cL_law 2822 = .ok (.istore 6, 2) := by decide +kernel
theorem dL_law_2824 : decode cL_law 2824 = .ok (.aload_n 2, 1) := by decide +kernel
theorem dL_law_2825 : decode cL_law 2825 = .ok (.aload_n 0, 1) := by decide +kernel
theorem dL_law_2826 : decode cL_law 2826 = .ok (.iload 5, 2) := by decide +kernel
theorem dL_law_2828 : decode cL_law 2828 = .ok (.iconst 1, 1) := by decide +kernel
theorem dL_law_2829 : decode cL_law 2829 = .ok (.iadd, 1) := by decide +kernel
theorem dL_law_2830 : decode cL_law 2830 = .ok (.iaload, 1) := by decide +kernel
theorem dL_law_2831 : decode cL_law 2831 = .ok (.aload_n 0, 1) := by decide +kernel
theorem dL_law_2832 : decode cL_law 2832 = .ok (.iload 5, 2) := by decide +kernel
theorem dL_law_2834 : decode cL_law 2834 = .ok (.iconst 2, 1) := by decide +kernel
theorem dL_law_2835 : decode cL_law 2835 = .ok (.iadd, 1) := by decide +kernel
theorem dL_law_2836 : decode cL_law 2836 = .ok (.iaload, 1) := by decide +kernel
theorem dL_law_2837 : decode cL_law 2837 = .ok (.aload_n 0, 1) := by decide +kernel
theorem dL_law_2838 : decode cL_law 2838 = .ok (.iload 5, 2) := by decide +kernel
theorem dL_law_2840 : decode cL_law 2840 = .ok (.iconst 3, 1) := by decide +kernel
theorem dL_law_2841 : decode cL_law 2841 = .ok (.iadd, 1) := by decide +kernel
theorem dL_law_2842 : decode cL_law 2842 = .ok (.iaload, 1) := by decide +kernel
theorem dL_law_2843 : decode cL_law 2843 = .ok (.invokevirtual 348, 3) := by decide +kernel
theorem dL_law_2846 : decode cL_law 2846 = .ok (.istore 7, 2) := by decide +kernel
theorem dL_law_2848 : decode cL_law 2848 = .ok (.aload_n 2, 1) := by decide +kernel
theorem dL_law_2849 : decode cL_law 2849 = .ok (.invokevirtual 186, 3) := by decide +kernel
theorem dL_law_2852 : decode cL_law 2852 = .ok (.iload 6, 2) := by decide +kernel
theorem dL_law_2854 : decode cL_law 2854 = .ok (.if_icmp .eq 5, 3) := by decide +kernel
theorem dL_law_2857 : decode cL_law 2857 = .ok (.iconst 0, 1) := by decide +kernel
theorem dL_law_2858 : decode cL_law 2858 = .ok (.ireturn, 1) := by decide +kernel
theorem dL_law_2859 : decode cL_law 2859 = .ok (.iload 6, 2) := by decide +kernel
theorem dL_law_2861 : decode cL_law 2861 = .ok (.ifCond .ne 15, 3) := by decide +kernel
theorem dL_law_2864 : decode cL_law 2864 = .ok (.aload_n 3, 1) := by decide +kernel
theorem dL_law_2865 : decode cL_law 2865 = .ok (.iconst 0, 1) := by decide +kernel
theorem dL_law_2866 : decode cL_law 2866 = .ok (.laload, 1) := by decide +kernel
theorem dL_law_2867 : decode cL_law 2867 = .ok (.iload 7, 2) := by decide +kernel
theorem dL_law_2869 : decode cL_law 2869 = .ok (.i2l, 1) := by decide +kernel
theorem dL_law_2870 : decode cL_law 2870 = .ok (.lcmp, 1) := by decide +kernel
theorem dL_law_2871 : decode cL_law 2871 = .ok (.ifCond .eq 5, 3) := by decide +kernel
theorem dL_law_2874 : decode cL_law 2874 = .ok (.iconst 0, 1) := by decide +kernel
theorem dL_law_2875 : decode cL_law 2875 = .ok (.ireturn, 1) := by decide +kernel
theorem dL_law_2876 : decode cL_law 2876 = .ok (.goto 620, 3) := by decide +kernel
theorem dL_law_2879 : decode cL_law 2879 = .ok (.aload_n 1, 1) := by decide +kernel
theorem dL_law_2880 : decode cL_law 2880 = .ok (.aload_n 0, 1) := by decide +kernel
theorem dL_law_2881 : decode cL_law 2881 = .ok (.iload 5, 2) := by decide +kernel
theorem dL_law_2883 : decode cL_law 2883 = .ok (.iconst 1, 1) := by decide +kernel
theorem dL_law_2884 : decode cL_law 2884 = .ok (.iadd, 1) := by decide +kernel
theorem dL_law_2885 : decode cL_law 2885 = .ok (.iaload, 1) := by decide +kernel
theorem dL_law_2886 : decode cL_law 2886 = .ok (.aload_n 3, 1) := by decide +kernel
theorem dL_law_2887 : decode cL_law 2887 = .ok (.invokestatic 349, 3) := by decide +kernel
theorem dL_law_2890 : decode cL_law 2890 = .ok (.istore 6, 2) := by decide +kernel
theorem dL_law_2892 : decode cL_law 2892 = .ok (.aload_n 2, 1) := by decide +kernel
theorem dL_law_2893 : decode cL_law 2893 = .ok (.aload_n 0, 1) := by decide +kernel
theorem dL_law_2894 : decode cL_law 2894 = .ok (.iload 5, 2) := by decide +kernel
theorem dL_law_2896 : decode cL_law 2896 = .ok (.iconst 1, 1) := by decide +kernel
theorem dL_law_2897 : decode cL_law 2897 = .ok (.iadd, 1) := by decide +kernel
theorem dL_law_2898 : decode cL_law 2898 = .ok (.iaload, 1) := by decide +kernel
theorem dL_law_2899 : decode cL_law 2899 = .ok (.invokevirtual 351, 3) := by decide +kernel
theorem dL_law_2902 : decode cL_law 2902 = .ok (.istore 7, 2) := by decide +kernel
theorem dL_law_2904 : decode cL_law 2904 = .ok (.aload_n 2, 1) := by decide +kernel
theorem dL_law_2905 : decode cL_law 2905 = .ok (.invokevirtual 186, 3) := by decide +kernel
theorem dL_law_2908 : decode cL_law 2908 = .ok (.iload 6, 2) := by decide +kernel
theorem dL_law_2910 : decode cL_law 2910 = .ok (.if_icmp .eq 5, 3) := by decide +kernel
theorem dL_law_2913 : decode cL_law 2913 = .ok (.iconst 0, 1) := by decide +kernel
theorem dL_law_2914 : decode cL_law 2914 = .ok (.ireturn, 1) := by decide +kernel
theorem dL_law_2915 : decode cL_law 2915 = .ok (.iload 6, 2) := by decide +kernel
theorem dL_law_2917 : decode cL_law 2917 = .ok (.ifCond .ne 15, 3) := by decide +kernel
theorem dL_law_2920 : decode cL_law 2920 = .ok (.aload_n 3, 1) := by decide +kernel
theorem dL_law_2921 : decode cL_law 2921 = .ok (.iconst 0, 1) := by decide +kernel
theorem dL_law_2922 : decode cL_law 2922 = .ok (.laload, 1) := by decide +kernel
theorem dL_law_2923 : decode cL_law 2923 = .ok (.iload 7, 2) := by decide +kernel
theorem dL_law_2925 : decode cL_law 2925 = .ok (.i2l, 1) := by decide +kernel
theorem dL_law_2926 : decode cL_law 2926 = .ok (.lcmp, 1) := by decide +kernel
theorem dL_law_2927 : decode cL_law 2927 = .ok (.ifCond .eq 5, 3) := by decide +kernel
theorem dL_law_2930 : decode cL_law 2930 = .ok (.iconst 0, 1) := by decide +kernel
theorem dL_law_2931 : decode cL_law 2931 = .ok (.ireturn, 1) := by decide +kernel
theorem dL_law_2932 : decode cL_law 2932 = .ok (.goto 564, 3) := by decide +kernel
theorem dL_law_2935 : decode cL_law 2935 = .ok (.aload_n 1, 1) := by decide +kernel
theorem dL_law_2936 : decode cL_law 2936 = .ok (.aload_n 0, 1) := by decide +kernel
theorem dL_law_2937 : decode cL_law 2937 = .ok (.iload 5, 2) := by decide +kernel
theorem dL_law_2939 : decode cL_law 2939 = .ok (.iconst 1, 1) := by decide +kernel
theorem dL_law_2940 : decode cL_law 2940 = .ok (.iadd, 1) := by decide +kernel
theorem dL_law_2941 : decode cL_law 2941 = .ok (.iaload, 1) := by decide +kernel
theorem dL_law_2942 : decode cL_law 2942 = .ok (.aload_n 3, 1) := by decide +kernel
theorem dL_law_2943 : decode cL_law 2943 = .ok (.invokestatic 352, 3) := by decide +kernel
theorem dL_law_2946 : decode cL_law 2946 = .ok (.istore 6, 2) := by decide +kernel
theorem dL_law_2948 : decode cL_law 2948 = .ok (.aload_n 2, 1) := by decide +kernel
theorem dL_law_2949 : decode cL_law 2949 = .ok (.aload_n 0, 1) := by decide +kernel
theorem dL_law_2950 : decode cL_law 2950 = .ok (.iload 5, 2) := by decide +kernel
theorem dL_law_2952 : decode cL_law 2952 = .ok (.iconst 1, 1) := by decide +kernel
theorem dL_law_2953 : decode cL_law 2953 = .ok (.iadd, 1) := by decide +kernel
theorem dL_law_2954 : decode cL_law 2954 = .ok (.iaload, 1) := by decide +kernel
theorem dL_law_2955 : decode cL_law 2955 = .ok (.invokevirtual 354, 3) := by decide +kernel
theorem dL_law_2958 : decode cL_law 2958 = .ok (.istore 7, 2) := by decide +kernel
theorem dL_law_2960 : decode cL_law 2960 = .ok (.aload_n 2, 1) := by decide +kernel
theorem dL_law_2961 : decode cL_law 2961 = .ok (.invokevirtual 186, 3) := by decide +kernel
theorem dL_law_2964 : decode cL_law 2964 = .ok (.iload 6, 2) := by decide +kernel
theorem dL_law_2966 : decode cL_law 2966 = .ok (.if_icmp .eq 5, 3) := by decide +kernel
theorem dL_law_2969 : decode cL_law 2969 = .ok (.iconst 0, 1) := by decide +kernel
theorem dL_law_2970 : decode cL_law 2970 = .ok (.ireturn, 1) := by decide +kernel
theorem dL_law_2971 : decode cL_law 2971 = .ok (.iload 6, 2) := by decide +kernel
theorem dL_law_2973 : decode cL_law 2973 = .ok (.ifCond .ne 15, 3) := by decide +kernel
theorem dL_law_2976 : decode cL_law 2976 = .ok (.aload_n 3, 1) := by decide +kernel
theorem dL_law_2977 : decode cL_law 2977 = .ok (.iconst 0, 1) := by decide +kernel
theorem dL_law_2978 : decode cL_law 2978 = .ok (.laload, 1) := by decide +kernel
theorem dL_law_2979 : decode cL_law 2979 = .ok (.iload 7, 2) := by decide +kernel
theorem dL_law_2981 : decode cL_law 2981 = .ok (.i2l, 1) := by decide +kernel
theorem dL_law_2982 : decode cL_law 2982 = .ok (.lcmp, 1) := by decide +kernel
theorem dL_law_2983 : decode cL_law 2983 = .ok (.ifCond .eq 5, 3) := by decide +kernel
theorem dL_law_2986 : decode cL_law 2986 = .ok (.iconst 0, 1) := by decide +kernel
theorem dL_law_2987 : decode cL_law 2987 = .ok (.ireturn, 1) := by decide +kernel
theorem dL_law_2988 : decode cL_law 2988 = .ok (.goto 508, 3) := by decide +kernel
theorem dL_law_2991 : decode cL_law 2991 = .ok (.aload_n 1, 1) := by decide +kernel
theorem dL_law_2992 : decode cL_law 2992 = .ok (.aload_n 0, 1) := by decide +kernel
theorem dL_law_2993 : decode cL_law 2993 = .ok (.iload 5, 2) := by decide +kernel
theorem dL_law_2995 : decode cL_law 2995 = .ok (.iconst 1, 1) := by decide +kernel
theorem dL_law_2996 : decode cL_law 2996 = .ok (.iadd, 1) := by decide +kernel
theorem dL_law_2997 : decode cL_law 2997 = .ok (.iaload, 1) := by decide +kernel
theorem dL_law_2998 : decode cL_law 2998 = .ok (.aload_n 3, 1) := by decide +kernel
theorem dL_law_2999 : decode cL_law 2999 = .ok (.invokestatic 355, 3) := by decide +kernel
theorem dL_law_3002 : decode cL_law 3002 = .ok (.istore 6, 2) := by decide +kernel
theorem dL_law_3004 : decode cL_law 3004 = .ok (.aload_n 2, 1) := by decide +kernel
theorem dL_law_3005 : decode cL_law 3005 = .ok (.aload_n 0, 1) := by decide +kernel
theorem dL_law_3006 : decode cL_law 3006 = .ok (.iload 5, 2) := by decide +kernel
theorem dL_law_3008 : decode cL_law 3008 = .ok (.iconst 1, 1) := by decide +kernel
theorem dL_law_3009 : decode cL_law 3009 = .ok (.iadd, 1) := by decide +kernel
theorem dL_law_3010 : decode cL_law 3010 = .ok (.iaload, 1) := by decide +kernel
theorem dL_law_3011 : decode cL_law 3011 = .ok (.invokevirtual 357, 3) := by decide +kernel
theorem dL_law_3014 : decode cL_law 3014 = .ok (.istore 7, 2) := by decide +kernel
theorem dL_law_3016 : decode cL_law 3016 = .ok (.aload_n 2, 1) := by decide +kernel
theorem dL_law_3017 : decode cL_law 3017 = .ok (.invokevirtual 186, 3) := by decide +kernel
theorem dL_law_3020 : decode cL_law 3020 = .ok (.iload 6, 2) := by decide +kernel
theorem dL_law_3022 : decode cL_law 3022 = .ok (.if_icmp .eq 5, 3) := by decide +kernel
theorem dL_law_3025 : decode cL_law 3025 = .ok (.iconst 0, 1) := by decide +kernel
theorem dL_law_3026 : decode cL_law 3026 = .ok (.ireturn, 1) := by decide +kernel
theorem dL_law_3027 : decode cL_law 3027 = .ok (.iload 6, 2) := by decide +kernel
theorem dL_law_3029 : decode cL_law 3029 = .ok (.ifCond .ne 15, 3) := by decide +kernel
theorem dL_law_3032 : decode cL_law 3032 = .ok (.aload_n 3, 1) := by decide +kernel
theorem dL_law_3033 : decode cL_law 3033 = .ok (.iconst 0, 1) := by decide +kernel
theorem dL_law_3034 : decode cL_law 3034 = .ok (.laload, 1) := by decide +kernel
theorem dL_law_3035 : decode cL_law 3035 = .ok (.iload 7, 2) := by decide +kernel
theorem dL_law_3037 : decode cL_law 3037 = .ok (.i2l, 1) := by decide +kernel
theorem dL_law_3038 : decode cL_law 3038 = .ok (.lcmp, 1) := by decide +kernel
theorem dL_law_3039 : decode cL_law 3039 = .ok (.ifCond .eq 5, 3) := by decide +kernel
theorem dL_law_3042 : decode cL_law 3042 = .ok (.iconst 0, 1) := by decide +kernel
theorem dL_law_3043 : decode cL_law 3043 = .ok (.ireturn, 1) := by decide +kernel
theorem dL_law_3044 : decode cL_law 3044 = .ok (.goto 452, 3) := by decide +kernel
theorem dL_law_3047 : decode cL_law 3047 = .ok (.aload_n 1, 1) := by decide +kernel
theorem dL_law_3048 : decode cL_law 3048 = .ok (.aload_n 0, 1) := by decide +kernel
theorem dL_law_3049 : decode cL_law 3049 = .ok (.iload 5, 2) := by decide +kernel
theorem dL_law_3051 : decode cL_law 3051 = .ok (.iconst 1, 1) := by decide +kernel
theorem dL_law_3052 : decode cL_law 3052 = .ok (.iadd, 1) := by decide +kernel
theorem dL_law_3053 : decode cL_law 3053 = .ok (.iaload, 1) := by decide +kernel
theorem dL_law_3054 : decode cL_law 3054 = .ok (.aload_n 0, 1) := by decide +kernel
theorem dL_law_3055 : decode cL_law 3055 = .ok (.iload 5, 2) := by decide +kernel
theorem dL_law_3057 : decode cL_law 3057 = .ok (.iconst 2, 1) := by decide +kernel
theorem dL_law_3058 : decode cL_law 3058 = .ok (.iadd, 1) := by decide +kernel
theorem dL_law_3059 : decode cL_law 3059 = .ok (.iaload, 1) := by decide +kernel
theorem dL_law_3060 : decode cL_law 3060 = .ok (.aload_n 3, 1) := by decide +kernel
theorem dL_law_3061 : decode cL_law 3061 = .ok (.invokestatic 358, 3) := by decide +kernel
theorem dL_law_3064 : decode cL_law 3064 = .ok (.istore 6, 2) := by decide +kernel
theorem dL_law_3066 : decode cL_law 3066 = .ok (.aload_n 2, 1) := by decide +kernel
theorem dL_law_3067 : decode cL_law 3067 = .ok (.aload_n 0, 1) := by decide +kernel
theorem dL_law_3068 : decode cL_law 3068 = .ok (.iload 5, 2) := by decide +kernel
theorem dL_law_3070 : decode cL_law 3070 = .ok (.iconst 1, 1) := by decide +kernel
theorem dL_law_3071 : decode cL_law 3071 = .ok (.iadd, 1) := by decide +kernel
theorem dL_law_3072 : decode cL_law 3072 = .ok (.iaload, 1) := by decide +kernel
theorem dL_law_3073 : decode cL_law 3073 = .ok (.aload_n 0, 1) := by decide +kernel
theorem dL_law_3074 : decode cL_law 3074 = .ok (.iload 5, 2) := by decide +kernel
theorem dL_law_3076 : decode cL_law 3076 = .ok (.iconst 2, 1) := by decide +kernel
theorem dL_law_3077 : decode cL_law 3077 = .ok (.iadd, 1) := by decide +kernel
theorem dL_law_3078 : decode cL_law 3078 = .ok (.iaload, 1) := by decide +kernel
theorem dL_law_3079 : decode cL_law 3079 = .ok (.invokevirtual 360, 3) := by decide +kernel
theorem dL_law_3082 : decode cL_law 3082 = .ok (.istore 7, 2) := by decide +kernel
theorem dL_law_3084 : decode cL_law 3084 = .ok (.aload_n 2, 1) := by decide +kernel
theorem dL_law_3085 : decode cL_law 3085 = .ok (.invokevirtual 186, 3) := by decide +kernel
theorem dL_law_3088 : decode cL_law 3088 = .ok (.iload 6, 2) := by decide +kernel
theorem dL_law_3090 : decode cL_law 3090 = .ok (.if_icmp .eq 5, 3) := by decide +kernel
theorem dL_law_3093 : decode cL_law 3093 = .ok (.iconst 0, 1) := by decide +kernel
theorem dL_law_3094 : decode cL_law 3094 = .ok (.ireturn, 1) := by decide +kernel
theorem dL_law_3095 : decode cL_law 3095 = .ok (.iload 6, 2) := by decide +kernel
theorem dL_law_3097 : decode cL_law 3097 = .ok (.ifCond .ne 15, 3) := by decide +kernel
theorem dL_law_3100 : decode cL_law 3100 = .ok (.aload_n 3, 1) := by decide +kernel
theorem dL_law_3101 : decode cL_law 3101 = .ok (.iconst 0, 1) := by decide +kernel
theorem dL_law_3102 : decode cL_law 3102 = .ok (.laload, 1) := by decide +kernel
theorem dL_law_3103 : decode cL_law 3103 = .ok (.iload 7, 2) := by decide +kernel
theorem dL_law_3105 : decode cL_law 3105 = .ok (.i2l, 1) := by decide +kernel
theorem dL_law_3106 : decode cL_law 3106 = .ok (.lcmp, 1) := by decide +kernel
theorem dL_law_3107 : decode cL_law 3107 = .ok (.ifCond .eq 5, 3) := by decide +kernel
theorem dL_law_3110 : decode cL_law 3110 = .ok (.iconst 0, 1) := by decide +kernel
theorem dL_law_3111 : decode cL_law 3111 = .ok (.ireturn, 1) := by decide +kernel
theorem dL_law_3112 : decode cL_law 3112 = .ok (.goto 384, 3) := by decide +kernel
theorem dL_law_3115 : decode cL_law 3115 = .ok (.aload_n 1, 1) := by decide +kernel
theorem dL_law_3116 : decode cL_law 3116 = .ok (.invokevirtual 361, 3) := by decide +kernel
theorem dL_law_3119 : decode cL_law 3119 = .ok (.aload_n 2, 1) := by decide +kernel
theorem dL_law_3120 : decode cL_law 3120 = .ok (.invokevirtual 364, 3) := by decide +kernel
theorem dL_law_3123 : decode cL_law 3123 = .ok (.if_icmp .eq 373, 3) := by decide +kernel
theorem dL_law_3126 : decode cL_law 3126 = .ok (.iconst 0, 1) := by decide +kernel
theorem dL_law_3127 : decode cL_law 3127 = .ok (.ireturn, 1) := by decide +kernel
theorem dL_law_3128 : decode cL_law 3128 = .ok (.aload_n 1, 1) := by decide +kernel
