theorem dL_law_2804 : decode cL_law 2804 = .ok (.iload 7, 2) := by decide +kernel
theorem dL_law_2806 : decode cL_law 2806 = .ok (.i2l, 1) := by decide +kernel
theorem dL_law_2807 : decode cL_law 2807 = .ok (.lcmp, 1) := by decide +kernel
theorem dL_law_2808 : decode cL_law 2808 = .ok (.ifCond .eq 5, 3) := by decide +kernel
theorem dL_law_2811 : decode cL_law 2811 = .ok (.iconst 0, 1) := by decide +kernel
theorem dL_law_2812 : decode cL_law 2812 = .ok (.ireturn, 1) := by decide +kernel
theorem dL_law_2813 : decode cL_law 2813 = .ok (.goto 1436, 3) := by decide +kernel
theorem dL_law_2816 : decode cL_law 2816 = .ok (.aload_n 1, 1) := by decide +kernel
theorem dL_law_2817 : decode cL_law 2817 = .ok (.aload_n 0, 1) := by decide +kernel
theorem dL_law_2818 : decode cL_law 2818 = .ok (.iload 5, 2) := by decide +kernel
theorem dL_law_2820 : decode cL_law 2820 = .ok (.iconst 1, 1) := by decide +kernel
theorem dL_law_2821 : decode cL_law 2821 = .ok (.iadd, 1) := by decide +kernel
theorem dL_law_2822 : decode cL_law 2822 = .ok (.iaload, 1) := by decide +kernel
theorem dL_law_2823 : decode cL_law 2823 = .ok (.aload_n 0, 1) := by decide +kernel
theorem dL_law_2824 : decode cL_law 2824 = .ok (.iload 5, 2) := by decide +kernel
theorem dL_law_2826 : decode cL_law 2826 = .ok (.iconst 2, 1) := by decide +kernel
theorem dL_law_2827 : decode cL_law 2827 = .ok (.iadd, 1) := by decide +kernel
theorem dL_law_2828 : decode cL_law 2828 = .ok (.iaload, 1) := by decide +kernel
theorem dL_law_2829 : decode cL_law 2829 = .ok (.aload 4, 2) := by decide +kernel
theorem dL_law_2831 : decode cL_law 2831 = .ok (.invokestatic 327, 3) := by decide +kernel
theorem dL_law_2834 : decode cL_law 2834 = .ok (.istore 6, 2) := by decide +kernel
theorem dL_law_2836 : decode cL_law 2836 = .ok (.aload_n 2, 1) := by decide +kernel
theorem dL_law_2837 : decode cL_law 2837 = .ok (.aload_n 0, 1) := by decide +kernel
theorem dL_law_2838 : decode cL_law 2838 = .ok (.iload 5, 2) := by decide +kernel
theorem dL_law_2840 : decode cL_law 2840 = .ok (.iconst 1, 1) := by decide +kernel
theorem dL_law_2841 : decode cL_law 2841 = .ok (.iadd, 1) := by decide +kernel
theorem dL_law_2842 : decode cL_law 2842 = .ok (.iaload, 1) := by decide +kernel
theorem dL_law_2843 : decode cL_law 2843 = .ok (.aload_n 0, 1) := by decide +kernel
theorem dL_law_2844 : decode cL_law 2844 = .ok (.iload 5, 2) := by decide +kernel
theorem dL_law_2846 : decode cL_law 2846 = .ok (.iconst 2, 1) := by decide +kernel
theorem dL_law_2847 : decode cL_law 2847 = .ok (.iadd, 1) := by decide +kernel
theorem dL_law_2848 : decode cL_law 2848 = .ok (.iaload, 1) := by decide +kernel
theorem dL_law_2849 : decode cL_law 2849 = .ok (.invokevirtual 330, 3) := by decide +kernel
theorem dL_law_2852 : decode cL_law 2852 = .ok (.dstore 7, 2) := by decide +kernel
theorem dL_law_2854 : decode cL_law 2854 = .ok (.aload_n 2, 1) := by decide +kernel
theorem dL_law_2855 : decode cL_law 2855 = .ok (.invokevirtual 202, 3) := by decide +kernel
theorem dL_law_2858 : decode cL_law 2858 = .ok (.iload 6, 2) := by decide +kernel
theorem dL_law_2860 : decode cL_law 2860 = .ok (.if_icmp .eq 5, 3) := by decide +kernel
theorem dL_law_2863 : decode cL_law 2863 = .ok (.iconst 0, 1) := by decide +kernel
theorem dL_law_2864 : decode cL_law 2864 = .ok (.ireturn, 1) := by decide +kernel
theorem dL_law_2865 : decode cL_law 2865 = .ok (.iload 6, 2) := by decide +kernel
theorem dL_law_2867 : decode cL_law 2867 = .ok (.ifCond .ne 35, 3) := by decide +kernel
theorem dL_law_2870 : decode cL_law 2870 = .ok (.aload 4, 2) := by decide +kernel
theorem dL_law_2872 : decode cL_law 2872 = .ok (.iconst 0, 1) := by decide +kernel
theorem dL_law_2873 : decode cL_law 2873 = .ok (.daload, 1) := by decide +kernel
theorem dL_law_2874 : decode cL_law 2874 = .ok (.dload 7, 2) := by decide +kernel
theorem dL_law_2876 : decode cL_law 2876 = .ok (.dcmp .l, 1) := by decide +kernel
theorem dL_law_2877 : decode cL_law 2877 = .ok (.ifCond .eq 25, 3) := by decide +kernel
theorem dL_law_2880 : decode cL_law 2880 = .ok (.aload 4, 2) := by decide +kernel
theorem dL_law_2882 : decode cL_law 2882 = .ok (.iconst 0, 1) := by decide +kernel
theorem dL_law_2883 : decode cL_law 2883 = .ok (.daload, 1) := by decide +kernel
theorem dL_law_2884 : decode cL_law 2884 = .ok (.aload 4, 2) := by decide +kernel
theorem dL_law_2886 : decode cL_law 2886 = .ok (.iconst 0, 1) := by decide +kernel
theorem dL_law_2887 : decode cL_law 2887 = .ok (.daload, 1) := by decide +kernel
theorem dL_law_2888 : decode cL_law 2888 = .ok (.dcmp .l, 1) := by decide +kernel
theorem dL_law_2889 : decode cL_law 2889 = .ok (.ifCond .eq 11, 3) := by decide +kernel
theorem dL_law_2892 : decode cL_law 2892 = .ok (.dload 7, 2) := by decide +kernel
theorem dL_law_2894 : decode cL_law 2894 = .ok (.dload 7, 2) := by decide +kernel
theorem dL_law_2896 : decode cL_law 2896 = .ok (.dcmp .l, 1) := by decide +kernel
theorem dL_law_2897 : decode cL_law 2897 = .ok (.ifCond .ne 5, 3) := by decide +kernel
theorem dL_law_2900 : decode cL_law 2900 = .ok (.iconst 0, 1) := by decide +kernel
theorem dL_law_2901 : decode cL_law 2901 = .ok (.ireturn, 1) := by decide +kernel
theorem dL_law_2902 : decode cL_law 2902 = .ok (.goto 1347, 3) := by decide +kernel
theorem dL_law_2905 : decode cL_law 2905 = .ok (.aload_n 1, 1) := by decide +kernel
theorem dL_law_2906 : decode cL_law 2906 = .ok (.aload_n 0, 1) := by decide +kernel
theorem dL_law_2907 : decode cL_law 2907 = .ok (.iload 5, 2) := by decide +kernel
theorem dL_law_2909 : decode cL_law 2909 = .ok (.iconst 1, 1) := by decide +kernel
theorem dL_law_2910 : decode cL_law 2910 = .ok (.iadd, 1) := by decide +kernel
theorem dL_law_2911 : decode cL_law 2911 = .ok (.iaload, 1) := by decide +kernel
theorem dL_law_2912 : decode cL_law 2912 = .ok (.aload_n 0, 1) := by decide +kernel
theorem dL_law_2913 : decode cL_law 2913 = .ok (.iload 5, 2) := by decide +kernel
theorem dL_law_2915 : decode cL_law 2915 = .ok (.iconst 2, 1) := by decide +kernel
theorem dL_law_2916 : decode cL_law 2916 = .ok (.iadd, 1) := by decide +kernel
theorem dL_law_2917 : decode cL_law 2917 = .ok (.iaload, 1) := by decide +kernel
theorem dL_law_2918 : decode cL_law 2918 = .ok (.aload 4, 2) := by decide +kernel
theorem dL_law_2920 : decode cL_law 2920 = .ok (.invokestatic 331, 3) := by decide +kernel
theorem dL_law_2923 : decode cL_law 2923 = .ok (.istore 6, 2) := by decide +kernel
theorem dL_law_2925 : decode cL_law 2925 = .ok (.aload_n 2, 1) := by decide +kernel
theorem dL_law_2926 : decode cL_law 2926 = .ok (.aload_n 0, 1) := by decide +kernel
theorem dL_law_2927 : decode cL_law 2927 = .ok (.iload 5, 2) := by decide +kernel
theorem dL_law_2929 : decode cL_law 2929 = .ok (.iconst 1, 1) := by decide +kernel
theorem dL_law_2930 : decode cL_law 2930 = .ok (.iadd, 1) := by decide +kernel
theorem dL_law_2931 : decode cL_law 2931 = .ok (.iaload, 1) := by decide +kernel
theorem dL_law_2932 : decode cL_law 2932 = .ok (.aload_n 0, 1) := by decide +kernel
theorem dL_law_2933 : decode cL_law 2933 = .ok (.iload 5, 2) := by decide +kernel
theorem dL_law_2935 : decode cL_law 2935 = .ok (.iconst 2, 1) := by decide +kernel
theorem dL_law_2936 : decode cL_law 2936 = .ok (.iadd, 1) := by decide +kernel
theorem dL_law_2937 : decode cL_law 2937 = .ok (.iaload, 1) := by decide +kernel
theorem dL_law_2938 : decode cL_law 2938 = .ok (.invokevirtual 333, 3) := by decide +kernel
theorem dL_law_2941 : decode cL_law 2941 = .ok (.fstore 7, 2) := by decide +kernel
theorem dL_law_2943 : decode cL_law 2943 = .ok (.aload_n 2, 1) := by decide +kernel
theorem dL_law_2944 : decode cL_law 2944 = .ok (.invokevirtual 202, 3) := by decide +kernel
theorem dL_law_2947 : decode cL_law 2947 = .ok (.iload 6, 2) := by decide +kernel
theorem dL_law_2949 : decode cL_law 2949 = .ok (.if_icmp .eq 5, 3) := by decide +kernel
theorem dL_law_2952 : decode cL_law 2952 = .ok (.iconst 0, 1) := by decide +kernel
theorem dL_law_2953 : decode cL_law 2953 = .ok (.ireturn, 1) := by decide +kernel
theorem dL_law_2954 : decode cL_law 2954 = .ok (.iload 6, 2) := by decide +kernel
theorem dL_law_2956 : decode cL_law 2956 = .ok (.ifCond .ne 36, 3) := by decide +kernel
theorem dL_law_2959 : decode cL_law 2959 = .ok (.aload 4, 2) := by decide +kernel
theorem dL_law_2961 : decode cL_law 2961 = .ok (.iconst 0, 1) := by decide +kernel
theorem dL_law_2962 : decode cL_law 2962 = .ok (.daload, 1) := by decide +kernel
theorem dL_law_2963 : decode cL_law 2963 = .ok (.fload 7, 2) := by decide +kernel
theorem dL_law_2965 : decode cL_law 2965 = .ok (.f2d, 1) := by decide +kernel
theorem dL_law_2966 : decode cL_law 2966 = .ok (.dcmp .l, 1) := by decide +kernel
theorem dL_law_2967 : decode cL_law 2967 = .ok (.ifCond .eq 25, 3) := by decide +kernel
theorem dL_law_2970 : decode cL_law 2970 = .ok (.aload 4, 2) := by decide +kernel
theorem dL_law_2972 : decode cL_law 2972 = .ok (.iconst 0, 1) := by decide +kernel
theorem dL_law_2973 : decode cL_law 2973 = .ok (.daload, 1) := by decide +kernel
theorem dL_law_2974 : decode cL_law 2974 = .ok (.aload 4, 2) := by decide +kernel
theorem dL_law_2976 : decode cL_law 2976 = .ok (.iconst 0, 1) := by decide +kernel
theorem dL_law_2977 : decode cL_law 2977 = .ok (.daload, 1) := by decide +kernel
theorem dL_law_2978 : decode cL_law 2978 = .ok (.dcmp .l, 1) := by decide +kernel
theorem dL_law_2979 : decode cL_law 2979 = .ok (.ifCond .eq 11, 3) := by decide +kernel
theorem dL_law_2982 : decode cL_law 2982 = .ok (.fload 7, 2) := by decide +kernel
theorem dL_law_2984 : decode cL_law 2984 = .ok (.fload 7, 2) := by decide +kernel
theorem dL_law_2986 : decode cL_law 2986 = .ok (.fcmp .l, 1) := by decide +kernel
theorem dL_law_2987 : decode cL_law 2987 = .ok (.ifCond .ne 5, 3) := by decide +kernel
theorem dL_law_2990 : decode cL_law 2990 = .ok (.iconst 0, 1) := by decide +kernel
theorem dL_law_2991 : decode cL_law 2991 = .ok (.ireturn, 1) := by decide +kernel
theorem dL_law_2992 : decode cL_law 2992 = .ok (.goto 1257, 3) := by decide +kernel
theorem dL_law_2995 : decode cL_law 2995 = .ok (.aload_n 1, 1) := by decide +kernel
theorem dL_law_2996 : decode cL_law 2996 = .ok (.aload_n 0, 1) := by decide +kernel
theorem dL_law_2997 : decode cL_law 2997 = .ok (.iload 5, 2) := by decide +kernel
theorem dL_law_2999 : decode cL_law 2999 = .ok (.iconst 1, 1) := by decide +kernel
theorem dL_law_3000 : decode cL_law 3000 = .ok (.iadd, 1) := by decide +kernel
theorem dL_law_3001 : decode cL_law 3001 = .ok (.iaload, 1) := by decide +kernel
theorem dL_law_3002 : decode cL_law 3002 = .ok (.aload_n 3, 1) := by decide +kernel
theorem dL_law_3003 : decode cL_law 3003 = .ok (.invokestatic 334, 3) := by decide +kernel
theorem dL_law_3006 : decode cL_law 3006 = .ok (.istore 6, 2) := by decide +kernel
theorem dL_law_3008 : decode cL_law 3008 = .ok (.aload_n 2, 1) := by decide +kernel
theorem dL_law_3009 : decode cL_law 3009 = .ok (.aload_n 0, 1) := by decide +kernel
theorem dL_law_3010 : decode cL_law 3010 = .ok (.iload 5, 2) := by decide +kernel
theorem dL_law_3012 : decode cL_law 3012 = .ok (.iconst 1, 1) := by decide +kernel
theorem dL_law_3013 : decode cL_law 3013 = .ok (.iadd, 1) := by decide +kernel
theorem dL_law_3014 : decode cL_law 3014 = .ok (.iaload, 1) := by decide +kernel
theorem dL_law_3015 : decode cL_law 3015 = .ok (.invokevirtual 336, 3) := by decide +kernel
theorem dL_law_3018 : decode cL_law 3018 = .ok (.istore 7, 2) := by decide +kernel
theorem dL_law_3020 : decode cL_law 3020 = .ok (.aload_n 2, 1) := by decide +kernel
theorem dL_law_3021 : decode cL_law 3021 = .ok (.invokevirtual 202, 3) := by decide +kernel
theorem dL_law_3024 : decode cL_law 3024 = .ok (.iload 6, 2) := by decide +kernel
theorem dL_law_3026 : decode cL_law 3026 = .ok (.if_icmp .eq 5, 3) := by decide +kernel
theorem dL_law_3029 : decode cL_law 3029 = .ok (.iconst 0, 1) := by decide +kernel
theorem dL_law_3030 : decode cL_law 3030 = .ok (.ireturn, 1) := by decide +kernel
theorem dL_law_3031 : decode cL_law 3031 = .ok (.iload 6, 2) := by decide +kernel
theorem dL_law_3033 : decode cL_law 3033 = .ok (.ifCond .ne 15, 3) := by decide +kernel
theorem dL_law_3036 : decode cL_law 3036 = .ok (.aload_n 3, 1) := by decide +kernel
theorem dL_law_3037 : decode cL_law 3037 = .ok (.iconst 0, 1) := by decide +kernel
theorem dL_law_3038 : decode cL_law 3038 = .ok (.laload, 1) := by decide +kernel
theorem dL_law_3039 : decode cL_law 3039 = .ok (.iload 7, 2) := by decide +kernel
theorem dL_law_3041 : decode cL_law 3041 = .ok (.i2l, 1) := by decide +kernel
theorem dL_law_3042 : decode cL_law 3042 = .ok (.lcmp, 1) := by decide +kernel
theorem dL_law_3043 : decode cL_law 3043 = .ok (.ifCond .eq 5, 3) := by decide +kernel
theorem dL_law_3046 : decode cL_law 3046 = .ok (.iconst 0, 1) := by decide +kernel
theorem dL_law_3047 : decode cL_law 3047 = .ok (.ireturn, 1) := by decide +kernel
theorem dL_law_3048 : decode cL_law 3048 = .ok (.goto 1201, 3) := by decide +kernel
theorem dL_law_3051 : decode cL_law 3051 = .ok (.aload_n 1, 1) := by decide +kernel
theorem dL_law_3052 : decode cL_law 3052 = .ok (.aload_n 0, 1) := by decide +kernel
theorem dL_law_3053 : decode cL_law 3053 = .ok (.iload 5, 2) := by decide +kernel
theorem dL_law_3055 : decode cL_law 3055 = .ok (.iconst 1, 1) := by decide +kernel
theorem dL_law_3056 : decode cL_law 3056 = .ok (.iadd, 1) := by decide +kernel
theorem dL_law_3057 : decode cL_law 3057 = .ok (.iaload, 1) := by decide +kernel
theorem dL_law_3058 : decode cL_law 3058 = .ok (.aload_n 3, 1) := by decide +kernel
theorem dL_law_3059 : decode cL_law 3059 = .ok (.invokestatic 337, 3) := by decide +kernel
theorem dL_law_3062 : decode cL_law 3062 = .ok (.istore 6, 2) := by decide +kernel
theorem dL_law_3064 : decode cL_law 3064 = .ok (.aload_n 2, 1) := by decide +kernel
theorem dL_law_3065 : decode cL_law 3065 = .ok (.aload_n 0, 1) := by decide +kernel
theorem dL_law_3066 : decode cL_law 3066 = .ok (.iload 5, 2) := by decide +kernel
theorem dL_law_3068 : decode cL_law 3068 = .ok (.iconst 1, 1) := by decide +kernel
theorem dL_law_3069 : decode cL_law 3069 = .ok (.iadd, 1) := by decide +kernel
theorem dL_law_3070 : decode cL_law 3070 = .ok (.iaload, 1) := by decide +kernel
theorem dL_law_3071 : decode cL_law 3071 = .ok (.invokevirtual 339, 3) := by decide +kernel
theorem dL_law_3074 : decode cL_law 3074 = .ok (.istore 7, 2) := by decide +kernel
theorem dL_law_3076 : decode cL_law 3076 = .ok (.aload_n 2, 1) := by decide +kernel
theorem dL_law_3077 : decode cL_law 3077 = .ok (.invokevirtual 202, 3) := by decide +kernel
theorem dL_law_3080 : decode cL_law 3080 = .ok (.iload 6, 2) := by decide +kernel
theorem dL_law_3082 : decode cL_law 3082 = .ok (.if_icmp .eq 5, 3) := by decide +kernel
theorem dL_law_3085 : decode cL_law 3085 = .ok (.iconst 0, 1) := by decide +kernel
theorem dL_law_3086 : decode cL_law 3086 = .ok (.ireturn, 1) := by decide +kernel
theorem dL_law_3087 : decode cL_law 3087 = .ok (.iload 6, 2) := by decide +kernel
theorem dL_law_3089 : decode cL_law 3089 = .ok (.ifCond .ne 15, 3) := by decide +kernel
theorem dL_law_3092 : decode cL_law 3092 = .ok (.aload_n 3, 1) := by decide +kernel
theorem dL_law_3093 : decode cL_law 3093 = .ok (.iconst 0, 1) := by decide +kernel
theorem dL_law_3094 : decode cL_law 3094 = .ok (.laload, 1) := by decide +kernel
theorem dL_law_3095 : decode cL_law 3095 = .ok (.iload 7, 2) := by decide +kernel
theorem dL_law_3097 : decode cL_law 3097 = .ok (.i2l, 1) := by decide +kernel
theorem dL_law_3098 : decode cL_law 3098 = .ok (.lcmp, 1) := by decide +kernel
theorem dL_law_3099 : decode cL_law 3099 = .ok (.ifCond .eq 5, 3) := by decide +kernel
theorem dL_law_3102 : decode cL_law 3102 = .ok (.iconst 0, 1) := by decide +kernel
theorem dL_law_3103 : decode cL_law 3103 = .ok (.ireturn, 1) := by decide +kernel
theorem dL_law_3104 : decode cL_law 3104 = .ok (.goto 1145, 3) := by decide +kernel
theorem dL_law_3107 : decode cL_law 3107 = .ok (.aload_n 1, 1) := by decide +kernel
theorem dL_law_3108 : decode cL_law 3108 = .ok (.aload_n 0, 1) := by decide +kernel
theorem dL_law_3109 : decode cL_law 3109 = .ok (.iload 5, 2) := by decide +kernel
theorem dL_law_3111 : decode cL_law 3111 = .ok (.iconst 1, 1) := by decide +kernel
theorem dL_law_3112 : decode cL_law 3112 = .ok (.iadd, 1) := by decide +kernel
theorem dL_law_3113 : decode cL_law 3113 = .ok (.iaload, 1) := by decide +kernel
theorem dL_law_3114 : decode cL_law 3114 = .ok (.aload_n 0, 1) := by decide +kernel
theorem dL_law_3115 : decode cL_law 3115 = .ok (.iload 5, 2) := by decide +kernel
theorem dL_law_3117 : decode cL_law 3117 = .ok (.iconst 2, 1) := by decide +kernel
theorem dL_law_3118 : decode cL_law 3118 = .ok (.iadd, 1) := by decide +kernel
theorem dL_law_3119 : decode cL_law 3119 = .ok (.iaload, 1) := by decide +kernel
theorem dL_law_3120 : decode cL_law 3120 = .ok (.aload_n 0, 1) := by decide +kernel
theorem dL_law_3121 : decode cL_law 3121 = .ok (.iload 5, 2) := by decide +kernel
theorem dL_law_3123 : decode cL_law 3123 = .ok (.iconst 3, 1) := by decide +kernel
theorem dL_law_3124 : decode cL_law 3124 = .ok (.iadd, 1) := by decide +kernel
theorem dL_law_3125 : decode cL_law 3125 = .ok (.iaload, 1) := by decide +kernel
theorem dL_law_3126 : decode cL_law 3126 = .ok (.aload_n 3, 1) := by decide +kernel
theorem dL_law_3127 : decode cL_law 3127 = .ok (.invokestatic 340, 3) := by decide +kernel
theorem dL_law_3130 : decode cL_law 3130 = .ok (.istore 6, 2) := by decide +kernel
theorem dL_law_3132 : decode cL_law 3132 = .ok (.aload_n 2, 1) := by decide +kernel
theorem dL_law_3133 : decode cL_law 3133 = .ok (.aload_n 0, 1) := by decide +kernel
theorem dL_law_3134 : decode cL_law 3134 = .ok (.iload 5, 2) := by decide +kernel
theorem dL_law_3136 : decode cL_law 3136 = .ok (.iconst 1, 1) := by decide +kernel
theorem dL_law_3137 : decode cL_law 3137 = .ok (.iadd, 1) := by decide +kernel
theorem dL_law_3138 : decode cL_law 3138 = .ok (.iaload, 1) := by decide +kernel
theorem dL_law_3139 : decode cL_law 3139 = .ok (.aload_n 0, 1) := by decide +kernel
theorem dL_law_3140 : decode cL_law 3140 = .ok (.iload 5, 2) := by decide +kernel
theorem dL_law_3142 : decode cL_law 3142 = .ok (.iconst 2, 1) := by decide +kernel
theorem dL_law_3143 : decode cL_law 3143 = .ok (.iadd, 1) := by decide +kernel
theorem dL_law_3144 : decode cL_law 3144 = .ok (.iaload, 1) := by decide +kernel
theorem dL_law_3145 : decode cL_law 3145 = .ok (.aload_n 0, 1) := by decide +kernel
theorem dL_law_3146 : decode cL_law 3146 = .ok (.iload 5, 2) := by decide +kernel
theorem dL_law_3148 : decode cL_law 3148 = .ok (.iconst 3, 1) := by decide +kernel
theorem dL_law_3149 : decode cL_law 3149 = .ok (.iadd, 1) := by decide +kernel
theorem dL_law_3150 : decode cL_law 3150 = .ok (.iaload, 1) := by decide +kernel
theorem dL_law_3151 : decode cL_law 3151 = .ok (.invokevirtual 342, 3) := by decide +kernel
theorem dL_law_3154 : decode cL_law 3154 = .ok (.istore 7, 2) := by decide +kernel
theorem dL_law_3156 : decode cL_law 3156 = .ok (.aload_n 2, 1) := by decide +kernel
theorem dL_law_3157 : decode cL_law 3157 = .ok (.invokevirtual 202, 3) := by decide +kernel
theorem dL_law_3160 : decode cL_law 3160 = .ok (.iload 6, 2) := by decide +kernel
theorem dL_law_3162 : decode cL_law 3162 = .ok (.if_icmp .eq 5, 3) := by decide +kernel
theorem dL_law_3165 : decode cL_law 3165 = .ok (.iconst 0, 1) := by decide +kernel
theorem dL_law_3166 : decode cL_law 3166 = .ok (.ireturn, 1) := by decide +kernel
theorem dL_law_3167 : decode cL_law 3167 = .ok (.iload 6, 2) := by decide +kernel
theorem dL_law_3169 : decode cL_law 3169 = .ok (.ifCond .ne 15, 3) := by decide +kernel
theorem dL_law_3172 : decode cL_law 3172 = .ok (.aload_n 3, 1) := by decide +kernel
theorem dL_law_3173 : decode cL_law 3173 = .ok (.iconst 0, 1) := by decide +kernel
theorem dL_law_3174 : decode cL_law 3174 = .ok (.laload, 1) := by decide +kernel
theorem dL_law_3175 : decode cL_law 3175 = .ok (.iload 7, 2) := by decide +kernel
theorem dL_law_3177 : decode cL_law 3177 = .ok (.i2l, 1) := by decide +kernel
theorem dL_law_3178 : decode cL_law 3178 = .ok (.lcmp, 1) := by decide +kernel
theorem dL_law_3179 : decode cL_law 3179 = .ok (.ifCond .eq 5, 3) := by decide +kernel
theorem dL_law_3182 : decode cL_law 3182 = .ok (.iconst 0, 1) := by decide +kernel
theorem dL_law_3183 : decode cL_law 3183 = .ok (.ireturn, 1) := by decide +kernel
theorem dL_law_3184 : decode cL_law 3184 = .ok (.goto 1065, 3) := by decide +kernel
theorem dL_law_3187 : decode cL_law 3187 = .ok (.aload_n 1, 1) := by decide +kernel
theorem dL_law_3188 : decode cL_law 3188 = .ok (.aload_n 0, 1) := by decide +kernel
theorem dL_law_3189 : decode cL_law 3189 = .ok (.iload 5, 2) := by decide +kernel
theorem dL_law_3191 : decode cL_law 3191 = .ok (.iconst 1, 1) := by decide +kernel
theorem dL_law_3192 : decode cL_law 3192 = .ok (.iadd, 1) := by decide +kernel
theorem dL_law_3193 : decode cL_law 3193 = .ok (.iaload, 1) := by decide +kernel
theorem dL_law_3194 : decode cL_law 3194 = .ok (.aload_n 0, 1) := by decide +kernel
theorem dL_law_3195 : decode cL_law 3195 = .ok (.iload 5, 2) := by decide +kernel
theorem dL_law_3197 : decode cL_law 3197 = .ok (.iconst 2, 1) := by decide +kernel
theorem dL_law_3198 : decode cL_law 3198 = .ok (.iadd, 1) := by decide +kernel
theorem dL_law_3199 : decode cL_law 3199 = .ok (.iaload, 1) := by decide +kernel
theorem dL_law_3200 : decode cL_law 3200 = .ok (.aload_n 0, 1) := by decide +kernel
theorem dL_law_3201 : decode cL_law 3201 = .ok (.iload 5, 2) := by decide +kernel
theorem dL_law_3203 : decode cL_law 3203 = .ok (.iconst 3, 1) := by decide +kernel
theorem dL_law_3204 : decode cL_law 3204 = .ok (.iadd, 1) := by decide +kernel
theorem dL_law_3205 : decode cL_law 3205 = .ok (.iaload, 1) := by decide +kernel
theorem dL_law_3206 : decode cL_law 3206 = .ok (.aload_n 3, 1) := by decide +kernel
theorem dL_law_3207 : decode cL_law 3207 = .ok (.invokestatic 343, 3) := by decide +kernel
theorem dL_law_3210 : decode cL_law 3210 = .ok (.istore 6, 2) := by decide +kernel
theorem dL_law_3212 : decode cL_law 3212 = .ok (.aload_n 2, 1) := by decide +kernel
theorem dL_law_3213 : decode cL_law 3213 = .ok (.aload_n 0, 1) := by decide +kernel
theorem dL_law_3214 : decode cL_law 3214 = .ok (.iload 5, 2) := by decide +kernel
theorem dL_law_3216 : decode cL_law 3216 = .ok (.iconst 1, 1) := by decide +kernel
theorem dL_law_3217 : decode cL_law 3217 = .ok (.iadd, 1) := by decide +kernel
theorem dL_law_3218 : decode cL_law 3218 = .ok (.iaload, 1) := by decide +kernel
theorem dL_law_3219 : decode cL_law 3219 = .ok (.aload_n 0, 1) := by decide +kernel
theorem dL_law_3220 : decode cL_law 3220 = .ok (.iload 5, 2) := by decide +kernel
theorem dL_law_3222 : decode cL_law 3222 = .ok (.iconst 2, 1) := by decide +kernel
theorem dL_law_3223 : decode cL_law 3223 = .ok (.iadd, 1) := by decide +kernel
theorem dL_law_3224 : decode cL_law 3224 = .ok (.iaload, 1) := by decide +kernel
theorem dL_law_3225 : decode cL_law 3225 = .ok (.aload_n 0, 1) := by decide +kernel
theorem dL_law_3226 : decode cL_law 3226 = .ok (.iload 5, 2) := by decide +kernel
theorem dL_law_3228 : decode cL_law 3228 = .ok (.iconst 3, 1) := by decide +kernel
theorem dL_law_3229 : decode cL_law 3229 = .ok (.iadd, 1) := by decide +kernel
theorem dL_law_3230 : decode cL_law 3230 = .ok (.iaload, 1) := by decide +kernel
theorem dL_law_3231 : decode cL_law 3231 = .ok (.invokevirtual 345, 3) := by decide +kernel
theorem dL_law_3234 : decode cL_law 3234 = .ok (.istore 7, 2) := by decide +kernel
theorem dL_law_3236 : decode cL_law 3236 = .ok (.aload_n 2, 1) := by decide +kernel
theorem dL_law_3237 : decode cL_law 3237 = .ok (.invokevirtual 202, 3) := by decide +kernel
theorem dL_law_3240 : decode cL_law 3240 = .ok (.iload 6, 2) := by decide +kernel
theorem dL_law_3242 : decode cL_law 3242 = .ok (.if_icmp .eq 5, 3) := by decide +kernel
theorem dL_law_3245 : decode cL_law 3245 = .ok (.iconst 0, 1) := by decide +kernel
theorem dL_law_3246 : decode cL_law 3246 = .ok (.ireturn, 1) := by decide +kernel
theorem dL_law_3247 : decode cL_law 3247 = .ok (.iload 6, 2) := by decide +kernel
theorem dL_law_3249 : decode cL_law 3249 = .ok (.ifCond .ne 15, 3) := by decide +kernel
theorem dL_law_3252 : decode cL_law 3252 = .ok (.aload_n 3, 1) := by decide +kernel
theorem dL_law_3253 : decode cL_law 3253 = .ok (.iconst 0, 1) := by decide +kernel
theorem dL_law_3254 : decode cL_law 3254 = .ok (.laload, 1) := by decide +kernel
theorem dL_law_3255 : decode cL_law 3255 = .ok (.iload 7, 2) := by decide +kernel
theorem dL_law_3257 : decode cL_law 3257 = .ok (.i2l, 1) := by decide +kernel
theorem dL_law_3258 : decode cL_law 3258 = .ok (.lcmp, 1) := by decide +kernel
theorem dL_law_3259 : decode cL_law 3259 = .ok (.ifCond .eq 5, 3) := by decide +kernel
theorem dL_law_3262 : decode cL_law 3262 = .ok (.iconst 0, 1) := by decide +kernel
theorem dL_law_3263 : decode cL_law 3263 = .ok (.ireturn, 1) := by decide +kernel
theorem dL_law_3264 : decode cL_law 3264 = .ok (.goto 985, 3) := by decide +kernel
theorem dL_law_3267 : decode cL_law 3267 = .ok (.aload_n 1, 1) := by decide +kernel
theorem dL_law_3268 : decode cL_law 3268 = .ok (.aload_n 0, 1) := by decide +kernel
theorem dL_law_3269 : decode cL_law 3269 = .ok (.iload 5, 2) := by decide +kernel
theorem dL_law_3271 : decode cL_law 3271 = .ok (.iconst 1, 1) := by decide +kernel
theorem dL_law_3272 : decode cL_law 3272 = .ok (.iadd, 1) := by decide +kernel
theorem dL_law_3273 : decode cL_law 3273 = .ok (.iaload, 1) := by decide +kernel
theorem dL_law_3274 : decode cL_law 3274 = .ok (.aload_n 3, 1) := by decide +kernel
theorem dL_law_3275 : decode cL_law 3275 = .ok (.invokestatic 346, 3) := by decide +kernel
theorem dL_law_3278 : decode cL_law 3278 = .ok (.istore 6, 2) := by decide +kernel
theorem dL_law_3280 : decode cL_law 3280 = .ok (.aload_n 2, 1) := by decide +kernel
theorem dL_law_3281 : decode cL_law 3281 = .ok (.aload_n 0, 1) := by decide +kernel
theorem dL_law_3282 : decode cL_law 3282 = .ok (.iload 5, 2) := by decide +kernel
theorem dL_law_3284 : decode cL_law 3284 = .ok (.iconst 1, 1) := by decide +kernel
theorem dL_law_3285 : decode cL_law 3285 = .ok (.iadd, 1) := by decide +kernel
theorem dL_law_3286 : decode cL_law 3286 = .ok (.iaload, 1) := by decide +kernel
theorem dL_law_3287 : decode cL_law 3287 = .ok (.invokevirtual 348, 3) := by decide +kernel
theorem dL_law_3290 : decode cL_law 3290 = .ok (.istore 7, 2) := by decide +kernel
theorem dL_law_3292 : decode cL_law 3292 = .ok (.aload_n 2, 1) := by decide +kernel
theorem dL_law_3293 : decode cL_law 3293 = .ok (.invokevirtual 202, 3) := by decide +kernel
theorem dL_law_3296 : decode cL_law 3296 = .ok (.iload 6, 2) := by decide +kernel
theorem dL_law_3298 : decode cL_law 3298 = .ok (.if_icmp .eq 5, 3) := by decide +kernel
theorem dL_law_3301 : decode cL_law 3301 = .ok (.iconst 0, 1) := by decide +kernel
theorem dL_law_3302 : decode cL_law 3302 = .ok (.ireturn, 1) := by decide +kernel
theorem dL_law_3303 : decode cL_law 3303 = .ok (.iload 6, 2) := by decide +kernel
theorem dL_law_3305 : decode cL_law 3305 = .ok (.ifCond .ne 15, 3) := by decide +kernel
theorem dL_law_3308 : decode cL_law 3308 = .ok (.aload_n 3, 1) := by decide +kernel
theorem dL_law_3309 : decode cL_law 3309 = .ok (.iconst 0, 1) := by decide +kernel
theorem dL_law_3310 : decode cL_law 3310 = .ok (.laload, 1) := by decide +kernel
theorem dL_law_3311 : decode cL_law 3311 = .ok (.iload 7, 2) := by decide +kernel
theorem dL_law_3313 : decode cL_law 3313 = .ok (.i2l, 1) := by decide +kernel
theorem dL_law_3314 : decode cL_law 3314 = .ok (.lcmp, 1) := by decide +kernel
theorem dL_law_3315 : decode cL_law 3315 = .ok (.ifCond .eq 5, 3) := by decide +kernel
theorem dL_law_3318 : decode cL_law 3318 = .ok (.iconst 0, 1) := by decide +kernel
theorem dL_law_3319 : decode cL_law 3319 = .ok (.ireturn, 1) := by decide +kernel
theorem dL_law_3320 : decode cL_law 3320 = .ok (.goto 929, 3) := by decide +kernel
theorem dL_law_3323 : decode cL_law 3323 = .ok (.aload_n 1, 1) := by decide +kernel
theorem dL_law_3324 : decode cL_law 3324 = .ok (.aload_n 0, 1) := by decide +kernel
theorem dL_law_3325 : decode cL_law 3325 = .ok (.iload 5, 2) := by decide +kernel
theorem dL_law_3327 : decode cL_law 3327 = .ok (.iconst 1, 1) := by decide +kernel
theorem dL_law_3328 : decode cL_law 3328 = .ok (.iadd, 1) := by decide +kernel
theorem dL_law_3329 : decode cL_law 3329 = .ok (.iaload, 1) := by decide +kernel
theorem dL_law_3330 : decode cL_law 3330 = .ok (.aload_n 0, 1) := by decide +kernel
theorem dL_law_3331 : decode cL_law 3331 = .ok (.iload 5, 2) := by decide +kernel
theorem dL_law_3333 : decode cL_law 3333 = .ok (.iconst 2, 1) := by decide +kernel
theorem dL_law_3334 : decode cL_law 3334 = .ok (.iadd, 1) := by decide +kernel
theorem dL_law_3335 : decode cL_law 3335 = .ok (.iaload, 1) := by decide +kernel
theorem dL_law_3336 : decode cL_law 3336 = .ok (.aload_n 3, 1) := by decide +kernel
theorem dL_law_3337 : decode cL_law 3337 = .ok (.invokestatic 349, 3) := by decide +kernel
theorem dL_law_3340 : decode cL_law 3340 = .ok (.istore 6, 2) := by decide +kernel
theorem dL_law_3342 : decode cL_law 3342 = .ok (.aload_n 2, 1) := by decide +kernel
theorem dL_law_3343 : decode cL_law 3343 = .ok (.aload_n 0, 1) := by decide +kernel
theorem dL_law_3344 : decode cL_law 3344 = .ok (.iload 5, 2) := by decide +kernel
theorem dL_law_3346 : decode cL_law 3346 = .ok (.iconst 1, 1) := by decide +kernel
theorem dL_law_3347 : decode cL_law 3347 = .ok (.iadd, 1) := by decide +kernel
theorem dL_law_3348 : decode cL_law 3348 = .ok (.iaload, 1) := by decide +kernel
theorem dL_law_3349 : decode cL_law 3349 = .ok (.aload_n 0, 1) := by decide +kernel
theorem dL_law_3350 : decode cL_law 3350 = .ok (.iload 5, 2) := by decide +kernel
theorem dL_law_3352 : decode cL_law 3352 = .ok (.iconst 2, 1) := by decide +kernel
theorem dL_law_3353 : decode cL_law 3353 = .ok (.iadd, 1) := by decide +kernel
theorem dL_law_3354 : decode cL_law 3354 = .ok (.iaload, 1) := by decide +kernel
theorem dL_law_3355 : decode cL_law 3355 = .ok (.invokevirtual 351, 3) := by decide +kernel
theorem dL_law_3358 : decode cL_law 3358 = .ok (.istore 7, 2) := by decide +kernel
theorem dL_law_3360 : decode cL_law 3360 = .ok (.aload_n 2, 1) := by decide +kernel
theorem dL_law_3361 : decode cL_law 3361 = .ok (.invokevirtual 202, 3) := by decide +kernel
theorem dL_law_3364 : decode cL_law 3364 = .ok (.iload 6, 2) := by decide +kernel
theorem dL_law_3366 : decode cL_law 3366 = .ok (.if_icmp .eq 5, 3) := by decide +kernel
theorem dL_law_3369 : decode cL_law 3369 = .ok (.iconst 0, 1) := by decide +kernel
theorem dL_law_3370 : decode cL_law 3370 = .ok (.ireturn, 1) := by decide +kernel
theorem dL_law_3371 : decode cL_law 3371 = .ok (.iload 6, 2) := by decide +kernel
theorem dL_law_3373 : decode cL_law 3373 = .ok (.ifCond .ne 15, 3) := by decide +kernel
theorem dL_law_3376 : decode cL_law 3376 = .ok (.aload_n 3, 1) := by decide +kernel
theorem dL_law_3377 : decode cL_law 3377 = .ok (.iconst 0, 1) := by decide +kernel
theorem dL_law_3378 : decode cL_law 3378 = .ok (.laload, 1) := by decide +kernel
theorem dL_law_3379 : decode cL_law 3379 = .ok (.iload 7, 2) := by decide +kernel
theorem dL_law_3381 : decode cL_law 3381 = .ok (.i2l, 1) := by decide +kernel
theorem dL_law_3382 : decode cL_law 3382 = .ok (.lcmp, 1) := by decide +kernel
theorem dL_law_3383 : decode cL_law 3383 = .ok (.ifCond .eq 5, 3) := by decide +kernel
theorem dL_law_3386 : decode cL_law 3386 = .ok (.iconst 0, 1) := by decide +kernel
theorem dL_law_3387 : decode cL_law 3387 = .ok (.ireturn, 1) := by decide +kernel
theorem dL_law_3388 : decode cL_law 3388 = .ok (.goto 861, 3) := by decide +kernel
theorem dL_law_3391 : decode cL_law 3391 = .ok (.aload_n 1, 1) := by decide +kernel
theorem dL_law_3392 : decode cL_law 3392 = .ok (.aload_n 0, 1) := by decide +kernel
theorem dL_law_3393 : decode cL_law 3393 = .ok (.iload 5, 2) := by decide +kernel
theorem dL_law_3395 : decode cL_law 3395 = .ok (.iconst 1, 1) := by decide +kernel
theorem dL_law_3396 : decode cL_law 3396 = .ok (.iadd, 1) := by decide +kernel
theorem dL_law_3397 : decode cL_law 3397 = .ok (.iaload, 1) := by decide +kernel
theorem dL_law_3398 : decode cL_law 3398 = .ok (.aload_n 3, 1) := by decide +kernel
theorem dL_law_3399 : decode cL_law 3399 = .ok (.invokestatic 352, 3) := by decide +kernel
theorem dL_law_3402 : decode cL_law 3402 = .ok (.istore 6, 2) := by decide +kernel
theorem dL_law_3404 : decode cL_law 3404 = .ok (.aload_n 2, 1) := by decide +kernel
theorem dL_law_3405 : decode cL_law 3405 = .ok (.aload_n 0, 1) := by decide +kernel
theorem dL_law_3406 : decode cL_law 3406 = .ok (.iload 5, 2) := by decide +kernel
theorem dL_law_3408 : decode cL_law 3408 = .ok (.iconst 1, 1) := by decide +kernel
theorem dL_law_3409 : decode cL_law 3409 = .ok (.iadd, 1) := by decide +kernel
theorem dL_law_3410 : decode cL_law 3410 = .ok (.iaload, 1) := by decide +kernel
theorem dL_law_3411 : decode cL_law 3411 = .ok (.invokevirtual 354, 3) := by decide +kernel
theorem dL_law_3414 : decode cL_law 3414 = .ok (.istore 7, 2) := by decide +kernel
theorem dL_law_3416 : decode cL_law 3416 = .ok (.aload_n 2, 1) := by decide +kernel
theorem dL_law_3417 : decode cL_law 3417 = .ok (.invokevirtual 202, 3) := by decide +kernel
theorem dL_law_3420 : decode cL_law 3420 = .ok (.iload 6, 2) := by decide +kernel
theorem dL_law_3422 : decode cL_law 3422 = .ok (.if_icmp .eq 5, 3) := by decide +kernel
theorem dL_law_3425 : decode cL_law 3425 = .ok (.iconst 0, 1) := by decide +kernel
theorem dL_law_3426 : decode cL_law 3426 = .ok (.ireturn, 1) := by decide +kernel
theorem dL_law_3427 : decode cL_law 3427 = .ok (.iload 6, 2) := by decide +kernel
theorem dL_law_3429 : decode cL_law 3429 = .ok (.ifCond .ne 15, 3) := by decide +kernel
theorem dL_law_3432 : decode cL_law 3432 = .ok (.aload_n 3, 1) := by decide +kernel
theorem dL_law_3433 : decode cL_law 3433 = .ok (.iconst 0, 1) := by decide +kernel
theorem dL_law_3434 : decode cL_law 3434 = .ok (.laload, 1) := by decide +kernel
theorem dL_law_3435 : decode cL_law 3435 = .ok (.iload 7, 2) := by decide +kernel
theorem dL_law_3437 : decode cL_law 3437 = .ok (.i2l, 1) := by decide +kernel
theorem dL_law_3438 : decode cL_law 3438 = .ok (.lcmp, 1) := by decide +kernel
theorem dL_law_3439 : decode cL_law 3439 = .ok (.ifCond .eq 5, 3) := by decide +kernel
theorem dL_law_3442 : decode cL_law 3442 = .ok (.iconst 0, 1) := by decide +kernel
theorem dL_law_3443 : decode cL_law 3443 = .ok (.ireturn, 1) := by decide +kernel
theorem dL_law_3444 : decode cL_law 3444 = .ok (.goto 805, 3) := by decide +kernel
theorem dL_law_3447 : decode cL_law 3447 = .ok (.aload_n 1, 1) := by decide +kernel
theorem dL_law_3448 : decode cL_law 3448 = .ok (.aload_n 3, 1) := by decide +kernel
theorem dL_law_3449 : decode cL_law 3449 = .ok (.invokestatic 355, 3) := by decide +kernel
theorem dL_law_3452 : decode cL_law 3452 = .ok (.istore 6, 2) := by decide +kernel
theorem dL_law_3454 : decode cL_law 3454 = .ok (.aload_n 2, 1) := by decide +kernel
theorem dL_law_3455 : decode cL_law 3455 = .ok (.invokevirtual 357, 3) := by decide +kernel
theorem dL_law_3458 : decode cL_law 3458 = .ok (.istore 7, 2) := by decide +kernel
theorem dL_law_3460 : decode cL_law 3460 = .ok (.aload_n 2, 1) := by decide +kernel
theorem dL_law_3461 : decode cL_law 3461 = .ok (.invokevirtual 202, 3) := by decide +kernel
theorem dL_law_3464 : decode cL_law 3464 = .ok (.iload 6, 2) := by decide +kernel
theorem dL_law_3466 : decode cL_law 3466 = .ok (.if_icmp .eq 5, 3) := by decide +kernel
theorem dL_law_3469 : decode cL_law 3469 = .ok (.iconst 0, 1) := by decide +kernel
theorem dL_law_3470 : decode cL_law 3470 = .ok (.ireturn, 1) := by decide +kernel
theorem dL_law_3471 : decode cL_law 3471 = .ok (.iload 6, 2) := by decide +kernel
theorem dL_law_3473 : decode cL_law 3473 = .ok (.ifCond .ne 15, 3) := by decide +kernel
theorem dL_law_3476 : decode cL_law 3476 = .ok (.aload_n 3, 1) := by decide +kernel
theorem dL_law_3477 : decode cL_law 3477 = .ok (.iconst 0, 1) := by decide +kernel
theorem dL_law_3478 : decode cL_law 3478 = .ok (.laload, 1) := by decide +kernel
theorem dL_law_3479 : decode cL_law 3479 = .ok (.iload 7, 2) := by decide +kernel
theorem dL_law_3481 : decode cL_law 3481 = .ok (.i2l, 1) := by decide +kernel
theorem dL_law_3482 : decode cL_law 3482 = .ok (.lcmp, 1) := by decide +kernel
theorem dL_law_3483 : decode cL_law 3483 = .ok (.ifCond .eq 5, 3) := by decide +kernel
theorem dL_law_3486 : decode cL_law 3486 = .ok (.iconst 0, 1) := by decide +kernel
theorem dL_law_3487 : decode cL_law 3487 = .ok (.ireturn, 1) := by decide +kernel
theorem dL_law_3488 : decode cL_law 3488 = .ok (.goto 761, 3) := by decide +kernel
theorem dL_law_3491 : decode cL_law 3491 = .ok (.aload_n 1, 1) := by decide +kernel
theorem dL_law_3492 : decode cL_law 3492 = .ok (.aload_n 0, 1) := by decide +kernel
theorem dL_law_3493 : decode cL_law 3493 = .ok (.iload 5, 2) := by decide +kernel
theorem dL_law_3495 : decode cL_law 3495 = .ok (.iconst 1, 1) := by decide +kernel
theorem dL_law_3496 : decode cL_law 3496 = .ok (.iadd, 1) := by decide +kernel
theorem dL_law_3497 : decode cL_law 3497 = .ok (.iaload, 1) := by decide +kernel
theorem dL_law_3498 : decode cL_law 3498 = .ok (.aload_n 0, 1) := by decide +kernel
theorem dL_law_3499 : decode cL_law 3499 = .ok (.iload 5, 2) := by decide +kernel
theorem dL_law_3501 : decode cL_law 3501 = .ok (.iconst 2, 1) := by decide +kernel
theorem dL_law_3502 : decode cL_law 3502 = .ok (.iadd, 1) := by decide +kernel
theorem dL_law_3503 : decode cL_law 3503 = .ok (.iaload, 1) := by decide +kernel
theorem dL_law_3504 : decode cL_law 3504 = .ok (.aload_n 3, 1) := by decide +kernel
theorem dL_law_3505 : decode cL_law 3505 = .ok (.invokestatic 358, 3) := by decide +kernel
theorem dL_law_3508 : decode cL_law 3508 = .ok (.istore 6, 2) := by decide +kernel
theorem dL_law_3510 : decode cL_law 3510 = .ok (.aload_n 2, 1) := by decide +kernel
theorem dL_law_3511 : decode cL_law 3511 = .ok (.aload_n 0, 1) := by decide +kernel
theorem dL_law_3512 : decode cL_law 3512 = .ok (.iload 5, 2) := by decide +kernel
theorem dL_law_3514 : decode cL_law 3514 = .ok (.iconst 1, 1) := by decide +kernel
theorem dL_law_3515 : decode cL_law 3515 = .ok (.iadd, 1) := by decide +kernel
theorem dL_law_3516 : decode cL_law 3516 = .ok (.iaload, 1) := by decide +kernel
theorem dL_law_3517 : decode cL_law 3517 = .ok (.aload_n 0, 1) := by decide +kernel
theorem dL_law_3518 : decode cL_law 3518 = .ok (.iload 5, 2) := by decide +kernel
theorem dL_law_3520 : decode cL_law 3520 = .ok (.iconst 2, 1) := by decide +kernel
theorem dL_law_3521 : decode cL_law 3521 = .ok (.iadd, 1) := by decide +kernel
theorem dL_law_3522 : decode cL_law 3522 = .ok (.iaload, 1) := by decide +kernel
theorem dL_law_3523 : decode cL_law 3523 = .ok (.invokevirtual 360, 3) := by decide +kernel
theorem dL_law_3526 : decode cL_law 3526 = .ok (.istore 7, 2) := by decide +kernel
theorem dL_law_3528 : decode cL_law 3528 = .ok (.aload_n 2, 1) := by decide +kernel
theorem dL_law_3529 : decode cL_law 3529 = .ok (.invokevirtual 202, 3) := by decide +kernel
theorem dL_law_3532 : decode cL_law 3532 = .ok (.iload 6, 2) := by decide +kernel
theorem dL_law_3534 : decode cL_law 3534 = .ok (.if_icmp .eq 5, 3) := by decide +kernel
theorem dL_law_3537 : decode cL_law 3537 = .ok (.iconst 0, 1) := by decide +kernel
theorem dL_law_3538 : decode cL_law 3538 = .ok (.ireturn, 1) := by decide +kernel
theorem dL_law_3539 : decode cL_law 3539 = .ok (.iload 6, 2) := by decide +kernel
theorem dL_law_3541 : decode cL_law 3541 = .ok (.ifCond .ne 15, 3) := by decide +kernel
theorem dL_law_3544 : decode cL_law 3544 = .ok (.aload_n 3, 1) := by decide +kernel
theorem dL_law_3545 : decode cL_law 3545 = .ok (.iconst 0, 1) := by decide +kernel
theorem dL_law_3546 : decode cL_law 3546 = .ok (.laload, 1) := by decide +kernel
theorem dL_law_3547 : decode cL_law 3547 = .ok (.iload 7, 2) := by decide +kernel
theorem dL_law_3549 : decode cL_law 3549 = .ok (.i2l, 1) := by decide +kernel
theorem dL_law_3550 : decode cL_law 3550 = .ok (.lcmp, 1) := by decide +kernel
theorem dL_law_3551 : decode cL_law 3551 = .ok (.ifCond .eq 5, 3) := by decide +kernel
theorem dL_law_3554 : decode cL_law 3554 = .ok (.iconst 0, 1) := by decide +kernel
theorem dL_law_3555 : decode cL_law 3555 = .ok (.ireturn, 1) := by decide +kernel
theorem dL_law_3556 : decode cL_law 3556 = .ok (.goto 693, 3) := by decide +kernel
theorem dL_law_3559 : decode cL_law 3559 = .ok (.aload_n 1, 1) := by decide +kernel
theorem dL_law_3560 : decode cL_law 3560 = .ok (.aload_n 0, 1) := by decide +kernel
theorem dL_law_3561 : decode cL_law 3561 = .ok (.iload 5, 2) := by decide +kernel
theorem dL_law_3563 : decode cL_law 3563 = .ok (.iconst 1, 1) := by decide +kernel
theorem dL_law_3564 : decode cL_law 3564 = .ok (.iadd, 1) := by decide +kernel
theorem dL_law_3565 : decode cL_law 3565 = .ok (.iaload, 1) := by decide +kernel
theorem dL_law_3566 : decode cL_law 3566 = .ok (.aload_n 0, 1) := by decide +kernel
theorem dL_law_3567 : decode cL_law 3567 = .ok (.iload 5, 2) := by decide +kernel
theorem dL_law_3569 : decode cL_law 3569 = .ok (.iconst 2, 1) := by decide +kernel
theorem dL_law_3570 : decode cL_law 3570 = .ok (.iadd, 1) := by decide +kernel
theorem dL_law_3571 : decode cL_law 3571 = .ok (.iaload, 1) := by decide +kernel
theorem dL_law_3572 : decode cL_law 3572 = .ok (.aload_n 3, 1) := by decide +kernel
theorem dL_law_3573 : decode cL_law 3573 = .ok (.invokestatic 361, 3) := by decide +kernel
theorem dL_law_3576 : decode cL_law 3576 = .ok (.istore 6, 2) := by decide +kernel
theorem dL_law_3578 : decode cL_law 3578 = .ok (.aload_n 2, 1) := by decide +kernel
