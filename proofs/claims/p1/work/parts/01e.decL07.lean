theorem ni_dL_law_2990 : decode cL_law 2990 = .ok (.aload_n 1, 1) := by decide +kernel
theorem ni_dL_law_2991 : decode cL_law 2991 = .ok (.aload_n 0, 1) := by decide +kernel
theorem ni_dL_law_2992 : decode cL_law 2992 = .ok (.iload 5, 2) := by decide +kernel
theorem ni_dL_law_2994 : decode cL_law 2994 = .ok (.iconst 1, 1) := by decide +kernel
theorem ni_dL_law_2995 : decode cL_law 2995 = .ok (.iadd, 1) := by decide +kernel
theorem ni_dL_law_2996 : decode cL_law 2996 = .ok (.iaload, 1) := by decide +kernel
theorem ni_dL_law_2997 : decode cL_law 2997 = .ok (.aload_n 3, 1) := by decide +kernel
theorem ni_dL_law_2998 : decode cL_law 2998 = .ok (.invokestatic 311, 3) := by decide +kernel
theorem ni_dL_law_3001 : decode cL_law 3001 = .ok (.istore 6, 2) := by decide +kernel
theorem ni_dL_law_3003 : decode cL_law 3003 = .ok (.aload_n 2, 1) := by decide +kernel
theorem ni_dL_law_3004 : decode cL_law 3004 = .ok (.aload_n 0, 1) := by decide +kernel
theorem ni_dL_law_3005 : decode cL_law 3005 = .ok (.iload 5, 2) := by decide +kernel
theorem ni_dL_law_3007 : decode cL_law 3007 = .ok (.iconst 1, 1) := by decide +kernel
theorem ni_dL_law_3008 : decode cL_law 3008 = .ok (.iadd, 1) := by decide +kernel
theorem ni_dL_law_3009 : decode cL_law 3009 = .ok (.iaload, 1) := by decide +kernel
theorem ni_dL_law_3010 : decode cL_law 3010 = .ok (.invokevirtual 313, 3) := by decide +kernel
theorem ni_dL_law_3013 : decode cL_law 3013 = .ok (.istore 7, 2) := by decide +kernel
theorem ni_dL_law_3015 : decode cL_law 3015 = .ok (.aload_n 2, 1) := by decide +kernel
theorem ni_dL_law_3016 : decode cL_law 3016 = .ok (.invokevirtual 161, 3) := by decide +kernel
theorem ni_dL_law_3019 : decode cL_law 3019 = .ok (.iload 6, 2) := by decide +kernel
theorem ni_dL_law_3021 : decode cL_law 3021 = .ok (.if_icmp .eq 5, 3) := by decide +kernel
theorem ni_dL_law_3026 : decode cL_law 3026 = .ok (.iload 6, 2) := by decide +kernel
theorem ni_dL_law_3028 : decode cL_law 3028 = .ok (.ifCond .ne 15, 3) := by decide +kernel
theorem ni_dL_law_3043 : decode cL_law 3043 = .ok (.goto 274, 3) := by decide +kernel
theorem ni_dL_law_3046 : decode cL_law 3046 = .ok (.aload_n 1, 1) := by decide +kernel
theorem ni_dL_law_3047 : decode cL_law 3047 = .ok (.aload_n 0, 1) := by decide +kernel
theorem ni_dL_law_3048 : decode cL_law 3048 = .ok (.iload 5, 2) := by decide +kernel
theorem ni_dL_law_3050 : decode cL_law 3050 = .ok (.iconst 1, 1) := by decide +kernel
theorem ni_dL_law_3051 : decode cL_law 3051 = .ok (.iadd, 1) := by decide +kernel
theorem ni_dL_law_3052 : decode cL_law 3052 = .ok (.iaload, 1) := by decide +kernel
theorem ni_dL_law_3053 : decode cL_law 3053 = .ok (.aload 4, 2) := by decide +kernel
theorem ni_dL_law_3055 : decode cL_law 3055 = .ok (.invokestatic 314, 3) := by decide +kernel
theorem ni_dL_law_3058 : decode cL_law 3058 = .ok (.istore 6, 2) := by decide +kernel
theorem ni_dL_law_3060 : decode cL_law 3060 = .ok (.aload_n 2, 1) := by decide +kernel
theorem ni_dL_law_3061 : decode cL_law 3061 = .ok (.aload_n 0, 1) := by decide +kernel
theorem ni_dL_law_3062 : decode cL_law 3062 = .ok (.iload 5, 2) := by decide +kernel
theorem ni_dL_law_3064 : decode cL_law 3064 = .ok (.iconst 1, 1) := by decide +kernel
theorem ni_dL_law_3065 : decode cL_law 3065 = .ok (.iadd, 1) := by decide +kernel
theorem ni_dL_law_3066 : decode cL_law 3066 = .ok (.iaload, 1) := by decide +kernel
theorem ni_dL_law_3067 : decode cL_law 3067 = .ok (.invokevirtual 317, 3) := by decide +kernel
theorem ni_dL_law_3070 : decode cL_law 3070 = .ok (.dstore 7, 2) := by decide +kernel
theorem ni_dL_law_3072 : decode cL_law 3072 = .ok (.aload_n 2, 1) := by decide +kernel
theorem ni_dL_law_3073 : decode cL_law 3073 = .ok (.invokevirtual 161, 3) := by decide +kernel
theorem ni_dL_law_3076 : decode cL_law 3076 = .ok (.iload 6, 2) := by decide +kernel
theorem ni_dL_law_3078 : decode cL_law 3078 = .ok (.if_icmp .eq 5, 3) := by decide +kernel
theorem ni_dL_law_3083 : decode cL_law 3083 = .ok (.iload 6, 2) := by decide +kernel
theorem ni_dL_law_3085 : decode cL_law 3085 = .ok (.ifCond .ne 35, 3) := by decide +kernel
theorem ni_dL_law_3120 : decode cL_law 3120 = .ok (.goto 197, 3) := by decide +kernel
theorem ni_dL_law_3123 : decode cL_law 3123 = .ok (.aload_n 1, 1) := by decide +kernel
theorem ni_dL_law_3124 : decode cL_law 3124 = .ok (.aload_n 0, 1) := by decide +kernel
theorem ni_dL_law_3125 : decode cL_law 3125 = .ok (.iload 5, 2) := by decide +kernel
theorem ni_dL_law_3127 : decode cL_law 3127 = .ok (.iconst 1, 1) := by decide +kernel
theorem ni_dL_law_3128 : decode cL_law 3128 = .ok (.iadd, 1) := by decide +kernel
theorem ni_dL_law_3129 : decode cL_law 3129 = .ok (.iaload, 1) := by decide +kernel
theorem ni_dL_law_3130 : decode cL_law 3130 = .ok (.aload_n 3, 1) := by decide +kernel
theorem ni_dL_law_3131 : decode cL_law 3131 = .ok (.invokestatic 318, 3) := by decide +kernel
theorem ni_dL_law_3134 : decode cL_law 3134 = .ok (.istore 6, 2) := by decide +kernel
theorem ni_dL_law_3136 : decode cL_law 3136 = .ok (.aload_n 2, 1) := by decide +kernel
theorem ni_dL_law_3137 : decode cL_law 3137 = .ok (.aload_n 0, 1) := by decide +kernel
theorem ni_dL_law_3138 : decode cL_law 3138 = .ok (.iload 5, 2) := by decide +kernel
theorem ni_dL_law_3140 : decode cL_law 3140 = .ok (.iconst 1, 1) := by decide +kernel
theorem ni_dL_law_3141 : decode cL_law 3141 = .ok (.iadd, 1) := by decide +kernel
theorem ni_dL_law_3142 : decode cL_law 3142 = .ok (.iaload, 1) := by decide +kernel
theorem ni_dL_law_3143 : decode cL_law 3143 = .ok (.invokevirtual 320, 3) := by decide +kernel
theorem ni_dL_law_3146 : decode cL_law 3146 = .ok (.istore 7, 2) := by decide +kernel
theorem ni_dL_law_3148 : decode cL_law 3148 = .ok (.aload_n 2, 1) := by decide +kernel
theorem ni_dL_law_3149 : decode cL_law 3149 = .ok (.invokevirtual 161, 3) := by decide +kernel
theorem ni_dL_law_3152 : decode cL_law 3152 = .ok (.iload 6, 2) := by decide +kernel
theorem ni_dL_law_3154 : decode cL_law 3154 = .ok (.if_icmp .eq 5, 3) := by decide +kernel
theorem ni_dL_law_3159 : decode cL_law 3159 = .ok (.iload 6, 2) := by decide +kernel
theorem ni_dL_law_3161 : decode cL_law 3161 = .ok (.ifCond .ne 15, 3) := by decide +kernel
theorem ni_dL_law_3176 : decode cL_law 3176 = .ok (.goto 141, 3) := by decide +kernel
theorem ni_dL_law_3179 : decode cL_law 3179 = .ok (.aload_n 1, 1) := by decide +kernel
theorem ni_dL_law_3180 : decode cL_law 3180 = .ok (.aload_n 0, 1) := by decide +kernel
theorem ni_dL_law_3181 : decode cL_law 3181 = .ok (.iload 5, 2) := by decide +kernel
theorem ni_dL_law_3183 : decode cL_law 3183 = .ok (.iconst 1, 1) := by decide +kernel
theorem ni_dL_law_3184 : decode cL_law 3184 = .ok (.iadd, 1) := by decide +kernel
theorem ni_dL_law_3185 : decode cL_law 3185 = .ok (.iaload, 1) := by decide +kernel
theorem ni_dL_law_3186 : decode cL_law 3186 = .ok (.aload_n 0, 1) := by decide +kernel
theorem ni_dL_law_3187 : decode cL_law 3187 = .ok (.iload 5, 2) := by decide +kernel
theorem ni_dL_law_3189 : decode cL_law 3189 = .ok (.iconst 2, 1) := by decide +kernel
theorem ni_dL_law_3190 : decode cL_law 3190 = .ok (.iadd, 1) := by decide +kernel
theorem ni_dL_law_3191 : decode cL_law 3191 = .ok (.iaload, 1) := by decide +kernel
theorem ni_dL_law_3192 : decode cL_law 3192 = .ok (.aload_n 3, 1) := by decide +kernel
theorem ni_dL_law_3193 : decode cL_law 3193 = .ok (.invokestatic 321, 3) := by decide +kernel
theorem ni_dL_law_3196 : decode cL_law 3196 = .ok (.istore 6, 2) := by decide +kernel
theorem ni_dL_law_3198 : decode cL_law 3198 = .ok (.aload_n 2, 1) := by decide +kernel
theorem ni_dL_law_3199 : decode cL_law 3199 = .ok (.aload_n 0, 1) := by decide +kernel
theorem ni_dL_law_3200 : decode cL_law 3200 = .ok (.iload 5, 2) := by decide +kernel
theorem ni_dL_law_3202 : decode cL_law 3202 = .ok (.iconst 1, 1) := by decide +kernel
theorem ni_dL_law_3203 : decode cL_law 3203 = .ok (.iadd, 1) := by decide +kernel
theorem ni_dL_law_3204 : decode cL_law 3204 = .ok (.iaload, 1) := by decide +kernel
theorem ni_dL_law_3205 : decode cL_law 3205 = .ok (.aload_n 0, 1) := by decide +kernel
theorem ni_dL_law_3206 : decode cL_law 3206 = .ok (.iload 5, 2) := by decide +kernel
theorem ni_dL_law_3208 : decode cL_law 3208 = .ok (.iconst 2, 1) := by decide +kernel
theorem ni_dL_law_3209 : decode cL_law 3209 = .ok (.iadd, 1) := by decide +kernel
theorem ni_dL_law_3210 : decode cL_law 3210 = .ok (.iaload, 1) := by decide +kernel
theorem ni_dL_law_3211 : decode cL_law 3211 = .ok (.invokevirtual 323, 3) := by decide +kernel
theorem ni_dL_law_3214 : decode cL_law 3214 = .ok (.istore 7, 2) := by decide +kernel
theorem ni_dL_law_3216 : decode cL_law 3216 = .ok (.aload_n 2, 1) := by decide +kernel
theorem ni_dL_law_3217 : decode cL_law 3217 = .ok (.invokevirtual 161, 3) := by decide +kernel
theorem ni_dL_law_3220 : decode cL_law 3220 = .ok (.iload 6, 2) := by decide +kernel
theorem ni_dL_law_3222 : decode cL_law 3222 = .ok (.if_icmp .eq 5, 3) := by decide +kernel
theorem ni_dL_law_3227 : decode cL_law 3227 = .ok (.iload 6, 2) := by decide +kernel
theorem ni_dL_law_3229 : decode cL_law 3229 = .ok (.ifCond .ne 15, 3) := by decide +kernel
theorem ni_dL_law_3244 : decode cL_law 3244 = .ok (.goto 73, 3) := by decide +kernel
theorem ni_dL_law_3247 : decode cL_law 3247 = .ok (.aload_n 1, 1) := by decide +kernel
theorem ni_dL_law_3248 : decode cL_law 3248 = .ok (.aload_n 0, 1) := by decide +kernel
theorem ni_dL_law_3249 : decode cL_law 3249 = .ok (.iload 5, 2) := by decide +kernel
theorem ni_dL_law_3251 : decode cL_law 3251 = .ok (.iconst 1, 1) := by decide +kernel
theorem ni_dL_law_3252 : decode cL_law 3252 = .ok (.iadd, 1) := by decide +kernel
theorem ni_dL_law_3253 : decode cL_law 3253 = .ok (.iaload, 1) := by decide +kernel
theorem ni_dL_law_3254 : decode cL_law 3254 = .ok (.aload_n 3, 1) := by decide +kernel
theorem ni_dL_law_3255 : decode cL_law 3255 = .ok (.invokestatic 324, 3) := by decide +kernel
theorem ni_dL_law_3258 : decode cL_law 3258 = .ok (.istore 6, 2) := by decide +kernel
theorem ni_dL_law_3260 : decode cL_law 3260 = .ok (.aload_n 2, 1) := by decide +kernel
theorem ni_dL_law_3261 : decode cL_law 3261 = .ok (.aload_n 0, 1) := by decide +kernel
theorem ni_dL_law_3262 : decode cL_law 3262 = .ok (.iload 5, 2) := by decide +kernel
theorem ni_dL_law_3264 : decode cL_law 3264 = .ok (.iconst 1, 1) := by decide +kernel
theorem ni_dL_law_3265 : decode cL_law 3265 = .ok (.iadd, 1) := by decide +kernel
theorem ni_dL_law_3266 : decode cL_law 3266 = .ok (.iaload, 1) := by decide +kernel
theorem ni_dL_law_3267 : decode cL_law 3267 = .ok (.invokevirtual 326, 3) := by decide +kernel
theorem ni_dL_law_3270 : decode cL_law 3270 = .ok (.istore 7, 2) := by decide +kernel
theorem ni_dL_law_3272 : decode cL_law 3272 = .ok (.aload_n 2, 1) := by decide +kernel
theorem ni_dL_law_3273 : decode cL_law 3273 = .ok (.invokevirtual 161, 3) := by decide +kernel
theorem ni_dL_law_3276 : decode cL_law 3276 = .ok (.iload 6, 2) := by decide +kernel
theorem ni_dL_law_3278 : decode cL_law 3278 = .ok (.if_icmp .eq 5, 3) := by decide +kernel
theorem ni_dL_law_3283 : decode cL_law 3283 = .ok (.iload 6, 2) := by decide +kernel
theorem ni_dL_law_3285 : decode cL_law 3285 = .ok (.ifCond .ne 15, 3) := by decide +kernel
theorem ni_dL_law_3288 : decode cL_law 3288 = .ok (.aload_n 3, 1) := by decide +kernel
theorem ni_dL_law_3289 : decode cL_law 3289 = .ok (.iconst 0, 1) := by decide +kernel
theorem ni_dL_law_3290 : decode cL_law 3290 = .ok (.laload, 1) := by decide +kernel
theorem ni_dL_law_3291 : decode cL_law 3291 = .ok (.iload 7, 2) := by decide +kernel
theorem ni_dL_law_3293 : decode cL_law 3293 = .ok (.i2l, 1) := by decide +kernel
theorem ni_dL_law_3294 : decode cL_law 3294 = .ok (.lcmp, 1) := by decide +kernel
theorem ni_dL_law_3295 : decode cL_law 3295 = .ok (.ifCond .eq 5, 3) := by decide +kernel
theorem ni_dL_law_3300 : decode cL_law 3300 = .ok (.goto 17, 3) := by decide +kernel
theorem ni_dL_law_3303 : decode cL_law 3303 = .ok (.aload_n 1, 1) := by decide +kernel
theorem ni_dL_law_3304 : decode cL_law 3304 = .ok (.invokevirtual 327, 3) := by decide +kernel
theorem ni_dL_law_3307 : decode cL_law 3307 = .ok (.aload_n 2, 1) := by decide +kernel
theorem ni_dL_law_3308 : decode cL_law 3308 = .ok (.invokevirtual 331, 3) := by decide +kernel
theorem ni_dL_law_3311 : decode cL_law 3311 = .ok (.lcmp, 1) := by decide +kernel
theorem ni_dL_law_3312 : decode cL_law 3312 = .ok (.ifCond .eq 5, 3) := by decide +kernel
theorem ni_dL_law_3317 : decode cL_law 3317 = .ok (.iinc 5 6, 3) := by decide +kernel
theorem ni_dL_law_3320 : decode cL_law 3320 = .ok (.goto (-3292), 3) := by decide +kernel
theorem ni_dL_law_3323 : decode cL_law 3323 = .ok (.iconst 1, 1) := by decide +kernel
theorem ni_dL_law_3324 : decode cL_law 3324 = .ok (.ireturn, 1) := by decide +kernel
