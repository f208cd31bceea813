/-! what the law's instructions are -/
theorem dL_law_3129 : decode cL_law 3129 = .ok (.aload_n 0, 1) := by decide +kernel
theorem dL_law_3130 : decode cL_law 3130 = .ok (.iload 5, 2) := by decide +kernel
theorem dL_law_3132 : decode cL_law 3132 = .ok (.iconst 1, 1) := by decide +kernel
theorem dL_law_3133 : decode cL_law 3133 = .ok (.iadd, 1) := by decide +kernel
theorem dL_law_3134 : decode cL_law 3134 = .ok (.iaload, 1) := by decide +kernel
theorem dL_law_3135 : decode cL_law 3135 = .ok (.aload_n 3, 1) := by decide +kernel
theorem dL_law_3136 : decode cL_law 3136 = .ok (.invokestatic 365, 3) := by decide +kernel
theorem dL_law_3139 : decode cL_law 3139 = .ok (.istore 6, 2) := by decide +kernel
theorem dL_law_3141 : decode cL_law 3141 = .ok (.aload_n 2, 1) := by decide +kernel
theorem dL_law_3142 : decode cL_law 3142 = .ok (.aload_n 0, 1) := by decide +kernel
theorem dL_law_3143 : decode cL_law 3143 = .ok (.iload 5, 2) := by decide +kernel
theorem dL_law_3145 : decode cL_law 3145 = .ok (.iconst 1, 1) := by decide +kernel
theorem dL_law_3146 : decode cL_law 3146 = .ok (.iadd, 1) := by decide +kernel
theorem dL_law_3147 : decode cL_law 3147 = .ok (.iaload, 1) := by decide +kernel
theorem dL_law_3148 : decode cL_law 3148 = .ok (.invokevirtual 367, 3) := by decide +kernel
theorem dL_law_3151 : decode cL_law 3151 = .ok (.istore 7, 2) := by decide +kernel
theorem dL_law_3153 : decode cL_law 3153 = .ok (.aload_n 2, 1) := by decide +kernel
theorem dL_law_3154 : decode cL_law 3154 = .ok (.invokevirtual 186, 3) := by decide +kernel
theorem dL_law_3157 : decode cL_law 3157 = .ok (.iload 6, 2) := by decide +kernel
theorem dL_law_3159 : decode cL_law 3159 = .ok (.if_icmp .eq 5, 3) := by decide +kernel
theorem dL_law_3162 : decode cL_law 3162 = .ok (.iconst 0, 1) := by decide +kernel
theorem dL_law_3163 : decode cL_law 3163 = .ok (.ireturn, 1) := by decide +kernel
theorem dL_law_3164 : decode cL_law 3164 = .ok (.iload 6, 2) := by decide +kernel
theorem dL_law_3166 : decode cL_law 3166 = .ok (.ifCond .ne 15, 3) := by decide +kernel
theorem dL_law_3169 : decode cL_law 3169 = .ok (.aload_n 3, 1) := by decide +kernel
theorem dL_law_3170 : decode cL_law 3170 = .ok (.iconst 0, 1) := by decide +kernel
theorem dL_law_3171 : decode cL_law 3171 = .ok (.laload, 1) := by decide +kernel
theorem dL_law_3172 : decode cL_law 3172 = .ok (.iload 7, 2) := by decide +kernel
theorem dL_law_3174 : decode cL_law 3174 = .ok (.i2l, 1) := by decide +kernel
theorem dL_law_3175 : decode cL_law 3175 = .ok (.lcmp, 1) := by decide +kernel
theorem dL_law_3176 : decode cL_law 3176 = .ok (.ifCond .eq 5, 3) := by decide +kernel
theorem dL_law_3179 : decode cL_law 3179 = .ok (.iconst 0, 1) := by decide +kernel
theorem dL_law_3180 : decode cL_law 3180 = .ok (.ireturn, 1) := by decide +kernel
theorem dL_law_3181 : decode cL_law 3181 = .ok (.goto 315, 3) := by decide +kernel
theorem dL_law_3184 : decode cL_law 3184 = .ok (.aload_n 1, 1) := by decide +kernel
theorem dL_law_3185 : decode cL_law 3185 = .ok (.aload_n 3, 1) := by decide +kernel
theorem dL_law_3186 : decode cL_law 3186 = .ok (.invokestatic 368, 3) := by decide +kernel
theorem dL_law_3189 : decode cL_law 3189 = .ok (.istore 6, 2) := by decide +kernel
theorem dL_law_3191 : decode cL_law 3191 = .ok (.aload_n 2, 1) := by decide +kernel
theorem dL_law_3192 : decode cL_law 3192 = .ok (.invokevirtual 370, 3) := by decide +kernel
theorem dL_law_3195 : decode cL_law 3195 = .ok (.istore 7, 2) := by decide +kernel
theorem dL_law_3197 : decode cL_law 3197 = .ok (.aload_n 2, 1) := by decide +kernel
theorem dL_law_3198 : decode cL_law 3198 = .ok (.invokevirtual 186, 3) := by decide +kernel
theorem dL_law_3201 : decode cL_law 3201 = .ok (.iload 6, 2) := by decide +kernel
theorem dL_law_3203 : decode cL_law 3203 = .ok (.if_icmp .eq 5, 3) := by decide +kernel
theorem dL_law_3206 : decode cL_law 3206 = .ok (.iconst 0, 1) := by decide +kernel
theorem dL_law_3207 : decode cL_law 3207 = .ok (.ireturn, 1) := by decide +kernel
theorem dL_law_3208 : decode cL_law 3208 = .ok (.iload 6, 2) := by decide +kernel
theorem dL_law_3210 : decode cL_law 3210 = .ok (.ifCond .ne 15, 3) := by decide +kernel
theorem dL_law_3213 : decode cL_law 3213 = .ok (.aload_n 3, 1) := by decide +kernel
theorem dL_law_3214 : decode cL_law 3214 = .ok (.iconst 0, 1) := by decide +kernel
theorem dL_law_3215 : decode cL_law 3215 = .ok (.laload, 1) := by decide +kernel
theorem dL_law_3216 : decode cL_law 3216 = .ok (.iload 7, 2) := by decide +kernel
theorem dL_law_3218 : decode cL_law 3218 = .ok (.i2l, 1) := by decide +kernel
theorem dL_law_3219 : decode cL_law 3219 = .ok (.lcmp, 1) := by decide +kernel
theorem dL_law_3220 : decode cL_law 3220 = .ok (.ifCond .eq 5, 3) := by decide +kernel
theorem dL_law_3223 : decode cL_law 3223 = .ok (.iconst 0, 1) := by decide +kernel
theorem dL_law_3224 : decode cL_law 3224 = .ok (.ireturn, 1) := by decide +kernel
theorem dL_law_3225 : decode cL_law 3225 = .ok (.goto 271, 3) := by decide +kernel
theorem dL_law_3228 : decode cL_law 3228 = .ok (.aload_n 1, 1) := by decide +kernel
theorem dL_law_3229 : decode cL_law 3229 = .ok (.aload_n 3, 1) := by decide +kernel
theorem dL_law_3230 : decode cL_law 3230 = .ok (.invokestatic 371, 3) := by decide +kernel
theorem dL_law_3233 : decode cL_law 3233 = .ok (.istore 6, 2) := by decide +kernel
theorem dL_law_3235 : decode cL_law 3235 = .ok (.aload_n 2, 1) := by decide +kernel
theorem dL_law_3236 : decode cL_law 3236 = .ok (.invokevirtual 373, 3) := by decide +kernel
theorem dL_law_3239 : decode cL_law 3239 = .ok (.istore 7, 2) := by decide +kernel
theorem dL_law_3241 : decode cL_law 3241 = .ok (.aload_n 2, 1) := by decide +kernel
theorem dL_law_3242 : decode cL_law 3242 = .ok (.invokevirtual 186, 3) := by decide +kernel
theorem dL_law_3245 : decode cL_law 3245 = .ok (.iload 6, 2) := by decide +kernel
theorem dL_law_3247 : decode cL_law 3247 = .ok (.if_icmp .eq 5, 3) := by decide +kernel
theorem dL_law_3250 : decode cL_law 3250 = .ok (.iconst 0, 1) := by decide +kernel
theorem dL_law_3251 : decode cL_law 3251 = .ok (.ireturn, 1) := by decide +kernel
theorem dL_law_3252 : decode cL_law 3252 = .ok (.iload 6, 2) := by decide +kernel
theorem dL_law_3254 : decode cL_law 3254 = .ok (.ifCond .ne 15, 3) := by decide +kernel
theorem dL_law_3257 : decode cL_law 3257 = .ok (.aload_n 3, 1) := by decide +kernel
theorem dL_law_3258 : decode cL_law 3258 = .ok (.iconst 0, 1) := by decide +kernel
theorem dL_law_3259 : decode cL_law 3259 = .ok (.laload, 1) := by decide +kernel
theorem dL_law_3260 : decode cL_law 3260 = .ok (.iload 7, 2) := by decide +kernel
theorem dL_law_3262 : decode cL_law 3262 = .ok (.i2l, 1) := by decide +kernel
theorem dL_law_3263 : decode cL_law 3263 = .ok (.lcmp, 1) := by decide +kernel
theorem dL_law_3264 : decode cL_law 3264 = .ok (.ifCond .eq 5, 3) := by decide +kernel
theorem dL_law_3267 : decode cL_law 3267 = .ok (.iconst 0, 1) := by decide +kernel
theorem dL_law_3268 : decode cL_law 3268 = .ok (.ireturn, 1) := by decide +kernel
theorem dL_law_3269 : decode cL_law 3269 = .ok (.goto 227, 3) := by decide +kernel
theorem dL_law_3272 : decode cL_law 3272 = .ok (.aload_n 1, 1) := by decide +kernel
theorem dL_law_3273 : decode cL_law 3273 = .ok (.aload_n 0, 1) := by decide +kernel
theorem dL_law_3274 : decode cL_law 3274 = .ok (.iload 5, 2) := by decide +kernel
theorem dL_law_3276 : decode cL_law 3276 = .ok (.iconst 1, 1) := by decide +kernel
theorem dL_law_3277 : decode cL_law 3277 = .ok (.iadd, 1) := by decide +kernel
theorem dL_law_3278 : decode cL_law 3278 = .ok (.iaload, 1) := by decide +kernel
theorem dL_law_3279 : decode cL_law 3279 = .ok (.aload_n 3, 1) := by decide +kernel
theorem dL_law_3280 : decode cL_law 3280 = .ok (.invokestatic 374, 3) := by decide +kernel
theorem dL_law_3283 : decode cL_law 3283 = .ok (.istore 6, 2) := by decide +kernel
theorem dL_law_3285 : decode cL_law 3285 = .ok (.aload_n 2, 1) := by decide +kernel
theorem dL_law_3286 : decode cL_law 3286 = .ok (.aload_n 0, 1) := by decide +kernel
theorem dL_law_3287 : decode cL_law 3287 = .ok (.iload 5, 2) := by decide +kernel
theorem dL_law_3289 : decode cL_law 3289 = .ok (.iconst 1, 1) := by decide +kernel
theorem dL_law_3290 : decode cL_law 3290 = .ok (.iadd, 1) := by decide +kernel
theorem dL_law_3291 : decode cL_law 3291 = .ok (.iaload, 1) := by decide +kernel
theorem dL_law_3292 : decode cL_law 3292 = .ok (.invokevirtual 376, 3) := by decide +kernel
theorem dL_law_3295 : decode cL_law 3295 = .ok (.istore 7, 2) := by decide +kernel
theorem dL_law_3297 : decode cL_law 3297 = .ok (.aload_n 2, 1) := by decide +kernel
theorem dL_law_3298 : decode cL_law 3298 = .ok (.invokevirtual 186, 3) := by decide +kernel
theorem dL_law_3301 : decode cL_law 3301 = .ok (.iload 6, 2) := by decide +kernel
theorem dL_law_3303 : decode cL_law 3303 = .ok (.if_icmp .eq 5, 3) := by decide +kernel
theorem dL_law_3306 : decode cL_law 3306 = .ok (.iconst 0, 1) := by decide +kernel
theorem dL_law_3307 : decode cL_law 3307 = .ok (.ireturn, 1) := by decide +kernel
theorem dL_law_3308 : decode cL_law 3308 = .ok (.iload 6, 2) := by decide +kernel
theorem dL_law_3310 : decode cL_law 3310 = .ok (.ifCond .ne 15, 3) := by decide +kernel
theorem dL_law_3313 : decode cL_law 3313 = .ok (.aload_n 3, 1) := by decide +kernel
theorem dL_law_3314 : decode cL_law 3314 = .ok (.iconst 0, 1) := by decide +kernel
theorem dL_law_3315 : decode cL_law 3315 = .ok (.laload, 1) := by decide +kernel
theorem dL_law_3316 : decode cL_law 3316 = .ok (.iload 7, 2) := by decide +kernel
theorem dL_law_3318 : decode cL_law 3318 = .ok (.i2l, 1) := by decide +kernel
theorem dL_law_3319 : decode cL_law 3319 = .ok (.lcmp, 1) := by decide +kernel
theorem dL_law_3320 : decode cL_law 3320 = .ok (.ifCond .eq 5, 3) := by decide +kernel
theorem dL_law_3323 : decode cL_law 3323 = .ok (.iconst 0, 1) := by decide +kernel
theorem dL_law_3324 : decode cL_law 3324 = .ok (.ireturn, 1) := by decide +kernel
theorem dL_law_3325 : decode cL_law 3325 = .ok (.goto 171, 3) := by decide +kernel
theorem dL_law_3328 : decode cL_law 3328 = .ok (.aload_n 1, 1) := by decide +kernel
theorem dL_law_3329 : decode cL_law 3329 = .ok (.aload_n 0, 1) := by decide +kernel
theorem dL_law_3330 : decode cL_law 3330 = .ok (.iload 5, 2) := by decide +kernel
theorem dL_law_3332 : decode cL_law 3332 = .ok (.iconst 1, 1) := by decide +kernel
theorem dL_law_3333 : decode cL_law 3333 = .ok (.iadd, 1) := by decide +kernel
theorem dL_law_3334 : decode cL_law 3334 = .ok (.iaload, 1) := by decide +kernel
theorem dL_law_3335 : decode cL_law 3335 = .ok (.aload_n 3, 1) := by decide +kernel
theorem dL_law_3336 : decode cL_law 3336 = .ok (.invokestatic 377, 3) := by decide +kernel
theorem dL_law_3339 : decode cL_law 3339 = .ok (.istore 6, 2) := by decide +kernel
theorem dL_law_3341 : decode cL_law 3341 = .ok (.aload_n 2, 1) := by decide +kernel
theorem dL_law_3342 : decode cL_law 3342 = .ok (.aload_n 0, 1) := by decide +kernel
theorem dL_law_3343 : decode cL_law 3343 = .ok (.iload 5, 2) := by decide +kernel
theorem dL_law_3345 : decode cL_law 3345 = .ok (.iconst 1, 1) := by decide +kernel
theorem dL_law_3346 : decode cL_law 3346 = .ok (.iadd, 1) := by decide +kernel
theorem dL_law_3347 : decode cL_law 3347 = .ok (.iaload, 1) := by decide +kernel
theorem dL_law_3348 : decode cL_law 3348 = .ok (.invokevirtual 379, 3) := by decide +kernel
theorem dL_law_3351 : decode cL_law 3351 = .ok (.istore 7, 2) := by decide +kernel
theorem dL_law_3353 : decode cL_law 3353 = .ok (.aload_n 2, 1) := by decide +kernel
theorem dL_law_3354 : decode cL_law 3354 = .ok (.invokevirtual 186, 3) := by decide +kernel
theorem dL_law_3357 : decode cL_law 3357 = .ok (.iload 6, 2) := by decide +kernel
theorem dL_law_3359 : decode cL_law 3359 = .ok (.if_icmp .eq 5, 3) := by decide +kernel
theorem dL_law_3362 : decode cL_law 3362 = .ok (.iconst 0, 1) := by decide +kernel
theorem dL_law_3363 : decode cL_law 3363 = .ok (.ireturn, 1) := by decide +kernel
theorem dL_law_3364 : decode cL_law 3364 = .ok (.iload 6, 2) := by decide +kernel
theorem dL_law_3366 : decode cL_law 3366 = .ok (.ifCond .ne 15, 3) := by decide +kernel
theorem dL_law_3369 : decode cL_law 3369 = .ok (.aload_n 3, 1) := by decide +kernel
theorem dL_law_3370 : decode cL_law 3370 = .ok (.iconst 0, 1) := by decide +kernel
theorem dL_law_3371 : decode cL_law 3371 = .ok (.laload, 1) := by decide +kernel
theorem dL_law_3372 : decode cL_law 3372 = .ok (.iload 7, 2) := by decide +kernel
theorem dL_law_3374 : decode cL_law 3374 = .ok (.i2l, 1) := by decide +kernel
theorem dL_law_3375 : decode cL_law 3375 = .ok (.lcmp, 1) := by decide +kernel
theorem dL_law_3376 : decode cL_law 3376 = .ok (.ifCond .eq 5, 3) := by decide +kernel
theorem dL_law_3379 : decode cL_law 3379 = .ok (.iconst 0, 1) := by decide +kernel
theorem dL_law_3380 : decode cL_law 3380 = .ok (.ireturn, 1) := by decide +kernel
theorem dL_law_3381 : decode cL_law 3381 = .ok (.goto 115, 3) := by decide +kernel
theorem dL_law_3384 : decode cL_law 3384 = .ok (.aload_n 1, 1) := by decide +kernel
theorem dL_law_3385 : decode cL_law 3385 = .ok (.aload_n 0, 1) := by decide +kernel
theorem dL_law_3386 : decode cL_law 3386 = .ok (.iload 5, 2) := by decide +kernel
theorem dL_law_3388 : decode cL_law 3388 = .ok (.iconst 1, 1) := by decide +kernel
theorem dL_law_3389 : decode cL_law 3389 = .ok (.iadd, 1) := by decide +kernel
theorem dL_law_3390 : decode cL_law 3390 = .ok (.iaload, 1) := by decide +kernel
theorem dL_law_3391 : decode cL_law 3391 = .ok (.aload_n 3, 1) := by decide +kernel
theorem dL_law_3392 : decode cL_law 3392 = .ok (.invokestatic 380, 3) := by decide +kernel
theorem dL_law_3395 : decode cL_law 3395 = .ok (.istore 6, 2) := by decide +kernel
theorem dL_law_3397 : decode cL_law 3397 = .ok (.aload_n 2, 1) := by decide +kernel
theorem dL_law_3398 : decode cL_law 3398 = .ok (.aload_n 0, 1) := by decide +kernel
theorem dL_law_3399 : decode cL_law 3399 = .ok (.iload 5, 2) := by decide +kernel
theorem dL_law_3401 : decode cL_law 3401 = .ok (.iconst 1, 1) := by decide +kernel
theorem dL_law_3402 : decode cL_law 3402 = .ok (.iadd, 1) := by decide +kernel
theorem dL_law_3403 : decode cL_law 3403 = .ok (.iaload, 1) := by decide +kernel
theorem dL_law_3404 : decode cL_law 3404 = .ok (.invokevirtual 382, 3) := by decide +kernel
theorem dL_law_3407 : decode cL_law 3407 = .ok (.istore 7, 2) := by decide +kernel
theorem dL_law_3409 : decode cL_law 3409 = .ok (.aload_n 2, 1) := by decide +kernel
theorem dL_law_3410 : decode cL_law 3410 = .ok (.invokevirtual 186, 3) := by decide +kernel
theorem dL_law_3413 : decode cL_law 3413 = .ok (.iload 6, 2) := by decide +kernel
theorem dL_law_3415 : decode cL_law 3415 = .ok (.if_icmp .eq 5, 3) := by decide +kernel
theorem dL_law_3418 : decode cL_law 3418 = .ok (.iconst 0, 1) := by decide +kernel
theorem dL_law_3419 : decode cL_law 3419 = .ok (.ireturn, 1) := by decide +kernel
theorem dL_law_3420 : decode cL_law 3420 = .ok (.iload 6, 2) := by decide +kernel
theorem dL_law_3422 : decode cL_law 3422 = .ok (.ifCond .ne 15, 3) := by decide +kernel
theorem dL_law_3425 : decode cL_law 3425 = .ok (.aload_n 3, 1) := by decide +kernel
theorem dL_law_3426 : decode cL_law 3426 = .ok (.iconst 0, 1) := by decide +kernel
theorem dL_law_3427 : decode cL_law 3427 = .ok (.laload, 1) := by decide +kernel
theorem dL_law_3428 : decode cL_law 3428 = .ok (.iload 7, 2) := by decide +kernel
theorem dL_law_3430 : decode cL_law 3430 = .ok (.i2l, 1) := by decide +kernel
theorem dL_law_3431 : decode cL_law 3431 = .ok (.lcmp, 1) := by decide +kernel
theorem dL_law_3432 : decode cL_law 3432 = .ok (.ifCond .eq 5, 3) := by decide +kernel
theorem dL_law_3435 : decode cL_law 3435 = .ok (.iconst 0, 1) := by decide +kernel
theorem dL_law_3436 : decode cL_law 3436 = .ok (.ireturn, 1) := by decide +kernel
theorem dL_law_3437 : decode cL_law 3437 = .ok (.goto 59, 3) := by decide +kernel
theorem dL_law_3440 : decode cL_law 3440 = .ok (.aload_n 1, 1) := by decide +kernel
theorem dL_law_3441 : decode cL_law 3441 = .ok (.aload_n 0, 1) := by decide +kernel
theorem dL_law_3442 : decode cL_law 3442 = .ok (.iload 5, 2) := by decide +kernel
theorem dL_law_3444 : decode cL_law 3444 = .ok (.iconst 1, 1) := by decide +kernel
theorem dL_law_3445 : decode cL_law 3445 = .ok (.iadd, 1) := by decide +kernel
theorem dL_law_3446 : decode cL_law 3446 = .ok (.iaload, 1) := by decide +kernel
theorem dL_law_3447 : decode cL_law 3447 = .ok (.aload_n 3, 1) := by decide +kernel
theorem dL_law_3448 : decode cL_law 3448 = .ok (.invokestatic 383, 3) := by decide +kernel
theorem dL_law_3451 : decode cL_law 3451 = .ok (.istore 6, 2) := by decide +kernel
theorem dL_law_3453 : decode cL_law 3453 = .ok (.aload_n 2, 1) := by decide +kernel
theorem dL_law_3454 : decode cL_law 3454 = .ok (.aload_n 0, 1) := by decide +kernel
theorem dL_law_3455 : decode cL_law 3455 = .ok (.iload 5, 2) := by decide +kernel
theorem dL_law_3457 : decode cL_law 3457 = .ok (.iconst 1, 1) := by decide +kernel
theorem dL_law_3458 : decode cL_law 3458 = .ok (.iadd, 1) := by decide +kernel
theorem dL_law_3459 : decode cL_law 3459 = .ok (.iaload, 1) := by decide +kernel
theorem dL_law_3460 : decode cL_law 3460 = .ok (.invokevirtual 385, 3) := by decide +kernel
theorem dL_law_3463 : decode cL_law 3463 = .ok (.istore 7, 2) := by decide +kernel
theorem dL_law_3465 : decode cL_law 3465 = .ok (.aload_n 2, 1) := by decide +kernel
theorem dL_law_3466 : decode cL_law 3466 = .ok (.invokevirtual 186, 3) := by decide +kernel
theorem dL_law_3469 : decode cL_law 3469 = .ok (.iload 6, 2) := by decide +kernel
theorem dL_law_3471 : decode cL_law 3471 = .ok (.if_icmp .eq 5, 3) := by decide +kernel
theorem dL_law_3474 : decode cL_law 3474 = .ok (.iconst 0, 1) := by decide +kernel
theorem dL_law_3475 : decode cL_law 3475 = .ok (.ireturn, 1) := by decide +kernel
theorem dL_law_3476 : decode cL_law 3476 = .ok (.iload 6, 2) := by decide +kernel
theorem dL_law_3478 : decode cL_law 3478 = .ok (.ifCond .ne 15, 3) := by decide +kernel
theorem dL_law_3481 : decode cL_law 3481 = .ok (.aload_n 3, 1) := by decide +kernel
theorem dL_law_3482 : decode cL_law 3482 = .ok (.iconst 0, 1) := by decide +kernel
theorem dL_law_3483 : decode cL_law 3483 = .ok (.laload, 1) := by decide +kernel
theorem dL_law_3484 : decode cL_law 3484 = .ok (.iload 7, 2) := by decide +kernel
theorem dL_law_3486 : decode cL_law 3486 = .ok (.i2l, 1) := by decide +kernel
theorem dL_law_3487 : decode cL_law 3487 = .ok (.lcmp, 1) := by decide +kernel
theorem dL_law_3488 : decode cL_law 3488 = .ok (.ifCond .eq 5, 3) := by decide +kernel
theorem dL_law_3491 : decode cL_law 3491 = .ok (.iconst 0, 1) := by decide +kernel
theorem dL_law_3492 : decode cL_law 3492 = .ok (.ireturn, 1) := by decide +kernel
theorem dL_law_3493 : decode cL_law 3493 = .ok (.goto 3, 3) := by decide +kernel
theorem dL_law_3496 : decode cL_law 3496 = .ok (.iinc 5 6, 3) := by decide +kernel
theorem dL_law_3499 : decode cL_law 3499 = .ok (.goto (-3471), 3) := by decide +kernel
theorem dL_law_3502 : decode cL_law 3502 = .ok (.iconst 1, 1) := by decide +kernel
theorem dL_law_3503 : decode cL_law 3503 = .ok (.ireturn, 1) := by decide +kernel
