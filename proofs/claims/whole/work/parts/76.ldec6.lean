theorem dL_law_3129 : decode cL_law 3129 = .ok (.iadd, 1) := by decide +kernel
theorem dL_law_3130 : decode cL_law 3130 = .ok (.iaload, 1) := by decide +kernel
theorem dL_law_3131 : decode cL_law 3131 = .ok (.aload_n 0, 1) := by decide +kernel
theorem dL_law_3132 : decode cL_law 3132 = .ok (.iload 4, 2) := by decide +kernel
theorem dL_law_3134 : decode cL_law 3134 = .ok (.iconst 2, 1) := by decide +kernel
theorem dL_law_3135 : decode cL_law 3135 = .ok (.iadd, 1) := by decide +kernel
theorem dL_law_3136 : decode cL_law 3136 = .ok (.iaload, 1) := by decide +kernel
theorem dL_law_3137 : decode cL_law 3137 = .ok (.aload_n 3, 1) := by decide +kernel
theorem dL_law_3138 : decode cL_law 3138 = .ok (.invokestatic 365, 3) := by decide +kernel
theorem dL_law_3141 : decode cL_law 3141 = .ok (.istore 5, 2) := by decide +kernel
theorem dL_law_3143 : decode cL_law 3143 = .ok (.aload_n 2, 1) := by decide +kernel
theorem dL_law_3144 : decode cL_law 3144 = .ok (.aload_n 0, 1) := by decide +kernel
theorem dL_law_3145 : decode cL_law 3145 = .ok (.iload 4, 2) := by decide +kernel
theorem dL_law_3147 : decode cL_law 3147 = .ok (.iconst 1, 1) := by decide +kernel
theorem dL_law_3148 : decode cL_law 3148 = .ok (.iadd, 1) := by decide +kernel
theorem dL_law_3149 : decode cL_law 3149 = .ok (.iaload, 1) := by decide +kernel
theorem dL_law_3150 : decode cL_law 3150 = .ok (.aload_n 0, 1) := by decide +kernel
theorem dL_law_3151 : decode cL_law 3151 = .ok (.iload 4, 2) := by decide +kernel
theorem dL_law_3153 : decode cL_law 3153 = .ok (.iconst 2, 1) := by decide +kernel
theorem dL_law_3154 : decode cL_law 3154 = .ok (.iadd, 1) := by decide +kernel
theorem dL_law_3155 : decode cL_law 3155 = .ok (.iaload, 1) := by decide +kernel
theorem dL_law_3156 : decode cL_law 3156 = .ok (.invokevirtual 367, 3) := by decide +kernel
theorem dL_law_3159 : decode cL_law 3159 = .ok (.istore 6, 2) := by decide +kernel
theorem dL_law_3161 : decode cL_law 3161 = .ok (.aload_n 2, 1) := by decide +kernel
theorem dL_law_3162 : decode cL_law 3162 = .ok (.invokevirtual 209, 3) := by decide +kernel
theorem dL_law_3165 : decode cL_law 3165 = .ok (.iload 5, 2) := by decide +kernel
theorem dL_law_3167 : decode cL_law 3167 = .ok (.if_icmp .eq 5, 3) := by decide +kernel
theorem dL_law_3170 : decode cL_law 3170 = .ok (.iconst 0, 1) := by decide +kernel
theorem dL_law_3171 : decode cL_law 3171 = .ok (.ireturn, 1) := by decide +kernel
theorem dL_law_3172 : decode cL_law 3172 = .ok (.iload 5, 2) := by decide +kernel
theorem dL_law_3174 : decode cL_law 3174 = .ok (.ifCond .ne 15, 3) := by decide +kernel
theorem dL_law_3177 : decode cL_law 3177 = .ok (.aload_n 3, 1) := by decide +kernel
theorem dL_law_3178 : decode cL_law 3178 = .ok (.iconst 0, 1) := by decide +kernel
theorem dL_law_3179 : decode cL_law 3179 = .ok (.laload, 1) := by decide +kernel
theorem dL_law_3180 : decode cL_law 3180 = .ok (.iload 6, 2) := by decide +kernel
theorem dL_law_3182 : decode cL_law 3182 = .ok (.i2l, 1) := by decide +kernel
theorem dL_law_3183 : decode cL_law 3183 = .ok (.lcmp, 1) := by decide +kernel
theorem dL_law_3184 : decode cL_law 3184 = .ok (.ifCond .eq 5, 3) := by decide +kernel
theorem dL_law_3187 : decode cL_law 3187 = .ok (.iconst 0, 1) := by decide +kernel
theorem dL_law_3188 : decode cL_law 3188 = .ok (.ireturn, 1) := by decide +kernel
theorem dL_law_3189 : decode cL_law 3189 = .ok (.goto 879, 3) := by decide +kernel
theorem dL_law_3192 : decode cL_law 3192 = .ok (.aload_n 1, 1) := by decide +kernel
theorem dL_law_3193 : decode cL_law 3193 = .ok (.aload_n 0, 1) := by decide +kernel
theorem dL_law_3194 : decode cL_law 3194 = .ok (.iload 4, 2) := by decide +kernel
theorem dL_law_3196 : decode cL_law 3196 = .ok (.iconst 1, 1) := by decide +kernel
theorem dL_law_3197 : decode cL_law 3197 = .ok (.iadd, 1) := by decide +kernel
theorem dL_law_3198 : decode cL_law 3198 = .ok (.iaload, 1) := by decide +kernel
theorem dL_law_3199 : decode cL_law 3199 = .ok (.aload_n 0, 1) := by decide +kernel
theorem dL_law_3200 : decode cL_law 3200 = .ok (.iload 4, 2) := by decide +kernel
theorem dL_law_3202 : decode cL_law 3202 = .ok (.iconst 2, 1) := by decide +kernel
theorem dL_law_3203 : decode cL_law 3203 = .ok (.iadd, 1) := by decide +kernel
theorem dL_law_3204 : decode cL_law 3204 = .ok (.iaload, 1) := by decide +kernel
theorem dL_law_3205 : decode cL_law 3205 = .ok (.aload_n 3, 1) := by decide +kernel
theorem dL_law_3206 : decode cL_law 3206 = .ok (.invokestatic 368, 3) := by decide +kernel
theorem dL_law_3209 : decode cL_law 3209 = .ok (.istore 5, 2) := by decide +kernel
theorem dL_law_3211 : decode cL_law 3211 = .ok (.aload_n 2, 1) := by decide +kernel
theorem dL_law_3212 : decode cL_law 3212 = .ok (.aload_n 0, 1) := by decide +kernel
theorem dL_law_3213 : decode cL_law 3213 = .ok (.iload 4, 2) := by decide +kernel
theorem dL_law_3215 : decode cL_law 3215 = .ok (.iconst 1, 1) := by decide +kernel
theorem dL_law_3216 : decode cL_law 3216 = .ok (.iadd, 1) := by decide +kernel
theorem dL_law_3217 : decode cL_law 3217 = .ok (.iaload, 1) := by decide +kernel
theorem dL_law_3218 : decode cL_law 3218 = .ok (.aload_n 0, 1) := by decide +kernel
theorem dL_law_3219 : decode cL_law 3219 = .ok (.iload 4, 2) := by decide +kernel
theorem dL_law_3221 : decode cL_law 3221 = .ok (.iconst 2, 1) := by decide +kernel
theorem dL_law_3222 : decode cL_law 3222 = .ok (.iadd, 1) := by decide +kernel
theorem dL_law_3223 : decode cL_law 3223 = .ok (.iaload, 1) := by decide +kernel
theorem dL_law_3224 : decode cL_law 3224 = .ok (.invokevirtual 370, 3) := by decide +kernel
theorem dL_law_3227 : decode cL_law 3227 = .ok (.istore 6, 2) := by decide +kernel
theorem dL_law_3229 : decode cL_law 3229 = .ok (.aload_n 2, 1) := by decide +kernel
theorem dL_law_3230 : decode cL_law 3230 = .ok (.invokevirtual 209, 3) := by decide +kernel
theorem dL_law_3233 : decode cL_law 3233 = .ok (.iload 5, 2) := by decide +kernel
theorem dL_law_3235 : decode cL_law 3235 = .ok (.if_icmp .eq 5, 3) := by decide +kernel
theorem dL_law_3238 : decode cL_law 3238 = .ok (.iconst 0, 1) := by decide +kernel
theorem dL_law_3239 : decode cL_law 3239 = .ok (.ireturn, 1) := by decide +kernel
theorem dL_law_3240 : decode cL_law 3240 = .ok (.iload 5, 2) := by decide +kernel
theorem dL_law_3242 : decode cL_law 3242 = .ok (.ifCond .ne 15, 3) := by decide +kernel
theorem dL_law_3245 : decode cL_law 3245 = .ok (.aload_n 3, 1) := by decide +kernel
theorem dL_law_3246 : decode cL_law 3246 = .ok (.iconst 0, 1) := by decide +kernel
theorem dL_law_3247 : decode cL_law 3247 = .ok (.laload, 1) := by decide +kernel
theorem dL_law_3248 : decode cL_law 3248 = .ok (.iload 6, 2) := by decide +kernel
theorem dL_law_3250 : decode cL_law 3250 = .ok (.i2l, 1) := by decide +kernel
theorem dL_law_3251 : decode cL_law 3251 = .ok (.lcmp, 1) := by decide +kernel
theorem dL_law_3252 : decode cL_law 3252 = .ok (.ifCond .eq 5, 3) := by decide +kernel
theorem dL_law_3255 : decode cL_law 3255 = .ok (.iconst 0, 1) := by decide +kernel
theorem dL_law_3256 : decode cL_law 3256 = .ok (.ireturn, 1) := by decide +kernel
theorem dL_law_3257 : decode cL_law 3257 = .ok (.goto 811, 3) := by decide +kernel
theorem dL_law_3260 : decode cL_law 3260 = .ok (.aload_n 1, 1) := by decide +kernel
theorem dL_law_3261 : decode cL_law 3261 = .ok (.aload_n 0, 1) := by decide +kernel
theorem dL_law_3262 : decode cL_law 3262 = .ok (.iload 4, 2) := by decide +kernel
theorem dL_law_3264 : decode cL_law 3264 = .ok (.iconst 1, 1) := by decide +kernel
theorem dL_law_3265 : decode cL_law 3265 = .ok (.iadd, 1) := by decide +kernel
theorem dL_law_3266 : decode cL_law 3266 = .ok (.iaload, 1) := by decide +kernel
theorem dL_law_3267 : decode cL_law 3267 = .ok (.aload_n 0, 1) := by decide +kernel
theorem dL_law_3268 : decode cL_law 3268 = .ok (.iload 4, 2) := by decide +kernel
theorem dL_law_3270 : decode cL_law 3270 = .ok (.iconst 2, 1) := by decide +kernel
theorem dL_law_3271 : decode cL_law 3271 = .ok (.iadd, 1) := by decide +kernel
theorem dL_law_3272 : decode cL_law 3272 = .ok (.iaload, 1) := by decide +kernel
theorem dL_law_3273 : decode cL_law 3273 = .ok (.aload_n 0, 1) := by decide +kernel
theorem dL_law_3274 : decode cL_law 3274 = .ok (.iload 4, 2) := by decide +kernel
theorem dL_law_3276 : decode cL_law 3276 = .ok (.iconst 3, 1) := by decide +kernel
theorem dL_law_3277 : decode cL_law 3277 = .ok (.iadd, 1) := by decide +kernel
theorem dL_law_3278 : decode cL_law 3278 = .ok (.iaload, 1) := by decide +kernel
theorem dL_law_3279 : decode cL_law 3279 = .ok (.ifCond .eq 7, 3) := by decide +kernel
theorem dL_law_3282 : decode cL_law 3282 = .ok (.iconst 1, 1) := by decide +kernel
theorem dL_law_3283 : decode cL_law 3283 = .ok (.goto 4, 3) := by decide +kernel
theorem dL_law_3286 : decode cL_law 3286 = .ok (.iconst 0, 1) := by decide +kernel
theorem dL_law_3287 : decode cL_law 3287 = .ok (.aload_n 3, 1) := by decide +kernel
theorem dL_law_3288 : decode cL_law 3288 = .ok (.invokestatic 371, 3) := by decide +kernel
theorem dL_law_3291 : decode cL_law 3291 = .ok (.istore 5, 2) := by decide +kernel
theorem dL_law_3293 : decode cL_law 3293 = .ok (.aload_n 2, 1) := by decide +kernel
theorem dL_law_3294 : decode cL_law 3294 = .ok (.aload_n 0, 1) := by decide +kernel
theorem dL_law_3295 : decode cL_law 3295 = .ok (.iload 4, 2) := by decide +kernel
theorem dL_law_3297 : decode cL_law 3297 = .ok (.iconst 1, 1) := by decide +kernel
theorem dL_law_3298 : decode cL_law 3298 = .ok (.iadd, 1) := by decide +kernel
theorem dL_law_3299 : decode cL_law 3299 = .ok (.iaload, 1) := by decide +kernel
theorem dL_law_3300 : decode cL_law 3300 = .ok (.aload_n 0, 1) := by decide +kernel
theorem dL_law_3301 : decode cL_law 3301 = .ok (.iload 4, 2) := by decide +kernel
theorem dL_law_3303 : decode cL_law 3303 = .ok (.iconst 2, 1) := by decide +kernel
theorem dL_law_3304 : decode cL_law 3304 = .ok (.iadd, 1) := by decide +kernel
theorem dL_law_3305 : decode cL_law 3305 = .ok (.iaload, 1) := by decide +kernel
theorem dL_law_3306 : decode cL_law 3306 = .ok (.aload_n 0, 1) := by decide +kernel
theorem dL_law_3307 : decode cL_law 3307 = .ok (.iload 4, 2) := by decide +kernel
theorem dL_law_3309 : decode cL_law 3309 = .ok (.iconst 3, 1) := by decide +kernel
theorem dL_law_3310 : decode cL_law 3310 = .ok (.iadd, 1) := by decide +kernel
theorem dL_law_3311 : decode cL_law 3311 = .ok (.iaload, 1) := by decide +kernel
theorem dL_law_3312 : decode cL_law 3312 = .ok (.ifCond .eq 7, 3) := by decide +kernel
theorem dL_law_3315 : decode cL_law 3315 = .ok (.iconst 1, 1) := by decide +kernel
theorem dL_law_3316 : decode cL_law 3316 = .ok (.goto 4, 3) := by decide +kernel
theorem dL_law_3319 : decode cL_law 3319 = .ok (.iconst 0, 1) := by decide +kernel
theorem dL_law_3320 : decode cL_law 3320 = .ok (.invokevirtual 374, 3) := by decide +kernel
theorem dL_law_3323 : decode cL_law 3323 = .ok (.istore 6, 2) := by decide +kernel
theorem dL_law_3325 : decode cL_law 3325 = .ok (.aload_n 2, 1) := by decide +kernel
theorem dL_law_3326 : decode cL_law 3326 = .ok (.invokevirtual 209, 3) := by decide +kernel
theorem dL_law_3329 : decode cL_law 3329 = .ok (.iload 5, 2) := by decide +kernel
theorem dL_law_3331 : decode cL_law 3331 = .ok (.if_icmp .eq 5, 3) := by decide +kernel
theorem dL_law_3334 : decode cL_law 3334 = .ok (.iconst 0, 1) := by decide +kernel
theorem dL_law_3335 : decode cL_law 3335 = .ok (.ireturn, 1) := by decide +kernel
theorem dL_law_3336 : decode cL_law 3336 = .ok (.iload 5, 2) := by decide +kernel
theorem dL_law_3338 : decode cL_law 3338 = .ok (.ifCond .ne 15, 3) := by decide +kernel
theorem dL_law_3341 : decode cL_law 3341 = .ok (.aload_n 3, 1) := by decide +kernel
theorem dL_law_3342 : decode cL_law 3342 = .ok (.iconst 0, 1) := by decide +kernel
theorem dL_law_3343 : decode cL_law 3343 = .ok (.laload, 1) := by decide +kernel
theorem dL_law_3344 : decode cL_law 3344 = .ok (.iload 6, 2) := by decide +kernel
theorem dL_law_3346 : decode cL_law 3346 = .ok (.i2l, 1) := by decide +kernel
theorem dL_law_3347 : decode cL_law 3347 = .ok (.lcmp, 1) := by decide +kernel
theorem dL_law_3348 : decode cL_law 3348 = .ok (.ifCond .eq 5, 3) := by decide +kernel
theorem dL_law_3351 : decode cL_law 3351 = .ok (.iconst 0, 1) := by decide +kernel
theorem dL_law_3352 : decode cL_law 3352 = .ok (.ireturn, 1) := by decide +kernel
theorem dL_law_3353 : decode cL_law 3353 = .ok (.goto 715, 3) := by decide +kernel
theorem dL_law_3356 : decode cL_law 3356 = .ok (.aload_n 1, 1) := by decide +kernel
theorem dL_law_3357 : decode cL_law 3357 = .ok (.aload_n 0, 1) := by decide +kernel
theorem dL_law_3358 : decode cL_law 3358 = .ok (.iload 4, 2) := by decide +kernel
theorem dL_law_3360 : decode cL_law 3360 = .ok (.iconst 1, 1) := by decide +kernel
theorem dL_law_3361 : decode cL_law 3361 = .ok (.iadd, 1) := by decide +kernel
theorem dL_law_3362 : decode cL_law 3362 = .ok (.iaload, 1) := by decide +kernel
theorem dL_law_3363 : decode cL_law 3363 = .ok (.aload_n 0, 1) := by decide +kernel
theorem dL_law_3364 : decode cL_law 3364 = .ok (.iload 4, 2) := by decide +kernel
theorem dL_law_3366 : decode cL_law 3366 = .ok (.iconst 2, 1) := by decide +kernel
theorem dL_law_3367 : decode cL_law 3367 = .ok (.iadd, 1) := by decide +kernel
theorem dL_law_3368 : decode cL_law 3368 = .ok (.iaload, 1) := by decide +kernel
theorem dL_law_3369 : decode cL_law 3369 = .ok (.aload_n 3, 1) := by decide +kernel
theorem dL_law_3370 : decode cL_law 3370 = .ok (.invokestatic 375, 3) := by decide +kernel
theorem dL_law_3373 : decode cL_law 3373 = .ok (.istore 5, 2) := by decide +kernel
theorem dL_law_3375 : decode cL_law 3375 = .ok (.aload_n 2, 1) := by decide +kernel
theorem dL_law_3376 : decode cL_law 3376 = .ok (.aload_n 0, 1) := by decide +kernel
theorem dL_law_3377 : decode cL_law 3377 = .ok (.iload 4, 2) := by decide +kernel
theorem dL_law_3379 : decode cL_law 3379 = .ok (.iconst 1, 1) := by decide +kernel
theorem dL_law_3380 : decode cL_law 3380 = .ok (.iadd, 1) := by decide +kernel
theorem dL_law_3381 : decode cL_law 3381 = .ok (.iaload, 1) := by decide +kernel
theorem dL_law_3382 : decode cL_law 3382 = .ok (.aload_n 0, 1) := by decide +kernel
theorem dL_law_3383 : decode cL_law 3383 = .ok (.iload 4, 2) := by decide +kernel
theorem dL_law_3385 : decode cL_law 3385 = .ok (.iconst 2, 1) := by decide +kernel
theorem dL_law_3386 : decode cL_law 3386 = .ok (.iadd, 1) := by decide +kernel
theorem dL_law_3387 : decode cL_law 3387 = .ok (.iaload, 1) := by decide +kernel
theorem dL_law_3388 : decode cL_law 3388 = .ok (.invokevirtual 377, 3) := by decide +kernel
theorem dL_law_3391 : decode cL_law 3391 = .ok (.lstore 6, 2) := by decide +kernel
theorem dL_law_3393 : decode cL_law 3393 = .ok (.aload_n 2, 1) := by decide +kernel
theorem dL_law_3394 : decode cL_law 3394 = .ok (.invokevirtual 209, 3) := by decide +kernel
theorem dL_law_3397 : decode cL_law 3397 = .ok (.iload 5, 2) := by decide +kernel
theorem dL_law_3399 : decode cL_law 3399 = .ok (.if_icmp .eq 5, 3) := by decide +kernel
theorem dL_law_3402 : decode cL_law 3402 = .ok (.iconst 0, 1) := by decide +kernel
theorem dL_law_3403 : decode cL_law 3403 = .ok (.ireturn, 1) := by decide +kernel
theorem dL_law_3404 : decode cL_law 3404 = .ok (.iload 5, 2) := by decide +kernel
theorem dL_law_3406 : decode cL_law 3406 = .ok (.ifCond .ne 14, 3) := by decide +kernel
theorem dL_law_3409 : decode cL_law 3409 = .ok (.aload_n 3, 1) := by decide +kernel
theorem dL_law_3410 : decode cL_law 3410 = .ok (.iconst 0, 1) := by decide +kernel
theorem dL_law_3411 : decode cL_law 3411 = .ok (.laload, 1) := by decide +kernel
theorem dL_law_3412 : decode cL_law 3412 = .ok (.lload 6, 2) := by decide +kernel
theorem dL_law_3414 : decode cL_law 3414 = .ok (.lcmp, 1) := by decide +kernel
theorem dL_law_3415 : decode cL_law 3415 = .ok (.ifCond .eq 5, 3) := by decide +kernel
theorem dL_law_3418 : decode cL_law 3418 = .ok (.iconst 0, 1) := by decide +kernel
theorem dL_law_3419 : decode cL_law 3419 = .ok (.ireturn, 1) := by decide +kernel
theorem dL_law_3420 : decode cL_law 3420 = .ok (.goto 648, 3) := by decide +kernel
theorem dL_law_3423 : decode cL_law 3423 = .ok (.aload_n 1, 1) := by decide +kernel
theorem dL_law_3424 : decode cL_law 3424 = .ok (.aload_n 0, 1) := by decide +kernel
theorem dL_law_3425 : decode cL_law 3425 = .ok (.iload 4, 2) := by decide +kernel
theorem dL_law_3427 : decode cL_law 3427 = .ok (.iconst 1, 1) := by decide +kernel
theorem dL_law_3428 : decode cL_law 3428 = .ok (.iadd, 1) := by decide +kernel
theorem dL_law_3429 : decode cL_law 3429 = .ok (.iaload, 1) := by decide +kernel
theorem dL_law_3430 : decode cL_law 3430 = .ok (.aload_n 3, 1) := by decide +kernel
theorem dL_law_3431 : decode cL_law 3431 = .ok (.invokestatic 378, 3) := by decide +kernel
theorem dL_law_3434 : decode cL_law 3434 = .ok (.istore 5, 2) := by decide +kernel
theorem dL_law_3436 : decode cL_law 3436 = .ok (.aload_n 2, 1) := by decide +kernel
theorem dL_law_3437 : decode cL_law 3437 = .ok (.aload_n 0, 1) := by decide +kernel
theorem dL_law_3438 : decode cL_law 3438 = .ok (.iload 4, 2) := by decide +kernel
theorem dL_law_3440 : decode cL_law 3440 = .ok (.iconst 1, 1) := by decide +kernel
theorem dL_law_3441 : decode cL_law 3441 = .ok (.iadd, 1) := by decide +kernel
theorem dL_law_3442 : decode cL_law 3442 = .ok (.iaload, 1) := by decide +kernel
theorem dL_law_3443 : decode cL_law 3443 = .ok (.invokevirtual 380, 3) := by decide +kernel
theorem dL_law_3446 : decode cL_law 3446 = .ok (.istore 6, 2) := by decide +kernel
theorem dL_law_3448 : decode cL_law 3448 = .ok (.aload_n 2, 1) := by decide +kernel
theorem dL_law_3449 : decode cL_law 3449 = .ok (.invokevirtual 209, 3) := by decide +kernel
theorem dL_law_3452 : decode cL_law 3452 = .ok (.iload 5, 2) := by decide +kernel
theorem dL_law_3454 : decode cL_law 3454 = .ok (.if_icmp .eq 5, 3) := by decide +kernel
theorem dL_law_3457 : decode cL_law 3457 = .ok (.iconst 0, 1) := by decide +kernel
theorem dL_law_3458 : decode cL_law 3458 = .ok (.ireturn, 1) := by decide +kernel
theorem dL_law_3459 : decode cL_law 3459 = .ok (.iload 5, 2) := by decide +kernel
theorem dL_law_3461 : decode cL_law 3461 = .ok (.ifCond .ne 15, 3) := by decide +kernel
theorem dL_law_3464 : decode cL_law 3464 = .ok (.aload_n 3, 1) := by decide +kernel
theorem dL_law_3465 : decode cL_law 3465 = .ok (.iconst 0, 1) := by decide +kernel
theorem dL_law_3466 : decode cL_law 3466 = .ok (.laload, 1) := by decide +kernel
theorem dL_law_3467 : decode cL_law 3467 = .ok (.iload 6, 2) := by decide +kernel
theorem dL_law_3469 : decode cL_law 3469 = .ok (.i2l, 1) := by decide +kernel
theorem dL_law_3470 : decode cL_law 3470 = .ok (.lcmp, 1) := by decide +kernel
theorem dL_law_3471 : decode cL_law 3471 = .ok (.ifCond .eq 5, 3) := by decide +kernel
theorem dL_law_3474 : decode cL_law 3474 = .ok (.iconst 0, 1) := by decide +kernel
theorem dL_law_3475 : decode cL_law 3475 = .ok (.ireturn, 1) := by decide +kernel
theorem dL_law_3476 : decode cL_law 3476 = .ok (.goto 592, 3) := by decide +kernel
theorem dL_law_3479 : decode cL_law 3479 = .ok (.aload_n 1, 1) := by decide +kernel
theorem dL_law_3480 : decode cL_law 3480 = .ok (.aload_n 0, 1) := by decide +kernel
theorem dL_law_3481 : decode cL_law 3481 = .ok (.iload 4, 2) := by decide +kernel
theorem dL_law_3483 : decode cL_law 3483 = .ok (.iconst 1, 1) := by decide +kernel
theorem dL_law_3484 : decode cL_law 3484 = .ok (.iadd, 1) := by decide +kernel
theorem dL_law_3485 : decode cL_law 3485 = .ok (.iaload, 1) := by decide +kernel
theorem dL_law_3486 : decode cL_law 3486 = .ok (.aload_n 0, 1) := by decide +kernel
theorem dL_law_3487 : decode cL_law 3487 = .ok (.iload 4, 2) := by decide +kernel
theorem dL_law_3489 : decode cL_law 3489 = .ok (.iconst 2, 1) := by decide +kernel
theorem dL_law_3490 : decode cL_law 3490 = .ok (.iadd, 1) := by decide +kernel
theorem dL_law_3491 : decode cL_law 3491 = .ok (.iaload, 1) := by decide +kernel
theorem dL_law_3492 : decode cL_law 3492 = .ok (.aload_n 3, 1) := by decide +kernel
theorem dL_law_3493 : decode cL_law 3493 = .ok (.invokestatic 381, 3) := by decide +kernel
theorem dL_law_3496 : decode cL_law 3496 = .ok (.istore 5, 2) := by decide +kernel
theorem dL_law_3498 : decode cL_law 3498 = .ok (.aload_n 2, 1) := by decide +kernel
theorem dL_law_3499 : decode cL_law 3499 = .ok (.aload_n 0, 1) := by decide +kernel
theorem dL_law_3500 : decode cL_law 3500 = .ok (.iload 4, 2) := by decide +kernel
theorem dL_law_3502 : decode cL_law 3502 = .ok (.iconst 1, 1) := by decide +kernel
theorem dL_law_3503 : decode cL_law 3503 = .ok (.iadd, 1) := by decide +kernel
theorem dL_law_3504 : decode cL_law 3504 = .ok (.iaload, 1) := by decide +kernel
theorem dL_law_3505 : decode cL_law 3505 = .ok (.aload_n 0, 1) := by decide +kernel
theorem dL_law_3506 : decode cL_law 3506 = .ok (.iload 4, 2) := by decide +kernel
theorem dL_law_3508 : decode cL_law 3508 = .ok (.iconst 2, 1) := by decide +kernel
theorem dL_law_3509 : decode cL_law 3509 = .ok (.iadd, 1) := by decide +kernel
theorem dL_law_3510 : decode cL_law 3510 = .ok (.iaload, 1) := by decide +kernel
theorem dL_law_3511 : decode cL_law 3511 = .ok (.invokevirtual 383, 3) := by decide +kernel
theorem dL_law_3514 : decode cL_law 3514 = .ok (.istore 6, 2) := by decide +kernel
theorem dL_law_3516 : decode cL_law 3516 = .ok (.aload_n 2, 1) := by decide +kernel
theorem dL_law_3517 : decode cL_law 3517 = .ok (.invokevirtual 209, 3) := by decide +kernel
theorem dL_law_3520 : decode cL_law 3520 = .ok (.iload 5, 2) := by decide +kernel
theorem dL_law_3522 : decode cL_law 3522 = .ok (.if_icmp .eq 5, 3) := by decide +kernel
theorem dL_law_3525 : decode cL_law 3525 = .ok (.iconst 0, 1) := by decide +kernel
theorem dL_law_3526 : decode cL_law 3526 = .ok (.ireturn, 1) := by decide +kernel
theorem dL_law_3527 : decode cL_law 3527 = .ok (.iload 5, 2) := by decide +kernel
theorem dL_law_3529 : decode cL_law 3529 = .ok (.ifCond .ne 15, 3) := by decide +kernel
theorem dL_law_3532 : decode cL_law 3532 = .ok (.aload_n 3, 1) := by decide +kernel
theorem dL_law_3533 : decode cL_law 3533 = .ok (.iconst 0, 1) := by decide +kernel
theorem dL_law_3534 : decode cL_law 3534 = .ok (.laload, 1) := by decide +kernel
theorem dL_law_3535 : decode cL_law 3535 = .ok (.iload 6, 2) := by decide +kernel
theorem dL_law_3537 : decode cL_law 3537 = .ok (.i2l, 1) := by decide +kernel
theorem dL_law_3538 : decode cL_law 3538 = .ok (.lcmp, 1) := by decide +kernel
theorem dL_law_3539 : decode cL_law 3539 = .ok (.ifCond .eq 5, 3) := by decide +kernel
theorem dL_law_3542 : decode cL_law 3542 = .ok (.iconst 0, 1) := by decide +kernel
theorem dL_law_3543 : decode cL_law 3543 = .ok (.ireturn, 1) := by decide +kernel
theorem dL_law_3544 : decode cL_law 3544 = .ok (.goto 524, 3) := by decide +kernel
theorem dL_law_3547 : decode cL_law 3547 = .ok (.aload_n 1, 1) := by decide +kernel
theorem dL_law_3548 : decode cL_law 3548 = .ok (.aload_n 0, 1) := by decide +kernel
theorem dL_law_3549 : decode cL_law 3549 = .ok (.iload 4, 2) := by decide +kernel
theorem dL_law_3551 : decode cL_law 3551 = .ok (.iconst 1, 1) := by decide +kernel
theorem dL_law_3552 : decode cL_law 3552 = .ok (.iadd, 1) := by decide +kernel
theorem dL_law_3553 : decode cL_law 3553 = .ok (.iaload, 1) := by decide +kernel
theorem dL_law_3554 : decode cL_law 3554 = .ok (.aload_n 0, 1) := by decide +kernel
theorem dL_law_3555 : decode cL_law 3555 = .ok (.iload 4, 2) := by decide +kernel
theorem dL_law_3557 : decode cL_law 3557 = .ok (.iconst 2, 1) := by decide +kernel
theorem dL_law_3558 : decode cL_law 3558 = .ok (.iadd, 1) := by decide +kernel
theorem dL_law_3559 : decode cL_law 3559 = .ok (.iaload, 1) := by decide +kernel
theorem dL_law_3560 : decode cL_law 3560 = .ok (.aload_n 3, 1) := by decide +kernel
theorem dL_law_3561 : decode cL_law 3561 = .ok (.invokestatic 384, 3) := by decide +kernel
theorem dL_law_3564 : decode cL_law 3564 = .ok (.istore 5, 2) := by decide +kernel
theorem dL_law_3566 : decode cL_law 3566 = .ok (.aload_n 2, 1) := by decide +kernel
theorem dL_law_3567 : decode cL_law 3567 = .ok (.aload_n 0, 1) := by decide +kernel
theorem dL_law_3568 : decode cL_law 3568 = .ok (.iload 4, 2) := by decide +kernel
theorem dL_law_3570 : decode cL_law 3570 = .ok (.iconst 1, 1) := by decide +kernel
theorem dL_law_3571 : decode cL_law 3571 = .ok (.iadd, 1) := by decide +kernel
theorem dL_law_3572 : decode cL_law 3572 = .ok (.iaload, 1) := by decide +kernel
theorem dL_law_3573 : decode cL_law 3573 = .ok (.aload_n 0, 1) := by decide +kernel
theorem dL_law_3574 : decode cL_law 3574 = .ok (.iload 4, 2) := by decide +kernel
theorem dL_law_3576 : decode cL_law 3576 = .ok (.iconst 2, 1) := by decide +kernel
theorem dL_law_3577 : decode cL_law 3577 = .ok (.iadd, 1) := by decide +kernel
theorem dL_law_3578 : decode cL_law 3578 = .ok (.iaload, 1) := by decide +kernel
theorem dL_law_3579 : decode cL_law 3579 = .ok (.invokevirtual 386, 3) := by decide +kernel
theorem dL_law_3582 : decode cL_law 3582 = .ok (.istore 6, 2) := by decide +kernel
theorem dL_law_3584 : decode cL_law 3584 = .ok (.aload_n 2, 1) := by decide +kernel
theorem dL_law_3585 : decode cL_law 3585 = .ok (.invokevirtual 209, 3) := by decide +kernel
theorem dL_law_3588 : decode cL_law 3588 = .ok (.iload 5, 2) := by decide +kernel
theorem dL_law_3590 : decode cL_law 3590 = .ok (.if_icmp .eq 5, 3) := by decide +kernel
theorem dL_law_3593 : decode cL_law 3593 = .ok (.iconst 0, 1) := by decide +kernel
theorem dL_law_3594 : decode cL_law 3594 = .ok (.ireturn, 1) := by decide +kernel
theorem dL_law_3595 : decode cL_law 3595 = .ok (.iload 5, 2) := by decide +kernel
theorem dL_law_3597 : decode cL_law 3597 = .ok (.ifCond .ne 15, 3) := by decide +kernel
