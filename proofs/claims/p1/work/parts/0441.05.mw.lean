set_option maxRecDepth 100000 in
theorem mwk_400 : am_mwb am_m400 (2786, 13, 2784, 2785) = true := by decide +kernel
set_option maxRecDepth 100000 in
theorem mwk_401 : am_mwb am_m401 (2791, 13, 2789, 2790) = true := by decide +kernel
set_option maxRecDepth 100000 in
theorem mwk_402 : am_mwb am_m402 (2795, 13, 2794, 10155) = true := by decide +kernel
set_option maxRecDepth 100000 in
theorem mwk_403 : am_mwb am_m403 (2799, 13, 2798, 10156) = true := by decide +kernel
set_option maxRecDepth 100000 in
theorem mwk_404 : am_mwb am_m404 (2803, 13, 2802, 10157) = true := by decide +kernel
set_option maxRecDepth 100000 in
theorem mwk_405 : am_mwb am_m405 (2807, 13, 2806, 10158) = true := by decide +kernel
set_option maxRecDepth 100000 in
theorem mwk_406 : am_mwb am_m406 (2811, 13, 2810, 10159) = true := by decide +kernel
set_option maxRecDepth 100000 in
theorem mwk_407 : am_mwb am_m407 (2815, 13, 2814, 10160) = true := by decide +kernel
set_option maxRecDepth 100000 in
theorem mwk_408 : am_mwb am_m408 (2819, 13, 2818, 10161) = true := by decide +kernel
set_option maxRecDepth 100000 in
theorem mwk_409 : am_mwb am_m409 (2823, 13, 2822, 10162) = true := by decide +kernel
set_option maxRecDepth 100000 in
theorem mwk_410 : am_mwb am_m410 (2827, 13, 2826, 10163) = true := by decide +kernel
set_option maxRecDepth 100000 in
theorem mwk_411 : am_mwb am_m411 (2831, 13, 2830, 10164) = true := by decide +kernel
set_option maxRecDepth 100000 in
theorem mwk_412 : am_mwb am_m412 (2835, 13, 2834, 10165) = true := by decide +kernel
set_option maxRecDepth 100000 in
theorem mwk_413 : am_mwb am_m413 (2839, 13, 2838, 10166) = true := by decide +kernel
set_option maxRecDepth 100000 in
theorem mwk_414 : am_mwb am_m414 (2843, 13, 2842, 10167) = true := by decide +kernel
set_option maxRecDepth 100000 in
theorem mwk_415 : am_mwb am_m415 (2847, 13, 2846, 10168) = true := by decide +kernel
set_option maxRecDepth 100000 in
theorem mwk_416 : am_mwb am_m416 (2851, 13, 2850, 10169) = true := by decide +kernel
set_option maxRecDepth 100000 in
theorem mwk_417 : am_mwb am_m417 (2855, 13, 2854, 10170) = true := by decide +kernel
set_option maxRecDepth 100000 in
theorem mwk_418 : am_mwb am_m418 (2859, 13, 2858, 10171) = true := by decide +kernel
set_option maxRecDepth 100000 in
theorem mwk_419 : am_mwb am_m419 (2863, 13, 2862, 10172) = true := by decide +kernel
set_option maxRecDepth 100000 in
theorem mwk_420 : am_mwb am_m420 (2867, 13, 2865, 2866) = true := by decide +kernel
set_option maxRecDepth 100000 in
theorem mwk_421 : am_mwb am_m421 (2871, 13, 2870, 10173) = true := by decide +kernel
set_option maxRecDepth 100000 in
theorem mwk_422 : am_mwb am_m422 (2875, 13, 2873, 2874) = true := by decide +kernel
set_option maxRecDepth 100000 in
theorem mwk_423 : am_mwb am_m423 (2879, 13, 2877, 2878) = true := by decide +kernel
set_option maxRecDepth 100000 in
theorem mwk_424 : am_mwb am_m424 (2883, 13, 2881, 2882) = true := by decide +kernel
set_option maxRecDepth 100000 in
theorem mwk_425 : am_mwb am_m425 (2887, 13, 2886, 10174) = true := by decide +kernel
set_option maxRecDepth 100000 in
theorem mwk_426 : am_mwb am_m426 (2891, 13, 2890, 0) = true := by decide +kernel
set_option maxRecDepth 100000 in
theorem mwk_427 : am_mwb am_m427 (2896, 13, 2894, 2895) = true := by decide +kernel
set_option maxRecDepth 100000 in
theorem mwk_428 : am_mwb am_m428 (2900, 13, 2899, 10175) = true := by decide +kernel
set_option maxRecDepth 100000 in
theorem mwk_429 : am_mwb am_m429 (2904, 13, 2903, 10176) = true := by decide +kernel
set_option maxRecDepth 100000 in
theorem mwk_430 : am_mwb am_m430 (2907, 13, 2906, 0) = true := by decide +kernel
set_option maxRecDepth 100000 in
theorem mwk_431 : am_mwb am_m431 (2911, 13, 2909, 2910) = true := by decide +kernel
set_option maxRecDepth 100000 in
theorem mwk_432 : am_mwb am_m432 (2915, 13, 2914, 10177) = true := by decide +kernel
set_option maxRecDepth 100000 in
theorem mwk_433 : am_mwb am_m433 (2919, 13, 2917, 2918) = true := by decide +kernel
set_option maxRecDepth 100000 in
theorem mwk_434 : am_mwb am_m434 (2923, 13, 2921, 2922) = true := by decide +kernel
set_option maxRecDepth 100000 in
theorem mwk_435 : am_mwb am_m435 (2927, 13, 2926, 10178) = true := by decide +kernel
set_option maxRecDepth 100000 in
theorem mwk_436 : am_mwb am_m436 (2931, 13, 2929, 2930) = true := by decide +kernel
set_option maxRecDepth 100000 in
theorem mwk_437 : am_mwb am_m437 (2934, 13, 2933, 0) = true := by decide +kernel
set_option maxRecDepth 100000 in
theorem mwk_438 : am_mwb am_m438 (2941, 13, 2939, 2940) = true := by decide +kernel
set_option maxRecDepth 100000 in
theorem mwk_439 : am_mwb am_m439 (2945, 13, 2944, 10179) = true := by decide +kernel
set_option maxRecDepth 100000 in
theorem mwk_440 : am_mwb am_m440 (2949, 13, 2948, 10180) = true := by decide +kernel
set_option maxRecDepth 100000 in
theorem mwk_441 : am_mwb am_m441 (2953, 13, 2952, 10181) = true := by decide +kernel
set_option maxRecDepth 100000 in
theorem mwk_442 : am_mwb am_m442 (2959, 13, 2958, 10182) = true := by decide +kernel
set_option maxRecDepth 100000 in
theorem mwk_443 : am_mwb am_m443 (2963, 13, 2962, 10183) = true := by decide +kernel
set_option maxRecDepth 100000 in
theorem mwk_444 : am_mwb am_m444 (2967, 13, 2966, 10184) = true := by decide +kernel
set_option maxRecDepth 100000 in
theorem mwk_445 : am_mwb am_m445 (2971, 13, 2970, 10185) = true := by decide +kernel
set_option maxRecDepth 100000 in
theorem mwk_446 : am_mwb am_m446 (2975, 13, 2974, 10186) = true := by decide +kernel
set_option maxRecDepth 100000 in
theorem mwk_447 : am_mwb am_m447 (2981, 13, 2980, 10187) = true := by decide +kernel
set_option maxRecDepth 100000 in
theorem mwk_448 : am_mwb am_m448 (2984, 13, 2983, 0) = true := by decide +kernel
set_option maxRecDepth 100000 in
theorem mwk_449 : am_mwb am_m449 (2988, 13, 2987, 10188) = true := by decide +kernel
set_option maxRecDepth 100000 in
theorem mwk_450 : am_mwb am_m450 (2992, 13, 2991, 10189) = true := by decide +kernel
set_option maxRecDepth 100000 in
theorem mwk_451 : am_mwb am_m451 (2996, 13, 2995, 10190) = true := by decide +kernel
set_option maxRecDepth 100000 in
theorem mwk_452 : am_mwb am_m452 (3000, 13, 2999, 10191) = true := by decide +kernel
set_option maxRecDepth 100000 in
theorem mwk_453 : am_mwb am_m453 (3004, 13, 3003, 10192) = true := by decide +kernel
set_option maxRecDepth 100000 in
theorem mwk_454 : am_mwb am_m454 (3007, 13, 3006, 0) = true := by decide +kernel
set_option maxRecDepth 100000 in
theorem mwk_455 : am_mwb am_m455 (3011, 13, 3010, 10193) = true := by decide +kernel
set_option maxRecDepth 100000 in
theorem mwk_456 : am_mwb am_m456 (3015, 13, 3014, 10194) = true := by decide +kernel
set_option maxRecDepth 100000 in
theorem mwk_457 : am_mwb am_m457 (3019, 13, 3018, 10195) = true := by decide +kernel
set_option maxRecDepth 100000 in
theorem mwk_458 : am_mwb am_m458 (3023, 13, 3022, 10196) = true := by decide +kernel
set_option maxRecDepth 100000 in
theorem mwk_459 : am_mwb am_m459 (3027, 13, 3026, 10197) = true := by decide +kernel
set_option maxRecDepth 100000 in
theorem mwk_460 : am_mwb am_m460 (3031, 13, 3030, 10198) = true := by decide +kernel
set_option maxRecDepth 100000 in
theorem mwk_461 : am_mwb am_m461 (3035, 13, 3034, 10199) = true := by decide +kernel
set_option maxRecDepth 100000 in
theorem mwk_462 : am_mwb am_m462 (3039, 13, 3038, 10200) = true := by decide +kernel
set_option maxRecDepth 100000 in
theorem mwk_463 : am_mwb am_m463 (3043, 13, 3042, 10201) = true := by decide +kernel
set_option maxRecDepth 100000 in
theorem mwk_464 : am_mwb am_m464 (3047, 13, 3046, 10202) = true := by decide +kernel
set_option maxRecDepth 100000 in
theorem mwk_465 : am_mwb am_m465 (3051, 13, 3050, 10203) = true := by decide +kernel
set_option maxRecDepth 100000 in
theorem mwk_466 : am_mwb am_m466 (3055, 13, 3054, 10204) = true := by decide +kernel
set_option maxRecDepth 100000 in
theorem mwk_467 : am_mwb am_m467 (3059, 13, 3058, 10205) = true := by decide +kernel
set_option maxRecDepth 100000 in
theorem mwk_468 : am_mwb am_m468 (3063, 13, 3062, 10206) = true := by decide +kernel
set_option maxRecDepth 100000 in
theorem mwk_469 : am_mwb am_m469 (3067, 13, 3065, 3066) = true := by decide +kernel
set_option maxRecDepth 100000 in
theorem mwk_470 : am_mwb am_m470 (3071, 13, 3069, 3070) = true := by decide +kernel
set_option maxRecDepth 100000 in
theorem mwk_471 : am_mwb am_m471 (3075, 13, 3074, 10207) = true := by decide +kernel
set_option maxRecDepth 100000 in
theorem mwk_472 : am_mwb am_m472 (3079, 13, 3078, 10208) = true := by decide +kernel
set_option maxRecDepth 100000 in
theorem mwk_473 : am_mwb am_m473 (3083, 13, 3082, 10209) = true := by decide +kernel
set_option maxRecDepth 100000 in
theorem mwk_474 : am_mwb am_m474 (3087, 13, 3086, 10210) = true := by decide +kernel
set_option maxRecDepth 100000 in
theorem mwk_475 : am_mwb am_m475 (3091, 13, 3090, 10211) = true := by decide +kernel
set_option maxRecDepth 100000 in
theorem mwk_476 : am_mwb am_m476 (3097, 13, 3096, 10212) = true := by decide +kernel
set_option maxRecDepth 100000 in
theorem mwk_477 : am_mwb am_m477 (3101, 13, 3100, 10213) = true := by decide +kernel
set_option maxRecDepth 100000 in
theorem mwk_478 : am_mwb am_m478 (3106, 13, 3104, 3105) = true := by decide +kernel
set_option maxRecDepth 100000 in
theorem mwk_479 : am_mwb am_m479 (3110, 13, 3109, 10214) = true := by decide +kernel
set_option maxRecDepth 100000 in
theorem mwk_480 : am_mwb am_m480 (3114, 13, 3113, 10215) = true := by decide +kernel
set_option maxRecDepth 100000 in
theorem mwk_481 : am_mwb am_m481 (3118, 13, 3117, 10216) = true := by decide +kernel
set_option maxRecDepth 100000 in
theorem mwk_482 : am_mwb am_m482 (3122, 13, 3121, 10217) = true := by decide +kernel
set_option maxRecDepth 100000 in
theorem mwk_483 : am_mwb am_m483 (3126, 13, 3125, 10218) = true := by decide +kernel
set_option maxRecDepth 100000 in
theorem mwk_484 : am_mwb am_m484 (3130, 13, 3129, 10219) = true := by decide +kernel
set_option maxRecDepth 100000 in
theorem mwk_485 : am_mwb am_m485 (3134, 13, 3133, 10220) = true := by decide +kernel
set_option maxRecDepth 100000 in
theorem mwk_486 : am_mwb am_m486 (3138, 13, 3136, 3137) = true := by decide +kernel
set_option maxRecDepth 100000 in
theorem mwk_487 : am_mwb am_m487 (3142, 13, 3141, 10221) = true := by decide +kernel
set_option maxRecDepth 100000 in
theorem mwk_488 : am_mwb am_m488 (3146, 13, 3144, 3145) = true := by decide +kernel
set_option maxRecDepth 100000 in
theorem mwk_489 : am_mwb am_m489 (3150, 13, 3149, 10222) = true := by decide +kernel
set_option maxRecDepth 100000 in
theorem mwk_490 : am_mwb am_m490 (3154, 13, 3153, 0) = true := by decide +kernel
set_option maxRecDepth 100000 in
theorem mwk_491 : am_mwb am_m491 (3158, 13, 3157, 10223) = true := by decide +kernel
set_option maxRecDepth 100000 in
theorem mwk_492 : am_mwb am_m492 (3162, 13, 3161, 10224) = true := by decide +kernel
set_option maxRecDepth 100000 in
theorem mwk_493 : am_mwb am_m493 (3166, 13, 3165, 10225) = true := by decide +kernel
set_option maxRecDepth 100000 in
theorem mwk_494 : am_mwb am_m494 (3170, 13, 3169, 10226) = true := by decide +kernel
set_option maxRecDepth 100000 in
theorem mwk_495 : am_mwb am_m495 (3174, 13, 3173, 10227) = true := by decide +kernel
set_option maxRecDepth 100000 in
theorem mwk_496 : am_mwb am_m496 (3178, 13, 3177, 10228) = true := by decide +kernel
set_option maxRecDepth 100000 in
theorem mwk_497 : am_mwb am_m497 (3182, 13, 3181, 10229) = true := by decide +kernel
set_option maxRecDepth 100000 in
theorem mwk_498 : am_mwb am_m498 (3186, 13, 3185, 10230) = true := by decide +kernel
set_option maxRecDepth 100000 in
theorem mwk_499 : am_mwb am_m499 (3190, 13, 3188, 3189) = true := by decide +kernel
