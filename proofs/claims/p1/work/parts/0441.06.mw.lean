set_option maxRecDepth 100000 in
theorem mwk_500 : am_mwb am_m500 (3194, 13, 3192, 3193) = true := by decide +kernel
set_option maxRecDepth 100000 in
theorem mwk_501 : am_mwb am_m501 (3198, 13, 3197, 10231) = true := by decide +kernel
set_option maxRecDepth 100000 in
theorem mwk_502 : am_mwb am_m502 (3202, 13, 3200, 3201) = true := by decide +kernel
set_option maxRecDepth 100000 in
theorem mwk_503 : am_mwb am_m503 (3206, 13, 3205, 10232) = true := by decide +kernel
set_option maxRecDepth 100000 in
theorem mwk_504 : am_mwb am_m504 (3211, 13, 3210, 10233) = true := by decide +kernel
set_option maxRecDepth 100000 in
theorem mwk_505 : am_mwb am_m505 (3215, 13, 3214, 10234) = true := by decide +kernel
set_option maxRecDepth 100000 in
theorem mwk_506 : am_mwb am_m506 (3219, 13, 3218, 10235) = true := by decide +kernel
set_option maxRecDepth 100000 in
theorem mwk_507 : am_mwb am_m507 (3223, 13, 3222, 10236) = true := by decide +kernel
set_option maxRecDepth 100000 in
theorem mwk_508 : am_mwb am_m508 (3227, 13, 3226, 10237) = true := by decide +kernel
set_option maxRecDepth 100000 in
theorem mwk_509 : am_mwb am_m509 (3231, 13, 3230, 10238) = true := by decide +kernel
set_option maxRecDepth 100000 in
theorem mwk_510 : am_mwb am_m510 (3235, 13, 3234, 10239) = true := by decide +kernel
set_option maxRecDepth 100000 in
theorem mwk_511 : am_mwb am_m511 (3239, 13, 3238, 10240) = true := by decide +kernel
set_option maxRecDepth 100000 in
theorem mwk_512 : am_mwb am_m512 (3243, 13, 3242, 10241) = true := by decide +kernel
set_option maxRecDepth 100000 in
theorem mwk_513 : am_mwb am_m513 (3247, 13, 3246, 10242) = true := by decide +kernel
set_option maxRecDepth 100000 in
theorem mwk_514 : am_mwb am_m514 (3251, 13, 3250, 10243) = true := by decide +kernel
set_option maxRecDepth 100000 in
theorem mwk_515 : am_mwb am_m515 (3255, 13, 3254, 10244) = true := by decide +kernel
set_option maxRecDepth 100000 in
theorem mwk_516 : am_mwb am_m516 (3259, 13, 3258, 10245) = true := by decide +kernel
set_option maxRecDepth 100000 in
theorem mwk_517 : am_mwb am_m517 (3265, 13, 3264, 10246) = true := by decide +kernel
set_option maxRecDepth 100000 in
theorem mwk_518 : am_mwb am_m518 (3269, 13, 3267, 3268) = true := by decide +kernel
set_option maxRecDepth 100000 in
theorem mwk_519 : am_mwb am_m519 (3273, 13, 3271, 3272) = true := by decide +kernel
set_option maxRecDepth 100000 in
theorem mwk_520 : am_mwb am_m520 (3277, 13, 3275, 3276) = true := by decide +kernel
set_option maxRecDepth 100000 in
theorem mwk_521 : am_mwb am_m521 (3281, 13, 3279, 3280) = true := by decide +kernel
set_option maxRecDepth 100000 in
theorem mwk_522 : am_mwb am_m522 (3285, 13, 3284, 10247) = true := by decide +kernel
set_option maxRecDepth 100000 in
theorem mwk_523 : am_mwb am_m523 (3289, 13, 3288, 10248) = true := by decide +kernel
set_option maxRecDepth 100000 in
theorem mwk_524 : am_mwb am_m524 (3293, 13, 3291, 3292) = true := by decide +kernel
set_option maxRecDepth 100000 in
theorem mwk_525 : am_mwb am_m525 (3297, 13, 3296, 10249) = true := by decide +kernel
set_option maxRecDepth 100000 in
theorem mwk_526 : am_mwb am_m526 (3301, 13, 3299, 3300) = true := by decide +kernel
set_option maxRecDepth 100000 in
theorem mwk_527 : am_mwb am_m527 (3305, 13, 3303, 3304) = true := by decide +kernel
set_option maxRecDepth 100000 in
theorem mwk_528 : am_mwb am_m528 (3309, 13, 3308, 10250) = true := by decide +kernel
set_option maxRecDepth 100000 in
theorem mwk_529 : am_mwb am_m529 (3313, 13, 3312, 10251) = true := by decide +kernel
set_option maxRecDepth 100000 in
theorem mwk_530 : am_mwb am_m530 (3317, 13, 3315, 3316) = true := by decide +kernel
set_option maxRecDepth 100000 in
theorem mwk_531 : am_mwb am_m531 (3321, 13, 3319, 3320) = true := by decide +kernel
set_option maxRecDepth 100000 in
theorem mwk_532 : am_mwb am_m532 (3325, 13, 3323, 3324) = true := by decide +kernel
set_option maxRecDepth 100000 in
theorem mwk_533 : am_mwb am_m533 (3329, 13, 3327, 3328) = true := by decide +kernel
set_option maxRecDepth 100000 in
theorem mwk_534 : am_mwb am_m534 (3333, 13, 3332, 10252) = true := by decide +kernel
set_option maxRecDepth 100000 in
theorem mwk_535 : am_mwb am_m535 (3337, 13, 3335, 3336) = true := by decide +kernel
set_option maxRecDepth 100000 in
theorem mwk_536 : am_mwb am_m536 (3341, 13, 3340, 10253) = true := by decide +kernel
set_option maxRecDepth 100000 in
theorem mwk_537 : am_mwb am_m537 (3345, 13, 3344, 10254) = true := by decide +kernel
set_option maxRecDepth 100000 in
theorem mwk_538 : am_mwb am_m538 (3349, 13, 3348, 10255) = true := by decide +kernel
set_option maxRecDepth 100000 in
theorem mwk_539 : am_mwb am_m539 (3353, 13, 3352, 10256) = true := by decide +kernel
set_option maxRecDepth 100000 in
theorem mwk_540 : am_mwb am_m540 (3357, 13, 3356, 10257) = true := by decide +kernel
set_option maxRecDepth 100000 in
theorem mwk_541 : am_mwb am_m541 (3361, 13, 3360, 10258) = true := by decide +kernel
set_option maxRecDepth 100000 in
theorem mwk_542 : am_mwb am_m542 (3365, 13, 3364, 10259) = true := by decide +kernel
set_option maxRecDepth 100000 in
theorem mwk_543 : am_mwb am_m543 (3369, 13, 3368, 10260) = true := by decide +kernel
set_option maxRecDepth 100000 in
theorem mwk_544 : am_mwb am_m544 (3373, 13, 3372, 10261) = true := by decide +kernel
set_option maxRecDepth 100000 in
theorem mwk_545 : am_mwb am_m545 (3377, 13, 3376, 10262) = true := by decide +kernel
set_option maxRecDepth 100000 in
theorem mwk_546 : am_mwb am_m546 (3381, 13, 3380, 10263) = true := by decide +kernel
set_option maxRecDepth 100000 in
theorem mwk_547 : am_mwb am_m547 (3385, 13, 3384, 10264) = true := by decide +kernel
set_option maxRecDepth 100000 in
theorem mwk_548 : am_mwb am_m548 (3389, 13, 3388, 10265) = true := by decide +kernel
set_option maxRecDepth 100000 in
theorem mwk_549 : am_mwb am_m549 (3393, 13, 3392, 10266) = true := by decide +kernel
set_option maxRecDepth 100000 in
theorem mwk_550 : am_mwb am_m550 (3397, 13, 3396, 10267) = true := by decide +kernel
set_option maxRecDepth 100000 in
theorem mwk_551 : am_mwb am_m551 (3401, 13, 3400, 10268) = true := by decide +kernel
set_option maxRecDepth 100000 in
theorem mwk_552 : am_mwb am_m552 (3405, 13, 3404, 10269) = true := by decide +kernel
set_option maxRecDepth 100000 in
theorem mwk_553 : am_mwb am_m553 (3409, 13, 3407, 3408) = true := by decide +kernel
set_option maxRecDepth 100000 in
theorem mwk_554 : am_mwb am_m554 (3413, 13, 3411, 3412) = true := by decide +kernel
set_option maxRecDepth 100000 in
theorem mwk_555 : am_mwb am_m555 (3417, 13, 3415, 3416) = true := by decide +kernel
set_option maxRecDepth 100000 in
theorem mwk_556 : am_mwb am_m556 (3421, 13, 3419, 3420) = true := by decide +kernel
set_option maxRecDepth 100000 in
theorem mwk_557 : am_mwb am_m557 (3425, 13, 3424, 10270) = true := by decide +kernel
set_option maxRecDepth 100000 in
theorem mwk_558 : am_mwb am_m558 (3429, 13, 3428, 10271) = true := by decide +kernel
set_option maxRecDepth 100000 in
theorem mwk_559 : am_mwb am_m559 (3433, 13, 3432, 10272) = true := by decide +kernel
set_option maxRecDepth 100000 in
theorem mwk_560 : am_mwb am_m560 (3437, 13, 3436, 10273) = true := by decide +kernel
set_option maxRecDepth 100000 in
theorem mwk_561 : am_mwb am_m561 (3441, 13, 3440, 10274) = true := by decide +kernel
set_option maxRecDepth 100000 in
theorem mwk_562 : am_mwb am_m562 (3445, 13, 3444, 10275) = true := by decide +kernel
set_option maxRecDepth 100000 in
theorem mwk_563 : am_mwb am_m563 (3449, 13, 3448, 10276) = true := by decide +kernel
set_option maxRecDepth 100000 in
theorem mwk_564 : am_mwb am_m564 (3453, 13, 3452, 10277) = true := by decide +kernel
set_option maxRecDepth 100000 in
theorem mwk_565 : am_mwb am_m565 (3457, 13, 3456, 10278) = true := by decide +kernel
set_option maxRecDepth 100000 in
theorem mwk_566 : am_mwb am_m566 (3461, 13, 3459, 3460) = true := by decide +kernel
set_option maxRecDepth 100000 in
theorem mwk_567 : am_mwb am_m567 (3465, 13, 3464, 10279) = true := by decide +kernel
set_option maxRecDepth 100000 in
theorem mwk_568 : am_mwb am_m568 (3469, 13, 3468, 10280) = true := by decide +kernel
set_option maxRecDepth 100000 in
theorem mwk_569 : am_mwb am_m569 (3473, 13, 3472, 10281) = true := by decide +kernel
set_option maxRecDepth 100000 in
theorem mwk_570 : am_mwb am_m570 (3477, 13, 3476, 10282) = true := by decide +kernel
set_option maxRecDepth 100000 in
theorem mwk_571 : am_mwb am_m571 (3481, 13, 3480, 10283) = true := by decide +kernel
set_option maxRecDepth 100000 in
theorem mwk_572 : am_mwb am_m572 (3485, 13, 3484, 10284) = true := by decide +kernel
set_option maxRecDepth 100000 in
theorem mwk_573 : am_mwb am_m573 (3489, 13, 3488, 10285) = true := by decide +kernel
set_option maxRecDepth 100000 in
theorem mwk_574 : am_mwb am_m574 (3493, 13, 3492, 10286) = true := by decide +kernel
set_option maxRecDepth 100000 in
theorem mwk_575 : am_mwb am_m575 (3497, 13, 3496, 10287) = true := by decide +kernel
set_option maxRecDepth 100000 in
theorem mwk_576 : am_mwb am_m576 (3501, 13, 3499, 3500) = true := by decide +kernel
set_option maxRecDepth 100000 in
theorem mwk_577 : am_mwb am_m577 (3505, 13, 3503, 3504) = true := by decide +kernel
set_option maxRecDepth 100000 in
theorem mwk_578 : am_mwb am_m578 (3509, 13, 3508, 10288) = true := by decide +kernel
set_option maxRecDepth 100000 in
theorem mwk_579 : am_mwb am_m579 (3512, 13, 3511, 0) = true := by decide +kernel
set_option maxRecDepth 100000 in
theorem mwk_580 : am_mwb am_m580 (3516, 13, 3515, 10289) = true := by decide +kernel
set_option maxRecDepth 100000 in
theorem mwk_581 : am_mwb am_m581 (3520, 13, 3518, 3519) = true := by decide +kernel
set_option maxRecDepth 100000 in
theorem mwk_582 : am_mwb am_m582 (3524, 13, 3522, 3523) = true := by decide +kernel
set_option maxRecDepth 100000 in
theorem mwk_583 : am_mwb am_m583 (3528, 13, 3527, 10290) = true := by decide +kernel
set_option maxRecDepth 100000 in
theorem mwk_584 : am_mwb am_m584 (3532, 13, 3531, 10291) = true := by decide +kernel
set_option maxRecDepth 100000 in
theorem mwk_585 : am_mwb am_m585 (3536, 13, 3534, 3535) = true := by decide +kernel
set_option maxRecDepth 100000 in
theorem mwk_586 : am_mwb am_m586 (3540, 13, 3539, 10292) = true := by decide +kernel
set_option maxRecDepth 100000 in
theorem mwk_587 : am_mwb am_m587 (3544, 13, 3542, 3543) = true := by decide +kernel
set_option maxRecDepth 100000 in
theorem mwk_588 : am_mwb am_m588 (3548, 13, 3546, 3547) = true := by decide +kernel
