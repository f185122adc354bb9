set_option maxRecDepth 100000 in
theorem mwk_300 : am_mwb am_m300 (1973, 1, 1971, 1972) = true := by decide +kernel
set_option maxRecDepth 100000 in
theorem mwk_301 : am_mwb am_m301 (1976, 0, 1975, 0) = true := by decide +kernel
set_option maxRecDepth 100000 in
theorem mwk_302 : am_mwb am_m302 (1980, 1, 1978, 1979) = true := by decide +kernel
set_option maxRecDepth 100000 in
theorem mwk_303 : am_mwb am_m303 (1984, 1, 1983, 10108) = true := by decide +kernel
set_option maxRecDepth 100000 in
theorem mwk_304 : am_mwb am_m304 (1988, 0, 1987, 0) = true := by decide +kernel
set_option maxRecDepth 100000 in
theorem mwk_305 : am_mwb am_m305 (1992, 1, 1990, 1991) = true := by decide +kernel
set_option maxRecDepth 100000 in
theorem mwk_306 : am_mwb am_m306 (1996, 0, 1995, 0) = true := by decide +kernel
set_option maxRecDepth 100000 in
theorem mwk_307 : am_mwb am_m307 (2000, 1, 1998, 1999) = true := by decide +kernel
set_option maxRecDepth 100000 in
theorem mwk_308 : am_mwb am_m308 (2004, 0, 2003, 0) = true := by decide +kernel
set_option maxRecDepth 100000 in
theorem mwk_309 : am_mwb am_m309 (2008, 1, 2006, 2007) = true := by decide +kernel
set_option maxRecDepth 100000 in
theorem mwk_310 : am_mwb am_m310 (2013, 12, 2011, 2012) = true := by decide +kernel
set_option maxRecDepth 100000 in
theorem mwk_311 : am_mwb am_m311 (2017, 12, 2016, 10109) = true := by decide +kernel
set_option maxRecDepth 100000 in
theorem mwk_312 : am_mwb am_m312 (2021, 12, 2020, 10110) = true := by decide +kernel
set_option maxRecDepth 100000 in
theorem mwk_313 : am_mwb am_m313 (2024, 0, 2023, 0) = true := by decide +kernel
set_option maxRecDepth 100000 in
theorem mwk_314 : am_mwb am_m314 (2028, 1, 2026, 2027) = true := by decide +kernel
set_option maxRecDepth 100000 in
theorem mwk_315 : am_mwb am_m315 (2032, 1, 2031, 10111) = true := by decide +kernel
set_option maxRecDepth 100000 in
theorem mwk_316 : am_mwb am_m316 (2037, 12, 2035, 2036) = true := by decide +kernel
set_option maxRecDepth 100000 in
theorem mwk_317 : am_mwb am_m317 (2040, 0, 2039, 0) = true := by decide +kernel
set_option maxRecDepth 100000 in
theorem mwk_318 : am_mwb am_m318 (2044, 1, 2042, 2043) = true := by decide +kernel
set_option maxRecDepth 100000 in
theorem mwk_319 : am_mwb am_m319 (2048, 12, 2046, 2047) = true := by decide +kernel
set_option maxRecDepth 100000 in
theorem mwk_320 : am_mwb am_m320 (2052, 0, 2051, 0) = true := by decide +kernel
set_option maxRecDepth 100000 in
theorem mwk_321 : am_mwb am_m321 (2056, 1, 2054, 2055) = true := by decide +kernel
set_option maxRecDepth 100000 in
theorem mwk_322 : am_mwb am_m322 (2060, 12, 2058, 2059) = true := by decide +kernel
/-- as am_mwb, but for the code -/
def am_mwx (m : am_M) (q : Nat × Nat × Nat × Nat) : Bool := Nat.ble (am_mx m) 22 && (plainFor (am_nm m) && (decide (am_on.getD (am_ow m) "" = (am_nm m).cls) && ((decide ((am_nm m).cls ≠ "java/lang/invoke/MethodHandle") && decide ((am_nm m).cls ≠ "java/lang/invoke/VarHandle")) && (am_parOk m && (am_tix q.2.1 (.initialized (am_nm m).cls) &&
  ((if am_kd m == 0 then am_tix q.2.2.1 (.static (am_nm m)) else am_tix q.2.2.1 (.instanceMethod (am_nm m)) && (Nat.blt (am_ow m) 13 && (am_hh m).isEmpty)) && ((!(am_kd m == 1) || am_sx q.2.2.2 (.selects (am_nm m).cls (am_nm m) (am_nm m))) && (!(am_kd m == 2) || (decide ((am_nm m).name = "<init>") && (am_rt m).isNone)))))))))
theorem am_mwx_ok {m : am_M} {q : Nat × Nat × Nat × Nat} (hm : m ∈ am_ms) (h7 : am_code m ∈ am_tb) (h : am_mwx m q = true) : am_mw m := by
  unfold am_mwx at h
  simp only [Bool.and_eq_true, decide_eq_true_eq] at h
  obtain ⟨h1, h2, h3, ⟨h4, h5⟩, h6, h8, h9, h10, h11⟩ := h
  refine ⟨hm, Nat.le_of_ble_eq_true h1, h2, h3, ⟨h4, h5⟩, fun sig hsig => ?_, h7, am_tix_mem h8, fun hk => ?_, fun hk => ?_, fun hk => ?_, fun hk => ?_⟩
  · unfold am_parOk at h6
    rw [hsig] at h6
    have h12 := beq_iff_eq.mp h6
    simp only [beq_iff_eq] at h12
    exact h12
  · rw [hk] at h9
    exact am_tix_mem h9
  · rw [if_neg (by rw [beq_iff_eq]; exact hk)] at h9
    rw [Bool.and_eq_true, Bool.and_eq_true, Nat.blt_eq, List.isEmpty_iff] at h9
    exact ⟨am_tix_mem h9.1, h9.2.1, h9.2.2⟩
  · rw [hk] at h10
    exact am_sx_mem h10
  · rw [hk] at h11
    have h12 : (decide ((am_nm m).name = "<init>") && (am_rt m).isNone) = true := h11
    rw [Bool.and_eq_true, decide_eq_true_eq, Option.isNone_iff_eq_none] at h12
    exact h12
theorem am_cin {i : Nat} {w : Cond} (h : tables_1[i]? = some w) (hg : am_gw w = true) : w ∈ am_tb := List.mem_filter.mpr ⟨List.mem_append_right _ (List.mem_of_getElem? h), hg⟩
set_option maxRecDepth 100000 in
theorem mwx_323 : am_mwx am_m323 (2066, 13, 2065, 0) = true := by decide +kernel
set_option maxRecDepth 100000 in
theorem mwc_323 : am_code am_m323 ∈ am_tb := am_cin (i := 2066) rfl rfl
set_option maxRecDepth 100000 in
theorem mwk_324 : am_mwb am_m324 (2487, 13, 2485, 2486) = true := by decide +kernel
set_option maxRecDepth 100000 in
theorem mwk_325 : am_mwb am_m325 (2491, 13, 2489, 2490) = true := by decide +kernel
set_option maxRecDepth 100000 in
theorem mwk_326 : am_mwb am_m326 (2496, 13, 2494, 2495) = true := by decide +kernel
set_option maxRecDepth 100000 in
theorem mwk_327 : am_mwb am_m327 (2500, 13, 2499, 0) = true := by decide +kernel
set_option maxRecDepth 100000 in
theorem mwk_328 : am_mwb am_m328 (2504, 13, 2503, 10112) = true := by decide +kernel
set_option maxRecDepth 100000 in
theorem mwk_329 : am_mwb am_m329 (2508, 13, 2507, 10113) = true := by decide +kernel
set_option maxRecDepth 100000 in
theorem mwk_330 : am_mwb am_m330 (2511, 13, 2510, 0) = true := by decide +kernel
set_option maxRecDepth 100000 in
theorem mwk_331 : am_mwb am_m331 (2515, 13, 2514, 10114) = true := by decide +kernel
set_option maxRecDepth 100000 in
theorem mwk_332 : am_mwb am_m332 (2519, 13, 2518, 10115) = true := by decide +kernel
set_option maxRecDepth 100000 in
theorem mwk_333 : am_mwb am_m333 (2522, 13, 2521, 0) = true := by decide +kernel
set_option maxRecDepth 100000 in
theorem mwk_334 : am_mwb am_m334 (2525, 13, 2524, 0) = true := by decide +kernel
set_option maxRecDepth 100000 in
theorem mwk_335 : am_mwb am_m335 (2529, 13, 2528, 10116) = true := by decide +kernel
set_option maxRecDepth 100000 in
theorem mwk_336 : am_mwb am_m336 (2533, 13, 2532, 10117) = true := by decide +kernel
set_option maxRecDepth 100000 in
theorem mwk_337 : am_mwb am_m337 (2537, 13, 2536, 10118) = true := by decide +kernel
set_option maxRecDepth 100000 in
theorem mwk_338 : am_mwb am_m338 (2540, 13, 2539, 0) = true := by decide +kernel
set_option maxRecDepth 100000 in
theorem mwk_339 : am_mwb am_m339 (2544, 13, 2543, 10119) = true := by decide +kernel
set_option maxRecDepth 100000 in
theorem mwk_340 : am_mwb am_m340 (2550, 13, 2549, 10120) = true := by decide +kernel
set_option maxRecDepth 100000 in
theorem mwk_341 : am_mwb am_m341 (2554, 13, 2553, 10121) = true := by decide +kernel
set_option maxRecDepth 100000 in
theorem mwk_342 : am_mwb am_m342 (2558, 13, 2557, 10122) = true := by decide +kernel
set_option maxRecDepth 100000 in
theorem mwk_343 : am_mwb am_m343 (2561, 13, 2560, 0) = true := by decide +kernel
set_option maxRecDepth 100000 in
theorem mwk_344 : am_mwb am_m344 (2565, 13, 2564, 10123) = true := by decide +kernel
set_option maxRecDepth 100000 in
theorem mwk_345 : am_mwb am_m345 (2569, 13, 2568, 10124) = true := by decide +kernel
set_option maxRecDepth 100000 in
theorem mwk_346 : am_mwb am_m346 (2572, 13, 2571, 0) = true := by decide +kernel
set_option maxRecDepth 100000 in
theorem mwk_347 : am_mwb am_m347 (2576, 13, 2575, 10125) = true := by decide +kernel
set_option maxRecDepth 100000 in
theorem mwk_348 : am_mwb am_m348 (2579, 13, 2578, 0) = true := by decide +kernel
set_option maxRecDepth 100000 in
theorem mwk_349 : am_mwb am_m349 (2582, 13, 2581, 0) = true := by decide +kernel
set_option maxRecDepth 100000 in
theorem mwk_350 : am_mwb am_m350 (2586, 13, 2585, 10126) = true := by decide +kernel
set_option maxRecDepth 100000 in
theorem mwk_351 : am_mwb am_m351 (2590, 13, 2589, 10127) = true := by decide +kernel
set_option maxRecDepth 100000 in
theorem mwk_352 : am_mwb am_m352 (2594, 13, 2593, 10128) = true := by decide +kernel
set_option maxRecDepth 100000 in
theorem mwk_353 : am_mwb am_m353 (2597, 13, 2596, 0) = true := by decide +kernel
set_option maxRecDepth 100000 in
theorem mwk_354 : am_mwb am_m354 (2601, 13, 2600, 10129) = true := by decide +kernel
set_option maxRecDepth 100000 in
theorem mwk_355 : am_mwb am_m355 (2607, 13, 2606, 10130) = true := by decide +kernel
set_option maxRecDepth 100000 in
theorem mwk_356 : am_mwb am_m356 (2611, 13, 2610, 10131) = true := by decide +kernel
set_option maxRecDepth 100000 in
theorem mwk_357 : am_mwb am_m357 (2615, 13, 2613, 2614) = true := by decide +kernel
set_option maxRecDepth 100000 in
theorem mwk_358 : am_mwb am_m358 (2619, 13, 2618, 10132) = true := by decide +kernel
set_option maxRecDepth 100000 in
theorem mwk_359 : am_mwb am_m359 (2623, 13, 2622, 10133) = true := by decide +kernel
set_option maxRecDepth 100000 in
theorem mwk_360 : am_mwb am_m360 (2627, 13, 2626, 10134) = true := by decide +kernel
set_option maxRecDepth 100000 in
theorem mwk_361 : am_mwb am_m361 (2631, 13, 2630, 10135) = true := by decide +kernel
set_option maxRecDepth 100000 in
theorem mwk_362 : am_mwb am_m362 (2635, 13, 2634, 10136) = true := by decide +kernel
set_option maxRecDepth 100000 in
theorem mwk_363 : am_mwb am_m363 (2639, 13, 2638, 10137) = true := by decide +kernel
set_option maxRecDepth 100000 in
theorem mwk_364 : am_mwb am_m364 (2642, 13, 2641, 0) = true := by decide +kernel
set_option maxRecDepth 100000 in
theorem mwk_365 : am_mwb am_m365 (2646, 13, 2645, 10138) = true := by decide +kernel
set_option maxRecDepth 100000 in
theorem mwk_366 : am_mwb am_m366 (2649, 13, 2648, 0) = true := by decide +kernel
set_option maxRecDepth 100000 in
theorem mwk_367 : am_mwb am_m367 (2652, 13, 2651, 0) = true := by decide +kernel
set_option maxRecDepth 100000 in
theorem mwk_368 : am_mwb am_m368 (2656, 13, 2654, 2655) = true := by decide +kernel
set_option maxRecDepth 100000 in
theorem mwk_369 : am_mwb am_m369 (2660, 13, 2658, 2659) = true := by decide +kernel
set_option maxRecDepth 100000 in
theorem mwk_370 : am_mwb am_m370 (2664, 13, 2662, 2663) = true := by decide +kernel
set_option maxRecDepth 100000 in
theorem mwk_371 : am_mwb am_m371 (2668, 13, 2667, 10139) = true := by decide +kernel
set_option maxRecDepth 100000 in
theorem mwk_372 : am_mwb am_m372 (2672, 13, 2670, 2671) = true := by decide +kernel
set_option maxRecDepth 100000 in
theorem mwk_373 : am_mwb am_m373 (2676, 13, 2674, 2675) = true := by decide +kernel
set_option maxRecDepth 100000 in
theorem mwk_374 : am_mwb am_m374 (2681, 13, 2679, 2680) = true := by decide +kernel
set_option maxRecDepth 100000 in
theorem mwk_375 : am_mwb am_m375 (2685, 13, 2684, 10140) = true := by decide +kernel
set_option maxRecDepth 100000 in
theorem mwk_376 : am_mwb am_m376 (2689, 13, 2687, 2688) = true := by decide +kernel
set_option maxRecDepth 100000 in
theorem mwk_377 : am_mwb am_m377 (2694, 13, 2693, 10141) = true := by decide +kernel
set_option maxRecDepth 100000 in
theorem mwk_378 : am_mwb am_m378 (2698, 13, 2697, 10142) = true := by decide +kernel
set_option maxRecDepth 100000 in
theorem mwk_379 : am_mwb am_m379 (2701, 13, 2700, 0) = true := by decide +kernel
set_option maxRecDepth 100000 in
theorem mwk_380 : am_mwb am_m380 (2706, 13, 2705, 10143) = true := by decide +kernel
set_option maxRecDepth 100000 in
theorem mwk_381 : am_mwb am_m381 (2709, 13, 2708, 0) = true := by decide +kernel
set_option maxRecDepth 100000 in
theorem mwk_382 : am_mwb am_m382 (2712, 13, 2711, 0) = true := by decide +kernel
set_option maxRecDepth 100000 in
theorem mwk_383 : am_mwb am_m383 (2716, 13, 2715, 10144) = true := by decide +kernel
set_option maxRecDepth 100000 in
theorem mwk_384 : am_mwb am_m384 (2720, 13, 2719, 10145) = true := by decide +kernel
set_option maxRecDepth 100000 in
theorem mwk_385 : am_mwb am_m385 (2724, 13, 2722, 2723) = true := by decide +kernel
set_option maxRecDepth 100000 in
theorem mwk_386 : am_mwb am_m386 (2728, 13, 2727, 10146) = true := by decide +kernel
set_option maxRecDepth 100000 in
theorem mwk_387 : am_mwb am_m387 (2732, 13, 2731, 10147) = true := by decide +kernel
set_option maxRecDepth 100000 in
theorem mwk_388 : am_mwb am_m388 (2736, 13, 2735, 10148) = true := by decide +kernel
set_option maxRecDepth 100000 in
theorem mwk_389 : am_mwb am_m389 (2740, 13, 2739, 10149) = true := by decide +kernel
set_option maxRecDepth 100000 in
theorem mwk_390 : am_mwb am_m390 (2744, 13, 2742, 2743) = true := by decide +kernel
set_option maxRecDepth 100000 in
theorem mwk_391 : am_mwb am_m391 (2748, 13, 2747, 10150) = true := by decide +kernel
set_option maxRecDepth 100000 in
theorem mwk_392 : am_mwb am_m392 (2752, 13, 2751, 10151) = true := by decide +kernel
set_option maxRecDepth 100000 in
theorem mwk_393 : am_mwb am_m393 (2758, 13, 2757, 10152) = true := by decide +kernel
set_option maxRecDepth 100000 in
theorem mwk_394 : am_mwb am_m394 (2762, 13, 2761, 10153) = true := by decide +kernel
set_option maxRecDepth 100000 in
theorem mwk_395 : am_mwb am_m395 (2766, 13, 2764, 2765) = true := by decide +kernel
set_option maxRecDepth 100000 in
theorem mwk_396 : am_mwb am_m396 (2770, 13, 2768, 2769) = true := by decide +kernel
set_option maxRecDepth 100000 in
theorem mwk_397 : am_mwb am_m397 (2774, 13, 2772, 2773) = true := by decide +kernel
set_option maxRecDepth 100000 in
theorem mwk_398 : am_mwb am_m398 (2778, 13, 2777, 10154) = true := by decide +kernel
set_option maxRecDepth 100000 in
theorem mwk_399 : am_mwb am_m399 (2782, 13, 2780, 2781) = true := by decide +kernel
