/-- words that stay true as the machine goes on -/
def am_gw (w : Cond) : Bool := goodWord w || (match w with
  | .methodLinkNest _ _ _ _ => true
  | .fieldLinkNest _ _ _ _ _ _ => true
  | .declares _ => true
  | .castable _ _ => true
  | .arrayOver (.object _) => true
  | .arrayOver (.array _) => true
  | _ => false)
theorem am_gw_at {args a1 : Array Value} {s U : State} (hW : s.WarmedH U.vm) {w : Cond} (hg : am_gw w = true) (h : w.before args s = true) : w.before a1 U = true := by
  unfold am_gw at hg
  rw [Bool.or_eq_true] at hg
  rcases hg with hg | hg
  · exact word_at hW (good_of_word hg) h
  · split at hg
    · exact va_any rfl (va_Nw.warmM hW (va_any rfl h))
    · exact va_any rfl (va_Nw.warmF hW (va_any rfl h))
    · exact va_tabs rfl (rfl : (s.setVm U.vm).vm = U.vm) (Cond.faceAtom_setVm hW.alike _ rfl h)
    · exact va_tabs rfl (rfl : (s.setVm U.vm).vm = U.vm) (Cond.faceAtom_setVm hW.alike _ rfl h)
    · exact va_AO.use (va_AO.moved hW.alike (va_AO.of h))
    · exact over_moved hW.alike h
    · cases hg
/-- the words of the tables that stay true -/
def am_tb : List Cond := lw_tbl.filter am_gw
def am_tk : Nat → List Cond
  | 0 => tables_1_1
  | 1 => tables_1_2
  | 2 => tables_1_3
  | 3 => tables_1_4
  | 4 => tables_1_5
  | 5 => tables_1_6
  | 6 => tables_1_7
  | 7 => tables_1_8
  | 8 => tables_1_9
  | 9 => tables_1_10
  | 10 => tables_1_11
  | 11 => tables_1_12
  | 12 => tables_1_13
  | 13 => tables_1_14
  | 14 => tables_1_15
  | _ => []
theorem am_tk_sub {w : Cond} : ∀ k, w ∈ am_tk k → w ∈ tables_1
  | 0, h => List.mem_append_left _ h
  | 1, h => List.mem_append_right _ (List.mem_append_left _ h)
  | 2, h => List.mem_append_right _ (List.mem_append_right _ (List.mem_append_left _ h))
  | 3, h => List.mem_append_right _ (List.mem_append_right _ (List.mem_append_right _ (List.mem_append_left _ h)))
  | 4, h => List.mem_append_right _ (List.mem_append_right _ (List.mem_append_right _ (List.mem_append_right _ (List.mem_append_left _ h))))
  | 5, h => List.mem_append_right _ (List.mem_append_right _ (List.mem_append_right _ (List.mem_append_right _ (List.mem_append_right _ (List.mem_append_left _ h)))))
  | 6, h => List.mem_append_right _ (List.mem_append_right _ (List.mem_append_right _ (List.mem_append_right _ (List.mem_append_right _ (List.mem_append_right _ (List.mem_append_left _ h))))))
  | 7, h => List.mem_append_right _ (List.mem_append_right _ (List.mem_append_right _ (List.mem_append_right _ (List.mem_append_right _ (List.mem_append_right _ (List.mem_append_right _ (List.mem_append_left _ h)))))))
  | 8, h => List.mem_append_right _ (List.mem_append_right _ (List.mem_append_right _ (List.mem_append_right _ (List.mem_append_right _ (List.mem_append_right _ (List.mem_append_right _ (List.mem_append_right _ (List.mem_append_left _ h))))))))
  | 9, h => List.mem_append_right _ (List.mem_append_right _ (List.mem_append_right _ (List.mem_append_right _ (List.mem_append_right _ (List.mem_append_right _ (List.mem_append_right _ (List.mem_append_right _ (List.mem_append_right _ (List.mem_append_left _ h)))))))))
  | 10, h => List.mem_append_right _ (List.mem_append_right _ (List.mem_append_right _ (List.mem_append_right _ (List.mem_append_right _ (List.mem_append_right _ (List.mem_append_right _ (List.mem_append_right _ (List.mem_append_right _ (List.mem_append_right _ (List.mem_append_left _ h))))))))))
  | 11, h => List.mem_append_right _ (List.mem_append_right _ (List.mem_append_right _ (List.mem_append_right _ (List.mem_append_right _ (List.mem_append_right _ (List.mem_append_right _ (List.mem_append_right _ (List.mem_append_right _ (List.mem_append_right _ (List.mem_append_right _ (List.mem_append_left _ h)))))))))))
  | 12, h => List.mem_append_right _ (List.mem_append_right _ (List.mem_append_right _ (List.mem_append_right _ (List.mem_append_right _ (List.mem_append_right _ (List.mem_append_right _ (List.mem_append_right _ (List.mem_append_right _ (List.mem_append_right _ (List.mem_append_right _ (List.mem_append_right _ (List.mem_append_left _ h))))))))))))
  | 13, h => List.mem_append_right _ (List.mem_append_right _ (List.mem_append_right _ (List.mem_append_right _ (List.mem_append_right _ (List.mem_append_right _ (List.mem_append_right _ (List.mem_append_right _ (List.mem_append_right _ (List.mem_append_right _ (List.mem_append_right _ (List.mem_append_right _ (List.mem_append_right _ (List.mem_append_left _ h)))))))))))))
  | 14, h => List.mem_append_right _ (List.mem_append_right _ (List.mem_append_right _ (List.mem_append_right _ (List.mem_append_right _ (List.mem_append_right _ (List.mem_append_right _ (List.mem_append_right _ (List.mem_append_right _ (List.mem_append_right _ (List.mem_append_right _ (List.mem_append_right _ (List.mem_append_right _ (List.mem_append_right _ (h))))))))))))))
  | (_ + 15), h => absurd (show w ∈ ([] : List Cond) from h) List.not_mem_nil
/-- the tables' words by their places: rows of 240 -/
def am_tix (i : Nat) (w : Cond) : Bool := decide ((am_tk (i / 240))[i % 240]? = some w) && am_gw w
theorem am_tix_mem {i : Nat} {w : Cond} (h : am_tix i w = true) : w ∈ am_tb := by
  unfold am_tix at h
  rw [Bool.and_eq_true, decide_eq_true_eq] at h
  exact List.mem_filter.mpr ⟨List.mem_append_right _ (am_tk_sub _ (List.mem_of_getElem? h.1)), h.2⟩
theorem am_zip {α β : Type} {l : List α} {ps : List β} {f : α → β → Bool} (hl : l.length ≤ ps.length) (h : (l.zip ps).all (fun q => f q.1 q.2) = true) : ∀ a ∈ l, ∃ b, f a b = true := by
  induction l generalizing ps with
  | nil => intro a ha; cases ha
  | cons x r ih =>
    cases ps with
    | nil => simp at hl
    | cons y t =>
      simp only [List.zip_cons_cons, List.all_cons, Bool.and_eq_true] at h
      intro a ha
      rcases List.mem_cons.mp ha with rfl | ha
      · exact ⟨y, h.1⟩
      · exact ih (by simpa using hl) h.2 a ha
set_option maxRecDepth 100000 in
theorem am_uw0 : ((u_ws RX0 TX0 13).zip [416, 418, 420, 422, 424, 426, 428, 430, 432, 434, 436, 438, 440]).all (fun q => am_tix q.2 q.1) = true := by decide +kernel
set_option maxRecDepth 100000 in
theorem am_uw1 : ((u_ws RX1 TX1 10).zip [239, 241, 243, 245, 247, 249, 251, 253, 255, 257]).all (fun q => am_tix q.2 q.1) = true := by decide +kernel
set_option maxRecDepth 100000 in
theorem am_uw2 : ((u_ws RX2 TX2 6).zip [193, 195, 197, 199, 201, 203]).all (fun q => am_tix q.2 q.1) = true := by decide +kernel
set_option maxRecDepth 100000 in
theorem am_uw3 : ((u_ws RX3 TX3 11).zip [377, 379, 381, 383, 385, 387, 389, 391, 393, 395, 397]).all (fun q => am_tix q.2 q.1) = true := by decide +kernel
set_option maxRecDepth 100000 in
theorem am_uw4 : ((u_ws RX4 TX4 9).zip [309, 311, 313, 315, 317, 319, 321, 323, 325]).all (fun q => am_tix q.2 q.1) = true := by decide +kernel
set_option maxRecDepth 100000 in
theorem am_uw5 : ((u_ws RX5 TX5 7).zip [463, 465, 467, 469, 471, 473, 475]).all (fun q => am_tix q.2 q.1) = true := by decide +kernel
set_option maxRecDepth 100000 in
theorem am_uw6 : ((u_ws RX6 TX6 15).zip [150, 152, 154, 156, 158, 160, 162, 164, 166, 168, 170, 172, 174, 176, 178]).all (fun q => am_tix q.2 q.1) = true := by decide +kernel
set_option maxRecDepth 100000 in
theorem am_uw7 : ((u_ws RX7 TX7 8).zip [67, 69, 71, 73, 75, 77, 79, 81]).all (fun q => am_tix q.2 q.1) = true := by decide +kernel
set_option maxRecDepth 100000 in
theorem am_uw8 : ((u_ws RX8 TX8 1).zip [221]).all (fun q => am_tix q.2 q.1) = true := by decide +kernel
set_option maxRecDepth 100000 in
theorem am_uw9 : ((u_ws RX9 TX9 9).zip [96, 98, 100, 102, 104, 106, 108, 110, 112]).all (fun q => am_tix q.2 q.1) = true := by decide +kernel
set_option maxRecDepth 100000 in
theorem am_uw10 : ((u_ws RX10 TX10 11).zip [499, 501, 503, 505, 507, 509, 511, 513, 515, 517, 519]).all (fun q => am_tix q.2 q.1) = true := by decide +kernel
set_option maxRecDepth 100000 in
theorem am_uw11 : ((u_ws RX11 TX11 20).zip [545, 547, 549, 551, 553, 555, 557, 559, 561, 563, 565, 567, 569, 571, 573, 575, 577, 579, 581, 583]).all (fun q => am_tix q.2 q.1) = true := by decide +kernel
set_option maxRecDepth 100000 in
theorem am_uw12 : ((u_ws RX12 TX12 138).zip [2207, 2209, 2211, 2213, 2215, 2217, 2219, 2221, 2223, 2225, 2227, 2229, 2231, 2233, 2235, 2237, 2239, 2241, 2243, 2245, 2247, 2249, 2251, 2253, 2255, 2257, 2259, 2261, 2263, 2265, 2267, 2269, 2271, 2273, 2275, 2277, 2279, 2281, 2283, 2285, 2287, 2289, 2291, 2293, 2295, 2297, 2299, 2301, 2303, 2305, 2307, 2309, 2311, 2313, 2315, 2317, 2319, 2321, 2323, 2325, 2327, 2329, 2331, 2333, 2335, 2337, 2339, 2341, 2343, 2345, 2347, 2349, 2351, 2353, 2355, 2357, 2359, 2361, 2363, 2365, 2367, 2369, 2371, 2373, 2375, 2377, 2379, 2381, 2383, 2385, 2387, 2389, 2391, 2393, 2395, 2397, 2399, 2401, 2403, 2405, 2407, 2409, 2411, 2413, 2415, 2417, 2419, 2421, 2423, 2425, 2427, 2429, 2431, 2433, 2435, 2437, 2439, 2441, 2443, 2445, 2447, 2449, 2451, 2453, 2455, 2457, 2459, 2461, 2463, 2465, 2467, 2469, 2471, 2473, 2475, 2477, 2479, 2481]).all (fun q => am_tix q.2 q.1) = true := by decide +kernel
set_option maxRecDepth 100000 in
theorem am_uws : ∀ (ci : Nat) (r : vw_C), vwCl[ci]? = some r → ∀ w ∈ u_ws r.1 r.2.1 r.2.2, w ∈ am_tb := by
  intro ci r hr
  match ci, hr with
  | 0, hr => cases hr; intro w hw; obtain ⟨b, hb⟩ := am_zip (f := fun w i => am_tix i w) (by decide) am_uw0 w hw; exact am_tix_mem hb
  | 1, hr => cases hr; intro w hw; obtain ⟨b, hb⟩ := am_zip (f := fun w i => am_tix i w) (by decide) am_uw1 w hw; exact am_tix_mem hb
  | 2, hr => cases hr; intro w hw; obtain ⟨b, hb⟩ := am_zip (f := fun w i => am_tix i w) (by decide) am_uw2 w hw; exact am_tix_mem hb
  | 3, hr => cases hr; intro w hw; obtain ⟨b, hb⟩ := am_zip (f := fun w i => am_tix i w) (by decide) am_uw3 w hw; exact am_tix_mem hb
  | 4, hr => cases hr; intro w hw; obtain ⟨b, hb⟩ := am_zip (f := fun w i => am_tix i w) (by decide) am_uw4 w hw; exact am_tix_mem hb
  | 5, hr => cases hr; intro w hw; obtain ⟨b, hb⟩ := am_zip (f := fun w i => am_tix i w) (by decide) am_uw5 w hw; exact am_tix_mem hb
  | 6, hr => cases hr; intro w hw; obtain ⟨b, hb⟩ := am_zip (f := fun w i => am_tix i w) (by decide) am_uw6 w hw; exact am_tix_mem hb
  | 7, hr => cases hr; intro w hw; obtain ⟨b, hb⟩ := am_zip (f := fun w i => am_tix i w) (by decide) am_uw7 w hw; exact am_tix_mem hb
  | 8, hr => cases hr; intro w hw; obtain ⟨b, hb⟩ := am_zip (f := fun w i => am_tix i w) (by decide) am_uw8 w hw; exact am_tix_mem hb
  | 9, hr => cases hr; intro w hw; obtain ⟨b, hb⟩ := am_zip (f := fun w i => am_tix i w) (by decide) am_uw9 w hw; exact am_tix_mem hb
  | 10, hr => cases hr; intro w hw; obtain ⟨b, hb⟩ := am_zip (f := fun w i => am_tix i w) (by decide) am_uw10 w hw; exact am_tix_mem hb
  | 11, hr => cases hr; intro w hw; obtain ⟨b, hb⟩ := am_zip (f := fun w i => am_tix i w) (by decide) am_uw11 w hw; exact am_tix_mem hb
  | 12, hr => cases hr; intro w hw; obtain ⟨b, hb⟩ := am_zip (f := fun w i => am_tix i w) (by decide) am_uw12 w hw; exact am_tix_mem hb
  | n + 13, hr => simp [vwCl] at hr
theorem am_clT : ∀ ci, ci < 13 → vwCl[ci]? = some (am_on.getD ci "", am_T ci, am_N ci) := by
  intro ci h
  match ci, h with
  | 0, _ => rfl
  | 1, _ => rfl
  | 2, _ => rfl
  | 3, _ => rfl
  | 4, _ => rfl
  | 5, _ => rfl
  | 6, _ => rfl
  | 7, _ => rfl
  | 8, _ => rfl
  | 9, _ => rfl
  | 10, _ => rfl
  | 11, _ => rfl
  | 12, _ => rfl
  | n + 13, h => exact absurd h (by omega)
theorem am_tyT : ∀ ci, ci < 13 → (∀ k, k < am_N ci → parseFieldDescriptor (am_T ci k).2.2.1 = some (am_ty ci k)) ∧ (∀ a, a < am_N ci → ∀ b, b < am_N ci → a ≠ b → (am_T ci a).2.1 ≠ (am_T ci b).2.1) := by
  intro ci h
  match ci, h with
  | 0, _ => exact ⟨tyX0_ok, nmX0⟩
  | 1, _ => exact ⟨tyX1_ok, nmX1⟩
  | 2, _ => exact ⟨tyX2_ok, nmX2⟩
  | 3, _ => exact ⟨tyX3_ok, nmX3⟩
  | 4, _ => exact ⟨tyX4_ok, nmX4⟩
  | 5, _ => exact ⟨tyX5_ok, nmX5⟩
  | 6, _ => exact ⟨tyX6_ok, nmX6⟩
  | 7, _ => exact ⟨tyX7_ok, nmX7⟩
  | 8, _ => exact ⟨tyX8_ok, nmX8⟩
  | 9, _ => exact ⟨tyX9_ok, nmX9⟩
  | 10, _ => exact ⟨tyX10_ok, nmX10⟩
  | 11, _ => exact ⟨tyX11_ok, nmX11⟩
  | 12, _ => exact ⟨tyX12_ok, nmX12⟩
  | n + 13, h => exact absurd h (by omega)
def am_fw (q : Nat × Nat × Nat) : Cond := .fieldLink (am_on.getD q.1 "") q.2.1 (am_T (q.2.2 / 256) (q.2.2 % 256)).1 (am_T (q.2.2 / 256) (q.2.2 % 256)).2.1 (am_T (q.2.2 / 256) (q.2.2 % 256)).2.2.1
set_option maxRecDepth 100000 in
theorem am_fl_0_k : (am_fl_0.zip [525, 526, 527, 528, 529, 530, 531, 532, 533, 534, 535, 536, 537, 538, 539, 540, 541, 542, 543, 544, 344, 359, 366, 368, 370, 372, 374, 349, 376, 184, 187, 182, 403, 229, 220, 225, 227, 231, 308, 458, 454, 456, 364, 138, 135, 133, 233, 190, 402, 404, 405, 406, 407, 408, 409, 410, 411, 412, 413, 414, 415, 343, 356, 348, 59, 61, 63, 54, 57, 65, 224, 226, 228, 230, 232, 234, 235, 236, 237, 238, 186, 355, 181, 183, 185, 189, 191, 192, 130, 132, 137, 341, 347, 353, 363, 365, 367, 369, 371, 373]).all (fun q => am_tix q.2 (am_fw q.1) && (Nat.blt (q.1.2.2 % 256) (am_N (q.1.2.2 / 256)) && Nat.blt (q.1.2.2 / 256) 13)) = true := by decide +kernel
set_option maxRecDepth 100000 in
theorem am_fl_1_k : (am_fl_1.zip [375, 340, 299, 300, 301, 302, 303, 304, 305, 306, 307, 362, 188, 453, 455, 457, 459, 460, 461, 462, 357, 129, 131, 134, 136, 139, 140, 141, 142, 143, 144, 145, 146, 147, 148, 149, 342, 360, 350, 52, 53, 55, 58, 60, 62, 64, 66, 358, 219, 87, 88, 89, 90, 91, 92, 93, 94, 95, 361, 346, 352, 488, 489, 490, 491, 492, 493, 494, 495, 496, 497, 498, 354, 56, 345, 351, 2071, 2072, 2073, 2074, 2075, 2076, 2077, 2078, 2079, 2080, 2081, 2085, 2086, 2090, 2091, 2093, 2094, 2095, 2096, 2097, 2098, 2099, 2101, 2102]).all (fun q => am_tix q.2 (am_fw q.1) && (Nat.blt (q.1.2.2 % 256) (am_N (q.1.2.2 / 256)) && Nat.blt (q.1.2.2 / 256) 13)) = true := by decide +kernel
set_option maxRecDepth 100000 in
theorem am_fl_2_k : (am_fl_2.zip [2103, 2104, 2105, 2106, 2107, 2108, 2110, 2111, 2112, 2113, 2114, 2115, 2116, 2124, 2129, 2130, 2131, 2132, 2133, 2136, 2140, 2143, 2144, 2145, 2148, 2150, 2151, 2152, 2153, 2154, 2155, 2156, 2158, 2159, 2167, 2168, 2169, 2170, 2171, 2172, 2173, 2175, 2176, 2178, 2179, 2180, 2181, 2182, 2183, 2185, 2186, 2187, 2188, 2189, 2191, 2192, 2193, 2194, 2195, 2196, 2197, 2198, 2199, 2201, 2202, 2203, 2204, 2205, 2206, 2069, 2070, 2082, 2083, 2084, 2089, 2087, 2088, 2092, 2120, 2121, 2122, 2123, 2119, 2117, 2118, 2127, 2128, 2134, 2135, 2137, 2139, 2138, 2141, 2142, 2146, 2147, 2149, 2157, 2109, 2100]).all (fun q => am_tix q.2 (am_fw q.1) && (Nat.blt (q.1.2.2 % 256) (am_N (q.1.2.2 / 256)) && Nat.blt (q.1.2.2 / 256) 13)) = true := by decide +kernel
set_option maxRecDepth 100000 in
theorem am_fl_3_k : (am_fl_3.zip [2125, 2126, 2160, 2161, 2163, 2162, 2164, 2165, 2166, 2174, 2177, 2184, 2190, 2200]).all (fun q => am_tix q.2 (am_fw q.1) && (Nat.blt (q.1.2.2 % 256) (am_N (q.1.2.2 / 256)) && Nat.blt (q.1.2.2 / 256) 13)) = true := by decide +kernel
theorem am_fl_k : ∀ q ∈ am_fl, am_fw q ∈ am_tb ∧ q.2.2 % 256 < am_N (q.2.2 / 256) ∧ q.2.2 / 256 < 13 := by
  have key : ∀ q ∈ am_fl, ∃ i, (am_tix i (am_fw q) && (Nat.blt (q.2.2 % 256) (am_N (q.2.2 / 256)) && Nat.blt (q.2.2 / 256) 13)) = true := by
    intro q hq
    simp only [am_fl, List.mem_append] at hq
    rcases hq with ((hq | hq) | hq) | hq
    · exact am_zip (f := fun q i => (am_tix i (am_fw q) && (Nat.blt (q.2.2 % 256) (am_N (q.2.2 / 256)) && Nat.blt (q.2.2 / 256) 13))) (by decide) am_fl_0_k q hq
    · exact am_zip (f := fun q i => (am_tix i (am_fw q) && (Nat.blt (q.2.2 % 256) (am_N (q.2.2 / 256)) && Nat.blt (q.2.2 / 256) 13))) (by decide) am_fl_1_k q hq
    · exact am_zip (f := fun q i => (am_tix i (am_fw q) && (Nat.blt (q.2.2 % 256) (am_N (q.2.2 / 256)) && Nat.blt (q.2.2 / 256) 13))) (by decide) am_fl_2_k q hq
    · exact am_zip (f := fun q i => (am_tix i (am_fw q) && (Nat.blt (q.2.2 % 256) (am_N (q.2.2 / 256)) && Nat.blt (q.2.2 / 256) 13))) (by decide) am_fl_3_k q hq
  intro q hq
  obtain ⟨i, h⟩ := key q hq
  rw [Bool.and_eq_true, Bool.and_eq_true, Nat.blt_eq, Nat.blt_eq] at h
  exact ⟨am_tix_mem h.1, h.2.1, h.2.2⟩
def am_nw (q : Nat × Nat × Nat) : Cond := .classLink (am_on.getD q.1 "") q.2.1 (am_on.getD q.2.2 "")
set_option maxRecDepth 100000 in
theorem am_nl_k : ((am_nl.filter (fun q => Nat.blt q.2.2 100)).zip [38, 40, 115, 206, 261, 328, 443, 478, 523, 334, 400, 213, 121, 267, 449, 451, 127, 46, 484, 486, 30, 2062]).all (fun q => am_tix q.2 (am_nw q.1) && Nat.blt q.1.2.2 13) = true := by decide +kernel
set_option maxRecDepth 100000 in
theorem am_ini_k : ((List.range 13).zip [(9, 329), (6, 208), (4, 116), (10, 335), (8, 262), (11, 444), (5, 122), (3, 47), (7, 214), (2, 41), (12, 479), (1, 31), (13, 2063)]).all (fun q => am_tix q.2.1 (.initialized (am_on.getD q.1 "")) && am_tix q.2.2 (.instantiable (am_on.getD q.1 "") (am_N q.1))) = true := by decide +kernel
theorem am_ini : ∀ ci, ci < 13 → Cond.initialized (am_on.getD ci "") ∈ am_tb ∧ Cond.instantiable (am_on.getD ci "") (am_N ci) ∈ am_tb := by
  intro ci h
  obtain ⟨b, hb⟩ := am_zip (f := fun q (i : Nat × Nat) => am_tix i.1 (.initialized (am_on.getD q "")) && am_tix i.2 (.instantiable (am_on.getD q "") (am_N q))) (by decide) am_ini_k ci (List.mem_range.mpr h)
  rw [Bool.and_eq_true] at hb
  exact ⟨am_tix_mem hb.1, am_tix_mem hb.2⟩
theorem am_nl_w : ∀ q ∈ am_nl, q.2.2 < 100 → am_nw q ∈ am_tb ∧ q.2.2 < 13 := by
  intro q hq h
  obtain ⟨b, hb⟩ := am_zip (f := fun q i => am_tix i (am_nw q) && Nat.blt q.2.2 13) (by decide) am_nl_k q (List.mem_filter.mpr ⟨hq, Nat.blt_eq.mpr h⟩)
  rw [Bool.and_eq_true, Nat.blt_eq] at hb
  exact ⟨am_tix_mem hb.1, hb.2⟩
set_option maxRecDepth 100000 in
theorem am_acl : am_tix 85 (.arrayClass .int) = true ∧ am_tix 260 (.arrayClass .long) = true ∧ am_tix 86 (.arrayClass .boolean) = true ∧ am_tix 84 (.arrayClass .char) = true := by decide +kernel
def am_kw (q : Nat × Nat × Nat) : Option Cond := match am_ks[q.2.2]? with
  | some (.int v) => some (.constant (am_on.getD q.1 "") q.2.1 v)
  | some (.long v) => some (.constantLong (am_on.getD q.1 "") q.2.1 v)
  | _ => none
set_option maxRecDepth 100000 in
theorem am_kl_k : (am_kl.zip [1659, 1265, 1257, 290, 1109, 1820, 1509, 1510, 1516, 594, 736, 831, 870, 673, 1029, 1044, 1064, 1073, 1103, 1134, 1135, 1342, 1485, 1358, 1533, 1546, 1616, 1617, 1715, 1752, 1786, 1794, 1835, 1993, 2001, 2009, 938, 2033, 1545, 1608, 1153, 1280, 713, 1676, 2068, 2976, 2977, 2492, 2545, 2546, 2602, 2603, 2497, 2677, 2702, 2690, 2753, 2754, 2787, 2892, 2888, 2935, 2936, 2937, 2954, 2955, 3092, 3093, 3102, 3151, 3260, 3261, 3207, 3549, 1727, 1728, 1729]).all (fun q => match am_kw q.1 with
  | some w => am_tix q.2 w
  | none => true) = true := by decide +kernel
theorem am_kl_w : ∀ q ∈ am_kl, ∀ w, am_kw q = some w → w ∈ am_tb := by
  intro q hq w hw
  obtain ⟨b, hb⟩ := am_zip (f := fun q i => match am_kw q with
    | some w => am_tix i w
    | none => true) (by decide) am_kl_k q hq
  rw [hw] at hb
  exact am_tix_mem hb
/-- what an array of references of a kind holds -/
def am_oc (t : Nat) : String := if t == 4 then RX3 else RX1
set_option maxRecDepth 100000 in
theorem am_al_k : ((am_al.filter (fun q => Nat.blt q.2.2 6)).zip [38, 206, 486]).all (fun q => am_tix q.2 (.classLink (am_on.getD q.1.1 "") q.1.2.1 (am_oc q.1.2.2)) && Nat.ble 4 q.1.2.2) = true := by decide +kernel
set_option maxRecDepth 100000 in
theorem am_al_w : ∀ q ∈ am_al, q.2.2 < 6 → Cond.classLink (am_on.getD q.1 "") q.2.1 (am_oc q.2.2) ∈ am_tb ∧ 4 ≤ q.2.2 := by
  intro q hq h
  obtain ⟨b, hb⟩ := am_zip (f := fun q i => am_tix i (.classLink (am_on.getD q.1 "") q.2.1 (am_oc q.2.2)) && Nat.ble 4 q.2.2) (by decide) am_al_k q (List.mem_filter.mpr ⟨hq, Nat.blt_eq.mpr h⟩)
  rw [Bool.and_eq_true, Nat.ble_eq] at hb
  exact ⟨am_tix_mem hb.1, hb.2⟩
set_option maxRecDepth 100000 in
theorem am_aov : am_tix 39 (.arrayOver (.object RX3)) = true ∧ am_tix 207 (.arrayOver (.object RX1)) = true ∧ am_tix 270 (.arrayOver (.array .long)) = true := by decide +kernel
set_option maxRecDepth 100000 in
theorem am_al6_k : ((am_al.filter (fun q => q.2.2 == 6)).zip [269]).all (fun q => am_tix q.2 (.classLink (am_on.getD q.1.1 "") q.1.2.1 (FieldType.array .long).toString)) = true := by decide +kernel
set_option maxRecDepth 100000 in
theorem am_al6_w : ∀ q ∈ am_al, q.2.2 = 6 → Cond.classLink (am_on.getD q.1 "") q.2.1 (FieldType.array .long).toString ∈ am_tb := by
  intro q hq h
  obtain ⟨b, hb⟩ := am_zip (f := fun q i => am_tix i (.classLink (am_on.getD q.1 "") q.2.1 (FieldType.array .long).toString)) (by decide) am_al6_k q (List.mem_filter.mpr ⟨hq, by rw [beq_iff_eq]; exact h⟩)
  exact am_tix_mem hb
set_option maxRecDepth 100000 in
theorem am_sl_k : ((am_sl.filter (fun q => q.1 == 11)).zip [1338, 1340]).all (fun q => am_tix q.2 (.fieldLink RX11 q.1.2.1 RX11 (am_sn q.1.2.2) "[I") && am_xst q.1.2.2) = true := by decide +kernel
set_option maxRecDepth 100000 in
theorem am_sl_w : ∀ q ∈ am_sl, q.1 = 11 → Cond.fieldLink RX11 q.2.1 RX11 (am_sn q.2.2) "[I" ∈ am_tb ∧ am_xst q.2.2 = true := by
  intro q hq h
  obtain ⟨b, hb⟩ := am_zip (f := fun q i => am_tix i (.fieldLink RX11 q.2.1 RX11 (am_sn q.2.2) "[I") && am_xst q.2.2) (by decide) am_sl_k q (List.mem_filter.mpr ⟨hq, by rw [beq_iff_eq]; exact h⟩)
  rw [Bool.and_eq_true] at hb
  exact ⟨am_tix_mem hb.1, hb.2⟩
set_option maxRecDepth 100000 in
theorem am_sl_nk : ((am_sl.filter (fun q => !(q.1 == 11))).zip [1826]).all (fun q => am_tix q.2 (.fieldLinkNest (am_on.getD q.1.1 "") q.1.2.1 RX11 (am_sn q.1.2.2) "[I" "BreedingHouse")) = true := by decide +kernel
set_option maxRecDepth 100000 in
theorem am_sl_n : ∀ q ∈ am_sl, ¬ q.1 = 11 → ∃ host, Cond.fieldLinkNest (am_on.getD q.1 "") q.2.1 RX11 (am_sn q.2.2) "[I" host ∈ am_tb := by
  intro q hq h
  obtain ⟨b, hb⟩ := am_zip (f := fun q i => am_tix i (.fieldLinkNest (am_on.getD q.1 "") q.2.1 RX11 (am_sn q.2.2) "[I" "BreedingHouse")) (by decide) am_sl_nk q (List.mem_filter.mpr ⟨hq, by simp [h]⟩)
  exact ⟨_, am_tix_mem hb⟩
def am_xn (x : Nat) : String := if x == 0 then "java/lang/IllegalArgumentException" else if x == 1 then "java/lang/IllegalStateException" else "java/lang/IndexOutOfBoundsException"
def am_xup : List String := ["java/lang/RuntimeException", "java/lang/Exception"]
/-- pool numbers of the constructors, of the names -/
def am_xic (x : Nat) : Nat := if x == 0 then 118 else if x == 1 then 217 else 181
def am_xik (x : Nat) : Nat := if x == 0 then 114 else if x == 1 then 213 else 177
set_option maxRecDepth 100000 in
theorem am_xw0 : (Cond.classLink RX11 (am_xik 0) (am_xn 0) :: Cond.initialized (am_xn 0) :: Cond.castable (am_xn 0) (am_xn 0) :: vx_atS RX11 (am_xic 0) (am_xn 0) am_xup).all (fun w => decide (w ∈ lw_tbl) && (am_gw w && vx_ot w)) = true := by decide +kernel
set_option maxRecDepth 100000 in
theorem am_xw1 : (Cond.classLink RX11 (am_xik 1) (am_xn 1) :: Cond.initialized (am_xn 1) :: Cond.castable (am_xn 1) (am_xn 1) :: vx_atS RX11 (am_xic 1) (am_xn 1) am_xup).all (fun w => decide (w ∈ lw_tbl) && (am_gw w && vx_ot w)) = true := by decide +kernel
set_option maxRecDepth 100000 in
theorem am_xw2 : (Cond.classLink RX11 (am_xik 2) (am_xn 2) :: Cond.initialized (am_xn 2) :: Cond.castable (am_xn 2) (am_xn 2) :: vx_atS RX11 (am_xic 2) (am_xn 2) am_xup).all (fun w => decide (w ∈ lw_tbl) && (am_gw w && vx_ot w)) = true := by decide +kernel
theorem am_xw : ∀ x, x < 3 → ∀ w ∈ Cond.classLink RX11 (am_xik x) (am_xn x) :: Cond.initialized (am_xn x) :: Cond.castable (am_xn x) (am_xn x) :: vx_atS RX11 (am_xic x) (am_xn x) am_xup, w ∈ am_tb ∧ vx_ot w = true := by
  intro x hx
  have key : (Cond.classLink RX11 (am_xik x) (am_xn x) :: Cond.initialized (am_xn x) :: Cond.castable (am_xn x) (am_xn x) :: vx_atS RX11 (am_xic x) (am_xn x) am_xup).all (fun w => decide (w ∈ lw_tbl) && (am_gw w && vx_ot w)) = true := by
    match x, hx with
    | 0, _ => exact am_xw0
    | 1, _ => exact am_xw1
    | 2, _ => exact am_xw2
    | n + 3, h => exact absurd h (by omega)
  intro w hw
  have h := List.all_eq_true.mp key w hw
  rw [Bool.and_eq_true, Bool.and_eq_true, decide_eq_true_eq] at h
  exact ⟨List.mem_filter.mpr ⟨h.1, h.2.1⟩, h.2.2⟩
set_option maxRecDepth 100000 in
theorem am_cat_k : am_cat.all (fun q => decide (Cond.classLink (am_on.getD q.1.1 "") q.1.2 (am_xn q.2) ∈ lw_tbl) && am_gw (.classLink (am_on.getD q.1.1 "") q.1.2 (am_xn q.2)) && Nat.blt q.2 3) = true := by decide +kernel
