theorem rk1 {n : Nat} (h1 : 1 ≤ n) (h : n < 13) : ∀ w, w < 3 → ∀ s, s < 21 → rcRk (cC n 0) w s n = tS (273 * w + 13 * s + n) := by
  intro w hw s hs
  have e1 : (21 * w + s) / 21 = w := by omega
  have e2 : (21 * w + s) % 21 = s := by omega
  have e3 : 13 * (21 * w + s) + n = 273 * w + 13 * s + n := by omega
  have hj : 21 * w + s < 63 := by omega
  rcases (by omega : n = 1 ∨ n = 2 ∨ n = 3 ∨ n = 4 ∨ n = 5 ∨ n = 6 ∨ n = 7 ∨ n = 8 ∨ n = 9 ∨ n = 10 ∨ n = 11 ∨ n = 12) with rfl | rfl | rfl | rfl | rfl | rfl | rfl | rfl | rfl | rfl | rfl | rfl
  · have k := rk1_1 (21 * w + s) hj
    rw [e1, e2, e3] at k
    exact k
  · have k := rk1_2 (21 * w + s) hj
    rw [e1, e2, e3] at k
    exact k
  · have k := rk1_3 (21 * w + s) hj
    rw [e1, e2, e3] at k
    exact k
  · have k := rk1_4 (21 * w + s) hj
    rw [e1, e2, e3] at k
    exact k
  · have k := rk1_5 (21 * w + s) hj
    rw [e1, e2, e3] at k
    exact k
  · have k := rk1_6 (21 * w + s) hj
    rw [e1, e2, e3] at k
    exact k
  · have k := rk1_7 (21 * w + s) hj
    rw [e1, e2, e3] at k
    exact k
  · have k := rk1_8 (21 * w + s) hj
    rw [e1, e2, e3] at k
    exact k
  · have k := rk1_9 (21 * w + s) hj
    rw [e1, e2, e3] at k
    exact k
  · have k := rk1_10 (21 * w + s) hj
    rw [e1, e2, e3] at k
    exact k
  · have k := rk1_11 (21 * w + s) hj
    rw [e1, e2, e3] at k
    exact k
  · have k := rk1_12 (21 * w + s) hj
    rw [e1, e2, e3] at k
    exact k
theorem rk2 {n : Nat} (h1 : 1 ≤ n) (h : n < 13) : ∀ w, w < 3 → ∀ t, t < 2 → q3 t w n 21 = tC (14 * (2 * w + t) + n) := by
  rcases (by omega : n = 1 ∨ n = 2 ∨ n = 3 ∨ n = 4 ∨ n = 5 ∨ n = 6 ∨ n = 7 ∨ n = 8 ∨ n = 9 ∨ n = 10 ∨ n = 11 ∨ n = 12) with rfl | rfl | rfl | rfl | rfl | rfl | rfl | rfl | rfl | rfl | rfl | rfl
  · exact rk2_1
  · exact rk2_2
  · exact rk2_3
  · exact rk2_4
  · exact rk2_5
  · exact rk2_6
  · exact rk2_7
  · exact rk2_8
  · exact rk2_9
  · exact rk2_10
  · exact rk2_11
  · exact rk2_12
theorem tCs_len (k : Nat) : (tCs k).length ≤ 6 := by
  unfold tCs
  split <;> exact Nat.le_of_ble_eq_true rfl
theorem tSs_len (k : Nat) : (tSs k).length ≤ 63 := by
  unfold tSs
  split <;> exact Nat.le_of_ble_eq_true rfl
theorem tC_far {i : Nat} (h : 84 ≤ i) : tC i = 0 := by
  unfold tC
  rw [List.getD_eq_getElem?_getD, List.getElem?_eq_none (Nat.le_trans (tCs_len _) (by omega))]
  rfl
theorem tS_far {i : Nat} (h : 819 ≤ i) : tS i = 0 := by
  unfold tS
  rw [List.getD_eq_getElem?_getD, List.getElem?_eq_none (Nat.le_trans (tSs_len _) (by omega))]
  rfl
theorem tC_0 {i : Nat} (h : i % 14 = 0) : tC i = 0 := by
  unfold tC
  rw [h]
  rfl
theorem tC_13 {i : Nat} (h : i % 14 = 13) : tC i = 0 := by
  unfold tC
  rw [h]
  rfl
theorem tS_0 {i : Nat} (h : i % 13 = 0) : tS i = 0 := by
  unfold tS
  rw [h]
  rfl
theorem cS_up {n j : Nat} (hn : n < 13) : vp_updL (cS n j) (13 * j + n) (tS (13 * j + n)) = cS n (j + 1) := by
  funext i
  rw [updL_at]
  unfold cS
  by_cases c : i = 13 * j + n
  · rw [if_pos c, if_pos (by omega), c]
  · rw [if_neg c]
    by_cases p : i % 13 < n ∨ (i % 13 = n ∧ i / 13 < j)
    · rw [if_pos p, if_pos (by omega)]
    · rw [if_neg p, if_neg (by omega)]
theorem cC_up {n k : Nat} (hn : n < 14) : vp_updL (cC n k) (14 * k + n) (tC (14 * k + n)) = cC n (k + 1) := by
  funext i
  rw [updL_at]
  unfold cC
  by_cases c : i = 14 * k + n
  · rw [if_pos c, if_pos (by omega), c]
  · rw [if_neg c]
    by_cases p : i % 14 < n ∨ (i % 14 = n ∧ i / 14 < k)
    · rw [if_pos p, if_pos (by omega)]
    · rw [if_neg p, if_neg (by omega)]
theorem cS_next {n : Nat} (hn : n < 13) : cS n 63 = cS (n + 1) 0 := by
  funext i
  unfold cS
  by_cases p : i % 13 < n ∨ (i % 13 = n ∧ i / 13 < 63)
  · rw [if_pos p, if_pos (by omega)]
  · rw [if_neg p]
    by_cases q : i % 13 < n + 1
    · rw [if_pos (by omega), tS_far (by omega)]
    · rw [if_neg (by omega)]
theorem cC_next {n : Nat} (hn : n < 14) : cC n 6 = cC (n + 1) 0 := by
  funext i
  unfold cC
  by_cases p : i % 14 < n ∨ (i % 14 = n ∧ i / 14 < 6)
  · rw [if_pos p, if_pos (by omega)]
  · rw [if_neg p]
    by_cases q : i % 14 < n + 1
    · rw [if_pos (by omega), tC_far (by omega)]
    · rw [if_neg (by omega)]
theorem rc_j {w s n : Nat} : 273 * w + 13 * s + n = 13 * (21 * w + s) + n := by omega
theorem cS_in {n j i : Nat} (h : i % 13 = n ∧ i / 13 < j) : cS n j i = tS i := if_pos (.inr h)
/-- the loop over sorts -/
theorem e_377s {h : am_H} {Y : Nat → Int64} {N : Nat} (hN : 20 < N) (hO : rcO h) {rec15 : Value → Int32 → am_H → Option am_O} {rec23 : Value → Int32 → Int32 → am_H → Option am_O} {n w : Nat} (hn1 : 1 ≤ n) (hn : n < 13) (hw : w < 3) :
    ∀ (m s K : Nat), s + m = 21 → m < K → fg_377_36 N rec15 rec23 K (.ref 174) (nI n) (nI w) (q3 0 w n s) (q3 1 w n s) (nI s) (hc h (cC n 0) (cS n (21 * w + s)) Y) = rec23 (.ref 174) (nI n) (nI (w + 1)) (hc h (cC n 0) (cS n (21 * (w + 1))) (vp_updL (vp_updL Y (2 * w) (tC (14 * (2 * w) + n))) (2 * w + 1) (tC (14 * (2 * w + 1) + n)))) := by
  obtain ⟨hl, fs, h4, f1, f2, f3⟩ := id hO
  have g4 : ∀ {C S Y : Nat → Int64}, (hc h C S Y)[174]? = some (.inr (12, fs)) := fun {C S Y} => (hc_o (by omega) (by omega) (by omega)).trans h4
  intro m
  induction m with
  | zero =>
    intro s K hm hK
    obtain ⟨K, rfl⟩ : ∃ k, K = k + 1 := ⟨K - 1, by omega⟩
    rw [fg_377_36, show s = 21 by omega]
    refine ev_t (by decide) ?_
    rw [rk2 hn1 hn w hw 0 (by omega), rk2 hn1 hn w hw 1 (by omega)]
    refine ev_b (ev_gR (x := .ref 226) g4 rfl f3 rfl) ?_
    rw [show (2 : Int32) * nI w = nI (2 * w) from (nI_mul 2 w).symm]
    rw [show 2 * w + 0 = 2 * w from rfl]
    refine ev_b (ev_sL (h1 := hc h (cC n 0) (cS n (21 * w + 21)) (vp_updL Y (2 * w) (tC (14 * (2 * w) + n)))) (hc_Y hl) (am_inb_n (by omega) (by omega)) (by rw [nI_clamp (by omega)]; exact hc_sY)) ?_
    refine ev_b (ev_gR (x := .ref 226) g4 rfl f3 rfl) ?_
    rw [nI_1]
    refine ev_b (ev_sL (h1 := hc h (cC n 0) (cS n (21 * w + 21)) (vp_updL (vp_updL Y (2 * w) (tC (14 * (2 * w) + n))) (2 * w + 1) (tC (14 * (2 * w + 1) + n)))) (hc_Y hl) (am_inb_n (by omega) (by omega)) (by rw [nI_clamp (by omega)]; exact hc_sY)) ?_
    rw [nI_1, show 21 * w + 21 = 21 * (w + 1) by omega]
  | succ m ih =>
    intro s K hm hK
    obtain ⟨K, rfl⟩ : ∃ k, K = k + 1 := ⟨K - 1, by omega⟩
    rw [fg_377_36]
    refine ev_f (nI_ge (show s < 21 by omega) (by decide)) ?_
    refine ev_b (ev_gR (x := .ref 225) g4 rfl f2 rfl) ?_
    refine ev_i (rc_ok hO) ?_
    refine ev_cL (e_378 hN hO hw (by omega) hn1 hn) ?_
    rw [rk1 hn1 hn w hw s (by omega), rc_i2]
    refine ev_b (ev_sL (h1 := hc h (cC n 0) (cS n (21 * w + s + 1)) Y) (hc_S hl) (am_inb_n (by omega) (by omega)) (by rw [nI_clamp (by omega), rc_j, cS_up hn]; exact hc_sS)) ?_
    refine ev_cI (pe_334 _ _) ?_
    rw [tr_eq s (by omega)]
    have hv : cS n (21 * w + s + 1) (273 * w + 13 * s + n) = tS (13 * (21 * w + s) + n) := by rw [rc_j]; exact cS_in (by omega)
    have ht := tru_le s
    by_cases c : truN s = 0
    · refine ev_t (by rw [c]; rfl) ?_
      refine ev_i (rc_ok hO) ?_
      refine ev_cL (e_384 hO hw (by omega) hn) ?_
      unfold fg_377_104
      rw [nI_1, hv]
      have k := ih (s + 1) K (by omega) (by omega)
      rw [q3, q3, if_pos c, if_neg (by omega)] at k
      exact k
    · refine ev_f (nI_ne0 (by omega) (by omega)) ?_
      refine ev_i (rc_ok hO) ?_
      refine ev_cL (e_384 hO hw (by omega) hn) ?_
      unfold fg_377_104
      rw [nI_1, hv]
      have k := ih (s + 1) K (by omega) (by omega)
      rw [q3, q3, if_neg c, if_pos (by omega)] at k
      exact k
/-- a row of the six sums -/
def yY (n k : Nat) (Y : Nat → Int64) : Prop := ∀ i, i < k → Y i = tC (14 * i + n)
theorem e_377w {h : am_H} {N : Nat} (hN : 30 < N) (hO : rcO h) {rec15 : Value → Int32 → am_H → Option am_O} {n : Nat} (hn1 : 1 ≤ n) (hn : n < 13) :
    ∀ (m w K : Nat) (Y : Nat → Int64), w + m = 3 → m < K → yY n (2 * w) Y → ∃ Y1, yY n 6 Y1 ∧ fg_377_23 N rec15 K (.ref 174) (nI n) (nI w) (hc h (cC n 0) (cS n (21 * w)) Y) = fg_377_139 N rec15 N (.ref 174) (nI n) 0 (hc h (cC n 0) (cS (n + 1) 0) Y1) := by
  intro m
  induction m with
  | zero =>
    intro w K Y hm hK hY
    obtain ⟨K, rfl⟩ : ∃ k, K = k + 1 := ⟨K - 1, by omega⟩
    obtain rfl : w = 3 := by omega
    refine ⟨Y, hY, ?_⟩
    rw [fg_377_23]
    refine ev_t (by decide) ?_
    rw [cS_next hn]
  | succ m ih =>
    intro w K Y hm hK hY
    obtain ⟨K, rfl⟩ : ∃ k, K = k + 1 := ⟨K - 1, by omega⟩
    obtain ⟨Y1, hY1, k⟩ := ih (w + 1) K (vp_updL (vp_updL Y (2 * w) (tC (14 * (2 * w) + n))) (2 * w + 1) (tC (14 * (2 * w + 1) + n))) (by omega) (by omega) (by
      intro i hi
      rw [updL_at]
      by_cases c : i = 2 * w + 1
      · rw [if_pos c, c]
      · rw [if_neg c, updL_at]
        by_cases c2 : i = 2 * w
        · rw [if_pos c2, c2]
        · rw [if_neg c2]
          exact hY i (by omega))
    refine ⟨Y1, hY1, ?_⟩
    rw [fg_377_23]
    refine ev_f (nI_ge (show w < 3 by omega) (by decide)) ?_
    exact (e_377s (by omega) hO hn1 hn (by omega) 21 0 N rfl (by omega)).trans k
theorem rc_k : ∀ k, k < 6 → 28 * (nI k / 2) + 14 * (nI k - nI k / 2 * 2) = nI (14 * k) := by decide +kernel
theorem e_377k {h : am_H} {S Y : Nat → Int64} {N : Nat} (hO : rcO h) {rec15 : Value → Int32 → am_H → Option am_O} {n : Nat} (hn : n < 13) (hY : yY n 6 Y) :
    ∀ (m k K : Nat), k + m = 6 → m < K → fg_377_139 N rec15 K (.ref 174) (nI n) (nI k) (hc h (cC n k) S Y) = rec15 (.ref 174) (nI (n + 1)) (hc h (cC (n + 1) 0) S Y) := by
  obtain ⟨hl, fs, h4, f1, f2, f3⟩ := id hO
  have g4 : ∀ {C S Y : Nat → Int64}, (hc h C S Y)[174]? = some (.inr (12, fs)) := fun {C S Y} => (hc_o (by omega) (by omega) (by omega)).trans h4
  intro m
  induction m with
  | zero =>
    intro k K hm hK
    obtain ⟨K, rfl⟩ : ∃ k, K = k + 1 := ⟨K - 1, by omega⟩
    rw [fg_377_139, show k = 6 by omega]
    refine ev_t (by decide) ?_
    rw [nI_1, cC_next (by omega)]
  | succ m ih =>
    intro k K hm hK
    obtain ⟨K, rfl⟩ : ∃ k, K = k + 1 := ⟨K - 1, by omega⟩
    rw [fg_377_139]
    refine ev_f (nI_ge (show k < 6 by omega) (by decide)) ?_
    refine ev_b (ev_gR (x := .ref 224) g4 rfl f1 rfl) ?_
    refine ev_b (ev_gR (x := .ref 226) g4 rfl f3 rfl) ?_
    refine ev_b (ev_aL (hc_Y hl) (am_inb_n (by omega) (by omega))) ?_
    rw [nI_clamp (by omega), hY k (by omega), rc_k k (by omega), nI_add]
    refine ev_b (ev_sL (h1 := hc h (cC n (k + 1)) S Y) (hc_C hl) (am_inb_n (by omega) (by omega)) (by rw [nI_clamp (by omega), cC_up (by omega)]; exact hc_sC)) ?_
    rw [nI_1]
    exact ih (k + 1) K (by omega) (by omega)
theorem e_377n {h : am_H} {N : Nat} (hN : 40 < N) (hO : rcO h) :
    ∀ (m n K : Nat) (Y : Nat → Int64), n + m = 13 → 1 ≤ n → m < K → ∃ Y1, fg_377_15 N K (.ref 174) (nI n) (hc h (cC n 0) (cS n 0) Y) = some (.inl (none, hc h (cC 13 0) (cS 13 0) Y1)) := by
  intro m
  induction m with
  | zero =>
    intro n K Y hm h1 hK
    obtain ⟨K, rfl⟩ : ∃ k, K = k + 1 := ⟨K - 1, by omega⟩
    obtain rfl : n = 13 := by omega
    refine ⟨Y, ?_⟩
    rw [fg_377_15]
    exact ev_t (by decide) rfl
  | succ m ih =>
    intro n K Y hm h1 hK
    obtain ⟨K, rfl⟩ : ∃ k, K = k + 1 := ⟨K - 1, by omega⟩
    obtain ⟨Y1, hY1, k1⟩ := e_377w (N := N) (rec15 := fg_377_15 N K) (by omega) hO h1 (by omega : n < 13) 3 0 N Y rfl (by omega) (fun i hi => absurd hi (by omega))
    obtain ⟨Y2, k2⟩ := ih (n + 1) K Y1 (by omega) (by omega) (by omega)
    refine ⟨Y2, ?_⟩
    rw [fg_377_15]
    refine ev_f (nI_ge (show n < 13 by omega) (by decide)) ?_
    refine k1.trans ?_
    exact (e_377k hO (by omega) hY1 6 0 N rfl (by omega)).trans k2
theorem cC_all : cC 13 0 = tC := by
  funext i
  unfold cC
  by_cases c : i % 14 < 13 ∨ (i % 14 = 13 ∧ i / 14 < 0)
  · rw [if_pos c]
  · rw [if_neg c, tC_13 (by omega)]
theorem cS_all : cS 13 0 = tS := by
  funext i
  unfold cS
  rw [if_pos (by omega)]
theorem cC_one : cC 1 0 = fun _ => 0 := by
  funext i
  unfold cC
  by_cases c : i % 14 < 1 ∨ (i % 14 = 1 ∧ i / 14 < 0)
  · rw [if_pos c, tC_0 (by omega)]
  · rw [if_neg c]
theorem cS_one : cS 1 0 = fun _ => 0 := by
  funext i
  unfold cS
  by_cases c : i % 13 < 1 ∨ (i % 13 = 1 ∧ i / 13 < 0)
  · rw [if_pos c, tS_0 (by omega)]
  · rw [if_neg c]
/-- countAll() for the first time -/
theorem e_377 {h h1 : am_H} {N : Nat} {Y : Nat → Int64} (hN : 40 < N) (hv : am_vI (am_pG 3152 (.ref 174) h) = some 0) (hp : am_pP 3152 (.ref 174) (.int 1) h = some (hc h1 (fun _ => 0) (fun _ => 0) Y)) (hO : rcO h1) : ∃ Y1, fm_377 N (.ref 174) h = some (.inl (none, hc h1 tC tS Y1)) := by
  obtain ⟨Y1, k⟩ := e_377n hN hO 12 1 N Y rfl (by omega) (by omega)
  refine ⟨Y1, ?_⟩
  unfold fm_377 fg_377_0
  refine ev_b hv ?_
  refine ev_t rfl ?_
  refine ev_b hp ?_
  rw [cC_one, cS_one, cC_all, cS_all] at k
  exact k
