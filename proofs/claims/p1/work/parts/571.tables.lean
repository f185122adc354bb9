theorem tck : ∀ s, s < 13 → 1 ≤ s → ∀ c, c < 126 → rkCnt tT (nI (c / 21)) (nI (c % 21)) s = tW (c * 13 + s) := by
  intro s hs h1 c hc
  rcases (by omega : s = 1 ∨ s = 2 ∨ s = 3 ∨ s = 4 ∨ s = 5 ∨ s = 6 ∨ s = 7 ∨ s = 8 ∨ s = 9 ∨ s = 10 ∨ s = 11 ∨ s = 12) with rfl | rfl | rfl | rfl | rfl | rfl | rfl | rfl | rfl | rfl | rfl | rfl
  · exact tck_1 c hc
  · exact tck_2 c hc
  · exact tck_3 c hc
  · exact tck_4 c hc
  · exact tck_5 c hc
  · exact tck_6 c hc
  · exact tck_7 c hc
  · exact tck_8 c hc
  · exact tck_9 c hc
  · exact tck_10 c hc
  · exact tck_11 c hc
  · exact tck_12 c hc
/-- the part of a total that is made at a turn -/
def pS (s c x : Nat) : Nat → Int64
  | 0 => 0
  | k + 1 => if x * 21 + k < c then pS s c x k + tW ((x * 21 + k) * 13 + s) else pS s c x k
def pW (s c j : Nat) : Int64 := if j % 13 < s ∨ (j % 13 = s ∧ j / 13 < c) then tW j else 0
def pT (s c j : Nat) : Int64 := if j % 13 < s then tT j else if j % 13 = s then pS s c (j / 13) 21 else 0
set_option maxRecDepth 100000 in
theorem tck2_0 : ∀ x, x < 6 → pS 0 126 x 21 = tT (x * 13 + 0) := by decide +kernel
set_option maxRecDepth 100000 in
theorem tck2_1 : ∀ x, x < 6 → pS 1 126 x 21 = tT (x * 13 + 1) := by decide +kernel
set_option maxRecDepth 100000 in
theorem tck2_2 : ∀ x, x < 6 → pS 2 126 x 21 = tT (x * 13 + 2) := by decide +kernel
set_option maxRecDepth 100000 in
theorem tck2_3 : ∀ x, x < 6 → pS 3 126 x 21 = tT (x * 13 + 3) := by decide +kernel
set_option maxRecDepth 100000 in
theorem tck2_4 : ∀ x, x < 6 → pS 4 126 x 21 = tT (x * 13 + 4) := by decide +kernel
set_option maxRecDepth 100000 in
theorem tck2_5 : ∀ x, x < 6 → pS 5 126 x 21 = tT (x * 13 + 5) := by decide +kernel
set_option maxRecDepth 100000 in
theorem tck2_6 : ∀ x, x < 6 → pS 6 126 x 21 = tT (x * 13 + 6) := by decide +kernel
set_option maxRecDepth 100000 in
theorem tck2_7 : ∀ x, x < 6 → pS 7 126 x 21 = tT (x * 13 + 7) := by decide +kernel
set_option maxRecDepth 100000 in
theorem tck2_8 : ∀ x, x < 6 → pS 8 126 x 21 = tT (x * 13 + 8) := by decide +kernel
set_option maxRecDepth 100000 in
theorem tck2_9 : ∀ x, x < 6 → pS 9 126 x 21 = tT (x * 13 + 9) := by decide +kernel
set_option maxRecDepth 100000 in
theorem tck2_10 : ∀ x, x < 6 → pS 10 126 x 21 = tT (x * 13 + 10) := by decide +kernel
set_option maxRecDepth 100000 in
theorem tck2_11 : ∀ x, x < 6 → pS 11 126 x 21 = tT (x * 13 + 11) := by decide +kernel
set_option maxRecDepth 100000 in
theorem tck2_12 : ∀ x, x < 6 → pS 12 126 x 21 = tT (x * 13 + 12) := by decide +kernel
theorem tck2 : ∀ s, s < 13 → ∀ x, x < 6 → pS s 126 x 21 = tT (x * 13 + s) := by
  intro s hs x hx
  rcases (by omega : s = 0 ∨ s = 1 ∨ s = 2 ∨ s = 3 ∨ s = 4 ∨ s = 5 ∨ s = 6 ∨ s = 7 ∨ s = 8 ∨ s = 9 ∨ s = 10 ∨ s = 11 ∨ s = 12) with rfl | rfl | rfl | rfl | rfl | rfl | rfl | rfl | rfl | rfl | rfl | rfl | rfl
  · exact tck2_0 x hx
  · exact tck2_1 x hx
  · exact tck2_2 x hx
  · exact tck2_3 x hx
  · exact tck2_4 x hx
  · exact tck2_5 x hx
  · exact tck2_6 x hx
  · exact tck2_7 x hx
  · exact tck2_8 x hx
  · exact tck2_9 x hx
  · exact tck2_10 x hx
  · exact tck2_11 x hx
  · exact tck2_12 x hx
theorem pS_far {s c x : Nat} (h : c ≤ x * 21) : ∀ k, pS s c x k = 0 := by
  intro k
  induction k with
  | zero => rfl
  | succ k ih => rw [pS, if_neg (by omega)]; exact ih
theorem pS_out {s c x k : Nat} (h : x * 21 + k ≤ c) : pS s (c + 1) x k = pS s c x k := by
  induction k with
  | zero => rfl
  | succ k ih => rw [pS, pS, if_pos (by omega), if_pos (by omega), ih (by omega)]
theorem pS_lo {s c x : Nat} : ∀ k, c < x * 21 → pS s (c + 1) x k = pS s c x k := by
  intro k h
  rw [pS_far (by omega), pS_far (by omega)]
theorem pS_step {s c x : Nat} : ∀ k, c / 21 = x → x * 21 + k ≤ x * 21 + 21 → c < x * 21 + k → pS s (c + 1) x k = pS s c x k + tW (c * 13 + s) := by
  intro k
  induction k with
  | zero => intro h1 h2 h3; omega
  | succ k ih =>
    intro h1 h2 h3
    by_cases hc : c = x * 21 + k
    · rw [pS, if_pos (by omega), pS, if_neg (by omega), pS_out (by omega), hc]
    · rw [pS, if_neg (by omega), pS, if_neg (by omega), ih h1 (by omega) (by omega)]
theorem pS_other {s c x : Nat} (h : c / 21 ≠ x) : pS s (c + 1) x 21 = pS s c x 21 := by
  by_cases h1 : c < x * 21
  · exact pS_lo 21 h1
  · exact pS_out (by omega)
theorem rkTot_c {T T1 : Nat → Int64} {s : Nat} (h : ∀ j, j % 13 < s → T j = T1 j) (c : Int32) {f : Nat} (hf : f < s) (hs : s ≤ 13) : rkTot T c (nI f) = rkTot T1 c (nI f) := by
  unfold rkTot
  split
  · rfl
  · split
    · rfl
    · split
      · rfl
      · split
        · rfl
        · rename_i h1 h2 h3 h4
          obtain ⟨k, hk, rfl⟩ := nI_of h3
          have hk6 : k < 6 := Nat.not_le.mp (fun h9 => h4 ((nI_leI (by decide) hk).mpr h9))
          rw [rk_mul (b := 0), nI_clamp (by omega)]
          exact h _ (by omega)
theorem rkTwo_c {T T1 : Nat → Int64} {s : Nat} (h : ∀ j, j % 13 < s → T j = T1 j) (hs : s ≤ 13) (a b : Int32) {n : Nat} (hn : n < s) : ∀ (m f : Nat) (v : Int64), m + f ≤ n ∨ m = 0 → rkTwo T a b (nI n) m (nI f) v = rkTwo T1 a b (nI n) m (nI f) v := by
  intro m
  induction m with
  | zero => intro f v _; rfl
  | succ m ih =>
    intro f v hm
    rw [rkTwo, rkTwo, nI_sub (by omega), rkTot_c h a (by omega) hs, rkTot_c h b (by omega) hs, nI_1]
    exact ih (f + 1) _ (by omega)
theorem rkThr_c {T T1 : Nat → Int64} {s : Nat} (h : ∀ j, j % 13 < s → T j = T1 j) (hs : s ≤ 13) (a b : Int32) : ∀ (m f : Nat) (v : Int64), m + f ≤ s - 1 ∨ m = 0 → rkThr T a b s m f v = rkThr T1 a b s m f v := by
  intro m
  induction m with
  | zero => intro f v _; rfl
  | succ m ih =>
    intro f v hm
    rw [rkThr, rkThr, rkTot_c h a (by omega) hs]
    have e := rkTwo_c h hs b b (n := s - 1 - f) (by omega) (s - 1 - f - 1) 1 0 (by omega)
    rw [show (nI 1) = 1 from rfl] at e
    rw [e]
    exact ih (f + 1) _ (by omega)
theorem rkCnt_c {T T1 : Nat → Int64} {s : Nat} (h : ∀ j, j % 13 < s → T j = T1 j) (h1 : 1 ≤ s) (hs : s ≤ 13) (c k : Int32) : rkCnt T c k s = rkCnt T1 c k s := by
  unfold rkCnt
  have e := rkTwo_c h hs (pv_12 c k 0) (pv_12 c k 1) (n := s - 1) (by omega) (s - 1 - 1) 1 0 (by omega)
  rw [show (nI 1) = 1 from rfl] at e
  rw [rkTot_c h _ (by omega) hs, e, rkThr_c h hs _ _ (s - 1 - 1) 1 0 (by omega)]
theorem updL_at {f : Nat → Int64} {i j : Nat} {v : Int64} : vp_updL f i v j = if j = i then v else f j := rfl
theorem rk_turn {s c : Nat} (h1 : 1 ≤ s) (hs : s < 13) (hc : c < 126) : rkTurn s c (pW s c, pT s c) = (pW s (c + 1), pT s (c + 1)) := by
  have e : rkCnt (pT s c) (nI (c / 21)) (nI (c % 21)) s = tW (c * 13 + s) := by
    rw [rkCnt_c (T1 := tT) (fun j hj => by unfold pT; rw [if_pos hj]) h1 (by omega)]
    exact tck s hs h1 c hc
  unfold rkTurn
  simp only [e]
  refine Prod.ext ?_ ?_
  · funext j
    show vp_updL (pW s c) (c * 13 + s) (tW (c * 13 + s)) j = pW s (c + 1) j
    rw [updL_at]
    unfold pW
    by_cases hj : j = c * 13 + s
    · rw [if_pos hj, if_pos (by omega), hj]
    · rw [if_neg hj]
      by_cases hp : j % 13 < s ∨ (j % 13 = s ∧ j / 13 < c)
      · rw [if_pos hp, if_pos (by omega)]
      · rw [if_neg hp, if_neg (by omega)]
  · funext j
    show vp_updL (pT s c) (c / 21 * 13 + s) (pT s c (c / 21 * 13 + s) + tW (c * 13 + s)) j = pT s (c + 1) j
    rw [updL_at]
    by_cases hj : j = c / 21 * 13 + s
    · rw [if_pos hj, hj]
      unfold pT
      rw [if_neg (by omega), if_pos (by omega), if_neg (by omega), if_pos (by omega), show (c / 21 * 13 + s) / 13 = c / 21 by omega]
      exact (pS_step 21 rfl (by omega) (by omega)).symm
    · rw [if_neg hj]
      unfold pT
      by_cases hp : j % 13 < s
      · rw [if_pos hp, if_pos hp]
      · rw [if_neg hp, if_neg hp]
        by_cases hq : j % 13 = s
        · rw [if_pos hq, if_pos hq, pS_other (by omega)]
        · rw [if_neg hq, if_neg hq]
theorem rk_row {s : Nat} (h1 : 1 ≤ s) (hs : s < 13) : ∀ m c, m + c = 126 → rkRow s m c (pW s c, pT s c) = (pW s 126, pT s 126) := by
  intro m
  induction m with
  | zero => intro c hc; rw [show c = 126 by omega]; rfl
  | succ m ih =>
    intro c hc
    rw [rkRow, rk_turn h1 hs (by omega)]
    exact ih (c + 1) (by omega)
theorem tT_far {j : Nat} (h : 78 ≤ j) : tT j = 0 := by
  unfold tT
  split
  · rfl
  · rw [List.getD_eq_getElem?_getD, List.getElem?_eq_none (show tTl.length ≤ j from h)]
    rfl
set_option maxRecDepth 100000 in
theorem tWs_len (k : Nat) : (tWs k).length ≤ 126 := by
  unfold tWs
  split <;> exact Nat.le_of_ble_eq_true rfl
theorem tW_far {j : Nat} (h : 1638 ≤ j) : tW j = 0 := by
  unfold tW
  rw [List.getD_eq_getElem?_getD, List.getElem?_eq_none (Nat.le_trans (tWs_len _) (by omega))]
  rfl
theorem tW_0 {j : Nat} (h : j % 13 = 0) : tW j = 0 := by
  unfold tW
  rw [h]
  rfl
theorem rk_next {s : Nat} (hs : s < 13) : (pW s 126, pT s 126) = (pW (s + 1) 0, pT (s + 1) 0) := by
  refine Prod.ext ?_ ?_
  · funext j
    show pW s 126 j = pW (s + 1) 0 j
    unfold pW
    by_cases hp : j % 13 < s ∨ (j % 13 = s ∧ j / 13 < 126)
    · rw [if_pos hp, if_pos (by omega)]
    · rw [if_neg hp]
      by_cases hq : j % 13 < s + 1
      · rw [if_pos (by omega), tW_far (by omega)]
      · rw [if_neg (by omega)]
  · funext j
    show pT s 126 j = pT (s + 1) 0 j
    unfold pT
    by_cases hp : j % 13 < s
    · rw [if_pos hp, if_pos (by omega)]
    · rw [if_neg hp]
      by_cases hq : j % 13 = s
      · rw [if_pos hq, if_pos (by omega)]
        by_cases hx : j / 13 < 6
        · rw [tck2 s hs (j / 13) hx, show j / 13 * 13 + s = j by omega]
        · rw [pS_far (by omega), tT_far (by omega)]
      · rw [if_neg hq, if_neg (by omega)]
        by_cases hr : j % 13 = s + 1
        · rw [if_pos hr, pS_far (by omega)]
        · rw [if_neg hr]
theorem rk_tab : ∀ m s, m + s = 13 → 1 ≤ s → rkTab m s (pW s 0, pT s 0) = (pW 13 0, pT 13 0) := by
  intro m
  induction m with
  | zero => intro s hs _; rw [show s = 13 by omega]; rfl
  | succ m ih =>
    intro s hs h1
    rw [rkTab, rk_row h1 (by omega) 126 0 rfl, rk_next (by omega)]
    exact ih (s + 1) (by omega) (by omega)
/-- the tables that the constructor makes are these -/
theorem rk_all : rkAll = (tW, tT) := by
  have e0 : ((fun _ => 0, fun _ => 0) : rkQ) = (pW 1 0, pT 1 0) := by
    refine Prod.ext ?_ ?_
    · funext j
      show (0 : Int64) = pW 1 0 j
      unfold pW
      split
      · exact (tW_0 (by omega)).symm
      · rfl
    · funext j
      show (0 : Int64) = pT 1 0 j
      unfold pT
      split
      · unfold tT; rw [if_pos (by omega)]
      · split
        · rw [pS_far (by omega)]
        · rfl
  have e1 : ((pW 13 0, pT 13 0) : rkQ) = (tW, tT) := by
    refine Prod.ext ?_ ?_
    · funext j
      show pW 13 0 j = tW j
      unfold pW
      rw [if_pos (by omega)]
    · funext j
      show pT 13 0 j = tT j
      unfold pT
      rw [if_pos (by omega)]
  unfold rkAll
  rw [e0, rk_tab 12 1 rfl (by omega), e1]
