theorem rk1 {n : Nat} (h1 : 1 ≤ n) (h : n < 13) : ∀ w, w < 3 → ∀ s, s < 21 → rcRk (cC n 0) w s n = tS (273 * w + 13 * s + n) := sorry
theorem rk2 {n : Nat} (h1 : 1 ≤ n) (h : n < 13) : ∀ w, w < 3 → ∀ t, t < 2 → q3 t w n 21 = tC (14 * (2 * w + t) + n) := sorry
theorem tCs_len (k : Nat) : (tCs k).length ≤ 6 := sorry
theorem tSs_len (k : Nat) : (tSs k).length ≤ 63 := sorry
theorem tC_far {i : Nat} (h : 84 ≤ i) : tC i = 0 := sorry
theorem tS_far {i : Nat} (h : 819 ≤ i) : tS i = 0 := sorry
theorem tC_0 {i : Nat} (h : i % 14 = 0) : tC i = 0 := sorry
theorem tC_13 {i : Nat} (h : i % 14 = 13) : tC i = 0 := sorry
theorem tS_0 {i : Nat} (h : i % 13 = 0) : tS i = 0 := sorry
theorem cS_up {n j : Nat} (hn : n < 13) : vp_updL (cS n j) (13 * j + n) (tS (13 * j + n)) = cS n (j + 1) := sorry
theorem cC_up {n k : Nat} (hn : n < 14) : vp_updL (cC n k) (14 * k + n) (tC (14 * k + n)) = cC n (k + 1) := sorry
theorem cS_next {n : Nat} (hn : n < 13) : cS n 63 = cS (n + 1) 0 := sorry
theorem cC_next {n : Nat} (hn : n < 14) : cC n 6 = cC (n + 1) 0 := sorry
theorem rc_j {w s n : Nat} : 273 * w + 13 * s + n = 13 * (21 * w + s) + n := by omega
theorem cS_in {n j i : Nat} (h : i % 13 = n ∧ i / 13 < j) : cS n j i = tS i := if_pos (.inr h)
/-- the loop over sorts -/
theorem e_377s {h : am_H} {Y : Nat → Int64} {N : Nat} (hN : 20 < N) (hO : rcO h) {rec15 : Value → Int32 → am_H → Option am_O} {rec23 : Value → Int32 → Int32 → am_H → Option am_O} {n w : Nat} (hn1 : 1 ≤ n) (hn : n < 13) (hw : w < 3) :
    ∀ (m s K : Nat), s + m = 21 → m < K → fg_377_36 N rec15 rec23 K (.ref 174) (nI n) (nI w) (q3 0 w n s) (q3 1 w n s) (nI s) (hc h (cC n 0) (cS n (21 * w + s)) Y) = rec23 (.ref 174) (nI n) (nI (w + 1)) (hc h (cC n 0) (cS n (21 * (w + 1))) (vp_updL (vp_updL Y (2 * w) (tC (14 * (2 * w) + n))) (2 * w + 1) (tC (14 * (2 * w + 1) + n)))) := sorry
/-- a row of the six sums -/
def yY (n k : Nat) (Y : Nat → Int64) : Prop := ∀ i, i < k → Y i = tC (14 * i + n)
theorem e_377w {h : am_H} {N : Nat} (hN : 30 < N) (hO : rcO h) {rec15 : Value → Int32 → am_H → Option am_O} {n : Nat} (hn1 : 1 ≤ n) (hn : n < 13) :
    ∀ (m w K : Nat) (Y : Nat → Int64), w + m = 3 → m < K → yY n (2 * w) Y → ∃ Y1, yY n 6 Y1 ∧ fg_377_23 N rec15 K (.ref 174) (nI n) (nI w) (hc h (cC n 0) (cS n (21 * w)) Y) = fg_377_139 N rec15 N (.ref 174) (nI n) 0 (hc h (cC n 0) (cS (n + 1) 0) Y1) := sorry
theorem rc_k : ∀ k, k < 6 → 28 * (nI k / 2) + 14 * (nI k - nI k / 2 * 2) = nI (14 * k) := sorry
theorem e_377k {h : am_H} {S Y : Nat → Int64} {N : Nat} (hO : rcO h) {rec15 : Value → Int32 → am_H → Option am_O} {n : Nat} (hn : n < 13) (hY : yY n 6 Y) :
    ∀ (m k K : Nat), k + m = 6 → m < K → fg_377_139 N rec15 K (.ref 174) (nI n) (nI k) (hc h (cC n k) S Y) = rec15 (.ref 174) (nI (n + 1)) (hc h (cC (n + 1) 0) S Y) := sorry
theorem e_377n {h : am_H} {N : Nat} (hN : 40 < N) (hO : rcO h) :
    ∀ (m n K : Nat) (Y : Nat → Int64), n + m = 13 → 1 ≤ n → m < K → ∃ Y1, fg_377_15 N K (.ref 174) (nI n) (hc h (cC n 0) (cS n 0) Y) = some (.inl (none, hc h (cC 13 0) (cS 13 0) Y1)) := sorry
theorem cC_all : cC 13 0 = tC := sorry
theorem cS_all : cS 13 0 = tS := sorry
theorem cC_one : cC 1 0 = fun _ => 0 := sorry
theorem cS_one : cS 1 0 = fun _ => 0 := sorry
/-- countAll() for the first time -/
theorem e_377 {h h1 : am_H} {N : Nat} {Y : Nat → Int64} (hN : 40 < N) (hv : am_vI (am_pG 3152 (.ref 174) h) = some 0) (hp : am_pP 3152 (.ref 174) (.int 1) h = some (hc h1 (fun _ => 0) (fun _ => 0) Y)) (hO : rcO h1) : ∃ Y1, fm_377 N (.ref 174) h = some (.inl (none, hc h1 tC tS Y1)) := sorry