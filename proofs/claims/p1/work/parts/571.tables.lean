theorem tck : ∀ s, s < 13 → 1 ≤ s → ∀ c, c < 126 → rkCnt tT (nI (c / 21)) (nI (c % 21)) s = tW (c * 13 + s) := sorry
/-- the part of a total that is made at a turn -/
def pS (s c x : Nat) : Nat → Int64
  | 0 => 0
  | k + 1 => if x * 21 + k < c then pS s c x k + tW ((x * 21 + k) * 13 + s) else pS s c x k
def pW (s c j : Nat) : Int64 := if j % 13 < s ∨ (j % 13 = s ∧ j / 13 < c) then tW j else 0
def pT (s c j : Nat) : Int64 := if j % 13 < s then tT j else if j % 13 = s then pS s c (j / 13) 21 else 0
set_option maxRecDepth 100000 in
theorem tck2_0 : ∀ x, x < 6 → pS 0 126 x 21 = tT (x * 13 + 0) := sorry
set_option maxRecDepth 100000 in
theorem tck2_1 : ∀ x, x < 6 → pS 1 126 x 21 = tT (x * 13 + 1) := sorry
set_option maxRecDepth 100000 in
theorem tck2_2 : ∀ x, x < 6 → pS 2 126 x 21 = tT (x * 13 + 2) := sorry
set_option maxRecDepth 100000 in
theorem tck2_3 : ∀ x, x < 6 → pS 3 126 x 21 = tT (x * 13 + 3) := sorry
set_option maxRecDepth 100000 in
theorem tck2_4 : ∀ x, x < 6 → pS 4 126 x 21 = tT (x * 13 + 4) := sorry
set_option maxRecDepth 100000 in
theorem tck2_5 : ∀ x, x < 6 → pS 5 126 x 21 = tT (x * 13 + 5) := sorry
set_option maxRecDepth 100000 in
theorem tck2_6 : ∀ x, x < 6 → pS 6 126 x 21 = tT (x * 13 + 6) := sorry
set_option maxRecDepth 100000 in
theorem tck2_7 : ∀ x, x < 6 → pS 7 126 x 21 = tT (x * 13 + 7) := sorry
set_option maxRecDepth 100000 in
theorem tck2_8 : ∀ x, x < 6 → pS 8 126 x 21 = tT (x * 13 + 8) := sorry
set_option maxRecDepth 100000 in
theorem tck2_9 : ∀ x, x < 6 → pS 9 126 x 21 = tT (x * 13 + 9) := sorry
set_option maxRecDepth 100000 in
theorem tck2_10 : ∀ x, x < 6 → pS 10 126 x 21 = tT (x * 13 + 10) := sorry
set_option maxRecDepth 100000 in
theorem tck2_11 : ∀ x, x < 6 → pS 11 126 x 21 = tT (x * 13 + 11) := sorry
set_option maxRecDepth 100000 in
theorem tck2_12 : ∀ x, x < 6 → pS 12 126 x 21 = tT (x * 13 + 12) := sorry
theorem tck2 : ∀ s, s < 13 → ∀ x, x < 6 → pS s 126 x 21 = tT (x * 13 + s) := sorry
theorem pS_far {s c x : Nat} (h : c ≤ x * 21) : ∀ k, pS s c x k = 0 := sorry
theorem pS_out {s c x k : Nat} (h : x * 21 + k ≤ c) : pS s (c + 1) x k = pS s c x k := sorry
theorem pS_lo {s c x : Nat} : ∀ k, c < x * 21 → pS s (c + 1) x k = pS s c x k := sorry
theorem pS_step {s c x : Nat} : ∀ k, c / 21 = x → x * 21 + k ≤ x * 21 + 21 → c < x * 21 + k → pS s (c + 1) x k = pS s c x k + tW (c * 13 + s) := sorry
theorem pS_other {s c x : Nat} (h : c / 21 ≠ x) : pS s (c + 1) x 21 = pS s c x 21 := sorry
theorem rkTot_c {T T1 : Nat → Int64} {s : Nat} (h : ∀ j, j % 13 < s → T j = T1 j) (c : Int32) {f : Nat} (hf : f < s) (hs : s ≤ 13) : rkTot T c (nI f) = rkTot T1 c (nI f) := sorry
theorem rkTwo_c {T T1 : Nat → Int64} {s : Nat} (h : ∀ j, j % 13 < s → T j = T1 j) (hs : s ≤ 13) (a b : Int32) {n : Nat} (hn : n < s) : ∀ (m f : Nat) (v : Int64), m + f ≤ n ∨ m = 0 → rkTwo T a b (nI n) m (nI f) v = rkTwo T1 a b (nI n) m (nI f) v := sorry
theorem rkThr_c {T T1 : Nat → Int64} {s : Nat} (h : ∀ j, j % 13 < s → T j = T1 j) (hs : s ≤ 13) (a b : Int32) : ∀ (m f : Nat) (v : Int64), m + f ≤ s - 1 ∨ m = 0 → rkThr T a b s m f v = rkThr T1 a b s m f v := sorry
theorem rkCnt_c {T T1 : Nat → Int64} {s : Nat} (h : ∀ j, j % 13 < s → T j = T1 j) (h1 : 1 ≤ s) (hs : s ≤ 13) (c k : Int32) : rkCnt T c k s = rkCnt T1 c k s := sorry
theorem updL_at {f : Nat → Int64} {i j : Nat} {v : Int64} : vp_updL f i v j = if j = i then v else f j := rfl
theorem rk_turn {s c : Nat} (h1 : 1 ≤ s) (hs : s < 13) (hc : c < 126) : rkTurn s c (pW s c, pT s c) = (pW s (c + 1), pT s (c + 1)) := sorry
theorem rk_row {s : Nat} (h1 : 1 ≤ s) (hs : s < 13) : ∀ m c, m + c = 126 → rkRow s m c (pW s c, pT s c) = (pW s 126, pT s 126) := sorry
theorem tT_far {j : Nat} (h : 78 ≤ j) : tT j = 0 := sorry
set_option maxRecDepth 100000 in
theorem tWs_len (k : Nat) : (tWs k).length ≤ 126 := sorry
theorem tW_far {j : Nat} (h : 1638 ≤ j) : tW j = 0 := sorry
theorem tW_0 {j : Nat} (h : j % 13 = 0) : tW j = 0 := sorry
theorem rk_next {s : Nat} (hs : s < 13) : (pW s 126, pT s 126) = (pW (s + 1) 0, pT (s + 1) 0) := sorry
theorem rk_tab : ∀ m s, m + s = 13 → 1 ≤ s → rkTab m s (pW s 0, pT s 0) = (pW 13 0, pT 13 0) := sorry
/-- the tables that the constructor makes are these -/
theorem rk_all : rkAll = (tW, tT) := sorry