/-! ===== Ranks: how many trees there are ===== -/
/-- total(): by the row of totals -/
def rkTot (T : Nat → Int64) (c n : Int32) : Int64 := if n ≤ 0 then 0 else if 13 ≤ n then 0 else if c < 0 then 0 else if 6 ≤ c then 0 else T (c * 13 + n).toNatClampNeg
theorem rk_in {c n : Int32} (h1 : ¬ n ≤ 0) (h2 : ¬ 13 ≤ n) (h3 : ¬ c < 0) (h4 : ¬ 6 ≤ c) : am_inb (c * 13 + n) 78 = true := sorry
theorem e_15 {h : am_H} {a ta : Nat} {fs : List Value} {T : Nat → Int64} (hR : h[a]? = some (.inr (4, fs))) (hf : fs[1]? = some (.ref ta)) (hT : h[ta]? = some (.inl (1, 78, .inr (.inl T)))) (c n : Int32) : fm_15 (.ref a) c n h = some (.inl (some (.long (rkTot T c n)), h)) := sorry
/-- twoParts(): m more turns, from f on -/
def rkTwo (T : Nat → Int64) (a b s : Int32) : Nat → Int32 → Int64 → Int64
  | 0, _, v => v
  | m + 1, f, v => rkTwo T a b s m (f + 1) (v + rkTot T a f * rkTot T b (s - f))
theorem e_16w {h : am_H} {a ta N : Nat} {fs : List Value} {T : Nat → Int64} (hR : h[a]? = some (.inr (4, fs))) (hf : fs[1]? = some (.ref ta)) (hT : h[ta]? = some (.inl (1, 78, .inr (.inl T)))) (c1 c2 : Int32) {s : Nat} (hs : s < 2 ^ 30) :
    ∀ (m f K : Nat) (v : Int64), m + f = s ∨ (m = 0 ∧ s ≤ f) → f < 2 ^ 30 → m < K → fg_16_6 N K (.ref a) c1 c2 (nI s) v (nI f) h = some (.inl (some (.long (rkTwo T c1 c2 (nI s) m (nI f) v)), h)) := sorry
theorem e_16 {h : am_H} {a ta N : Nat} {fs : List Value} {T : Nat → Int64} (hR : h[a]? = some (.inr (4, fs))) (hf : fs[1]? = some (.ref ta)) (hT : h[ta]? = some (.inl (1, 78, .inr (.inl T)))) (c1 c2 : Int32) {s : Nat} (hs : s < 2 ^ 30) (hN : s < N) : fm_16 N (.ref a) c1 c2 (nI s) h = some (.inl (some (.long (rkTwo T c1 c2 (nI s) (s - 1) 1 0)), h)) :=
  e_16w hR hf hT c1 c2 hs (s - 1) 1 N 0 (by omega) (by decide) (by omega)
theorem nI_sub {a b : Nat} (h : b ≤ a) : nI a - nI b = nI (a - b) := sorry
/-- counted() of three parts: m more turns, from f on -/
def rkThr (T : Nat → Int64) (a b : Int32) (s : Nat) : Nat → Nat → Int64 → Int64
  | 0, _, v => v
  | m + 1, f, v => rkThr T a b s m (f + 1) (v + rkTot T a (nI f) * rkTwo T b b (nI (s - 1 - f)) (s - 1 - f - 1) 1 0)
theorem e_9w {h : am_H} {a ta N : Nat} {fs : List Value} {T : Nat → Int64} (hR : h[a]? = some (.inr (4, fs))) (hf : fs[1]? = some (.ref ta)) (hT : h[ta]? = some (.inl (1, 78, .inr (.inl T)))) (c1 c2 : Int32) {s : Nat} (hs : s < 2 ^ 30) (hs1 : 1 ≤ s) (hN : s < N) :
    ∀ (m f K : Nat) (v : Int64), m + f = s - 1 ∨ (m = 0 ∧ s - 1 ≤ f) → f < 2 ^ 30 → m < K → fg_9_105 N K (.ref a) (nI s) c1 c2 v (nI f) h = some (.inl (some (.long (rkThr T c1 c2 s m f v)), h)) := sorry
/-- counted() -/
def rkCnt (T : Nat → Int64) (c s : Int32) (n : Nat) : Int64 :=
  if ¬ pv_10 c s = 0 then (if pv_14 s = 0 then (if nI n ≤ 1 then (if ¬ s = 0 then 1 else 10) else 0) else (if pv_14 s = 1 then rkTot T (pv_12 c s 0) (nI (n - 1)) else (if pv_14 s = 2 then rkTwo T (pv_12 c s 0) (pv_12 c s 1) (nI (n - 1)) (n - 1 - 1) 1 0 else rkThr T (pv_12 c s 0) (pv_12 c s 1) n (n - 1 - 1) 1 0))) else 0
theorem e_9 {h : am_H} {a ta N : Nat} {fs : List Value} {T : Nat → Int64} (hR : h[a]? = some (.inr (4, fs))) (hf : fs[1]? = some (.ref ta)) (hT : h[ta]? = some (.inl (1, 78, .inr (.inl T)))) (c s : Int32) {n : Nat} (hn : n < 2 ^ 30) (hn1 : 1 ≤ n) (hN : n < N) : fm_9 N (.ref a) c s (nI n) h = some (.inl (some (.long (rkCnt T c s n)), h)) := sorry
abbrev rkQ : Type := (Nat → Int64) × (Nat → Int64)
/-- a turn of the constructor's inner loop: rows of ways and of totals -/
def rkTurn (s c : Nat) (q : rkQ) : rkQ := (vp_updL q.1 (c * 13 + s) (rkCnt q.2 (nI (c / 21)) (nI (c % 21)) s), vp_updL q.2 (c / 21 * 13 + s) (q.2 (c / 21 * 13 + s) + rkCnt q.2 (nI (c / 21)) (nI (c % 21)) s))
def rkRow (s : Nat) : Nat → Nat → rkQ → rkQ
  | 0, _, q => q
  | m + 1, c, q => rkRow s m (c + 1) (rkTurn s c q)
def rkTab : Nat → Nat → rkQ → rkQ
  | 0, _, q => q
  | m + 1, s, q => rkTab m (s + 1) (rkRow s 126 0 q)
theorem rk_dm : ∀ c, c < 126 → nI c / 21 = nI (c / 21) ∧ nI c - nI c / 21 * 21 = nI (c % 21) := sorry
/-- Ranks and all that it has made, with its two rows -/
def cl_8 (n : Nat) (q : rkQ) : am_H := .inr (4, [.ref (n + 1), .ref (n + 2), .ref (n + 3), .null, .ref (n + 11), .ref (n + 12), .int 0, .null, .int 0]) :: (((([] ++ [.inl (1, 1638, .inr (.inl q.1))]) ++ [.inl (1, 78, .inr (.inl q.2))]) ++ cl_3 (n + 3)) ++ [.inl (6, 24, .inr (.inr (.inr (.inr (fun _ => none)))))] ++ [.inl (0, 24, .inl (fun _ => 0))])
theorem rk_mul {a b s : Nat} : nI a * 13 + nI s = nI (a * 13 + s) := sorry
theorem e_8i {h1 : am_H} {n N : Nat} (hn : h1.length = n) (hN : 200 < N) {rec : Value → Int32 → am_H → Option am_O} {s : Nat} (hs1 : 1 ≤ s) (hs : s < 13) :
    ∀ (m c K : Nat) (q : rkQ), m + c = 126 → m < K → fg_8_79 N rec K (.ref n) (nI s) (nI c) (h1 ++ cl_8 n q) = rec (.ref n) (nI (s + 1)) (h1 ++ cl_8 n (rkRow s m c q)) := sorry
theorem e_8o {h1 : am_H} {n N : Nat} (hn : h1.length = n) (hN : 200 < N) :
    ∀ (m s K : Nat) (q : rkQ), m + s = 13 → 1 ≤ s → m < K → fg_8_71 N K (.ref n) (nI s) (h1 ++ cl_8 n q) = some (.inl (none, h1 ++ cl_8 n (rkTab m s q))) := sorry
/-- the tables as they are made -/
def rkAll : rkQ := rkTab 12 1 (fun _ => 0, fun _ => 0)
