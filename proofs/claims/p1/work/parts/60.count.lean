/-! ===== how many trees there are: the reference's countAll ===== -/
def arN (s : Nat) : Nat := if s < 7 then 0 else if s < 10 then 1 else if s < 20 then 2 else 3
def twN (s p : Nat) : Nat := if s = 9 ∨ s = 17 ∨ s = 18 ∨ (s = 20 ∧ p = 0) then 1 else 0
def truN (s : Nat) : Nat := if s = 9 ∨ (15 ≤ s ∧ s ≤ 18) then 1 else 0
def pwN (w s p : Nat) : Nat := if s = 19 ∧ p = 1 then 1 else w
def inN (w s : Nat) : Bool := if w = 0 then !(s == 5) && !(s == 6) else if w = 1 then !(s == 19) else !(s == 5) && !(s == 6) && !(s == 19)
theorem ar_eq : ∀ s, s < 21 → pv_343 (nI s) = nI (arN s) := sorry
theorem tw_eq : ∀ s, s < 21 → ∀ p, p < 3 → pv_382 (nI s) (nI p) = nI (twN s p) := sorry
theorem tr_eq : ∀ s, s < 21 → pv_334 (nI s) = nI (truN s) := sorry
theorem pw_eq : ∀ w, w < 3 → ∀ s, s < 21 → ∀ p, p < 3 → pv_381 (nI w) (nI s) (nI p) = nI (pwN w s p) := sorry
theorem in_eq : ∀ w, w < 3 → ∀ s, s < 21 → pv_379 (nI w) (nI s) = if inN w s then 1 else 0 := sorry
theorem ar_le : ∀ s, arN s ≤ 3 := sorry
theorem tw_le (s p : Nat) : twN s p ≤ 1 := sorry
theorem tru_le (s : Nat) : truN s ≤ 1 := sorry
theorem pw_lt {w s p : Nat} (h : w < 3) : pwN w s p < 3 := sorry
/-- many() -/
def mnN (C : Nat → Int64) (w t n : Nat) : Int64 := if 1 ≤ n then C (28 * w + 14 * t + n) else 0
def rcM (C : Nat → Int64) (w s f g h : Nat) : Int64 :=
  if arN s ≤ 2 then (if arN s ≤ 1 then mnN C (pwN w s 0) (twN s 0) f else mnN C (pwN w s 0) (twN s 0) f * mnN C (pwN w s 1) (twN s 1) g)
  else mnN C (pwN w s 0) (twN s 0) f * mnN C (pwN w s 1) (twN s 1) g * mnN C w (twN s 2) h
/-- manySplit() -/
def rcSp (C : Nat → Int64) (w s n f g : Nat) : Int64 :=
  if 3 ≤ arN s then (if 2 + f + g ≤ n then rcM C w s f g (n - 1 - f - g) else 0) else (if n = 1 + f + g then rcM C w s f g 0 else 0)
/-- the reference's three rows of longs in a heap -/
def hc (h : am_H) (C S Y : Nat → Int64) : am_H := ((h.set 224 (.inl (1, 84, .inr (.inl C)))).set 225 (.inl (1, 819, .inr (.inl S)))).set 226 (.inl (1, 6, .inr (.inl Y)))
theorem hc_o {h : am_H} {C S Y : Nat → Int64} {a : Nat} (h1 : a ≠ 224) (h2 : a ≠ 225) (h3 : a ≠ 226) : (hc h C S Y)[a]? = h[a]? := sorry
theorem hc_C {h : am_H} {C S Y : Nat → Int64} (hl : 226 < h.length) : (hc h C S Y)[224]? = some (.inl (1, 84, .inr (.inl C))) := sorry
theorem hc_S {h : am_H} {C S Y : Nat → Int64} (hl : 226 < h.length) : (hc h C S Y)[225]? = some (.inl (1, 819, .inr (.inl S))) := sorry
theorem hc_Y {h : am_H} {C S Y : Nat → Int64} (hl : 226 < h.length) : (hc h C S Y)[226]? = some (.inl (1, 6, .inr (.inl Y))) := sorry
theorem hc_sY {h : am_H} {C S Y Y1 : Nat → Int64} : (hc h C S Y).set 226 (.inl (1, 6, .inr (.inl Y1))) = hc h C S Y1 := sorry
theorem hc_sS {h : am_H} {C S Y S1 : Nat → Int64} : (hc h C S Y).set 225 (.inl (1, 819, .inr (.inl S1))) = hc h C S1 Y := sorry
theorem hc_sC {h : am_H} {C S Y C1 : Nat → Int64} : (hc h C S Y).set 224 (.inl (1, 84, .inr (.inl C1))) = hc h C1 S Y := sorry
/-- what is wanted of the reference's object -/
def rcO (h : am_H) : Prop := 226 < h.length ∧ ∃ fs : List Value, h[174]? = some (.inr (12, fs)) ∧ fs[81]? = some (.ref 224) ∧ fs[82]? = some (.ref 225) ∧ fs[83]? = some (.ref 226)
theorem nI_mul (a b : Nat) : nI (a * b) = nI a * nI b := Int32.ofNat_mul a b
theorem rc_i1 (w t n : Nat) : 28 * nI w + 14 * nI t + nI n = nI (28 * w + 14 * t + n) := sorry
theorem rc_i2 (w s n : Nat) : 273 * nI w + 13 * nI s + nI n = nI (273 * w + 13 * s + n) := sorry
theorem e_383 {h : am_H} {C S Y : Nat → Int64} (hO : rcO h) {w t n : Nat} (hw : w < 3) (ht : t ≤ 1) (hn : n ≤ 13) : fm_383 (.ref 174) (nI w) (nI t) (nI n) (hc h C S Y) = some (.inl (some (.long (mnN C w t n)), hc h C S Y)) := sorry
theorem e_384 {h : am_H} {C S Y : Nat → Int64} (hO : rcO h) {w s n : Nat} (hw : w < 3) (hs : s < 21) (hn : n < 13) : fm_384 (.ref 174) (nI w) (nI s) (nI n) (hc h C S Y) = some (.inl (some (.long (S (273 * w + 13 * s + n))), hc h C S Y)) := sorry
theorem rc_ok {h : am_H} {C S Y : Nat → Int64} (hO : rcO h) : am_pOk 12 (.ref 174) (hc h C S Y) = true := sorry
theorem e_380m {h : am_H} {C S Y : Nat → Int64} (hO : rcO h) {w s f g m : Nat} (hw : w < 3) (hs : s < 21) (hf : f ≤ 13) (hg : g ≤ 13) (hm : m ≤ 13) : fg_380_39 (.ref 174) (nI w) (nI s) (nI f) (nI g) (nI (arN s)) (nI m) (hc h C S Y) = some (.inl (some (.long (rcM C w s f g m)), hc h C S Y)) := sorry
theorem rc_x : ∀ n, n < 13 → ∀ f, f < 13 → ∀ g, g < 13 → decide (1 ≤ ((nI n - 1) - nI f) - nI g) = decide (2 + f + g ≤ n) ∧ decide (((nI n - 1) - nI f) - nI g = 0) = decide (n = 1 + f + g) := sorry
theorem rc_x2 {n f g : Nat} (h : 1 + f + g ≤ n) : ((nI n - 1) - nI f) - nI g = nI (n - 1 - f - g) := sorry
theorem e_380 {h : am_H} {C S Y : Nat → Int64} (hO : rcO h) {w s n f g : Nat} (hw : w < 3) (hs : s < 21) (hn : n < 13) (hf : f < 13) (hg : g < 13) : fm_380 (.ref 174) (nI w) (nI s) (nI n) (nI f) (nI g) (hc h C S Y) = some (.inl (some (.long (rcSp C w s n f g)), hc h C S Y)) := sorry
/-- reckoned(): the inner loop, m more turns -/
def rcGs (C : Nat → Int64) (w s n f : Nat) : Nat → Nat → Int64 → Int64
  | 0, _, v => v
  | m + 1, g, v => rcGs C w s n f m (g + 1) (v + rcSp C w s n f g)
def rcFs (C : Nat → Int64) (w s n : Nat) : Nat → Nat → Int64 → Int64
  | 0, _, v => v
  | m + 1, f, v => rcFs C w s n m (f + 1) (if arN s ≤ 1 then rcGs C w s n f 1 0 v else rcGs C w s n f (n - 1) 1 v)
def rcRk (C : Nat → Int64) (w s n : Nat) : Int64 :=
  if inN w s then (if arN s = 0 then (if n = 1 then (if s = 0 then 10 else 1) else 0) else rcFs C w s n (n - 1) 1 0) else 0
theorem e_378g {h : am_H} {C S Y : Nat → Int64} {N : Nat} (hO : rcO h) {w s n f : Nat} (hw : w < 3) (hs : s < 21) (hn : n < 13) (hf : f < 13) {rec : Value → Int32 → Int32 → Int32 → Int32 → Int64 → Int32 → am_H → Option am_O} :
    ∀ (m g K : Nat) (v : Int64), g + m = (if arN s ≤ 1 then 1 else n) → g < 13 ∨ m = 0 → m < K → fg_378_67 N rec K (.ref 174) (nI w) (nI s) (nI n) (nI (arN s)) v (nI f) (nI g) (hc h C S Y) = rec (.ref 174) (nI w) (nI s) (nI n) (nI (arN s)) (rcGs C w s n f m g v) (nI (f + 1)) (hc h C S Y) := sorry
theorem e_378f {h : am_H} {C S Y : Nat → Int64} {N : Nat} (hN : 20 < N) (hO : rcO h) {w s n : Nat} (hw : w < 3) (hs : s < 21) (hn : n < 13) (h1 : 1 ≤ arN s) :
    ∀ (m f K : Nat) (v : Int64), f + m = n → 1 ≤ f → m < K → fg_378_48 N K (.ref 174) (nI w) (nI s) (nI n) (nI (arN s)) v (nI f) (hc h C S Y) = some (.inl (some (.long (rcFs C w s n m f v)), hc h C S Y)) := sorry
theorem e_378 {h : am_H} {C S Y : Nat → Int64} {N : Nat} (hN : 20 < N) (hO : rcO h) {w s n : Nat} (hw : w < 3) (hs : s < 21) (hn1 : 1 ≤ n) (hn : n < 13) : fm_378 N (.ref 174) (nI w) (nI s) (nI n) (hc h C S Y) = some (.inl (some (.long (rcRk C w s n)), hc h C S Y)) := sorry