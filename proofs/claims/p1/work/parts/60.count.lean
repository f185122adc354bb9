/-! ===== how many trees there are: the reference's countAll ===== -/
def arN (s : Nat) : Nat := if s < 7 then 0 else if s < 10 then 1 else if s < 20 then 2 else 3
def twN (s p : Nat) : Nat := if s = 9 ∨ s = 17 ∨ s = 18 ∨ (s = 20 ∧ p = 0) then 1 else 0
def truN (s : Nat) : Nat := if s = 9 ∨ (15 ≤ s ∧ s ≤ 18) then 1 else 0
def pwN (w s p : Nat) : Nat := if s = 19 ∧ p = 1 then 1 else w
def inN (w s : Nat) : Bool := if w = 0 then !(s == 5) && !(s == 6) else if w = 1 then !(s == 19) else !(s == 5) && !(s == 6) && !(s == 19)
theorem ar_eq : ∀ s, s < 21 → pv_343 (nI s) = nI (arN s) := by decide +kernel
theorem tw_eq : ∀ s, s < 21 → ∀ p, p < 3 → pv_382 (nI s) (nI p) = nI (twN s p) := by decide +kernel
theorem tr_eq : ∀ s, s < 21 → pv_334 (nI s) = nI (truN s) := by decide +kernel
theorem pw_eq : ∀ w, w < 3 → ∀ s, s < 21 → ∀ p, p < 3 → pv_381 (nI w) (nI s) (nI p) = nI (pwN w s p) := by decide +kernel
theorem in_eq : ∀ w, w < 3 → ∀ s, s < 21 → pv_379 (nI w) (nI s) = if inN w s then 1 else 0 := by decide +kernel
theorem ar_le : ∀ s, arN s ≤ 3 := by
  intro s
  unfold arN
  split
  · omega
  · split
    · omega
    · split <;> omega
theorem tw_le (s p : Nat) : twN s p ≤ 1 := by
  unfold twN
  split <;> omega
theorem tru_le (s : Nat) : truN s ≤ 1 := by
  unfold truN
  split <;> omega
theorem pw_lt {w s p : Nat} (h : w < 3) : pwN w s p < 3 := by
  unfold pwN
  split <;> omega
/-- many() -/
def mnN (C : Nat → Int64) (w t n : Nat) : Int64 := if 1 ≤ n then C (28 * w + 14 * t + n) else 0
def rcM (C : Nat → Int64) (w s f g h : Nat) : Int64 :=
  if arN s ≤ 2 then (if arN s ≤ 1 then mnN C (pwN w s 0) (twN s 0) f else mnN C (pwN w s 0) (twN s 0) f * mnN C (pwN w s 1) (twN s 1) g)
  else mnN C (pwN w s 0) (twN s 0) f * mnN C (pwN w s 1) (twN s 1) g * mnN C w (twN s 2) h
/-- manySplit() -/
def rcSp (C : Nat → Int64) (w s n f g : Nat) : Int64 :=
  if 3 ≤ arN s then (if 2 + f + g ≤ n then rcM C w s f g (n - 1 - f - g) else 0) else (if n = 1 + f + g then rcM C w s f g 0 else 0)
/-- the reference's three rows of longs in a heap -/
def hc (h : am_H) (C S Y : Nat → Int64) : am_H := ((h.set 224 (.inl (1, 84, .inr (.inl C)))).set 225 (.inl (1, 819, .inr (.inl S)))).set 226 (.inl (1, 6, .inr (.inl Y)))
theorem hc_o {h : am_H} {C S Y : Nat → Int64} {a : Nat} (h1 : a ≠ 224) (h2 : a ≠ 225) (h3 : a ≠ 226) : (hc h C S Y)[a]? = h[a]? := by
  unfold hc
  rw [List.getElem?_set_ne (by omega), List.getElem?_set_ne (by omega), List.getElem?_set_ne (by omega)]
theorem hc_C {h : am_H} {C S Y : Nat → Int64} (hl : 226 < h.length) : (hc h C S Y)[224]? = some (.inl (1, 84, .inr (.inl C))) := by
  unfold hc
  rw [List.getElem?_set_ne (by omega), List.getElem?_set_ne (by omega), List.getElem?_set_self (by omega)]
theorem hc_S {h : am_H} {C S Y : Nat → Int64} (hl : 226 < h.length) : (hc h C S Y)[225]? = some (.inl (1, 819, .inr (.inl S))) := by
  unfold hc
  rw [List.getElem?_set_ne (by omega), List.getElem?_set_self (by simp only [List.length_set]; omega)]
theorem hc_Y {h : am_H} {C S Y : Nat → Int64} (hl : 226 < h.length) : (hc h C S Y)[226]? = some (.inl (1, 6, .inr (.inl Y))) := by
  unfold hc
  rw [List.getElem?_set_self (by simp only [List.length_set]; omega)]
theorem hc_sY {h : am_H} {C S Y Y1 : Nat → Int64} : (hc h C S Y).set 226 (.inl (1, 6, .inr (.inl Y1))) = hc h C S Y1 := by
  unfold hc
  rw [List.set_set]
theorem hc_sS {h : am_H} {C S Y S1 : Nat → Int64} : (hc h C S Y).set 225 (.inl (1, 819, .inr (.inl S1))) = hc h C S1 Y := by
  unfold hc
  rw [List.set_comm _ _ (by omega : 226 ≠ 225), List.set_set]
theorem hc_sC {h : am_H} {C S Y C1 : Nat → Int64} : (hc h C S Y).set 224 (.inl (1, 84, .inr (.inl C1))) = hc h C1 S Y := by
  unfold hc
  rw [List.set_comm _ _ (by omega : 226 ≠ 224), List.set_comm _ _ (by omega : 225 ≠ 224), List.set_set]
/-- what is wanted of the reference's object -/
def rcO (h : am_H) : Prop := 226 < h.length ∧ ∃ fs : List Value, h[174]? = some (.inr (12, fs)) ∧ fs[81]? = some (.ref 224) ∧ fs[82]? = some (.ref 225) ∧ fs[83]? = some (.ref 226)
theorem nI_mul (a b : Nat) : nI (a * b) = nI a * nI b := Int32.ofNat_mul a b
theorem rc_i1 (w t n : Nat) : 28 * nI w + 14 * nI t + nI n = nI (28 * w + 14 * t + n) := by
  rw [← nI_add, ← nI_add, nI_mul, nI_mul]
  rfl
theorem rc_i2 (w s n : Nat) : 273 * nI w + 13 * nI s + nI n = nI (273 * w + 13 * s + n) := by
  rw [← nI_add, ← nI_add, nI_mul, nI_mul]
  rfl
theorem e_383 {h : am_H} {C S Y : Nat → Int64} (hO : rcO h) {w t n : Nat} (hw : w < 3) (ht : t ≤ 1) (hn : n ≤ 13) : fm_383 (.ref 174) (nI w) (nI t) (nI n) (hc h C S Y) = some (.inl (some (.long (mnN C w t n)), hc h C S Y)) := by
  obtain ⟨hl, fs, h4, f1, f2, f3⟩ := hO
  unfold fm_383 fg_383_0 mnN
  by_cases c : 1 ≤ n
  · rw [if_pos c]
    refine ev_t (nI_le c (by omega)) ?_
    refine ev_b (ev_gR (x := .ref 224) ((hc_o (by omega) (by omega) (by omega)).trans h4) rfl f1 rfl) ?_
    rw [rc_i1]
    refine ev_b (ev_aL (hc_C hl) (am_inb_n (by omega) (by omega))) ?_
    rw [nI_clamp (by omega)]
    rfl
  · rw [if_neg c, show n = 0 by omega]
    exact ev_f (by decide) rfl
theorem e_384 {h : am_H} {C S Y : Nat → Int64} (hO : rcO h) {w s n : Nat} (hw : w < 3) (hs : s < 21) (hn : n < 13) : fm_384 (.ref 174) (nI w) (nI s) (nI n) (hc h C S Y) = some (.inl (some (.long (S (273 * w + 13 * s + n))), hc h C S Y)) := by
  obtain ⟨hl, fs, h4, f1, f2, f3⟩ := hO
  unfold fm_384 fg_384_0
  refine ev_b (ev_gR (x := .ref 225) ((hc_o (by omega) (by omega) (by omega)).trans h4) rfl f2 rfl) ?_
  rw [rc_i2]
  refine ev_b (ev_aL (hc_S hl) (am_inb_n (by omega) (by omega))) ?_
  rw [nI_clamp (by omega)]
theorem rc_ok {h : am_H} {C S Y : Nat → Int64} (hO : rcO h) : am_pOk 12 (.ref 174) (hc h C S Y) = true := by
  obtain ⟨hl, fs, h4, f1, f2, f3⟩ := hO
  exact ev_ok ((hc_o (by omega) (by omega) (by omega)).trans h4)
theorem e_380m {h : am_H} {C S Y : Nat → Int64} (hO : rcO h) {w s f g m : Nat} (hw : w < 3) (hs : s < 21) (hf : f ≤ 13) (hg : g ≤ 13) (hm : m ≤ 13) : fg_380_39 (.ref 174) (nI w) (nI s) (nI f) (nI g) (nI (arN s)) (nI m) (hc h C S Y) = some (.inl (some (.long (rcM C w s f g m)), hc h C S Y)) := by
  have ha := ar_le s
  unfold fg_380_39 rcM
  refine ev_cI (pe_381 _ _ _ _) ?_
  rw [show (0 : Int32) = nI 0 from rfl, pw_eq w hw s hs 0 (by omega)]
  refine ev_cI (pe_382 _ _ _) ?_
  rw [tw_eq s hs 0 (by omega)]
  refine ev_i (rc_ok hO) ?_
  refine ev_cL (e_383 hO (pw_lt hw) (tw_le _ _) hf) ?_
  by_cases c1 : arN s ≤ 1
  · rw [if_pos (by omega : arN s ≤ 2), if_pos c1]
    refine ev_t (nI_le c1 (by decide)) ?_
    unfold fg_380_89
    exact ev_t (nI_le (by omega : arN s ≤ 2) (by decide)) rfl
  · rw [if_neg c1]
    refine ev_f (nI_ge (by omega : 1 < arN s) (by omega)) ?_
    refine ev_cI (pe_381 _ _ _ _) ?_
    rw [show (1 : Int32) = nI 1 from rfl, pw_eq w hw s hs 1 (by omega)]
    refine ev_cI (pe_382 _ _ _) ?_
    rw [tw_eq s hs 1 (by omega)]
    refine ev_i (rc_ok hO) ?_
    refine ev_cL (e_383 hO (pw_lt hw) (tw_le _ _) hg) ?_
    unfold fg_380_89
    by_cases c2 : arN s ≤ 2
    · rw [if_pos c2]
      exact ev_t (nI_le c2 (by decide)) rfl
    · rw [if_neg c2]
      refine ev_f (nI_ge (by omega : 2 < arN s) (by omega)) ?_
      refine ev_cI (pe_382 _ _ _) ?_
      rw [show (2 : Int32) = nI 2 from rfl, tw_eq s hs 2 (by omega)]
      refine ev_i (rc_ok hO) ?_
      exact ev_cL (e_383 hO hw (tw_le _ _) hm) rfl
theorem rc_x : ∀ n, n < 13 → ∀ f, f < 13 → ∀ g, g < 13 → decide (1 ≤ ((nI n - 1) - nI f) - nI g) = decide (2 + f + g ≤ n) ∧ decide (((nI n - 1) - nI f) - nI g = 0) = decide (n = 1 + f + g) := by decide +kernel
theorem rc_x2 {n f g : Nat} (h : 1 + f + g ≤ n) : ((nI n - 1) - nI f) - nI g = nI (n - 1 - f - g) := by
  rw [show (1 : Int32) = nI 1 from rfl, nI_sub (by omega), nI_sub (by omega), nI_sub (by omega)]
theorem e_380 {h : am_H} {C S Y : Nat → Int64} (hO : rcO h) {w s n f g : Nat} (hw : w < 3) (hs : s < 21) (hn : n < 13) (hf : f < 13) (hg : g < 13) : fm_380 (.ref 174) (nI w) (nI s) (nI n) (nI f) (nI g) (hc h C S Y) = some (.inl (some (.long (rcSp C w s n f g)), hc h C S Y)) := by
  have ha := ar_le s
  obtain ⟨x1, x2⟩ := rc_x n hn f hf g hg
  unfold fm_380 fg_380_0 rcSp
  refine ev_cI (pe_343 _ _) ?_
  rw [ar_eq s hs]
  by_cases c1 : 3 ≤ arN s
  · rw [if_pos c1]
    refine ev_t (nI_le c1 (by omega)) ?_
    by_cases c2 : 2 + f + g ≤ n
    · rw [if_pos c2]
      refine ev_t (of_decide_eq_true (x1.trans (decide_eq_true c2))) ?_
      rw [rc_x2 (by omega)]
      exact e_380m hO hw hs (by omega) (by omega) (by omega)
    · rw [if_neg c2]
      exact ev_f (of_decide_eq_false (x1.trans (decide_eq_false c2))) rfl
  · rw [if_neg c1]
    refine ev_f (nI_ge (by omega : arN s < 3) (by decide)) ?_
    by_cases c2 : n = 1 + f + g
    · rw [if_pos c2]
      refine ev_t (of_decide_eq_true (x2.trans (decide_eq_true c2))) ?_
      rw [rc_x2 (by omega), show n - 1 - f - g = 0 by omega]
      exact e_380m hO hw hs (by omega) (by omega) (by omega)
    · rw [if_neg c2]
      exact ev_f (of_decide_eq_false (x2.trans (decide_eq_false c2))) rfl
/-- reckoned(): the inner loop, m more turns -/
def rcGs (C : Nat → Int64) (w s n f : Nat) : Nat → Nat → Int64 → Int64
  | 0, _, v => v
  | m + 1, g, v => rcGs C w s n f m (g + 1) (v + rcSp C w s n f g)
def rcFs (C : Nat → Int64) (w s n : Nat) : Nat → Nat → Int64 → Int64
  | 0, _, v => v
  | m + 1, f, v => rcFs C w s n m (f + 1) (if arN s ≤ 1 then rcGs C w s n f 1 0 v else rcGs C w s n f (n - 1) 1 v)
def rcRk (C : Nat → Int64) (w s n : Nat) : Int64 :=
  if inN w s then (if arN s = 0 then (if n = 1 then (if s = 0 then 10 else 1) else 0) else rcFs C w s n (n - 1) 1 0) else 0
theorem e_378g {h : am_H} {C S Y : Nat → Int64} {N : Nat} (hO : rcO h) {w s n f : Nat} (hw : w < 3) (hs : s < 21) (hn : n < 13) (hf : f < 13) {rec : Value → Int32 → Int32 → Int32 → Int32 → Int64 → Int32 → am_H → Option am_O} :
    ∀ (m g K : Nat) (v : Int64), g + m = (if arN s ≤ 1 then 1 else n) → g < 13 ∨ m = 0 → m < K → fg_378_67 N rec K (.ref 174) (nI w) (nI s) (nI n) (nI (arN s)) v (nI f) (nI g) (hc h C S Y) = rec (.ref 174) (nI w) (nI s) (nI n) (nI (arN s)) (rcGs C w s n f m g v) (nI (f + 1)) (hc h C S Y) := by
  have ha := ar_le s
  intro m
  induction m with
  | zero =>
    intro g K v hm hg hK
    obtain ⟨K, rfl⟩ : ∃ k, K = k + 1 := ⟨K - 1, by omega⟩
    rw [fg_378_67]
    by_cases c : arN s ≤ 1
    · rw [if_pos c] at hm
      refine ev_t (nI_le c (by decide)) ?_
      unfold fg_378_80
      refine ev_t (by rw [show g = 1 by omega]; decide) ?_
      rw [nI_1]
      rfl
    · rw [if_neg c] at hm
      refine ev_f (nI_ge (by omega : 1 < arN s) (by omega)) ?_
      unfold fg_378_80
      refine ev_t (nI_le (by omega) (by omega)) ?_
      rw [nI_1]
      rfl
  | succ m ih =>
    intro g K v hm hg hK
    obtain ⟨K, rfl⟩ : ∃ k, K = k + 1 := ⟨K - 1, by omega⟩
    rw [fg_378_67]
    by_cases c : arN s ≤ 1
    · have hm1 := hm
      rw [if_pos c] at hm
      refine ev_t (nI_le c (by decide)) ?_
      unfold fg_378_80
      refine ev_f (by rw [show g = 0 by omega]; decide) ?_
      refine ev_i (rc_ok hO) ?_
      refine ev_cL (e_380 hO hw hs hn hf (by omega)) ?_
      rw [nI_1]
      exact ih (g + 1) K _ (by omega) (by omega) (by omega)
    · have hm1 := hm
      rw [if_neg c] at hm
      refine ev_f (nI_ge (by omega : 1 < arN s) (by omega)) ?_
      unfold fg_378_80
      refine ev_f (nI_ge (by omega) (by omega)) ?_
      refine ev_i (rc_ok hO) ?_
      refine ev_cL (e_380 hO hw hs hn hf (by omega)) ?_
      rw [nI_1]
      exact ih (g + 1) K _ (by omega) (by omega) (by omega)
theorem e_378f {h : am_H} {C S Y : Nat → Int64} {N : Nat} (hN : 20 < N) (hO : rcO h) {w s n : Nat} (hw : w < 3) (hs : s < 21) (hn : n < 13) (h1 : 1 ≤ arN s) :
    ∀ (m f K : Nat) (v : Int64), f + m = n → 1 ≤ f → m < K → fg_378_48 N K (.ref 174) (nI w) (nI s) (nI n) (nI (arN s)) v (nI f) (hc h C S Y) = some (.inl (some (.long (rcFs C w s n m f v)), hc h C S Y)) := by
  have ha := ar_le s
  intro m
  induction m with
  | zero =>
    intro f K v hm hf hK
    obtain ⟨K, rfl⟩ : ∃ k, K = k + 1 := ⟨K - 1, by omega⟩
    rw [fg_378_48]
    exact ev_t (nI_le (by omega) (by omega)) rfl
  | succ m ih =>
    intro f K v hm hf hK
    obtain ⟨K, rfl⟩ : ∃ k, K = k + 1 := ⟨K - 1, by omega⟩
    rw [fg_378_48]
    refine ev_f (nI_ge (by omega) (by omega)) ?_
    rw [rcFs]
    by_cases c : arN s ≤ 1
    · rw [if_pos c]
      refine ev_t (nI_le c (by decide)) ?_
      unfold fg_378_65
      refine (e_378g hO hw hs hn (by omega) 1 0 N v (by rw [if_pos c]) (by omega) (by omega)).trans ?_
      exact ih (f + 1) K _ (by omega) (by omega) (by omega)
    · rw [if_neg c]
      refine ev_f (nI_ge (by omega : 1 < arN s) (by omega)) ?_
      unfold fg_378_65
      refine (e_378g hO hw hs hn (by omega) (n - 1) 1 N v (by rw [if_neg c]; omega) (by omega) (by omega)).trans ?_
      exact ih (f + 1) K _ (by omega) (by omega) (by omega)
theorem e_378 {h : am_H} {C S Y : Nat → Int64} {N : Nat} (hN : 20 < N) (hO : rcO h) {w s n : Nat} (hw : w < 3) (hs : s < 21) (hn1 : 1 ≤ n) (hn : n < 13) : fm_378 N (.ref 174) (nI w) (nI s) (nI n) (hc h C S Y) = some (.inl (some (.long (rcRk C w s n)), hc h C S Y)) := by
  have ha := ar_le s
  unfold fm_378 fg_378_0 rcRk
  refine ev_cI (pe_379 _ _ _) ?_
  rw [in_eq w hw s hs]
  by_cases c0 : inN w s = true
  · rw [if_pos c0, if_pos c0]
    refine ev_t (by decide) ?_
    refine ev_cI (pe_343 _ _) ?_
    rw [ar_eq s hs]
    by_cases c1 : arN s = 0
    · rw [if_pos c1, c1]
      refine ev_f (fun e => e rfl) ?_
      by_cases c2 : n = 1
      · rw [if_pos c2, c2]
        refine ev_t rfl ?_
        by_cases c3 : s = 0
        · rw [if_pos c3, c3]
          exact ev_f (fun e => e rfl) rfl
        · rw [if_neg c3]
          exact ev_t (nI_ne0 (by omega) (by omega)) rfl
      · rw [if_neg c2]
        exact ev_f (fun e => c2 ((nI_eq (by omega) (by decide)).mp e)) rfl
    · rw [if_neg c1]
      refine ev_t (nI_ne0 (by omega) (by omega)) ?_
      exact e_378f hN hO hw hs hn (by omega) (n - 1) 1 N 0 (by omega) (by omega) (by omega)
  · rw [if_neg c0, if_neg c0]
    exact ev_f (fun e => e rfl) rfl
