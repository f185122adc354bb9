/-! ===== Ranks: how many trees there are ===== -/
/-- total(): by the row of totals -/
def rkTot (T : Nat → Int64) (c n : Int32) : Int64 := if n ≤ 0 then 0 else if 13 ≤ n then 0 else if c < 0 then 0 else if 6 ≤ c then 0 else T (c * 13 + n).toNatClampNeg
theorem rk_in {c n : Int32} (h1 : ¬ n ≤ 0) (h2 : ¬ 13 ≤ n) (h3 : ¬ c < 0) (h4 : ¬ 6 ≤ c) : am_inb (c * 13 + n) 78 = true := by
  obtain ⟨k, hk, rfl⟩ := nI_of h3
  obtain ⟨j, hj, rfl⟩ := nI_of (x := n) (fun h9 => h1 (Int32.le_of_lt h9))
  have hk6 : k < 6 := Nat.not_le.mp (fun h9 => h4 ((nI_leI (by decide) hk).mpr h9))
  have hj13 : j < 13 := Nat.not_le.mp (fun h9 => h2 ((nI_leI (by decide) hj).mpr h9))
  have e : nI k * 13 + nI j = nI (k * 13 + j) := by
    rw [← nI_add]
    show nI k * nI 13 + nI j = _
    rw [show nI (k * 13) = nI k * nI 13 from Int32.ofNat_mul k 13]
  rw [e]
  exact am_inb_n (by omega) (by omega)
theorem e_15 {h : am_H} {a ta : Nat} {fs : List Value} {T : Nat → Int64} (hR : h[a]? = some (.inr (4, fs))) (hf : fs[1]? = some (.ref ta)) (hT : h[ta]? = some (.inl (1, 78, .inr (.inl T)))) (c n : Int32) : fm_15 (.ref a) c n h = some (.inl (some (.long (rkTot T c n)), h)) := by
  unfold fm_15 fg_15_0 rkTot
  by_cases c1 : n ≤ 0
  · rw [if_pos c1, if_pos c1]
    rfl
  · rw [if_neg c1, if_neg c1]
    by_cases c2 : 13 ≤ n
    · rw [if_pos c2, if_pos c2]
      rfl
    · rw [if_neg c2, if_neg c2]
      by_cases c3 : c < 0
      · rw [if_pos c3, if_pos c3]
        rfl
      · rw [if_neg c3, if_neg c3]
        by_cases c4 : 6 ≤ c
        · rw [if_pos c4, if_pos c4]
          rfl
        · rw [if_neg c4, if_neg c4]
          refine ev_b (ev_gR hR rfl hf rfl) ?_
          refine ev_b (ev_aL hT (rk_in c1 c2 c3 c4)) ?_
          rfl
/-- twoParts(): m more turns, from f on -/
def rkTwo (T : Nat → Int64) (a b s : Int32) : Nat → Int32 → Int64 → Int64
  | 0, _, v => v
  | m + 1, f, v => rkTwo T a b s m (f + 1) (v + rkTot T a f * rkTot T b (s - f))
theorem e_16w {h : am_H} {a ta N : Nat} {fs : List Value} {T : Nat → Int64} (hR : h[a]? = some (.inr (4, fs))) (hf : fs[1]? = some (.ref ta)) (hT : h[ta]? = some (.inl (1, 78, .inr (.inl T)))) (c1 c2 : Int32) {s : Nat} (hs : s < 2 ^ 30) :
    ∀ (m f K : Nat) (v : Int64), m + f = s ∨ (m = 0 ∧ s ≤ f) → f < 2 ^ 30 → m < K → fg_16_6 N K (.ref a) c1 c2 (nI s) v (nI f) h = some (.inl (some (.long (rkTwo T c1 c2 (nI s) m (nI f) v)), h)) := by
  intro m
  induction m with
  | zero =>
    intro f K v hm hf9 hK
    obtain ⟨K, rfl⟩ : ∃ k, K = k + 1 := ⟨K - 1, by omega⟩
    rw [fg_16_6]
    exact ev_t (nI_le (by omega) (by omega)) rfl
  | succ m ih =>
    intro f K v hm hf9 hK
    obtain ⟨K, rfl⟩ : ∃ k, K = k + 1 := ⟨K - 1, by omega⟩
    rw [fg_16_6]
    refine ev_f (nI_ge (by omega) (by omega)) ?_
    refine ev_i (ev_ok hR) ?_
    refine ev_cL (e_15 hR hf hT c1 (nI f)) ?_
    refine ev_i (ev_ok hR) ?_
    refine ev_cL (e_15 hR hf hT c2 (nI s - nI f)) ?_
    rw [nI_1]
    have h9 := ih (f + 1) K (v + rkTot T c1 (nI f) * rkTot T c2 (nI s - nI f)) (by omega) (by omega) (by omega)
    rw [h9]
    show (_ : Option am_O) = some (.inl (some (.long (rkTwo T c1 c2 (nI s) m (nI f + 1) _)), h))
    rw [nI_1]
theorem e_16 {h : am_H} {a ta N : Nat} {fs : List Value} {T : Nat → Int64} (hR : h[a]? = some (.inr (4, fs))) (hf : fs[1]? = some (.ref ta)) (hT : h[ta]? = some (.inl (1, 78, .inr (.inl T)))) (c1 c2 : Int32) {s : Nat} (hs : s < 2 ^ 30) (hN : s < N) : fm_16 N (.ref a) c1 c2 (nI s) h = some (.inl (some (.long (rkTwo T c1 c2 (nI s) (s - 1) 1 0)), h)) :=
  e_16w hR hf hT c1 c2 hs (s - 1) 1 N 0 (by omega) (by decide) (by omega)
theorem nI_sub {a b : Nat} (h : b ≤ a) : nI a - nI b = nI (a - b) := by
  have h9 := nI_add (a - b) b
  rw [Nat.sub_add_cancel h] at h9
  rw [← h9, Int32.add_sub_cancel]
/-- counted() of three parts: m more turns, from f on -/
def rkThr (T : Nat → Int64) (a b : Int32) (s : Nat) : Nat → Nat → Int64 → Int64
  | 0, _, v => v
  | m + 1, f, v => rkThr T a b s m (f + 1) (v + rkTot T a (nI f) * rkTwo T b b (nI (s - 1 - f)) (s - 1 - f - 1) 1 0)
theorem e_9w {h : am_H} {a ta N : Nat} {fs : List Value} {T : Nat → Int64} (hR : h[a]? = some (.inr (4, fs))) (hf : fs[1]? = some (.ref ta)) (hT : h[ta]? = some (.inl (1, 78, .inr (.inl T)))) (c1 c2 : Int32) {s : Nat} (hs : s < 2 ^ 30) (hs1 : 1 ≤ s) (hN : s < N) :
    ∀ (m f K : Nat) (v : Int64), m + f = s - 1 ∨ (m = 0 ∧ s - 1 ≤ f) → f < 2 ^ 30 → m < K → fg_9_105 N K (.ref a) (nI s) c1 c2 v (nI f) h = some (.inl (some (.long (rkThr T c1 c2 s m f v)), h)) := by
  have hp : nI s - 1 = nI (s - 1) := by
    obtain ⟨k, rfl⟩ : ∃ k, s = k + 1 := ⟨s - 1, by omega⟩
    exact nI_pred k
  intro m
  induction m with
  | zero =>
    intro f K v hm hf9 hK
    obtain ⟨K, rfl⟩ : ∃ k, K = k + 1 := ⟨K - 1, by omega⟩
    rw [fg_9_105]
    exact ev_t (by rw [hp]; exact nI_le (by omega) (by omega)) rfl
  | succ m ih =>
    intro f K v hm hf9 hK
    obtain ⟨K, rfl⟩ : ∃ k, K = k + 1 := ⟨K - 1, by omega⟩
    rw [fg_9_105]
    refine ev_f (by rw [hp]; exact nI_ge (by omega) (by omega)) ?_
    refine ev_i (ev_ok hR) ?_
    refine ev_cL (e_15 hR hf hT c1 (nI f)) ?_
    refine ev_i (ev_ok hR) ?_
    rw [hp, nI_sub (by omega : f ≤ s - 1)]
    refine ev_cL (e_16 hR hf hT c2 c2 (by omega) (by omega)) ?_
    rw [nI_1]
    exact ih (f + 1) K _ (by omega) (by omega) (by omega)
/-- counted() -/
def rkCnt (T : Nat → Int64) (c s : Int32) (n : Nat) : Int64 :=
  if ¬ pv_10 c s = 0 then (if pv_14 s = 0 then (if nI n ≤ 1 then (if ¬ s = 0 then 1 else 10) else 0) else (if pv_14 s = 1 then rkTot T (pv_12 c s 0) (nI (n - 1)) else (if pv_14 s = 2 then rkTwo T (pv_12 c s 0) (pv_12 c s 1) (nI (n - 1)) (n - 1 - 1) 1 0 else rkThr T (pv_12 c s 0) (pv_12 c s 1) n (n - 1 - 1) 1 0))) else 0
theorem e_9 {h : am_H} {a ta N : Nat} {fs : List Value} {T : Nat → Int64} (hR : h[a]? = some (.inr (4, fs))) (hf : fs[1]? = some (.ref ta)) (hT : h[ta]? = some (.inl (1, 78, .inr (.inl T)))) (c s : Int32) {n : Nat} (hn : n < 2 ^ 30) (hn1 : 1 ≤ n) (hN : n < N) : fm_9 N (.ref a) c s (nI n) h = some (.inl (some (.long (rkCnt T c s n)), h)) := by
  have hp : nI n - 1 = nI (n - 1) := by
    obtain ⟨k, rfl⟩ : ∃ k, n = k + 1 := ⟨n - 1, by omega⟩
    exact nI_pred k
  unfold fm_9 fg_9_0 rkCnt
  refine ev_cI (pe_10 c s h) ?_
  by_cases c1 : ¬ pv_10 c s = 0
  · rw [if_pos c1, if_pos c1]
    refine ev_cI (pe_12 c s 0 h) ?_
    refine ev_cI (pe_12 c s 1 h) ?_
    refine ev_cI (pe_14 s h) ?_
    by_cases c2 : pv_14 s = 0
    · rw [if_pos c2, if_pos c2]
      by_cases c3 : nI n ≤ 1
      · rw [if_pos c3, if_pos c3]
        by_cases c4 : ¬ s = 0
        · rw [if_pos c4, if_pos c4]
          rfl
        · rw [if_neg c4, if_neg c4]
          rfl
      · rw [if_neg c3, if_neg c3]
        rfl
    · rw [if_neg c2, if_neg c2]
      by_cases c5 : pv_14 s = 1
      · rw [if_pos c5, if_pos c5]
        refine ev_i (ev_ok hR) ?_
        rw [hp]
        exact ev_cL (e_15 hR hf hT _ _) rfl
      · rw [if_neg c5, if_neg c5]
        by_cases c6 : pv_14 s = 2
        · rw [if_pos c6, if_pos c6]
          refine ev_i (ev_ok hR) ?_
          rw [hp]
          exact ev_cL (e_16 hR hf hT _ _ (by omega) (by omega)) rfl
        · rw [if_neg c6, if_neg c6]
          exact e_9w hR hf hT _ _ hn hn1 hN (n - 1 - 1) 1 N 0 (by omega) (by decide) (by omega)
  · rw [if_neg c1, if_neg c1]
abbrev rkQ : Type := (Nat → Int64) × (Nat → Int64)
/-- a turn of the constructor's inner loop: rows of ways and of totals -/
def rkTurn (s c : Nat) (q : rkQ) : rkQ := (vp_updL q.1 (c * 13 + s) (rkCnt q.2 (nI (c / 21)) (nI (c % 21)) s), vp_updL q.2 (c / 21 * 13 + s) (q.2 (c / 21 * 13 + s) + rkCnt q.2 (nI (c / 21)) (nI (c % 21)) s))
def rkRow (s : Nat) : Nat → Nat → rkQ → rkQ
  | 0, _, q => q
  | m + 1, c, q => rkRow s m (c + 1) (rkTurn s c q)
def rkTab : Nat → Nat → rkQ → rkQ
  | 0, _, q => q
  | m + 1, s, q => rkTab m (s + 1) (rkRow s 126 0 q)
theorem rk_dm : ∀ c, c < 126 → nI c / 21 = nI (c / 21) ∧ nI c - nI c / 21 * 21 = nI (c % 21) := by decide +kernel
/-- Ranks and all that it has made, with its two rows -/
def cl_8 (n : Nat) (q : rkQ) : am_H := .inr (4, [.ref (n + 1), .ref (n + 2), .ref (n + 3), .null, .ref (n + 11), .ref (n + 12), .int 0, .null, .int 0]) :: (((([] ++ [.inl (1, 1638, .inr (.inl q.1))]) ++ [.inl (1, 78, .inr (.inl q.2))]) ++ cl_3 (n + 3)) ++ [.inl (6, 24, .inr (.inr (.inr (.inr (fun _ => none)))))] ++ [.inl (0, 24, .inl (fun _ => 0))])
theorem rk_mul {a b s : Nat} : nI a * 13 + nI s = nI (a * 13 + s) := by
  rw [← nI_add]
  show nI a * nI 13 + nI s = _
  rw [show nI (a * 13) = nI a * nI 13 from Int32.ofNat_mul a 13]
theorem e_8i {h1 : am_H} {n N : Nat} (hn : h1.length = n) (hN : 200 < N) {rec : Value → Int32 → am_H → Option am_O} {s : Nat} (hs1 : 1 ≤ s) (hs : s < 13) :
    ∀ (m c K : Nat) (q : rkQ), m + c = 126 → m < K → fg_8_79 N rec K (.ref n) (nI s) (nI c) (h1 ++ cl_8 n q) = rec (.ref n) (nI (s + 1)) (h1 ++ cl_8 n (rkRow s m c q)) := by
  intro m
  induction m with
  | zero =>
    intro c K q hm hK
    obtain ⟨K, rfl⟩ : ∃ k, K = k + 1 := ⟨K - 1, by omega⟩
    rw [fg_8_79]
    refine ev_t (by rw [show c = 126 by omega]; decide) ?_
    rw [nI_1]
    rfl
  | succ m ih =>
    intro c K q hm hK
    obtain ⟨K, rfl⟩ : ∃ k, K = k + 1 := ⟨K - 1, by omega⟩
    obtain ⟨hd, hm2⟩ := rk_dm c (by omega)
    rw [fg_8_79]
    refine ev_f (nI_ge (show c < 126 by omega) (by decide)) ?_
    refine ev_i (ev_ok (am_gg0 hn)) ?_
    rw [hm2, hd]
    refine ev_cL (e_9 (ta := n + 2) (T := q.2) (am_gg0 hn) rfl (am_gk (k := 2) hn rfl) (nI (c / 21)) (nI (c % 21)) (by omega) hs1 (by omega)) ?_
    refine ev_b (ev_gR (x := .ref (n + 1)) (am_gg0 hn) rfl rfl rfl) ?_
    rw [rk_mul (b := 0), rk_mul (b := 0)]
    refine ev_b (ev_sL (f := q.1) (h1 := h1 ++ cl_8 n (vp_updL q.1 (c * 13 + s) (rkCnt q.2 (nI (c / 21)) (nI (c % 21)) s), q.2)) (am_gk (k := 1) hn rfl) (am_inb_n (by omega) (by omega)) (by rw [nI_clamp (by omega)]; exact am_gsk (k := 1) hn rfl)) ?_
    refine ev_b (ev_gR (x := .ref (n + 2)) (am_gg0 hn) rfl rfl rfl) ?_
    refine ev_b (ev_aL (f := q.2) (am_gk (k := 2) hn rfl) (am_inb_n (by omega) (by omega))) ?_
    rw [nI_clamp (by omega)]
    refine ev_b (ev_sL (f := q.2) (h1 := h1 ++ cl_8 n (rkTurn s c q)) (am_gk (k := 2) hn rfl) (am_inb_n (by omega) (by omega)) (by rw [nI_clamp (by omega)]; exact am_gsk (k := 2) hn rfl)) ?_
    rw [nI_1]
    exact ih (c + 1) K (rkTurn s c q) (by omega) (by omega)
theorem e_8o {h1 : am_H} {n N : Nat} (hn : h1.length = n) (hN : 200 < N) :
    ∀ (m s K : Nat) (q : rkQ), m + s = 13 → 1 ≤ s → m < K → fg_8_71 N K (.ref n) (nI s) (h1 ++ cl_8 n q) = some (.inl (none, h1 ++ cl_8 n (rkTab m s q))) := by
  intro m
  induction m with
  | zero =>
    intro s K q hm hs hK
    obtain ⟨K, rfl⟩ : ∃ k, K = k + 1 := ⟨K - 1, by omega⟩
    rw [fg_8_71]
    exact ev_t (by rw [show s = 13 by omega]; decide) rfl
  | succ m ih =>
    intro s K q hm hs hK
    obtain ⟨K, rfl⟩ : ∃ k, K = k + 1 := ⟨K - 1, by omega⟩
    rw [fg_8_71]
    refine ev_f (nI_ge (show s < 13 by omega) (by decide)) ?_
    refine (e_8i hn hN hs (by omega) 126 0 N q rfl (by omega)).trans ?_
    exact ih (s + 1) K (rkRow s 126 0 q) (by omega) (by omega) (by omega)
/-- the tables as they are made -/
def rkAll : rkQ := rkTab 12 1 (fun _ => 0, fun _ => 0)
