/-! ===== place(b): the reference ===== -/
theorem y_384 {V : Nat → Nat → Value} {I : Nat → Nat → Int32} {L : Nat → Nat → Int64} {R : Nat → Nat → Option Nat} {tl : am_H} {w S n : Nat} (hw : wt V) (h4 : L 224 = tC) (h5 : L 225 = tS) (w3 : w < 3) (hS : S < 21) (hn : n < 13) : fm_384 (.ref 174) (nI w) (nI S) (nI n) (fx V I L R ++ tl) = some (.inl (some (.long (lN (uW (2 * w + truN S) S n))), fx V I L R ++ tl)) := by
  obtain ⟨x14, e14⟩ := hw.1 174 14 (by decide)
  obtain ⟨x88, e88⟩ := hw.1 174 88 (by decide)
  obtain ⟨a, rfl⟩ := nI_all x14
  obtain ⟨b, rfl⟩ := nI_all x88
  rw [gS_of e14 e88]
  exact g_384 h4 h5 w3 hS hn
theorem y_380 {V : Nat → Nat → Value} {I : Nat → Nat → Int32} {L : Nat → Nat → Int64} {R : Nat → Nat → Option Nat} {tl : am_H} {w t S n f g : Nat} (hw : wt V) (h4 : L 224 = tC) (h5 : L 225 = tS) (w3 : w < 3) (ht : t < 2) (hS : S < 21) (hn : n < 13) (hf : f < 13) (hg : g < 13) : fm_380 (.ref 174) (nI w) (nI S) (nI n) (nI f) (nI g) (fx V I L R ++ tl) = some (.inl (some (.long (lN (spN (2 * w + t) S n f g))), fx V I L R ++ tl)) := by
  obtain ⟨x14, e14⟩ := hw.1 174 14 (by decide)
  obtain ⟨x88, e88⟩ := hw.1 174 88 (by decide)
  obtain ⟨a, rfl⟩ := nI_all x14
  obtain ⟨b, rfl⟩ := nI_all x88
  rw [gS_of e14 e88]
  exact g_380 h4 h5 w3 ht hS hn hf hg
theorem uW_tru {c s n : Nat} (h1 : 1 ≤ n) (hn : n ≤ 12) (hc : c < 6) (hs : s < 21) (h : truN s ≠ c % 2) : uW c s n = 0 := by
  rcases Nat.eq_zero_or_pos (uW c s n) with e | e
  · exact e
  · exact absurd (us_k h1 hn hc hs e).1 h
set_option maxRecDepth 100000 in
set_option maxHeartbeats 1600000 in
theorem r_394s {V : Nat → Nat → Value} {I : Nat → Nat → Int32} {L : Nat → Nat → Int64} {R : Nat → Nat → Option Nat} {tl : am_H} {N k c w s n z : Nat} (hw : wt V) (h4 : L 224 = tC) (h5 : L 225 = tS) (w3 : w < 3) (hs : s ≤ 20) (n1 : 1 ≤ n) (hn : n ≤ 12) (hc : c = 2 * w + truN s) {o : Option am_O} (ho : ∀ K, fg_394_42 N (K + 1) (.ref 174) (nI k) (nI s) (nI w) (nI n) (lN (z + sF c n s)) (nI s) (fx V I L R ++ tl) = o) : ∀ (m i K : Nat), i + m = s → m < K → fg_394_42 N K (.ref 174) (nI k) (nI s) (nI w) (nI n) (lN (z + sF c n i)) (nI i) (fx V I L R ++ tl) = o := by
  have key : ∀ s, s < 21 → truN s ≤ 1 := by decide
  have ts := key s (by omega)
  intro m
  induction m with
  | zero =>
    intro i K hi hK
    obtain ⟨K, rfl⟩ : ∃ k, K = k + 1 := ⟨K - 1, by omega⟩
    rw [show i = s by omega]
    exact ho K
  | succ m ih =>
    intro i K hi hK
    obtain ⟨K, rfl⟩ : ∃ k, K = k + 1 := ⟨K - 1, by omega⟩
    have ti := key i (by omega)
    have e := ih (i + 1) K (by omega) (by omega)
    rw [fg_394_42]
    refine ev_f (nI_ge (by omega) (by omega)) (ev_cI (pe_334 _ _) (ev_cI (pe_334 _ _) ?_))
    rw [tr_eq i (by omega), tr_eq s (by omega)]
    by_cases c1 : truN i = truN s
    · refine ev_f (fun e' => e' (by rw [c1])) (ev_i rfl (ev_cL (y_384 hw h4 h5 w3 (by omega) (by omega)) ?_))
      unfold fg_394_75
      rw [lN_add, nI_1, c1, ← hc, Nat.add_assoc]
      exact e
    · refine ev_t (fun e' => c1 ((nI_eq (by omega) (by omega)).mp e')) ?_
      unfold fg_394_75
      have z0 : uW c i n = 0 := uW_tru n1 hn (by omega) (by omega) (by omega)
      have e' : sF c n (i + 1) = sF c n i := by rw [sF, z0, Nat.add_zero]
      rw [e'] at e
      rw [nI_1, show lN (z + sF c n i) + 0 = lN (z + sF c n i) from lN_add _ 0]
      exact e
def iS (c s n f y : Nat) : Nat → Nat
  | 0 => 0
  | i + 1 => iS c s n f y i + spN c s n f (y + i)
def oS (c s n y q : Nat) : Nat → Nat
  | 0 => 0
  | m + 1 => oS c s n y q m + iS c s n (m + 1) y q
set_option maxRecDepth 100000 in
set_option maxHeartbeats 1600000 in
theorem r_394i {V : Nat → Nat → Value} {I : Nat → Nat → Int32} {L : Nat → Nat → Int64} {R : Nat → Nat → Option Nat} {tl : am_H} {N k c w s n f g x z y0 E lim : Nat} {rc : Value → Int32 → Int32 → Int32 → Int32 → Int64 → Int32 → Int32 → Int32 → Int32 → am_H → Option am_O} (hw : wt V) (h4 : L 224 = tC) (h5 : L 225 = tS) (w3 : w < 3) (hs : s ≤ 20) (hn : n ≤ 12) (hc : c = 2 * w + truN s) (hx : x < 13) (hf : f < 13) (hg : g ≤ 12) (hlim : lim = if arN s ≤ 1 then 1 else n) (hl12 : lim ≤ 12) (hE : E = if x = f then g else lim) (hgl : g ≤ lim) (hxf : x ≤ f) : ∀ (m i K : Nat), y0 + i + m = E → m < K → fg_394_154 N rc K (.ref 174) (nI k) (nI s) (nI w) (nI n) (lN (z + iS c s n x y0 i)) (nI (arN s)) (nI f) (nI g) (nI x) (nI (y0 + i)) (fx V I L R ++ tl) = rc (.ref 174) (nI k) (nI s) (nI w) (nI n) (lN (z + iS c s n x y0 (E - y0))) (nI (arN s)) (nI f) (nI g) (nI (x + 1)) (fx V I L R ++ tl) := by
  have key : ∀ s, s < 21 → truN s ≤ 1 := by decide
  have ts := key s (by omega)
  have ar3 := ar_le s
  have hh : ∀ (K y : Nat) (Z : Int64), fg_394_154 N rc (K + 1) (.ref 174) (nI k) (nI s) (nI w) (nI n) Z (nI (arN s)) (nI f) (nI g) (nI x) (nI y) (fx V I L R ++ tl) = fg_394_168 N rc (fg_394_154 N rc K) (.ref 174) (nI k) (nI s) (nI w) (nI n) Z (nI (arN s)) (nI f) (nI g) (nI x) (nI y) (nI y) (nI lim) (fx V I L R ++ tl) := fun K y Z => by
    rw [fg_394_154, hlim]
    by_cases a : arN s ≤ 1
    · rw [if_pos a]
      exact ev_t (nI_le (b := 1) a (by omega)) rfl
    · rw [if_neg a]
      exact ev_f (nI_ge (a := 1) (by omega) (by omega)) rfl
  intro m
  induction m with
  | zero =>
    intro i K hi hK
    obtain ⟨K, rfl⟩ : ∃ k, K = k + 1 := ⟨K - 1, by omega⟩
    have ei : E - y0 = i := by omega
    have el : E ≤ lim := by rw [hE]; split <;> omega
    rw [hh, ei]
    unfold fg_394_168 fg_394_211
    rw [nI_1]
    by_cases c1 : lim ≤ y0 + i
    · exact ev_t (nI_le c1 (by omega)) rfl
    · refine ev_f (nI_ge (by omega) (by omega)) ?_
      have xf : x = f := by
        by_cases h : x = f
        · exact h
        · rw [if_neg h] at hE; omega
      rw [if_pos xf] at hE
      exact ev_f (fun e => e (by rw [xf])) (ev_f (nI_nlt (by omega) (by omega)) rfl)
  | succ m ih =>
    intro i K hi hK
    obtain ⟨K, rfl⟩ : ∃ k, K = k + 1 := ⟨K - 1, by omega⟩
    have el : E ≤ lim := by rw [hE]; split <;> omega
    have e := ih (i + 1) K (by omega) (by omega)
    have add : fg_394_188 N rc (fg_394_154 N rc K) (.ref 174) (nI k) (nI s) (nI w) (nI n) (lN (z + iS c s n x y0 i)) (nI (arN s)) (nI f) (nI g) (nI x) (nI (y0 + i)) (fx V I L R ++ tl) = rc (.ref 174) (nI k) (nI s) (nI w) (nI n) (lN (z + iS c s n x y0 (E - y0))) (nI (arN s)) (nI f) (nI g) (nI (x + 1)) (fx V I L R ++ tl) := by
      unfold fg_394_188
      refine ev_i rfl (ev_cL (y_380 (t := truN s) hw h4 h5 w3 (by omega) (by omega) (by omega) hx (by omega)) ?_)
      rw [lN_add, nI_1, ← hc, Nat.add_assoc]
      exact e
    rw [hh]
    unfold fg_394_168
    refine ev_f (nI_ge (by omega) (by omega)) ?_
    by_cases xf : x = f
    · rw [if_pos xf] at hE
      exact ev_f (fun e => e (by rw [xf])) (ev_t (nI_lt (by omega) (by omega)) add)
    · exact ev_t (fun e => xf ((nI_eq (by omega) (by omega)).mp e)) add
set_option maxRecDepth 100000 in
set_option maxHeartbeats 1600000 in
theorem r_394o {V : Nat → Nat → Value} {I : Nat → Nat → Int32} {L : Nat → Nat → Int64} {R : Nat → Nat → Option Nat} {tl : am_H} {N k c w s n f g z y0 lim : Nat} (hN : 100 < N) (hw : wt V) (h4 : L 224 = tC) (h5 : L 225 = tS) (w3 : w < 3) (hs : s ≤ 20) (hn : n ≤ 12) (hc : c = 2 * w + truN s) (hf : f < 12) (hg : g ≤ 12) (hlim : lim = if arN s ≤ 1 then 1 else n) (hl12 : lim ≤ 12) (hy : y0 = if arN s ≤ 1 then 0 else 1) (hgl : g ≤ lim) (hyg : y0 ≤ g) {o : Option am_O} (ho : ∀ K, fg_394_134 N (K + 1) (.ref 174) (nI k) (nI s) (nI w) (nI n) (lN (z + oS c s n y0 (lim - y0) (f - 1) + iS c s n f y0 (g - y0))) (nI (arN s)) (nI f) (nI g) (nI (f + 1)) (fx V I L R ++ tl) = o) : ∀ (m i K : Nat), i + m = f → m + 1 < K → 1 ≤ i → fg_394_134 N K (.ref 174) (nI k) (nI s) (nI w) (nI n) (lN (z + oS c s n y0 (lim - y0) (i - 1))) (nI (arN s)) (nI f) (nI g) (nI i) (fx V I L R ++ tl) = o := by
  have ar3 := ar_le s
  have yl : y0 ≤ lim := by omega
  have hh : ∀ (K i : Nat) (Z : Int64), 1 ≤ i → i ≤ f → fg_394_134 N (K + 1) (.ref 174) (nI k) (nI s) (nI w) (nI n) Z (nI (arN s)) (nI f) (nI g) (nI i) (fx V I L R ++ tl) = fg_394_154 N (fg_394_134 N K) N (.ref 174) (nI k) (nI s) (nI w) (nI n) Z (nI (arN s)) (nI f) (nI g) (nI i) (nI y0) (fx V I L R ++ tl) := fun K i Z h1 h2 => by
    rw [fg_394_134, hy]
    refine ev_f (nI_nlt h2 (by omega)) ?_
    by_cases a : arN s ≤ 1
    · rw [if_pos a]
      exact ev_t (nI_le (b := 1) a (by omega)) rfl
    · rw [if_neg a]
      exact ev_f (nI_ge (a := 1) (by omega) (by omega)) rfl
  intro m
  induction m with
  | zero =>
    intro i K hi hK h1
    obtain ⟨K, rfl⟩ : ∃ k, K = k + 1 + 1 := ⟨K - 2, by omega⟩
    obtain rfl : i = f := by omega
    rw [hh _ _ _ h1 (Nat.le_refl _)]
    have e := r_394i (V := V) (I := I) (L := L) (R := R) (tl := tl) (N := N) (k := k) (c := c) (w := w) (s := s) (n := n) (f := i) (g := g) (x := i) (z := z + oS c s n y0 (lim - y0) (i - 1)) (y0 := y0) (E := g) (lim := lim) (rc := fg_394_134 N (K + 1)) hw h4 h5 w3 hs hn hc (by omega) (by omega) hg hlim hl12 (by rw [if_pos rfl]) hgl (Nat.le_refl _) (g - y0) 0 N (by omega) (by omega)
    exact e.trans (ho K)
  | succ m ih =>
    intro i K hi hK h1
    obtain ⟨K, rfl⟩ : ∃ k, K = k + 1 := ⟨K - 1, by omega⟩
    rw [hh _ _ _ h1 (by omega)]
    have e := r_394i (V := V) (I := I) (L := L) (R := R) (tl := tl) (N := N) (k := k) (c := c) (w := w) (s := s) (n := n) (f := f) (g := g) (x := i) (z := z + oS c s n y0 (lim - y0) (i - 1)) (y0 := y0) (E := lim) (lim := lim) (rc := fg_394_134 N K) hw h4 h5 w3 hs hn hc (by omega) (by omega) hg hlim hl12 (by rw [if_neg (by omega)]) hgl (by omega) (lim - y0) 0 N (by omega) (by omega)
    obtain ⟨j, rfl⟩ : ∃ j, i = j + 1 := ⟨i - 1, by omega⟩
    have e2 := ih (j + 1 + 1) K (by omega) (by omega) (by omega)
    rw [show z + oS c s n y0 (lim - y0) (j + 1 + 1 - 1) = z + oS c s n y0 (lim - y0) (j + 1 - 1) + iS c s n (j + 1) y0 (lim - y0) from (Nat.add_assoc _ _ _).symm] at e2
    exact e.trans e2
/-! what these sums are -/
theorem iS_1 {c s n x : Nat} (ha : arN s = 1) (h : n ≠ 1 + x) : iS c s n x 0 1 = 0 := by
  show 0 + spN c s n x (0 + 0) = 0
  unfold spN
  rw [if_neg (by omega), if_neg (by omega)]
theorem iS_2 {c s n x : Nat} (ha : arN s = 2) (hx : x + 1 < n) : ∀ i, iS c s n x 1 i = if n - 1 - x ≤ i then uT (pcN c s 0) x * uT (pcN c s 1) (n - 1 - x) else 0 := by
  intro i
  induction i with
  | zero => rw [if_neg (by omega)]; rfl
  | succ i ih =>
    show iS c s n x 1 i + spN c s n x (1 + i) = _
    have sp : spN c s n x (1 + i) = if n = 1 + x + (1 + i) then uT (pcN c s 0) x * uT (pcN c s 1) (1 + i) else 0 := by
      unfold spN
      rw [if_neg (show ¬ 3 ≤ arN s by omega), if_neg (show ¬ arN s ≤ 1 by omega)]
    rw [ih, sp]
    by_cases e : n = 1 + x + (1 + i)
    · rw [if_pos e, if_neg (show ¬ n - 1 - x ≤ i by omega), if_pos (show n - 1 - x ≤ i + 1 by omega), Nat.zero_add, show n - 1 - x = 1 + i by omega]
    · rw [if_neg e, Nat.add_zero]
      by_cases d : n - 1 - x ≤ i
      · rw [if_pos d, if_pos (show n - 1 - x ≤ i + 1 by omega)]
      · rw [if_neg d, if_neg (show ¬ n - 1 - x ≤ i + 1 by omega)]
theorem iS_3 {c s n x : Nat} (ha : arN s = 3) : ∀ i, i ≤ n - 1 - x - 1 → iS c s n x 1 i = uT (pcN c s 0) x * s2 (pcN c s 1) (pcN c s 1) (n - 1 - x) i := by
  intro i
  induction i with
  | zero => intro _; exact (Nat.mul_zero _).symm
  | succ i ih =>
    intro hi
    show iS c s n x 1 i + spN c s n x (1 + i) = _
    rw [ih (by omega)]
    unfold spN
    rw [if_pos (by omega), if_pos (by omega), s2, Nat.mul_add, Nat.add_comm 1 i]
theorem iS_3n {c s n x : Nat} (ha : arN s = 3) (hx : x + 2 ≤ n) : ∀ j, iS c s n x 1 (n - 1 - x - 1 + j) = iS c s n x 1 (n - 1 - x - 1) := by
  intro j
  induction j with
  | zero => rfl
  | succ j ih =>
    show iS c s n x 1 (n - 1 - x - 1 + j) + spN c s n x (1 + (n - 1 - x - 1 + j)) = _
    rw [ih]
    unfold spN
    rw [if_pos (by omega), if_neg (by omega), Nat.add_zero]
theorem oS_1 {c s n f : Nat} (ha : arN s = 1) (hn : n = 1 + f) : ∀ m, m ≤ f - 1 → oS c s n 0 1 m = 0 := by
  intro m
  induction m with
  | zero => intro _; rfl
  | succ m ih =>
    intro hm
    show oS c s n 0 1 m + iS c s n (m + 1) 0 1 = 0
    rw [ih (by omega), iS_1 ha (by omega)]
theorem oS_2 {c s n : Nat} (ha : arN s = 2) : ∀ m, m + 2 ≤ n → oS c s n 1 (n - 1) m = s2 (pcN c s 0) (pcN c s 1) (n - 1) m := by
  intro m
  induction m with
  | zero => intro _; rfl
  | succ m ih =>
    intro hm
    show oS c s n 1 (n - 1) m + iS c s n (m + 1) 1 (n - 1) = _
    rw [ih (by omega), iS_2 ha (by omega), if_pos (by omega), s2]
theorem oS_3 {c s n : Nat} (ha : arN s = 3) : ∀ m, m + 2 ≤ n → oS c s n 1 (n - 1) m = s3 (pcN c s 0) (pcN c s 1) (n - 1) m := by
  intro m
  induction m with
  | zero => intro _; rfl
  | succ m ih =>
    intro hm
    show oS c s n 1 (n - 1) m + iS c s n (m + 1) 1 (n - 1) = _
    have e := iS_3n (c := c) (s := s) (n := n) (x := m + 1) ha (by omega) (m + 2)
    rw [show n - 1 - (m + 1) - 1 + (m + 2) = n - 1 by omega] at e
    rw [ih (by omega), e, iS_3 ha _ (Nat.le_refl _), s3]
