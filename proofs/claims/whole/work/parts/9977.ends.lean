/-! ===== the ends of nodes: the reference's desk, the class's shapes ===== -/
set_option maxRecDepth 100000 in
set_option maxHeartbeats 4000000 in
theorem r_405i {V : Nat → Nat → Value} {I : Nat → Nat → Int32} {L : Nat → Nat → Int64} {R : Nat → Nat → Option Nat} {tl : am_H} {N k m : Nat} {l r : List (Nat × Nat)} {x : Nat × Nat} {g : Nat → Int32} {rc : Value → Int32 → am_H → Option am_O} (hl : l.length ≤ 60) (hS : rowS (I 186) l) (hd : l.drop k = x :: r) (hF : isF (m + arN x.1) r) (hg : rowT g l (k + 1)) : ∀ (q p K : Nat), p + q = arN x.1 → q < K → fg_405_15 N rc K (.ref 174) (nI k) (nI (1 + tk p r)) (nI p) (fx V (iup I 217 g) L R ++ tl) = rc (.ref 174) (nI k + (-1)) (fx V (iup I 217 (upd g k (nI (tk 1 (l.drop k))))) L R ++ tl) := by
  obtain ⟨s1, s2⟩ := hS k x r hd
  have hlen := drop_len hd
  have ha := ar_le x.1
  have gA : am_pA 0 (.ref 186) (nI k) (fx V (iup I 217 g) L R ++ tl) = some (nI x.1) := by
    rw [ev_a (f := I 186) (n := 400) rfl (am_inb_n (by omega) (by omega)), nI_clamp (by omega), s1]
  intro q
  induction q with
  | zero =>
    intro p K hp hK
    obtain ⟨K, rfl⟩ : ∃ k, K = k + 1 := ⟨K - 1, by omega⟩
    rw [fg_405_15]
    refine ev_b (a := .ref 186) rfl (ev_b gA (ev_cI (ar_e x.1 s2 _) ?_))
    refine ev_t (nI_le (by omega) (by omega)) (ev_b (a := .ref 217) rfl ?_)
    refine ev_b (ev_s (f := g) (n := 400) (h1 := fx V (iup I 217 (upd g k (nI (1 + tk p r)))) L R ++ tl) rfl (am_inb_n (by omega) (by omega)) rfl (by rw [nI_clamp (by omega)]; rfl)) ?_
    rw [hd, show (1 : Nat) = 0 + 1 from rfl, tk_c, Nat.zero_add, Nat.zero_add, show p = arN x.1 by omega]
  | succ q ih =>
    intro p K hp hK
    obtain ⟨K, rfl⟩ : ∃ k, K = k + 1 := ⟨K - 1, by omega⟩
    have hlt := part_lt hd hF (show p < arN x.1 by omega)
    have e1 := hg (k + 1 + tk p r) (by omega) hlt
    rw [drop_s hd] at e1
    have e2 := tk_add r p 1
    have e3 := tk_le r (p + 1)
    rw [fg_405_15]
    refine ev_b (a := .ref 186) rfl (ev_b gA (ev_cI (ar_e x.1 s2 _) ?_))
    refine ev_f (nI_ge (by omega) (by omega)) (ev_b (a := .ref 217) rfl ?_)
    rw [nI_add, show k + (1 + tk p r) = k + 1 + tk p r by omega]
    refine ev_b (ev_a (f := g) (n := 400) rfl (am_inb_n (by omega) (by omega))) ?_
    rw [nI_clamp (by omega), e1, nI_add, nI_1, show 1 + tk p r + tk 1 (r.drop (tk p r)) = 1 + tk (p + 1) r by omega]
    exact ih (p + 1) K (by omega) (by omega)
set_option maxRecDepth 100000 in
set_option maxHeartbeats 4000000 in
theorem r_405o {V : Nat → Nat → Value} {I : Nat → Nat → Int32} {L : Nat → Nat → Int64} {R : Nat → Nat → Option Nat} {tl : am_H} {N : Nat} {l : List (Nat × Nat)} (hN : 100 < N) (hl : l.length ≤ 60) (hS : rowS (I 186) l) (hF : isF 1 l) : ∀ (k K : Nat) (g : Nat → Int32), k ≤ l.length → k < K → rowT g l k → ∃ g', rowT g' l 0 ∧ fg_405_7 N K (.ref 174) (nI k + (-1)) (fx V (iup I 217 g) L R ++ tl) = some (.inl (none, fx V (iup I 217 g') L R ++ tl)) := by
  intro k
  induction k with
  | zero =>
    intro K g hk hK hg
    obtain ⟨K, rfl⟩ : ∃ k, K = k + 1 := ⟨K - 1, by omega⟩
    refine ⟨g, hg, ?_⟩
    rw [fg_405_7]
    exact ev_t (by decide) rfl
  | succ k ih =>
    intro K g hk hK hg
    obtain ⟨K, rfl⟩ : ∃ k, K = k + 1 := ⟨K - 1, by omega⟩
    obtain ⟨x, r, m, hd, hm⟩ := isF_at hF (show k < l.length by omega)
    have ha := ar_le x.1
    have e := r_405i (V := V) (I := I) (L := L) (R := R) (tl := tl) (N := N) (rc := fg_405_7 N K) hl hS hd hm hg (arN x.1) 0 N (by omega) (by omega)
    rw [tk_0] at e
    obtain ⟨g', h1, h2⟩ := ih K (upd g k (nI (tk 1 (l.drop k)))) (by omega) (by omega) (fun j j1 j2 => by
      by_cases c : j = k
      · rw [c]; exact upd_eq
      · rw [upd_ne c]; exact hg j (by omega) j2)
    refine ⟨g', h1, ?_⟩
    rw [fg_405_7, nI_m1]
    refine ev_f (nI_pos (by omega)) ?_
    exact e.trans h2
theorem r_405 {V : Nat → Nat → Value} {I : Nat → Nat → Int32} {L : Nat → Nat → Int64} {R : Nat → Nat → Option Nat} {tl : am_H} {N : Nat} {l : List (Nat × Nat)} (hN : 100 < N) (hl : l.length ≤ 60) (h14 : V 174 14 = .int (nI l.length)) (hS : rowS (I 186) l) (hF : isF 1 l) : ∃ g', rowT g' l 0 ∧ fm_405 N (.ref 174) (fx V I L R ++ tl) = some (.inl (none, fx V (iup I 217 g') L R ++ tl)) := by
  obtain ⟨g', h1, h2⟩ := r_405o (V := V) (I := I) (L := L) (R := R) (tl := tl) hN hl hS hF l.length N (I 217) (Nat.le_refl _) (by omega) (fun j j1 j2 => by omega)
  refine ⟨g', h1, ?_⟩
  unfold fm_405 fg_405_0
  refine ev_b (a := nI l.length) (by show am_vI (some (V 174 14)) = _; rw [h14]; rfl) ?_
  rw [Int32.sub_eq_add_neg]
  rw [iup_self] at h2
  exact h2
theorem ar14 : ∀ s, s < 21 → pv_14 (nI s) = nI (arN s) := by decide +kernel

set_option maxRecDepth 100000 in
set_option maxHeartbeats 4000000 in
theorem c_77i_17 {V : Nat → Nat → Value} {I : Nat → Nat → Int32} {L : Nat → Nat → Int64} {R : Nat → Nat → Option Nat} {tl : am_H} {N k m a : Nat} {l r : List (Nat × Nat)} {x : Nat × Nat} {g : Nat → Int32} {rc : Value → Value → Int32 → am_H → Option am_O} (h7 : V 17 7 = .int (nI l.length)) (hl : l.length ≤ 60) (hd : l.drop k = x :: r) (hF : isF (m + arN x.1) r) (hg : ∀ j, k < j → j < l.length → g j = nI (enL l j)) : ∀ (q p K : Nat), p + q = arN x.1 → q < K → fg_77_39 N rc K (.ref 17) (.ref a) (nI k) (nI (k + 1 + tk p r)) (nI q) (fx V (iup I 18 g) L R ++ tl) = rc (.ref 17) (.ref a) (nI k + (-1)) (fx V (iup I 18 (upd g k (nI (enL l k)))) L R ++ tl) := by
  have hlen := drop_len hd
  have ha := ar_le x.1
  intro q
  induction q with
  | zero =>
    intro p K hp hK
    obtain ⟨K, rfl⟩ : ∃ k, K = k + 1 := ⟨K - 1, by omega⟩
    have e : k + 1 + tk p r = enL l k := by
      unfold enL
      rw [hd, show (1 : Nat) = 0 + 1 from rfl, tk_c, show 0 + arN x.1 = p by omega]
      omega
    rw [fg_77_39, e]
    exact ev_t (by decide) (ev_b (a := Value.ref 18) rfl (ev_b (a := fx V (iup I 18 (upd g k (nI (enL l k)))) L R ++ tl) (ev_s (f := g) (n := 60) rfl (am_inb_n (by omega) (by omega)) rfl (by rw [nI_clamp (by omega)]; rfl)) rfl))
  | succ q ih =>
    intro p K hp hK
    obtain ⟨K, rfl⟩ : ∃ k, K = k + 1 := ⟨K - 1, by omega⟩
    have lt := part_lt hd hF (show p < arN x.1 by omega)
    have e : g (k + 1 + tk p r) = nI (k + 1 + tk (p + 1) r) := by
      rw [hg _ (by omega) lt]
      unfold enL
      rw [drop_s hd, tk_add r p 1]
      congr 1
      omega
    rw [fg_77_39]
    refine ev_f (nI_nle (by omega) (by omega)) (ev_b (a := nI l.length) (by show am_vI (some (V 17 7)) = _; rw [h7]; rfl) (ev_f (nI_ge lt (by omega)) (ev_b (a := Value.ref 18) rfl (ev_b (a := nI (k + 1 + tk (p + 1) r)) ((ev_a (f := g) (n := 60) rfl (am_inb_n (by omega) (by omega))).trans (by rw [nI_clamp (by omega), e])) ?_))))
    unfold fg_77_65
    rw [nI_m1]
    exact ih (p + 1) K (by omega) (by omega)
set_option maxRecDepth 100000 in
set_option maxHeartbeats 4000000 in
theorem c_77o_17 {V : Nat → Nat → Value} {I : Nat → Nat → Int32} {L : Nat → Nat → Int64} {R : Nat → Nat → Option Nat} {tl : am_H} {N a it kd ln m0 : Nat} {f : Nat → Int32} {l : List (Nat × Nat)} (hN : 100 < N) (hk0 : kd ≠ 2) (hp : prA V I tl a it kd ln l.length m0 f) (ha : a ≠ 17) (hit : it ≠ 18) (hm0 : l.length * wdN kd ≤ m0) (hm1 : m0 ≤ 1000) (h7 : V 17 7 = .int (nI l.length)) (hl : l.length ≤ 60) (hS : ∀ k x r, l.drop k = x :: r → f (k * 2) = nI x.1 ∧ x.1 ≤ 20) (hF : isF 1 l) : ∀ (k K : Nat) (g : Nat → Int32), k ≤ l.length → k < K → (∀ j, k ≤ j → j < l.length → g j = nI (enL l j)) → ∃ g', (∀ j, j < l.length → g' j = nI (enL l j)) ∧ fg_77_20 N K (.ref 17) (.ref a) (nI k + (-1)) (fx V (iup I 18 g) L R ++ tl) = some (.inl (none, fx V (iup I 18 g') L R ++ tl)) := by
  have w2 : wdN kd = 2 := if_neg hk0
  intro k
  induction k with
  | zero =>
    intro K g hk hK hg
    obtain ⟨K, rfl⟩ : ∃ k, K = k + 1 := ⟨K - 1, by omega⟩
    refine ⟨g, fun j hj => hg j (by omega) hj, ?_⟩
    rw [fg_77_20]
    exact ev_t (by decide) rfl
  | succ k ih =>
    intro K g hk hK hg
    obtain ⟨K, rfl⟩ : ∃ k, K = k + 1 := ⟨K - 1, by omega⟩
    obtain ⟨x, r, m, hd, hm⟩ := isF_at hF (show k < l.length by omega)
    obtain ⟨s1, s2⟩ := hS k x r hd
    have har := ar_le x.1
    have hpg := hp V (iup I 18 g) L R (fun j => rfl) (iup_na hit)
    have g0 := c_54 (k := k) (w := 0) hpg hm0 hm1 hl (by omega) (by omega)
    rw [w2, Nat.add_zero, s1] at g0
    obtain ⟨x1, x2, x3, x4, x5, x6, p1, p2⟩ := hpg
    have e := c_77i_17 (V := V) (I := I) (L := L) (R := R) (tl := tl) (N := N) (a := a) (rc := fg_77_20 N K) h7 hl hd hm (fun j h1 h2 => hg j (by omega) h2) (arN x.1) 0 N (by omega) (by omega)
    rw [tk_0, Nat.add_zero] at e
    obtain ⟨g', h1, h2⟩ := ih K (upd g k (nI (enL l k))) (by omega) (by omega) (fun j j1 j2 => by
      by_cases c : j = k
      · rw [c]; exact upd_eq
      · rw [upd_ne c]; exact hg j (by omega) j2)
    refine ⟨g', h1, ?_⟩
    rw [fg_77_20, nI_m1]
    refine ev_f (nI_pos (by omega)) (ev_i (ev_ok p1) (ev_cI g0 (ev_cI (pe_14 _ _) ?_)))
    rw [show pv_14 (nI x.1) = nI (arN x.1) from ar14 x.1 (by omega), nI_1]
    exact e.trans h2
set_option maxRecDepth 100000 in
set_option maxHeartbeats 4000000 in
theorem c_77_17 {V : Nat → Nat → Value} {I : Nat → Nat → Int32} {L : Nat → Nat → Int64} {R : Nat → Nat → Option Nat} {tl : am_H} {N a it kd ln m0 : Nat} {f : Nat → Int32} {l : List (Nat × Nat)} (hN : 100 < N) (hk0 : kd ≠ 2) (hp : prA V I tl a it kd ln l.length m0 f) (ha : a ≠ 17) (hit : it ≠ 18) (hm0 : l.length * wdN kd ≤ m0) (hm1 : m0 ≤ 1000) (hl : l.length ≤ 60) (hS : ∀ k x r, l.drop k = x :: r → f (k * 2) = nI x.1 ∧ x.1 ≤ 20) (hF : isF 1 l) : ∃ g', (∀ j, j < l.length → g' j = nI (enL l j)) ∧ fm_77 N (.ref 17) (.ref a) (fx V I L R ++ tl) = some (.inl (none, fx (vup V 17 7 (.int (nI l.length))) (iup I 18 g') L R ++ tl)) := by
  obtain ⟨x1, x2, x3, x4, x5, x6, p1, p2⟩ := hp V I L R (fun j => rfl) rfl
  obtain ⟨g', h1, h2⟩ := c_77o_17 (V := vup V 17 7 (.int (nI l.length))) (I := I) (L := L) (R := R) (tl := tl) (N := N) hN hk0 (fun W J L' R' hW hJ => hp W J L' R' (fun j => (hW j).trans (vup_na ha)) hJ) ha hit hm0 hm1 vup_eq hl hS hF l.length N (I 18) (Nat.le_refl _) (by omega) (fun j j1 j2 => by omega)
  refine ⟨g', h1, ?_⟩
  rw [iup_self] at h2
  unfold fm_77 fg_77_0
  refine ev_b (ev_gI p1 rfl rfl) (ev_cI (pe_38 _ _ _) ?_)
  rw [show pv_38 (nI l.length) 60 = nI l.length from if_neg (fun e => nI_nlt (a := 60) hl (by omega) e)]
  refine ev_b qp_17_7 (ev_b (a := nI l.length) rfl ?_)
  rw [Int32.sub_eq_add_neg]
  exact h2

set_option maxRecDepth 100000 in
set_option maxHeartbeats 4000000 in
theorem c_77i_28 {V : Nat → Nat → Value} {I : Nat → Nat → Int32} {L : Nat → Nat → Int64} {R : Nat → Nat → Option Nat} {tl : am_H} {N k m a : Nat} {l r : List (Nat × Nat)} {x : Nat × Nat} {g : Nat → Int32} {rc : Value → Value → Int32 → am_H → Option am_O} (h7 : V 28 7 = .int (nI l.length)) (hl : l.length ≤ 60) (hd : l.drop k = x :: r) (hF : isF (m + arN x.1) r) (hg : ∀ j, k < j → j < l.length → g j = nI (enL l j)) : ∀ (q p K : Nat), p + q = arN x.1 → q < K → fg_77_39 N rc K (.ref 28) (.ref a) (nI k) (nI (k + 1 + tk p r)) (nI q) (fx V (iup I 29 g) L R ++ tl) = rc (.ref 28) (.ref a) (nI k + (-1)) (fx V (iup I 29 (upd g k (nI (enL l k)))) L R ++ tl) := by
  have hlen := drop_len hd
  have ha := ar_le x.1
  intro q
  induction q with
  | zero =>
    intro p K hp hK
    obtain ⟨K, rfl⟩ : ∃ k, K = k + 1 := ⟨K - 1, by omega⟩
    have e : k + 1 + tk p r = enL l k := by
      unfold enL
      rw [hd, show (1 : Nat) = 0 + 1 from rfl, tk_c, show 0 + arN x.1 = p by omega]
      omega
    rw [fg_77_39, e]
    exact ev_t (by decide) (ev_b (a := Value.ref 29) rfl (ev_b (a := fx V (iup I 29 (upd g k (nI (enL l k)))) L R ++ tl) (ev_s (f := g) (n := 60) rfl (am_inb_n (by omega) (by omega)) rfl (by rw [nI_clamp (by omega)]; rfl)) rfl))
  | succ q ih =>
    intro p K hp hK
    obtain ⟨K, rfl⟩ : ∃ k, K = k + 1 := ⟨K - 1, by omega⟩
    have lt := part_lt hd hF (show p < arN x.1 by omega)
    have e : g (k + 1 + tk p r) = nI (k + 1 + tk (p + 1) r) := by
      rw [hg _ (by omega) lt]
      unfold enL
      rw [drop_s hd, tk_add r p 1]
      congr 1
      omega
    rw [fg_77_39]
    refine ev_f (nI_nle (by omega) (by omega)) (ev_b (a := nI l.length) (by show am_vI (some (V 28 7)) = _; rw [h7]; rfl) (ev_f (nI_ge lt (by omega)) (ev_b (a := Value.ref 29) rfl (ev_b (a := nI (k + 1 + tk (p + 1) r)) ((ev_a (f := g) (n := 60) rfl (am_inb_n (by omega) (by omega))).trans (by rw [nI_clamp (by omega), e])) ?_))))
    unfold fg_77_65
    rw [nI_m1]
    exact ih (p + 1) K (by omega) (by omega)
set_option maxRecDepth 100000 in
set_option maxHeartbeats 4000000 in
theorem c_77o_28 {V : Nat → Nat → Value} {I : Nat → Nat → Int32} {L : Nat → Nat → Int64} {R : Nat → Nat → Option Nat} {tl : am_H} {N a it kd ln m0 : Nat} {f : Nat → Int32} {l : List (Nat × Nat)} (hN : 100 < N) (hk0 : kd ≠ 2) (hp : prA V I tl a it kd ln l.length m0 f) (ha : a ≠ 28) (hit : it ≠ 29) (hm0 : l.length * wdN kd ≤ m0) (hm1 : m0 ≤ 1000) (h7 : V 28 7 = .int (nI l.length)) (hl : l.length ≤ 60) (hS : ∀ k x r, l.drop k = x :: r → f (k * 2) = nI x.1 ∧ x.1 ≤ 20) (hF : isF 1 l) : ∀ (k K : Nat) (g : Nat → Int32), k ≤ l.length → k < K → (∀ j, k ≤ j → j < l.length → g j = nI (enL l j)) → ∃ g', (∀ j, j < l.length → g' j = nI (enL l j)) ∧ fg_77_20 N K (.ref 28) (.ref a) (nI k + (-1)) (fx V (iup I 29 g) L R ++ tl) = some (.inl (none, fx V (iup I 29 g') L R ++ tl)) := by
  have w2 : wdN kd = 2 := if_neg hk0
  intro k
  induction k with
  | zero =>
    intro K g hk hK hg
    obtain ⟨K, rfl⟩ : ∃ k, K = k + 1 := ⟨K - 1, by omega⟩
    refine ⟨g, fun j hj => hg j (by omega) hj, ?_⟩
    rw [fg_77_20]
    exact ev_t (by decide) rfl
  | succ k ih =>
    intro K g hk hK hg
    obtain ⟨K, rfl⟩ : ∃ k, K = k + 1 := ⟨K - 1, by omega⟩
    obtain ⟨x, r, m, hd, hm⟩ := isF_at hF (show k < l.length by omega)
    obtain ⟨s1, s2⟩ := hS k x r hd
    have har := ar_le x.1
    have hpg := hp V (iup I 29 g) L R (fun j => rfl) (iup_na hit)
    have g0 := c_54 (k := k) (w := 0) hpg hm0 hm1 hl (by omega) (by omega)
    rw [w2, Nat.add_zero, s1] at g0
    obtain ⟨x1, x2, x3, x4, x5, x6, p1, p2⟩ := hpg
    have e := c_77i_28 (V := V) (I := I) (L := L) (R := R) (tl := tl) (N := N) (a := a) (rc := fg_77_20 N K) h7 hl hd hm (fun j h1 h2 => hg j (by omega) h2) (arN x.1) 0 N (by omega) (by omega)
    rw [tk_0, Nat.add_zero] at e
    obtain ⟨g', h1, h2⟩ := ih K (upd g k (nI (enL l k))) (by omega) (by omega) (fun j j1 j2 => by
      by_cases c : j = k
      · rw [c]; exact upd_eq
      · rw [upd_ne c]; exact hg j (by omega) j2)
    refine ⟨g', h1, ?_⟩
    rw [fg_77_20, nI_m1]
    refine ev_f (nI_pos (by omega)) (ev_i (ev_ok p1) (ev_cI g0 (ev_cI (pe_14 _ _) ?_)))
    rw [show pv_14 (nI x.1) = nI (arN x.1) from ar14 x.1 (by omega), nI_1]
    exact e.trans h2
set_option maxRecDepth 100000 in
set_option maxHeartbeats 4000000 in
theorem c_77_28 {V : Nat → Nat → Value} {I : Nat → Nat → Int32} {L : Nat → Nat → Int64} {R : Nat → Nat → Option Nat} {tl : am_H} {N a it kd ln m0 : Nat} {f : Nat → Int32} {l : List (Nat × Nat)} (hN : 100 < N) (hk0 : kd ≠ 2) (hp : prA V I tl a it kd ln l.length m0 f) (ha : a ≠ 28) (hit : it ≠ 29) (hm0 : l.length * wdN kd ≤ m0) (hm1 : m0 ≤ 1000) (hl : l.length ≤ 60) (hS : ∀ k x r, l.drop k = x :: r → f (k * 2) = nI x.1 ∧ x.1 ≤ 20) (hF : isF 1 l) : ∃ g', (∀ j, j < l.length → g' j = nI (enL l j)) ∧ fm_77 N (.ref 28) (.ref a) (fx V I L R ++ tl) = some (.inl (none, fx (vup V 28 7 (.int (nI l.length))) (iup I 29 g') L R ++ tl)) := by
  obtain ⟨x1, x2, x3, x4, x5, x6, p1, p2⟩ := hp V I L R (fun j => rfl) rfl
  obtain ⟨g', h1, h2⟩ := c_77o_28 (V := vup V 28 7 (.int (nI l.length))) (I := I) (L := L) (R := R) (tl := tl) (N := N) hN hk0 (fun W J L' R' hW hJ => hp W J L' R' (fun j => (hW j).trans (vup_na ha)) hJ) ha hit hm0 hm1 vup_eq hl hS hF l.length N (I 29) (Nat.le_refl _) (by omega) (fun j j1 j2 => by omega)
  refine ⟨g', h1, ?_⟩
  rw [iup_self] at h2
  unfold fm_77 fg_77_0
  refine ev_b (ev_gI p1 rfl rfl) (ev_cI (pe_38 _ _ _) ?_)
  rw [show pv_38 (nI l.length) 60 = nI l.length from if_neg (fun e => nI_nlt (a := 60) hl (by omega) e)]
  refine ev_b qp_28_7 (ev_b (a := nI l.length) rfl ?_)
  rw [Int32.sub_eq_add_neg]
  exact h2
