/-! ===== the reference: spans, parts, lengths of code ===== -/
/-- a row of sorts is a row of nodes -/
def rowS (f : Nat → Int32) (l : List (Nat × Nat)) : Prop := ∀ k x r, l.drop k = x :: r → f k = nI x.1 ∧ x.1 ≤ 20
/-- spans -/
def rowT (g : Nat → Int32) (l : List (Nat × Nat)) (a : Nat) : Prop := ∀ j, a ≤ j → j < l.length → g j = nI (tk 1 (l.drop j))
theorem ar_e (x : Nat) (hx : x ≤ 20) (h : am_H) : fm_343 (nI x) h = some (.inl (some (.int (nI (arN x))), h)) := by
  rw [pe_343, ar_eq x (by omega)]
set_option maxRecDepth 100000 in
set_option maxHeartbeats 4000000 in
theorem r_392i {V : Nat → Nat → Value} {I : Nat → Nat → Int32} {L : Nat → Nat → Int64} {R : Nat → Nat → Option Nat} {tl : am_H} {N k m : Nat} {l r : List (Nat × Nat)} {x : Nat × Nat} {g : Nat → Int32} {rc : Value → Int32 → am_H → Option am_O} (hl : l.length ≤ 60) (hS : rowS (I 188) l) (hd : l.drop k = x :: r) (hF : isF (m + arN x.1) r) (hg : rowT g l (k + 1)) : ∀ (q p K : Nat), p + q = arN x.1 → q < K → fg_392_15 N rc K (.ref 174) (nI k) (nI (1 + tk p r)) (nI p) (fx V (iup I 192 g) L R ++ tl) = rc (.ref 174) (nI k + (-1)) (fx V (iup I 192 (upd g k (nI (tk 1 (l.drop k))))) L R ++ tl) := by
  obtain ⟨s1, s2⟩ := hS k x r hd
  have hlen := drop_len hd
  have ha := ar_le x.1
  have gA : am_pA 0 (.ref 188) (nI k) (fx V (iup I 192 g) L R ++ tl) = some (nI x.1) := by
    rw [ev_a (f := I 188) (n := 400) rfl (am_inb_n (by omega) (by omega)), nI_clamp (by omega), s1]
  intro q
  induction q with
  | zero =>
    intro p K hp hK
    obtain ⟨K, rfl⟩ : ∃ k, K = k + 1 := ⟨K - 1, by omega⟩
    rw [fg_392_15]
    refine ev_b (a := .ref 188) rfl (ev_b gA (ev_cI (ar_e x.1 s2 _) ?_))
    refine ev_t (nI_le (by omega) (by omega)) (ev_b (a := .ref 192) rfl ?_)
    refine ev_b (ev_s (f := g) (n := 400) (h1 := fx V (iup I 192 (upd g k (nI (1 + tk p r)))) L R ++ tl) rfl (am_inb_n (by omega) (by omega)) rfl (by rw [nI_clamp (by omega)]; rfl)) ?_
    rw [hd, show (1 : Nat) = 0 + 1 from rfl, tk_c, Nat.zero_add, Nat.zero_add, show p = arN x.1 by omega]
  | succ q ih =>
    intro p K hp hK
    obtain ⟨K, rfl⟩ : ∃ k, K = k + 1 := ⟨K - 1, by omega⟩
    have hlt := part_lt hd hF (show p < arN x.1 by omega)
    have e1 := hg (k + 1 + tk p r) (by omega) hlt
    rw [drop_s hd] at e1
    have e2 := tk_add r p 1
    have e3 := tk_le r (p + 1)
    rw [fg_392_15]
    refine ev_b (a := .ref 188) rfl (ev_b gA (ev_cI (ar_e x.1 s2 _) ?_))
    refine ev_f (nI_ge (by omega) (by omega)) (ev_b (a := .ref 192) rfl ?_)
    rw [nI_add, show k + (1 + tk p r) = k + 1 + tk p r by omega]
    refine ev_b (ev_a (f := g) (n := 400) rfl (am_inb_n (by omega) (by omega))) ?_
    rw [nI_clamp (by omega), e1, nI_add, nI_1, show 1 + tk p r + tk 1 (r.drop (tk p r)) = 1 + tk (p + 1) r by omega]
    exact ih (p + 1) K (by omega) (by omega)
set_option maxRecDepth 100000 in
set_option maxHeartbeats 4000000 in
theorem r_392o {V : Nat → Nat → Value} {I : Nat → Nat → Int32} {L : Nat → Nat → Int64} {R : Nat → Nat → Option Nat} {tl : am_H} {N : Nat} {l : List (Nat × Nat)} (hN : 100 < N) (hl : l.length ≤ 60) (hS : rowS (I 188) l) (hF : isF 1 l) : ∀ (k K : Nat) (g : Nat → Int32), k ≤ l.length → k < K → rowT g l k → ∃ g', rowT g' l 0 ∧ fg_392_7 N K (.ref 174) (nI k + (-1)) (fx V (iup I 192 g) L R ++ tl) = some (.inl (none, fx V (iup I 192 g') L R ++ tl)) := by
  intro k
  induction k with
  | zero =>
    intro K g hk hK hg
    obtain ⟨K, rfl⟩ : ∃ k, K = k + 1 := ⟨K - 1, by omega⟩
    refine ⟨g, hg, ?_⟩
    rw [fg_392_7]
    exact ev_t (by decide) rfl
  | succ k ih =>
    intro K g hk hK hg
    obtain ⟨K, rfl⟩ : ∃ k, K = k + 1 := ⟨K - 1, by omega⟩
    obtain ⟨x, r, m, hd, hm⟩ := isF_at hF (show k < l.length by omega)
    have ha := ar_le x.1
    have e := r_392i (V := V) (I := I) (L := L) (R := R) (tl := tl) (N := N) (rc := fg_392_7 N K) hl hS hd hm hg (arN x.1) 0 N (by omega) (by omega)
    rw [tk_0] at e
    obtain ⟨g', h1, h2⟩ := ih K (upd g k (nI (tk 1 (l.drop k)))) (by omega) (by omega) (fun j j1 j2 => by
      by_cases c : j = k
      · rw [c]; exact upd_eq
      · rw [upd_ne c]; exact hg j (by omega) j2)
    refine ⟨g', h1, ?_⟩
    rw [fg_392_7, nI_m1]
    refine ev_f (nI_pos (by omega)) ?_
    exact e.trans h2
theorem r_392 {V : Nat → Nat → Value} {I : Nat → Nat → Int32} {L : Nat → Nat → Int64} {R : Nat → Nat → Option Nat} {tl : am_H} {N : Nat} {l : List (Nat × Nat)} (hN : 100 < N) (hl : l.length ≤ 60) (h18 : V 174 18 = .int (nI l.length)) (hS : rowS (I 188) l) (hF : isF 1 l) : ∃ g', rowT g' l 0 ∧ fm_392 N (.ref 174) (fx V I L R ++ tl) = some (.inl (none, fx V (iup I 192 g') L R ++ tl)) := by
  obtain ⟨g', h1, h2⟩ := r_392o (V := V) (I := I) (L := L) (R := R) (tl := tl) hN hl hS hF l.length N (I 192) (Nat.le_refl _) (by omega) (fun j j1 j2 => by omega)
  refine ⟨g', h1, ?_⟩
  unfold fm_392 fg_392_0
  refine ev_b (a := nI l.length) (by show am_vI (some (V 174 18)) = _; rw [h18]; rfl) ?_
  rw [Int32.sub_eq_add_neg]
  rw [iup_self] at h2
  exact h2
set_option maxRecDepth 100000 in
set_option maxHeartbeats 4000000 in
theorem r_393i {V : Nat → Nat → Value} {I : Nat → Nat → Int32} {L : Nat → Nat → Int64} {R : Nat → Nat → Option Nat} {tl : am_H} {N k m P : Nat} {l r : List (Nat × Nat)} {x : Nat × Nat} (hl : l.length ≤ 60) (hT : rowT (I 192) l 0) (hd : l.drop k = x :: r) (hF : isF (m + arN x.1) r) (hP : P ≤ arN x.1) : ∀ (q p K : Nat), p + q = P → q < K → fg_393_7 N K (.ref 174) (nI P) (nI (k + 1 + tk p r)) (nI p) (fx V I L R ++ tl) = some (.inl (some (.int (nI (k + 1 + tk P r))), fx V I L R ++ tl)) := by
  have ha := ar_le x.1
  have hlen := drop_len hd
  intro q
  induction q with
  | zero =>
    intro p K hp hK
    obtain ⟨K, rfl⟩ : ∃ k, K = k + 1 := ⟨K - 1, by omega⟩
    rw [fg_393_7]
    refine ev_t (nI_le (by omega) (by omega)) ?_
    rw [show p = P by omega]
  | succ q ih =>
    intro p K hp hK
    obtain ⟨K, rfl⟩ : ∃ k, K = k + 1 := ⟨K - 1, by omega⟩
    have hlt := part_lt hd hF (show p < arN x.1 by omega)
    have e1 := hT (k + 1 + tk p r) (by omega) hlt
    rw [drop_s hd] at e1
    have e2 := tk_add r p 1
    rw [fg_393_7]
    refine ev_f (nI_ge (by omega) (by omega)) (ev_b (a := .ref 192) rfl ?_)
    refine ev_b (ev_a (f := I 192) (n := 400) rfl (am_inb_n (by omega) (by omega))) ?_
    rw [nI_clamp (by omega), e1, nI_add, nI_1, show k + 1 + tk p r + tk 1 (r.drop (tk p r)) = k + 1 + tk (p + 1) r by omega]
    exact ih (p + 1) K (by omega) (by omega)
/-- where a part begins -/
theorem r_393 {V : Nat → Nat → Value} {I : Nat → Nat → Int32} {L : Nat → Nat → Int64} {R : Nat → Nat → Option Nat} {tl : am_H} {N k m P : Nat} {l r : List (Nat × Nat)} {x : Nat × Nat} (hN : 100 < N) (hl : l.length ≤ 60) (hT : rowT (I 192) l 0) (hd : l.drop k = x :: r) (hF : isF (m + arN x.1) r) (hP : P ≤ arN x.1) : fm_393 N (.ref 174) (nI k) (nI P) (fx V I L R ++ tl) = some (.inl (some (.int (nI (k + 1 + tk P r))), fx V I L R ++ tl)) := by
  have ha := ar_le x.1
  have e := r_393i (V := V) (I := I) (L := L) (R := R) (tl := tl) (N := N) hl hT hd hF hP P 0 N (by omega) (by omega)
  rw [tk_0] at e
  unfold fm_393 fg_393_0
  rw [nI_1]
  exact e
/-- how many instructions a node has of its own -/
def own (x : Nat × Nat) : Nat := if x.1 < 9 then 1 else if x.1 = 9 then 2 else if x.1 < 17 then 1 else if x.1 = 17 then 3 else if x.1 = 18 then 3 else 2
theorem own_le (x : Nat × Nat) : own x ≤ 3 := by
  unfold own
  split
  · omega
  · split
    · omega
    · split
      · omega
      · split
        · omega
        · split <;> omega
/-- lengths of code -/
def rowC (g : Nat → Int32) (l : List (Nat × Nat)) (a : Nat) : Prop := ∀ j, a ≤ j → j < l.length → g j = nI (sw own 1 (l.drop j))
set_option maxRecDepth 100000 in
set_option maxHeartbeats 4000000 in
theorem r_496i {V : Nat → Nat → Value} {I : Nat → Nat → Int32} {L : Nat → Nat → Int64} {R : Nat → Nat → Option Nat} {tl : am_H} {N k m : Nat} {l r : List (Nat × Nat)} {x : Nat × Nat} (hN : 100 < N) (hl : l.length ≤ 60) (hx : x.1 ≤ 20) (hT : rowT (I 192) l 0) (hC : rowC (I 253) l (k + 1)) (hd : l.drop k = x :: r) (hF : isF (m + arN x.1) r) : ∀ (q p K : Nat), p + q = arN x.1 → q < K → fg_496_12 N K (.ref 174) (nI k) (nI x.1) (nI (sw own p r)) (nI p) (fx V I L R ++ tl) = some (.inl (some (.int (nI (sw own 1 (l.drop k)))), fx V I L R ++ tl)) := by
  have ha := ar_le x.1
  have hlen := drop_len hd
  intro q
  induction q with
  | zero =>
    intro p K hp hK
    obtain ⟨K, rfl⟩ : ∃ k, K = k + 1 := ⟨K - 1, by omega⟩
    rw [fg_496_12]
    refine ev_cI (ar_e x.1 hx _) (ev_t (nI_le (by omega) (by omega)) ?_)
    rw [hd, show (1 : Nat) = 0 + 1 from rfl, sw_c, Nat.zero_add, show p = arN x.1 by omega]
    have fin : ∀ a : Nat, own x = a → fg_496_90 N (nI (sw own (arN x.1) r)) (nI a) (fx V I L R ++ tl) = some (.inl (some (.int (nI (own x + sw own (arN x.1) r))), fx V I L R ++ tl)) := fun a h => by
      unfold fg_496_90
      rw [nI_add, h, Nat.add_comm]
    by_cases c1 : x.1 < 9
    · exact ev_f (nI_ge (b := 9) c1 (by decide)) (fin 1 (by unfold own; rw [if_pos c1]))
    · refine ev_t (nI_le (a := 9) (by omega) (by omega)) ?_
      by_cases c2 : x.1 = 9
      · exact ev_f (fun e => e (by rw [c2]; rfl)) (fin 2 (by unfold own; rw [if_neg c1, if_pos c2]))
      · refine ev_t (fun e => c2 ((nI_eq (b := 9) (by omega) (by decide)).mp e)) ?_
        by_cases c3 : x.1 < 17
        · exact ev_f (nI_ge (b := 17) c3 (by decide)) (fin 1 (by unfold own; rw [if_neg c1, if_neg c2, if_pos c3]))
        · refine ev_t (nI_le (a := 17) (by omega) (by omega)) ?_
          by_cases c4 : x.1 = 17
          · exact ev_t (by rw [c4]; rfl) (fin 3 (by unfold own; rw [if_neg c1, if_neg c2, if_neg c3, if_pos c4]))
          · refine ev_f (fun e => c4 ((nI_eq (b := 17) (by omega) (by decide)).mp e)) ?_
            by_cases c5 : x.1 = 18
            · exact ev_f (fun e => e (by rw [c5]; rfl)) (fin 3 (by unfold own; rw [if_neg c1, if_neg c2, if_neg c3, if_neg c4, if_pos c5]))
            · exact ev_t (fun e => c5 ((nI_eq (b := 18) (by omega) (by decide)).mp e)) (fin 2 (by unfold own; rw [if_neg c1, if_neg c2, if_neg c3, if_neg c4, if_neg c5]))
  | succ q ih =>
    intro p K hp hK
    obtain ⟨K, rfl⟩ : ∃ k, K = k + 1 := ⟨K - 1, by omega⟩
    have hlt := part_lt hd hF (show p < arN x.1 by omega)
    have e1 := hC (k + 1 + tk p r) (by omega) hlt
    rw [drop_s hd] at e1
    have e2 := sw_add own r p 1
    rw [fg_496_12]
    refine ev_cI (ar_e x.1 hx _) (ev_f (nI_ge (by omega) (by omega)) (ev_b (a := .ref 253) rfl (ev_i rfl ?_)))
    refine ev_cI (r_393 (V := V) (I := I) (L := L) (R := R) (tl := tl) hN hl hT hd hF (show p ≤ arN x.1 by omega)) ?_
    refine ev_b (ev_a (f := I 253) (n := 61) rfl (am_inb_n (by omega) (by omega))) ?_
    rw [nI_clamp (by omega), e1, nI_add, nI_1, ← e2]
    exact ih (p + 1) K (by omega) (by omega)
theorem r_496 {V : Nat → Nat → Value} {I : Nat → Nat → Int32} {L : Nat → Nat → Int64} {R : Nat → Nat → Option Nat} {tl : am_H} {N k m : Nat} {l r : List (Nat × Nat)} {x : Nat × Nat} (hN : 100 < N) (hl : l.length ≤ 60) (hS : rowS (I 188) l) (hT : rowT (I 192) l 0) (hC : rowC (I 253) l (k + 1)) (hd : l.drop k = x :: r) (hF : isF (m + arN x.1) r) : fm_496 N (.ref 174) (nI k) (fx V I L R ++ tl) = some (.inl (some (.int (nI (sw own 1 (l.drop k)))), fx V I L R ++ tl)) := by
  obtain ⟨s1, s2⟩ := hS k x r hd
  have ha := ar_le x.1
  have hlen := drop_len hd
  have e := r_496i (V := V) (I := I) (L := L) (R := R) (tl := tl) hN hl s2 hT hC hd hF (arN x.1) 0 N (by omega) (by omega)
  rw [sw_0] at e
  unfold fm_496 fg_496_0
  refine ev_b (a := .ref 188) rfl (ev_b (a := nI x.1) (by rw [ev_a (f := I 188) (n := 400) rfl (am_inb_n (by omega) (by omega)), nI_clamp (by omega), s1]) ?_)
  exact e
