/-! ===== the reference: spans, parts, lengths of code ===== -/
/-- a row of sorts is a row of nodes -/
def rowS (f : Nat → Int32) (l : List (Nat × Nat)) : Prop := ∀ k x r, l.drop k = x :: r → f k = nI x.1 ∧ x.1 ≤ 20
/-- spans -/
def rowT (g : Nat → Int32) (l : List (Nat × Nat)) (a : Nat) : Prop := ∀ j, a ≤ j → j < l.length → g j = nI (tk 1 (l.drop j))
theorem ar_e (x : Nat) (hx : x ≤ 20) (h : am_H) : fm_343 (nI x) h = some (.inl (some (.int (nI (arN x))), h)) := sorry
set_option maxRecDepth 100000 in
set_option maxHeartbeats 4000000 in
theorem r_392i {V : Nat → Nat → Value} {I : Nat → Nat → Int32} {L : Nat → Nat → Int64} {R : Nat → Nat → Option Nat} {tl : am_H} {N k m : Nat} {l r : List (Nat × Nat)} {x : Nat × Nat} {g : Nat → Int32} {rc : Value → Int32 → am_H → Option am_O} (hl : l.length ≤ 60) (hS : rowS (I 188) l) (hd : l.drop k = x :: r) (hF : isF (m + arN x.1) r) (hg : rowT g l (k + 1)) : ∀ (q p K : Nat), p + q = arN x.1 → q < K → fg_392_15 N rc K (.ref 174) (nI k) (nI (1 + tk p r)) (nI p) (fx V (iup I 192 g) L R ++ tl) = rc (.ref 174) (nI k + (-1)) (fx V (iup I 192 (upd g k (nI (tk 1 (l.drop k))))) L R ++ tl) := sorry
set_option maxRecDepth 100000 in
set_option maxHeartbeats 4000000 in
theorem r_392o {V : Nat → Nat → Value} {I : Nat → Nat → Int32} {L : Nat → Nat → Int64} {R : Nat → Nat → Option Nat} {tl : am_H} {N : Nat} {l : List (Nat × Nat)} (hN : 100 < N) (hl : l.length ≤ 60) (hS : rowS (I 188) l) (hF : isF 1 l) : ∀ (k K : Nat) (g : Nat → Int32), k ≤ l.length → k < K → rowT g l k → ∃ g', rowT g' l 0 ∧ fg_392_7 N K (.ref 174) (nI k + (-1)) (fx V (iup I 192 g) L R ++ tl) = some (.inl (none, fx V (iup I 192 g') L R ++ tl)) := sorry
theorem r_392 {V : Nat → Nat → Value} {I : Nat → Nat → Int32} {L : Nat → Nat → Int64} {R : Nat → Nat → Option Nat} {tl : am_H} {N : Nat} {l : List (Nat × Nat)} (hN : 100 < N) (hl : l.length ≤ 60) (h18 : V 174 18 = .int (nI l.length)) (hS : rowS (I 188) l) (hF : isF 1 l) : ∃ g', rowT g' l 0 ∧ fm_392 N (.ref 174) (fx V I L R ++ tl) = some (.inl (none, fx V (iup I 192 g') L R ++ tl)) := sorry
set_option maxRecDepth 100000 in
set_option maxHeartbeats 4000000 in
theorem r_393i {V : Nat → Nat → Value} {I : Nat → Nat → Int32} {L : Nat → Nat → Int64} {R : Nat → Nat → Option Nat} {tl : am_H} {N k m P : Nat} {l r : List (Nat × Nat)} {x : Nat × Nat} (hl : l.length ≤ 60) (hT : rowT (I 192) l 0) (hd : l.drop k = x :: r) (hF : isF (m + arN x.1) r) (hP : P ≤ arN x.1) : ∀ (q p K : Nat), p + q = P → q < K → fg_393_7 N K (.ref 174) (nI P) (nI (k + 1 + tk p r)) (nI p) (fx V I L R ++ tl) = some (.inl (some (.int (nI (k + 1 + tk P r))), fx V I L R ++ tl)) := sorry
/-- where a part begins -/
theorem r_393 {V : Nat → Nat → Value} {I : Nat → Nat → Int32} {L : Nat → Nat → Int64} {R : Nat → Nat → Option Nat} {tl : am_H} {N k m P : Nat} {l r : List (Nat × Nat)} {x : Nat × Nat} (hN : 100 < N) (hl : l.length ≤ 60) (hT : rowT (I 192) l 0) (hd : l.drop k = x :: r) (hF : isF (m + arN x.1) r) (hP : P ≤ arN x.1) : fm_393 N (.ref 174) (nI k) (nI P) (fx V I L R ++ tl) = some (.inl (some (.int (nI (k + 1 + tk P r))), fx V I L R ++ tl)) := sorry
/-- how many instructions a node has of its own -/
def own (x : Nat × Nat) : Nat := if x.1 < 9 then 1 else if x.1 = 9 then 2 else if x.1 < 17 then 1 else if x.1 = 17 then 3 else if x.1 = 18 then 3 else 2
theorem own_le (x : Nat × Nat) : own x ≤ 3 := sorry
/-- lengths of code -/
def rowC (g : Nat → Int32) (l : List (Nat × Nat)) (a : Nat) : Prop := ∀ j, a ≤ j → j < l.length → g j = nI (sw own 1 (l.drop j))
set_option maxRecDepth 100000 in
set_option maxHeartbeats 4000000 in
theorem r_496i {V : Nat → Nat → Value} {I : Nat → Nat → Int32} {L : Nat → Nat → Int64} {R : Nat → Nat → Option Nat} {tl : am_H} {N k m : Nat} {l r : List (Nat × Nat)} {x : Nat × Nat} (hN : 100 < N) (hl : l.length ≤ 60) (hx : x.1 ≤ 20) (hT : rowT (I 192) l 0) (hC : rowC (I 253) l (k + 1)) (hd : l.drop k = x :: r) (hF : isF (m + arN x.1) r) : ∀ (q p K : Nat), p + q = arN x.1 → q < K → fg_496_12 N K (.ref 174) (nI k) (nI x.1) (nI (sw own p r)) (nI p) (fx V I L R ++ tl) = some (.inl (some (.int (nI (sw own 1 (l.drop k)))), fx V I L R ++ tl)) := sorry
theorem r_496 {V : Nat → Nat → Value} {I : Nat → Nat → Int32} {L : Nat → Nat → Int64} {R : Nat → Nat → Option Nat} {tl : am_H} {N k m : Nat} {l r : List (Nat × Nat)} {x : Nat × Nat} (hN : 100 < N) (hl : l.length ≤ 60) (hS : rowS (I 188) l) (hT : rowT (I 192) l 0) (hC : rowC (I 253) l (k + 1)) (hd : l.drop k = x :: r) (hF : isF (m + arN x.1) r) : fm_496 N (.ref 174) (nI k) (fx V I L R ++ tl) = some (.inl (some (.int (nI (sw own 1 (l.drop k)))), fx V I L R ++ tl)) := sorry