/-! ===== the reference: toA, wrongAt ===== -/
set_option maxRecDepth 100000 in
set_option maxHeartbeats 4000000 in
theorem r_495l {V : Nat → Nat → Value} {I : Nat → Nat → Int32} {L : Nat → Nat → Int64} {R : Nat → Nat → Option Nat} {tl : am_H} {N : Nat} {l : List (Nat × Nat)} (hN : 100 < N) (hl : l.length ≤ 60) (hF : isF 1 l) (hS : rowS (I 186) l) (h14 : V 174 14 = .int (nI l.length)) (h18 : V 174 18 = .int (nI l.length)) (h20 : V 174 20 = .int 0) : ∀ (m k K : Nat) (a b : Nat → Int32), k + m = l.length → m < K → (∀ j, j < k → a j = I 186 j) → (∀ j, j < k → b j = I 187 j) → ∃ a' b' g, fg_495_26 N K (.ref 174) (nI k) (fx V (iup (iup I 188 a) 189 b) L R ++ tl) = some (.inl (none, fx V (iup (iup (iup I 188 a') 189 b') 192 g) L R ++ tl)) ∧ (∀ j, j < l.length → a' j = I 186 j) ∧ (∀ j, j < l.length → b' j = I 187 j) ∧ rowT g l 0 := sorry
set_option maxRecDepth 100000 in
set_option maxHeartbeats 4000000 in
theorem r_495 {V : Nat → Nat → Value} {I : Nat → Nat → Int32} {L : Nat → Nat → Int64} {R : Nat → Nat → Option Nat} {tl : am_H} {N : Nat} {l : List (Nat × Nat)} {nt : Int32} (hN : 100 < N) (hl : l.length ≤ 60) (hF : isF 1 l) (hS : rowS (I 186) l) (h13 : V 174 13 = .int 0) (h14 : V 174 14 = .int (nI l.length)) (h15 : V 174 15 = .int nt) : ∃ a' b' g, fm_495 N (.ref 174) (fx V I L R ++ tl) = some (.inl (none, fx (vup (vup (vup V 174 20 (.int 0)) 174 18 (.int (nI l.length))) 174 19 (.int nt)) (iup (iup (iup I 188 a') 189 b') 192 g) L R ++ tl)) ∧ (∀ j, j < l.length → a' j = I 186 j) ∧ (∀ j, j < l.length → b' j = I 187 j) ∧ rowT g l 0 := sorry
def q211 (V : Nat → Nat → Value) (I : Nat → Nat → Int32) (L : Nat → Nat → Int64) (R : Nat → Nat → Option Nat) (tl : am_H) (_ : Int32) (h' : am_H) : Prop := ∃ g', h' = fx V (iup I 211 g') L R ++ tl
set_option maxRecDepth 100000 in
set_option maxHeartbeats 4000000 in
theorem r_350 {V : Nat → Nat → Value} {I : Nat → Nat → Int32} {L : Nat → Nat → Int64} {R : Nat → Nat → Option Nat} {tl : am_H} {s : Nat} (h14 : V 174 14 = .int (nI s)) (hs : s ≤ 60) (a : Nat) (ha : a < 2 ^ 31) (w : Int32) (g : Nat → Int32) : wp (iP (q211 V I L R tl)) (fm_350 (.ref 174) (nI a) w (fx V (iup I 211 g) L R ++ tl)) := sorry
set_option maxRecDepth 100000 in
set_option maxHeartbeats 4000000 in
theorem r_347l {V : Nat → Nat → Value} {I : Nat → Nat → Int32} {L : Nat → Nat → Int64} {R : Nat → Nat → Option Nat} {tl : am_H} {N s : Nat} (h14 : V 174 14 = .int (nI s)) (hs : s ≤ 60) (hb : sml (I 187)) : ∀ (m k K : Nat) (g : Nat → Int32), k + m = s → m < K → wp (iP (q211 V I L R tl)) (fg_347_32 N K (.ref 174) (nI k) (fx V (iup I 211 g) L R ++ tl)) := sorry
set_option maxRecDepth 100000 in
set_option maxHeartbeats 4000000 in
theorem r_347 {V : Nat → Nat → Value} {I : Nat → Nat → Int32} {L : Nat → Nat → Int64} {R : Nat → Nat → Option Nat} {tl : am_H} {N s : Nat} (hN : 100 < N) (h14 : V 174 14 = .int (nI s)) (hs : s ≤ 60) (hb : sml (I 187)) : wp (iP (q211 V I L R tl)) (fm_347 N (.ref 174) (fx V I L R ++ tl)) := sorry
theorem tk_lt {n q i : Nat} {r : List (Nat × Nat)} (h : isF n r) (h1 : q < i) (h2 : i ≤ n) : tk q r < tk i r := sorry
/-- the nodes that are still to be laid know where they begin -/
def pend (l : List (Nat × Nat)) (k : Nat) (e : Nat → Int32) : Prop := ∃ n, isF n (l.drop k) ∧ ∀ i, i < n → ∃ p, e (k + tk i (l.drop k)) = nI p ∧ p + sw own 1 (l.drop (k + tk i (l.drop k))) ≤ 60
set_option maxRecDepth 100000 in
set_option maxHeartbeats 4000000 in
theorem r_494p {V : Nat → Nat → Value} {I : Nat → Nat → Int32} {L : Nat → Nat → Int64} {R : Nat → Nat → Option Nat} {tl : am_H} {N s : Nat} {l : List (Nat × Nat)} (hN : 100 < N) (hl : l.length ≤ 60) (h18 : V 174 18 = .int (nI l.length)) (h14 : V 174 14 = .int (nI s)) (hs : s ≤ 60) (hS : rowS (I 188) l) (hT : rowT (I 192) l 0) (hC : rowC (I 253) l 0) (hV : ∀ j, j < l.length → ∃ n, n < 1000 ∧ I 189 j = nI n) (hx : ∀ k x r, l.drop k = x :: r → x.1 ≠ 5 ∧ x.1 ≠ 6 ∧ x.1 ≠ 19) : ∀ (m k K : Nat) (a b e : Nat → Int32), k + m = l.length → m < K → sml b → pend l k e → ∃ v a' b' e' g', fg_494_102 N K (.ref 174) (nI k) (ctS V I L R tl a b e) = some (.inl (some (.int v), fx V (iup (iup (iup (iup I 186 a') 187 b') 219 e') 211 g') L R ++ tl)) ∧ sml b' := sorry