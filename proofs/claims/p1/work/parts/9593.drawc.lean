/-! ===== the class draws code ===== -/
set_option maxRecDepth 100000 in
set_option maxHeartbeats 4000000 in
theorem x_91o {V : Nat → Nat → Value} {I : Nat → Nat → Int32} {L : Nat → Nat → Int64} {R : Nat → Nat → Option Nat} {tl : am_H} {N c n P : Nat} (hN : 40 < N) (h7 : L 77 = tW) (h8 : L 78 = tT) (hc : c < 6) (h1 : 1 ≤ n) (hn : n ≤ 12) (hP : P < uT c n) : fm_91 N (.ref 76) (nI c) (nI n) (lN P) (.ref 169) (fx V I L R ++ tl) = some (.inl (none, fx (vup (vup (vup (vup (vup (vup V 76 3 (.ref 169)) 169 1 (.int 0)) 169 2 (.int 0)) 169 3 (.int 0)) 169 4 (.int 2)) 169 3 (.int (nI n))) (iup I 170 (wrt (I 170) 0 (un c n P))) L R ++ tl)) := sorry
theorem vup_self {V : Nat → Nat → Value} {a j : Nat} {w : Value} (h : V a j = w) : vup V a j w = V := sorry
set_option maxRecDepth 100000 in
set_option maxHeartbeats 4000000 in
theorem d_205 {V : Nat → Nat → Value} {I : Nat → Nat → Int32} {L : Nat → Nat → Int64} {R : Nat → Nat → Option Nat} {tl : am_H} {N z : Nat} (hN : 100 < N) (o3 : V 169 3 = .int (nI z)) (o4 : V 169 4 = .int 2) (hz : z ≤ 60) : ∃ b s V' I', fm_205 N (.ref 131) (.ref 169) (.ref 167) (fx V I L R ++ tl) = some (.inl (some (.int b), fx V' I' L R ++ tl)) ∧ (b ≠ 0 → 1 ≤ s) ∧ s ≤ 60 ∧ V' 167 1 = .int 1 ∧ V' 167 2 = .int 0 ∧ V' 167 3 = .int (nI s) ∧ V' 167 4 = .int 2 ∧ (∀ a j, a ≠ 131 → a ≠ 132 → a ≠ 167 → V' a j = V a j) ∧ (∀ y, 174 ≤ y → I' y = I y) := sorry
set_option maxRecDepth 100000 in
set_option maxHeartbeats 4000000 in
theorem dOk_1 {N z : Nat} {L : Nat → Nat → Int64} (hN : 100 < N) (h7 : L 77 = tW) (h8 : L 78 = tT) (hz : 1 ≤ z) (hz9 : z ≤ 9) : dOk N L 1 z := sorry