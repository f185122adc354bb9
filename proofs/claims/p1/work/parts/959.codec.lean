/-! ===== codeOf(): it ends, whatever stands there ===== -/
/-- the class while it makes code in the spare program out of the other one -/
def eS (V : Nat → Nat → Value) (I : Nat → Nat → Int32) (L : Nat → Nat → Int64) (R : Nat → Nat → Option Nat) (tl : am_H) (s : Nat) (f : Nat → Int32) : am_H := fx (vup V 167 3 (.int (nI s))) (iup I 168 f) L R ++ tl
/-- what is wanted of it -/
def eO (V : Nat → Nat → Value) : Prop := V 131 4 = .ref 169 ∧ V 131 5 = .ref 167 ∧ V 167 4 = .int 2 ∧ V 169 4 = .int 2 ∧ (∃ t, t ≤ 60 ∧ V 169 3 = .int (nI t)) ∧ (∃ u, u ≤ 60 ∧ V 132 7 = .int (nI u))
set_option maxRecDepth 100000 in
set_option maxHeartbeats 4000000 in
theorem e_54 {V : Nat → Nat → Value} {I : Nat → Nat → Int32} {L : Nat → Nat → Int64} {R : Nat → Nat → Option Nat} {tl : am_H} {s : Nat} {f : Nat → Int32} (hO : eO V) (i j : Int32) : ∃ v, fm_54 (.ref 169) i j (eS V I L R tl s f) = some (.inl (some (.int v), eS V I L R tl s f)) := sorry
set_option maxRecDepth 100000 in
set_option maxHeartbeats 4000000 in
theorem e_41s {V : Nat → Nat → Value} {I : Nat → Nat → Int32} {L : Nat → Nat → Int64} {R : Nat → Nat → Option Nat} {tl : am_H} {N s : Nat} {f : Nat → Int32} (hN : 1 ≤ N) (hO : eO V) (hs : s ≤ 60) (a b : Int32) : ∃ r s' f', fm_41 N (.ref 167) a b (eS V I L R tl s f) = some (.inl (some (.int r), eS V I L R tl s' f')) ∧ s ≤ s' ∧ s' ≤ 60 ∧ (r = 0 ∨ r = 1) := sorry
theorem e_51s {V : Nat → Nat → Value} {I : Nat → Nat → Int32} {L : Nat → Nat → Int64} {R : Nat → Nat → Option Nat} {tl : am_H} {s : Nat} {f : Nat → Int32} (hO : eO V) (hs : s ≤ 60) (i j v : Int32) : ∃ f', fm_51 (.ref 167) i j v (eS V I L R tl s f) = some (.inl (none, eS V I L R tl s f')) := sorry
set_option maxRecDepth 100000 in
set_option maxHeartbeats 4000000 in
theorem e_100 {V : Nat → Nat → Value} {I : Nat → Nat → Int32} {L : Nat → Nat → Int64} {R : Nat → Nat → Option Nat} {tl : am_H} {s : Nat} {f : Nat → Int32} (hO : eO V) (i : Int32) : ∃ v, fm_100 (.ref 132) i (eS V I L R tl s f) = some (.inl (some (.int v), eS V I L R tl s f)) := sorry