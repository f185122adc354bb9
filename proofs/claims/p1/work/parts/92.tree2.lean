set_option maxRecDepth 100000 in
set_option maxHeartbeats 4000000 in
theorem c_90b {N : Nat} {a : Int32} {x : Int64} (hb : a < 1 ∨ 12 < a ∨ (∃ j, 1 ≤ j ∧ j ≤ 12 ∧ a = nI j ∧ (x < 0 ∨ lN (uT 0 j) ≤ x))) : fm_90 N (.ref 0) a x (hp0 (tW, tT)) = some (.inr (0, hpE (tW, tT))) := sorry
/-- what tree() leaves, on the fresh object -/
def V10 (n : Nat) : Nat → Nat → Value := vup (vup (vup (vup (vup (vup (vup V0 76 3 (.ref 167)) 167 1 (.int 0)) 167 2 (.int 0)) 167 3 (.int 0)) 167 4 (.int 2)) 167 3 (.int (nI n))) 0 1 (.int (nI (0 + 1)))
def I10 (n P : Nat) : Nat → Nat → Int32 := iup I0 168 (wrt (I0 168) 0 (un 0 n P))
def T10 (n P : Nat) : am_H := [] ++ [.inr (3, [.ref (269 + ([] : am_H).length + 1), .int 0, .int 0, .int (nI n), .int (nI 2), .int 1, .int (-1), .int (-1), .int (-1), .int (-1), .long 0]), .inl (0, n * 2, .inl (va_cpy ((iup I0 168 (wrt (I0 168) 0 (un 0 n P))) 168) (fun _ => 0) 0 0 (n * 2)))]
set_option maxRecDepth 100000 in
set_option maxHeartbeats 4000000 in
theorem c_90g {N n P : Nat} (hN : 100 < N) (n1 : 1 ≤ n) (n2 : n ≤ 12) (hP : P < uT 0 n) : fm_90 N (.ref 0) (nI n) (lN P) (hp0 (tW, tT)) = some (.inl (some (.int (nI 0)), fx (V10 n) (I10 n P) (L0 (tW, tT)) (rup R0 1 (va_up (R0 1) 0 (some (269 + ([] : am_H).length)))) ++ T10 n P)) := sorry
theorem fits_2 {V : Nat → Nat → Value} {I : Nat → Nat → Int32} {L : Nat → Nat → Int64} {R : Nat → Nat → Option Nat} {n P : Nat} (hn : n ≤ 1000) : fits (fx V I L R ++ T10 n P) := sorry
set_option maxRecDepth 100000 in
set_option maxHeartbeats 4000000 in
theorem p_10 (N : Nat) (hN : 100 < N) (a1 : Int32) (x : Int64) : ∃ h', opBI (fm_89 N (.ref 0) a1 x (.ref 268) (hp0 (tW, tT))) (fun h1 => fm_385 N (.ref 174) a1 x h1) vfI h' ∧ fits h' := sorry