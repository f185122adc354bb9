/-! ===== tree ===== -/
set_option maxRecDepth 100000 in
set_option maxHeartbeats 4000000 in
theorem x_91 {V : Nat → Nat → Value} {I : Nat → Nat → Int32} {L : Nat → Nat → Int64} {R : Nat → Nat → Option Nat} {tl : am_H} {N c n P : Nat} (hN : 40 < N) (h7 : L 77 = tW) (h8 : L 78 = tT) (hc : c < 6) (h1 : 1 ≤ n) (hn : n ≤ 12) (hP : P < uT c n) : fm_91 N (.ref 76) (nI c) (nI n) (lN P) (.ref 167) (fx V I L R ++ tl) = some (.inl (none, fx (vup (vup (vup (vup (vup (vup V 76 3 (.ref 167)) 167 1 (.int 0)) 167 2 (.int 0)) 167 3 (.int 0)) 167 4 (.int 2)) 167 3 (.int (nI n))) (iup I 168 (wrt (I 168) 0 (un c n P))) L R ++ tl)) := sorry
theorem lN_of {x : Int64} (h : 0 ≤ x) : ∃ P, P < 2 ^ 63 ∧ x = lN P ∧ x.toInt = (P : Int) := sorry
set_option maxRecDepth 100000 in
set_option maxHeartbeats 4000000 in
/-- the reference's tree(): it says what it says, and its births are counted -/
theorem r_385 {V : Nat → Nat → Value} {I : Nat → Nat → Int32} {L : Nat → Nat → Int64} {R : Nat → Nat → Option Nat} {tl : am_H} {N m k0 : Nat} {nt : Int32} (hN : 100 < N) (h80 : V 174 80 = .int 0) (l4 : L 224 = fun _ => 0) (l5 : L 225 = fun _ => 0) (hm : V 174 1 = .int (nI m)) (hm6 : m < 600) (h15 : V 174 15 = .int nt) (h88 : V 174 88 = .int (nI k0)) (a : Int32) (x : Int64) (cd : Int32) (n P : Nat)
    (hcd : (cd = 1 ∧ (a < 1 ∨ 12 < a ∨ (∃ j, 1 ≤ j ∧ j ≤ 12 ∧ a = nI j ∧ (x < 0 ∨ lN (uT 0 j) ≤ x)))) ∨ (cd = 0 ∧ 1 ≤ n ∧ n ≤ 12 ∧ a = nI n ∧ x = lN P ∧ P < uT 0 n)) :
    ∃ V' I' L' r, fm_385 N (.ref 174) a x (fx V I L R ++ tl) = some (.inl (some (.int r), fx V' I' L' R ++ tl)) ∧ V' 174 0 = .int cd ∧ L' 268 = L 268 ∧ (cd = 0 → r = nI m) := sorry