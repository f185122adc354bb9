/-! ===== search, the fresh objects ===== -/
theorem t15 (a : Int32) : (a < 1 ∨ 5 < a) ∨ ∃ n, 1 ≤ n ∧ n ≤ 5 ∧ a = nI n := sorry
def V46 : Nat → Nat → Value := vup (vup (vup V0 76 7 (.ref 14)) 76 6 (.int 0)) 76 8 (.int 1)
set_option maxRecDepth 100000 in
set_option maxHeartbeats 4000000 in
theorem c_262_1 (q : rkQ) (X : am_X) (M : Nat) : fm_262 X (M + 300) (.ref 76) (.ref 14) 1 (hp0 q) = some (.inl (some (.int 0), fx V46 I0 (L0 q) R0 ++ [])) := rfl
set_option maxRecDepth 100000 in
set_option maxHeartbeats 4000000 in
theorem c_262_2 (q : rkQ) (X : am_X) (M : Nat) : fm_262 X (M + 300) (.ref 76) (.ref 14) 2 (hp0 q) = some (.inl (some (.int 0), fx V46 I0 (L0 q) R0 ++ [])) := rfl
set_option maxRecDepth 100000 in
set_option maxHeartbeats 4000000 in
theorem c_262_3 (q : rkQ) (X : am_X) (M : Nat) : fm_262 X (M + 300) (.ref 76) (.ref 14) 3 (hp0 q) = some (.inl (some (.int 0), fx V46 I0 (L0 q) R0 ++ [])) := rfl
set_option maxRecDepth 100000 in
set_option maxHeartbeats 4000000 in
theorem c_262_4 (q : rkQ) (X : am_X) (M : Nat) : fm_262 X (M + 300) (.ref 76) (.ref 14) 4 (hp0 q) = some (.inl (some (.int 0), fx V46 I0 (L0 q) R0 ++ [])) := rfl
set_option maxRecDepth 100000 in
set_option maxHeartbeats 4000000 in
theorem c_262_5 (q : rkQ) (X : am_X) (M : Nat) : fm_262 X (M + 300) (.ref 76) (.ref 14) 5 (hp0 q) = some (.inl (some (.int 0), fx V46 I0 (L0 q) R0 ++ [])) := rfl
theorem c_262 (q : rkQ) (X : am_X) (M n : Nat) (h1 : 1 ≤ n) (h : n ≤ 5) : fm_262 X (M + 300) (.ref 76) (.ref 14) (nI n) (hp0 q) = some (.inl (some (.int 0), fx V46 I0 (L0 q) R0 ++ [])) := sorry
def V46b : Nat → Nat → Value := vup (vup (vup (vup (vup (vup (vup V46 76 3 (.ref 167)) 167 1 (.int 0)) 167 2 (.int 0)) 167 3 (.int 0)) 167 4 (.int 2)) 167 3 (.int (nI 1))) 0 1 (.int (nI (0 + 1)))
def I46 : Nat → Nat → Int32 := iup I0 168 (wrt (I0 168) 0 (un 4 1 0))
def T46 : am_H := [] ++ [.inr (3, [.ref (269 + ([] : am_H).length + 1), .int 0, .int 0, .int (nI 1), .int (nI 2), .int 1, .int (-1), .int (-1), .int (-1), .int (-1), .long 0]), .inl (0, 1 * 2, .inl (va_cpy ((iup I0 168 (wrt (I0 168) 0 (un 4 1 0))) 168) (fun _ => 0) 0 0 (1 * 2)))]
set_option maxRecDepth 100000 in
set_option maxHeartbeats 4000000 in
theorem c_261 {X : am_X} {M n : Nat} (n1 : 1 ≤ n) (n2 : n ≤ 5) : fm_261 X (M + 300) (.ref 0) (nI n) (hp0 (tW, tT)) = some (.inl (some (.int (nI 0)), fx V46b I46 (L0 (tW, tT)) (rup R0 1 (va_up (R0 1) 0 (some (269 + ([] : am_H).length)))) ++ T46)) := sorry
set_option maxRecDepth 100000 in
set_option maxHeartbeats 4000000 in
theorem r_533 {V : Nat → Nat → Value} {I : Nat → Nat → Int32} {L : Nat → Nat → Int64} {R : Nat → Nat → Option Nat} {tl : am_H} {N m k0 : Nat} {nt : Int32} (hN : 100 < N) (h80 : V 174 80 = .int 0) (l4 : L 224 = fun _ => 0) (l5 : L 225 = fun _ => 0) (hm : V 174 1 = .int (nI m)) (hm6 : m < 600) (h15 : V 174 15 = .int nt) (h88 : V 174 88 = .int (nI k0)) (h31 : V 174 31 = .int 0) {n : Nat} (n1 : 1 ≤ n) (n2 : n ≤ 5) :
    ∃ V' I' L', fm_533 N (.ref 174) (nI n) (fx V I L R ++ tl) = some (.inl (some (.int (nI m)), fx V' I' L' R ++ tl)) ∧ V' 174 0 = .int 0 ∧ L' 268 = L 268 := sorry
set_option maxRecDepth 100000 in
set_option maxHeartbeats 4000000 in
theorem p_46 {X : am_X} (M : Nat) (a1 : Int32) : ∃ h', opBI (fm_260 X (M + 300) (.ref 0) a1 (.ref 268) (hp0 (tW, tT))) (fun h1 => fm_533 (M + 300) (.ref 174) a1 h1) vfI h' ∧ fits h' := sorry