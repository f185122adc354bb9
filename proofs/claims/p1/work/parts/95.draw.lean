/-! ===== populate: drawing, the class ===== -/
def isS (x : Nat) : Prop := x = 42 ∨ x = 51 ∨ x = 60 ∨ x = 69
set_option maxRecDepth 100000 in
set_option maxHeartbeats 4000000 in
theorem sa_get {V : Nat → Nat → Value} {I : Nat → Nat → Int32} {L : Nat → Nat → Int64} {R : Nat → Nat → Option Nat} {tl : am_H} {x : Nat} (h : isS x) : (fx V I L R ++ tl)[x]? = some (.inr (8, [V x 0])) := sorry
set_option maxRecDepth 100000 in
set_option maxHeartbeats 4000000 in
theorem sa_set {V : Nat → Nat → Value} {I : Nat → Nat → Int32} {L : Nat → Nat → Int64} {R : Nat → Nat → Option Nat} {tl : am_H} {x : Nat} (h : isS x) (w : Value) : (fx V I L R ++ tl).set x (.inr (8, [w])) = fx (vup V x 0 w) I L R ++ tl := sorry
theorem d_192 {V : Nat → Nat → Value} {I : Nat → Nat → Int32} {L : Nat → Nat → Int64} {R : Nat → Nat → Option Nat} {tl : am_H} {x k : Nat} {st : Int64} (h : isS x) (hs : V x 0 = .long st) (hk : 1 ≤ k) (hk2 : k < 2 ^ 31) : fm_192 (.ref x) (nI k) (fx V I L R ++ tl) = some (.inl (some (.int (nI (hlf (nxt st) % k))), fx (vup V x 0 (.long (nxt st))) I L R ++ tl)) := sorry
theorem d_194 {V : Nat → Nat → Value} {I : Nat → Nat → Int32} {L : Nat → Nat → Int64} {R : Nat → Nat → Option Nat} {tl : am_H} {x T : Nat} {st : Int64} (h : isS x) (hs : V x 0 = .long st) (hT : 1 ≤ T) (hT2 : T < 2 ^ 50) : fm_194 (.ref x) (lN T) (fx V I L R ++ tl) = some (.inl (some (.long (lN ((2147483648 * hlf (nxt st) + hlf (nxt (nxt st))) % T))), fx (vup V x 0 (.long (nxt (nxt st)))) I L R ++ tl)) := sorry
theorem isS_ok {V : Nat → Nat → Value} {I : Nat → Nat → Int32} {L : Nat → Nat → Int64} {R : Nat → Nat → Option Nat} {tl : am_H} {x : Nat} (h : isS x) : am_pOk 8 (.ref x) (fx V I L R ++ tl) = true := ev_ok (sa_get h)
theorem isS_ne {x : Nat} (h : isS x) : x ≠ 167 ∧ x ≠ 0 ∧ x ≠ 174 ∧ x ≠ 76 := sorry
theorem vup_ne {V : Nat → Nat → Value} {a j x y : Nat} {w : Value} (h : x ≠ a) : vup V a j w x y = V x y := if_neg h
theorem vup_eq {V : Nat → Nat → Value} {a j : Nat} {w : Value} : vup V a j w a j = w := sorry
theorem vup_nj {V : Nat → Nat → Value} {a j y : Nat} {w : Value} (h : y ≠ j) : vup V a j w a y = V a y := sorry
set_option maxRecDepth 100000 in
set_option maxHeartbeats 4000000 in
theorem d_34 {V : Nat → Nat → Value} {I : Nat → Nat → Int32} {L : Nat → Nat → Int64} {R : Nat → Nat → Option Nat} {tl : am_H} (k l : Int32) : fm_34 (.ref 167) k l (fx V I L R ++ tl) = some (.inl (none, fx (vup (vup (vup (vup V 167 1 (.int k)) 167 2 (.int l)) 167 3 (.int 0)) 167 4 (.int (if k = 2 then 5 else 2))) I L R ++ tl)) := sorry
set_option maxRecDepth 100000 in
set_option maxHeartbeats 4000000 in
theorem d_41 {V : Nat → Nat → Value} {I : Nat → Nat → Int32} {L : Nat → Nat → Int64} {R : Nat → Nat → Option Nat} {tl : am_H} {N s : Nat} (hN : 1 ≤ N) (h3 : V 167 3 = .int (nI s)) (h4 : V 167 4 = .int 2) (hs : 2 * s + 2 ≤ 120) (a b : Int32) : fm_41 N (.ref 167) a b (fx V I L R ++ tl) = some (.inl (some (.int 1), fx (vup V 167 3 (.int (nI (s + 1)))) (iup I 168 (upd (upd (I 168) (2 * s) a) (2 * s + 1) b)) L R ++ tl)) := sorry
/-- a program that can be borne, drawn into the spare one; all that is not the spare one or the stream is as before -/
def drawn (x : Nat) (V V' : Nat → Nat → Value) (I I' : Nat → Nat → Int32) : Prop := (∃ (s wd : Nat) (kd ln : Int32), V' 167 1 = .int kd ∧ V' 167 2 = .int ln ∧ V' 167 3 = .int (nI s) ∧ V' 167 4 = .int (nI wd) ∧ nI wd = (if kd = 2 then 5 else 2) ∧ 1 ≤ s * wd ∧ s * wd ≤ 120 ∧ 1 ≤ wd) ∧ (∃ st, V' x 0 = .long st) ∧ (∀ j, V' 0 j = V 0 j) ∧ (∀ j, V' 174 j = V 174 j) ∧ (∀ y, 174 ≤ y → I' y = I y)
set_option maxRecDepth 100000 in
set_option maxHeartbeats 4000000 in
theorem d_204l {L : Nat → Nat → Int64} {R : Nat → Nat → Option Nat} {tl : am_H} {N x z : Nat} (hx : isS x) (hN : 40 < N) (hz : 2 ≤ z) (hz8 : z ≤ 8) : ∀ (m k K : Nat) (V : Nat → Nat → Value) (I : Nat → Nat → Int32) (st : Int64), k + m = 2 * z → m < K → V x 0 = .long st → V 167 3 = .int (nI k) → V 167 4 = .int 2 → ∃ V' I', fg_204_11 N K (.ref 0) (.ref x) (nI z) (nI k) (fx V I L R ++ tl) = some (.inl (none, fx V' I' L R ++ tl)) ∧ V' 167 3 = .int (nI (2 * z)) ∧ (∃ st', V' x 0 = .long st') ∧ (∀ a j, a ≠ x → (a ≠ 167 ∨ j ≠ 3) → V' a j = V a j) ∧ (∀ y, y ≠ 168 → I' y = I y) := sorry
set_option maxRecDepth 100000 in
set_option maxHeartbeats 4000000 in
theorem d_204 {V : Nat → Nat → Value} {I : Nat → Nat → Int32} {L : Nat → Nat → Int64} {R : Nat → Nat → Option Nat} {tl : am_H} {N x z : Nat} {st : Int64} (hx : isS x) (hN : 40 < N) (hz : 2 ≤ z) (hz8 : z ≤ 8) (hs : V x 0 = .long st) : ∃ V' I', fm_204 N (.ref 0) (.ref x) (nI z) (fx V I L R ++ tl) = some (.inl (none, fx V' I' L R ++ tl)) ∧ drawn x V V' I I' := sorry
set_option maxRecDepth 100000 in
set_option maxHeartbeats 4000000 in
theorem d_41m {V : Nat → Nat → Value} {I : Nat → Nat → Int32} {L : Nat → Nat → Int64} {R : Nat → Nat → Option Nat} {tl : am_H} {N s : Nat} (hN : 4 ≤ N) (h3 : V 167 3 = .int (nI s)) (h4 : V 167 4 = .int 5) (hs : 5 * s + 5 ≤ 120) (a b : Int32) : ∃ f', fm_41 N (.ref 167) a b (fx V I L R ++ tl) = some (.inl (some (.int 1), fx (vup V 167 3 (.int (nI (s + 1)))) (iup I 168 f') L R ++ tl)) := sorry
set_option maxRecDepth 100000 in
set_option maxHeartbeats 4000000 in
theorem d_51 {V : Nat → Nat → Value} {I : Nat → Nat → Int32} {L : Nat → Nat → Int64} {R : Nat → Nat → Option Nat} {tl : am_H} {s i j : Nat} (h3 : V 167 3 = .int (nI s)) (h4 : V 167 4 = .int 5) (hi : i < s) (hj : j < 5) (hs : 5 * s ≤ 120) (v : Int32) : fm_51 (.ref 167) (nI i) (nI j) v (fx V I L R ++ tl) = some (.inl (none, fx V (iup I 168 (upd (I 168) (5 * i + j) v)) L R ++ tl)) := sorry
set_option maxRecDepth 100000 in
set_option maxHeartbeats 4000000 in
theorem d_203i {L : Nat → Nat → Int64} {R : Nat → Nat → Option Nat} {tl : am_H} {N x z k : Nat} (hx : isS x) (hz1 : 1 ≤ z) (hz6 : z ≤ 6) (hk : k < z) {rec : Value → Value → Int32 → Int32 → am_H → Option am_O} : ∀ (m c K : Nat) (V : Nat → Nat → Value) (I : Nat → Nat → Int32) (st : Int64), c + m = 4 → m < K → V x 0 = .long st → V 167 3 = .int (nI (k + 1)) → V 167 4 = .int 5 → ∃ V' I' st', fg_203_38 N rec K (.ref 0) (.ref x) (nI z) (nI k) (nI c) (fx V I L R ++ tl) = rec (.ref 0) (.ref x) (nI z) (nI (k + 1)) (fx V' I' L R ++ tl) ∧ V' x 0 = .long st' ∧ (∀ a j, a ≠ x → V' a j = V a j) ∧ (∀ y, y ≠ 168 → I' y = I y) := sorry
set_option maxRecDepth 100000 in
set_option maxHeartbeats 4000000 in
theorem d_203l {L : Nat → Nat → Int64} {R : Nat → Nat → Option Nat} {tl : am_H} {N x z : Nat} (hx : isS x) (hN : 40 < N) (hz1 : 1 ≤ z) (hz6 : z ≤ 6) : ∀ (m k K : Nat) (V : Nat → Nat → Value) (I : Nat → Nat → Int32) (st : Int64), k + m = z → m < K → V x 0 = .long st → V 167 3 = .int (nI k) → V 167 4 = .int 5 → ∃ V' I', fg_203_11 N K (.ref 0) (.ref x) (nI z) (nI k) (fx V I L R ++ tl) = some (.inl (none, fx V' I' L R ++ tl)) ∧ V' 167 3 = .int (nI z) ∧ (∃ st', V' x 0 = .long st') ∧ (∀ a j, a ≠ x → (a ≠ 167 ∨ j ≠ 3) → V' a j = V a j) ∧ (∀ y, y ≠ 168 → I' y = I y) := sorry
set_option maxRecDepth 100000 in
set_option maxHeartbeats 4000000 in
theorem d_203 {V : Nat → Nat → Value} {I : Nat → Nat → Int32} {L : Nat → Nat → Int64} {R : Nat → Nat → Option Nat} {tl : am_H} {N x z : Nat} {st : Int64} (hx : isS x) (hN : 40 < N) (hz : 1 ≤ z) (hz6 : z ≤ 6) (hs : V x 0 = .long st) : ∃ V' I', fm_203 N (.ref 0) (.ref x) (nI z) (fx V I L R ++ tl) = some (.inl (none, fx V' I' L R ++ tl)) ∧ drawn x V V' I I' := sorry