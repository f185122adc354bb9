/-! ===== populate: the class ===== -/
theorem uT_pos : ∀ z, z < 10 → 1 ≤ z → 1 ≤ uT 0 z := sorry
set_option maxRecDepth 100000 in
set_option maxHeartbeats 4000000 in
theorem d_tree {V : Nat → Nat → Value} {I : Nat → Nat → Int32} {L : Nat → Nat → Int64} {R : Nat → Nat → Option Nat} {tl : am_H} {N x z : Nat} {st : Int64} (hx : isS x) (hN : 40 < N) (h7 : L 77 = tW) (h8 : L 78 = tT) (hz : 1 ≤ z) (hz9 : z ≤ 9) (hs : V x 0 = .long st) : ∃ V' I', fm_202 N (.ref 0) (.ref x) (nI 0) (nI z) (fx V I L R ++ tl) = some (.inl (none, fx V' I' L R ++ tl)) ∧ drawn x V V' I I' := sorry
/-- a kind that the class draws, whatever stands in the spare rows -/
def dOk (N : Nat) (L : Nat → Nat → Int64) (kd z : Nat) : Prop := ∀ (V : Nat → Nat → Value) (I : Nat → Nat → Int32) (R : Nat → Nat → Option Nat) (tl : am_H) (x : Nat) (st : Int64), isS x → V x 0 = .long st → ∃ V' I', fm_202 N (.ref 0) (.ref x) (nI kd) (nI z) (fx V I L R ++ tl) = some (.inl (none, fx V' I' L R ++ tl)) ∧ drawn x V V' I I'
set_option maxRecDepth 100000 in
set_option maxHeartbeats 4000000 in
theorem dOk_0 {N z : Nat} {L : Nat → Nat → Int64} (hN : 40 < N) (h7 : L 77 = tW) (h8 : L 78 = tT) (hz : 1 ≤ z) (hz9 : z ≤ 9) : dOk N L 0 z := fun _ _ _ _ _ _ hx hs => d_tree hx hN h7 h8 hz hz9 hs
theorem dOk_2 {N z : Nat} {L : Nat → Nat → Int64} (hN : 40 < N) (hz : 1 ≤ z) (hz6 : z ≤ 6) : dOk N L 2 z := sorry
theorem dOk_3 {N z : Nat} {L : Nat → Nat → Int64} (hN : 40 < N) (hz : 2 ≤ z) (hz8 : z ≤ 8) : dOk N L 3 z := sorry
def isI (a : Nat) : Prop := a = 40 ∨ a = 49 ∨ a = 58 ∨ a = 67
theorem isI_S {a : Nat} (h : isI a) : isS (a + 2) := sorry
set_option maxRecDepth 100000 in
set_option maxHeartbeats 4000000 in
theorem i_258 {V : Nat → Nat → Value} {I : Nat → Nat → Int32} {L : Nat → Nat → Int64} {R : Nat → Nat → Option Nat} {tl : am_H} {a : Nat} (h : isI a) : am_vR (am_pG 258 (.ref a) (fx V I L R ++ tl)) = some (.ref (a + 2)) := sorry
set_option maxRecDepth 100000 in
set_option maxHeartbeats 4000000 in
theorem i_257 {V : Nat → Nat → Value} {I : Nat → Nat → Int32} {L : Nat → Nat → Int64} {R : Nat → Nat → Option Nat} {tl : am_H} {a : Nat} (h : isI a) : am_vR (am_pG 257 (.ref a) (fx V I L R ++ tl)) = some (.ref (a + 1)) := sorry
set_option maxRecDepth 100000 in
set_option maxHeartbeats 4000000 in
theorem i_S {V : Nat → Nat → Value} {I : Nat → Nat → Int32} {L : Nat → Nat → Int64} {R : Nat → Nat → Option Nat} {tl : am_H} {a k : Nat} (h : isI a) (hk : k < 16) (v : Int32) : am_pS 0 (.ref (a + 1)) (nI k) v (fx V I L R ++ tl) = some (fx V (iup I (a + 1) (upd (I (a + 1)) k v)) L R ++ tl) := sorry
set_option maxRecDepth 100000 in
set_option maxHeartbeats 4000000 in
theorem c_200l {L : Nat → Nat → Int64} {N a kd z n : Nat} {x10 : Int32} (ha : isI a) (hn : n ≤ 16) (hD : dOk N L kd z) : ∀ (m k K : Nat) (V : Nat → Nat → Value) (I : Nat → Nat → Int32) (R : Nat → Nat → Option Nat) (tl : am_H) (st : Int64), k + m = n → m < K → V 0 1 = .int (nI k) → V (a + 2) 0 = .long st → tl.length = 2 * k → am_sz tl ≤ 200 * k → ∃ V' I' R' tl', fg_200_118 N K (.ref 0) (nI kd) (nI n) (nI z) (.ref a) x10 (nI k) (fx V I L R ++ tl) = some (.inl (some (.int x10), fx V' I' L R' ++ tl')) ∧ (∀ j, V' 174 j = V 174 j) ∧ (∀ y, 174 ≤ y → I' y = I y) ∧ tl'.length ≤ 32 ∧ am_sz tl' ≤ 3200 := sorry