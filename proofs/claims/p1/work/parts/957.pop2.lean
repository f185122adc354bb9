theorem t489v {i : Nat} {h : am_H} (hi : i < 4) : fm_489 (.ref 174) (nI i) h = some (.inl (some (.int 1), h)) := sorry
set_option maxRecDepth 100000 in
set_option maxHeartbeats 4000000 in
theorem r_46 {q : rkQ} {N : Nat} {a1 a2 a3 a4 : Int32} {x : Int64} : fg_488_46 N (.ref 174) a1 a2 a3 a4 x (.ref 174) (hpE q) = some (.inl (some (.int 0), hpT q 2)) := sorry
set_option maxRecDepth 100000 in
theorem r_488b {q : rkQ} {N i : Nat} {a2 a3 a4 : Int32} {x : Int64} (hi : i < 4) (hb : ¬ pGood a2 a3 a4) : fm_488 N (.ref 174) (nI i) a2 a3 a4 x (hpE q) = some (.inl (some (.int 0), hpT q 2)) := sorry
set_option maxRecDepth 100000 in
set_option maxHeartbeats 4000000 in
theorem c_201v (q : rkQ) {i : Nat} (hi : i < 4) : fm_201 (.ref 0) (nI i) (hp0 q) = some (.inl (some (.ref (40 + 9 * i)), hp0 q)) := sorry
theorem isI_i {i : Nat} (hi : i < 4) : isI (40 + 9 * i) := sorry
set_option maxRecDepth 100000 in
set_option maxHeartbeats 4000000 in
theorem i_put {V : Nat → Nat → Value} {I : Nat → Nat → Int32} {L : Nat → Nat → Int64} {R : Nat → Nat → Option Nat} {tl : am_H} {a : Nat} (h : isI a) (v : Int32) : am_pP 256 (.ref a) (.int v) (fx V I L R ++ tl) = some (fx (vup V a 0 (.int v)) I L R ++ tl) := sorry
set_option maxRecDepth 100000 in
set_option maxHeartbeats 4000000 in
theorem s_put {V : Nat → Nat → Value} {I : Nat → Nat → Int32} {L : Nat → Nat → Int64} {R : Nat → Nat → Option Nat} {tl : am_H} {a : Nat} (h : isS a) (v : Int64) : am_pP 2048 (.ref a) (.long v) (fx V I L R ++ tl) = some (fx (vup V a 0 (.long v)) I L R ++ tl) := sorry
set_option maxRecDepth 100000 in
set_option maxHeartbeats 4000000 in
theorem c_200g {q : rkQ} {N i kd z n : Nat} {x : Int64} (hN : 100 < N) (hi : i < 4) (hg : pGood (nI kd) (nI n) (nI z)) (hn : n ≤ 16) (hD : dOk N (L0 q) kd z) : ∃ V' I' R' tl', fm_200 N (.ref 0) (nI i) (nI kd) (nI n) (nI z) x (hp0 q) = some (.inl (some (.int 0), fx V' I' (L0 q) R' ++ tl')) ∧ (∀ j, V' 174 j = V0 174 j) ∧ (∀ y, 174 ≤ y → I' y = I0 y) ∧ tl'.length ≤ 32 ∧ am_sz tl' ≤ 3200 := sorry