/-! ===== trees ===== -/
theorem tC_uL : ∀ n, n < 13 → ∀ c, c < 6 → (tCs n).getD c 0 = uT c n := sorry
theorem tC_u {w t n : Nat} (hw : w < 3) (ht : t ≤ 1) (hn : n ≤ 12) : mnN tC w t n = lN (uT (2 * w + t) n) := sorry
set_option maxRecDepth 100000 in
set_option maxHeartbeats 4000000 in
theorem x_377 {V : Nat → Nat → Value} {I : Nat → Nat → Int32} {L : Nat → Nat → Int64} {R : Nat → Nat → Option Nat} {tl : am_H} {N : Nat} (hN : 40 < N) (hv : V 174 80 = .int 0) (h0 : L 224 = fun _ => 0) (h1 : L 225 = fun _ => 0) : ∃ Y1, fm_377 N (.ref 174) (fx V I L R ++ tl) = some (.inl (none, fx (vup V 174 80 (.int 1)) I (lup (lup (lup L 224 tC) 225 tS) 226 Y1) R ++ tl)) := sorry
set_option maxRecDepth 100000 in
set_option maxHeartbeats 4000000 in
theorem x_377c {V : Nat → Nat → Value} {I : Nat → Nat → Int32} {L : Nat → Nat → Int64} {R : Nat → Nat → Option Nat} {tl : am_H} {N : Nat} (hv : V 174 80 = .int 1) : fm_377 N (.ref 174) (fx V I L R ++ tl) = some (.inl (none, fx V I L R ++ tl)) := sorry
set_option maxRecDepth 100000 in
set_option maxHeartbeats 4000000 in
theorem x_383 {V : Nat → Nat → Value} {I : Nat → Nat → Int32} {L : Nat → Nat → Int64} {R : Nat → Nat → Option Nat} {tl : am_H} {w t n : Nat} (hC : L 224 = tC) (hw : w < 3) (ht : t ≤ 1) (hn : n ≤ 12) : fm_383 (.ref 174) (nI w) (nI t) (nI n) (fx V I L R ++ tl) = some (.inl (some (.long (lN (uT (2 * w + t) n))), fx V I L R ++ tl)) := sorry
theorem t12 (a : Int32) : (a < 1 ∨ 12 < a) ∨ ∃ n, 1 ≤ n ∧ n ≤ 12 ∧ a = nI n := sorry
theorem rkTot_u {c n : Nat} (hc : c < 6) (h1 : 1 ≤ n) (hn : n < 13) : rkTot tT (nI c) (nI n) = lN (uT c n) := sorry
theorem uT_0 : ∀ n, n < 13 → 1 ≤ n → tT n = lN (uT 0 n) := sorry
set_option maxRecDepth 100000 in
set_option maxHeartbeats 4000000 in
theorem p_9 (N : Nat) (hN : 100 < N) (a1 : Int32) : ∃ h', opBL (fm_87 (.ref 0) a1 (.ref 268) (hp0 (tW, tT))) (fun h1 => fm_376 N (.ref 174) a1 h1) vfI h' ∧ fits h' := sorry