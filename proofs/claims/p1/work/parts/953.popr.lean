/-! ===== populate: the reference ===== -/
set_option maxRecDepth 100000 in
set_option maxHeartbeats 4000000 in
theorem x_335 {V : Nat → Nat → Value} {I : Nat → Nat → Int32} {L : Nat → Nat → Int64} {R : Nat → Nat → Option Nat} {tl : am_H} {s : Nat} (h14 : V 174 14 = .int (nI s)) (hs : s < 400) (x y : Int32) : fm_335 (.ref 174) x y (fx V I L R ++ tl) = some (.inl (none, fx (vup V 174 14 (.int (nI (s + 1)))) (iup (iup I 186 (upd (I 186) s x)) 187 (upd (I 187) s y)) L R ++ tl)) := sorry
/-- the tables are not made yet, or are made -/
def rInv (V : Nat → Nat → Value) (L : Nat → Nat → Int64) : Prop := (V 174 80 = .int 0 ∧ L 224 = (fun _ => 0) ∧ L 225 = (fun _ => 0)) ∨ (V 174 80 = .int 1 ∧ L 224 = tC ∧ L 225 = tS)
/-- a kind that the reference draws; Q: what else is kept of its rows -/
def rOk (N kd z : Nat) (Q : (Nat → Nat → Int32) → Prop) : Prop := ∀ (V : Nat → Nat → Value) (I : Nat → Nat → Int32) (L : Nat → Nat → Int64) (R : Nat → Nat → Option Nat) (tl : am_H) (st : Int64), V 174 96 = .long st → rInv V L → (∃ k0, V 174 88 = .int (nI k0)) → Q I →
  ∃ V' I' L' s kd' nt st', fm_491 N (.ref 174) (nI kd) (nI z) (fx V I L R ++ tl) = some (.inl (none, fx V' I' L' R ++ tl)) ∧ V' 174 13 = .int kd' ∧ V' 174 14 = .int (nI s) ∧ s ≤ 60 ∧ V' 174 15 = .int nt ∧ V' 174 96 = .long st' ∧ rInv V' L' ∧ (∃ k0, V' 174 88 = .int (nI k0)) ∧ V' 174 0 = V 174 0 ∧ V' 174 1 = V 174 1 ∧ L' 268 = L 268 ∧ I' 234 = I 234 ∧ Q I'
theorem vup_v {V : Nat → Nat → Value} {j y : Nat} {w : Value} (h : y ≠ j) : vup V 174 j w 174 y = V 174 y := vup_nj h
set_option maxRecDepth 100000 in
set_option maxHeartbeats 4000000 in
theorem r_493l {L : Nat → Nat → Int64} {R : Nat → Nat → Option Nat} {tl : am_H} {N z : Nat} (hN : 40 < N) (hz : 2 ≤ z) (hz8 : z ≤ 8) : ∀ (m k K : Nat) (V : Nat → Nat → Value) (I : Nat → Nat → Int32) (st : Int64), k + m = 2 * z → m < K → V 174 96 = .long st → V 174 14 = .int (nI k) → ∃ V' I' st', fg_493_7 N K (.ref 174) (nI z) (nI k) (fx V I L R ++ tl) = some (.inl (none, fx V' I' L R ++ tl)) ∧ V' 174 14 = .int (nI (2 * z)) ∧ V' 174 96 = .long st' ∧ (∀ j, j ≠ 14 → j ≠ 96 → V' 174 j = V 174 j) ∧ (∀ y, y ≠ 186 → y ≠ 187 → I' y = I y) := sorry
set_option maxRecDepth 100000 in
set_option maxHeartbeats 4000000 in
theorem rOk_3 {N z : Nat} (hN : 40 < N) (hz : 2 ≤ z) (hz8 : z ≤ 8) : rOk N 3 z (fun _ => True) := sorry
set_option maxRecDepth 100000 in
set_option maxHeartbeats 4000000 in
theorem r_492i {L : Nat → Nat → Int64} {R : Nat → Nat → Option Nat} {tl : am_H} {N z k : Nat} (hz1 : 1 ≤ z) (hz6 : z ≤ 6) (hk : k < z) {rec : Value → Int32 → Int32 → am_H → Option am_O} {x3 : Int32} : ∀ (m c K : Nat) (V : Nat → Nat → Value) (I : Nat → Nat → Int32) (st : Int64) (v : Int32), c + m = 4 → m < K → V 174 96 = .long st → V 174 14 = .int (nI k) → ∃ V' I' st', fg_492_20 N rec K (.ref 174) (nI z) (nI k) x3 v (nI c) (fx V I L R ++ tl) = rec (.ref 174) (nI z) (nI (k + 1)) (fx V' I' L R ++ tl) ∧ V' 174 14 = .int (nI (k + 1)) ∧ V' 174 96 = .long st' ∧ (∀ j, j ≠ 14 → j ≠ 96 → V' 174 j = V 174 j) ∧ (∀ y, y ≠ 186 → y ≠ 187 → I' y = I y) := sorry
set_option maxRecDepth 100000 in
set_option maxHeartbeats 4000000 in
theorem r_492l {L : Nat → Nat → Int64} {R : Nat → Nat → Option Nat} {tl : am_H} {N z : Nat} (hN : 40 < N) (hz1 : 1 ≤ z) (hz6 : z ≤ 6) : ∀ (m k K : Nat) (V : Nat → Nat → Value) (I : Nat → Nat → Int32) (st : Int64), k + m = z → m < K → V 174 96 = .long st → V 174 14 = .int (nI k) → ∃ V' I' st', fg_492_2 N K (.ref 174) (nI z) (nI k) (fx V I L R ++ tl) = some (.inl (none, fx V' I' L R ++ tl)) ∧ V' 174 14 = .int (nI z) ∧ V' 174 96 = .long st' ∧ (∀ j, j ≠ 14 → j ≠ 96 → V' 174 j = V 174 j) ∧ (∀ y, y ≠ 186 → y ≠ 187 → I' y = I y) := sorry
set_option maxRecDepth 100000 in
set_option maxHeartbeats 4000000 in
theorem rOk_2 {N z : Nat} (hN : 40 < N) (hz : 1 ≤ z) (hz6 : z ≤ 6) : rOk N 2 z (fun _ => True) := sorry