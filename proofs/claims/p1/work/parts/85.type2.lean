/-- what type lays: the class, the reference -/
def chC (x : Int64) (k : Nat) : Int32 := (Int32.toUInt32 (Int64.toInt32 (byC x k)) % 65536).toInt32
def tyc (x : Int64) (f : Nat → Int32) (l : Nat) : Nat → Nat → Int32
  | 0 => f
  | k + 1 => upd (tyc x f l k) (l + k) (chC x k)
def tyr (x : Int64) (f : Nat → Int32) (l : Nat) : Nat → Nat → Int32
  | 0 => f
  | k + 1 => upd (tyr x f l k) (l + k) (Int64.toInt32 (byR x k))
set_option maxRecDepth 100000 in
set_option maxHeartbeats 4000000 in
theorem e_22w {V : Nat → Nat → Value} {I : Nat → Nat → Int32} {L : Nat → Nat → Int64} {R : Nat → Nat → Option Nat} {tl : am_H} {N n l : Nat} {x : Int64} (hl : l + n ≤ 240) : ∀ (m k K : Nat), k + m = n → m < K → fg_22_46 N K (.ref 2) x (nI n) (nI k) (fx (vup V 2 1 (.int (nI (l + k)))) (iup I 3 (tyc x (I 3) l k)) L R ++ tl) = some (.inl (some (.int (nI (l + n))), fx (vup V 2 1 (.int (nI (l + n)))) (iup I 3 (tyc x (I 3) l n)) L R ++ tl)) := sorry
set_option maxRecDepth 100000 in
set_option maxHeartbeats 4000000 in
theorem e_325w {V : Nat → Nat → Value} {I : Nat → Nat → Int32} {L : Nat → Nat → Int64} {R : Nat → Nat → Option Nat} {tl : am_H} {N n l : Nat} {x : Int64} (hV : V 174 68 = .int (nI l)) (hl : l + n ≤ 240) : ∀ (m k K : Nat), k + m = n → m < K → fg_325_51 N K (.ref 174) x (nI n) (nI k) (fx V (iup I 218 (tyr x (I 218) l k)) L R ++ tl) = some (.inl (some (.int (nI (l + n))), fx (vup V 174 68 (.int (nI (l + n)))) (iup I 218 (tyr x (I 218) l n)) L R ++ tl)) := sorry
set_option maxRecDepth 100000 in
set_option maxHeartbeats 4000000 in
theorem p_0 (q : rkQ) (N : Nat) (hN : 20 < N) (x : Int64) : ∃ h', opA (fm_21 N (.ref 0) x (hp0 q)) (fun h1 => fm_325 N (.ref 174) x h1) h' ∧ fits h' := sorry