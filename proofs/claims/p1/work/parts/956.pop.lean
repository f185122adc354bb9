/-! ===== populate, the fresh objects; code (kind 1) as premises ===== -/
def pLo (k : Int32) : Int32 := if k = 3 then 2 else 1
def pHi (k : Int32) : Int32 := if k = 2 then 6 else if k = 3 then 8 else 9
def pGood (k n z : Int32) : Prop := ¬ k < 0 ∧ ¬ 3 < k ∧ ¬ n < 1 ∧ ¬ 16 < n ∧ ¬ z < pLo k ∧ z ≤ pHi k
theorem c_200h {N : Nat} {a2 a3 a4 : Int32} {x : Int64} {i : Int32} {a : Nat} {h h1 : am_H} {o : Option am_O} (h0 : am_pOk 11 (.ref 0) h = true) (h201 : fm_201 (.ref 0) i h = some (.inl (some (.ref a), h1))) (ho : fg_200_41 N (.ref 0) a2 a3 a4 x (.ref a) (pLo a2) (pHi a2) h1 = o) : fm_200 N (.ref 0) i a2 a3 a4 x h = o := sorry
theorem c_200b {N : Nat} {a2 a3 a4 : Int32} {x : Int64} {v : Value} {h : am_H} (hb : ¬ pGood a2 a3 a4) : fg_200_41 N (.ref 0) a2 a3 a4 x v (pLo a2) (pHi a2) h = some (.inr (0, h ++ [am_dummy])) := sorry
theorem t490 {a2 a4 : Int32} {h : am_H} : fm_490 a2 a4 h = some (.inl (some (.int (pv_327 a4.toInt64 (pLo a2).toInt64 (pHi a2).toInt64)), h)) := sorry