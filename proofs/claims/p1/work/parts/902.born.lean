/-- numbers copied one by one -/
def csq (D S : Nat → Int32) (x : Nat) : Nat → Nat → Int32
  | 0 => D
  | n + 1 => upd (csq D S x n) (x + n) (S n)
set_option maxRecDepth 100000 in
set_option maxHeartbeats 4000000 in
theorem x_356 {V : Nat → Nat → Value} {I : Nat → Nat → Int32} {L : Nat → Nat → Int64} {R : Nat → Nat → Option Nat} {tl : am_H} {N s m : Nat} {kd nt : Int32} (h1 : V 174 1 = .int (nI m)) (h13 : V 174 13 = .int kd) (h14 : V 174 14 = .int (nI s)) (h15 : V 174 15 = .int nt) (hm : m < 600) (hs : s ≤ 60) (hN : 70 < N) (x1 x2 x3 x4 x5 : Int32) (x6 : Int64) :
    fm_356 N (.ref 174) x1 x2 x3 x4 x5 x6 (fx V I L R ++ tl) = some (.inl (some (.int (nI m)), fx (vup V 174 1 (.int (nI (m + 1)))) (iup (iup (iup (iup (iup (iup (iup (iup (iup (iup I 175 (upd (I 175) m kd)) 176 (upd (I 176) m (nI s))) 177 (upd (I 177) m (if kd = 3 then nt else 0))) 178 (upd (I 178) m x1)) 179 (upd (I 179) m x2)) 180 (upd (I 180) m x3)) 181 (upd (I 181) m x4)) 182 (upd (I 182) m x5)) 184 (csq (I 184) (I 186) (60 * m) s)) 185 (csq (I 185) (I 187) (60 * m) s)) (lup L 183 (vp_updL (L 183) m x6)) R ++ tl)) := sorry