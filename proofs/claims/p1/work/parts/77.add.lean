/-! ===== add ===== -/
def filf (f : Nat → Int32) (v : Int32) (i : Nat) : Nat → Int32 := fun j => if j < i then v else f j
set_option maxRecDepth 100000 in
set_option maxHeartbeats 4000000 in
theorem filf_0 (f : Nat → Int32) (v : Int32) : filf f v 0 = f := sorry
set_option maxRecDepth 100000 in
set_option maxHeartbeats 4000000 in
theorem filf_s (f : Nat → Int32) (v : Int32) (i : Nat) : upd (filf f v i) i v = filf f v (i + 1) := sorry
theorem set_same {h : am_H} {a : Nat} {e : am_E} (ha : h[a]? = some e) : h.set a e = h := sorry
set_option maxRecDepth 100000 in
set_option maxHeartbeats 4000000 in
theorem e_53 {h : am_H} {a n N : Nat} {f : Nat → Int32} {v : Int32} (ha : h[a]? = some (.inl (0, n, .inl f))) (hn : n < 2 ^ 30) (hN : n < N) : fm_53 N (.ref a) v h = some (.inl (none, h.set a (.inl (0, n, .inl (filf f v n))))) := sorry
set_option maxRecDepth 100000 in
set_option maxHeartbeats 4000000 in
theorem ev_cpy {h h1 : am_H} {a b n0 n1 : Nat} {f g : Nat → Int32} {sp dp n : Nat} (ha : h[a]? = some (.inl (0, n0, .inl f))) (hb : h[b]? = some (.inl (0, n1, .inl g))) (h0 : sp + n ≤ n0) (h2 : dp + n ≤ n1) (h3 : n0 < 2 ^ 30) (h4 : n1 < 2 ^ 30) (hh : h.set b (.inl (0, n1, .inl (va_cpy f g sp dp n))) = h1) : am_pCpy (.ref a) (nI sp) (.ref b) (nI dp) (nI n) h = some h1 := sorry
/-- the draft with a case's numbers -/
def dft (D : Nat → Int32) (x y z w g i : Int32) : Nat → Int32 := upd (upd (upd (upd (upd (upd D 0 x) 1 y) 2 z) 3 w) 4 g) 5 i
set_option maxRecDepth 100000 in
set_option maxHeartbeats 4000000 in
theorem c_104 {V : Nat → Nat → Value} {I : Nat → Nat → Int32} {L : Nat → Nat → Int64} {R : Nat → Nat → Option Nat} {tl : am_H} {N k : Nat} (hk : V 14 1 = .int (nI k)) (hk24 : k < 24) (hN : 15 < N) {x y z w g i : Int32} (c1 : ¬ g < 1) (c2 : g ≤ 9) :
    fm_104 N (.ref 0) x y z w g i (fx V I L R ++ tl) = some (.inl (some (.int (nI k)), fx (vup V 14 1 (.int (nI (k + 1)))) (iup (iup I 15 (va_cpy (dft (I 164) x y z w g (if i = 0 then 0 else 1)) (I 15) 0 (15 * k) 15)) 164 (filf (dft (I 164) x y z w g (if i = 0 then 0 else 1)) 0 15)) L R ++ tl)) := sorry
/-- the reference's row of a case, i numbers of it laid -/
def rws (Q row : Nat → Int32) (r k : Nat) : Nat → Nat → Int32
  | 0 => Q
  | i + 1 => upd (rws Q row r k i) (8 * k + i) (if i < r then row i else 0)
set_option maxRecDepth 100000 in
set_option maxHeartbeats 4000000 in
theorem r_396 {V : Nat → Nat → Value} {I : Nat → Nat → Int32} {L : Nat → Nat → Int64} {R : Nat → Nat → Option Nat} {tl : am_H} {N k r : Nat} (hk : V 174 31 = .int (nI k)) (hk24 : k < 24) (hr : V 174 40 = .int (nI r)) (hr8 : r ≤ 8) (hN : 10 < N) {x y z w g i : Int32} (hi : am_afit 2 i = true) (c1 : ¬ g < 1) (c2 : g ≤ 9) :
    fm_396 N (.ref 174) x y z w g i (fx V I L R ++ tl) = some (.inl (some (.int (nI k)), fx (vup (vup (vup V 174 0 (.int 0)) 174 40 (.int 0)) 174 31 (.int (nI (k + 1)))) (iup (iup (iup (iup (iup (iup (iup (iup I 197 (upd (I 197) k x)) 198 (upd (I 198) k y)) 199 (upd (I 199) k z)) 200 (upd (I 200) k w)) 201 (upd (I 201) k g)) 202 (upd (I 202) k i)) 203 (upd (I 203) k (nI r))) 204 (rws (I 204) (I 205) r k 8)) L R ++ tl)) := sorry
set_option maxRecDepth 100000 in
set_option maxHeartbeats 4000000 in
theorem fits_fx {V : Nat → Nat → Value} {I : Nat → Nat → Int32} {L : Nat → Nat → Int64} {R : Nat → Nat → Option Nat} {tl : am_H} (h1 : tl.length ≤ 1000) (h2 : am_sz tl ≤ 1000000) : fits (fx V I L R ++ tl) := sorry
set_option maxRecDepth 100000 in
set_option maxHeartbeats 4000000 in
theorem p_13 (q : rkQ) (N : Nat) (hN : 100 < N) (a1 a2 a3 a4 a5 a6 : Int32) : ∃ h', opBI (fm_103 N (.ref 0) a1 a2 a3 a4 a5 (if a6 = 0 then 0 else 1) (.ref 268) (hp0 q)) (fun h1 => fm_396 N (.ref 174) a1 a2 a3 a4 a5 (if a6 = 0 then 0 else 1) h1) vfI h' ∧ fits h' := sorry