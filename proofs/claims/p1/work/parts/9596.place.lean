/-! ===== the reference: a node's own instructions are laid ===== -/
/-- the reference while it lays code: sorts, numbers, where nodes begin -/
def ctS (V : Nat → Nat → Value) (I : Nat → Nat → Int32) (L : Nat → Nat → Int64) (R : Nat → Nat → Option Nat) (tl : am_H) (a b e : Nat → Int32) : am_H := fx V (iup (iup (iup I 186 a) 187 b) 219 e) L R ++ tl
set_option maxRecDepth 100000 in
set_option maxHeartbeats 4000000 in
theorem c_498 {V : Nat → Nat → Value} {I : Nat → Nat → Int32} {L : Nat → Nat → Int64} {R : Nat → Nat → Option Nat} {tl : am_H} {a b e : Nat → Int32} {i : Nat} (hi : i < 400) (x v : Int32) : fm_498 (.ref 174) (nI i) x v (ctS V I L R tl a b e) = some (.inl (none, ctS V I L R tl (upd a i x) (upd b i v) e)) := sorry
set_option maxRecDepth 100000 in
set_option maxHeartbeats 4000000 in
theorem c_e {V : Nat → Nat → Value} {I : Nat → Nat → Int32} {L : Nat → Nat → Int64} {R : Nat → Nat → Option Nat} {tl : am_H} {a b e : Nat → Int32} {i : Nat} (hi : i < 61) (v : Int32) : am_pS 0 (.ref 219) (nI i) v (ctS V I L R tl a b e) = some (ctS V I L R tl a b (upd e i v)) := ev_s (f := e) (n := 61) (h1 := ctS V I L R tl a b (upd e i v)) rfl (am_inb_n (by omega) (by omega)) rfl (by rw [nI_clamp (by omega)]; rfl)
set_option maxRecDepth 100000 in
set_option maxHeartbeats 4000000 in
theorem c_c {V : Nat → Nat → Value} {I : Nat → Nat → Int32} {L : Nat → Nat → Int64} {R : Nat → Nat → Option Nat} {tl : am_H} {a b e : Nat → Int32} {i v : Nat} (hi : i < 61) (hv : I 253 i = nI v) : am_pA 0 (.ref 253) (nI i) (ctS V I L R tl a b e) = some (nI v) := sorry
theorem c_254 {N : Nat} {k s q : Int32} {h : am_H} (h20 : ¬ s = 20) : fg_497_254 N (.ref 174) k s q h = some (.inl (none, h)) := sorry
theorem c_193 {N : Nat} {k s q : Int32} {h : am_H} (h18 : ¬ s = 18) (h20 : ¬ s = 20) : fg_497_193 N (.ref 174) k s q h = some (.inl (none, h)) := sorry
theorem c_132 {N : Nat} {k s p q : Int32} {h : am_H} (h17 : ¬ s = 17) (h18 : ¬ s = 18) (h20 : ¬ s = 20) : fg_497_132 N (.ref 174) k s p q h = some (.inl (none, h)) := sorry
/-- what a node's instructions leave -/
def laid (V : Nat → Nat → Value) (I : Nat → Nat → Int32) (L : Nat → Nat → Int64) (R : Nat → Nat → Option Nat) (tl : am_H) (l r : List (Nat × Nat)) (x : Nat × Nat) (k p : Nat) (e : Nat → Int32) (o : Option am_O) : Prop := ∃ a' b' e', o = some (.inl (none, ctS V I L R tl a' b' e')) ∧ sml b' ∧ (∀ q, q < arN x.1 → ∃ p', e' (k + 1 + tk q r) = nI p' ∧ p' + sw own 1 (r.drop (tk q r)) ≤ p + sw own 1 (l.drop k)) ∧ (∀ j, (∀ q, q < arN x.1 → j ≠ k + 1 + tk q r) → e' j = e j)
set_option maxRecDepth 100000 in
set_option maxHeartbeats 4000000 in
theorem r_497 {V : Nat → Nat → Value} {I : Nat → Nat → Int32} {L : Nat → Nat → Int64} {R : Nat → Nat → Option Nat} {tl : am_H} {N k m p : Nat} {l r : List (Nat × Nat)} {x : Nat × Nat} {a b e : Nat → Int32} (hN : 100 < N) (hl : l.length ≤ 60) (hS : rowS (I 188) l) (hT : rowT (I 192) l 0) (hC : rowC (I 253) l 0) (hV : ∀ j, j < l.length → ∃ n, n < 1000 ∧ I 189 j = nI n) (hd : l.drop k = x :: r) (hF : isF (m + arN x.1) r) (hx : x.1 ≠ 5 ∧ x.1 ≠ 6 ∧ x.1 ≠ 19) (hp : p + sw own 1 (l.drop k) ≤ 60) (hb : sml b) : laid V I L R tl l r x k p e (fm_497 N (.ref 174) (nI k) (nI p) (ctS V I L R tl a b e)) := sorry