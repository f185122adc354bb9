/-! ===== running a tree: what it comes to; the class ===== -/
/-- fault, steps, what a fold carries, its item -/
abbrev eSt : Type := Int32 × Nat × Int32 × Int32
def lfV (x y z : Int32) (len : Nat) (s : Nat) (c : Int32) (st : eSt) : Int32 := if s = 1 then x else if s = 2 then y else if s = 3 then z else if s = 4 then nI len else if s = 5 then st.2.2.1 else if s = 6 then st.2.2.2 else c
def oneV (len : Nat) (row : Nat → Int32) (s : Nat) (a : Int32) (st : eSt) : Int32 × eSt := if s = 9 then (1 - a, st) else if s = 7 then (-a, st) else if a < 0 ∨ nI len ≤ a then (0, (2, st.2)) else (row a.toNatClampNeg, st)
def twoV (s : Nat) (a b : Int32) (st : eSt) : Int32 × eSt := if s = 10 then (a + b, st) else if s = 11 then (a - b, st) else if s = 12 then (a * b, st) else if s = 15 then ((if b ≤ a then 0 else 1), st) else if s = 16 then ((if ¬ a = b then 0 else 1), st) else if b = 0 then (0, (1, st.2)) else if s = 13 then (a / b, st) else (a - a / b * b, st)
/-- a fold's turns: m of them from item i on -/
def fld (row : Nat → Int32) (ev : eSt → Int32 × eSt) : Nat → Nat → Int32 → eSt → Int32 × eSt
  | 0, _, r, st => (r, st)
  | m + 1, i, r, st => if st.1 ≠ 0 then (r, st) else fld row ev m (i + 1) (ev (st.1, st.2.1, r, row i)).1 (ev (st.1, st.2.1, r, row i)).2
/-- what is done with a second part's value -/
def evR (s : Nat) (a : Int32) (q : Int32 × eSt) : Int32 × eSt := if q.2.1 ≠ 0 then q else if s = 17 ∨ s = 18 ∨ s = 20 then q else twoV s a q.1 q.2
def evQ (len : Nat) (row : Nat → Int32) (s : Nat) (a : Int32) (st : eSt) (e2 e3 : eSt → Int32 × eSt) : Int32 × eSt := if s < 10 then oneV len row s a st else if s = 19 then fld row e2 len 0 a st else if s = 20 ∧ a = 0 then e3 st else evR s a (e2 st)
/-- what is done with a first part's value a -/
def evP (len : Nat) (row : Nat → Int32) (s : Nat) (a : Int32) (st : eSt) (e2 e3 : eSt → Int32 × eSt) : Int32 × eSt := if st.1 ≠ 0 then (a, st) else if s = 17 ∧ a = 0 then (a, st) else if s = 18 ∧ ¬ a = 0 then (a, st) else evQ len row s a st e2 e3
/-- a node's value: fuel, node, state -/
def evN (x y z : Int32) (len : Nat) (row : Nat → Int32) (lm : Nat) (s : Nat → Nat) (v : Nat → Int32) (en : Nat → Nat) : Nat → Nat → eSt → Int32 × eSt
  | 0, _, st => (0, st)
  | d + 1, k, st => if st.1 ≠ 0 then (0, st) else if st.2.1 < lm then
      (if s k < 7 then (lfV x y z len (s k) (v k) (st.1, st.2.1 + 1, st.2.2), (st.1, st.2.1 + 1, st.2.2))
       else evP len row (s k) (evN x y z len row lm s v en d (k + 1) (st.1, st.2.1 + 1, st.2.2)).1 (evN x y z len row lm s v en d (k + 1) (st.1, st.2.1 + 1, st.2.2)).2 (evN x y z len row lm s v en d (en (k + 1))) (evN x y z len row lm s v en d (en (en (k + 1)))))
    else (0, (3, st.2))
/-- the runner's fields -/
def eW (V : Nat → Nat → Value) (st : eSt) : Nat → Nat → Value := rsC (vup (vup V 16 11 (.int st.2.2.1)) 16 12 (.int st.2.2.2)) st.1 st.2.1
theorem eW_na {V : Nat → Nat → Value} {st : eSt} {a j : Nat} (h : a ≠ 16) : eW V st a j = V a j := by
  unfold eW rsC
  rw [vup_na h, vup_na h, vup_na h, vup_na h]
set_option maxRecDepth 100000 in
set_option maxHeartbeats 4000000 in
theorem c_119 {V : Nat → Nat → Value} {I : Nat → Nat → Int32} {L : Nat → Nat → Int64} {R : Nat → Nat → Option Nat} {tl : am_H} {x y z : Int32} {len s : Nat} {c : Int32} {st : eSt} (h6 : V 16 6 = .int x) (h7 : V 16 7 = .int y) (h8 : V 16 8 = .int z) (h10 : V 16 10 = .int (nI len)) (hs : s < 7) : fm_119 (.ref 16) (nI s) c (fx (eW V st) I L R ++ tl) = some (.inl (some (.int (lfV x y z len s c st)), fx (eW V st) I L R ++ tl)) := by
  unfold fm_119 fg_119_0 lfV
  rcases (by omega : s = 0 ∨ s = 1 ∨ s = 2 ∨ s = 3 ∨ s = 4 ∨ s = 5 ∨ s = 6) with rfl | rfl | rfl | rfl | rfl | rfl | rfl
  · rfl
  · exact ev_t rfl (ev_b (a := x) (by show am_vI (some (V 16 6)) = _; rw [h6]; rfl) rfl)
  · exact ev_f (by decide) (ev_t rfl (ev_b (a := y) (by show am_vI (some (V 16 7)) = _; rw [h7]; rfl) rfl))
  · exact ev_f (by decide) (ev_f (by decide) (ev_t rfl (ev_b (a := z) (by show am_vI (some (V 16 8)) = _; rw [h8]; rfl) rfl)))
  · exact ev_f (by decide) (ev_f (by decide) (ev_f (by decide) (ev_t rfl (ev_b (a := nI len) (by show am_vI (some (V 16 10)) = _; rw [h10]; rfl) rfl))))
  · exact ev_f (by decide) (ev_f (by decide) (ev_f (by decide) (ev_f (by decide) (ev_t rfl (ev_b (a := st.2.2.1) rfl rfl)))))
  · exact ev_f (by decide) (ev_f (by decide) (ev_f (by decide) (ev_f (by decide) (ev_f (by decide) (ev_t rfl (ev_b (a := st.2.2.2) rfl rfl))))))
set_option maxRecDepth 100000 in
set_option maxHeartbeats 4000000 in
theorem c_120 {V : Nat → Nat → Value} {I : Nat → Nat → Int32} {L : Nat → Nat → Int64} {R : Nat → Nat → Option Nat} {tl : am_H} {len s : Nat} {a : Int32} {st : eSt} (h10 : V 16 10 = .int (nI len)) (hlen : len ≤ 8) (hs : s = 7 ∨ s = 8 ∨ s = 9) : fm_120 (.ref 16) (nI s) a (fx (eW V st) I L R ++ tl) = some (.inl (some (.int (oneV len (I 25) s a st).1), fx (eW V (oneV len (I 25) s a st).2) I L R ++ tl)) := by
  rcases hs with rfl | rfl | rfl
  · unfold fm_120 fg_120_0
    exact ev_t (by decide) (ev_f (fun e => e rfl) rfl)
  · have e : oneV len (I 25) 8 a st = if a < 0 ∨ nI len ≤ a then (0, ((2, st.2) : eSt)) else (I 25 a.toNatClampNeg, st) := rfl
    rw [e]
    unfold fm_120 fg_120_0
    refine ev_t (by decide) (ev_t (by decide) ?_)
    rcases dich a (n := len) (by omega) with hn | ⟨k, hk, rfl⟩
    · rw [if_pos hn]
      have e31 : fg_120_31 (.ref 16) (fx (eW V st) I L R ++ tl) = some (.inl (some (.int 0), fx (eW V (2, st.2)) I L R ++ tl)) := by
        unfold fg_120_31
        exact ev_b (a := fx (eW V (2, st.2)) I L R ++ tl) (ev_p rfl rfl rfl rfl) rfl
      by_cases c : a < 0
      · exact ev_t c e31
      · exact ev_f c (ev_b (a := nI len) (by show am_vI (some (V 16 10)) = _; rw [h10]; rfl) (ev_f (Int32.not_lt.mpr (hn.resolve_left c)) e31))
    · rw [if_neg (show ¬ (nI k < 0 ∨ nI len ≤ nI k) from fun e => e.elim (nI_pos (by omega)) (nI_ge hk (by omega))), nI_clamp (by omega)]
      exact ev_f (nI_pos (by omega)) (ev_b (a := nI len) (by show am_vI (some (V 16 10)) = _; rw [h10]; rfl) (ev_t (nI_lt hk (by omega)) (ev_b (a := Value.ref 25) rfl (ev_b (qa_25 (by omega)) rfl))))
  · unfold fm_120 fg_120_0
    exact ev_f (fun e => e rfl) rfl
set_option maxRecDepth 100000 in
set_option maxHeartbeats 4000000 in
theorem c_122 {V : Nat → Nat → Value} {I : Nat → Nat → Int32} {L : Nat → Nat → Int64} {R : Nat → Nat → Option Nat} {tl : am_H} {s : Nat} {a b : Int32} {st : eSt} (hs : 10 ≤ s) (hs2 : s ≤ 16) : fm_122 (.ref 16) (nI s) a b (fx (eW V st) I L R ++ tl) = some (.inl (some (.int (twoV s a b st).1), fx (eW V (twoV s a b st).2) I L R ++ tl)) := by
  have e78 : ∀ t : Nat, (t = 13 ∨ t = 14) → fg_122_78 (.ref 16) (nI t) a b (fx (eW V st) I L R ++ tl) = some (.inl (some (.int (if b = 0 then (0, ((1, st.2) : eSt)) else if t = 13 then (a / b, st) else (a - a / b * b, st)).1), fx (eW V (if b = 0 then (0, ((1, st.2) : eSt)) else if t = 13 then (a / b, st) else (a - a / b * b, st)).2) I L R ++ tl)) := fun t ht => by
    unfold fg_122_78
    by_cases c : b = 0
    · rw [if_pos c]
      exact ev_f (fun e => e c) (ev_b (a := fx (eW V (1, st.2)) I L R ++ tl) (ev_p rfl rfl rfl rfl) rfl)
    · rw [if_neg c]
      refine ev_t c ?_
      rcases ht with rfl | rfl
      · exact ev_f (fun e => e rfl) (ev_t c rfl)
      · exact ev_t (by decide) (ev_t c rfl)
  rcases (by omega : s = 10 ∨ s = 11 ∨ s = 12 ∨ s = 13 ∨ s = 14 ∨ s = 15 ∨ s = 16) with rfl | rfl | rfl | rfl | rfl | rfl | rfl
  · rfl
  · unfold fm_122 fg_122_0
    exact ev_f (by decide) (ev_t rfl rfl)
  · unfold fm_122 fg_122_0
    exact ev_f (by decide) (ev_f (by decide) (ev_t rfl rfl))
  · unfold fm_122 fg_122_0
    exact ev_f (by decide) (ev_f (by decide) (ev_f (by decide) (ev_f (by decide) (ev_f (by decide) (e78 13 (.inl rfl))))))
  · unfold fm_122 fg_122_0
    exact ev_f (by decide) (ev_f (by decide) (ev_f (by decide) (ev_f (by decide) (ev_f (by decide) (e78 14 (.inr rfl))))))
  · have e : twoV 15 a b st = ((if b ≤ a then 0 else 1), st) := rfl
    rw [e]
    unfold fm_122 fg_122_0
    refine ev_f (by decide) (ev_f (by decide) (ev_f (by decide) (ev_t rfl ?_)))
    by_cases c : b ≤ a
    · rw [if_pos c, if_pos c]
      rfl
    · rw [if_neg c, if_neg c]
      rfl
  · have e : twoV 16 a b st = ((if ¬ a = b then 0 else 1), st) := rfl
    rw [e]
    unfold fm_122 fg_122_0
    refine ev_f (by decide) (ev_f (by decide) (ev_f (by decide) (ev_f (by decide) (ev_t rfl ?_))))
    by_cases c : ¬ a = b
    · rw [if_pos c, if_pos c]
      rfl
    · rw [if_neg c, if_neg c]
      rfl
set_option maxRecDepth 100000 in
set_option maxHeartbeats 4000000 in
theorem c_100 {h : am_H} {a r sz k e : Nat} {f : Nat → Int32} {fs : List Value} (hs : h[a]? = some (.inr (7, fs))) (h0 : fs[0]? = some (.ref r)) (h7 : fs[7]? = some (.int (nI sz))) (hr : h[r]? = some (.inl (0, 60, .inl f))) (hk : k < sz) (hz : sz ≤ 60) (he : f k = nI e) : fm_100 (.ref a) (nI k) h = some (.inl (some (.int (nI e)), h)) := by
  unfold fm_100 fg_100_0
  refine ev_f (nI_pos (by omega)) (ev_b (ev_gI hs rfl h7) (ev_f (nI_ge hk (by omega)) (ev_b (ev_gR hs rfl h0 rfl) (ev_b (a := nI e) ((ev_a hr (am_inb_n (by omega) (by omega))).trans (by rw [nI_clamp (by omega), he])) rfl))))
