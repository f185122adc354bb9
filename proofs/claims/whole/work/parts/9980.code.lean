/-! ===== running code: an instruction ===== -/
def rW (V : Nat → Nat → Value) (st : eSt) : Nat → Nat → Value := rsR (vup (vup V 174 58 (.int st.2.2.1)) 174 59 (.int st.2.2.2)) st.1 st.2.1
set_option maxRecDepth 100000 in
set_option maxHeartbeats 4000000 in
theorem r_408c {V : Nat → Nat → Value} {I : Nat → Nat → Int32} {L : Nat → Nat → Int64} {R : Nat → Nat → Option Nat} {tl : am_H} {x y z : Int32} {len s : Nat} {c : Int32} {st : eSt} (h51 : V 174 51 = .int x) (h52 : V 174 52 = .int y) (h53 : V 174 53 = .int z) (h54 : V 174 54 = .int (nI len)) (hs : s < 7) : fm_408 (.ref 174) (nI s) c (fx (rW V st) I L R ++ tl) = some (.inl (some (.int (lfV x y z len s c st)), (fx (rW V st) I L R ++ tl))) := by
  unfold fm_408 fg_408_0
  rcases (by omega : s = 0 ∨ s = 1 ∨ s = 2 ∨ s = 3 ∨ s = 4 ∨ s = 5 ∨ s = 6) with rfl | rfl | rfl | rfl | rfl | rfl | rfl
  · exact ev_f (fun e => e rfl) rfl
  · exact ev_t (by decide) (ev_f (fun e => e rfl) (ev_b (a := x) (by show am_vI (some (V 174 51)) = _; rw [h51]; rfl) rfl))
  · exact ev_t (by decide) (ev_t (by decide) (ev_f (fun e => e rfl) (ev_b (a := y) (by show am_vI (some (V 174 52)) = _; rw [h52]; rfl) rfl)))
  · exact ev_t (by decide) (ev_t (by decide) (ev_t (by decide) (ev_f (fun e => e rfl) (ev_b (a := z) (by show am_vI (some (V 174 53)) = _; rw [h53]; rfl) rfl))))
  · exact ev_t (by decide) (ev_t (by decide) (ev_t (by decide) (ev_t (by decide) (ev_f (fun e => e rfl) (ev_b (a := nI len) (by show am_vI (some (V 174 54)) = _; rw [h54]; rfl) rfl)))))
  · exact ev_t (by decide) (ev_t (by decide) (ev_t (by decide) (ev_t (by decide) (ev_t (by decide) (ev_f (fun e => e rfl) (ev_b (a := st.2.2.1) rfl rfl))))))
  · exact ev_t (by decide) (ev_t (by decide) (ev_t (by decide) (ev_t (by decide) (ev_t (by decide) (ev_t (by decide) (ev_b (a := st.2.2.2) rfl rfl))))))
set_option maxRecDepth 100000 in
set_option maxHeartbeats 4000000 in
theorem r_413c {V : Nat → Nat → Value} {I : Nat → Nat → Int32} {L : Nat → Nat → Int64} {R : Nat → Nat → Option Nat} {tl : am_H} {s : Nat} {a b : Int32} {st : eSt} (hs : 10 ≤ s) (hs2 : s ≤ 16) : fm_413 (.ref 174) (nI s) a b (fx (rW V st) I L R ++ tl) = some (.inl (some (.int (twoV s a b st).1), (fx (rW V (twoV s a b st).2) I L R ++ tl))) := by
  have e12 : ∀ t : Nat, (t = 13 ∨ t = 14) → fg_413_12 (.ref 174) (nI t) a b (fx (rW V st) I L R ++ tl) = some (.inl (some (.int (if b = 0 then (0, ((1, st.2) : eSt)) else if t = 13 then (a / b, st) else (a - a / b * b, st)).1), (fx (rW V (if b = 0 then (0, ((1, st.2) : eSt)) else if t = 13 then (a / b, st) else (a - a / b * b, st)).2) I L R ++ tl))) := fun t ht => by
    unfold fg_413_12
    by_cases c : b = 0
    · rw [if_pos c]
      exact ev_f (fun e => e c) (ev_b (a := (fx (rW V ((1, st.2) : eSt)) I L R ++ tl)) (ev_p rfl rfl rfl rfl) rfl)
    · rw [if_neg c]
      refine ev_t c ?_
      unfold fg_413_23
      rcases ht with rfl | rfl
      · refine ev_f (by decide) (ev_f (by decide) (ev_f (by decide) (ev_t rfl ?_)))
        by_cases d : b = -1
        · subst d
          refine ev_f (fun e => e rfl) ?_
          rw [dv_m1]
          rfl
        · exact ev_t d (ev_t c rfl)
      · refine ev_f (by decide) (ev_f (by decide) (ev_f (by decide) (ev_f (by decide) (ev_t rfl ?_))))
        by_cases d : b = -1
        · subst d
          refine ev_f (fun e => e rfl) ?_
          rw [rm_m1]
          rfl
        · exact ev_t d (ev_t c rfl)
  rcases (by omega : s = 10 ∨ s = 11 ∨ s = 12 ∨ s = 13 ∨ s = 14 ∨ s = 15 ∨ s = 16) with rfl | rfl | rfl | rfl | rfl | rfl | rfl
  · unfold fm_413 fg_413_0 fg_413_23
    exact ev_f (by decide) (ev_t (by decide) (ev_t rfl rfl))
  · unfold fm_413 fg_413_0 fg_413_23
    exact ev_f (by decide) (ev_t (by decide) (ev_f (by decide) (ev_t rfl rfl)))
  · unfold fm_413 fg_413_0 fg_413_23
    exact ev_f (by decide) (ev_t (by decide) (ev_f (by decide) (ev_f (by decide) (ev_t rfl rfl))))
  · unfold fm_413 fg_413_0
    exact ev_t rfl (e12 13 (.inl rfl))
  · unfold fm_413 fg_413_0
    exact ev_f (by decide) (ev_f (fun e => e rfl) (e12 14 (.inr rfl)))
  · have e : twoV 15 a b st = ((if b ≤ a then 0 else 1), st) := rfl
    rw [e]
    unfold fm_413 fg_413_0 fg_413_23
    refine ev_f (by decide) (ev_t (by decide) (ev_f (by decide) (ev_f (by decide) (ev_f (by decide) (ev_f (by decide) (ev_f (by decide) (ev_t rfl ?_)))))))
    by_cases c : b ≤ a
    · rw [if_pos c, if_pos c]
      rfl
    · rw [if_neg c, if_neg c]
      rfl
  · have e : twoV 16 a b st = ((if ¬ a = b then 0 else 1), st) := rfl
    rw [e]
    unfold fm_413 fg_413_0 fg_413_23
    refine ev_f (by decide) (ev_t (by decide) (ev_f (by decide) (ev_f (by decide) (ev_f (by decide) (ev_f (by decide) (ev_f (by decide) (ev_f (by decide) ?_)))))))
    by_cases c : ¬ a = b
    · rw [if_pos c, if_pos c]
      rfl
    · rw [if_neg c, if_neg c]
      rfl
set_option maxRecDepth 100000 in
set_option maxHeartbeats 4000000 in
theorem r_411c {V : Nat → Nat → Value} {I : Nat → Nat → Int32} {L : Nat → Nat → Int64} {R : Nat → Nat → Option Nat} {tl : am_H} {len : Nat} {a : Int32} {st : eSt} (h54 : V 174 54 = .int (nI len)) (hlen : len ≤ 8) : fm_411 (.ref 174) a (fx (rW V st) I L R ++ tl) = some (.inl (some (.int (oneV len (I 212) 8 a st).1), (fx (rW V (oneV len (I 212) 8 a st).2) I L R ++ tl))) := by
  have e : oneV len (I 212) 8 a st = if a < 0 ∨ nI len ≤ a then (0, ((2, st.2) : eSt)) else (I 212 a.toNatClampNeg, st) := rfl
  rw [e]
  unfold fm_411 fg_411_0
  refine ev_b (a := nI len) (by show am_vI (some (V 174 54)) = _; rw [h54]; rfl) (ev_cI (pe_327 _ _ _ _) ?_)
  rcases dich a (n := len) (by omega) with hn | ⟨k, hk, rfl⟩
  · rw [if_pos hn, in_b (by omega) hn]
    exact ev_f (fun e => e rfl) (ev_b (a := (fx (rW V ((2, st.2) : eSt)) I L R ++ tl)) (ev_p rfl rfl rfl rfl) rfl)
  · rw [if_neg (show ¬ (nI k < 0 ∨ nI len ≤ nI k) from fun e => e.elim (nI_pos (by omega)) (nI_ge hk (by omega))), nI_clamp (by omega), in_n hk (by omega)]
    exact ev_t (by decide) (ev_b (a := Value.ref 212) rfl (ev_b (qa_212 (by omega)) rfl))

/-- what an instruction does with the pile, whose height is T -/
def cdS (x y z : Int32) (len : Nat) (row : Nat → Int32) (s : Nat) (c : Int32) (T : Nat) (g : Nat → Int32) (st : eSt) : (Nat → Int32) × eSt :=
  if s < 5 then (upd g T (lfV x y z len s c st), st)
  else if s < 7 then (upd g (T - 1) (oneV len row (s + 2) (g (T - 1)) st).1, (oneV len row (s + 2) (g (T - 1)) st).2)
  else if s < 14 then (upd g (T - 2) (twoV (s + 3) (g (T - 2)) (g (T - 1)) st).1, (twoV (s + 3) (g (T - 2)) (g (T - 1)) st).2)
  else if s = 14 then (upd g T (g (T - 1)), st)
  else if s = 15 then (upd (upd g (T - 1) (g (T - 2))) (T - 2) (g (T - 1)), st) else (g, st)
/-- where it leads -/
def cN (s a T k : Nat) (g : Nat → Int32) : Nat := if s = 17 ∨ (s = 18 ∧ g (T - 1) = 0) then k + 1 + a else k + 1
/-- the instructions from k on, m of them at most -/
def crun (x y z : Int32) (len : Nat) (row : Nat → Int32) (lm sz : Nat) (s a : Nat → Nat) (v : Nat → Int32) (ht : Nat → Nat) : Nat → Nat → (Nat → Int32) → eSt → (Nat → Int32) × eSt
  | 0, _, g, st => (g, st)
  | m + 1, k, g, st => if sz ≤ k then (g, st) else if st.1 ≠ 0 then (g, st) else if st.2.1 < lm then
      crun x y z len row lm sz s a v ht m (cN (s k) (a k) (ht k) k (cdS x y z len row (s k) (v k) (ht k) g (st.1, st.2.1 + 1, st.2.2)).1) (cdS x y z len row (s k) (v k) (ht k) g (st.1, st.2.1 + 1, st.2.2)).1 (cdS x y z len row (s k) (v k) (ht k) g (st.1, st.2.1 + 1, st.2.2)).2
    else (g, (3, st.2))
theorem cdS_u {x y z : Int32} {len : Nat} {row : Nat → Int32} {s : Nat} {c : Int32} {T : Nat} {g : Nat → Int32} {st : eSt} : (cdS x y z len row s c T g st).2.2.1 = st.2.1 := by
  unfold cdS
  by_cases c1 : s < 5
  · rw [if_pos c1]
  · rw [if_neg c1]
    by_cases c2 : s < 7
    · rw [if_pos c2]; exact oneV_u
    · rw [if_neg c2]
      by_cases c3 : s < 14
      · rw [if_pos c3]; exact twoV_u
      · rw [if_neg c3]
        by_cases c4 : s = 14
        · rw [if_pos c4]
        · rw [if_neg c4]
          by_cases c5 : s = 15
          · rw [if_pos c5]
          · rw [if_neg c5]
/-- the class's runner with code -/
def hW (V : Nat → Nat → Value) (T : Nat) (st : eSt) : Nat → Nat → Value := eW (vup V 16 14 (.int (nI T))) st
theorem tk56 : ∀ s, s < 19 → pv_56 (nI s) = nI (tkN s) ∧ pv_348 (nI s) = nI (tkN s) ∧ pv_349 (nI s) = nI (ptN s) ∧ nI (tkN s) + pv_55 (nI s) = nI (ptN s) := by decide +kernel
theorem gr55 {s T : Nat} (hs : s < 19) (h : tkN s ≤ T) : nI T + pv_55 (nI s) = nI (T - tkN s + ptN s) := by
  have e := (tk56 s hs).2.2.2
  rw [show nI T = nI (T - tkN s) + nI (tkN s) by rw [nI_add, show T - tkN s + tkN s = T by omega], Int32.add_assoc, e, nI_add]
