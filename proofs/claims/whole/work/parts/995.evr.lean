/-! ===== running a tree: the reference's frames ===== -/
/-- its fields: state, how many frames, what was got -/
def gW (V : Nat → Nat → Value) (st : eSt) (D : Nat) (g : Int32) : Nat → Nat → Value := rsR (vup (vup (vup (vup V 174 58 (.int st.2.2.1)) 174 59 (.int st.2.2.2)) 174 65 (.int (nI D))) 174 66 (.int g)) st.1 st.2.1
def gJ (I : Nat → Nat → Int32) (fr ph on : Nat → Int32) : Nat → Nat → Int32 := iup (iup (iup I 213 fr) 214 ph) 215 on
set_option maxRecDepth 100000 in
set_option maxHeartbeats 4000000 in
theorem r_406 {V : Nat → Nat → Value} {I : Nat → Nat → Int32} {L : Nat → Nat → Int64} {R : Nat → Nat → Option Nat} {tl : am_H} {lm k D : Nat} {st : eSt} {g : Int32} {fr ph on : Nat → Int32} (hl : I 206 0 = nI lm) (hlm : lm ≤ 2000) (h0 : st.1 = 0) (hu : st.2.1 < lm) (hD : D < 130) : fm_406 (.ref 174) (nI k) (fx (gW V st D g) (gJ I fr ph on) L R ++ tl) = some (.inl (none, (fx (gW V (st.1, st.2.1 + 1, st.2.2) (D + 1) g) (gJ I (upd fr D (nI k)) (upd ph D 0) on) L R ++ tl))) := by
  obtain ⟨f0, u, cs, ce⟩ := st
  obtain rfl : f0 = 0 := h0
  unfold fm_406 fg_406_0
  refine ev_i rfl (ev_cI (r_407 (V := vup (vup (vup (vup V 174 58 (.int cs)) 174 59 (.int ce)) 174 65 (.int (nI D))) 174 66 (.int g)) (I := gJ I fr ph on) (lm := lm) hl hu hlm) (ev_t (by decide) ?_))
  refine ev_b (a := Value.ref 213) rfl (ev_b (a := nI D) rfl ?_)
  refine ev_b (a := (fx (gW V ((0, u + 1, cs, ce) : eSt) D g) (gJ I (upd fr D (nI k)) ph on) L R ++ tl)) (ev_s (f := fr) (n := 130) rfl (am_inb_n hD (by omega)) rfl (by rw [nI_clamp (by omega)]; rfl)) ?_
  refine ev_b (a := Value.ref 214) rfl (ev_b (a := nI D) rfl ?_)
  refine ev_b (a := (fx (gW V ((0, u + 1, cs, ce) : eSt) D g) (gJ I (upd fr D (nI k)) (upd ph D 0) on) L R ++ tl)) (ev_s (f := ph) (n := 130) rfl (am_inb_n hD (by omega)) rfl (by rw [nI_clamp (by omega)]; rfl)) ?_
  refine ev_b (a := nI D) rfl ?_
  rw [nI_1]
  exact ev_b (a := (fx (gW V ((0, u + 1, cs, ce) : eSt) (D + 1) g) (gJ I (upd fr D (nI k)) (upd ph D 0) on) L R ++ tl)) (ev_p rfl rfl rfl rfl) rfl
set_option maxRecDepth 100000 in
set_option maxHeartbeats 4000000 in
theorem r_406n {V : Nat → Nat → Value} {I : Nat → Nat → Int32} {L : Nat → Nat → Int64} {R : Nat → Nat → Option Nat} {tl : am_H} {lm k D : Nat} {st : eSt} {g : Int32} {fr ph on : Nat → Int32} (hl : I 206 0 = nI lm) (h0 : st.1 = 0) (hu : st.2.1 = lm) : fm_406 (.ref 174) (nI k) (fx (gW V st D g) (gJ I fr ph on) L R ++ tl) = some (.inl (none, (fx (gW V (3, st.2) D g) (gJ I fr ph on) L R ++ tl))) := by
  obtain ⟨f0, u, cs, ce⟩ := st
  obtain rfl : f0 = 0 := h0
  obtain rfl : u = lm := hu
  unfold fm_406 fg_406_0
  exact ev_i rfl (ev_cI (r_407n (V := vup (vup (vup (vup V 174 58 (.int cs)) 174 59 (.int ce)) 174 65 (.int (nI D))) 174 66 (.int g)) (I := gJ I fr ph on) hl) (ev_f (fun e => e rfl) rfl))
set_option maxRecDepth 100000 in
set_option maxHeartbeats 4000000 in
theorem r_409 {V : Nat → Nat → Value} {I : Nat → Nat → Int32} {L : Nat → Nat → Int64} {R : Nat → Nat → Option Nat} {tl : am_H} {D : Nat} {st : eSt} {g w : Int32} {fr ph on : Nat → Int32} : fm_409 (.ref 174) w (fx (gW V st (D + 1) g) (gJ I fr ph on) L R ++ tl) = some (.inl (none, (fx (gW V st D w) (gJ I fr ph on) L R ++ tl))) := by
  unfold fm_409 fg_409_0
  refine ev_b (a := nI (D + 1)) rfl ?_
  rw [nI_pred]
  exact ev_b (a := (fx (gW V st D g) (gJ I fr ph on) L R ++ tl)) (ev_p rfl rfl rfl rfl) (ev_b (a := (fx (gW V st D w) (gJ I fr ph on) L R ++ tl)) (ev_p rfl rfl rfl rfl) rfl)
set_option maxRecDepth 100000 in
set_option maxHeartbeats 4000000 in
theorem r_412 {V : Nat → Nat → Value} {I : Nat → Nat → Int32} {L : Nat → Nat → Int64} {R : Nat → Nat → Option Nat} {tl : am_H} {k e D : Nat} {st : eSt} {g : Int32} {fr ph on : Nat → Int32} (he : I 217 (k + 1) = nI (e - (k + 1))) (hk : k + 1 ≤ e) (hk4 : k < 300) : fm_412 (.ref 174) (nI k) (fx (gW V st D g) (gJ I fr ph on) L R ++ tl) = some (.inl (some (.int (nI e)), (fx (gW V st D g) (gJ I fr ph on) L R ++ tl))) := by
  unfold fm_412 fg_412_0
  rw [nI_1]
  refine ev_b (a := Value.ref 217) rfl (ev_b (a := nI (e - (k + 1))) ((qa_217 (by omega)).trans (by rw [← he]; rfl)) ?_)
  rw [nI_add, show k + 1 + (e - (k + 1)) = e by omega]
set_option maxRecDepth 100000 in
set_option maxHeartbeats 4000000 in
theorem r_408 {V : Nat → Nat → Value} {I : Nat → Nat → Int32} {L : Nat → Nat → Int64} {R : Nat → Nat → Option Nat} {tl : am_H} {x y z : Int32} {len s : Nat} {c : Int32} {D : Nat} {st : eSt} {g : Int32} {fr ph on : Nat → Int32} (h51 : V 174 51 = .int x) (h52 : V 174 52 = .int y) (h53 : V 174 53 = .int z) (h54 : V 174 54 = .int (nI len)) (hs : s < 7) : fm_408 (.ref 174) (nI s) c (fx (gW V st D g) (gJ I fr ph on) L R ++ tl) = some (.inl (some (.int (lfV x y z len s c st)), (fx (gW V st D g) (gJ I fr ph on) L R ++ tl))) := by
  unfold fm_408 fg_408_0
  rcases (by omega : s = 0 ∨ s = 1 ∨ s = 2 ∨ s = 3 ∨ s = 4 ∨ s = 5 ∨ s = 6) with rfl | rfl | rfl | rfl | rfl | rfl | rfl
  · exact ev_f (fun e => e rfl) rfl
  · exact ev_t (by decide) (ev_f (fun e => e rfl) (ev_b (a := x) (by show am_vI (some (V 174 51)) = _; rw [h51]; rfl) rfl))
  · exact ev_t (by decide) (ev_t (by decide) (ev_f (fun e => e rfl) (ev_b (a := y) (by show am_vI (some (V 174 52)) = _; rw [h52]; rfl) rfl)))
  · exact ev_t (by decide) (ev_t (by decide) (ev_t (by decide) (ev_f (fun e => e rfl) (ev_b (a := z) (by show am_vI (some (V 174 53)) = _; rw [h53]; rfl) rfl))))
  · exact ev_t (by decide) (ev_t (by decide) (ev_t (by decide) (ev_t (by decide) (ev_f (fun e => e rfl) (ev_b (a := nI len) (by show am_vI (some (V 174 54)) = _; rw [h54]; rfl) rfl)))))
  · exact ev_t (by decide) (ev_t (by decide) (ev_t (by decide) (ev_t (by decide) (ev_t (by decide) (ev_f (fun e => e rfl) (ev_b (a := st.2.2.1) rfl rfl))))))
  · exact ev_t (by decide) (ev_t (by decide) (ev_t (by decide) (ev_t (by decide) (ev_t (by decide) (ev_t (by decide) (ev_b (a := st.2.2.2) rfl rfl))))))
/-! division by -1 -/
theorem dv_m1 (a : Int32) : a / (-1) = -a := by
  apply Int32.toInt_inj.mp
  rw [Int32.toInt_div, show (-1 : Int32).toInt = -1 by decide, Int32.toInt_neg, Int.tdiv_neg, Int.tdiv_one]
theorem rm_m1 (a : Int32) : a - a / (-1) * (-1) = 0 := by
  rw [dv_m1]
  rw [Int32.mul_neg, Int32.neg_mul, Int32.neg_neg, Int32.mul_one, Int32.sub_self]
set_option maxRecDepth 100000 in
set_option maxHeartbeats 4000000 in
theorem r_413 {V : Nat → Nat → Value} {I : Nat → Nat → Int32} {L : Nat → Nat → Int64} {R : Nat → Nat → Option Nat} {tl : am_H} {s : Nat} {a b : Int32} {D : Nat} {st : eSt} {g : Int32} {fr ph on : Nat → Int32} (hs : 10 ≤ s) (hs2 : s ≤ 16) : fm_413 (.ref 174) (nI s) a b (fx (gW V st D g) (gJ I fr ph on) L R ++ tl) = some (.inl (some (.int (twoV s a b st).1), (fx (gW V (twoV s a b st).2 D g) (gJ I fr ph on) L R ++ tl))) := by
  have e12 : ∀ t : Nat, (t = 13 ∨ t = 14) → fg_413_12 (.ref 174) (nI t) a b (fx (gW V st D g) (gJ I fr ph on) L R ++ tl) = some (.inl (some (.int (if b = 0 then (0, ((1, st.2) : eSt)) else if t = 13 then (a / b, st) else (a - a / b * b, st)).1), (fx (gW V (if b = 0 then (0, ((1, st.2) : eSt)) else if t = 13 then (a / b, st) else (a - a / b * b, st)).2 D g) (gJ I fr ph on) L R ++ tl))) := fun t ht => by
    unfold fg_413_12
    by_cases c : b = 0
    · rw [if_pos c]
      exact ev_f (fun e => e c) (ev_b (a := (fx (gW V ((1, st.2) : eSt) D g) (gJ I fr ph on) L R ++ tl)) (ev_p rfl rfl rfl rfl) rfl)
    · rw [if_neg c]
      refine ev_t c ?_
      unfold fg_413_23
      rcases ht with rfl | rfl
      · refine ev_f (by decide) (ev_f (by decide) (ev_f (by decide) (ev_t rfl ?_)))
        by_cases d : b = -1
        · subst d
          refine ev_f (fun e => e rfl) ?_
          rw [dv_m1]
          rfl
        · exact ev_t d (ev_t c rfl)
      · refine ev_f (by decide) (ev_f (by decide) (ev_f (by decide) (ev_f (by decide) (ev_t rfl ?_))))
        by_cases d : b = -1
        · subst d
          refine ev_f (fun e => e rfl) ?_
          rw [rm_m1]
          rfl
        · exact ev_t d (ev_t c rfl)
  rcases (by omega : s = 10 ∨ s = 11 ∨ s = 12 ∨ s = 13 ∨ s = 14 ∨ s = 15 ∨ s = 16) with rfl | rfl | rfl | rfl | rfl | rfl | rfl
  · unfold fm_413 fg_413_0 fg_413_23
    exact ev_f (by decide) (ev_t (by decide) (ev_t rfl rfl))
  · unfold fm_413 fg_413_0 fg_413_23
    exact ev_f (by decide) (ev_t (by decide) (ev_f (by decide) (ev_t rfl rfl)))
  · unfold fm_413 fg_413_0 fg_413_23
    exact ev_f (by decide) (ev_t (by decide) (ev_f (by decide) (ev_f (by decide) (ev_t rfl rfl))))
  · unfold fm_413 fg_413_0
    exact ev_t rfl (e12 13 (.inl rfl))
  · unfold fm_413 fg_413_0
    exact ev_f (by decide) (ev_f (fun e => e rfl) (e12 14 (.inr rfl)))
  · have e : twoV 15 a b st = ((if b ≤ a then 0 else 1), st) := rfl
    rw [e]
    unfold fm_413 fg_413_0 fg_413_23
    refine ev_f (by decide) (ev_t (by decide) (ev_f (by decide) (ev_f (by decide) (ev_f (by decide) (ev_f (by decide) (ev_f (by decide) (ev_t rfl ?_)))))))
    by_cases c : b ≤ a
    · rw [if_pos c, if_pos c]
      rfl
    · rw [if_neg c, if_neg c]
      rfl
  · have e : twoV 16 a b st = ((if ¬ a = b then 0 else 1), st) := rfl
    rw [e]
    unfold fm_413 fg_413_0 fg_413_23
    refine ev_f (by decide) (ev_t (by decide) (ev_f (by decide) (ev_f (by decide) (ev_f (by decide) (ev_f (by decide) (ev_f (by decide) (ev_f (by decide) ?_)))))))
    by_cases c : ¬ a = b
    · rw [if_pos c, if_pos c]
      rfl
    · rw [if_neg c, if_neg c]
      rfl
set_option maxRecDepth 100000 in
set_option maxHeartbeats 4000000 in
theorem r_411 {V : Nat → Nat → Value} {I : Nat → Nat → Int32} {L : Nat → Nat → Int64} {R : Nat → Nat → Option Nat} {tl : am_H} {len : Nat} {a : Int32} {D : Nat} {st : eSt} {g : Int32} {fr ph on : Nat → Int32} (h54 : V 174 54 = .int (nI len)) (hlen : len ≤ 8) : fm_411 (.ref 174) a (fx (gW V st D g) (gJ I fr ph on) L R ++ tl) = some (.inl (some (.int (oneV len (I 212) 8 a st).1), (fx (gW V (oneV len (I 212) 8 a st).2 D g) (gJ I fr ph on) L R ++ tl))) := by
  have e : oneV len (I 212) 8 a st = if a < 0 ∨ nI len ≤ a then (0, ((2, st.2) : eSt)) else (I 212 a.toNatClampNeg, st) := rfl
  rw [e]
  unfold fm_411 fg_411_0
  refine ev_b (a := nI len) (by show am_vI (some (V 174 54)) = _; rw [h54]; rfl) (ev_cI (pe_327 _ _ _ _) ?_)
  rcases dich a (n := len) (by omega) with hn | ⟨k, hk, rfl⟩
  · rw [if_pos hn, in_b (by omega) hn]
    exact ev_f (fun e => e rfl) (ev_b (a := (fx (gW V ((2, st.2) : eSt) D g) (gJ I fr ph on) L R ++ tl)) (ev_p rfl rfl rfl rfl) rfl)
  · rw [if_neg (show ¬ (nI k < 0 ∨ nI len ≤ nI k) from fun e => e.elim (nI_pos (by omega)) (nI_ge hk (by omega))), nI_clamp (by omega), in_n hk (by omega)]
    exact ev_t (by decide) (ev_b (a := Value.ref 212) rfl (ev_b (qa_212 (by omega)) rfl))
