/-! ===== scores: the calls ===== -/
theorem opBL_err {V : Nat → Nat → Value} {I : Nat → Nat → Int32} {L : Nat → Nat → Int64} {R : Nat → Nat → Option Nat} {tl : am_H} {w : Option am_O} {r : am_H → Option am_O} {vf : Value → Int64} {c : Int32} {b : Int64} (hc : c ≠ 0) (hw : w = some (.inl (some (.int c), (fx V I L R ++ tl)))) (hr : r (fx V I L R ++ tl) = some (.inl (some (.long b), fx (vup V 174 0 (.int c)) I L R ++ tl))) : opBL w r vf (fx (vup V 174 0 (.int c)) I L R ++ tl) := ⟨c, _, b, 0, hw, rfl, hr, rfl, rfl, fun e => absurd e hc⟩
theorem in_2 {q : Nat} (h : q < 2) : pv_327 (nI q).toInt64 0 1 = 1 := by
  rcases (by omega : q = 0 ∨ q = 1) with rfl | rfl <;> decide
theorem in_2n {a : Int32} (h : a < 0 ∨ nI 2 ≤ a) : pv_327 a.toInt64 0 1 = 0 := by
  have := in_b (a := a) (n := 2) (by omega) h
  rw [show (nI 2).toInt64 - 1 = 1 by decide] at this
  exact this
set_option maxRecDepth 100000 in
set_option maxHeartbeats 1600000 in
theorem c_139 {V : Nat → Nat → Value} {I : Nat → Nat → Int32} {L : Nat → Nat → Int64} {R : Nat → Nat → Option Nat} {tl : am_H} {q : Nat} (h : q < 2) : fm_139 (.ref 0) (nI q) (fx V I L R ++ tl) = some (.inl (none, (fx V I L R ++ tl))) := by
  unfold fm_139 fg_139_0
  exact ev_f (nI_pos (by omega)) (ev_t (nI_le (b := 1) (by omega) (by omega)) rfl)
set_option maxRecDepth 100000 in
set_option maxHeartbeats 1600000 in
theorem c_139n {V : Nat → Nat → Value} {I : Nat → Nat → Int32} {L : Nat → Nat → Int64} {R : Nat → Nat → Option Nat} {tl : am_H} {a : Int32} (h : a < 0 ∨ nI 2 ≤ a) : fm_139 (.ref 0) a (fx V I L R ++ tl) = some (.inr (0, (fx V I L R ++ (tl ++ [am_dummy])))) := by
  rw [← List.append_assoc]
  unfold fm_139 fg_139_0
  by_cases c : a < 0
  · exact ev_t c rfl
  · refine ev_f c (ev_f (fun e => ?_) rfl)
    have h2 := h.resolve_left c
    have h3 := Int32.le_trans h2 e
    exact absurd h3 (by decide)
set_option maxRecDepth 100000 in
set_option maxHeartbeats 1600000 in
theorem c_144 {V : Nat → Nat → Value} {I : Nat → Nat → Int32} {L : Nat → Nat → Int64} {R : Nat → Nat → Option Nat} {tl : am_H} {q : Nat} {x y : Int64} (hq : q < 2) (h4 : V 14 4 = .long x) (h5 : V 14 5 = .long y) : fm_144 (.ref 14) (nI q) (fx V I L R ++ tl) = some (.inl (some (.long (if q = 0 then x else y)), (fx V I L R ++ tl))) := by
  unfold fm_144 fg_144_0
  rcases (by omega : q = 0 ∨ q = 1) with rfl | rfl
  · exact ev_f (fun e => e rfl) (ev_b (rdL h4) rfl)
  · exact ev_t (by decide) (ev_b (rdL h5) rfl)
theorem keep_45 {V : Nat → Nat → Value} {I : Nat → Nat → Int32} {x y : Int64} : keep V (vup (vup V 14 4 (.long x)) 14 5 (.long y)) I I := ⟨fun a j hj => by
    by_cases c : a = 14
    · subst c
      have e : j = 1 := by
        have key : ∀ j, j ∈ vRel 14 → j = 1 := by decide
        exact key j hj
      subst e
      rfl
    · rw [vup_na c, vup_na c], fun _ _ => rfl, fun h => wt_l (wt_l h (by decide)) (by decide)⟩
theorem keep_0 {V : Nat → Nat → Value} {I : Nat → Nat → Int32} {x : Int32} : keep V (vup V 174 0 (.int x)) I I := ⟨fun a j hj => by
    by_cases c : a = 174
    · subst c
      exact vup_nj (fun e => by subst e; revert hj; decide)
    · exact vup_na c, fun _ _ => rfl, fun h => wt_i h (by decide)⟩
theorem cO_all {kd ln sz : Nat} {s v : Nat → Int32} {I : Nat → Nat → Int32} {m : Nat} (hs : sound kd ln sz s v) (hc : ∀ k, k < m → cOk I k) (lm : Nat) : ∃ Oc : Nat → Int32 × Nat × Int32, ∀ k, k < m → cO kd ln sz s v lm I k (Oc k) := by
  have h : ∀ k, ∃ o, k < m → cO kd ln sz s v lm I k o := fun k => by
    by_cases c : k < m
    · obtain ⟨o, ho⟩ := cO_ex hs (hc k c) lm
      exact ⟨o, fun _ => ho⟩
    · exact ⟨(0, 0, 0), fun h => absurd h c⟩
  exact ⟨fun k => Classical.choose (h k), fun k hk => Classical.choose_spec (h k) hk⟩
theorem h01 (a : Int32) : ((if a = 0 then 0 else 1 : Int32) = 0) ∨ ((if a = 0 then 0 else 1 : Int32) = 1) := by
  by_cases c : a = 0
  · rw [if_pos c]; exact .inl rfl
  · rw [if_neg c]; exact .inr rfl
/-! score(b, hidden, part) -/
set_option maxRecDepth 100000 in
set_option maxHeartbeats 1600000 in
theorem u_22 {V : Nat → Nat → Value} {I : Nat → Nat → Int32} {L : Nat → Nat → Int64} {R : Nat → Nat → Option Nat} {tl : am_H} {n p j : Nat} (hr : rel V I L R tl n p) (hm : room tl n p j) {N : Nat} (hN : 5000 < N) (a1 h a3 : Int32) (hh : h = 0 ∨ h = 1) : ∃ h', opBL (fm_137 N (.ref 0) a1 h a3 (.ref 268) (fx V I L R ++ tl)) (fun h1 => fm_427 N (.ref 174) a1 h a3 h1) vfI h' ∧ invW (j + 1) h' := by
  obtain ⟨b1, b2, b3⟩ := hr.1
  obtain ⟨m, hc⟩ := csK_r hr
  rcases dich a1 (n := n) (by omega) with hn | ⟨b, hb, rfl⟩
  · refine ⟨_, opBL_err (c := 1) (b := 0) (by decide) (tl := tl ++ [am_dummy]) ?_ ?_, inv_mk (rel_thr 1 (rel_dum hr)) (room_dum hm)⟩
    · have e : fm_138 N (.ref 0) a1 h a3 (fx V I L R ++ tl) = some (.inr (2, (fx V I L R ++ (tl ++ [am_dummy])))) := by
        unfold fm_138 fg_138_0
        refine ev_i rfl ?_
        rw [c_63n b2 hn]
        rfl
      unfold fm_137 fg_137_0
      refine ev_i rfl ?_
      rw [e]
      rfl
    · show fm_427 N (.ref 174) a1 h a3 (fx V I L R ++ (tl ++ [am_dummy])) = _
      unfold fm_427 fg_427_0
      refine ev_i rfl (ev_cI (r_358n b3 b1 hn) (ev_f (fun e => e rfl) ?_))
      unfold fg_427_28
      exact ev_b qp_174_0 (ev_b (a := 1) rfl (ev_f (by decide) rfl))
  · obtain ⟨kd, ln, sz, a, it, lm, f, q1, q2, q3, q4, q5, q6, q7, l0, -, l6, lo, hi⟩ := birth_ld hr hb
    rcases dich a3 (n := 2) (by omega) with hn | ⟨q, hq, rfl⟩
    · refine ⟨_, opBL_err (c := 2) (b := 0) (by decide) (tl := tl ++ [am_dummy]) ?_ ?_, inv_mk (rel_thr 2 (rel_dum hr)) (room_dum hm)⟩
      · have e : fm_138 N (.ref 0) (nI b) h a3 (fx V I L R ++ tl) = some (.inr (0, (fx V I L R ++ (tl ++ [am_dummy])))) := by
          unfold fm_138 fg_138_0
          refine ev_i rfl (ev_cR (c_63 b2 b1 hb q4) rfl (ev_i rfl ?_))
          rw [c_139n hn]
          rfl
        unfold fm_137 fg_137_0
        refine ev_i rfl ?_
        rw [e]
        rfl
      · show fm_427 N (.ref 174) (nI b) h a3 (fx V I L R ++ (tl ++ [am_dummy])) = _
        unfold fm_427 fg_427_0
        refine ev_i rfl (ev_cI (r_358 b3 b1 hb) (ev_t (by decide) (ev_cI (pe_327 _ _ _ _) ?_)))
        rw [in_2n hn]
        refine ev_f (fun e => e rfl) ?_
        unfold fg_427_28
        exact ev_b qp_174_0 (ev_b (a := 2) rfl (ev_f (by decide) rfl))
    · obtain ⟨Oc, hO⟩ := cO_all q7 hc.2.2.2.2.2 lm
      obtain ⟨W1, J1, e1, f1⟩ := c_140 (L := L) (R := R) (N := N) (h := h) (by omega) (rel_w hr) q5 (tl_ne a it) q6 q7 (Nat.le_refl _) (sz_1000 q7.2.1) l0 lo hi hh hc hO
      have k1 := frG_k f1
      have hw := wsN_le (h := h) hc.2.2.1 hc.2.2.2.2.2
      have hct := ctN_le (h := h) (Oc := Oc) hc.2.2.1 hc.2.2.2.2.2
      have e2 := c_142 (V := W1) (I := J1) (L := L) (R := R) (tl := tl) (N := N) (by omega) hh (csK_c k1 hc)
      have e3 := c_143 (V := W1) (I := J1) (L := L) (R := R) (tl := tl) (N := N) (d := wsN I h m) (x := lN (ctN I h Oc m)) (t := (ctN I h Oc m : Int)) (by omega) (lN_t (by omega)) (by omega) (by omega) (by omega) (by omega)
      have k2 := keep_t k1 (keep_45 (V := W1) (I := J1) (x := Int64.ofInt ((ctN I h Oc m : Int).tdiv (gdN (ctN I h Oc m : Int) (wsN I h m)))) (y := lN (wsN I h m / gdN (ctN I h Oc m : Int) (wsN I h m))))
      generalize hX : Int64.ofInt ((ctN I h Oc m : Int).tdiv (gdN (ctN I h Oc m : Int) (wsN I h m))) = X at e3 k2
      generalize hY : lN (wsN I h m / gdN (ctN I h Oc m : Int) (wsN I h m)) = Y at e3 k2
      have e4 := c_144 (V := vup (vup W1 14 4 (.long X)) 14 5 (.long Y)) (I := J1) (L := L) (R := R) (tl := tl) hq ((vup_nj (by decide)).trans vup_eq) vup_eq
      generalize vup (vup W1 14 4 (.long X)) 14 5 (.long Y) = W2 at e3 e4 k2
      have hr4 : rel (vup W2 174 0 (.int 0)) J1 (outL L (if q = 0 then X else Y)) R tl n p := rel_thr 0 (rel_ol _ (rel_k k2 hr))
      have k4 := keep_t k2 (keep_0 (V := W2) (I := J1) (x := 0))
      obtain ⟨e5, g5⟩ := r_ldb (L := outL L (if q = 0 then X else Y)) (R := R) (tl := tl) (N := N) (b := b) (by omega) (by omega) k4 q1 q2 q3 q7 l6 lo hi
      have k5 := keep_t k4 (dk_k (V := vup W2 174 0 (.int 0)) (I := J1) (kd := kd) (ln := ln) (sz := sz) (b := b))
      obtain ⟨W6, J6, e6, y1, y2, f6⟩ := r_428 (V := dkV (vup W2 174 0 (.int 0)) kd ln sz) (I := dkI J1 b sz) (L := outL L (if q = 0 then X else Y)) (R := R) (tl := tl) (N := N) (h := h) hN hO (k5.2.2 (rel_w hr)) g5 (csK_c k5 hc)
      rw [hX] at y1
      rw [hY] at y2
      refine ⟨_, opBL_g (v := if q = 0 then X else Y) (W := W2) (J := J1) (M := outL L (if q = 0 then X else Y)) (R1 := R) (t1 := tl) (W' := W6) (J' := J6) (M' := outL L (if q = 0 then X else Y)) (R2 := R) (t2 := tl) ?_ ?_ ?_ outL_at, inv_mk (rel_ol _ (rel_k (keep_t k5 (frJ_k f6)) hr)) (room_up hm)⟩
      · have e : fm_138 N (.ref 0) (nI b) h (nI q) (fx V I L R ++ tl) = some (.inl (some (.long (if q = 0 then X else Y)), fx W2 J1 L R ++ tl)) := by
          unfold fm_138 fg_138_0
          exact ev_i rfl (ev_cR (c_63 b2 b1 hb q4) rfl (ev_i rfl (ev_cV (c_139 hq) (ev_b (a := Value.ref 14) rfl (ev_b (a := Value.ref 14) rfl (ev_i rfl (ev_cL e1 (ev_b (a := Value.ref 14) rfl (ev_i rfl (ev_cL e2 (ev_i rfl (ev_cV e3 (ev_b (a := Value.ref 14) rfl (ev_i rfl (ev_cL e4 rfl)))))))))))))))
        unfold fm_137 fg_137_0
        refine ev_i rfl ?_
        rw [e]
        exact ev_b out_s rfl
      · show fm_427 N (.ref 174) (nI b) h (nI q) (fx W2 J1 (outL L (if q = 0 then X else Y)) R ++ tl) = _
        have t1 : W2 174 1 = .int (nI n) := (k2.1 174 1 (by decide)).trans b3
        unfold fm_427 fg_427_0
        refine ev_i rfl (ev_cI (r_358 t1 b1 hb) (ev_t (by decide) (ev_cI (pe_327 _ _ _ _) ?_)))
        rw [in_2 hq]
        refine ev_t (by decide) ?_
        unfold fg_427_28
        refine ev_b qp_174_0 (ev_b (a := 0) rfl (ev_t (by decide) (ev_i rfl (ev_cV e5 (ev_i rfl (ev_cV e6 ?_))))))
        rcases (by omega : q = 0 ∨ q = 1) with rfl | rfl
        · exact ev_f (fun e => e rfl) (ev_b (rdL y1) rfl)
        · exact ev_t (by decide) (ev_b (rdL y2) rfl)
      · rw [f6.1 174 0 (fun _ => by decide), dk_o (fun _ => by decide)]
        exact vup_eq
theorem ofI_N {c g : Nat} : Int64.ofInt ((c : Int).tdiv (g : Int)) = lN (c / g) := by
  rw [← Int.ofNat_tdiv]
  rfl
theorem sbL {a b : Nat} (ha : a < 2 ^ 60) (hb : b < 2 ^ 60) : (lN a - lN b).toInt = (a : Int) - (b : Int) := by
  rw [Int64.toInt_sub, lN_t (by omega), lN_t (by omega)]
  exact bm64 (by omega) (by omega)
/-- the difference of two reduced fractions, reduced -/
theorem df_eq {c1 w1 c2 w2 : Nat} (h1 : 0 < w1) (h2 : 0 < w2) : ((c1 / Nat.gcd c1 w1 * (w2 / Nat.gcd c2 w2) : Nat) : Int) - ((c2 / Nat.gcd c2 w2 * (w1 / Nat.gcd c1 w1) : Nat) : Int) = (((c1 / Nat.gcd c1 w1 * (w2 / Nat.gcd c2 w2) : Nat) : Int) - ((c2 / Nat.gcd c2 w2 * (w1 / Nat.gcd c1 w1) : Nat) : Int)) ∧ 0 < w1 / Nat.gcd c1 w1 * (w2 / Nat.gcd c2 w2) ∧ (((c1 * w2 : Nat) : Int) - ((c2 * w1 : Nat) : Int)) * ((w1 / Nat.gcd c1 w1 * (w2 / Nat.gcd c2 w2) : Nat) : Int) = (((c1 / Nat.gcd c1 w1 * (w2 / Nat.gcd c2 w2) : Nat) : Int) - ((c2 / Nat.gcd c2 w2 * (w1 / Nat.gcd c1 w1) : Nat) : Int)) * ((w2 * w1 : Nat) : Int) := by
  have g1 : 0 < Nat.gcd c1 w1 := Nat.gcd_pos_of_pos_right _ h1
  have g2 : 0 < Nat.gcd c2 w2 := Nat.gcd_pos_of_pos_right _ h2
  have e1 : c1 = c1 / Nat.gcd c1 w1 * Nat.gcd c1 w1 := (Nat.div_mul_cancel (Nat.gcd_dvd_left _ _)).symm
  have e2 : w1 = w1 / Nat.gcd c1 w1 * Nat.gcd c1 w1 := (Nat.div_mul_cancel (Nat.gcd_dvd_right _ _)).symm
  have e3 : c2 = c2 / Nat.gcd c2 w2 * Nat.gcd c2 w2 := (Nat.div_mul_cancel (Nat.gcd_dvd_left _ _)).symm
  have e4 : w2 = w2 / Nat.gcd c2 w2 * Nat.gcd c2 w2 := (Nat.div_mul_cancel (Nat.gcd_dvd_right _ _)).symm
  generalize Nat.gcd c1 w1 = g at *
  generalize Nat.gcd c2 w2 = k at *
  generalize c1 / g = a at *
  generalize w1 / g = b at *
  generalize c2 / k = c at *
  generalize w2 / k = d at *
  subst e1 e2 e3 e4
  refine ⟨rfl, Nat.mul_pos (Nat.pos_of_mul_pos_right h1) (Nat.pos_of_mul_pos_right h2), ?_⟩
  rw [Int.sub_mul, Int.sub_mul]
  congr 1
  · norm_cast
    ac_rfl
  · norm_cast
    ac_rfl
