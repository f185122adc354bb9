/-! ===== running and judging: the calls ===== -/
/-- an answer without a throw -/
theorem opBI_g {W W' : Nat → Nat → Value} {J J' : Nat → Nat → Int32} {M M' : Nat → Nat → Int64} {R1 R2 : Nat → Nat → Option Nat} {t1 t2 : am_H} {w : Option am_O} {r : am_H → Option am_O} {v : Int32} (hw : w = some (.inl (some (.int 0), fx W J M R1 ++ t1))) (hr : r (fx W J M R1 ++ t1) = some (.inl (some (.int v), fx W' J' M' R2 ++ t2))) (h0 : W' 174 0 = .int 0) (hL : M' 268 0 = v.toInt64) : opBI w r vfI (fx W' J' M' R2 ++ t2) := ⟨0, _, v, v.toInt64, hw, rfl, hr, rfl, by show am_vI (some (W' 174 0)) = _; rw [h0]; rfl, fun _ => ⟨(ev_aL (f := M' 268) (n := 1) rfl rfl).trans (by rw [show (0 : Int32).toNatClampNeg = 0 from rfl, hL]), rfl⟩⟩
theorem opBL_g {W W' : Nat → Nat → Value} {J J' : Nat → Nat → Int32} {M M' : Nat → Nat → Int64} {R1 R2 : Nat → Nat → Option Nat} {t1 t2 : am_H} {w : Option am_O} {r : am_H → Option am_O} {v : Int64} (hw : w = some (.inl (some (.int 0), fx W J M R1 ++ t1))) (hr : r (fx W J M R1 ++ t1) = some (.inl (some (.long v), fx W' J' M' R2 ++ t2))) (h0 : W' 174 0 = .int 0) (hL : M' 268 0 = v) : opBL w r vfI (fx W' J' M' R2 ++ t2) := ⟨0, _, v, v, hw, rfl, hr, rfl, by show am_vI (some (W' 174 0)) = _; rw [h0]; rfl, fun _ => ⟨(ev_aL (f := M' 268) (n := 1) rfl rfl).trans (by rw [show (0 : Int32).toNatClampNeg = 0 from rfl, hL]), rfl⟩⟩
theorem outL_at {L : Nat → Nat → Int64} {x : Int64} : outL L x 268 0 = x := rfl
set_option maxRecDepth 100000 in
set_option maxHeartbeats 1600000 in
/-- all but the answer of the last run -/
theorem rel_to {V : Nat → Nat → Value} {I : Nat → Nat → Int32} {L : Nat → Nat → Int64} {R : Nat → Nat → Option Nat} {tl : am_H} {W : Nat → Nat → Value} {J : Nat → Nat → Int32} {n p : Nat} (k : ∀ a j, j ∈ vRel a → ¬ (a = 0 ∧ (j = 12 ∨ j = 13)) → ¬ (a = 174 ∧ (j = 56 ∨ j = 57)) → W a j = V a j) (e : ∀ y, y ∈ iRel → J y = I y) (w : wt W) (t : rTo W) (h : rel V I L R tl n p) : rel W J L R tl n p := by
  obtain ⟨z1, z2, z3, z4, z5, z6, z7, z8, z9, z10, z11, z12, zw⟩ := h
  obtain ⟨x, y, t1, t2, t3, t4⟩ := t
  have h' : rel (vup (vup (vup (vup V 0 12 (.int x)) 174 56 (.int x)) 0 13 (.int y)) 174 57 (.int y)) I L R tl n p := ⟨z1, z2, z3, z4, z5, z6, z7, ⟨x, y, rfl, rfl, rfl, rfl⟩, z9, z10, z11, z12, wt_i (wt_i (wt_i (wt_i zw (by decide)) (by decide)) (by decide)) (by decide)⟩
  refine rel_c (fun a j hj => ?_) e (fun _ _ => rfl) w h'
  by_cases c0 : a = 0
  · subst c0
    by_cases c12 : j = 12
    · subst c12; exact t1
    · by_cases c13 : j = 13
      · subst c13; exact t3
      · rw [k 0 j hj (fun e => by omega) (fun e => by omega), vup_na (by decide), vup_nj c13, vup_na (by decide), vup_nj c12]
  · by_cases c174 : a = 174
    · subst c174
      by_cases c12 : j = 56
      · subst c12; exact t2
      · by_cases c13 : j = 57
        · subst c13; exact t4
        · rw [k 174 j hj (fun e => by omega) (fun e => by omega), vup_nj c13, vup_na (by decide), vup_nj c12, vup_na (by decide)]
    · rw [k a j hj (fun e => c0 e.1) (fun e => c174 e.1), vup_na c174, vup_na c0, vup_na c174, vup_na c0]
/-- a birth, as both sides take it up -/
theorem birth_ld {V : Nat → Nat → Value} {I : Nat → Nat → Int32} {L : Nat → Nat → Int64} {R : Nat → Nat → Option Nat} {tl : am_H} {n p b : Nat} (hr : rel V I L R tl n p) (hb : b < n) : ∃ (kd ln sz a it lm : Nat) (f : Nat → Int32), I 175 b = nI kd ∧ I 176 b = nI sz ∧ I 177 b = nI ln ∧ R 1 b = some (269 + a) ∧ prA V I tl (269 + a) (269 + it) kd ln sz (sz * wdN kd) f ∧ itm kd (fun k => I 184 (60 * b + k)) (fun k => I 185 (60 * b + k)) sz f ∧ sound kd ln sz (fun k => I 184 (60 * b + k)) (fun k => I 185 (60 * b + k)) ∧ V 16 0 = .int (nI lm) ∧ V 27 0 = .int (nI lm) ∧ I 206 0 = nI lm ∧ 10 ≤ lm ∧ lm ≤ 2000 := by
  obtain ⟨kd, ln, sz, a, it, f, q1, q2, q3, q4, q5, q6, q7⟩ := bOk_pg (V := V) (I := I) (L := L) (R := R) (tl := tl) (hr.2.1 b hb)
  obtain ⟨lm, b1, c1, d1, e1, h1, h2, -, -, -, -, -, h3, h4, -, h5, -⟩ := hr.2.2.2.2.2.1
  exact ⟨kd, ln, sz, a, it, lm, f, q1, q2, q3, q4, prA_tl q5, q6, q7, h3, h4, h5, h1, h2⟩
theorem tl_ne (a it : Nat) : 269 + a ≠ 16 ∧ 269 + a ≠ 17 ∧ 269 + it ≠ 18 ∧ 269 + it ≠ 25 ∧ 269 + it ≠ 26 := ⟨by omega, by omega, by omega, by omega, by omega⟩
set_option maxRecDepth 100000 in
set_option maxHeartbeats 1600000 in
/-- the class takes a birth up -/
theorem c_ldb {V : Nat → Nat → Value} {I : Nat → Nat → Int32} {L : Nat → Nat → Int64} {R : Nat → Nat → Option Nat} {tl : am_H} {N kd ln sz a it lm : Nat} {f s v : Nat → Int32} (hN : 100 < N) (q5 : prA V I tl (269 + a) (269 + it) kd ln sz (sz * wdN kd) f) (q6 : itm kd s v sz f) (q7 : sound kd ln sz s v) (h0 : V 16 0 = .int (nI lm)) (hlo : 10 ≤ lm) (hhi : lm ≤ 2000) : ∃ W J, fm_115 N (.ref 16) (.ref (269 + a)) (fx V I L R ++ tl) = some (.inl (none, fx W J L R ++ tl)) ∧ ldC W J tl (269 + a) (269 + it) kd ln sz (sz * wdN kd) f s v lm ∧ frL V W I J := c_115 hN q5 (tl_ne a it) q6 q7 (Nat.le_refl _) (sz_1000 q7.2.1) h0 hlo hhi
theorem dk_o {V : Nat → Nat → Value} {kd ln sz a j : Nat} (h : a = 174 → j ≠ 13 ∧ j ≠ 14 ∧ j ≠ 15) : dkV V kd ln sz a j = V a j := by
  unfold dkV
  by_cases c : a = 174
  · obtain ⟨h1, h2, h3⟩ := h c
    subst c
    rw [vup_nj h3, vup_nj h2, vup_nj h1]
  · rw [vup_na c, vup_na c, vup_na c]
theorem dkI_o {I : Nat → Nat → Int32} {b sz y : Nat} (h1 : y ≠ 186) (h2 : y ≠ 187) : dkI I b sz y = I y := (iup_na h2).trans (iup_na h1)
theorem vr174d : ∀ j, j ∈ vRel 174 → j ≠ 13 ∧ j ≠ 14 ∧ j ≠ 15 := by decide
theorem dk_k {V : Nat → Nat → Value} {I : Nat → Nat → Int32} {kd ln sz b : Nat} : keep V (dkV V kd ln sz) I (dkI I b sz) := ⟨fun a j hj => dk_o (fun e => by subst e; exact vr174d j hj), fun y hy => dkI_o (fun e => by subst e; revert hy; decide) (fun e => by subst e; revert hy; decide), fun h => wt_i (wt_i (wt_i h (by decide)) (by decide)) (by decide)⟩
set_option maxRecDepth 100000 in
set_option maxHeartbeats 1600000 in
/-- the reference lays a birth on its desk -/
theorem r_ldb {V : Nat → Nat → Value} {I : Nat → Nat → Int32} {L : Nat → Nat → Int64} {R : Nat → Nat → Option Nat} {tl : am_H} {W : Nat → Nat → Value} {J : Nat → Nat → Int32} {N b kd ln sz lm : Nat} (hN : 100 < N) (hb : b < 600) (k : keep V W I J) (q1 : I 175 b = nI kd) (q2 : I 176 b = nI sz) (q3 : I 177 b = nI ln) (q7 : sound kd ln sz (fun k => I 184 (60 * b + k)) (fun k => I 185 (60 * b + k))) (h6 : I 206 0 = nI lm) (hlo : 10 ≤ lm) (hhi : lm ≤ 2000) : fm_359 N (.ref 174) (nI b) (fx W J L R ++ tl) = some (.inl (none, fx (dkV W kd ln sz) (dkI J b sz) L R ++ tl)) ∧ ldR (dkV W kd ln sz) (dkI J b sz) kd ln sz (fun k => I 184 (60 * b + k)) (fun k => I 185 (60 * b + k)) lm := by
  have e := fun y hy => k.2.1 y hy
  refine ⟨r_359 hN hb q7.2.1 (by rw [e 175 (by decide)]; exact q1) (by rw [e 176 (by decide)]; exact q2) (by rw [e 177 (by decide)]; exact q3), ?_, ?_, fun _ => vup_eq, fun i hi => ⟨?_, ?_⟩, q7, ?_, hlo, hhi⟩
  · exact (vup_nj (by decide)).trans ((vup_nj (by decide)).trans vup_eq)
  · exact (vup_nj (by decide)).trans vup_eq
  · show ldr (J 186) (J 184) b sz i = _
    rw [ldr_at hi, e 184 (by decide)]
  · show ldr (J 187) (J 185) b sz i = _
    rw [ldr_at hi, e 185 (by decide)]
  · rw [dkI_o (by decide) (by decide), e 206 (by decide)]
    exact h6
set_option maxRecDepth 100000 in
set_option maxHeartbeats 1600000 in
theorem c_128 {V : Nat → Nat → Value} {I : Nat → Nat → Int32} {L : Nat → Nat → Int64} {R : Nat → Nat → Option Nat} {tl : am_H} {f x y : Int32} (h1 : V 16 1 = .int f) (h2 : V 16 2 = .int y) (h3 : V 16 3 = .int x) : fm_128 (.ref 0) (fx V I L R ++ tl) = some (.inl (some (.int f), fx (vup (vup V 0 12 (.int x)) 0 13 (.int y)) I L R ++ tl)) := by
  unfold fm_128 fg_128_0
  exact ev_b (a := Value.ref 14) rfl (ev_b (a := Value.ref 16) rfl (ev_b (rdI h3) (ev_b qp_0_12 (ev_b (a := Value.ref 14) rfl (ev_b (a := Value.ref 16) rfl (ev_b (a := y) (by show am_vI (some (V 16 2)) = _; rw [h2]; rfl) (ev_b qp_0_13 (ev_b (a := Value.ref 14) rfl (ev_b (a := Value.ref 16) rfl (ev_b (a := f) (by show am_vI (some (V 16 1)) = _; rw [h1]; rfl) rfl))))))))))
set_option maxRecDepth 100000 in
set_option maxHeartbeats 1600000 in
theorem r_419 {V : Nat → Nat → Value} {I : Nat → Nat → Int32} {L : Nat → Nat → Int64} {R : Nat → Nat → Option Nat} {tl : am_H} {f x y : Int32} (h1 : V 174 48 = .int f) (h2 : V 174 50 = .int y) (h3 : V 174 49 = .int x) : fm_419 (.ref 174) (fx V I L R ++ tl) = some (.inl (some (.int f), fx (vup (vup V 174 56 (.int x)) 174 57 (.int y)) I L R ++ tl)) := by
  unfold fm_419 fg_419_0
  exact ev_b (rdI h3) (ev_b qp_174_56 (ev_b (a := y) (by show am_vI (some (V 174 50)) = _; rw [h2]; rfl) (ev_b qp_174_57 (ev_b (a := f) (by show am_vI (some (V 174 48)) = _; rw [h1]; rfl) rfl))))
/-! run(b, k) -/
set_option maxRecDepth 100000 in
set_option maxHeartbeats 1600000 in
theorem u_17 {V : Nat → Nat → Value} {I : Nat → Nat → Int32} {L : Nat → Nat → Int64} {R : Nat → Nat → Option Nat} {tl : am_H} {n p j : Nat} (hr : rel V I L R tl n p) (hm : room tl n p j) {N : Nat} (hN : 5000 < N) (a1 a2 : Int32) : ∃ h', opBI (fm_113 N (.ref 0) a1 a2 (.ref 268) (fx V I L R ++ tl)) (fun h1 => fm_401 N (.ref 174) a1 a2 h1) vfI h' ∧ invW (j + 1) h' := by
  obtain ⟨b1, b2, b3⟩ := hr.1
  obtain ⟨m, m1, m2, m3, m4⟩ := hr.2.2.2.1
  rcases dich a1 (n := n) (by omega) with hn | ⟨b, hb, rfl⟩
  · refine ⟨_, opBI_err (c := 1) (b := 0) (by decide) (tl := tl ++ [am_dummy]) ?_ ?_, inv_mk (rel_thr 1 (rel_dum hr)) (room_dum hm)⟩
    · have e : fm_114 N (.ref 0) a1 a2 (fx V I L R ++ tl) = some (.inr (2, (fx V I L R ++ (tl ++ [am_dummy])))) := by
        unfold fm_114 fg_114_0
        refine ev_i rfl ?_
        rw [c_63n b2 hn]
        rfl
      unfold fm_113 fg_113_0
      refine ev_i rfl ?_
      rw [e]
      rfl
    · show fm_401 N (.ref 174) a1 a2 (fx V I L R ++ (tl ++ [am_dummy])) = _
      unfold fm_401 fg_401_0
      refine ev_i rfl (ev_cI (r_358n b3 b1 hn) (ev_t rfl ?_))
      unfold fg_401_21 fg_401_22
      exact ev_b qp_174_0 (ev_b (a := 1) rfl (ev_f (by decide) rfl))
  · obtain ⟨kd, ln, sz, a, it, lm, f, q1, q2, q3, q4, q5, q6, q7, l0, -, l6, lo, hi⟩ := birth_ld hr hb
    rcases dich a2 (n := m) (by omega) with hn | ⟨k, hk, rfl⟩
    · refine ⟨_, opBI_err (c := 1) (b := 0) (by decide) (tl := tl ++ [am_dummy]) ?_ ?_, inv_mk (rel_thr 1 (rel_dum hr)) (room_dum hm)⟩
      · have e : fm_114 N (.ref 0) (nI b) a2 (fx V I L R ++ tl) = some (.inr (2, (fx V I L R ++ (tl ++ [am_dummy])))) := by
          unfold fm_114 fg_114_0
          refine ev_i rfl (ev_cR (c_63 b2 b1 hb q4) rfl (ev_i rfl ?_))
          rw [c_108n m2 hn]
          rfl
        unfold fm_113 fg_113_0
        refine ev_i rfl ?_
        rw [e]
        rfl
      · show fm_401 N (.ref 174) (nI b) a2 (fx V I L R ++ (tl ++ [am_dummy])) = _
        unfold fm_401 fg_401_0
        refine ev_i rfl (ev_cI (r_358 b3 b1 hb) (ev_f (by decide) (ev_i rfl (ev_cI (r_398n m3 m1 hn) (ev_t rfl ?_)))))
        unfold fg_401_21 fg_401_22
        exact ev_b qp_174_0 (ev_b (a := 1) rfl (ev_f (by decide) rfl))
    · obtain ⟨o, ho⟩ := cO_ex q7 (m4 k hk) lm
      obtain ⟨W1, J1, e1, g1, f1⟩ := c_ldb (L := L) (R := R) (N := N) (by omega) q5 q6 q7 l0 lo hi
      have k1 := frL_k f1
      have w1 := k1.2.2 (rel_w hr)
      obtain ⟨W2, J2, e2, x1, x2, x3, f2⟩ := c_pf (L := L) (R := R) (N := N) (by omega) w1 g1 (by omega) (cOk_c (keep_c k1).1 (keep_c k1).2 (m4 k hk)) (cO_c (keep_c k1).2 ho)
      have k2 := keep_t k1 (frP_k f2)
      have e3 := c_128 (V := W2) (I := J2) (L := L) (R := R) (tl := tl) x1 x2 x3
      generalize hW3 : vup (vup W2 0 12 (.int o.2.2)) 0 13 (.int (nI o.2.1)) = W3 at e3
      have v3 : ∀ a j, a ≠ 0 → W3 a j = W2 a j := fun a j h => by rw [← hW3, vup_na h, vup_na h]
      have w3 : wt W3 := by rw [← hW3]; exact wt_i (wt_i (k2.2.2 (rel_w hr)) (by decide)) (by decide)
      -- the reference
      have k4 : ∀ a j, j ∈ vRel a → a ≠ 0 → vup W3 174 0 (.int 0) a j = V a j := fun a j hj ha => by
        by_cases c : a = 174
        · subst c
          rw [vup_nj (fun e => by subst e; revert hj; decide), v3 _ _ (by decide)]
          exact k2.1 174 j hj
        · rw [vup_na c, v3 a j ha]
          exact k2.1 a j hj
      have w4 : wt (vup W3 174 0 (.int 0)) := wt_i w3 (by decide)
      obtain ⟨e5, g5⟩ := r_ldb (V := vup W3 174 0 (.int 0)) (W := vup W3 174 0 (.int 0)) (I := I) (J := J2) (L := outL L o.1.toInt64) (R := R) (tl := tl) (N := N) (b := b) (by omega) (by omega) ⟨fun _ _ _ => rfl, k2.2.1, id⟩ q1 q2 q3 q7 l6 lo hi
      have i5 : ∀ y, 197 ≤ y → y ≤ 204 → dkI J2 b sz y = I y := fun y h1 h2 => by
        rw [dkI_o (by omega) (by omega)]
        exact (keep_c k2).2 y h1 h2
      obtain ⟨W6, J6, e6, y1, y2, y3, f6⟩ := r_ask (V := dkV (vup W3 174 0 (.int 0)) kd ln sz) (I := dkI J2 b sz) (L := outL L o.1.toInt64) (R := R) (tl := tl) (N := N) (k := k) (o := o) hN ((dk_k (I := J2) (b := b)).2.2 w4) g5 (by omega) (cO_c i5 ho)
      have e7 := r_419 (V := W6) (I := J6) (L := outL L o.1.toInt64) (R := R) (tl := tl) y1 y2 y3
      refine ⟨_, opBI_g (v := o.1) (W := W3) (J := J2) (M := outL L o.1.toInt64) (R1 := R) (t1 := tl) (W' := vup (vup W6 174 56 (.int o.2.2)) 174 57 (.int (nI o.2.1))) (J' := J6) (M' := outL L o.1.toInt64) (R2 := R) (t2 := tl) ?_ ?_ ?_ outL_at, inv_mk (rel_to (V := V) (I := I) (fun a j hj h0 h174 => ?_) (fun y hy => ?_) ?_ ⟨o.2.2, nI o.2.1, ?_, ?_, ?_, ?_⟩ (rel_ol _ hr)) (room_up hm)⟩
      · have e : fm_114 N (.ref 0) (nI b) (nI k) (fx V I L R ++ tl) = some (.inl (some (.int o.1), fx W3 J2 L R ++ tl)) := by
          unfold fm_114 fg_114_0
          exact ev_i rfl (ev_cR (c_63 b2 b1 hb q4) rfl (ev_i rfl (ev_cV (c_108 m2 m1 hk) (ev_b (a := Value.ref 14) rfl (ev_b (a := Value.ref 16) rfl (ev_i rfl (ev_cV e1 (ev_b (a := Value.ref 14) rfl (ev_b (a := Value.ref 16) rfl (ev_b (a := Value.ref 14) rfl (ev_b (a := Value.ref 15) rfl (ev_i rfl (ev_cV e2 (ev_i rfl (ev_cI e3 rfl)))))))))))))))
        unfold fm_113 fg_113_0
        refine ev_i rfl ?_
        rw [e]
        exact ev_b out_s rfl
      · show fm_401 N (.ref 174) (nI b) (nI k) (fx W3 J2 (outL L o.1.toInt64) R ++ tl) = _
        have t1 : W3 174 1 = .int (nI n) := (v3 _ _ (by decide)).trans ((k2.1 174 1 (by decide)).trans b3)
        have t31 : W3 174 31 = .int (nI m) := (v3 _ _ (by decide)).trans ((k2.1 174 31 (by decide)).trans m3)
        unfold fm_401 fg_401_0
        refine ev_i rfl (ev_cI (r_358 t1 b1 hb) (ev_f (by decide) (ev_i rfl (ev_cI (r_398 t31 m1 hk) (ev_f (by decide) ?_)))))
        unfold fg_401_22
        exact ev_b qp_174_0 (ev_b (a := 0) rfl (ev_t (by decide) (ev_i rfl (ev_cV e5 (ev_i rfl (ev_cV (by
          have e4 := r_402 (V := dkV (vup W3 174 0 (.int 0)) kd ln sz) (I := dkI J2 b sz) (L := outL L o.1.toInt64) (R := R) (tl := tl) (N := N) (k := k) (by omega) (by omega)
          exact e4) (ev_i rfl (ev_cV e6 (ev_i rfl (ev_cI e7 rfl))))))))))
      · rw [vup_nj (by decide), vup_nj (by decide), f6.1 174 0 (fun _ => by decide), dk_o (fun _ => by decide)]
        exact vup_eq
      · by_cases c : a = 174
        · subst c
          rw [vup_nj (fun e => h174 ⟨rfl, .inr e⟩), vup_nj (fun e => h174 ⟨rfl, .inl e⟩), (frQ_k f6).1 174 j hj, (dk_k (I := J2) (b := b) (sz := sz)).1 174 j hj]
          exact k4 174 j hj (by decide)
        · rw [vup_na c, vup_na c, (frQ_k f6).1 a j hj, (dk_k (I := J2) (b := b) (sz := sz)).1 a j hj]
          by_cases c0 : a = 0
          · subst c0
            rw [vup_na (by decide), ← hW3, vup_nj (fun e => h0 ⟨rfl, .inr e⟩), vup_nj (fun e => h0 ⟨rfl, .inl e⟩)]
            exact k2.1 0 j hj
          · exact k4 a j hj c0
      · rw [(frQ_k f6).2.1 y hy, (dk_k (V := W3) (kd := kd) (ln := ln)).2.1 y hy]
        exact k2.2.1 y hy
      · exact wt_i (wt_i (f6.2.2 ((dk_k (I := J2) (b := b)).2.2 w4)) (by decide)) (by decide)
      · rw [vup_na (by decide), vup_na (by decide), f6.1 0 12 (fun e => absurd e (by decide)), dk_o (fun e => absurd e (by decide)), vup_na (by decide), ← hW3]
        rfl
      · exact (vup_nj (by decide)).trans vup_eq
      · rw [vup_na (by decide), vup_na (by decide), f6.1 0 13 (fun e => absurd e (by decide)), dk_o (fun e => absurd e (by decide)), vup_na (by decide), ← hW3]
        rfl
      · exact vup_eq
/-! error(b, k) -/
set_option maxRecDepth 100000 in
set_option maxHeartbeats 1600000 in
theorem u_21 {V : Nat → Nat → Value} {I : Nat → Nat → Int32} {L : Nat → Nat → Int64} {R : Nat → Nat → Option Nat} {tl : am_H} {n p j : Nat} (hr : rel V I L R tl n p) (hm : room tl n p j) {N : Nat} (hN : 5000 < N) (a1 a2 : Int32) : ∃ h', opBI (fm_131 N (.ref 0) a1 a2 (.ref 268) (fx V I L R ++ tl)) (fun h1 => fm_424 N (.ref 174) a1 a2 h1) vfI h' ∧ invW (j + 1) h' := by
  obtain ⟨b1, b2, b3⟩ := hr.1
  obtain ⟨m, m1, m2, m3, m4⟩ := hr.2.2.2.1
  rcases dich a1 (n := n) (by omega) with hn | ⟨b, hb, rfl⟩
  · refine ⟨_, opBI_err (c := 1) (b := 0) (by decide) (tl := tl ++ [am_dummy]) ?_ ?_, inv_mk (rel_thr 1 (rel_dum hr)) (room_dum hm)⟩
    · have e : fm_132 N (.ref 0) a1 a2 (fx V I L R ++ tl) = some (.inr (2, (fx V I L R ++ (tl ++ [am_dummy])))) := by
        unfold fm_132 fg_132_0
        refine ev_i rfl ?_
        rw [c_63n b2 hn]
        rfl
      unfold fm_131 fg_131_0
      refine ev_i rfl ?_
      rw [e]
      rfl
    · show fm_424 N (.ref 174) a1 a2 (fx V I L R ++ (tl ++ [am_dummy])) = _
      unfold fm_424 fg_424_0
      refine ev_i rfl (ev_cI (r_358n b3 b1 hn) (ev_t rfl ?_))
      unfold fg_424_21 fg_424_22
      exact ev_b qp_174_0 (ev_b (a := 1) rfl (ev_f (by decide) rfl))
  · obtain ⟨kd, ln, sz, a, it, lm, f, q1, q2, q3, q4, q5, q6, q7, l0, -, l6, lo, hi⟩ := birth_ld hr hb
    rcases dich a2 (n := m) (by omega) with hn | ⟨k, hk, rfl⟩
    · refine ⟨_, opBI_err (c := 1) (b := 0) (by decide) (tl := tl ++ [am_dummy]) ?_ ?_, inv_mk (rel_thr 1 (rel_dum hr)) (room_dum hm)⟩
      · have e : fm_132 N (.ref 0) (nI b) a2 (fx V I L R ++ tl) = some (.inr (2, (fx V I L R ++ (tl ++ [am_dummy])))) := by
          unfold fm_132 fg_132_0
          refine ev_i rfl (ev_cR (c_63 b2 b1 hb q4) rfl (ev_i rfl ?_))
          rw [c_108n m2 hn]
          rfl
        unfold fm_131 fg_131_0
        refine ev_i rfl ?_
        rw [e]
        rfl
      · show fm_424 N (.ref 174) (nI b) a2 (fx V I L R ++ (tl ++ [am_dummy])) = _
        unfold fm_424 fg_424_0
        refine ev_i rfl (ev_cI (r_358 b3 b1 hb) (ev_f (by decide) (ev_i rfl (ev_cI (r_398n m3 m1 hn) (ev_t rfl ?_)))))
        unfold fg_424_21 fg_424_22
        exact ev_b qp_174_0 (ev_b (a := 1) rfl (ev_f (by decide) rfl))
    · obtain ⟨o, ho⟩ := cO_ex q7 (m4 k hk) lm
      obtain ⟨W1, J1, e1, g1, f1⟩ := c_ldb (L := L) (R := R) (N := N) (by omega) q5 q6 q7 l0 lo hi
      have k1 := frL_k f1
      have w1 := k1.2.2 (rel_w hr)
      obtain ⟨W2, J2, e2, f2⟩ := c_133 (L := L) (R := R) (N := N) (by omega) w1 g1 (by omega) (cOk_c (keep_c k1).1 (keep_c k1).2 (m4 k hk)) (cO_c (keep_c k1).2 ho)
      rw [(keep_c k1).2 200 (by omega) (by omega)] at e2
      have k2 := keep_t k1 (frP_k f2)
      have hr2 : rel W2 J2 (outL L (nI (erN o (I 200 k))).toInt64) R tl n p := rel_ol _ (rel_k k2 hr)
      have hr4 := rel_thr 0 hr2
      obtain ⟨e5, g5⟩ := r_ldb (V := vup W2 174 0 (.int 0)) (W := vup W2 174 0 (.int 0)) (I := I) (J := J2) (L := outL L (nI (erN o (I 200 k))).toInt64) (R := R) (tl := tl) (N := N) (b := b) (by omega) (by omega) ⟨fun _ _ _ => rfl, k2.2.1, id⟩ q1 q2 q3 q7 l6 lo hi
      have k5 := dk_k (V := vup W2 174 0 (.int 0)) (I := J2) (kd := kd) (ln := ln) (sz := sz) (b := b)
      have i5 : ∀ y, 197 ≤ y → y ≤ 204 → dkI J2 b sz y = I y := fun y h1 h2 => by
        rw [dkI_o (by omega) (by omega)]
        exact (keep_c k2).2 y h1 h2
      obtain ⟨W6, J6, e6, f6⟩ := r_425 (V := dkV (vup W2 174 0 (.int 0)) kd ln sz) (I := dkI J2 b sz) (L := outL L (nI (erN o (I 200 k))).toInt64) (R := R) (tl := tl) (N := N) (k := k) (o := o) hN (k5.2.2 (rel_w hr4)) g5 (by omega) (cO_c i5 ho)
      rw [i5 200 (by omega) (by omega)] at e6
      refine ⟨_, opBI_g (v := nI (erN o (I 200 k))) (W := W2) (J := J2) (M := outL L (nI (erN o (I 200 k))).toInt64) (R1 := R) (t1 := tl) (W' := W6) (J' := J6) (M' := outL L (nI (erN o (I 200 k))).toInt64) (R2 := R) (t2 := tl) ?_ ?_ ?_ outL_at, inv_mk (rel_k (keep_t k5 (frQ_k f6)) hr4) (room_up hm)⟩
      · have e : fm_132 N (.ref 0) (nI b) (nI k) (fx V I L R ++ tl) = some (.inl (some (.int (nI (erN o (I 200 k)))), fx W2 J2 L R ++ tl)) := by
          unfold fm_132 fg_132_0
          exact ev_i rfl (ev_cR (c_63 b2 b1 hb q4) rfl (ev_i rfl (ev_cV (c_108 m2 m1 hk) (ev_b (a := Value.ref 14) rfl (ev_b (a := Value.ref 16) rfl (ev_i rfl (ev_cV e1 (ev_b (a := Value.ref 14) rfl (ev_i rfl (ev_cI e2 rfl))))))))))
        unfold fm_131 fg_131_0
        refine ev_i rfl ?_
        rw [e]
        exact ev_b out_s rfl
      · show fm_424 N (.ref 174) (nI b) (nI k) (fx W2 J2 (outL L (nI (erN o (I 200 k))).toInt64) R ++ tl) = _
        have t1 : W2 174 1 = .int (nI n) := (k2.1 174 1 (by decide)).trans b3
        have t31 : W2 174 31 = .int (nI m) := (k2.1 174 31 (by decide)).trans m3
        unfold fm_424 fg_424_0
        refine ev_i rfl (ev_cI (r_358 t1 b1 hb) (ev_f (by decide) (ev_i rfl (ev_cI (r_398 t31 m1 hk) (ev_f (by decide) ?_)))))
        unfold fg_424_22
        refine ev_b qp_174_0 (ev_b (a := 0) rfl (ev_t (by decide) (ev_i rfl (ev_cV e5 (ev_i rfl (ev_cL e6 ?_))))))
        rw [lN_i]
      · rw [f6.1 174 0 (fun _ => by decide), dk_o (fun _ => by decide)]
        exact vup_eq
