/-! ===== ask ===== -/
set_option maxRecDepth 100000 in
set_option maxHeartbeats 1600000 in
theorem rel_dr {V : Nat → Nat → Value} {I : Nat → Nat → Int32} {L : Nat → Nat → Int64} {R : Nat → Nat → Option Nat} {tl : am_H} {n p : Nat} {g : Nat → Int32} (hg : ∀ i, 3 ≤ i → g i = I 164 i) (h : rel V I L R tl n p) : rel V (iup I 164 g) L R tl n p := by
  obtain ⟨z1, z2, z3, z4, ⟨s, s1, s2, s3, s4, s5⟩, z6, z7, z8, z9, z10, z11, z12, zw⟩ := h
  exact ⟨z1, z2, z3, z4, ⟨s, s1, (hg 6 (by omega)).trans s2, s3, fun i hi => (hg (7 + i) (by omega)).trans (s4 i hi), fun i h1 h2 => (hg (7 + i) (by omega)).trans (s5 i h1 h2)⟩, z6, z7, z8, z9, z10, z11, z12, zw⟩
def cpq (D Q : Nat → Int32) (k : Nat) : Nat → Int32 := fun j => if j < k then Q j else D j
theorem cpq_0 {D Q : Nat → Int32} : cpq D Q 0 = D := by
  funext j
  unfold cpq
  rw [if_neg (by omega)]
theorem cpq_s {D Q : Nat → Int32} {k : Nat} : upd (cpq D Q k) k (Q k) = cpq D Q (k + 1) := by
  funext j
  by_cases c : j = k
  · rw [c, upd_eq]
    unfold cpq
    rw [if_pos (by omega)]
  · rw [upd_ne c]
    unfold cpq
    by_cases d : j < k
    · rw [if_pos d, if_pos (by omega)]
    · rw [if_neg d, if_neg (by omega)]
theorem cpq_at {D Q : Nat → Int32} {k j : Nat} (h : j < k) : cpq D Q k j = Q j := if_pos h
set_option maxRecDepth 100000 in
set_option maxHeartbeats 1600000 in
theorem r_421l {V : Nat → Nat → Value} {I : Nat → Nat → Int32} {L : Nat → Nat → Int64} {R : Nat → Nat → Option Nat} {tl : am_H} {N s : Nat} (h40 : V 174 40 = .int (nI s)) (hs : s ≤ 8) : ∀ (m i K : Nat), i + m = s → m < K → fg_421_26 N K (.ref 174) (nI i) (fx V (iup I 212 (cpq (I 212) (I 205) i)) L R ++ tl) = some (.inl (none, fx V (iup I 212 (cpq (I 212) (I 205) s)) L R ++ tl)) := by
  intro m
  induction m with
  | zero =>
    intro i K hi hK
    obtain ⟨K, rfl⟩ : ∃ k, K = k + 1 := ⟨K - 1, by omega⟩
    obtain rfl : i = s := by omega
    rw [fg_421_26]
    exact ev_b (rdI h40) (ev_t (nI_le (Nat.le_refl _) (by omega)) rfl)
  | succ m ih =>
    intro i K hi hK
    obtain ⟨K, rfl⟩ : ∃ k, K = k + 1 := ⟨K - 1, by omega⟩
    rw [fg_421_26]
    dsimp only
    rw [nI_1]
    refine ev_b (rdI h40) (ev_f (nI_ge (by omega) (by omega)) (ev_b (a := Value.ref 212) rfl (ev_b (a := Value.ref 205) rfl (ev_b (qa_205 (by omega)) ?_))))
    refine ev_b (a := fx V (iup I 212 (cpq (I 212) (I 205) (i + 1))) L R ++ tl) (ev_s (f := cpq (I 212) (I 205) i) (n := 8) rfl (am_inb_n (by omega) (by omega)) rfl (by rw [nI_clamp (by omega), ← cpq_s (D := I 212) (Q := I 205)]; rfl)) ?_
    exact ih (i + 1) K (by omega) (by omega)
set_option maxRecDepth 100000 in
set_option maxHeartbeats 1600000 in
theorem r_421 {V : Nat → Nat → Value} {I : Nat → Nat → Int32} {L : Nat → Nat → Int64} {R : Nat → Nat → Option Nat} {tl : am_H} {N s : Nat} {x y z : Int32} (hN : 100 < N) (h40 : V 174 40 = .int (nI s)) (hs : s ≤ 8) : fm_421 N (.ref 174) x y z (fx V I L R ++ tl) = some (.inl (none, fx (inV V x y z (nI s)) (iup I 212 (cpq (I 212) (I 205) s)) L R ++ tl)) := by
  have k0 := r_421l (V := inV V x y z (nI s)) (I := I) (L := L) (R := R) (tl := tl) (N := N) (s := s) ((inV_o (fun _ => by decide)).trans h40) hs s 0 N (by omega) (by omega)
  rw [cpq_0, iup_self] at k0
  unfold fm_421 fg_421_0
  exact ev_b qp_174_51 (ev_b qp_174_52 (ev_b qp_174_53 (ev_b (a := nI s) (by show am_vI (some (V 174 40)) = _; rw [h40]; rfl) (ev_b qp_174_54 k0))))
set_option maxRecDepth 100000 in
set_option maxHeartbeats 1600000 in
theorem r_askr {V : Nat → Nat → Value} {I : Nat → Nat → Int32} {L : Nat → Nat → Int64} {R : Nat → Nat → Option Nat} {tl : am_H} {kd ln sz lm s : Nat} {s0 v : Nat → Int32} {x y z : Int32} {o : Int32 × Nat × Int32} {N : Nat} (hN : 5000 < N) (hw : wt V) (hd : ldR V I kd ln sz s0 v lm) (hs : s ≤ 8) (ho : rP kd ln sz s0 v lm x y z s (I 205) o) : ∃ W J, fm_403 N (.ref 174) (fx (inV V x y z (nI s)) (iup I 212 (cpq (I 212) (I 205) s)) L R ++ tl) = some (.inl (none, fx W J L R ++ tl)) ∧ W 174 48 = .int o.1 ∧ W 174 50 = .int (nI o.2.1) ∧ W 174 49 = .int o.2.2 ∧ frQ V W I J := by
  have fq : frQ V (inV V x y z (nI s)) I (iup I 212 (cpq (I 212) (I 205) s)) := ⟨fun a j hj => inV_o (fun e => by
    refine ⟨?_, ?_, ?_, ?_⟩ <;> (intro e2; subst e2; exact hj e (by decide))), fun y hy => iup_na (fun e => by subst e; exact hy (by decide)), wt_inV⟩
  obtain ⟨W, J, e, w1, w2, w3, f⟩ := r_403 (L := L) (R := R) (tl := tl) (row := I 205) (len := s) hN (wt_inV hw) (ldR_c fq hd) ⟨rfl, rfl, rfl, rfl, hs, fun i hi => cpq_at (D := I 212) (Q := I 205) hi⟩ ho
  exact ⟨W, J, e, w1, w2, w3, frQ_t fq (frR_Q f)⟩
/-! ask(b, x, y, z) -/
set_option maxRecDepth 100000 in
set_option maxHeartbeats 1600000 in
theorem u_18 {V : Nat → Nat → Value} {I : Nat → Nat → Int32} {L : Nat → Nat → Int64} {R : Nat → Nat → Option Nat} {tl : am_H} {n p j : Nat} (hr : rel V I L R tl n p) (hm : room tl n p j) {N : Nat} (hN : 5000 < N) (a1 a2 a3 a4 : Int32) : ∃ h', opBI (fm_129 N (.ref 0) a1 a2 a3 a4 (.ref 268) (fx V I L R ++ tl)) (fun h1 => fm_420 N (.ref 174) a1 a2 a3 a4 h1) vfI h' ∧ invW (j + 1) h' := by
  obtain ⟨b1, b2, b3⟩ := hr.1
  rcases dich a1 (n := n) (by omega) with hn | ⟨b, hb, rfl⟩
  · refine ⟨_, opBI_err (c := 1) (b := 0) (by decide) (tl := tl ++ [am_dummy]) ?_ ?_, inv_mk (rel_thr 1 (rel_dum hr)) (room_dum hm)⟩
    · have e : fm_130 N (.ref 0) a1 a2 a3 a4 (fx V I L R ++ tl) = some (.inr (2, (fx V I L R ++ (tl ++ [am_dummy])))) := by
        unfold fm_130 fg_130_0
        refine ev_b (a := Value.ref 14) rfl (ev_b (a := Value.ref 16) rfl (ev_i rfl ?_))
        rw [c_63n b2 hn]
        rfl
      unfold fm_129 fg_129_0
      refine ev_i rfl ?_
      rw [e]
      rfl
    · show fm_420 N (.ref 174) a1 a2 a3 a4 (fx V I L R ++ (tl ++ [am_dummy])) = _
      unfold fm_420 fg_420_0
      refine ev_i rfl (ev_cI (r_358n b3 b1 hn) (ev_t rfl ?_))
      unfold fg_420_14
      exact ev_b qp_174_0 (ev_b (a := 1) rfl (ev_f (by decide) rfl))
  · obtain ⟨kd, ln, sz, a, it, lm, f, q1, q2, q3, q4, q5, q6, q7, l0, -, l6, lo, hi⟩ := birth_ld hr hb
    obtain ⟨s, s1, s2, s3, s4, s5⟩ := hr.2.2.2.2.1
    obtain ⟨o, ho⟩ := rP_ex q7 lm a2 a3 a4 s (I 205)
    obtain ⟨W1, J1, e1, g1, f1⟩ := c_ldb (L := L) (R := R) (N := N) (by omega) q5 q6 q7 l0 lo hi
    have k1 := frL_k f1
    have w1 := k1.2.2 (rel_w hr)
    -- the row that is put, with the three numbers
    obtain ⟨g, hg⟩ : ∃ g, g = upd (upd (upd (J1 164) 0 a2) 1 a3) 2 a4 := ⟨_, rfl⟩
    have g3 : ∀ i, 3 ≤ i → g i = I 164 i := fun i hi => by
      rw [hg, upd_ne (by omega), upd_ne (by omega), upd_ne (by omega), k1.2.1 164 (by decide)]
    have gl : ldC W1 (iup J1 164 g) tl (269 + a) (269 + it) kd ln sz (sz * wdN kd) f (fun k => I 184 (60 * b + k)) (fun k => I 185 (60 * b + k)) lm := by
      obtain ⟨h1, h2, h3, h4, h5, h6, h7, h8, h9, h10, h11⟩ := g1
      exact ⟨prA_c (fun _ => rfl) (iup_na (by omega)) h1, h2, h3, h4, h5, h6, h7, h8, h9, h10, h11⟩
    obtain ⟨W2, J2, e2, x1, x2, x3, f2⟩ := k_perf_164 (V := W1) (I := iup J1 164 g) (L := L) (R := R) (tl := tl) (N := N) (fr := 0) (len := s) (row := I 205) (x := a2) (y := a3) (z := a4) (by omega) w1 gl ho (by omega) (by show g 0 = _; rw [hg]; rfl) (by show g 1 = _; rw [hg]; rfl) (by show g 2 = _; rw [hg]; rfl) (by show g 6 = _; rw [g3 6 (by omega)]; exact s2) s1 (fun i hi => by show g (0 + 7 + i) = _; rw [g3 _ (by omega), Nat.zero_add]; exact s4 i hi)
    have kp := frP_k f2
    have i2 : ∀ y, y ∈ iRel → y ≠ 164 → J2 y = I y := fun y hy hn => by
      rw [kp.2.1 y hy, iup_na hn]
      exact k1.2.1 y hy
    have v2 : ∀ a j, j ∈ vRel a → W2 a j = V a j := fun a j hj => (kp.1 a j hj).trans (k1.1 a j hj)
    have e3 := c_128 (V := W2) (I := J2) (L := L) (R := R) (tl := tl) x1 x2 x3
    generalize hW3 : vup (vup W2 0 12 (.int o.2.2)) 0 13 (.int (nI o.2.1)) = W3 at e3
    have v3 : ∀ a j, a ≠ 0 → W3 a j = W2 a j := fun a j h => by rw [← hW3, vup_na h, vup_na h]
    have w3 : wt W3 := by rw [← hW3]; exact wt_i (wt_i (kp.2.2 w1) (by decide)) (by decide)
    have k4 : ∀ a j, j ∈ vRel a → a ≠ 0 → vup W3 174 0 (.int 0) a j = V a j := fun a j hj ha => by
      by_cases c : a = 174
      · subst c
        rw [vup_nj (fun e => by subst e; revert hj; decide), v3 _ _ (by decide)]
        exact v2 174 j hj
      · rw [vup_na c, v3 a j ha]
        exact v2 a j hj
    have w4 : wt (vup W3 174 0 (.int 0)) := wt_i w3 (by decide)
    have kI : keep (vup W3 174 0 (.int 0)) (vup W3 174 0 (.int 0)) (iup I 164 (J2 164)) J2 := ⟨fun _ _ _ => rfl, fun y hy => by
      by_cases c : y = 164
      · subst c; rfl
      · rw [iup_na c]; exact i2 y hy c, id⟩
    obtain ⟨e5, g5⟩ := r_ldb (V := vup W3 174 0 (.int 0)) (W := vup W3 174 0 (.int 0)) (I := iup I 164 (J2 164)) (J := J2) (L := outL L o.1.toInt64) (R := R) (tl := tl) (N := N) (b := b) (by omega) (by omega) kI q1 q2 q3 q7 l6 lo hi
    have i205 : dkI J2 b sz 205 = I 205 := by
      rw [dkI_o (by decide) (by decide)]
      exact i2 205 (by decide) (by decide)
    obtain ⟨W6, J6, e6, y1, y2, y3, f6⟩ := r_askr (V := dkV (vup W3 174 0 (.int 0)) kd ln sz) (I := dkI J2 b sz) (L := outL L o.1.toInt64) (R := R) (tl := tl) (N := N) (s := s) (x := a2) (y := a3) (z := a4) (o := o) hN ((dk_k (I := J2) (b := b)).2.2 w4) g5 s1 (by rw [i205]; exact ho)
    have e7 := r_419 (V := W6) (I := J6) (L := outL L o.1.toInt64) (R := R) (tl := tl) y1 y2 y3
    have j164 : ∀ i, 3 ≤ i → J2 164 i = I 164 i := fun i hi => by
      rw [f2.2.2.2.1 164 (by decide) (by decide)]
      exact g3 i hi
    refine ⟨_, opBI_g (v := o.1) (W := W3) (J := J2) (M := outL L o.1.toInt64) (R1 := R) (t1 := tl) (W' := vup (vup W6 174 56 (.int o.2.2)) 174 57 (.int (nI o.2.1))) (J' := J6) (M' := outL L o.1.toInt64) (R2 := R) (t2 := tl) ?_ ?_ ?_ outL_at, inv_mk (rel_to (V := V) (I := iup I 164 (J2 164)) (fun a j hj h0 h174 => ?_) (fun y hy => ?_) ?_ ⟨o.2.2, nI o.2.1, ?_, ?_, ?_, ?_⟩ (rel_ol _ (rel_dr j164 hr))) (room_up hm)⟩
    · have e : fm_130 N (.ref 0) (nI b) a2 a3 a4 (fx V I L R ++ tl) = some (.inl (some (.int o.1), fx W3 J2 L R ++ tl)) := by
        unfold fm_130 fg_130_0
        refine ev_b (a := Value.ref 14) rfl (ev_b (a := Value.ref 16) rfl (ev_i rfl (ev_cR (c_63 b2 b1 hb q4) rfl (ev_i rfl (ev_cV e1 (ev_b (a := Value.ref 164) rfl ?_))))))
        refine ev_b (a := fx W1 (iup J1 164 (upd (J1 164) 0 a2)) L R ++ tl) (ev_s (f := J1 164) (n := 15) rfl rfl rfl rfl) (ev_b (a := Value.ref 164) rfl ?_)
        refine ev_b (a := fx W1 (iup J1 164 (upd (upd (J1 164) 0 a2) 1 a3)) L R ++ tl) (ev_s (f := upd (J1 164) 0 a2) (n := 15) rfl rfl rfl rfl) (ev_b (a := Value.ref 164) rfl ?_)
        refine ev_b (a := fx W1 (iup J1 164 g) L R ++ tl) (ev_s (f := upd (upd (J1 164) 0 a2) 1 a3) (n := 15) rfl rfl rfl (by rw [hg]; rfl)) (ev_b (a := Value.ref 14) rfl (ev_b (a := Value.ref 16) rfl (ev_b (a := Value.ref 164) rfl (ev_i rfl (ev_cV e2 (ev_i rfl (ev_cI e3 rfl)))))))
      unfold fm_129 fg_129_0
      refine ev_i rfl ?_
      rw [e]
      exact ev_b out_s rfl
    · show fm_420 N (.ref 174) (nI b) a2 a3 a4 (fx W3 J2 (outL L o.1.toInt64) R ++ tl) = _
      have t1 : W3 174 1 = .int (nI n) := (v3 _ _ (by decide)).trans ((v2 174 1 (by decide)).trans b3)
      have t40 : dkV (vup W3 174 0 (.int 0)) kd ln sz 174 40 = .int (nI s) := by
        rw [dk_o (fun _ => by decide), k4 174 40 (by decide) (by decide)]
        exact s3
      unfold fm_420 fg_420_0
      refine ev_i rfl (ev_cI (r_358 t1 b1 hb) (ev_f (by decide) ?_))
      unfold fg_420_14
      exact ev_b qp_174_0 (ev_b (a := 0) rfl (ev_t (by decide) (ev_i rfl (ev_cV e5 (ev_i rfl (ev_cV (r_421 (V := dkV (vup W3 174 0 (.int 0)) kd ln sz) (I := dkI J2 b sz) (by omega) t40 s1) (ev_i rfl (ev_cV e6 (ev_i rfl (ev_cI e7 rfl))))))))))
    · rw [vup_nj (by decide), vup_nj (by decide), f6.1 174 0 (fun _ => by decide), dk_o (fun _ => by decide)]
      exact vup_eq
    · by_cases c : a = 174
      · subst c
        rw [vup_nj (fun e => h174 ⟨rfl, .inr e⟩), vup_nj (fun e => h174 ⟨rfl, .inl e⟩), (frQ_k f6).1 174 j hj, (dk_k (I := J2) (b := b) (sz := sz)).1 174 j hj]
        exact k4 174 j hj (by decide)
      · rw [vup_na c, vup_na c, (frQ_k f6).1 a j hj, (dk_k (I := J2) (b := b) (sz := sz)).1 a j hj]
        by_cases c0 : a = 0
        · subst c0
          rw [vup_na (by decide), ← hW3, vup_nj (fun e => h0 ⟨rfl, .inr e⟩), vup_nj (fun e => h0 ⟨rfl, .inl e⟩)]
          exact v2 0 j hj
        · exact k4 a j hj c0
    · rw [(frQ_k f6).2.1 y hy, (dk_k (V := W3) (kd := kd) (ln := ln)).2.1 y hy]
      exact kI.2.1 y hy
    · exact wt_i (wt_i (f6.2.2 ((dk_k (I := J2) (b := b)).2.2 w4)) (by decide)) (by decide)
    · rw [vup_na (by decide), vup_na (by decide), f6.1 0 12 (fun e => absurd e (by decide)), dk_o (fun e => absurd e (by decide)), vup_na (by decide), ← hW3]
      rfl
    · exact (vup_nj (by decide)).trans vup_eq
    · rw [vup_na (by decide), vup_na (by decide), f6.1 0 13 (fun e => absurd e (by decide)), dk_o (fun e => absurd e (by decide)), vup_na (by decide), ← hW3]
      rfl
    · exact vup_eq
