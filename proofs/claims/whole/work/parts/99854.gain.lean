/-! ===== gain, compare ===== -/
theorem df_eq2 {c1 c2 w : Nat} (h : 0 < w) : 0 < w / Nat.gcd c1 w * (w / Nat.gcd c2 w) ∧ ((c1 : Int) - (c2 : Int)) * ((w / Nat.gcd c1 w * (w / Nat.gcd c2 w) : Nat) : Int) = (((c1 / Nat.gcd c1 w * (w / Nat.gcd c2 w) : Nat) : Int) - ((c2 / Nat.gcd c2 w * (w / Nat.gcd c1 w) : Nat) : Int)) * (w : Int) := by
  obtain ⟨-, d1, d2⟩ := df_eq (c1 := c1) (w1 := w) (c2 := c2) (w2 := w) h h
  refine ⟨d1, ?_⟩
  have hw : (w : Int) ≠ 0 := by omega
  apply Int.eq_of_mul_eq_mul_right hw
  have x1 : ((c1 : Int) - (c2 : Int)) * ((w / Nat.gcd c1 w * (w / Nat.gcd c2 w) : Nat) : Int) * (w : Int) = (((c1 * w : Nat) : Int) - ((c2 * w : Nat) : Int)) * ((w / Nat.gcd c1 w * (w / Nat.gcd c2 w) : Nat) : Int) := by
    rw [Int.mul_assoc, Int.mul_comm ((w / Nat.gcd c1 w * (w / Nat.gcd c2 w) : Nat) : Int) (w : Int), ← Int.mul_assoc, Int.sub_mul]
    rfl
  rw [x1, d2, Int.mul_assoc]
  rfl
/-- the order of two reduced fractions with one weight -/
theorem cmq_eq {c1 c2 w : Nat} (h : 0 < w) : (c2 / Nat.gcd c2 w * (w / Nat.gcd c1 w) = c1 / Nat.gcd c1 w * (w / Nat.gcd c2 w) ↔ c2 = c1) ∧ (c2 / Nat.gcd c2 w * (w / Nat.gcd c1 w) ≤ c1 / Nat.gcd c1 w * (w / Nat.gcd c2 w) ↔ c2 ≤ c1) := by
  obtain ⟨p, e⟩ := df_eq2 (c1 := c1) (c2 := c2) h
  have pw : (0 : Int) < (w : Int) := by omega
  have pp : (0 : Int) < ((w / Nat.gcd c1 w * (w / Nat.gcd c2 w) : Nat) : Int) := by omega
  generalize ((w / Nat.gcd c1 w * (w / Nat.gcd c2 w) : Nat) : Int) = d at e pp
  generalize c1 / Nat.gcd c1 w * (w / Nat.gcd c2 w) = a at e ⊢
  generalize c2 / Nat.gcd c2 w * (w / Nat.gcd c1 w) = b at e ⊢
  have k : ∀ x y : Int, x * d = y * (w : Int) → ((0 ≤ y ↔ 0 ≤ x) ∧ (y = 0 ↔ x = 0)) := fun x y e => by
    refine ⟨⟨fun hy => ?_, fun hx => ?_⟩, ⟨fun hy => ?_, fun hx => ?_⟩⟩
    · rcases (by omega : x < 0 ∨ 0 ≤ x) with q | q
      · have := Int.mul_neg_of_neg_of_pos q pp
        have := Int.mul_nonneg hy (Int.le_of_lt pw)
        omega
      · exact q
    · rcases (by omega : y < 0 ∨ 0 ≤ y) with q | q
      · have := Int.mul_neg_of_neg_of_pos q pw
        have := Int.mul_nonneg hx (Int.le_of_lt pp)
        omega
      · exact q
    · rw [hy, Int.zero_mul] at e
      rcases Int.mul_eq_zero.mp e with q | q
      · exact q
      · omega
    · rw [hx, Int.zero_mul] at e
      rcases Int.mul_eq_zero.mp e.symm with q | q
      · exact q
      · omega
  obtain ⟨k1, k2⟩ := k _ _ e
  exact ⟨⟨fun q => by have := k2.mp (by omega); omega, fun q => by have := k2.mpr (by omega); omega⟩, ⟨fun q => by have := k1.mp (by omega); omega, fun q => by have := k1.mpr (by omega); omega⟩⟩
theorem cmpL {a b : Nat} (ha : a < 2 ^ 60) (hb : b < 2 ^ 60) : ((lg_cmp (lN a - lN b) 0 = 0) ↔ b = a) ∧ ((0 ≤ lg_cmp (lN a - lN b) 0) ↔ b ≤ a) := by
  have e := sbL ha hb
  have z : (0 : Int64).toInt = 0 := by decide
  refine ⟨⟨fun q => ?_, fun q => ?_⟩, ⟨fun q => ?_, fun q => ?_⟩⟩
  · have := congrArg Int64.toInt ((lg_cmp_eq _ _).mp q)
    omega
  · refine (lg_cmp_eq _ _).mpr (Int64.toInt_inj.mp ?_)
    omega
  · have := (lg_cmp_ge _ _).mp q
    rw [Int64.le_iff_toInt_le] at this
    omega
  · refine (lg_cmp_ge _ _).mpr ?_
    rw [Int64.le_iff_toInt_le]
    omega
theorem cmpL2 {a b : Nat} (ha : a < 2 ^ 60) (hb : b < 2 ^ 60) : ((lg_cmp (lN a) (lN b) = 0) ↔ b = a) ∧ ((0 ≤ lg_cmp (lN a) (lN b)) ↔ b ≤ a) := by
  have e1 := lN_t (n := a) (by omega)
  have e2 := lN_t (n := b) (by omega)
  refine ⟨⟨fun q => ?_, fun q => ?_⟩, ⟨fun q => ?_, fun q => ?_⟩⟩
  · have := congrArg Int64.toInt ((lg_cmp_eq _ _).mp q)
    omega
  · exact (lg_cmp_eq _ _).mpr (by rw [q])
  · have := (lg_cmp_ge _ _).mp q
    rw [Int64.le_iff_toInt_le] at this
    omega
  · refine (lg_cmp_ge _ _).mpr ?_
    rw [Int64.le_iff_toInt_le]
    omega
/-! gain(b, part) -/
set_option maxRecDepth 100000 in
set_option maxHeartbeats 1600000 in
theorem u_44 {V : Nat → Nat → Value} {I : Nat → Nat → Int32} {L : Nat → Nat → Int64} {R : Nat → Nat → Option Nat} {tl : am_H} {n p j : Nat} (hr : rel V I L R tl n p) (hm : room tl n p j) {N : Nat} (hN : 5000 < N) (a1 a2 : Int32) : ∃ h', opBL (fm_256 N (.ref 0) a1 a2 (.ref 268) (fx V I L R ++ tl)) (fun h1 => fm_531 N (.ref 174) a1 a2 h1) vfI h' ∧ invW (j + 1) h' := by
  obtain ⟨b1, b2, b3⟩ := hr.1
  obtain ⟨m, hc⟩ := csK_r hr
  rcases dich a1 (n := n) (by omega) with hn | ⟨b, hb, rfl⟩
  · refine ⟨_, opBL_err (c := 1) (b := 0) (by decide) (tl := tl ++ [am_dummy]) ?_ ?_, inv_mk (rel_thr 1 (rel_dum hr)) (room_dum hm)⟩
    · have e : fm_257 N (.ref 0) a1 a2 (fx V I L R ++ tl) = some (.inr (2, (fx V I L R ++ (tl ++ [am_dummy])))) := by
        unfold fm_257 fg_257_0
        refine ev_i rfl ?_
        rw [c_63n b2 hn]
        rfl
      unfold fm_256 fg_256_0
      refine ev_i rfl ?_
      rw [e]
      rfl
    · show fm_531 N (.ref 174) a1 a2 (fx V I L R ++ (tl ++ [am_dummy])) = _
      unfold fm_531 fg_531_0
      refine ev_i rfl (ev_cI (r_358n b3 b1 hn) (ev_f (fun e => e rfl) ?_))
      unfold fg_531_49
      exact ev_b qp_174_0 (ev_b (a := 1) rfl (ev_f (by decide) rfl))
  · obtain ⟨kd, ln, sz, a, it, lm, f, q1, q2, q3, q4, q5, q6, q7, l0, -, l6, lo, hi⟩ := birth_ld hr hb
    rcases dich a2 (n := 2) (by omega) with hn | ⟨q, hq, rfl⟩
    · refine ⟨_, opBL_err (c := 2) (b := 0) (by decide) (tl := tl ++ [am_dummy]) ?_ ?_, inv_mk (rel_thr 2 (rel_dum hr)) (room_dum hm)⟩
      · have e : fm_257 N (.ref 0) (nI b) a2 (fx V I L R ++ tl) = some (.inr (0, (fx V I L R ++ (tl ++ [am_dummy])))) := by
          unfold fm_257 fg_257_0
          refine ev_i rfl (ev_cR (c_63 b2 b1 hb q4) rfl (ev_i rfl ?_))
          rw [c_139n hn]
          rfl
        unfold fm_256 fg_256_0
        refine ev_i rfl ?_
        rw [e]
        rfl
      · show fm_531 N (.ref 174) (nI b) a2 (fx V I L R ++ (tl ++ [am_dummy])) = _
        unfold fm_531 fg_531_0
        refine ev_i rfl (ev_cI (r_358 b3 b1 hb) (ev_t (by decide) (ev_cI (pe_327 _ _ _ _) ?_)))
        rw [in_2n hn]
        refine ev_t rfl ?_
        unfold fg_531_44 fg_531_49
        exact ev_b qp_174_0 (ev_b (a := 2) rfl (ev_f (by decide) rfl))
    · obtain ⟨kd0, ln0, sz0, a0, it0, f0, t1, t2, t3, t4, t5, -, -, -, t9⟩ := hr.2.1 b hb
      have ea : a0 = a := by
        have := Option.some.inj (t4.symm.trans q4)
        omega
      subst ea
      obtain ⟨w0, -, -, hf1, -⟩ := t9
      have rd6 : ∀ (W : Nat → Nat → Value) (J : Nat → Nat → Int32) (M : Nat → Nat → Int64), am_vI (am_pG 774 (.ref (269 + a0)) (fx W J M R ++ tl)) = some (I 179 b) := fun W J M => ev_gI (tl_at.trans t5) rfl rfl
      rcases hf1 with hf1 | ⟨b', hb', hf1⟩
      · refine ⟨_, opBL_err (c := 2) (b := 0) (by decide) (tl := tl ++ [am_dummy]) ?_ ?_, inv_mk (rel_thr 2 (rel_dum hr)) (room_dum hm)⟩
        · have e : fm_257 N (.ref 0) (nI b) (nI q) (fx V I L R ++ tl) = some (.inr (0, (fx V I L R ++ (tl ++ [am_dummy])))) := by
            rw [← List.append_assoc]
            unfold fm_257 fg_257_0
            refine ev_i rfl (ev_cR (c_63 b2 b1 hb q4) rfl (ev_i rfl (ev_cV (c_139 hq) (ev_b (rd6 V I L) ?_))))
            rw [hf1]
            exact ev_f (by decide) rfl
          unfold fm_256 fg_256_0
          refine ev_i rfl ?_
          rw [e]
          rfl
        · show fm_531 N (.ref 174) (nI b) (nI q) (fx V I L R ++ (tl ++ [am_dummy])) = _
          unfold fm_531 fg_531_0
          refine ev_i rfl (ev_cI (r_358 b3 b1 hb) (ev_t (by decide) (ev_cI (pe_327 _ _ _ _) ?_)))
          rw [in_2 hq]
          refine ev_f (by decide) (ev_b (a := Value.ref 179) rfl (ev_i rfl (ev_cI (r_358 b3 b1 hb) (ev_f (by decide) ?_))))
          unfold fg_531_40
          refine ev_b (a := -1) ((qa_179 (by omega)).trans (by rw [hf1])) (ev_f (by decide) ?_)
          unfold fg_531_44 fg_531_49
          exact ev_b qp_174_0 (ev_b (a := 2) rfl (ev_f (by decide) rfl))
      · have hbn : b' < n := by omega
        obtain ⟨kd', ln', sz', a', it', lm', f', r1, r2, r3, r4, r5, r6, r7, l0', -, -, -, -⟩ := birth_ld hr hbn
        obtain ⟨Oc, hO⟩ := cO_all q7 hc.2.2.2.2.2 lm
        obtain ⟨Od, hO'⟩ := cO_all r7 hc.2.2.2.2.2 lm
        obtain ⟨W1, J1, e1, f1⟩ := c_140 (L := L) (R := R) (N := N) (h := 0) (by omega) (rel_w hr) r5 (tl_ne a' it') r6 r7 (Nat.le_refl _) (sz_1000 r7.2.1) l0 lo hi (.inl rfl) hc hO'
        have k1 := frG_k f1
        obtain ⟨W2, J2, e2, f2⟩ := c_140 (L := L) (R := R) (N := N) (h := 0) (by omega) (k1.2.2 (rel_w hr)) (prA_g (tl_ne a0 it) f1 q5) (tl_ne a0 it) q6 q7 (Nat.le_refl _) (sz_1000 q7.2.1) (f1.2.1.trans l0) lo hi (.inl rfl) (csK_c k1 hc) hO
        have k2 := keep_t k1 (frG_k f2)
        have hws := wsN_le (h := 0) hc.2.2.1 hc.2.2.2.2.2
        have hcs := ctN_le (h := 0) (Oc := Oc) hc.2.2.1 hc.2.2.2.2.2
        have hch := ctN_le (h := 0) (Oc := Od) hc.2.2.1 hc.2.2.2.2.2
        have e3 := c_142 (V := W2) (I := J2) (L := L) (R := R) (tl := tl) (N := N) (h := 0) (by omega) (.inl rfl) (csK_c k2 hc)
        generalize hcs' : ctN I 0 Oc m = cs at *
        generalize hch' : ctN I 0 Od m = ch at *
        generalize hws' : wsN I 0 m = ws at *
        have e5 := c_143 (V := W2) (I := J2) (L := L) (R := R) (tl := tl) (N := N) (d := ws) (x := lN ch - lN cs) (by omega) (sbL (by omega) (by omega)) (by omega) (by omega) hws.1 (by omega)
        obtain ⟨d1, d2⟩ := df_eq2 (c1 := ch) (c2 := cs) hws.1
        obtain ⟨u1, u2⟩ := low_uq hws.1 d1 d2
        generalize hX : Int64.ofInt (((ch : Int) - (cs : Int)).tdiv (gdN ((ch : Int) - (cs : Int)) ws)) = X at e5
        generalize hY : lN (ws / gdN ((ch : Int) - (cs : Int)) ws) = Y at e5
        have k3 := keep_t k2 (keep_45 (V := W2) (I := J2) (x := X) (y := Y))
        have e6 := c_144 (V := vup (vup W2 14 4 (.long X)) 14 5 (.long Y)) (I := J2) (L := L) (R := R) (tl := tl) hq ((vup_nj (by decide)).trans vup_eq) vup_eq
        generalize vup (vup W2 14 4 (.long X)) 14 5 (.long Y) = W3 at e5 e6 k3
        have k4 := keep_t k3 (keep_0 (V := W3) (I := J2) (x := 0))
        obtain ⟨e7, g7⟩ := r_ldb (L := outL L (if q = 0 then X else Y)) (R := R) (tl := tl) (N := N) (b := b') (by omega) (by omega) k4 r1 r2 r3 r7 l6 lo hi
        have k7 := keep_t k4 (dk_k (V := vup W3 174 0 (.int 0)) (I := J2) (kd := kd') (ln := ln') (sz := sz') (b := b'))
        obtain ⟨W8, J8, e8, x1, x2, f8⟩ := r_428 (V := dkV (vup W3 174 0 (.int 0)) kd' ln' sz') (I := dkI J2 b' sz') (L := outL L (if q = 0 then X else Y)) (R := R) (tl := tl) (N := N) (h := 0) hN hO' (k7.2.2 (rel_w hr)) g7 (csK_c k7 hc)
        have k8 := keep_t k7 (frJ_k f8)
        obtain ⟨e7b, g7b⟩ := r_ldb (L := outL L (if q = 0 then X else Y)) (R := R) (tl := tl) (N := N) (b := b) (by omega) (by omega) k8 q1 q2 q3 q7 l6 lo hi
        have k8b := keep_t k8 (dk_k (V := W8) (I := J8) (kd := kd) (ln := ln) (sz := sz) (b := b))
        obtain ⟨W9, J9, e9, y1, y2, f9⟩ := r_428 (V := dkV W8 kd ln sz) (I := dkI J8 b sz) (L := outL L (if q = 0 then X else Y)) (R := R) (tl := tl) (N := N) (h := 0) hN hO (k8b.2.2 (rel_w hr)) g7b (csK_c k8b hc)
        have k9 := keep_t k8b (frJ_k f9)
        rw [hch', hws', ofI_N] at x1
        rw [hch', hws'] at x2
        rw [hcs', hws', ofI_N] at y1
        rw [hcs', hws'] at y2
        have g1 : gdN (ch : Int) ws = Nat.gcd ch ws := rfl
        have g2 : gdN (cs : Int) ws = Nat.gcd cs ws := rfl
        rw [g1] at x1 x2
        rw [g2] at y1 y2
        have l1 := dv_le ch (Nat.gcd ch ws)
        have l2 := dv_le ws (Nat.gcd ch ws)
        have l3 := dv_le cs (Nat.gcd cs ws)
        have l4 := dv_le ws (Nat.gcd cs ws)
        obtain ⟨W10, e10, f10⟩ := r_432 (V := W9) (I := J9) (L := outL L (if q = 0 then X else Y)) (R := R) (tl := tl) (N := N) (q := q) (a := ch / Nat.gcd ch ws) (b := ws / Nat.gcd ch ws) (c := cs / Nat.gcd cs ws) (d := ws / Nat.gcd cs ws) (by omega) hq (mul_lt60 (by omega) (by omega)) (mul_lt60 (by omega) (by omega)) d1 (mul_lt60 (by omega) (by omega))
        rw [← u1, ← u2, hX, hY] at e10
        have k10 := keep_t k9 (frJ_k f10)
        refine ⟨_, opBL_g (v := if q = 0 then X else Y) (W := W3) (J := J2) (M := outL L (if q = 0 then X else Y)) (R1 := R) (t1 := tl) (W' := W10) (J' := J9) (M' := outL L (if q = 0 then X else Y)) (R2 := R) (t2 := tl) ?_ ?_ ?_ outL_at, inv_mk (rel_ol _ (rel_k k10 hr)) (room_up hm)⟩
        · have e : fm_257 N (.ref 0) (nI b) (nI q) (fx V I L R ++ tl) = some (.inl (some (.long (if q = 0 then X else Y)), fx W3 J2 L R ++ tl)) := by
            unfold fm_257 fg_257_0
            refine ev_i rfl (ev_cR (c_63 b2 b1 hb q4) rfl (ev_i rfl (ev_cV (c_139 hq) (ev_b (rd6 V I L) ?_))))
            rw [hf1]
            exact ev_t (nI_pos' (by omega)) (ev_b (a := Value.ref 14) rfl (ev_b (a := nI b') ((rd6 V I L).trans (by rw [hf1])) (ev_i rfl (ev_cR (c_63 b2 b1 hbn r4) rfl (ev_i rfl (ev_cL e1 (ev_b (a := Value.ref 14) rfl (ev_b (a := Value.ref 14) rfl (ev_i rfl (ev_cL e2 (ev_b (a := Value.ref 14) rfl (ev_i rfl (ev_cL e3 (ev_i rfl (ev_cV e5 (ev_b (a := Value.ref 14) rfl (ev_i rfl (ev_cL e6 rfl))))))))))))))))))
          unfold fm_256 fg_256_0
          refine ev_i rfl ?_
          rw [e]
          exact ev_b out_s rfl
        · show fm_531 N (.ref 174) (nI b) (nI q) (fx W3 J2 (outL L (if q = 0 then X else Y)) R ++ tl) = _
          have t1 : W3 174 1 = .int (nI n) := (k3.1 174 1 (by decide)).trans b3
          have i179 : J2 179 b = nI b' := by
            rw [k3.2.1 179 (by decide)]
            exact hf1
          unfold fm_531 fg_531_0
          refine ev_i rfl (ev_cI (r_358 t1 b1 hb) (ev_t (by decide) (ev_cI (pe_327 _ _ _ _) ?_)))
          rw [in_2 hq]
          refine ev_f (by decide) (ev_b (a := Value.ref 179) rfl (ev_i rfl (ev_cI (r_358 t1 b1 hb) (ev_f (by decide) ?_))))
          unfold fg_531_40
          refine ev_b (a := nI b') ((qa_179 (by omega)).trans (by rw [i179])) (ev_t (nI_pos' (by omega)) ?_)
          unfold fg_531_49
          exact ev_b qp_174_0 (ev_b (a := 0) rfl (ev_t (by decide) (ev_b (a := Value.ref 179) rfl (ev_b (a := nI b') ((qa_179 (by omega)).trans (by rw [i179])) (ev_i rfl (ev_cV e7 (ev_i rfl (ev_cV e8 (ev_b (rdL x1) (ev_b (rdL x2) (ev_i rfl (ev_cV e7b (ev_i rfl (ev_cV e9 (ev_b (rdL y1) (ev_b (rdL y2) (ev_i rfl (ev_cL e10 rfl))))))))))))))))))
        · rw [f10.1 174 0 (fun _ => by decide), f9.1 174 0 (fun _ => by decide), dk_o (fun _ => by decide), f8.1 174 0 (fun _ => by decide), dk_o (fun _ => by decide)]
          exact vup_eq
/-! compare(a, b) -/
set_option maxRecDepth 100000 in
set_option maxHeartbeats 1600000 in
theorem u_25 {V : Nat → Nat → Value} {I : Nat → Nat → Int32} {L : Nat → Nat → Int64} {R : Nat → Nat → Option Nat} {tl : am_H} {n p j : Nat} (hr : rel V I L R tl n p) (hm : room tl n p j) {N : Nat} (hN : 5000 < N) (a1 a2 : Int32) : ∃ h', opBI (fm_149 N (.ref 0) a1 a2 (.ref 268) (fx V I L R ++ tl)) (fun h1 => fm_434 N (.ref 174) a1 a2 h1) vfI h' ∧ invW (j + 1) h' := by
  obtain ⟨b1, b2, b3⟩ := hr.1
  obtain ⟨m, hc⟩ := csK_r hr
  rcases dich a1 (n := n) (by omega) with hn | ⟨b, hb, rfl⟩
  · refine ⟨_, opBI_err (c := 1) (b := 0) (by decide) (tl := tl ++ [am_dummy]) ?_ ?_, inv_mk (rel_thr 1 (rel_dum hr)) (room_dum hm)⟩
    · have e : fm_150 N (.ref 0) a1 a2 (fx V I L R ++ tl) = some (.inr (2, (fx V I L R ++ (tl ++ [am_dummy])))) := by
        unfold fm_150 fg_150_0
        refine ev_i rfl ?_
        rw [c_63n b2 hn]
        rfl
      unfold fm_149 fg_149_0
      refine ev_i rfl ?_
      rw [e]
      rfl
    · show fm_434 N (.ref 174) a1 a2 (fx V I L R ++ (tl ++ [am_dummy])) = _
      unfold fm_434 fg_434_0
      refine ev_i rfl (ev_cI (r_358n b3 b1 hn) (ev_t rfl ?_))
      unfold fg_434_21 fg_434_22
      exact ev_b qp_174_0 (ev_b (a := 1) rfl (ev_f (by decide) rfl))
  · obtain ⟨kd, ln, sz, a, it, lm, f, q1, q2, q3, q4, q5, q6, q7, l0, -, l6, lo, hi⟩ := birth_ld hr hb
    rcases dich a2 (n := n) (by omega) with hn | ⟨c, hcn, rfl⟩
    · refine ⟨_, opBI_err (c := 1) (b := 0) (by decide) (tl := tl ++ [am_dummy]) ?_ ?_, inv_mk (rel_thr 1 (rel_dum hr)) (room_dum hm)⟩
      · have e : fm_150 N (.ref 0) (nI b) a2 (fx V I L R ++ tl) = some (.inr (2, (fx V I L R ++ (tl ++ [am_dummy])))) := by
          unfold fm_150 fg_150_0
          refine ev_i rfl (ev_cR (c_63 b2 b1 hb q4) rfl (ev_i rfl ?_))
          rw [c_63n b2 hn]
          rfl
        unfold fm_149 fg_149_0
        refine ev_i rfl ?_
        rw [e]
        rfl
      · show fm_434 N (.ref 174) (nI b) a2 (fx V I L R ++ (tl ++ [am_dummy])) = _
        unfold fm_434 fg_434_0
        refine ev_i rfl (ev_cI (r_358 b3 b1 hb) (ev_f (by decide) (ev_i rfl (ev_cI (r_358n b3 b1 hn) (ev_t rfl ?_)))))
        unfold fg_434_21 fg_434_22
        exact ev_b qp_174_0 (ev_b (a := 1) rfl (ev_f (by decide) rfl))
    · obtain ⟨kd', ln', sz', a', it', lm', f', r1, r2, r3, r4, r5, r6, r7, -, -, -, -, -⟩ := birth_ld hr hcn
      by_cases hbc : b = c
      · subst hbc
        obtain ⟨Oc, hO⟩ := cO_all q7 hc.2.2.2.2.2 lm
        obtain ⟨W1, J1, e1, f1⟩ := c_140 (L := L) (R := R) (N := N) (h := 0) (by omega) (rel_w hr) q5 (tl_ne a it) q6 q7 (Nat.le_refl _) (sz_1000 q7.2.1) l0 lo hi (.inl rfl) hc hO
        have k1 := frG_k f1
        obtain ⟨W2, J2, e2, f2⟩ := c_140 (L := L) (R := R) (N := N) (h := 0) (by omega) (k1.2.2 (rel_w hr)) (prA_g (tl_ne a it) f1 q5) (tl_ne a it) q6 q7 (Nat.le_refl _) (sz_1000 q7.2.1) (f1.2.1.trans l0) lo hi (.inl rfl) (csK_c k1 hc) hO
        have k2 := keep_t k1 (frG_k f2)
        have pp := prA_g (tl_ne a it) f2 (prA_g (tl_ne a it) f1 q5) W2 J2 L R (fun _ => rfl) rfl
        obtain ⟨_, _, _, _, _, _, p1, _⟩ := pp
        refine ⟨_, opBI_g (v := 0) (W := W2) (J := J2) (M := outL L (0 : Int32).toInt64) (R1 := R) (t1 := tl) (W' := vup W2 174 0 (.int 0)) (J' := J2) (M' := outL L (0 : Int32).toInt64) (R2 := R) (t2 := tl) ?_ ?_ vup_eq outL_at, inv_mk (rel_ol _ (rel_k (keep_t k2 keep_0) hr)) (room_up hm)⟩
        · have e : fm_150 N (.ref 0) (nI b) (nI b) (fx V I L R ++ tl) = some (.inl (some (.int 0), fx W2 J2 L R ++ tl)) := by
            unfold fm_150 fg_150_0
            refine ev_i rfl (ev_cR (c_63 b2 b1 hb q4) rfl (ev_i rfl (ev_cR (c_63 b2 b1 hb q4) rfl (ev_b (a := Value.ref 14) rfl (ev_i rfl (ev_cL e1 (ev_b (a := Value.ref 14) rfl (ev_i rfl (ev_cL e2 (ev_cI (pe_151 _ _ _) ?_))))))))))
            rw [show pv_151 (lN (ctN I 0 Oc m)) (lN (ctN I 0 Oc m)) = 0 by unfold pv_151; rw [lg_cmp_self]; rfl]
            refine ev_f (fun e => e rfl) (ev_b (ev_gI p1 rfl rfl) (ev_b (ev_gI p1 rfl rfl) (ev_cI (pe_152 _ _ _) ?_)))
            rw [show ∀ x : Int32, pv_152 x x = 0 from fun x => by unfold pv_152; rw [if_pos (Int32.le_refl x), if_neg (fun e => e rfl)]]
            unfold fg_150_56
            refine ev_t rfl (ev_cI (pe_152 _ _ _) ?_)
            rw [show ∀ x : Int32, pv_152 x x = 0 from fun x => by unfold pv_152; rw [if_pos (Int32.le_refl x), if_neg (fun e => e rfl)]]
            rfl
          unfold fm_149 fg_149_0
          refine ev_i rfl ?_
          rw [e]
          exact ev_b out_s rfl
        · show fm_434 N (.ref 174) (nI b) (nI b) (fx W2 J2 (outL L (0 : Int32).toInt64) R ++ tl) = _
          have t1 : W2 174 1 = .int (nI n) := (k2.1 174 1 (by decide)).trans b3
          unfold fm_434 fg_434_0
          refine ev_i rfl (ev_cI (r_358 t1 b1 hb) (ev_f (by decide) (ev_i rfl (ev_cI (r_358 t1 b1 hb) (ev_f (by decide) ?_)))))
          unfold fg_434_22
          refine ev_b qp_174_0 (ev_b (a := 0) rfl (ev_t (by decide) (ev_i rfl (ev_cI (v := 0) (h1 := fx (vup W2 174 0 (.int 0)) J2 (outL L (0 : Int32).toInt64) R ++ tl) ?_ rfl))))
          unfold fm_435 fg_435_0
          exact ev_f (fun e => e rfl) rfl
      obtain ⟨Oc, hO⟩ := cO_all q7 hc.2.2.2.2.2 lm
      obtain ⟨Od, hO'⟩ := cO_all r7 hc.2.2.2.2.2 lm
      obtain ⟨W1, J1, e1, f1⟩ := c_140 (L := L) (R := R) (N := N) (h := 0) (by omega) (rel_w hr) q5 (tl_ne a it) q6 q7 (Nat.le_refl _) (sz_1000 q7.2.1) l0 lo hi (.inl rfl) hc hO
      have k1 := frG_k f1
      obtain ⟨W2, J2, e2, f2⟩ := c_140 (L := L) (R := R) (N := N) (h := 0) (by omega) (k1.2.2 (rel_w hr)) (prA_g (tl_ne a' it') f1 r5) (tl_ne a' it') r6 r7 (Nat.le_refl _) (sz_1000 r7.2.1) (f1.2.1.trans l0) lo hi (.inl rfl) (csK_c k1 hc) hO'
      have k2 := keep_t k1 (frG_k f2)
      have hws := wsN_le (h := 0) hc.2.2.1 hc.2.2.2.2.2
      have hcs := ctN_le (h := 0) (Oc := Oc) hc.2.2.1 hc.2.2.2.2.2
      have hch := ctN_le (h := 0) (Oc := Od) hc.2.2.1 hc.2.2.2.2.2
      generalize hcs' : ctN I 0 Oc m = cp at *
      generalize hch' : ctN I 0 Od m = cq at *
      generalize hws' : wsN I 0 m = ws at *
      have pp := prA_g (tl_ne a it) f2 (prA_g (tl_ne a it) f1 q5) W2 J2 L R (fun _ => rfl) rfl
      obtain ⟨_, _, _, _, _, _, p1, _⟩ := pp
      have pp := prA_g (tl_ne a' it') f2 (prA_g (tl_ne a' it') f1 r5) W2 J2 L R (fun _ => rfl) rfl
      obtain ⟨_, _, _, _, _, _, p2, _⟩ := pp
      have s1 := q7.2.1
      have s2 := r7.2.1
      -- what comes of it
      have key : ∃ r : Int32, (am_cI false (fm_151 (lN cp) (lN cq) (fx W2 J2 L R ++ tl)) (fun v21 h22 => (if ¬ v21 = 0 then (fg_150_56 N (nI b) (nI c) v21 h22) else ((am_vI (am_pG 771 (.ref (269 + a)) h22)).bind fun v25 => ((am_vI (am_pG 771 (.ref (269 + a')) h22)).bind fun v27 => am_cI false (fm_152 v25 v27 h22) (fun v29 h30 => (fg_150_56 N (nI b) (nI c) v29 h30)))))) = some (.inl (some (.int r), fx W2 J2 L R ++ tl))) ∧ (∀ (W : Nat → Nat → Value) (J : Nat → Nat → Int32) (M : Nat → Nat → Int64), J 176 b = nI sz → J 176 c = nI sz' → (if (lg_cmp (lN (cp / Nat.gcd cp ws * (ws / Nat.gcd cq ws)) - lN (cq / Nat.gcd cq ws * (ws / Nat.gcd cp ws))) 0) = 0 then ((am_vR (am_pG 3075 (.ref 174) (fx W J M R ++ tl))).bind fun v27 => ((am_pA 0 v27 (nI b) (fx W J M R ++ tl)).bind fun v29 => ((am_vR (am_pG 3075 (.ref 174) (fx W J M R ++ tl))).bind fun v31 => ((am_pA 0 v31 (nI c) (fx W J M R ++ tl)).bind fun v33 => (if v29 = v33 then (if (nI c) ≤ (nI b) then (fg_435_120 N 1 (fx W J M R ++ tl)) else (fg_435_120 N ((-1)) (fx W J M R ++ tl))) else ((am_vR (am_pG 3075 (.ref 174) (fx W J M R ++ tl))).bind fun v37 => ((am_pA 0 v37 (nI b) (fx W J M R ++ tl)).bind fun v39 => ((am_vR (am_pG 3075 (.ref 174) (fx W J M R ++ tl))).bind fun v41 => ((am_pA 0 v41 (nI c) (fx W J M R ++ tl)).bind fun v43 => (if v43 ≤ v39 then (fg_435_109 N 1 (fx W J M R ++ tl)) else (fg_435_109 N ((-1)) (fx W J M R ++ tl)))))))))))) else (if 0 ≤ (lg_cmp (lN (cp / Nat.gcd cp ws * (ws / Nat.gcd cq ws)) - lN (cq / Nat.gcd cq ws * (ws / Nat.gcd cp ws))) 0) then (fg_435_73 N 1 (fx W J M R ++ tl)) else (fg_435_73 N ((-1)) (fx W J M R ++ tl)))) = some (.inl (some (.int r), fx W J M R ++ tl))) := by
        have l1 := dv_le cp (Nat.gcd cp ws)
        have l2 := dv_le ws (Nat.gcd cp ws)
        have l3 := dv_le cq (Nat.gcd cq ws)
        have l4 := dv_le ws (Nat.gcd cq ws)
        obtain ⟨x1, x2⟩ := cmpL (a := cp / Nat.gcd cp ws * (ws / Nat.gcd cq ws)) (b := cq / Nat.gcd cq ws * (ws / Nat.gcd cp ws)) (mul_lt60 (by omega) (by omega)) (mul_lt60 (by omega) (by omega))
        obtain ⟨y1, y2⟩ := cmq_eq (c1 := cp) (c2 := cq) hws.1
        obtain ⟨z1, z2⟩ := cmpL2 (a := cp) (b := cq) (by omega) (by omega)
        rcases Nat.lt_trichotomy cq cp with q | q | q
        · refine ⟨1, ?_, fun W J M i1 i2 => ev_f (fun e => by have := y1.mp (x1.mp e); omega) (ev_t (x2.mpr (y2.mpr (by omega))) rfl)⟩
          refine ev_cI ((pe_151 _ _ _).trans (by unfold pv_151; rw [if_pos (z2.mpr (by omega)), if_pos (fun e => by have := z1.mp e; omega)])) (ev_t (by decide) ?_)
          unfold fg_150_56
          exact ev_f (by decide) rfl
        · subst q
          have c0 : fm_151 (lN cq) (lN cq) (fx W2 J2 L R ++ tl) = some (.inl (some (.int 0), fx W2 J2 L R ++ tl)) := (pe_151 _ _ _).trans (by unfold pv_151; rw [lg_cmp_self]; rfl)
          have r0 : lg_cmp (lN (cq / Nat.gcd cq ws * (ws / Nat.gcd cq ws)) - lN (cq / Nat.gcd cq ws * (ws / Nat.gcd cq ws))) 0 = 0 := x1.mpr rfl
          rcases Nat.lt_trichotomy sz' sz with u | u | u
          · refine ⟨1, ?_, fun W J M i1 i2 => ev_t r0 (ev_b (a := Value.ref 176) rfl (ev_b (a := nI sz) ((qa_176 (by omega)).trans (by rw [i1])) (ev_b (a := Value.ref 176) rfl (ev_b (a := nI sz') ((qa_176 (by omega)).trans (by rw [i2])) (ev_f (fun e => by have := (nI_eq (by omega) (by omega)).mp e; omega) (ev_b (a := Value.ref 176) rfl (ev_b (a := nI sz) ((qa_176 (by omega)).trans (by rw [i1])) (ev_b (a := Value.ref 176) rfl (ev_b (a := nI sz') ((qa_176 (by omega)).trans (by rw [i2])) (ev_t (nI_le (by omega) (by omega)) rfl))))))))))⟩
            refine ev_cI c0 (ev_f (fun e => e rfl) (ev_b (ev_gI p1 rfl rfl) (ev_b (ev_gI p2 rfl rfl) (ev_cI ((pe_152 _ _ _).trans (by unfold pv_152; rw [if_pos (nI_le (by omega) (by omega)), if_pos (fun e => by have := (nI_eq (by omega) (by omega)).mp e; omega)])) ?_))))
            unfold fg_150_56
            exact ev_f (by decide) rfl
          · subst u
            have c2 : fm_152 (nI sz') (nI sz') (fx W2 J2 L R ++ tl) = some (.inl (some (.int 0), fx W2 J2 L R ++ tl)) := (pe_152 _ _ _).trans (by unfold pv_152; rw [if_pos (Int32.le_refl _), if_neg (fun e => e rfl)])
            have tail : ∀ r : Int32, fg_150_56 N (nI b) (nI c) 0 (fx W2 J2 L R ++ tl) = some (.inl (some (.int r), fx W2 J2 L R ++ tl)) → (am_cI false (fm_151 (lN cq) (lN cq) (fx W2 J2 L R ++ tl)) (fun v21 h22 => (if ¬ v21 = 0 then (fg_150_56 N (nI b) (nI c) v21 h22) else ((am_vI (am_pG 771 (.ref (269 + a)) h22)).bind fun v25 => ((am_vI (am_pG 771 (.ref (269 + a')) h22)).bind fun v27 => am_cI false (fm_152 v25 v27 h22) (fun v29 h30 => (fg_150_56 N (nI b) (nI c) v29 h30)))))) = some (.inl (some (.int r), fx W2 J2 L R ++ tl))) := fun r hr => ev_cI c0 (ev_f (fun e => e rfl) (ev_b (ev_gI p1 rfl rfl) (ev_b (ev_gI p2 rfl rfl) (ev_cI c2 hr))))
            rcases Nat.lt_or_ge c b with w | w
            · refine ⟨1, tail 1 ?_, fun W J M i1 i2 => ev_t r0 (ev_b (a := Value.ref 176) rfl (ev_b (a := nI sz') ((qa_176 (by omega)).trans (by rw [i1])) (ev_b (a := Value.ref 176) rfl (ev_b (a := nI sz') ((qa_176 (by omega)).trans (by rw [i2])) (ev_t rfl (ev_t (nI_le (by omega) (by omega)) rfl))))))⟩
              unfold fg_150_56
              exact ev_t rfl (ev_cI ((pe_152 _ _ _).trans (by unfold pv_152; rw [if_pos (nI_le (by omega) (by omega)), if_pos (fun e => by have := (nI_eq (by omega) (by omega)).mp e; omega)])) rfl)
            · refine ⟨-1, tail (-1) ?_, fun W J M i1 i2 => ev_t r0 (ev_b (a := Value.ref 176) rfl (ev_b (a := nI sz') ((qa_176 (by omega)).trans (by rw [i1])) (ev_b (a := Value.ref 176) rfl (ev_b (a := nI sz') ((qa_176 (by omega)).trans (by rw [i2])) (ev_t rfl (ev_f (nI_ge (by omega) (by omega)) rfl))))))⟩
              unfold fg_150_56
              exact ev_t rfl (ev_cI ((pe_152 _ _ _).trans (by unfold pv_152; rw [if_neg (nI_ge (by omega) (by omega))])) rfl)
          · refine ⟨-1, ?_, fun W J M i1 i2 => ev_t r0 (ev_b (a := Value.ref 176) rfl (ev_b (a := nI sz) ((qa_176 (by omega)).trans (by rw [i1])) (ev_b (a := Value.ref 176) rfl (ev_b (a := nI sz') ((qa_176 (by omega)).trans (by rw [i2])) (ev_f (fun e => by have := (nI_eq (by omega) (by omega)).mp e; omega) (ev_b (a := Value.ref 176) rfl (ev_b (a := nI sz) ((qa_176 (by omega)).trans (by rw [i1])) (ev_b (a := Value.ref 176) rfl (ev_b (a := nI sz') ((qa_176 (by omega)).trans (by rw [i2])) (ev_f (nI_ge (by omega) (by omega)) rfl))))))))))⟩
            refine ev_cI c0 (ev_f (fun e => e rfl) (ev_b (ev_gI p1 rfl rfl) (ev_b (ev_gI p2 rfl rfl) (ev_cI ((pe_152 _ _ _).trans (by unfold pv_152; rw [if_neg (nI_ge (by omega) (by omega))])) ?_))))
            unfold fg_150_56
            exact ev_f (by decide) rfl
        · refine ⟨-1, ?_, fun W J M i1 i2 => ev_f (fun e => by have := y1.mp (x1.mp e); omega) (ev_f (fun e => by have := y2.mp (x2.mp e); omega) rfl)⟩
          refine ev_cI ((pe_151 _ _ _).trans (by unfold pv_151; rw [if_neg (fun e => by have := z2.mp e; omega)])) (ev_t (by decide) ?_)
          unfold fg_150_56
          exact ev_f (by decide) rfl
      obtain ⟨r, key1, key2⟩ := key
      have k4 := keep_t k2 (keep_0 (V := W2) (I := J2) (x := 0))
      obtain ⟨e7, g7⟩ := r_ldb (L := outL L r.toInt64) (R := R) (tl := tl) (N := N) (b := b) (by omega) (by omega) k4 q1 q2 q3 q7 l6 lo hi
      have k7 := keep_t k4 (dk_k (V := vup W2 174 0 (.int 0)) (I := J2) (kd := kd) (ln := ln) (sz := sz) (b := b))
      obtain ⟨W8, J8, e8, x1, x2, f8⟩ := r_428 (V := dkV (vup W2 174 0 (.int 0)) kd ln sz) (I := dkI J2 b sz) (L := outL L r.toInt64) (R := R) (tl := tl) (N := N) (h := 0) hN hO (k7.2.2 (rel_w hr)) g7 (csK_c k7 hc)
      have k8 := keep_t k7 (frJ_k f8)
      obtain ⟨e7b, g7b⟩ := r_ldb (L := outL L r.toInt64) (R := R) (tl := tl) (N := N) (b := c) (by omega) (by omega) k8 r1 r2 r3 r7 l6 lo hi
      have k8b := keep_t k8 (dk_k (V := W8) (I := J8) (kd := kd') (ln := ln') (sz := sz') (b := c))
      obtain ⟨W9, J9, e9, y1, y2, f9⟩ := r_428 (V := dkV W8 kd' ln' sz') (I := dkI J8 c sz') (L := outL L r.toInt64) (R := R) (tl := tl) (N := N) (h := 0) hN hO' (k8b.2.2 (rel_w hr)) g7b (csK_c k8b hc)
      have k9 := keep_t k8b (frJ_k f9)
      rw [hcs', hws', ofI_N] at x1
      rw [hcs', hws'] at x2
      rw [hch', hws', ofI_N] at y1
      rw [hch', hws'] at y2
      have g1 : gdN (cp : Int) ws = Nat.gcd cp ws := rfl
      have g2 : gdN (cq : Int) ws = Nat.gcd cq ws := rfl
      rw [g1] at x1 x2
      rw [g2] at y1 y2
      refine ⟨_, opBI_g (v := r) (W := W2) (J := J2) (M := outL L r.toInt64) (R1 := R) (t1 := tl) (W' := W9) (J' := J9) (M' := outL L r.toInt64) (R2 := R) (t2 := tl) ?_ ?_ ?_ outL_at, inv_mk (rel_ol _ (rel_k k9 hr)) (room_up hm)⟩
      · have e : fm_150 N (.ref 0) (nI b) (nI c) (fx V I L R ++ tl) = some (.inl (some (.int r), fx W2 J2 L R ++ tl)) := by
          unfold fm_150 fg_150_0
          exact ev_i rfl (ev_cR (c_63 b2 b1 hb q4) rfl (ev_i rfl (ev_cR (c_63 b2 b1 hcn r4) rfl (ev_b (a := Value.ref 14) rfl (ev_i rfl (ev_cL e1 (ev_b (a := Value.ref 14) rfl (ev_i rfl (ev_cL e2 key1)))))))))
        unfold fm_149 fg_149_0
        refine ev_i rfl ?_
        rw [e]
        exact ev_b out_s rfl
      · show fm_434 N (.ref 174) (nI b) (nI c) (fx W2 J2 (outL L r.toInt64) R ++ tl) = _
        have t1 : W2 174 1 = .int (nI n) := (k2.1 174 1 (by decide)).trans b3
        unfold fm_434 fg_434_0
        refine ev_i rfl (ev_cI (r_358 t1 b1 hb) (ev_f (by decide) (ev_i rfl (ev_cI (r_358 t1 b1 hcn) (ev_f (by decide) ?_)))))
        unfold fg_434_22
        refine ev_b qp_174_0 (ev_b (a := 0) rfl (ev_t (by decide) (ev_i rfl (ev_cI (v := r) (h1 := fx W9 J9 (outL L r.toInt64) R ++ tl) ?_ rfl))))
        unfold fm_435 fg_435_0
        refine ev_t (fun e => hbc ((nI_eq (by omega) (by omega)).mp e)) (ev_i rfl (ev_cV e7 (ev_i rfl (ev_cV e8 (ev_b (rdL x1) (ev_b (rdL x2) (ev_i rfl (ev_cV e7b (ev_i rfl (ev_cV e9 (ev_b (rdL y2) (ev_b (rdL y1) ?_))))))))))))
        rw [lN_mul, lN_mul]
        exact key2 W9 J9 _ (by rw [k9.2.1 176 (by decide)]; exact q2) (by rw [k9.2.1 176 (by decide)]; exact r2)
      · rw [f9.1 174 0 (fun _ => by decide), dk_o (fun _ => by decide), f8.1 174 0 (fun _ => by decide), dk_o (fun _ => by decide)]
        exact vup_eq
