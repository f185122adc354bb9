/-! ===== overfit, gain, compare ===== -/
theorem prA_g {V W : Nat → Nat → Value} {I J : Nat → Nat → Int32} {tl : am_H} {a it kd ln sz m0 : Nat} {fi : Nat → Int32} (hne : a ≠ 16 ∧ a ≠ 17 ∧ it ≠ 18 ∧ it ≠ 25 ∧ it ≠ 26) (hf : frG V W I J) (h : prA V I tl a it kd ln sz m0 fi) : prA W J tl a it kd ln sz m0 fi := prA_c (fun j => hf.1 a j hne.1 (fun e => hne.2.1 e.1)) (hf.2.2.1 it hne.2.2.1 hne.2.2.2.1 hne.2.2.2.2) h
set_option maxRecDepth 100000 in
set_option maxHeartbeats 1600000 in
theorem r_432 {V : Nat → Nat → Value} {I : Nat → Nat → Int32} {L : Nat → Nat → Int64} {R : Nat → Nat → Option Nat} {tl : am_H} {N q a b c d : Nat} (hN : 200 < N) (hq : q < 2) (ha : a * d < 2 ^ 60) (hc : c * b < 2 ^ 60) (hb : 0 < b * d) (hb2 : b * d < 2 ^ 60) : ∃ W, fm_432 N (.ref 174) (lN a) (lN b) (lN c) (lN d) (nI q) (fx V I L R ++ tl) = some (.inl (some (.long (if q = 0 then Int64.ofInt ((((a * d : Nat) : Int) - ((c * b : Nat) : Int)).tdiv (gdN (((a * d : Nat) : Int) - ((c * b : Nat) : Int)) (b * d))) else lN (b * d / gdN (((a * d : Nat) : Int) - ((c * b : Nat) : Int)) (b * d)))), fx W I L R ++ tl)) ∧ frJ V W I I := by
  have e := r_429 (V := vup (vup V 174 91 (.long (lN (a * d) - lN (c * b)))) 174 92 (.long (lN (b * d)))) (I := I) (L := L) (R := R) (tl := tl) (N := N) (d := b * d) (x := lN (a * d) - lN (c * b)) hN ((vup_nj (by decide)).trans vup_eq) vup_eq (sbL ha hc) (by omega) (by omega) hb hb2
  refine ⟨vup (vup (vup (vup V 174 91 (.long (lN (a * d) - lN (c * b)))) 174 92 (.long (lN (b * d)))) 174 91 (.long (Int64.ofInt ((((a * d : Nat) : Int) - ((c * b : Nat) : Int)).tdiv (gdN (((a * d : Nat) : Int) - ((c * b : Nat) : Int)) (b * d)))))) 174 92 (.long (lN (b * d / gdN (((a * d : Nat) : Int) - ((c * b : Nat) : Int)) (b * d)))), ?_, frJ_t frJ_91 (frJ_t frJ_92 (frJ_t frJ_91 frJ_92))⟩
  rotate_left
  · unfold fm_432 fg_432_0
    rw [lN_mul, lN_mul, lN_mul]
    refine ev_b qp_174_91 (ev_b qp_174_92 (ev_i rfl (ev_cV e ?_)))
    rcases (by omega : q = 0 ∨ q = 1) with rfl | rfl
    · exact ev_f (fun e => e rfl) (ev_b (a := Int64.ofInt ((((a * d : Nat) : Int) - ((c * b : Nat) : Int)).tdiv (gdN (((a * d : Nat) : Int) - ((c * b : Nat) : Int)) (b * d)))) rfl rfl)
    · exact ev_t (by decide) (ev_b (a := lN (b * d / gdN (((a * d : Nat) : Int) - ((c * b : Nat) : Int)) (b * d))) rfl rfl)
theorem dv_le (a g : Nat) : a / g ≤ a := Nat.div_le_self a g
theorem mul_lt60 {a b : Nat} (ha : a ≤ 432000000) (hb : b ≤ 216) : a * b < 2 ^ 60 := by
  have := Nat.mul_le_mul ha hb
  omega
/-! overfit(b, part) -/
set_option maxRecDepth 100000 in
set_option maxHeartbeats 1600000 in
theorem u_23 {V : Nat → Nat → Value} {I : Nat → Nat → Int32} {L : Nat → Nat → Int64} {R : Nat → Nat → Option Nat} {tl : am_H} {n p j : Nat} (hr : rel V I L R tl n p) (hm : room tl n p j) {N : Nat} (hN : 5000 < N) (a1 a2 : Int32) : ∃ h', opBL (fm_145 N (.ref 0) a1 a2 (.ref 268) (fx V I L R ++ tl)) (fun h1 => fm_431 N (.ref 174) a1 a2 h1) vfI h' ∧ invW (j + 1) h' := by
  obtain ⟨b1, b2, b3⟩ := hr.1
  obtain ⟨m, hc⟩ := csK_r hr
  rcases dich a1 (n := n) (by omega) with hn | ⟨b, hb, rfl⟩
  · refine ⟨_, opBL_err (c := 1) (b := 0) (by decide) (tl := tl ++ [am_dummy]) ?_ ?_, inv_mk (rel_thr 1 (rel_dum hr)) (room_dum hm)⟩
    · have e : fm_146 N (.ref 0) a1 a2 (fx V I L R ++ tl) = some (.inr (2, (fx V I L R ++ (tl ++ [am_dummy])))) := by
        unfold fm_146 fg_146_0
        refine ev_i rfl ?_
        rw [c_63n b2 hn]
        rfl
      unfold fm_145 fg_145_0
      refine ev_i rfl ?_
      rw [e]
      rfl
    · show fm_431 N (.ref 174) a1 a2 (fx V I L R ++ (tl ++ [am_dummy])) = _
      unfold fm_431 fg_431_0
      refine ev_i rfl (ev_cI (r_358n b3 b1 hn) (ev_f (fun e => e rfl) ?_))
      unfold fg_431_28
      exact ev_b qp_174_0 (ev_b (a := 1) rfl (ev_f (by decide) rfl))
  · obtain ⟨kd, ln, sz, a, it, lm, f, q1, q2, q3, q4, q5, q6, q7, l0, -, l6, lo, hi⟩ := birth_ld hr hb
    rcases dich a2 (n := 2) (by omega) with hn | ⟨q, hq, rfl⟩
    · refine ⟨_, opBL_err (c := 2) (b := 0) (by decide) (tl := tl ++ [am_dummy]) ?_ ?_, inv_mk (rel_thr 2 (rel_dum hr)) (room_dum hm)⟩
      · have e : fm_146 N (.ref 0) (nI b) a2 (fx V I L R ++ tl) = some (.inr (0, (fx V I L R ++ (tl ++ [am_dummy])))) := by
          unfold fm_146 fg_146_0
          refine ev_i rfl (ev_cR (c_63 b2 b1 hb q4) rfl (ev_i rfl ?_))
          rw [c_139n hn]
          rfl
        unfold fm_145 fg_145_0
        refine ev_i rfl ?_
        rw [e]
        rfl
      · show fm_431 N (.ref 174) (nI b) a2 (fx V I L R ++ (tl ++ [am_dummy])) = _
        unfold fm_431 fg_431_0
        refine ev_i rfl (ev_cI (r_358 b3 b1 hb) (ev_t (by decide) (ev_cI (pe_327 _ _ _ _) ?_)))
        rw [in_2n hn]
        refine ev_f (fun e => e rfl) ?_
        unfold fg_431_28
        exact ev_b qp_174_0 (ev_b (a := 2) rfl (ev_f (by decide) rfl))
    · obtain ⟨Oc, hO⟩ := cO_all q7 hc.2.2.2.2.2 lm
      obtain ⟨W1, J1, e1, f1⟩ := c_140 (L := L) (R := R) (N := N) (h := 1) (by omega) (rel_w hr) q5 (tl_ne a it) q6 q7 (Nat.le_refl _) (sz_1000 q7.2.1) l0 lo hi (.inr rfl) hc hO
      have k1 := frG_k f1
      obtain ⟨W2, J2, e2, f2⟩ := c_140 (L := L) (R := R) (N := N) (h := 0) (by omega) (k1.2.2 (rel_w hr)) (prA_g (tl_ne a it) f1 q5) (tl_ne a it) q6 q7 (Nat.le_refl _) (sz_1000 q7.2.1) (f1.2.1.trans l0) lo hi (.inl rfl) (csK_c k1 hc) hO
      have k2 := keep_t k1 (frG_k f2)
      have hws := wsN_le (h := 0) hc.2.2.1 hc.2.2.2.2.2
      have hwh := wsN_le (h := 1) hc.2.2.1 hc.2.2.2.2.2
      have hcs := ctN_le (h := 0) (Oc := Oc) hc.2.2.1 hc.2.2.2.2.2
      have hch := ctN_le (h := 1) (Oc := Oc) hc.2.2.1 hc.2.2.2.2.2
      have e3 := c_142 (V := V) (I := I) (L := L) (R := R) (tl := tl) (N := N) (h := 0) (by omega) (.inl rfl) hc
      have e4 := c_142 (V := V) (I := I) (L := L) (R := R) (tl := tl) (N := N) (h := 1) (by omega) (.inr rfl) hc
      generalize hcs' : ctN I 0 Oc m = cs at *
      generalize hch' : ctN I 1 Oc m = ch at *
      generalize hws' : wsN I 0 m = ws at *
      generalize hwh' : wsN I 1 m = wh at *
      have p1 := mul_lt60 hch hws.2
      have p2 := mul_lt60 hcs hwh.2
      have p3 : 0 < ws * wh := Nat.mul_pos hws.1 hwh.1
      have p4 := mul_lt60 (a := ws) (b := wh) (by omega) hwh.2
      have e5 := c_143 (V := W2) (I := J2) (L := L) (R := R) (tl := tl) (N := N) (d := ws * wh) (x := lN (ch * ws) - lN (cs * wh)) (by omega) (sbL p1 p2) (by omega) (by omega) p3 p4
      obtain ⟨-, d1, d2⟩ := df_eq (c1 := ch) (w1 := wh) (c2 := cs) (w2 := ws) hwh.1 hws.1
      obtain ⟨u1, u2⟩ := low_uq p3 d1 d2
      generalize hX : Int64.ofInt ((((ch * ws : Nat) : Int) - ((cs * wh : Nat) : Int)).tdiv (gdN (((ch * ws : Nat) : Int) - ((cs * wh : Nat) : Int)) (ws * wh))) = X at e5
      generalize hY : lN (ws * wh / gdN (((ch * ws : Nat) : Int) - ((cs * wh : Nat) : Int)) (ws * wh)) = Y at e5
      have k3 := keep_t k2 (keep_45 (V := W2) (I := J2) (x := X) (y := Y))
      have e6 := c_144 (V := vup (vup W2 14 4 (.long X)) 14 5 (.long Y)) (I := J2) (L := L) (R := R) (tl := tl) hq ((vup_nj (by decide)).trans vup_eq) vup_eq
      generalize vup (vup W2 14 4 (.long X)) 14 5 (.long Y) = W3 at e5 e6 k3
      have k4 := keep_t k3 (keep_0 (V := W3) (I := J2) (x := 0))
      obtain ⟨e7, g7⟩ := r_ldb (L := outL L (if q = 0 then X else Y)) (R := R) (tl := tl) (N := N) (b := b) (by omega) (by omega) k4 q1 q2 q3 q7 l6 lo hi
      have k7 := keep_t k4 (dk_k (V := vup W3 174 0 (.int 0)) (I := J2) (kd := kd) (ln := ln) (sz := sz) (b := b))
      obtain ⟨W8, J8, e8, x1, x2, f8⟩ := r_428 (V := dkV (vup W3 174 0 (.int 0)) kd ln sz) (I := dkI J2 b sz) (L := outL L (if q = 0 then X else Y)) (R := R) (tl := tl) (N := N) (h := 1) hN hO (k7.2.2 (rel_w hr)) g7 (csK_c k7 hc)
      have k8 := keep_t k7 (frJ_k f8)
      obtain ⟨W9, J9, e9, y1, y2, f9⟩ := r_428 (V := W8) (I := J8) (L := outL L (if q = 0 then X else Y)) (R := R) (tl := tl) (N := N) (h := 0) hN hO (k8.2.2 (rel_w hr)) (ldR_j f8 g7) (csK_c k8 hc)
      have k9 := keep_t k8 (frJ_k f9)
      rw [hch', hwh', ofI_N] at x1
      rw [hch', hwh'] at x2
      rw [hcs', hws', ofI_N] at y1
      rw [hcs', hws'] at y2
      have g1 : gdN (ch : Int) wh = Nat.gcd ch wh := rfl
      have g2 : gdN (cs : Int) ws = Nat.gcd cs ws := rfl
      rw [g1] at x1 x2
      rw [g2] at y1 y2
      have l1 := dv_le ch (Nat.gcd ch wh)
      have l2 := dv_le wh (Nat.gcd ch wh)
      have l3 := dv_le cs (Nat.gcd cs ws)
      have l4 := dv_le ws (Nat.gcd cs ws)
      obtain ⟨W10, e10, f10⟩ := r_432 (V := W9) (I := J9) (L := outL L (if q = 0 then X else Y)) (R := R) (tl := tl) (N := N) (q := q) (a := ch / Nat.gcd ch wh) (b := wh / Nat.gcd ch wh) (c := cs / Nat.gcd cs ws) (d := ws / Nat.gcd cs ws) (by omega) hq (mul_lt60 (by omega) (by omega)) (mul_lt60 (by omega) (by omega)) d1 (mul_lt60 (by omega) (by omega))
      rw [← u1, ← u2, hX, hY] at e10
      have k10 := keep_t k9 (frJ_k f10)
      refine ⟨_, opBL_g (v := if q = 0 then X else Y) (W := W3) (J := J2) (M := outL L (if q = 0 then X else Y)) (R1 := R) (t1 := tl) (W' := W10) (J' := J9) (M' := outL L (if q = 0 then X else Y)) (R2 := R) (t2 := tl) ?_ ?_ ?_ outL_at, inv_mk (rel_ol _ (rel_k k10 hr)) (room_up hm)⟩
      · have e : fm_146 N (.ref 0) (nI b) (nI q) (fx V I L R ++ tl) = some (.inl (some (.long (if q = 0 then X else Y)), fx W3 J2 L R ++ tl)) := by
          unfold fm_146 fg_146_0
          refine ev_i rfl (ev_cR (c_63 b2 b1 hb q4) rfl (ev_i rfl (ev_cV (c_139 hq) (ev_b (a := Value.ref 14) rfl (ev_i rfl (ev_cL e3 (ev_b (a := Value.ref 14) rfl (ev_i rfl (ev_cL e4 (ev_b (a := Value.ref 14) rfl (ev_b (a := Value.ref 14) rfl (ev_i rfl (ev_cL e1 (ev_b (a := Value.ref 14) rfl (ev_i rfl (ev_cL e2 (ev_i rfl ?_)))))))))))))))))
          rw [lN_mul, lN_mul, lN_mul]
          exact ev_cV e5 (ev_b (a := Value.ref 14) rfl (ev_i rfl (ev_cL e6 rfl)))
        unfold fm_145 fg_145_0
        refine ev_i rfl ?_
        rw [e]
        exact ev_b out_s rfl
      · show fm_431 N (.ref 174) (nI b) (nI q) (fx W3 J2 (outL L (if q = 0 then X else Y)) R ++ tl) = _
        have t1 : W3 174 1 = .int (nI n) := (k3.1 174 1 (by decide)).trans b3
        unfold fm_431 fg_431_0
        refine ev_i rfl (ev_cI (r_358 t1 b1 hb) (ev_t (by decide) (ev_cI (pe_327 _ _ _ _) ?_)))
        rw [in_2 hq]
        refine ev_t (by decide) ?_
        unfold fg_431_28
        exact ev_b qp_174_0 (ev_b (a := 0) rfl (ev_t (by decide) (ev_i rfl (ev_cV e7 (ev_i rfl (ev_cV e8 (ev_b (rdL x1) (ev_b (rdL x2) (ev_i rfl (ev_cV e9 (ev_b (rdL y1) (ev_b (rdL y2) (ev_i rfl (ev_cL e10 rfl))))))))))))))
      · rw [f10.1 174 0 (fun _ => by decide), f9.1 174 0 (fun _ => by decide), f8.1 174 0 (fun _ => by decide), dk_o (fun _ => by decide)]
        exact vup_eq
