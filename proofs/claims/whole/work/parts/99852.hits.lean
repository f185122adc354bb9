/-! ===== hits ===== -/
def hgN (I0 : Nat → Nat → Int32) (h : Int32) (Oc : Nat → Int32 × Nat × Int32) (k : Nat) : Nat := if I0 202 k = h ∧ erN (Oc k) (I0 200 k) = 0 then 1 else 0
set_option maxRecDepth 100000 in
set_option maxHeartbeats 1600000 in
theorem c_148l {L : Nat → Nat → Int64} {R : Nat → Nat → Option Nat} {tl : am_H} {I0 : Nat → Nat → Int32} {N a it kd ln sz m0 lm m : Nat} {fi s v : Nat → Int32} {Oc : Nat → Int32 × Nat × Int32} {h : Int32} (hN : 100 < N) (hh : h = 0 ∨ h = 1) (hO : ∀ k, k < m → cO kd ln sz s v lm I0 k (Oc k)) : ∀ (q k K : Nat) (V : Nat → Nat → Value) (I : Nat → Nat → Int32), k + q = m → q < K → wt V → ldC V I tl a it kd ln sz m0 fi s v lm → csK V I I0 m → ∃ W J, fg_148_20 N K (.ref 0) h (nI (suN (hgN I0 h Oc) k)) (nI k) (fx V I L R ++ tl) = some (.inl (some (.int (nI (suN (hgN I0 h Oc) m))), fx W J L R ++ tl)) ∧ frP V W I J := by
  intro q
  induction q with
  | zero =>
    intro k K V I hk hK hw hl hc
    obtain ⟨K, rfl⟩ : ∃ k, K = k + 1 := ⟨K - 1, by omega⟩
    obtain rfl : k = m := by omega
    refine ⟨V, I, ?_, frP_r⟩
    rw [fg_148_20]
    exact ev_b (a := Value.ref 14) rfl (ev_b (rdI hc.1) (ev_t (nI_le (Nat.le_refl _) (by have := hc.2.2.1; omega)) rfl))
  | succ q ih =>
    intro k K V I hk hK hw hl hc
    obtain ⟨K, rfl⟩ : ∃ k, K = k + 1 := ⟨K - 1, by omega⟩
    have hc' := hc
    obtain ⟨v1, v2, m24, i15, i197, cok⟩ := hc
    have ck := cOk_c i15 i197 (cok k (by omega))
    have e41 := c_141 (V := V) (I := I) (L := L) (R := R) (tl := tl) (k := k) (h := h) (by omega) ck hh
    rw [i197 202 (by omega) (by omega)] at e41
    have st : ∀ x, hgN I0 h Oc k = x → suN (hgN I0 h Oc) (k + 1) = suN (hgN I0 h Oc) k + x := fun x e => by
      show _ + hgN I0 h Oc k = _
      rw [e]
    by_cases c : I0 202 k = h
    · rw [if_pos c] at e41
      obtain ⟨W, J, e3, f3⟩ := c_133 (L := L) (R := R) hN hw hl (show k < 24 by omega) ck (cO_c i197 (hO k (by omega)))
      rw [i197 200 (by omega) (by omega)] at e3
      have k3 := frP_k f3
      obtain ⟨W', J', e', f'⟩ := ih (k + 1) K W J (by omega) (by omega) (k3.2.2 hw) (ldC_c f3 hl) (csK_c k3 hc')
      refine ⟨W', J', ?_, frP_t f3 f'⟩
      have el := erN_le (Oc k) (I0 200 k)
      rw [fg_148_20]
      refine ev_b (a := Value.ref 14) rfl (ev_b (rdI v1) (ev_f (nI_ge (by omega) (by omega)) (ev_b (a := Value.ref 14) rfl (ev_i rfl (ev_cI e41 (ev_f (by decide) (ev_b (a := Value.ref 14) rfl (ev_i rfl (ev_cI e3 ?_)))))))))
      by_cases c0 : erN (Oc k) (I0 200 k) = 0
      · rw [st 1 (if_pos ⟨c, c0⟩)] at e'
        refine ev_f (fun e => e (by rw [c0]; rfl)) ?_
        unfold fg_148_60
        rw [nI_1, nI_1]
        exact e'
      · rw [st 0 (if_neg (fun e => c0 e.2))] at e'
        refine ev_t (nI_ne0 (by omega) (by omega)) ?_
        unfold fg_148_60
        rw [nI_1]
        exact e'
    · rw [if_neg c] at e41
      obtain ⟨W', J', e', f'⟩ := ih (k + 1) K V I (by omega) (by omega) hw hl hc'
      refine ⟨W', J', ?_, f'⟩
      rw [st 0 (if_neg (fun e => c e.1))] at e'
      rw [fg_148_20]
      refine ev_b (a := Value.ref 14) rfl (ev_b (rdI v1) (ev_f (nI_ge (by omega) (by omega)) (ev_b (a := Value.ref 14) rfl (ev_i rfl (ev_cI e41 (ev_t rfl ?_))))))
      unfold fg_148_60
      rw [nI_1]
      exact e'
set_option maxRecDepth 100000 in
set_option maxHeartbeats 1600000 in
theorem r_433l {L : Nat → Nat → Int64} {R : Nat → Nat → Option Nat} {tl : am_H} {I0 : Nat → Nat → Int32} {N kd ln sz lm m : Nat} {s v : Nat → Int32} {Oc : Nat → Int32 × Nat × Int32} {h : Int32} (hN : 5000 < N) (hO : ∀ k, k < m → cO kd ln sz s v lm I0 k (Oc k)) : ∀ (q k K : Nat) (V : Nat → Nat → Value) (I : Nat → Nat → Int32), k + q = m → q < K → wt V → ldR V I kd ln sz s v lm → csK V I I0 m → ∃ W J, fg_433_36 N K (.ref 174) h (nI (suN (hgN I0 h Oc) k)) (nI k) (fx V I L R ++ tl) = some (.inl (some (.int (nI (suN (hgN I0 h Oc) m))), fx W J L R ++ tl)) ∧ frQ V W I J := by
  intro q
  induction q with
  | zero =>
    intro k K V I hk hK hw hl hc
    obtain ⟨K, rfl⟩ : ∃ k, K = k + 1 := ⟨K - 1, by omega⟩
    obtain rfl : k = m := by omega
    refine ⟨V, I, ?_, frQ_r⟩
    rw [fg_433_36]
    exact ev_b (rdI hc.2.1) (ev_t (nI_le (Nat.le_refl _) (by have := hc.2.2.1; omega)) rfl)
  | succ q ih =>
    intro k K V I hk hK hw hl hc
    obtain ⟨K, rfl⟩ : ∃ k, K = k + 1 := ⟨K - 1, by omega⟩
    have hc' := hc
    obtain ⟨v1, v2, m24, i15, i197, cok⟩ := hc
    have r2 : am_pA 2 (.ref 202) (nI k) (fx V I L R ++ tl) = some (I0 202 k) := (qa_202 (by omega)).trans (by rw [i197 202 (by omega) (by omega)])
    have st : ∀ x, hgN I0 h Oc k = x → suN (hgN I0 h Oc) (k + 1) = suN (hgN I0 h Oc) k + x := fun x e => by
      show _ + hgN I0 h Oc k = _
      rw [e]
    by_cases c : I0 202 k = h
    · obtain ⟨W, J, e3, f3⟩ := r_425 (L := L) (R := R) (tl := tl) hN hw hl (show k < 24 by omega) (cO_c i197 (hO k (by omega)))
      rw [i197 200 (by omega) (by omega)] at e3
      have k3 := frQ_k f3
      obtain ⟨W', J', e', f'⟩ := ih (k + 1) K W J (by omega) (by omega) (k3.2.2 hw) (ldR_c f3 hl) (csK_c k3 hc')
      refine ⟨W', J', ?_, frQ_t f3 f'⟩
      have el := erN_le (Oc k) (I0 200 k)
      rw [fg_433_36]
      refine ev_b (rdI v2) (ev_f (nI_ge (by omega) (by omega)) (ev_b (a := Value.ref 202) rfl (ev_b r2 (ev_f (fun e => e c) (ev_i rfl (ev_cL e3 ?_))))))
      by_cases c0 : erN (Oc k) (I0 200 k) = 0
      · rw [st 1 (if_pos ⟨c, c0⟩)] at e'
        refine ev_f (fun e => e ((lN_cz (by omega)).mpr c0)) ?_
        unfold fg_433_73
        rw [nI_1, nI_1]
        exact e'
      · rw [st 0 (if_neg (fun e => c0 e.2))] at e'
        refine ev_t (fun e => c0 ((lN_cz (by omega)).mp e)) ?_
        unfold fg_433_72 fg_433_73
        rw [show nI (suN (hgN I0 h Oc) k) + 0 = nI (suN (hgN I0 h Oc) k + 0) from nI_add _ 0, nI_1]
        exact e'
    · obtain ⟨W', J', e', f'⟩ := ih (k + 1) K V I (by omega) (by omega) hw hl hc'
      refine ⟨W', J', ?_, f'⟩
      rw [st 0 (if_neg (fun e => c e.1))] at e'
      rw [fg_433_36]
      refine ev_b (rdI v2) (ev_f (nI_ge (by omega) (by omega)) (ev_b (a := Value.ref 202) rfl (ev_b r2 (ev_t c ?_))))
      unfold fg_433_72 fg_433_73
      rw [show nI (suN (hgN I0 h Oc) k) + 0 = nI (suN (hgN I0 h Oc) k + 0) from nI_add _ 0, nI_1]
      exact e'
set_option maxRecDepth 100000 in
set_option maxHeartbeats 1600000 in
theorem u_24 {V : Nat → Nat → Value} {I : Nat → Nat → Int32} {L : Nat → Nat → Int64} {R : Nat → Nat → Option Nat} {tl : am_H} {n p j : Nat} (hr : rel V I L R tl n p) (hm : room tl n p j) {N : Nat} (hN : 5000 < N) (a1 h : Int32) (hh : h = 0 ∨ h = 1) : ∃ h', opBI (fm_147 N (.ref 0) a1 h (.ref 268) (fx V I L R ++ tl)) (fun h1 => fm_433 N (.ref 174) a1 h h1) vfI h' ∧ invW (j + 1) h' := by
  obtain ⟨b1, b2, b3⟩ := hr.1
  obtain ⟨m, hc⟩ := csK_r hr
  rcases dich a1 (n := n) (by omega) with hn | ⟨b, hb, rfl⟩
  · refine ⟨_, opBI_err (c := 1) (b := 0) (by decide) (tl := tl ++ [am_dummy]) ?_ ?_, inv_mk (rel_thr 1 (rel_dum hr)) (room_dum hm)⟩
    · have e : fm_148 N (.ref 0) a1 h (fx V I L R ++ tl) = some (.inr (2, (fx V I L R ++ (tl ++ [am_dummy])))) := by
        unfold fm_148 fg_148_0
        refine ev_b (a := Value.ref 14) rfl (ev_b (a := Value.ref 16) rfl (ev_i rfl ?_))
        rw [c_63n b2 hn]
        rfl
      unfold fm_147 fg_147_0
      refine ev_i rfl ?_
      rw [e]
      rfl
    · show fm_433 N (.ref 174) a1 h (fx V I L R ++ (tl ++ [am_dummy])) = _
      unfold fm_433 fg_433_0
      refine ev_i rfl (ev_cI (r_358n b3 b1 hn) (ev_t rfl ?_))
      unfold fg_433_14
      exact ev_b qp_174_0 (ev_b (a := 1) rfl (ev_f (by decide) rfl))
  · obtain ⟨kd, ln, sz, a, it, lm, f, q1, q2, q3, q4, q5, q6, q7, l0, -, l6, lo, hi⟩ := birth_ld hr hb
    obtain ⟨Oc, hO⟩ := cO_all q7 hc.2.2.2.2.2 lm
    obtain ⟨W1, J1, e1, g1, f1⟩ := c_ldb (L := L) (R := R) (N := N) (by omega) q5 q6 q7 l0 lo hi
    have k1 := frL_k f1
    obtain ⟨W2, J2, e2, f2⟩ := c_148l (L := L) (R := R) (tl := tl) (N := N) (h := h) (by omega) hh hO m 0 N W1 J1 (by omega) (by have := hc.2.2.1; omega) (k1.2.2 (rel_w hr)) g1 (csK_c k1 hc)
    have k2 := keep_t k1 (frP_k f2)
    have k4 := keep_t k2 (keep_0 (V := W2) (I := J2) (x := 0))
    obtain ⟨e5, g5⟩ := r_ldb (L := outL L (nI (suN (hgN I h Oc) m)).toInt64) (R := R) (tl := tl) (N := N) (b := b) (by omega) (by omega) k4 q1 q2 q3 q7 l6 lo hi
    have k5 := keep_t k4 (dk_k (V := vup W2 174 0 (.int 0)) (I := J2) (kd := kd) (ln := ln) (sz := sz) (b := b))
    obtain ⟨W6, J6, e6, f6⟩ := r_433l (L := outL L (nI (suN (hgN I h Oc) m)).toInt64) (R := R) (tl := tl) (N := N) (h := h) hN hO m 0 N (dkV (vup W2 174 0 (.int 0)) kd ln sz) (dkI J2 b sz) (by omega) (by have := hc.2.2.1; omega) (k5.2.2 (rel_w hr)) g5 (csK_c k5 hc)
    refine ⟨_, opBI_g (v := nI (suN (hgN I h Oc) m)) (W := W2) (J := J2) (M := outL L (nI (suN (hgN I h Oc) m)).toInt64) (R1 := R) (t1 := tl) (W' := W6) (J' := J6) (M' := outL L (nI (suN (hgN I h Oc) m)).toInt64) (R2 := R) (t2 := tl) ?_ ?_ ?_ outL_at, inv_mk (rel_ol _ (rel_k (keep_t k5 (frQ_k f6)) hr)) (room_up hm)⟩
    · have e : fm_148 N (.ref 0) (nI b) h (fx V I L R ++ tl) = some (.inl (some (.int (nI (suN (hgN I h Oc) m))), fx W2 J2 L R ++ tl)) := by
        unfold fm_148 fg_148_0
        exact ev_b (a := Value.ref 14) rfl (ev_b (a := Value.ref 16) rfl (ev_i rfl (ev_cR (c_63 b2 b1 hb q4) rfl (ev_i rfl (ev_cV e1 e2)))))
      unfold fm_147 fg_147_0
      refine ev_i rfl ?_
      rw [e]
      exact ev_b out_s rfl
    · show fm_433 N (.ref 174) (nI b) h (fx W2 J2 (outL L (nI (suN (hgN I h Oc) m)).toInt64) R ++ tl) = _
      have t1 : W2 174 1 = .int (nI n) := (k2.1 174 1 (by decide)).trans b3
      unfold fm_433 fg_433_0
      refine ev_i rfl (ev_cI (r_358 t1 b1 hb) (ev_f (by decide) ?_))
      unfold fg_433_14
      exact ev_b qp_174_0 (ev_b (a := 0) rfl (ev_t (by decide) (ev_i rfl (ev_cV e5 e6))))
    · rw [f6.1 174 0 (fun _ => by decide), dk_o (fun _ => by decide)]
      exact vup_eq
