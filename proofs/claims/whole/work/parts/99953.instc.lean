/-! ===== trees out of code: an instruction on the pile, in the class ===== -/
def outC (L : Nat → Nat → Int64) (tl : am_H) (V : Nat → Nat → Value) (I : Nat → Nat → Int32) (R : Nat → Nat → Option Nat) (x : Nat) (v : Int32) (st : List xT) (o : Option am_O) : Prop := ∃ W J R' q', frCl V W I J ∧ (∀ y, y ≠ 140 → R' y = R y) ∧ pqR R' q' ∧ ((∃ st', o = some (.inl (some (.int 1), fx W J L R' ++ tl)) ∧ stpT x v st st' ∧ cSt W J q' st') ∨ (o = some (.inl (some (.int 0), fx W J L R' ++ tl)) ∧ ∀ st', ¬ stpT x v st st'))
theorem pq_ne {R : Nat → Nat → Option Nat} {q : Nat → Nat} {i j : Nat} (hq : pqR R q) (hi : i < 8) (hj : j < 8) (n : i ≠ j) : 148 + 2 * q i ≠ 148 + 2 * q j := fun e => n (hq.2 i j hi hj (by omega))
set_option maxRecDepth 100000 in
set_option maxHeartbeats 4000000 in
theorem t352 {V : Nat → Nat → Value} {I : Nat → Nat → Int32} {L : Nat → Nat → Int64} {R : Nat → Nat → Option Nat} {tl : am_H} {N x n m : Nat} (h : V 131 3 = .int (nI n)) (hx : x < 19) (h1 : tkN x ≤ n) (hm : n - tkN x + ptN x = m) : fg_294_352 N (.ref 131) (nI x) (fx V I L R ++ tl) = some (.inl (some (.int 1), fx (vup V 131 3 (.int (nI m))) I L R ++ tl)) := by
  apply hd_294_352
  refine ev_b (rdI h) (ev_cI (pe_55 _ _) ?_)
  rw [gr55 hx h1, hm]
  exact ev_b qp_131_3 rfl
set_option maxRecDepth 100000 in
set_option maxHeartbeats 4000000 in
theorem i294_0 {V : Nat → Nat → Value} {I : Nat → Nat → Int32} {L : Nat → Nat → Int64} {R : Nat → Nat → Option Nat} {tl : am_H} {N x : Nat} {v : Int32} {q : Nat → Nat} {st : List xT} (hN : 400 < N) (w : wt V) (hq : pqR R q) (h : cSt V I q st) (hx : x < 5) (hl : st.length ≤ 7) : outC L tl V I R x v st (fm_294 N (.ref 131) (nI x) v (fx V I L R ++ tl)) := by
  obtain ⟨h1, h2, h3⟩ := h
  obtain ⟨p1, p2⟩ := hq.1 st.length (by omega)
  have tk : tkN x = 0 := if_pos hx
  have pt : ptN x = 1 := if_pos (by omega)
  obtain ⟨W1, J1, e1, d1, f1⟩ := s34_p (V := V) (I := I) (L := L) (R := R) (tl := tl) p1 (kd := 0) (ln := 0) 0 0 rfl rfl (by omega) (by omega)
  obtain ⟨W2, J2, e2, d2, f2⟩ := s41_p (L := L) (R := R) (tl := tl) p1 (N := N) (a := x) (b := v) (by omega) d1 (by decide) (nI x) rfl
  have h11 : W1 131 3 = .int (nI st.length) := (f1.1 131 3 (by omega)).trans h1
  have h12 : W2 131 3 = .int (nI st.length) := (f2.1 131 3 (by omega)).trans h11
  have f := fr1_t f1 f2
  refine ⟨vup W2 131 3 (.int (nI (st.length + 1))), J2, R, q, frCl_t (frCl_p p1 f) frCl_3, fun _ _ => rfl, hq, .inl ⟨[(x, v)] :: st, ?_, .inl ⟨hx, rfl⟩, rfl, lvC_p (hold_3 (by omega) d2) (lvC_m h2 (fun i T hi hT => hold_3 (by omega) (hold_f f (pq_ne hq (by omega) (by omega) (by omega)) hT))), fun T hT => ?_⟩⟩
  · have H1 : tkN x ≤ st.length := by omega
    have H2 : st.length - tkN x + ptN x ≤ 8 := by omega
    apply hm_294
    apply hd_294_0
    refine ev_b (rdI h1) (ev_cI (pe_56 _ _) ?_)
    rw [(tk56 x (by omega)).1]
    refine ev_f (nI_nlt H1 (by omega)) (ev_b (rdI h1) (ev_cI (pe_55 _ _) ?_))
    rw [gr55 (by omega) H1]
    refine ev_f (nI_nlt (a := 8) H2 (by decide)) (ev_t (show nI x < (17 : Int32) by simp (disch := omega) only [i_17, nI_ltI]; omega) ?_)
    exact ev_f (show ¬ (4 : Int32) < nI x by simp (disch := omega) only [i_4, nI_ltI]; omega) (ev_b (rdR rfl) (ev_b (rdI h1) (ev_b (g140 (by omega) p2 _ rfl) (ev_i (k_p p1) (ev_cV e1 (ev_b (rdR rfl) (ev_b (rdI h11) (ev_b (g140 (by omega) p2 _ rfl) (ev_i (k_p p1) (ev_cI e2 (t352 h12 (by omega) H1 (by omega))))))))))))
  · cases hT with
    | head => exact okV_1 hx
    | tail _ hT => exact h3 T hT
set_option maxRecDepth 100000 in
set_option maxHeartbeats 4000000 in
theorem t160 {V : Nat → Nat → Value} {I : Nat → Nat → Int32} {L : Nat → Nat → Int64} {R : Nat → Nat → Option Nat} {tl : am_H} {N x n n' m : Nat} {q : Nat → Nat} {D : xT} (hN : 400 < N) (w : wt V) (hq : pqR R q) (h1 : V 131 3 = .int (nI n)) (h : hold V I 141 0 0 D) (hl : D.length ≤ 60) (h0 : 0 < D.length) (hX : okX [(truN (xS D 0), 1, 0)] (sl D)) (hm : 1 ≤ m ∧ m ≤ n ∧ n ≤ 8) (hx : x < 19) (ht : tkN x ≤ n) (hn : n - tkN x + ptN x = n') : ∃ W J b, fg_294_160 N (.ref 131) (nI x) (nI m) (fx V I L R ++ tl) = some (.inl (some (.int (bI b)), fx W J L R ++ tl)) ∧ (b = true ↔ okV D) ∧ (b = true → hold W J (148 + 2 * q (n - m)) 0 0 D ∧ W 131 3 = .int (nI n')) ∧ (∀ C P, 138 < C → C ≠ 148 + 2 * q (n - m) → hold V I C 0 0 P → hold W J C 0 0 P) ∧ frCl V W I J := by
  obtain ⟨p1, p2⟩ := hq.1 (n - m) (by omega)
  have es : nI n - nI m = nI (n - m) := nI_sub hm.2.1
  obtain ⟨J1, d, e1, g1, b1, f1⟩ := d75 (L := L) (R := R) (tl := tl) hN (srcP_141 (L := L) (R := R) (tl := tl) w h (by omega) (by omega) hl) (by omega) (by omega) h0 hX
  have F1 : frCl V (vup V 132 7 (.int (nI D.length))) I J1 := frCl_7 f1
  have h11 : vup V 132 7 (.int (nI D.length)) 131 3 = .int (nI n) := (vup_o (by decide)).trans h1
  by_cases c : d ≤ 12
  case neg =>
    refine ⟨_, J1, false, ?_, ⟨fun e => Bool.noConfusion e, fun h => absurd (g1.mpr h) c⟩, fun e => Bool.noConfusion e, fun C P a _ h => hold_7 f1 a h, F1⟩
    apply hd_294_160
    exact ev_b (rdR rfl) (ev_i rfl (ev_cI e1 (ev_f (nI_ge (b := d) (a := 12) (by omega) (by omega)) rfl)))
  obtain ⟨W2, J2, e2, d2, f2⟩ := s60_p (L := L) (R := R) (tl := tl) p1 (srcP_141 (L := L) (R := R) (tl := tl) (F1.2.2 w) (hold_7 f1 (by omega) h) (by omega) (by omega) hl) (by omega)
  have h12 : W2 131 3 = .int (nI n) := (f2.1 131 3 (by omega)).trans h11
  refine ⟨_, J2, true, ?_, ⟨fun _ => g1.mp c, fun _ => rfl⟩, fun _ => ⟨hold_3 (by omega) d2, rfl⟩, fun C P a b h => hold_3 (by omega) (hold_f f2 b (hold_7 f1 a h)), frCl_t F1 (frCl_t (frCl_p p1 f2) frCl_3)⟩
  apply hd_294_160
  exact ev_b (rdR rfl) (ev_i rfl (ev_cI e1 (ev_t (nI_le (a := d) (b := 12) c (by omega)) (ev_b (rdR rfl) (ev_b (rdI h11) (ev_b (g140 (by omega) p2 _ es) (ev_b (rdR rfl) (ev_i (k_p p1) (ev_cV e2 (t352 h12 hx ht hn))))))))))
set_option maxRecDepth 100000 in
set_option maxHeartbeats 4000000 in
theorem i294_5 {V : Nat → Nat → Value} {I : Nat → Nat → Int32} {L : Nat → Nat → Int64} {R : Nat → Nat → Option Nat} {tl : am_H} {N x : Nat} {v : Int32} {q : Nat → Nat} {st : List xT} (hN : 400 < N) (w : wt V) (hq : pqR R q) (h : cSt V I q st) (hx : 5 ≤ x ∧ x < 7) (hl : st.length ≤ 8) (h0 : 1 ≤ st.length) : outC L tl V I R x v st (fm_294 N (.ref 131) (nI x) v (fx V I L R ++ tl)) := by
  obtain ⟨h1, h2, h3⟩ := h
  cases st with
  | nil => exact absurd h0 (by show ¬ 1 ≤ 0; omega)
  | cons S r =>
    obtain ⟨t1, t2⟩ := lvC_t h2
    rw [List.length_cons] at hl h1
    obtain ⟨p1, p2⟩ := hq.1 r.length (by omega)
    have tk : tkN x = 1 := by unfold tkN; rw [if_neg (by omega), if_pos hx.2]
    have pt : ptN x = 1 := if_pos (by omega)
    have H1 : tkN x ≤ r.length + 1 := by omega
    have H2 : r.length + 1 - tkN x + ptN x ≤ 8 := by omega
    have hS := h3 S (List.mem_cons_self ..)
    obtain ⟨i1, i2, i3⟩ := okV_i hS
    obtain ⟨W1, J1, e1, d1, f1⟩ := s34_141 (V := V) (I := I) (L := L) (R := R) (tl := tl) (kd := 0) (ln := 0) 0 0 rfl rfl (by omega) (by omega)
    obtain ⟨W2, J2, e2, d2, f2⟩ := s41_141 (L := L) (R := R) (tl := tl) (N := N) (a := x + 2) (b := 0) (by omega) d1 (by decide) (nI x + 2) (nI_p2 x)
    have f12 := fr1_t f1 f2
    have h12 : W2 131 3 = .int (nI (r.length + 1)) := (f12.1 131 3 (by omega)).trans h1
    have ss := srcP_p (L := L) (R := R) (tl := tl) p1 (f12.2.2 w) (hold_f f12 (by omega) t1) (by omega) (by omega) hS.1
    obtain ⟨cA, cB⟩ := c_295_141 (L := L) (R := R) (tl := tl) (Q := [(x + 2, 0)]) hN ss (by omega) (by omega) d2 (by show 1 ≤ 60; omega) i2 (i3 0 i2)
    have es : nI (r.length + 1) - nI 1 = nI r.length := nI_sub (b := 1) (by omega)
    have st0 : ∀ o, fg_294_108 N (.ref 131) (nI x) (nI 1) (.ref 141) (nI x + 2) (fx W1 J1 L R ++ tl) = o → fm_294 N (.ref 131) (nI x) v (fx V I L R ++ tl) = o := fun o k_ => by
      apply hm_294
      apply hd_294_0
      refine ev_b (rdI h1) (ev_cI (pe_56 _ _) ?_)
      rw [(tk56 x (by omega)).1]
      refine ev_f (nI_nlt H1 (by omega)) (ev_b (rdI h1) (ev_cI (pe_55 _ _) ?_))
      rw [gr55 (by omega) H1]
      refine ev_f (nI_nlt (a := 8) H2 (by decide)) (ev_t (show nI x < (17 : Int32) by simp (disch := omega) only [i_17, nI_ltI]; omega) ?_)
      refine ev_t (show (4 : Int32) < nI x by simp (disch := omega) only [i_4, nI_ltI]; omega) (ev_f (show ¬ (13 : Int32) < nI x by simp (disch := omega) only [i_13, nI_ltI]; omega) (ev_cI (pe_56 _ _) ?_))
      rw [(tk56 x (by omega)).1, tk]
      exact ev_b (rdR rfl) (ev_i rfl (ev_cV e1 (ev_b (rdR rfl) (ev_f (fun h => h rfl) k_))))
    have no : ∀ W J R' q', frCl V W I J → (∀ y, y ≠ 140 → R' y = R y) → pqR R' q' → fm_294 N (.ref 131) (nI x) v (fx V I L R ++ tl) = some (.inl (some (.int 0), fx W J L R' ++ tl)) → ¬ okV (jn1 (x + 2) S) → outC L tl V I R x v (S :: r) (fm_294 N (.ref 131) (nI x) v (fx V I L R ++ tl)) := fun W J R' q' F a b e n => ⟨W, J, R', q', F, a, b, .inr ⟨e, fun st' hs => by
      obtain ⟨T, r', e1, e2, e3⟩ := (stp_no hs).2.1 hx.1 hx.2
      injection e1 with e1 e4
      subst e1
      exact n e2⟩⟩
    by_cases c : 1 + (wrT S).length ≤ 60
    case neg =>
      obtain ⟨W3, J3, e3, f3⟩ := cB (by show 60 < 1 + _; omega)
      refine no W3 J3 R q (frCl_t (frCl_4 f12) (frCl_4 f3)) (fun _ _ => rfl) hq (st0 _ ?_) (fun h => ?_)
      · apply hd_294_108
        exact ev_i rfl (ev_cI e2 (ev_b (rdR rfl) (ev_b (rdR rfl) (ev_b (rdI h12) (ev_b (g140 (by omega) p2 _ es) (ev_cI e3 (ev_t rfl rfl)))))))
      · have := h.1
        unfold jn1 at this
        rw [List.length_cons] at this
        omega
    obtain ⟨W3, J3, e3, d3, f3⟩ := cA (by show 1 + _ ≤ 60; exact c)
    have f13 := fr1_t f12 f3
    have h13 : W3 131 3 = .int (nI (r.length + 1)) := (f13.1 131 3 (by omega)).trans h1
    have d3 : hold W3 J3 141 0 0 (jn1 (x + 2) S) := d3
    have l3 : (jn1 (x + 2) S).length ≤ 60 := by unfold jn1; rw [List.length_cons]; omega
    obtain ⟨W4, J4, b, e4, g4, k4, m4, f4⟩ := t160 (L := L) (R := R) (tl := tl) (n := r.length + 1) (n' := r.length + 1) (m := 1) (x := x) hN (f13.2.2 w) hq h13 d3 l3 (by unfold jn1; rw [List.length_cons]; omega) (okX_1 (a := x + 2) (by omega) hS) (by omega) (by omega) H1 (by omega)
    have run : fm_294 N (.ref 131) (nI x) v (fx V I L R ++ tl) = some (.inl (some (.int (bI b)), fx W4 J4 L R ++ tl)) := by
      refine st0 _ ?_
      apply hd_294_108
      exact ev_i rfl (ev_cI e2 (ev_b (rdR rfl) (ev_b (rdR rfl) (ev_b (rdI h12) (ev_b (g140 (by omega) p2 _ es) (ev_cI e3 (ev_f (by decide) (ev_t (by decide) e4))))))))
    have F := frCl_t (frCl_4 f13) f4
    cases b with
    | false => exact no W4 J4 R q F (fun _ _ => rfl) hq run (fun h => Bool.noConfusion (g4.mpr h))
    | true =>
      obtain ⟨k1, k2⟩ := k4 rfl
      have k1 : hold W4 J4 (148 + 2 * q r.length) 0 0 (jn1 (x + 2) S) := k1
      refine ⟨W4, J4, R, q, F, fun _ _ => rfl, hq, .inl ⟨jn1 (x + 2) S :: r, run, .inr (.inl ⟨hx.1, hx.2, S, r, rfl, g4.mp rfl, rfl⟩), k2, lvC_p k1 (lvC_m t2 (fun i T hi hT => m4 _ _ (by omega) (pq_ne hq (by omega) (by omega) (by omega)) (hold_f f13 (by omega) hT))), fun T hT => ?_⟩⟩
      cases hT with
      | head => exact g4.mp rfl
      | tail _ hT => exact h3 T (List.mem_cons_of_mem _ hT)
