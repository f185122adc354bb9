/-! ===== trees out of code: the other instructions, in the class ===== -/
set_option maxRecDepth 100000 in
set_option maxHeartbeats 4000000 in
theorem i294_7 {V : Nat → Nat → Value} {I : Nat → Nat → Int32} {L : Nat → Nat → Int64} {R : Nat → Nat → Option Nat} {tl : am_H} {N x : Nat} {v : Int32} {q : Nat → Nat} {st : List xT} (hN : 400 < N) (w : wt V) (hq : pqR R q) (h : cSt V I q st) (hx : 7 ≤ x ∧ x < 14) (hl : st.length ≤ 8) (h0 : 2 ≤ st.length) : outC L tl V I R x v st (fm_294 N (.ref 131) (nI x) v (fx V I L R ++ tl)) := by
  obtain ⟨h1, h2, h3⟩ := h
  cases st with
  | nil => exact absurd h0 (by show ¬ 2 ≤ 0; omega)
  | cons Q r0 => cases r0 with
    | nil => exact absurd h0 (by show ¬ 2 ≤ 1; omega)
    | cons S r =>
      obtain ⟨t1, t2⟩ := lvC_t h2
      obtain ⟨u1, u2⟩ := lvC_t t2
      rw [List.length_cons, List.length_cons] at hl h1
      rw [List.length_cons] at t1
      obtain ⟨p1, p2⟩ := hq.1 r.length (by omega)
      obtain ⟨p3, p4⟩ := hq.1 (r.length + 1) (by omega)
      have tk : tkN x = 2 := by unfold tkN; rw [if_neg (by omega), if_neg (by omega), if_pos hx.2]
      have pt : ptN x = 1 := if_pos (by omega)
      have H1 : tkN x ≤ r.length + 1 + 1 := by omega
      have H2 : r.length + 1 + 1 - tkN x + ptN x ≤ 8 := by omega
      have hQ := h3 Q (List.mem_cons_self ..)
      have hS := h3 S (List.mem_cons_of_mem _ (List.mem_cons_self ..))
      obtain ⟨i1, i2, i3⟩ := okV_i hS
      obtain ⟨j1, j2, j3⟩ := okV_i hQ
      obtain ⟨W1, J1, e1, d1, f1⟩ := s34_141 (V := V) (I := I) (L := L) (R := R) (tl := tl) (kd := 0) (ln := 0) 0 0 rfl rfl (by omega) (by omega)
      obtain ⟨W2, J2, e2, d2, f2⟩ := s41_141 (L := L) (R := R) (tl := tl) (N := N) (a := x + 3) (b := 0) (by omega) d1 (by decide) (nI x + 3) (nI_p3 x)
      have f12 := fr1_t f1 f2
      have h12 : W2 131 3 = .int (nI (r.length + 1 + 1)) := (f12.1 131 3 (by omega)).trans h1
      have ss := srcP_p (L := L) (R := R) (tl := tl) p1 (f12.2.2 w) (hold_f f12 (by omega) u1) (by omega) (by omega) hS.1
      obtain ⟨cA, cB⟩ := c_295_141 (L := L) (R := R) (tl := tl) (Q := [(x + 3, 0)]) hN ss (by omega) (by omega) d2 (by show 1 ≤ 60; omega) i2 (i3 0 i2)
      have es : nI (r.length + 1 + 1) - nI 2 = nI r.length := nI_sub (b := 2) (by omega)
      have es1 : nI (r.length + 1 + 1) - 1 = nI (r.length + 1) := nI_sub (b := 1) (by omega)
      have st0 : ∀ o, fg_294_108 N (.ref 131) (nI x) (nI 2) (.ref 141) (nI x + 3) (fx W1 J1 L R ++ tl) = o → fm_294 N (.ref 131) (nI x) v (fx V I L R ++ tl) = o := fun o k_ => by
        apply hm_294
        apply hd_294_0
        refine ev_b (rdI h1) (ev_cI (pe_56 _ _) ?_)
        rw [(tk56 x (by omega)).1]
        refine ev_f (nI_nlt H1 (by omega)) (ev_b (rdI h1) (ev_cI (pe_55 _ _) ?_))
        rw [gr55 (by omega) H1]
        refine ev_f (nI_nlt (a := 8) H2 (by decide)) (ev_t (show nI x < (17 : Int32) by simp (disch := omega) only [i_17, nI_ltI]; omega) ?_)
        refine ev_t (show (4 : Int32) < nI x by simp (disch := omega) only [i_4, nI_ltI]; omega) (ev_f (show ¬ (13 : Int32) < nI x by simp (disch := omega) only [i_13, nI_ltI]; omega) (ev_cI (pe_56 _ _) ?_))
        rw [(tk56 x (by omega)).1, tk]
        exact ev_b (rdR rfl) (ev_i rfl (ev_cV e1 (ev_b (rdR rfl) (ev_t (by decide) k_))))
      have no : ∀ W J R' q', frCl V W I J → (∀ y, y ≠ 140 → R' y = R y) → pqR R' q' → fm_294 N (.ref 131) (nI x) v (fx V I L R ++ tl) = some (.inl (some (.int 0), fx W J L R' ++ tl)) → ¬ okV (jn2 (x + 3) S Q) → outC L tl V I R x v (Q :: S :: r) (fm_294 N (.ref 131) (nI x) v (fx V I L R ++ tl)) := fun W J R' q' F a b e n => ⟨W, J, R', q', F, a, b, .inr ⟨e, fun st' hs => by
        obtain ⟨T, S', r', e1, e2, e3⟩ := (stp_no hs).2.2.1 hx.1 hx.2
        injection e1 with e1 e4
        injection e4 with e4 e5
        subst e1
        subst e4
        exact n e2⟩⟩
      have lj : (jn2 (x + 3) S Q).length = 1 + (wrT S).length + (wrT Q).length := by unfold jn2; rw [List.length_cons, List.length_append]; omega
      by_cases c : 1 + (wrT S).length ≤ 60
      case neg =>
        obtain ⟨W3, J3, e3, f3⟩ := cB (by show 60 < 1 + _; omega)
        refine no W3 J3 R q (frCl_t (frCl_4 f12) (frCl_4 f3)) (fun _ _ => rfl) hq (st0 _ ?_) (fun h => ?_)
        · apply hd_294_108
          exact ev_i rfl (ev_cI e2 (ev_b (rdR rfl) (ev_b (rdR rfl) (ev_b (rdI h12) (ev_b (g140 (by omega) p2 _ es) (ev_cI e3 (ev_t rfl rfl)))))))
        · have := h.1
          omega
      obtain ⟨W3, J3, e3, d3, f3⟩ := cA (by show 1 + _ ≤ 60; exact c)
      have f13 := fr1_t f12 f3
      have h13 : W3 131 3 = .int (nI (r.length + 1 + 1)) := (f13.1 131 3 (by omega)).trans h1
      have ss3 := srcP_p (L := L) (R := R) (tl := tl) p3 (f13.2.2 w) (hold_f f13 (by omega) t1) (by omega) (by omega) hQ.1
      have l3 : ([(x + 3, 0)] ++ wrT S).length = 1 + (wrT S).length := by rw [List.length_append]; rfl
      obtain ⟨cA', cB'⟩ := c_295_141 (L := L) (R := R) (tl := tl) hN ss3 (by omega) (by omega) d3 (by rw [l3]; exact c) j2 (j3 0 j2)
      rw [l3] at cA' cB'
      by_cases c' : 1 + (wrT S).length + (wrT Q).length ≤ 60
      case neg =>
        obtain ⟨W4, J4, e4, f4⟩ := cB' (by omega)
        refine no W4 J4 R q (frCl_t (frCl_4 f13) (frCl_4 f4)) (fun _ _ => rfl) hq (st0 _ ?_) (fun h => ?_)
        · apply hd_294_108
          exact ev_i rfl (ev_cI e2 (ev_b (rdR rfl) (ev_b (rdR rfl) (ev_b (rdI h12) (ev_b (g140 (by omega) p2 _ es) (ev_cI e3 (ev_f (by decide) (ev_f (by decide) (ev_b (rdR rfl) (ev_b (rdR rfl) (ev_b (rdI h13) (ev_b (g140 (by omega) p4 _ es1) (ev_cI e4 (ev_t rfl rfl))))))))))))))
        · have := h.1
          omega
      obtain ⟨W4, J4, e4, d4, f4⟩ := cA' c'
      have f14 := fr1_t f13 f4
      have h14 : W4 131 3 = .int (nI (r.length + 1 + 1)) := (f14.1 131 3 (by omega)).trans h1
      have d4 : hold W4 J4 141 0 0 (jn2 (x + 3) S Q) := d4
      obtain ⟨W5, J5, b, e5, g5, k5, m5, f5⟩ := t160 (L := L) (R := R) (tl := tl) (n := r.length + 1 + 1) (n' := r.length + 1) (m := 2) (x := x) hN (f14.2.2 w) hq h14 d4 (by omega) (by omega) (okX_2 (a := x + 3) (by omega) hS hQ) (by omega) (by omega) H1 (by omega)
      have run : fm_294 N (.ref 131) (nI x) v (fx V I L R ++ tl) = some (.inl (some (.int (bI b)), fx W5 J5 L R ++ tl)) := by
        refine st0 _ ?_
        apply hd_294_108
        exact ev_i rfl (ev_cI e2 (ev_b (rdR rfl) (ev_b (rdR rfl) (ev_b (rdI h12) (ev_b (g140 (by omega) p2 _ es) (ev_cI e3 (ev_f (by decide) (ev_f (by decide) (ev_b (rdR rfl) (ev_b (rdR rfl) (ev_b (rdI h13) (ev_b (g140 (by omega) p4 _ es1) (ev_cI e4 (ev_f (by decide) e5))))))))))))))
      have F := frCl_t (frCl_4 f14) f5
      cases b with
      | false => exact no W5 J5 R q F (fun _ _ => rfl) hq run (fun h => Bool.noConfusion (g5.mpr h))
      | true =>
        obtain ⟨k1, k2⟩ := k5 rfl
        have k1 : hold W5 J5 (148 + 2 * q r.length) 0 0 (jn2 (x + 3) S Q) := k1
        have m5 : ∀ C P, 138 < C → C ≠ 148 + 2 * q r.length → hold W4 J4 C 0 0 P → hold W5 J5 C 0 0 P := m5
        refine ⟨W5, J5, R, q, F, fun _ _ => rfl, hq, .inl ⟨jn2 (x + 3) S Q :: r, run, .inr (.inr (.inl ⟨hx.1, hx.2, Q, S, r, rfl, g5.mp rfl, rfl⟩)), k2, lvC_p k1 (lvC_m u2 (fun i T hi hT => m5 _ _ (by omega) (pq_ne hq (by omega) (by omega) (by omega)) (hold_f f14 (by omega) hT))), fun T hT => ?_⟩⟩
        cases hT with
        | head => exact g5.mp rfl
        | tail _ hT => exact h3 T (List.mem_cons_of_mem _ (List.mem_cons_of_mem _ hT))
set_option maxRecDepth 100000 in
set_option maxHeartbeats 4000000 in
theorem i294_14 {V : Nat → Nat → Value} {I : Nat → Nat → Int32} {L : Nat → Nat → Int64} {R : Nat → Nat → Option Nat} {tl : am_H} {N x : Nat} {v : Int32} {q : Nat → Nat} {st : List xT} (hN : 400 < N) (w : wt V) (hq : pqR R q) (h : cSt V I q st) (hx : x = 14) (hl : st.length ≤ 7) (h0 : 1 ≤ st.length) : outC L tl V I R x v st (fm_294 N (.ref 131) (nI x) v (fx V I L R ++ tl)) := by
  obtain ⟨h1, h2, h3⟩ := h
  cases st with
  | nil => exact absurd h0 (by show ¬ 1 ≤ 0; omega)
  | cons S r =>
    obtain ⟨t1, t2⟩ := lvC_t h2
    rw [List.length_cons] at hl h1
    obtain ⟨p1, p2⟩ := hq.1 r.length (by omega)
    obtain ⟨p3, p4⟩ := hq.1 (r.length + 1) (by omega)
    have tk : tkN x = 1 := by rw [hx]; rfl
    have pt : ptN x = 2 := by rw [hx]; rfl
    have H1 : tkN x ≤ r.length + 1 := by omega
    have H2 : r.length + 1 - tkN x + ptN x ≤ 8 := by omega
    have hS := h3 S (List.mem_cons_self ..)
    have es : nI (r.length + 1) - 1 = nI r.length := nI_sub (b := 1) (by omega)
    have ne := pq_ne hq (i := r.length) (j := r.length + 1) (by omega) (by omega) (by omega)
    obtain ⟨W1, J1, e1, d1, f1⟩ := s60_p (L := L) (R := R) (tl := tl) p3 (srcP_p (L := L) (R := R) (tl := tl) p1 w t1 (by omega) (by omega) hS.1) ne
    have h11 : W1 131 3 = .int (nI (r.length + 1)) := (f1.1 131 3 (by omega)).trans h1
    refine ⟨vup W1 131 3 (.int (nI (r.length + 1 + 1))), J1, R, q, frCl_t (frCl_p p3 f1) frCl_3, fun _ _ => rfl, hq, .inl ⟨S :: S :: r, ?_, .inr (.inr (.inr (.inl ⟨hx, S, r, rfl, rfl⟩))), rfl, lvC_p (hold_3 (by omega) d1) (lvC_p (hold_3 (by omega) (hold_f f1 ne t1)) (lvC_m t2 (fun i T hi hT => hold_3 (by omega) (hold_f f1 (pq_ne hq (by omega) (by omega) (by omega)) hT)))), fun T hT => ?_⟩⟩
    ·
      apply hm_294
      apply hd_294_0
      refine ev_b (rdI h1) (ev_cI (pe_56 _ _) ?_)
      rw [(tk56 x (by omega)).1]
      refine ev_f (nI_nlt H1 (by omega)) (ev_b (rdI h1) (ev_cI (pe_55 _ _) ?_))
      rw [gr55 (by omega) H1]
      refine ev_f (nI_nlt (a := 8) H2 (by decide)) (ev_t (show nI x < (17 : Int32) by simp (disch := omega) only [i_17, nI_ltI]; omega) ?_)
      exact ev_t (show (4 : Int32) < nI x by simp (disch := omega) only [i_4, nI_ltI]; omega) (ev_t (show (13 : Int32) < nI x by simp (disch := omega) only [i_13, nI_ltI]; omega) (ev_f (fun h => h (by rw [hx]; rfl)) (ev_b (rdR rfl) (ev_b (rdI h1) (ev_b (g140 (by omega) p4 _ rfl) (ev_b (rdR rfl) (ev_b (rdI h1) (ev_b (g140 (by omega) p2 _ es) (ev_i (k_p p3) (ev_cV e1 (t352 h11 (by omega) H1 (by omega))))))))))))
    · cases hT with
      | head => exact hS
      | tail _ hT => exact h3 T hT
set_option maxRecDepth 100000 in
set_option maxHeartbeats 4000000 in
theorem i294_16 {V : Nat → Nat → Value} {I : Nat → Nat → Int32} {L : Nat → Nat → Int64} {R : Nat → Nat → Option Nat} {tl : am_H} {N x : Nat} {v : Int32} {q : Nat → Nat} {st : List xT} (hN : 400 < N) (w : wt V) (hq : pqR R q) (h : cSt V I q st) (hx : x = 16) (hl : st.length ≤ 8) (h0 : 1 ≤ st.length) : outC L tl V I R x v st (fm_294 N (.ref 131) (nI x) v (fx V I L R ++ tl)) := by
  obtain ⟨h1, h2, h3⟩ := h
  cases st with
  | nil => exact absurd h0 (by show ¬ 1 ≤ 0; omega)
  | cons S r =>
    obtain ⟨t1, t2⟩ := lvC_t h2
    rw [List.length_cons] at hl h1
    obtain ⟨p1, p2⟩ := hq.1 r.length (by omega)
    have tk : tkN x = 1 := by rw [hx]; rfl
    have pt : ptN x = 0 := by rw [hx]; rfl
    have H1 : tkN x ≤ r.length + 1 := by omega
    have H2 : r.length + 1 - tkN x + ptN x ≤ 8 := by omega
    have hS := h3 S (List.mem_cons_self ..)
    have es : nI (r.length + 1) - 1 = nI r.length := nI_sub (b := 1) (by omega)
    have k20 := k20_l.mp (okV_i hS).2.2
    have ss := srcP_p (L := L) (R := R) (tl := tl) p1 w t1 (by omega) (by omega) hS.1
    obtain ⟨o1, o2, -, -, o5⟩ := src_ok (L := L) (R := R) ss
    obtain ⟨b, e, g⟩ := s279 (L := L) (R := R) (tl := tl) hN ss k20
    have st0 : ∀ o, (if ¬ bI b = 0 then (fg_294_300 N (.ref 131) (nI x) (fx V I L R ++ tl)) else (fg_294_298 N (fx V I L R ++ tl))) = o → fm_294 N (.ref 131) (nI x) v (fx V I L R ++ tl) = o := fun o k_ => by
      apply hm_294
      apply hd_294_0
      refine ev_b (rdI h1) (ev_cI (pe_56 _ _) ?_)
      rw [(tk56 x (by omega)).1]
      refine ev_f (nI_nlt H1 (by omega)) (ev_b (rdI h1) (ev_cI (pe_55 _ _) ?_))
      rw [gr55 (by omega) H1]
      refine ev_f (nI_nlt (a := 8) H2 (by decide)) (ev_t (show nI x < (17 : Int32) by simp (disch := omega) only [i_17, nI_ltI]; omega) ?_)
      refine ev_t (show (4 : Int32) < nI x by simp (disch := omega) only [i_4, nI_ltI]; omega) (ev_t (show (13 : Int32) < nI x by simp (disch := omega) only [i_13, nI_ltI]; omega) (ev_t (by rw [hx]; decide) (ev_b (rdR rfl) (ev_b (rdI h1) (ev_b (g140 (by omega) p2 _ es) (ev_b (rdR rfl) (ev_b (rdI h1) (ev_b (g140 (by omega) p2 _ es) (ev_b o2 (ev_i o1 (ev_cI e ?_)))))))))))
      by_cases c : ¬ bI b = 0
      · rw [if_pos c] at k_ ⊢
        exact k_
      · rw [if_neg c] at k_ ⊢
        exact ev_t (by rw [hx]; rfl) k_
    cases b with
    | false =>
      refine ⟨V, I, R, q, frCl_r, fun _ _ => rfl, hq, .inr ⟨st0 _ (ev_f (fun h => h rfl) rfl), fun st' hs => ?_⟩⟩
      obtain ⟨T, r', e1, e2, e3⟩ := (stp_no hs).2.2.2.2.2 hx
      injection e1 with e1 e4
      subst e1
      exact Bool.noConfusion (g.mpr e2)
    | true =>
      refine ⟨vup V 131 3 (.int (nI r.length)), I, R, q, frCl_3, fun _ _ => rfl, hq, .inl ⟨r, st0 _ (ev_t (by decide) ?_), .inr (.inr (.inr (.inr (.inr ⟨hx, S, r, rfl, g.mp rfl, rfl⟩)))), rfl, lvC_m t2 (fun i T hi hT => hold_3 (by omega) hT), fun T hT => h3 T (List.mem_cons_of_mem _ hT)⟩⟩
      apply hd_294_300
      exact ev_t (by rw [hx]; decide) (t352 h1 (by omega) H1 (by omega))
def swq (q : Nat → Nat) (n : Nat) : Nat → Nat := fun k => if k = n then q (n + 1) else if k = n + 1 then q n else q k
theorem swq_0 {q : Nat → Nat} {n : Nat} : swq q n n = q (n + 1) := if_pos rfl
theorem swq_1 {q : Nat → Nat} {n : Nat} : swq q n (n + 1) = q n := by unfold swq; rw [if_neg (by omega), if_pos rfl]
theorem swq_o {q : Nat → Nat} {n k : Nat} (h : k ≠ n) (g : k ≠ n + 1) : swq q n k = q k := by unfold swq; rw [if_neg h, if_neg g]
def swR (R : Nat → Nat → Option Nat) (q : Nat → Nat) (n : Nat) : Nat → Nat → Option Nat := rup (rup R 140 (va_up (R 140) (n + 1) (some (148 + 2 * q n)))) 140 (va_up (va_up (R 140) (n + 1) (some (148 + 2 * q n))) n (some (148 + 2 * q (n + 1))))
theorem sw_R {R : Nat → Nat → Option Nat} {q : Nat → Nat} {n : Nat} (h : pqR R q) (hn : n + 1 < 8) : pqR (swR R q n) (swq q n) ∧ ∀ y, y ≠ 140 → swR R q n y = R y := by
  refine ⟨⟨fun k hk => ?_, fun i j hi hj e => ?_⟩, fun y hy => ?_⟩
  · have e : swR R q n 140 k = va_up (va_up (R 140) (n + 1) (some (148 + 2 * q n))) n (some (148 + 2 * q (n + 1))) k := rfl
    rw [e]
    by_cases c : k = n
    · subst c
      rw [va_eq, swq_0]
      exact ⟨(h.1 _ hn).1, rfl⟩
    · rw [va_ne c]
      by_cases c1 : k = n + 1
      · subst c1
        rw [va_eq, swq_1]
        exact ⟨(h.1 n (by omega)).1, rfl⟩
      · rw [va_ne c1, swq_o c c1]
        exact h.1 k hk
  · by_cases a : i = n
    · by_cases b : j = n
      · omega
      · by_cases b1 : j = n + 1
        · rw [a, b1, swq_0, swq_1] at e
          have := h.2 (n + 1) n hn (by omega) e
          omega
        · rw [a, swq_0, swq_o b b1] at e
          have := h.2 (n + 1) j hn hj e
          omega
    · by_cases a1 : i = n + 1
      · by_cases b : j = n
        · rw [a1, b, swq_0, swq_1] at e
          have := h.2 n (n + 1) (by omega) hn e
          omega
        · by_cases b1 : j = n + 1
          · omega
          · rw [a1, swq_1, swq_o b b1] at e
            have := h.2 n j (by omega) hj e
            omega
      · rw [swq_o a a1] at e
        by_cases b : j = n
        · rw [b, swq_0] at e
          have := h.2 i (n + 1) hi hn e
          omega
        · by_cases b1 : j = n + 1
          · rw [b1, swq_1] at e
            have := h.2 i n hi (by omega) e
            omega
          · rw [swq_o b b1] at e
            exact h.2 i j hi hj e
  · unfold swR rup
    rw [if_neg hy]
    exact if_neg hy
set_option maxRecDepth 100000 in
set_option maxHeartbeats 4000000 in
theorem i294_15 {V : Nat → Nat → Value} {I : Nat → Nat → Int32} {L : Nat → Nat → Int64} {R : Nat → Nat → Option Nat} {tl : am_H} {N x : Nat} {v : Int32} {q : Nat → Nat} {st : List xT} (hN : 400 < N) (w : wt V) (hq : pqR R q) (h : cSt V I q st) (hx : x = 15) (hl : st.length ≤ 8) (h0 : 2 ≤ st.length) : outC L tl V I R x v st (fm_294 N (.ref 131) (nI x) v (fx V I L R ++ tl)) := by
  obtain ⟨h1, h2, h3⟩ := h
  cases st with
  | nil => exact absurd h0 (by show ¬ 2 ≤ 0; omega)
  | cons Q r0 => cases r0 with
    | nil => exact absurd h0 (by show ¬ 2 ≤ 1; omega)
    | cons S r =>
      obtain ⟨t1, t2⟩ := lvC_t h2
      obtain ⟨u1, u2⟩ := lvC_t t2
      rw [List.length_cons, List.length_cons] at hl h1
      rw [List.length_cons] at t1
      obtain ⟨p1, p2⟩ := hq.1 r.length (by omega)
      obtain ⟨p3, p4⟩ := hq.1 (r.length + 1) (by omega)
      have tk : tkN x = 2 := by rw [hx]; rfl
      have pt : ptN x = 2 := by rw [hx]; rfl
      have H1 : tkN x ≤ r.length + 1 + 1 := by omega
      have H2 : r.length + 1 + 1 - tkN x + ptN x ≤ 8 := by omega
      have hQ := h3 Q (List.mem_cons_self ..)
      have hS := h3 S (List.mem_cons_of_mem _ (List.mem_cons_self ..))
      have kQ := k20_l.mp (okV_i hQ).2.2
      have kS := k20_l.mp (okV_i hS).2.2
      have es1 : nI (r.length + 1 + 1) - 1 = nI (r.length + 1) := nI_sub (b := 1) (by omega)
      have es2 : nI (r.length + 1 + 1) - 2 = nI r.length := nI_sub (b := 2) (by omega)
      have sQ := srcP_p (L := L) (R := R) (tl := tl) p3 w t1 (by omega) (by omega) hQ.1
      have sS := srcP_p (L := L) (R := R) (tl := tl) p1 w u1 (by omega) (by omega) hS.1
      obtain ⟨o1, o2, -, -, -⟩ := src_ok (L := L) (R := R) sQ
      obtain ⟨o3, o4, -, -, -⟩ := src_ok (L := L) (R := R) sS
      obtain ⟨b, e, g⟩ := s279 (L := L) (R := R) (tl := tl) hN sQ kQ
      obtain ⟨b', e', g'⟩ := s279 (L := L) (R := R) (tl := tl) hN sS kS
      have st0 : ∀ o, (if ¬ bI b = 0 then (fg_294_300 N (.ref 131) (nI x) (fx V I L R ++ tl)) else (if ¬ bI b' = 0 then (fg_294_300 N (.ref 131) (nI x) (fx V I L R ++ tl)) else (fg_294_298 N (fx V I L R ++ tl)))) = o → fm_294 N (.ref 131) (nI x) v (fx V I L R ++ tl) = o := fun o k_ => by
        apply hm_294
        apply hd_294_0
        refine ev_b (rdI h1) (ev_cI (pe_56 _ _) ?_)
        rw [(tk56 x (by omega)).1]
        refine ev_f (nI_nlt H1 (by omega)) (ev_b (rdI h1) (ev_cI (pe_55 _ _) ?_))
        rw [gr55 (by omega) H1]
        refine ev_f (nI_nlt (a := 8) H2 (by decide)) (ev_t (show nI x < (17 : Int32) by simp (disch := omega) only [i_17, nI_ltI]; omega) ?_)
        refine ev_t (show (4 : Int32) < nI x by simp (disch := omega) only [i_4, nI_ltI]; omega) (ev_t (show (13 : Int32) < nI x by simp (disch := omega) only [i_13, nI_ltI]; omega) (ev_t (by rw [hx]; decide) (ev_b (rdR rfl) (ev_b (rdI h1) (ev_b (g140 (by omega) p4 _ es1) (ev_b (rdR rfl) (ev_b (rdI h1) (ev_b (g140 (by omega) p4 _ es1) (ev_b o2 (ev_i o1 (ev_cI e ?_)))))))))))
        by_cases c : ¬ bI b = 0
        · rw [if_pos c] at k_ ⊢
          exact k_
        · rw [if_neg c] at k_ ⊢
          exact ev_f (by rw [hx]; decide) (ev_b (rdR rfl) (ev_b (rdI h1) (ev_b (g140 (by omega) p2 _ es2) (ev_b (rdR rfl) (ev_b (rdI h1) (ev_b (g140 (by omega) p2 _ es2) (ev_b o4 (ev_i o3 (ev_cI e' k_)))))))))
      obtain ⟨sR, sO⟩ := sw_R hq (n := r.length) (by omega)
      have go : fg_294_300 N (.ref 131) (nI x) (fx V I L R ++ tl) = some (.inl (some (.int 1), fx (vup V 131 3 (.int (nI (r.length + 1 + 1)))) I L (swR R q r.length) ++ tl)) := by
        apply hd_294_300
        refine ev_f (fun h => h (by rw [hx]; rfl)) (ev_b (rdR rfl) (ev_b (rdI h1) (ev_b (g140 (by omega) p4 _ es1) (ev_b (rdR rfl) (ev_b (rdI h1) (ev_b (rdR rfl) (ev_b (rdI h1) (ev_b (g140 (by omega) p2 _ es2) (ev_b (p140 (by omega) p1 _ es1) (ev_b (rdR rfl) (ev_b (rdI h1) (ev_b (p140 (by omega) p3 _ es2) ?_))))))))))))
        exact t352 h1 (by omega) H1 (by omega)
      have yes : (nfT Q ∨ nfT S) → fm_294 N (.ref 131) (nI x) v (fx V I L R ++ tl) = some (.inl (some (.int 1), fx (vup V 131 3 (.int (nI (r.length + 1 + 1)))) I L (swR R q r.length) ++ tl)) → outC L tl V I R x v (Q :: S :: r) (fm_294 N (.ref 131) (nI x) v (fx V I L R ++ tl)) := fun n e => by
        refine ⟨_, I, _, swq q r.length, frCl_3, sO, sR, .inl ⟨S :: Q :: r, e, .inr (.inr (.inr (.inr (.inl ⟨hx, Q, S, r, rfl, n, rfl⟩)))), rfl, lvC_p ?_ (lvC_p ?_ (lvC_m u2 (fun i T hi hT => ?_))), fun T hT => ?_⟩⟩
        · rw [List.length_cons, swq_1]
          exact hold_3 (by omega) u1
        · rw [swq_0]
          exact hold_3 (by omega) t1
        · rw [swq_o (by omega) (by omega)]
          exact hold_3 (by omega) hT
        · cases hT with
          | head => exact hS
          | tail _ hT => cases hT with
            | head => exact hQ
            | tail _ hT => exact h3 T (List.mem_cons_of_mem _ (List.mem_cons_of_mem _ hT))
      cases b with
      | true => exact yes (.inl (g.mp rfl)) (st0 _ (ev_t (by decide) go))
      | false => cases b' with
        | true => exact yes (.inr (g'.mp rfl)) (st0 _ (ev_f (fun h => h rfl) (ev_t (by decide) go)))
        | false =>
          refine ⟨V, I, R, q, frCl_r, fun _ _ => rfl, hq, .inr ⟨st0 _ (ev_f (fun h => h rfl) (ev_f (fun h => h rfl) rfl)), fun st' hs => ?_⟩⟩
          obtain ⟨T, S', r', e1, e2, e3⟩ := (stp_no hs).2.2.2.2.1 hx
          injection e1 with e1 e4
          injection e4 with e4 e5
          subst e1
          subst e4
          rcases e2 with e2 | e2
          · exact Bool.noConfusion (g.mpr e2)
          · exact Bool.noConfusion (g'.mpr e2)
theorem s294 {V : Nat → Nat → Value} {I : Nat → Nat → Int32} {L : Nat → Nat → Int64} {R : Nat → Nat → Option Nat} {tl : am_H} {N x : Nat} {v : Int32} {q : Nat → Nat} {st : List xT} (hN : 400 < N) (w : wt V) (hq : pqR R q) (h : cSt V I q st) (hx : x < 17) (h1 : tkN x ≤ st.length) (h2 : st.length - tkN x + ptN x ≤ 8) (h8 : st.length ≤ 8) : outC L tl V I R x v st (fm_294 N (.ref 131) (nI x) v (fx V I L R ++ tl)) := by
  unfold tkN at h1 h2
  unfold ptN at h2
  rcases (by omega : x < 5 ∨ (5 ≤ x ∧ x < 7) ∨ (7 ≤ x ∧ x < 14) ∨ x = 14 ∨ x = 15 ∨ x = 16) with c | c | c | c | c | c
  · rw [if_pos c, if_pos (by omega)] at h2
    exact i294_0 hN w hq h c (by omega)
  · rw [if_neg (by omega), if_pos c.2] at h1
    exact i294_5 hN w hq h c h8 h1
  · rw [if_neg (by omega), if_neg (by omega), if_pos c.2] at h1
    exact i294_7 hN w hq h c h8 h1
  · subst c
    have h1 : 1 ≤ st.length := h1
    have h2 : st.length - 1 + 2 ≤ 8 := h2
    exact i294_14 hN w hq h rfl (by omega) h1
  · subst c
    exact i294_15 hN w hq h rfl h8 h1
  · subst c
    exact i294_16 hN w hq h rfl h8 h1
