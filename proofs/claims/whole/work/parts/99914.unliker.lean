/-! ===== shown unlike: the reference ===== -/
theorem rP_k {kd ln sz : Nat} {s v : Nat → Int32} {lm : Nat} {x y z : Int32} {len : Nat} {row : Nat → Int32} {o : Int32 × Nat × Int32} (ho : rP kd ln sz s v lm x y z len row o) (hs : sound kd ln sz s v) : fOk o.1 := by
  obtain ⟨o0, o1, o2, o3⟩ := ho
  have hk := hs.1
  rcases (by omega : kd = 0 ∨ kd = 1 ∨ kd = 2 ∨ kd = 3) with rfl | rfl | rfl | rfl
  · rw [o0 rfl]
    exact evN_k 12 0 (0, 0, 0, 0) (.inl rfl)
  · obtain ⟨ht, -, eo⟩ := o1 rfl
    rw [eo]
    exact crun_k sz 0 _ (0, 0, 0, 0) (.inl rfl)
  · rw [o2 rfl]
    have hlm : ∀ q : Int32 × Nat × Nat, q.1 = 0 ∨ q.1 = 3 → fOk q.1 := fun q h => h.elim .inl (fun e => .inr (.inr (.inr e)))
    exact hlm _ (mrun_f0 _ _ _ _)
  · rw [o3 rfl]
    have hlm : ∀ q : Int32 × Nat × (Nat → Int32), q.1 = 0 ∨ q.1 = 3 → fOk q.1 := fun q h => h.elim .inl (fun e => .inr (.inr (.inr e)))
    exact hlm _ (nrun_f sz 0 1 _)
theorem f_3 {f : Int32} (h : fOk f) : 3 ≤ f ↔ f = 3 := by
  rcases h with rfl | rfl | rfl | rfl <;> decide
theorem inR_d {V : Nat → Nat → Value} {I : Nat → Nat → Int32} {x y z : Int32} {len kd ln sz b sz' : Nat} {row : Nat → Int32} (h : inR V I x y z len row) : inR (dkV V kd ln sz) (dkI I b sz') x y z len row := by
  obtain ⟨h1, h2, h3, h4, h5, h6⟩ := h
  exact ⟨(dk_o (fun _ => by decide)).trans h1, (dk_o (fun _ => by decide)).trans h2, (dk_o (fun _ => by decide)).trans h3, (dk_o (fun _ => by decide)).trans h4, h5, fun i hi => by rw [dkI_o (by decide) (by decide)]; exact h6 i hi⟩
theorem inR_R {V W : Nat → Nat → Value} {I J : Nat → Nat → Int32} {x y z : Int32} {len : Nat} {row : Nat → Int32} (f : frR V W I J) (h : inR V I x y z len row) : inR W J x y z len row := by
  obtain ⟨h1, h2, h3, h4, h5, h6⟩ := h
  exact ⟨(f.1 174 51 (.inr (by decide))).trans h1, (f.1 174 52 (.inr (by decide))).trans h2, (f.1 174 53 (.inr (by decide))).trans h3, (f.1 174 54 (.inr (by decide))).trans h4, h5, fun i hi => by rw [f.2.1 212 (by decide) (by decide) (by decide) (by decide) (by decide)]; exact h6 i hi⟩
set_option maxRecDepth 100000 in
set_option maxHeartbeats 1600000 in
theorem r_574 {V : Nat → Nat → Value} {I : Nat → Nat → Int32} {L : Nat → Nat → Int64} {R : Nat → Nat → Option Nat} {tl : am_H} {V0 : Nat → Nat → Value} {I0 : Nat → Nat → Int32} {N b b' lm n len : Nat} {x y z : Int32} {row : Nat → Int32} {o o' : Int32 × Nat × Int32} (hN : 5000 < N) (hn : n ≤ 600) (hlo : 10 ≤ lm) (hhi : lm ≤ 2000) (h6 : I0 206 0 = nI lm) (hB : ∀ b, b < n → bK R tl I0 b) (hb : b < n) (hb' : b' < n) (hw : wt V) (hk : keep V0 V I0 I) (hin : inR V I x y z len row) (ho : rP (kdB I0 b) (lnB I0 b) (szB I0 b) (sB I0 b) (vB I0 b) lm x y z len row o) (ho' : rP (kdB I0 b') (lnB I0 b') (szB I0 b') (sB I0 b') (vB I0 b') lm x y z len row o') : ∃ W J, fm_574 N (.ref 174) (nI b) (nI b') (fx V I L R ++ tl) = some (.inl (some (.int (bI (unB o o'))), fx W J L R ++ tl)) ∧ frT V W I J L L ∧ inR W J x y z len row := by
  obtain ⟨q1, q2, q3, q4, -⟩ := hB b hb
  obtain ⟨t1, t2, t3, t4, -⟩ := hB b' hb'
  obtain ⟨e1, g1⟩ := r_ldb (V := V0) (W := V) (I := I0) (J := I) (L := L) (R := R) (tl := tl) (N := N) (b := b) (by omega) (by omega) hk q1 q2 q3 q4 h6 hlo hhi
  have a1 := frT_d (V := V) (I := I) (L := L) (kd := kdB I0 b) (ln := lnB I0 b) (sz := szB I0 b) (b := b)
  obtain ⟨W2, J2, e2, w1, w2, w3, f2⟩ := r_403 (L := L) (R := R) (tl := tl) hN (a1.2.2.2 hw) g1 (inR_d hin) ho
  have hin2 := inR_R f2 (inR_d hin)
  have a2 := frT_t a1 (frT_Q (L := L) (frR_Q f2))
  have kp2 := keep_t hk (frT_k a2).1
  obtain ⟨e3, g3⟩ := r_ldb (V := V0) (W := W2) (I := I0) (J := J2) (L := L) (R := R) (tl := tl) (N := N) (b := b') (by omega) (by omega) kp2 t1 t2 t3 t4 h6 hlo hhi
  have a3 := frT_t a2 (frT_d (V := W2) (I := J2) (L := L) (kd := kdB I0 b') (ln := lnB I0 b') (sz := szB I0 b') (b := b'))
  obtain ⟨W4, J4, e4, y1, y2, y3, f4⟩ := r_403 (L := L) (R := R) (tl := tl) hN (a3.2.2.2 hw) g3 (inR_d hin2) ho'
  have a4 := frT_t a3 (frT_Q (L := L) (frR_Q f4))
  refine ⟨W4, J4, ?_, a4, inR_R f4 (inR_d hin2)⟩
  have k1 := f_3 (rP_k ho q4)
  have k2 := f_3 (rP_k ho' t4)
  unfold fm_574 fg_574_0
  refine ev_i rfl (ev_cV e1 (ev_i rfl (ev_cV e2 (ev_b (rdI w1) (ev_b (rdI w3) (ev_i rfl (ev_cV e3 (ev_i rfl (ev_cV e4 ?_)))))))))
  by_cases c1 : o.1 = 3
  · rw [show unB o o' = false from decide_eq_false (fun h => h.1 c1)]
    exact ev_t (k1.mpr c1) rfl
  · refine ev_f (fun h => c1 (k1.mp h)) (ev_b (rdI y1) ?_)
    by_cases c2 : o'.1 = 3
    · rw [show unB o o' = false from decide_eq_false (fun h => h.2.1 c2)]
      exact ev_t (k2.mpr c2) rfl
    · refine ev_f (fun h => c2 (k2.mp h)) (ev_b (rdI y1) ?_)
      by_cases c3 : o.1 = o'.1
      · refine ev_f (fun h => h c3) (ev_b (rdI y3) ?_)
        by_cases c4 : o.2.2 = o'.2.2
        · rw [show unB o o' = false from decide_eq_false (fun h => h.2.2.elim (fun e => e c3) (fun e => e c4))]
          exact ev_t c4 rfl
        · rw [show unB o o' = true from decide_eq_true ⟨c1, c2, .inr c4⟩]
          exact ev_f c4 rfl
      · rw [show unB o o' = true from decide_eq_true ⟨c1, c2, .inl c3⟩]
        exact ev_t c3 rfl
set_option maxRecDepth 100000 in
set_option maxHeartbeats 1600000 in
theorem r_575l {V : Nat → Nat → Value} {I : Nat → Nat → Int32} {L : Nat → Nat → Int64} {R : Nat → Nat → Option Nat} {tl : am_H} {N len : Nat} {row : Nat → Int32} (h54 : V 174 54 = .int (nI len)) (hl : len ≤ 8) (hr : ∀ i, i < len → I 212 i = row i) : ∀ (m i K : Nat) (g : Nat → Int32), i + m = len → m < K → ∃ g', (∀ j, g' j = if 4 + i ≤ j ∧ j < 4 + len then row (j - 4) else g j) ∧ fg_575_46 N K (.ref 174) (nI i) (fx V (iup I 254 g) L R ++ tl) = some (.inl (some (.int 0), fx V (iup I 254 g') L R ++ tl)) := by
  intro m
  induction m with
  | zero =>
    intro i K g hi hK
    obtain ⟨K, rfl⟩ : ∃ k, K = k + 1 := ⟨K - 1, by omega⟩
    refine ⟨g, fun j => by rw [if_neg (by omega)], ?_⟩
    rw [fg_575_46]
    exact ev_b (rdI h54) (ev_t (nI_le (by omega) (by omega)) rfl)
  | succ m ih =>
    intro i K g hi hK
    obtain ⟨K, rfl⟩ : ∃ k, K = k + 1 := ⟨K - 1, by omega⟩
    obtain ⟨g', h1, h2⟩ := ih (i + 1) K (upd g (4 + i) (row i)) (by omega) (by omega)
    refine ⟨g', fun j => ?_, ?_⟩
    · rw [h1 j]
      by_cases c : j = 4 + i
      · subst c
        rw [if_neg (by omega), if_pos (by omega), upd_eq, show 4 + i - 4 = i by omega]
      · by_cases d : 4 + (i + 1) ≤ j ∧ j < 4 + len
        · rw [if_pos d, if_pos (by omega)]
        · rw [if_neg d, if_neg (by omega), upd_ne c]
    · rw [fg_575_46]
      refine ev_b (rdI h54) (ev_f (nI_ge (by omega) (by omega)) (ev_b (a := Value.ref 254) rfl (ev_b (a := Value.ref 212) rfl (ev_b (a := row i) ((qa_212 (by omega)).trans (by rw [← hr i (by omega)]; rfl)) ?_))))
      rw [show (4 : Int32) + nI i = nI (4 + i) from nI_add 4 i, nI_1]
      exact ev_b (a := fx V (iup I 254 (upd g (4 + i) (row i))) L R ++ tl) ((qs_254 (by omega)).trans (by rw [iup_eq, iup_iup])) h2
set_option maxRecDepth 100000 in
set_option maxHeartbeats 1600000 in
theorem r_575 {V : Nat → Nat → Value} {I : Nat → Nat → Int32} {L : Nat → Nat → Int64} {R : Nat → Nat → Option Nat} {tl : am_H} {N len : Nat} {x y z : Int32} {row : Nat → Int32} (hN : 100 < N) (hin : inR V I x y z len row) : ∃ g, uw x y z (nI len) (fun i => if i < len then row i else 0) g ∧ fm_575 N (.ref 174) (fx V I L R ++ tl) = some (.inl (some (.int 0), fx V (iup I 254 g) L R ++ tl)) := by
  obtain ⟨h1, h2, h3, h4, h5, h6⟩ := hin
  obtain ⟨g, g0, e⟩ := r_569 (V := V) (I := I) (L := L) (R := R) (tl := tl) (N := N) hN
  obtain ⟨g', k1, k2⟩ := r_575l (V := V) (I := I) (L := L) (R := R) (tl := tl) (N := N) h4 h5 h6 len 0 N (upd (upd (upd (upd g 0 x) 1 y) 2 z) 3 (nI len)) (by omega) (by omega)
  refine ⟨g', ⟨?_, ?_, ?_, ?_, fun i hi => ?_, fun j a b => ?_⟩, ?_⟩
  · rw [k1, if_neg (by omega)]; rfl
  · rw [k1, if_neg (by omega)]; rfl
  · rw [k1, if_neg (by omega)]; rfl
  · rw [k1, if_neg (by omega)]; rfl
  · rw [k1]
    dsimp only
    by_cases c : i < len
    · rw [if_pos (by omega), if_pos c, show 4 + i - 4 = i by omega]
    · rw [if_neg (by omega), if_neg c, upd_ne (by omega), upd_ne (by omega), upd_ne (by omega), upd_ne (by omega)]
      exact g0 _ (by omega)
  · rw [k1, if_neg (by omega), upd_ne (by omega), upd_ne (by omega), upd_ne (by omega), upd_ne (by omega)]
    exact g0 j b
  · unfold fm_575 fg_575_0
    refine ev_i rfl (ev_cV e (ev_b (a := Value.ref 254) rfl (ev_b (rdI h1) (ev_b (a := fx V (iup I 254 (upd g 0 x)) L R ++ tl) ((qs_254 (k := 0) (by omega)).trans (by rw [iup_eq, iup_iup])) ?_))))
    refine ev_b (a := Value.ref 254) rfl (ev_b (rdI h2) (ev_b (a := fx V (iup I 254 (upd (upd g 0 x) 1 y)) L R ++ tl) ((qs_254 (k := 1) (by omega)).trans (by rw [iup_eq, iup_iup])) ?_))
    refine ev_b (a := Value.ref 254) rfl (ev_b (rdI h3) (ev_b (a := fx V (iup I 254 (upd (upd (upd g 0 x) 1 y) 2 z)) L R ++ tl) ((qs_254 (k := 2) (by omega)).trans (by rw [iup_eq, iup_iup])) ?_))
    exact ev_b (a := Value.ref 254) rfl (ev_b (rdI h4) (ev_b (a := fx V (iup I 254 (upd (upd (upd (upd g 0 x) 1 y) 2 z) 3 (nI len))) L R ++ tl) ((qs_254 (k := 3) (by omega)).trans (by rw [iup_eq, iup_iup])) k2))
theorem frT_in {V : Nat → Nat → Value} {I : Nat → Nat → Int32} {L : Nat → Nat → Int64} {x y z l : Int32} {F : Nat → Int32} : frT V (inV V x y z l) I (iup I 212 F) L L := frT_Q ⟨fun a j hj => inV_o (fun e => by
    refine ⟨?_, ?_, ?_, ?_⟩ <;> (intro e2; subst e2; exact hj e (by decide))), fun y hy => iup_na (fun e => by subst e; exact hy (by decide)), wt_inV⟩
set_option maxRecDepth 100000 in
set_option maxHeartbeats 1600000 in
theorem r_573l {L : Nat → Nat → Int64} {R : Nat → Nat → Option Nat} {tl : am_H} {V0 : Nat → Nat → Value} {I0 : Nat → Nat → Int32} {N b b' lm n m : Nat} {Ob : Nat → Nat → Int32 × Nat × Int32} (hN : 5000 < N) (hn : n ≤ 600) (hlo : 10 ≤ lm) (hhi : lm ≤ 2000) (h6 : I0 206 0 = nI lm) (hB : ∀ b, b < n → bK R tl I0 b) (hO : oB I0 lm n m Ob) (hb : b < n) (hb' : b' < n) (hz : ∀ k, k < 24 → zr I0 k) : ∀ (q k K : Nat) (V : Nat → Nat → Value) (I : Nat → Nat → Int32), k + q = m → q < K → wt V → keep V0 V I0 I → csK V I I0 m → match nFs (fun k => unB (Ob b k) (Ob b' k)) q k with
    | none => ∃ W J, fg_573_2 N K (.ref 174) (nI b) (nI b') (nI k) (fx V I L R ++ tl) = fg_573_37 N N (.ref 174) (nI b) (nI b') (nI 0) (fx W J L R ++ tl) ∧ frT V W I J L L
    | some y => y < m ∧ ∃ W J g, fg_573_2 N K (.ref 174) (nI b) (nI b') (nI k) (fx V I L R ++ tl) = some (.inl (some (.int 0), fx W (iup J 254 g) L R ++ tl)) ∧ frT V W I J L L ∧ uw (I0 197 y) (I0 198 y) (I0 199 y) (I0 203 y) (fun i => I0 204 (8 * y + i)) g := by
  intro q
  induction q with
  | zero =>
    intro k K V I hk hK hw hkp hc
    obtain ⟨K, rfl⟩ : ∃ k, K = k + 1 := ⟨K - 1, by omega⟩
    obtain rfl : k = m := by omega
    refine ⟨V, I, ?_, frT_r⟩
    rw [fg_573_2]
    exact ev_b (rdI hc.2.1) (ev_t (nI_le (Nat.le_refl _) (by have := hc.2.2.1; omega)) rfl)
  | succ q ih =>
    intro k K V I hk hK hw hkp hc
    obtain ⟨K, rfl⟩ : ∃ k, K = k + 1 := ⟨K - 1, by omega⟩
    have hc' := hc
    obtain ⟨v1, v2, m24, i15, i197, cok⟩ := hc
    obtain ⟨len, l8, e0, ho⟩ := hO b hb k (by omega)
    obtain ⟨len', l8', e0', ho'⟩ := hO b' hb' k (by omega)
    obtain rfl : len' = len := (nI_eq (by omega) (by omega)).mp (e0'.symm.trans e0)
    have a1 := frT_in (V := V) (I := I) (L := L) (x := I 197 k) (y := I 198 k) (z := I 199 k) (l := I 203 k) (F := cpr (I 212) (I 204) k 8)
    have hin : inR (inV V (I 197 k) (I 198 k) (I 199 k) (I 203 k)) (iup I 212 (cpr (I 212) (I 204) k 8)) (I0 197 k) (I0 198 k) (I0 199 k) len' (fun i => I0 204 (8 * k + i)) := by
      refine ⟨by rw [← i197 197 (by omega) (by omega)]; rfl, by rw [← i197 198 (by omega) (by omega)]; rfl, by rw [← i197 199 (by omega) (by omega)]; rfl, by rw [← e0, ← i197 203 (by omega) (by omega)]; rfl, l8, fun i hi => ?_⟩
      rw [iup_eq, ← i197 204 (by omega) (by omega)]
      exact cpr_at (D := I 212) (Q := I 204) (b := k) (by omega)
    obtain ⟨W2, J2, e2, a2, hin2⟩ := r_574 (L := L) (R := R) (tl := tl) (V0 := V0) (I0 := I0) hN hn hlo hhi h6 hB hb hb' (a1.2.2.2 hw) (keep_t hkp (frT_k a1).1) hin ho ho'
    have a3 := frT_t a1 a2
    have k3 := (frT_k a3).1
    by_cases c : unB (Ob b k) (Ob b' k) = true
    · rw [nFs, if_pos c]
      rw [c] at e2
      obtain ⟨g, u, e3⟩ := r_575 (V := W2) (I := J2) (L := L) (R := R) (tl := tl) (N := N) (by omega) hin2
      refine ⟨by omega, W2, J2, g, ?_, a3, ?_⟩
      · rw [fg_573_2]
        exact ev_b (rdI v2) (ev_f (nI_ge (by omega) (by omega)) (ev_i rfl (ev_cV (r_402 (by omega) (by omega)) (ev_i rfl (ev_cI e2 (ev_f (by decide) (ev_i rfl (ev_cI e3 rfl))))))))
      · obtain ⟨u0, u1, u2, u3, u4, u5⟩ := u
        obtain ⟨s, s8, s1, s2⟩ := hz k (by omega)
        obtain rfl : s = len' := (nI_eq (by omega) (by omega)).mp (s1.symm.trans e0)
        refine ⟨u0, u1, u2, u3.trans e0.symm, fun i hi => ?_, u5⟩
        rw [u4 i hi]
        dsimp only
        by_cases d : i < s
        · rw [if_pos d]
        · rw [if_neg d, s2 i (by omega) hi]
    · rw [nFs, if_neg c]
      rw [Bool.eq_false_iff.mpr c] at e2
      have q := ih (k + 1) K W2 J2 (by omega) (by omega) (k3.2.2 hw) (keep_t hkp k3) (csK_c k3 hc')
      have o1 : fg_573_2 N (K + 1) (.ref 174) (nI b) (nI b') (nI k) (fx V I L R ++ tl) = fg_573_2 N K (.ref 174) (nI b) (nI b') (nI (k + 1)) (fx W2 J2 L R ++ tl) := by
        rw [fg_573_2]
        refine ev_b (rdI v2) (ev_f (nI_ge (by omega) (by omega)) (ev_i rfl (ev_cV (r_402 (by omega) (by omega)) (ev_i rfl (ev_cI e2 (ev_t rfl ?_))))))
        rw [nI_1]
      revert q
      cases nFs (fun k => unB (Ob b k) (Ob b' k)) q (k + 1) with
      | none =>
        intro q
        obtain ⟨W', J', e', f'⟩ := q
        exact ⟨W', J', o1.trans e', frT_t a3 f'⟩
      | some y =>
        intro q
        obtain ⟨yl, W', J', g, e', f', u⟩ := q
        exact ⟨yl, W', J', g, o1.trans e', frT_t a3 f', u⟩
set_option maxRecDepth 100000 in
set_option maxHeartbeats 4000000 in
theorem t_ref : ∀ k, k < 250 → ((nI k - nI k / 125 * 125) / 25) - 2 = tX k ∧ ((nI k - nI k / 25 * 25) / 5) - 2 = tY k := by decide
set_option maxRecDepth 100000 in
set_option maxHeartbeats 1600000 in
theorem r_573i {L : Nat → Nat → Int64} {R : Nat → Nat → Option Nat} {tl : am_H} {V : Nat → Nat → Value} {N k b b' : Nat} {rc : Value → Int32 → Int32 → Int32 → am_H → Option am_O} : ∀ (i K : Nat) (I : Nat → Nat → Int32), i < 3 → fg_573_96 N rc (K + 1) (.ref 174) (nI b) (nI b') (nI k) (nI i) (fx V I L R ++ tl) = fg_573_96 N rc K (.ref 174) (nI b) (nI b') (nI k) (nI (i + 1)) (fx V (iup I 212 (upd (I 212) i (nI (i + 1)))) L R ++ tl) := by
  intro i K I hi
  rw [fg_573_96]
  refine ev_f (nI_ge (b := 3) (by omega) (by omega)) (ev_b (a := Value.ref 212) rfl ?_)
  rw [nI_1]
  exact ev_b (qs_212 (by omega)) rfl
set_option maxRecDepth 100000 in
set_option maxHeartbeats 1600000 in
theorem r_573t {L : Nat → Nat → Int64} {R : Nat → Nat → Option Nat} {tl : am_H} {V0 : Nat → Nat → Value} {I0 : Nat → Nat → Int32} {N b b' lm n : Nat} {Oc Od : Nat → Int32 × Nat × Int32} (hN : 5000 < N) (hn : n ≤ 600) (hlo : 10 ≤ lm) (hhi : lm ≤ 2000) (h6 : I0 206 0 = nI lm) (hB : ∀ b, b < n → bK R tl I0 b) (hb : b < n) (hb' : b' < n) (hT : ∀ k, k < 250 → rP (kdB I0 b) (lnB I0 b) (szB I0 b) (sB I0 b) (vB I0 b) lm (tX k) (tY k) (tZ k) (tN k) (tR k) (Oc k)) (hT' : ∀ k, k < 250 → rP (kdB I0 b') (lnB I0 b') (szB I0 b') (sB I0 b') (vB I0 b') lm (tX k) (tY k) (tZ k) (tN k) (tR k) (Od k)) : ∀ (q k K : Nat) (V : Nat → Nat → Value) (I : Nat → Nat → Int32), k + q = 250 → q < K → wt V → keep V0 V I0 I → match nFs (fun k => unB (Oc k) (Od k)) q k with
    | none => ∃ W J, fg_573_37 N K (.ref 174) (nI b) (nI b') (nI k) (fx V I L R ++ tl) = some (.inl (some (.int 2), fx W J L R ++ tl)) ∧ frT V W I J L L
    | some y => ∃ W J g, fg_573_37 N K (.ref 174) (nI b) (nI b') (nI k) (fx V I L R ++ tl) = some (.inl (some (.int 0), fx W (iup J 254 g) L R ++ tl)) ∧ frT V W I J L L ∧ uw (tX y) (tY y) (tZ y) (nI (tN y)) (fun i => if i < 3 then tR y i else 0) g := by
  intro q
  induction q with
  | zero =>
    intro k K V I hk hK hw hkp
    obtain ⟨K, rfl⟩ : ∃ k, K = k + 1 := ⟨K - 1, by omega⟩
    obtain rfl : k = 250 := by omega
    refine ⟨V, I, ?_, frT_r⟩
    rw [fg_573_37]
    exact ev_t (by decide) rfl
  | succ q ih =>
    intro k K V I hk hK hw hkp
    obtain ⟨K, rfl⟩ : ∃ k, K = k + 1 := ⟨K - 1, by omega⟩
    obtain ⟨tx, ty⟩ := t_ref k (by omega)
    have a1 := frT_in (V := V) (I := I) (L := L) (x := tX k) (y := tY k) (z := tZ k) (l := nI (tN k)) (F := upd (upd (upd (I 212) 0 (nI 1)) 1 (nI 2)) 2 (nI 3))
    have hin : inR (inV V (tX k) (tY k) (tZ k) (nI (tN k))) (iup I 212 (upd (upd (upd (I 212) 0 (nI 1)) 1 (nI 2)) 2 (nI 3))) (tX k) (tY k) (tZ k) (tN k) (tR k) := by
      refine ⟨rfl, rfl, rfl, rfl, by unfold tN; by_cases c : 125 ≤ k <;> simp [c], fun i hi => ?_⟩
      unfold tN at hi
      unfold tR
      by_cases c : 125 ≤ k
      · rw [if_pos c] at hi ⊢
        rw [iup_eq]
        rcases (by omega : i = 0 ∨ i = 1 ∨ i = 2) with rfl | rfl | rfl <;> rfl
      · rw [if_neg c] at hi
        omega
    obtain ⟨W2, J2, e2, a2, hin2⟩ := r_574 (L := L) (R := R) (tl := tl) (V0 := V0) (I0 := I0) hN hn hlo hhi h6 hB hb hb' (a1.2.2.2 hw) (keep_t hkp (frT_k a1).1) hin (hT k (by omega)) (hT' k (by omega))
    have a3 := frT_t a1 a2
    have k3 := (frT_k a3).1
    obtain ⟨M, rfl⟩ : ∃ M, N = M + 4 := ⟨N - 4, by omega⟩
    have run : ∀ o, (if am_pOk 12 (.ref 174) (fx (inV V (tX k) (tY k) (tZ k) (nI (tN k))) (iup I 212 (upd (upd (upd (I 212) 0 (nI 1)) 1 (nI 2)) 2 (nI 3))) L R ++ tl) then am_cI true (fm_574 (M + 4) (.ref 174) (nI b) (nI b') (fx (inV V (tX k) (tY k) (tZ k) (nI (tN k))) (iup I 212 (upd (upd (upd (I 212) 0 (nI 1)) 1 (nI 2)) 2 (nI 3))) L R ++ tl)) (fun v3 h4 => (if v3 = 0 then (fg_573_37 (M + 4) K (.ref 174) (nI b) (nI b') ((nI k + 1)) h4) else (if am_pOk 12 (.ref 174) h4 then am_cI true (fm_575 (M + 4) (.ref 174) h4) (fun v8 h9 => some (.inl (some (.int v8), h9))) else none))) else none) = o → fg_573_37 (M + 4) (K + 1) (.ref 174) (nI b) (nI b') (nI k) (fx V I L R ++ tl) = o := fun o h => by
      have fin : fg_573_96 (M + 4) (fg_573_37 (M + 4) K) (M + 4) (.ref 174) (nI b) (nI b') (nI k) (nI 0) (fx (inV V (tX k) (tY k) (tZ k) (nI (tN k))) I L R ++ tl) = o := by
        rw [r_573i 0 (M + 3) _ (by omega), r_573i 1 (M + 2) _ (by omega), r_573i 2 (M + 1) _ (by omega)]
        rw [iup_eq, iup_iup, iup_eq, iup_iup, fg_573_96]
        exact ev_t (by decide) h
      rw [fg_573_37]
      dsimp only
      rw [tx, ty]
      refine ev_f (nI_ge (b := 250) (by omega) (by omega)) (ev_b qp_174_51 (ev_b qp_174_52 (ev_b (a := fx (vup (vup (vup V 174 51 (.int (tX k))) 174 52 (.int (tY k))) 174 53 (.int (tZ k))) I L R ++ tl) qp_174_53 ?_)))
      unfold inV tN at fin
      by_cases c : 125 ≤ k
      · rw [if_pos c] at fin
        refine ev_t (nI_le (a := 125) c (by omega)) ?_
        unfold fg_573_90
        exact ev_b (qp_174_54 (x := nI 3)) fin
      · rw [if_neg c] at fin
        refine ev_f (nI_ge (b := 125) (by omega) (by omega)) ?_
        unfold fg_573_90
        exact ev_b (qp_174_54 (x := nI 0)) fin
    by_cases c : unB (Oc k) (Od k) = true
    · rw [nFs, if_pos c]
      rw [c] at e2
      obtain ⟨g, u, e3⟩ := r_575 (V := W2) (I := J2) (L := L) (R := R) (tl := tl) (N := M + 4) (by omega) hin2
      refine ⟨W2, J2, g, run _ (ev_i rfl (ev_cI e2 (ev_f (by decide) (ev_i rfl (ev_cI e3 rfl))))), a3, ?_⟩
      obtain ⟨u0, u1, u2, u3, u4, u5⟩ := u
      refine ⟨u0, u1, u2, u3, fun i hi => ?_, u5⟩
      rw [u4 i hi]
      unfold tN tR
      dsimp only
      by_cases d : 125 ≤ k
      · rw [if_pos d]
      · rw [if_neg d, if_neg (by omega), if_neg d]
        by_cases e : i < 3
        · rw [if_pos e]
        · rw [if_neg e]
    · rw [nFs, if_neg c]
      rw [Bool.eq_false_iff.mpr c] at e2
      have q := ih (k + 1) K W2 J2 (by omega) (by omega) (k3.2.2 hw) (keep_t hkp k3)
      have o1 : fg_573_37 (M + 4) (K + 1) (.ref 174) (nI b) (nI b') (nI k) (fx V I L R ++ tl) = fg_573_37 (M + 4) K (.ref 174) (nI b) (nI b') (nI (k + 1)) (fx W2 J2 L R ++ tl) := run _ (ev_i rfl (ev_cI e2 (ev_t rfl (by rw [nI_1]))))
      revert q
      cases nFs (fun k => unB (Oc k) (Od k)) q (k + 1) with
      | none =>
        intro q
        obtain ⟨W', J', e', f'⟩ := q
        exact ⟨W', J', o1.trans e', frT_t a3 f'⟩
      | some y =>
        intro q
        obtain ⟨W', J', g, e', f', u⟩ := q
        exact ⟨W', J', g, o1.trans e', frT_t a3 f', u⟩
set_option maxRecDepth 100000 in
set_option maxHeartbeats 1600000 in
/-- the reference tries to tell two births apart -/
theorem r_573 {V : Nat → Nat → Value} {I : Nat → Nat → Int32} {L : Nat → Nat → Int64} {R : Nat → Nat → Option Nat} {tl : am_H} {V0 : Nat → Nat → Value} {I0 : Nat → Nat → Int32} {N b b' lm n m : Nat} {Ob : Nat → Nat → Int32 × Nat × Int32} {Oc Od : Nat → Int32 × Nat × Int32} (hN : 5000 < N) (hn : n ≤ 600) (hlo : 10 ≤ lm) (hhi : lm ≤ 2000) (h6 : I0 206 0 = nI lm) (hB : ∀ b, b < n → bK R tl I0 b) (hO : oB I0 lm n m Ob) (hb : b < n) (hb' : b' < n) (hz : ∀ k, k < 24 → zr I0 k) (hT : ∀ k, k < 250 → rP (kdB I0 b) (lnB I0 b) (szB I0 b) (sB I0 b) (vB I0 b) lm (tX k) (tY k) (tZ k) (tN k) (tR k) (Oc k)) (hT' : ∀ k, k < 250 → rP (kdB I0 b') (lnB I0 b') (szB I0 b') (sB I0 b') (vB I0 b') lm (tX k) (tY k) (tZ k) (tN k) (tR k) (Od k)) (hw : wt V) (hk : keep V0 V I0 I) (hc : csK V I I0 m) : ∃ W J g r, fm_573 N (.ref 174) (nI b) (nI b') (fx V I L R ++ tl) = some (.inl (some (.int (if r = true then 0 else 2)), fx W (iup J 254 g) L R ++ tl)) ∧ frT V W I J L L ∧ uOut (fun k => unB (Ob b k) (Ob b' k)) (fun k => unB (Oc k) (Od k)) m I0 r (I 254) g := by
  have q := r_573l (L := L) (R := R) (tl := tl) hN hn hlo hhi h6 hB hO hb hb' hz m 0 N V I (by omega) (by have := hc.2.2.1; omega) hw hk hc
  unfold fm_573 fg_573_0
  unfold uOut
  revert q
  cases nFs (fun k => unB (Ob b k) (Ob b' k)) m 0 with
  | some y =>
    intro q
    obtain ⟨yl, W3, J3, g, e3, f3, u⟩ := q
    exact ⟨W3, J3, g, true, e3, f3, rfl, yl, u⟩
  | none =>
    intro q
    obtain ⟨W3, J3, e3, f3⟩ := q
    have k3 := (frT_k f3).1
    have t := r_573t (L := L) (R := R) (tl := tl) hN hn hlo hhi h6 hB hb hb' hT hT' 250 0 N W3 J3 (by omega) (by omega) (k3.2.2 hw) (keep_t hk k3)
    revert t
    cases nFs (fun k => unB (Oc k) (Od k)) 250 0 with
    | some y =>
      intro t
      obtain ⟨W4, J4, g, e4, f4, u⟩ := t
      exact ⟨W4, J4, g, true, e3.trans e4, frT_t f3 f4, rfl, u⟩
    | none =>
      intro t
      obtain ⟨W4, J4, e4, f4⟩ := t
      have f5 := frT_t f3 f4
      refine ⟨W4, J4, J4 254, false, ?_, f5, rfl, f5.2.1 254 (by decide)⟩
      rw [iup_id]
      exact e3.trans e4
