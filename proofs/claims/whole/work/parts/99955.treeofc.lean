/-! ===== trees out of code: the class's treeOf ===== -/
theorem hd_293_108 {N : Nat} {s0 : Int32} {h : am_H} {r_ : Option am_O} (k_ : (if am_rfit (some FieldType.boolean) s0 then some (.inl (some (.int s0), h)) else none) = r_) : fg_293_108 N s0 h = r_ := k_
theorem hd_293_107 {N : Nat} {h : am_H} {r_ : Option am_O} (k_ : (fg_293_108 N 0 h) = r_) : fg_293_107 N h = r_ := k_
theorem hd_293_31 {N : Nat} {K : Nat} {x0 : Value} {x1 : Value} {x2 : Value} {x3 : Int32} {h : am_H} {r_ : Option am_O} (k_ : ((am_vI (am_pG 771 x1 h)).bind fun v1 => (if v1 ≤ x3 then (if am_pOk 3 x2 h then am_cV true (fm_34 x2 0 0 h) (fun h6 => ((am_vI (am_pG 2563 x0 h6)).bind fun v8 => (if ¬ v8 = 1 then (fg_293_107 N h6) else ((am_vR (am_pG 2561 x0 h6)).bind fun v11 => ((am_pAA v11 0 h6).bind fun v13 => am_cI false (fm_295 N x2 v13 h6) (fun v15 h16 => (if v15 = 0 then (fg_293_107 N h16) else (if am_pOk 10 x0 h16 then am_cI true (fm_75 N x0 x2 h16) (fun v20 h21 => (if 12 < v20 then (fg_293_107 N h21) else (fg_293_108 N 1 h21))) else none)))))))) else none) else (if am_pOk 3 x1 h then am_cI true (fm_54 x1 x3 0 h) (fun v25 h26 => (if am_pOk 3 x1 h26 then am_cI true (fm_54 x1 x3 1 h26) (fun v29 h30 => (if am_pOk 10 x0 h30 then am_cI true (fm_294 N x0 v25 v29 h30) (fun v33 h34 => (if ¬ v33 = 0 then (fg_293_31 N K x0 x1 x2 ((x3 + 1)) h34) else some (.inl (some (.int 0), h34)))) else none)) else none)) else none))) = r_) : fg_293_31 N (K + 1) x0 x1 x2 x3 h = r_ := by rw [fg_293_31]; exact k_
theorem hd_293_0 {N : Nat} {x0 : Value} {x1 : Value} {x2 : Value} {h : am_H} {r_ : Option am_O} (k_ : ((am_vI (am_pG 769 x1 h)).bind fun v1 => (if ¬ v1 = 0 then ((am_vI (am_pG 769 x1 h)).bind fun v4 => (if v4 = 1 then ((am_pP 2563 x0 (.int 0) h).bind fun h7 => (fg_293_31 N N x0 x1 x2 0 h7)) else some (.inl (some (.int 0), h)))) else (if am_pOk 3 x2 h then am_cV true (fm_60 x2 x1 h) (fun h11 => some (.inl (some (.int 1), h11))) else none))) = r_) : fg_293_0 N x0 x1 x2 h = r_ := k_
theorem hm_293 {N : Nat} {y0 : Value} {y1 : Value} {y2 : Value} {h : am_H} {r_ : Option am_O} (k_ : fg_293_0 N y0 y1 y2 h = r_) : fm_293 N y0 y1 y2 h = r_ := k_
def frCx (X : Nat) (V W : Nat → Nat → Value) (I J : Nat → Nat → Int32) : Prop := (∀ a j, ¬ (a = 131 ∧ j = 3) → a ≠ 132 → a ≠ 141 → (a < 148 ∨ 163 < a) → a ≠ X → W a j = V a j) ∧ (∀ y, (y < 133 ∨ 138 < y) → y ≠ 142 → (y < 149 ∨ 163 < y) → y ≠ X + 1 → J y = I y) ∧ (wt V → wt W)
theorem frCx_c {X : Nat} {V W : Nat → Nat → Value} {I J : Nat → Nat → Int32} (h : frCl V W I J) : frCx X V W I J := ⟨fun a j n o p q _ => h.1 a j n o p q, fun y n o p _ => h.2.1 y n o p, h.2.2⟩
theorem frCx_1 {X : Nat} {V W : Nat → Nat → Value} {I J : Nat → Nat → Int32} (h : fr1 X V W I J) : frCx X V W I J := ⟨fun a j _ _ _ _ n => h.1 a j n, fun y _ _ _ n => h.2.1 y n, h.2.2⟩
theorem frCx_t {X : Nat} {V W U : Nat → Nat → Value} {I J K : Nat → Nat → Int32} (h : frCx X V W I J) (g : frCx X W U J K) : frCx X V U I K := ⟨fun a j n o p q r => (g.1 a j n o p q r).trans (h.1 a j n o p q r), fun y n o p r => (g.2.1 y n o p r).trans (h.2.1 y n o p r), fun w => g.2.2 (h.2.2 w)⟩
theorem stp_det {x : Nat} {v : Int32} {st s1 s2 : List xT} (h : stpT x v st s1) (hst : stpT x v st s2) (hx : x < 17) : s1 = s2 := by
  have p := stp_no h
  have q := stp_no hst
  rcases (by omega : x < 5 ∨ (5 ≤ x ∧ x < 7) ∨ (7 ≤ x ∧ x < 14) ∨ x = 14 ∨ x = 15 ∨ x = 16) with c | c | c | c | c | c
  · rw [p.1 c, q.1 c]
  · obtain ⟨T, r, b1, _, b3⟩ := p.2.1 c.1 c.2
    obtain ⟨T', r', c1, _, c3⟩ := q.2.1 c.1 c.2
    rw [b1] at c1
    injection c1 with c1 c2
    rw [b3, c3, c1, c2]
  · obtain ⟨T, S, r, b1, _, b3⟩ := p.2.2.1 c.1 c.2
    obtain ⟨T', S', r', c1, _, c3⟩ := q.2.2.1 c.1 c.2
    rw [b1] at c1
    injection c1 with c1 c2
    injection c2 with c2 c4
    rw [b3, c3, c1, c2, c4]
  · obtain ⟨T, r, b1, b3⟩ := p.2.2.2.1 c
    obtain ⟨T', r', c1, c3⟩ := q.2.2.2.1 c
    rw [b1] at c1
    injection c1 with c1 c2
    rw [b3, c3, c1, c2]
  · obtain ⟨T, S, r, b1, _, b3⟩ := p.2.2.2.2.1 c
    obtain ⟨T', S', r', c1, _, c3⟩ := q.2.2.2.2.1 c
    rw [b1] at c1
    injection c1 with c1 c2
    injection c2 with c2 c4
    rw [b3, c3, c1, c2, c4]
  · obtain ⟨T, r, b1, _, b3⟩ := p.2.2.2.2.2 c
    obtain ⟨T', r', c1, _, c3⟩ := q.2.2.2.2.2 c
    rw [b1] at c1
    injection c1 with c1 c2
    rw [b3, c3, c2]
set_option maxRecDepth 100000 in
set_option maxHeartbeats 4000000 in
theorem i294_17 {V : Nat → Nat → Value} {I : Nat → Nat → Int32} {L : Nat → Nat → Int64} {R : Nat → Nat → Option Nat} {tl : am_H} {N x n : Nat} {v : Int32} (h1 : V 131 3 = .int (nI n)) (hx : 17 ≤ x ∧ x < 19) (H1 : tkN x ≤ n) (H2 : n - tkN x + ptN x ≤ 8) (h8 : n ≤ 8) : fm_294 N (.ref 131) (nI x) v (fx V I L R ++ tl) = some (.inl (some (.int 0), fx V I L R ++ tl)) := by
  apply hm_294
  apply hd_294_0
  refine ev_b (rdI h1) (ev_cI (pe_56 _ _) ?_)
  rw [(tk56 x (by omega)).1]
  refine ev_f (nI_nlt H1 (by omega)) (ev_b (rdI h1) (ev_cI (pe_55 _ _) ?_))
  rw [gr55 (by omega) H1]
  exact ev_f (nI_nlt (a := 8) H2 (by decide)) (ev_f (nI_nlt (b := 17) hx.1 (by omega)) rfl)
theorem stp_len {x : Nat} {v : Int32} {st st' : List xT} (h : stpT x v st st') : st'.length = st.length - tkN x + ptN x := by
  rcases h with ⟨c, h⟩ | ⟨c, d, T, r, h, _, g⟩ | ⟨c, d, T, S, r, h, _, g⟩ | ⟨c, T, r, h, g⟩ | ⟨c, T, S, r, h, _, g⟩ | ⟨c, T, r, h, _, g⟩
  · have a : tkN x = 0 := if_pos c
    have b : ptN x = 1 := if_pos (by omega)
    rw [h, a, b]; rfl
  · have a : tkN x = 1 := by unfold tkN; rw [if_neg (by omega), if_pos d]
    have b : ptN x = 1 := if_pos (by omega)
    rw [h, g, a, b]; rfl
  · have a : tkN x = 2 := by unfold tkN; rw [if_neg (by omega), if_neg (by omega), if_pos d]
    have b : ptN x = 1 := if_pos (by omega)
    rw [h, g, a, b]; rfl
  · subst c
    rw [h, g]; rfl
  · subst c
    rw [h, g]; rfl
  · subst c
    rw [h, g]; rfl
set_option maxRecDepth 100000 in
set_option maxHeartbeats 4000000 in
theorem l293_167 {L : Nat → Nat → Int64} {tl : am_H} {N A it ln : Nat} {C : xT} {ht : Nat → Nat} (hN : 400 < N) (hA : 169 < A) (hi : 170 < it) (hz : ht C.length = 1) (hh : ∀ k, k < C.length → xS C k ≤ 18 ∧ (xS C k = 0 → two (xV C k)) ∧ (xS C k ≠ 0 → xS C k < 17 → xV C k = 0) ∧ tkN (xS C k) ≤ ht k ∧ ht k - tkN (xS C k) + ptN (xS C k) ≤ 8 ∧ (xS C k ≠ 17 → ht (k + 1) = ht k - tkN (xS C k) + ptN (xS C k))) : ∀ (m k K : Nat) (V : Nat → Nat → Value) (I : Nat → Nat → Int32) (R : Nat → Nat → Option Nat) (q : Nat → Nat) (st : List xT), k + m = C.length → m + 1 < K → wt V → pqR R q → srcP V I tl A it 1 ln C → cSt V I q st → st.length = ht k → st.length ≤ 8 → ∃ W J R' q' b, fg_293_31 N K (.ref 131) (.ref A) (.ref 167) (nI k) (fx V I L R ++ tl) = some (.inl (some (.int (bI b)), fx W J L R' ++ tl)) ∧ (b = true ↔ ∃ S, rnT (C.drop k) st [S] ∧ okV (wrT S)) ∧ (b = true → ∃ S, rnT (C.drop k) st [S] ∧ okV (wrT S) ∧ hold W J 167 0 0 (wrT S)) ∧ frCx 167 V W I J ∧ (∀ y, y ≠ 140 → R' y = R y) ∧ pqR R' q' := by
  intro m
  induction m with
  | zero =>
    intro k K V I R q st hm hK w hq hs h hl h8
    obtain ⟨K, rfl⟩ : ∃ k, K = k + 1 := ⟨K - 1, by omega⟩
    rw [Nat.add_zero] at hm
    subst hm
    obtain ⟨o1, o2, -, -, o5⟩ := src_ok (L := L) (R := R) hs
    rw [hz] at hl
    rw [List.drop_length]
    cases st with
    | nil => exact absurd hl (by show ¬ 0 = 1; omega)
    | cons S r => cases r with
      | cons S' r => exact absurd hl (by show ¬ r.length + 1 + 1 = 1; omega)
      | nil =>
        obtain ⟨h1, h2, h3⟩ := h
        obtain ⟨t1, -⟩ := lvC_t h2
        have t1 : hold V I (148 + 2 * q 0) 0 0 S := t1
        obtain ⟨p1, p2⟩ := hq.1 0 (by omega)
        have hS := h3 S (List.mem_cons_self ..)
        obtain ⟨i1, i2, i3⟩ := okV_i hS
        obtain ⟨w1, w2, w3, w4, w5⟩ := wrT_i i1 i2 (k20_l.mp i3)
        obtain ⟨W1, J1, e1, d1, f1⟩ := s34_167 (V := V) (I := I) (L := L) (R := R) (tl := tl) (kd := 0) (ln := 0) 0 0 rfl rfl (by omega) (by omega)
        have h11 : W1 131 3 = .int (nI 1) := (f1.1 131 3 (by omega)).trans h1
        have ss := srcP_p (L := L) (R := R) (tl := tl) p1 (f1.2.2 w) (hold_f f1 (by omega) t1) (by omega) (by omega) hS.1
        obtain ⟨cA, cB⟩ := c_295_167 (L := L) (R := R) (tl := tl) (Q := []) hN ss (by omega) (by omega) d1 (by show 0 ≤ 60; omega) i2 (i3 0 i2)
        have no : ∀ W J, frCx 167 V W I J → fg_293_31 N (K + 1) (.ref 131) (.ref A) (.ref 167) (nI C.length) (fx V I L R ++ tl) = some (.inl (some (.int 0), fx W J L R ++ tl)) → ¬ okV (wrT S) → ∃ W J R' q' b, fg_293_31 N (K + 1) (.ref 131) (.ref A) (.ref 167) (nI C.length) (fx V I L R ++ tl) = some (.inl (some (.int (bI b)), fx W J L R' ++ tl)) ∧ (b = true ↔ ∃ S_1, rnT [] [S] [S_1] ∧ okV (wrT S_1)) ∧ (b = true → ∃ S_1, rnT [] [S] [S_1] ∧ okV (wrT S_1) ∧ hold W J 167 0 0 (wrT S_1)) ∧ frCx 167 V W I J ∧ (∀ y, y ≠ 140 → R' y = R y) ∧ pqR R' q' := fun W J F e n => ⟨W, J, R, q, false, e, ⟨fun e => Bool.noConfusion e, fun ⟨S', a, b⟩ => by
          have a : [S'] = [S] := a
          injection a with a _
          rw [a] at b
          exact absurd b n⟩, fun e => Bool.noConfusion e, F, fun _ _ => rfl, hq⟩
        have n0 : ∀ H, fg_293_107 N H = some (.inl (some (.int 0), H)) := fun H => by
          apply hd_293_107
          apply hd_293_108
          exact ev_i rfl rfl
        by_cases c : (wrT S).length ≤ 60
        case neg =>
          obtain ⟨W2, J2, e2, f2⟩ := cB (by show 60 < 0 + _; omega)
          refine no W2 J2 (frCx_1 (fr1_t f1 f2)) ?_ (fun h => c h.1)
          apply hd_293_31
          exact ev_b o2 (ev_t (nI_le (Nat.le_refl _) (by omega)) (ev_i rfl (ev_cV e1 (ev_b (rdI h11) (ev_f (fun h => h rfl) (ev_b (rdR rfl) (ev_b (g140 (k := 0) (by omega) p2 _ rfl) (ev_cI e2 (ev_t rfl (n0 _))))))))))
        obtain ⟨W2, J2, e2, d2, f2⟩ := cA (by show 0 + _ ≤ 60; omega)
        have d2 : hold W2 J2 167 0 0 (wrT S) := d2
        have f12 := fr1_t f1 f2
        have hX : okX [(truN (xS (wrT S) 0), 1, 0)] (sl (wrT S)) := by rw [w4]; exact okX_w (by omega) hS
        obtain ⟨J3, d, e3, g3, b3, f3⟩ := d75 (L := L) (R := R) (tl := tl) hN (srcP_167 (L := L) (R := R) (tl := tl) (f12.2.2 w) d2 (by omega) (by omega) c) (by omega) (by omega) w2 hX
        have run : ∀ o, (if 12 < nI d then (fg_293_107 N (fx (vup W2 132 7 (.int (nI (wrT S).length))) J3 L R ++ tl)) else (fg_293_108 N 1 (fx (vup W2 132 7 (.int (nI (wrT S).length))) J3 L R ++ tl))) = o → fg_293_31 N (K + 1) (.ref 131) (.ref A) (.ref 167) (nI C.length) (fx V I L R ++ tl) = o := fun o k_ => by
          apply hd_293_31
          exact ev_b o2 (ev_t (nI_le (Nat.le_refl _) (by omega)) (ev_i rfl (ev_cV e1 (ev_b (rdI h11) (ev_f (fun h => h rfl) (ev_b (rdR rfl) (ev_b (g140 (k := 0) (by omega) p2 _ rfl) (ev_cI e2 (ev_f (by decide) (ev_i rfl (ev_cI e3 k_)))))))))))
        have F := frCx_t (frCx_1 f12) (frCx_c (X := 167) (frCl_7 (V := W2) (n := nI (wrT S).length) f3))
        by_cases c2 : d ≤ 12
        case neg => exact no _ J3 F (run _ (ev_t (show (12 : Int32) < nI d by simp (disch := omega) only [i_12, nI_ltI]; omega) (n0 _))) (fun h => c2 (g3.mpr h))
        refine ⟨_, J3, R, q, true, run _ (ev_f (nI_nlt (a := 12) c2 (by decide)) ?_), ⟨fun _ => ⟨S, rfl, g3.mp c2⟩, fun _ => rfl⟩, fun _ => ⟨S, rfl, g3.mp c2, hold_7 f3 (by omega) d2⟩, F, fun _ _ => rfl, hq⟩
        apply hd_293_108
        exact ev_i rfl rfl
  | succ m ih =>
    intro k K V I R q st hm hK w hq hs h hl h8
    obtain ⟨K, rfl⟩ : ∃ k, K = k + 1 := ⟨K - 1, by omega⟩
    obtain ⟨o1, o2, -, -, o5⟩ := src_ok (L := L) (R := R) hs
    have hk : k < C.length := by omega
    obtain ⟨a1, a2, a3, a4, a5, a6⟩ := hh k hk
    obtain ⟨g0, g1⟩ := src_get (L := L) (R := R) hs hk
    have dr : C.drop k = (xS C k, xV C k) :: C.drop (k + 1) := by
      rw [List.drop_eq_getElem_cons hk]
      have := xS_at hk
      rw [List.getElem?_eq_getElem hk] at this
      rw [Option.some.inj this]
    have st0 : ∀ (v33 : Int32) (W : Nat → Nat → Value) (J : Nat → Nat → Int32) (R' : Nat → Nat → Option Nat) (o : Option am_O), fm_294 N (.ref 131) (nI (xS C k)) (xV C k) (fx V I L R ++ tl) = some (.inl (some (.int v33), fx W J L R' ++ tl)) → (if ¬ v33 = 0 then (fg_293_31 N K (.ref 131) (.ref A) (.ref 167) (nI k + 1) (fx W J L R' ++ tl)) else some (.inl (some (.int 0), fx W J L R' ++ tl))) = o → fg_293_31 N (K + 1) (.ref 131) (.ref A) (.ref 167) (nI k) (fx V I L R ++ tl) = o := fun v33 W J R' o e k_ => by
      apply hd_293_31
      exact ev_b o2 (ev_f (nI_ge hk (by omega)) (ev_i o1 (ev_cI g0 (ev_i o1 (ev_cI g1 (ev_i rfl (ev_cI e k_)))))))
    rw [dr]
    by_cases c17 : xS C k < 17
    case neg =>
      have e := i294_17 (V := V) (I := I) (L := L) (R := R) (tl := tl) (N := N) (x := xS C k) (v := xV C k) h.1 (by omega) (by omega) (by omega) h8
      refine ⟨V, I, R, q, false, st0 0 V I R _ e (ev_f (fun h => h rfl) rfl), ⟨fun e => Bool.noConfusion e, fun ⟨S, ⟨s1, e1, _⟩, _⟩ => ?_⟩, fun e => Bool.noConfusion e, frCx_c frCl_r, fun _ _ => rfl, hq⟩
      have e1 : stpT (xS C k) (xV C k) st s1 := e1
      rcases e1 with h | h | h | h | h | h
      · exact absurd h.1 (by omega)
      · exact absurd h.2.1 (by omega)
      · exact absurd h.2.1 (by omega)
      · exact absurd h.1 (by omega)
      · exact absurd h.1 (by omega)
      · exact absurd h.1 (by omega)
    have hv1 : xS C k ≠ 0 → xV C k = 0 := fun h => a3 h c17
    obtain ⟨W, J, R', q', f, fR, hq', ho⟩ := s294 (V := V) (I := I) (L := L) (R := R) (tl := tl) (v := xV C k) hN w hq h c17 (by omega) (by omega) h8
    rcases ho with ⟨st', e, hst, hs'⟩ | ⟨e, hn⟩
    · have l' : st'.length = st.length - tkN (xS C k) + ptN (xS C k) := stp_len hst
      obtain ⟨W2, J2, R2, q2, b, e2, g2, k2, f2, r2, y2⟩ := ih (k + 1) K W J R' q' st' (by omega) (by omega) (f.2.2 w) hq' (srcP_c (fun j => f.1 A j (by omega) (by omega) (by omega) (by omega)) (f.2.1 it (by omega) (by omega) (by omega)) hs) hs' (by rw [l', hl]; exact (a6 (by omega)).symm) (by rw [l', hl]; exact a5)
      refine ⟨W2, J2, R2, q2, b, st0 1 W J R' _ e (ev_t (by decide) (by rw [nI_1]; exact e2)), ⟨fun e => ?_, fun ⟨S, ⟨s1, x1, x2⟩, x3⟩ => g2.mpr ⟨S, by rw [← stp_det x1 hst c17]; exact x2, x3⟩⟩, fun e => ?_, frCx_t (frCx_c f) f2, fun y n => (r2 y n).trans (fR y n), y2⟩
      · obtain ⟨S, y1, y2⟩ := g2.mp e
        exact ⟨S, ⟨st', hst, y1⟩, y2⟩
      · obtain ⟨S, y1, y2⟩ := k2 e
        exact ⟨S, ⟨st', hst, y1⟩, y2⟩
    · exact ⟨W, J, R', q', false, st0 0 W J R' _ e (ev_f (fun h => h rfl) rfl), ⟨fun e => Bool.noConfusion e, fun ⟨S, ⟨s1, e1, _⟩, _⟩ => absurd e1 (hn s1)⟩, fun e => Bool.noConfusion e, frCx_c f, fR, hq'⟩
/-! the class's treeOf, for code -/
set_option maxRecDepth 100000 in
set_option maxHeartbeats 4000000 in
theorem c_293_167 {V : Nat → Nat → Value} {I : Nat → Nat → Int32} {L : Nat → Nat → Int64} {R : Nat → Nat → Option Nat} {tl : am_H} {N A it ln : Nat} {C : xT} (hN : 400 < N) (hA : 169 < A) (hi : 170 < it) (w : wt V) (hR : rPl R) (hs : srcP V I tl A it 1 ln C) (hc : sndC C) : ∃ W J R' b, fm_293 N (.ref 131) (.ref A) (.ref 167) (fx V I L R ++ tl) = some (.inl (some (.int (bI b)), fx W J L R' ++ tl)) ∧ (b = true ↔ ∃ Q, tOf C Q) ∧ (b = true → ∃ Q, tOf C Q ∧ hold W J 167 0 0 Q) ∧ frCx 167 V W I J ∧ (∀ y, y ≠ 140 → R' y = R y) ∧ rPl R' := by
  obtain ⟨ht, h0, hz, hh⟩ := hc
  obtain ⟨q, hq⟩ := hR
  obtain ⟨o1, o2, o3, -, o5⟩ := src_ok (L := L) (R := R) hs
  have F : frCl V (vup V 131 3 (.int 0)) I I := frCl_3
  obtain ⟨W, J, R', q', b, e, g, k, f, r, y⟩ := l293_167 (L := L) (tl := tl) hN hA hi hz hh C.length 0 N (vup V 131 3 (.int 0)) I R q [] (by omega) (by omega) (F.2.2 w) hq (srcP_c (fun j => F.1 A j (by omega) (by omega) (by omega) (by omega)) rfl hs) ⟨rfl, fun i T e => absurd e (by simp), fun T hT => by cases hT⟩ h0.symm (by show 0 ≤ 8; omega)
  rw [List.drop_zero] at g k
  refine ⟨W, J, R', b, ?_, ⟨fun e => ?_, fun ⟨Q, S, x1, x2, x3⟩ => g.mpr ⟨S, x1, by rw [← x2]; exact x3⟩⟩, fun e => ?_, frCx_t (frCx_c F) f, r, q', y⟩
  · apply hm_293
    apply hd_293_0
    exact ev_b o3 (ev_t (by decide) (ev_b o3 (ev_t rfl (ev_b qp_131_3 e))))
  · obtain ⟨S, y1, y2⟩ := g.mp e
    exact ⟨wrT S, S, y1, rfl, y2⟩
  · obtain ⟨S, y1, y2⟩ := k e
    exact ⟨wrT S, ⟨S, y1, rfl, y2.1⟩, y2.2⟩
/-! and for a tree -/
set_option maxRecDepth 100000 in
set_option maxHeartbeats 4000000 in
theorem c_293t_167 {V : Nat → Nat → Value} {I : Nat → Nat → Int32} {L : Nat → Nat → Int64} {R : Nat → Nat → Option Nat} {tl : am_H} {N A it ln : Nat} {P : xT} (hA : A ≠ 167) (hs : srcP V I tl A it 0 ln P) : ∃ W J, fm_293 N (.ref 131) (.ref A) (.ref 167) (fx V I L R ++ tl) = some (.inl (some (.int 1), fx W J L R ++ tl)) ∧ hold W J 167 0 ln P ∧ fr1 167 V W I J := by
  obtain ⟨o1, o2, o3, -, o5⟩ := src_ok (L := L) (R := R) hs
  obtain ⟨W, J, e, d, f⟩ := s60_167 (L := L) (R := R) hs hA
  refine ⟨W, J, ?_, d, f⟩
  apply hm_293
  apply hd_293_0
  exact ev_b o3 (ev_f (fun h => h rfl) (ev_i rfl (ev_cV e rfl)))
set_option maxRecDepth 100000 in
set_option maxHeartbeats 4000000 in
theorem l293_169 {L : Nat → Nat → Int64} {tl : am_H} {N A it ln : Nat} {C : xT} {ht : Nat → Nat} (hN : 400 < N) (hA : 169 < A) (hi : 170 < it) (hz : ht C.length = 1) (hh : ∀ k, k < C.length → xS C k ≤ 18 ∧ (xS C k = 0 → two (xV C k)) ∧ (xS C k ≠ 0 → xS C k < 17 → xV C k = 0) ∧ tkN (xS C k) ≤ ht k ∧ ht k - tkN (xS C k) + ptN (xS C k) ≤ 8 ∧ (xS C k ≠ 17 → ht (k + 1) = ht k - tkN (xS C k) + ptN (xS C k))) : ∀ (m k K : Nat) (V : Nat → Nat → Value) (I : Nat → Nat → Int32) (R : Nat → Nat → Option Nat) (q : Nat → Nat) (st : List xT), k + m = C.length → m + 1 < K → wt V → pqR R q → srcP V I tl A it 1 ln C → cSt V I q st → st.length = ht k → st.length ≤ 8 → ∃ W J R' q' b, fg_293_31 N K (.ref 131) (.ref A) (.ref 169) (nI k) (fx V I L R ++ tl) = some (.inl (some (.int (bI b)), fx W J L R' ++ tl)) ∧ (b = true ↔ ∃ S, rnT (C.drop k) st [S] ∧ okV (wrT S)) ∧ (b = true → ∃ S, rnT (C.drop k) st [S] ∧ okV (wrT S) ∧ hold W J 169 0 0 (wrT S)) ∧ frCx 169 V W I J ∧ (∀ y, y ≠ 140 → R' y = R y) ∧ pqR R' q' := by
  intro m
  induction m with
  | zero =>
    intro k K V I R q st hm hK w hq hs h hl h8
    obtain ⟨K, rfl⟩ : ∃ k, K = k + 1 := ⟨K - 1, by omega⟩
    rw [Nat.add_zero] at hm
    subst hm
    obtain ⟨o1, o2, -, -, o5⟩ := src_ok (L := L) (R := R) hs
    rw [hz] at hl
    rw [List.drop_length]
    cases st with
    | nil => exact absurd hl (by show ¬ 0 = 1; omega)
    | cons S r => cases r with
      | cons S' r => exact absurd hl (by show ¬ r.length + 1 + 1 = 1; omega)
      | nil =>
        obtain ⟨h1, h2, h3⟩ := h
        obtain ⟨t1, -⟩ := lvC_t h2
        have t1 : hold V I (148 + 2 * q 0) 0 0 S := t1
        obtain ⟨p1, p2⟩ := hq.1 0 (by omega)
        have hS := h3 S (List.mem_cons_self ..)
        obtain ⟨i1, i2, i3⟩ := okV_i hS
        obtain ⟨w1, w2, w3, w4, w5⟩ := wrT_i i1 i2 (k20_l.mp i3)
        obtain ⟨W1, J1, e1, d1, f1⟩ := s34_169 (V := V) (I := I) (L := L) (R := R) (tl := tl) (kd := 0) (ln := 0) 0 0 rfl rfl (by omega) (by omega)
        have h11 : W1 131 3 = .int (nI 1) := (f1.1 131 3 (by omega)).trans h1
        have ss := srcP_p (L := L) (R := R) (tl := tl) p1 (f1.2.2 w) (hold_f f1 (by omega) t1) (by omega) (by omega) hS.1
        obtain ⟨cA, cB⟩ := c_295_169 (L := L) (R := R) (tl := tl) (Q := []) hN ss (by omega) (by omega) d1 (by show 0 ≤ 60; omega) i2 (i3 0 i2)
        have no : ∀ W J, frCx 169 V W I J → fg_293_31 N (K + 1) (.ref 131) (.ref A) (.ref 169) (nI C.length) (fx V I L R ++ tl) = some (.inl (some (.int 0), fx W J L R ++ tl)) → ¬ okV (wrT S) → ∃ W J R' q' b, fg_293_31 N (K + 1) (.ref 131) (.ref A) (.ref 169) (nI C.length) (fx V I L R ++ tl) = some (.inl (some (.int (bI b)), fx W J L R' ++ tl)) ∧ (b = true ↔ ∃ S_1, rnT [] [S] [S_1] ∧ okV (wrT S_1)) ∧ (b = true → ∃ S_1, rnT [] [S] [S_1] ∧ okV (wrT S_1) ∧ hold W J 169 0 0 (wrT S_1)) ∧ frCx 169 V W I J ∧ (∀ y, y ≠ 140 → R' y = R y) ∧ pqR R' q' := fun W J F e n => ⟨W, J, R, q, false, e, ⟨fun e => Bool.noConfusion e, fun ⟨S', a, b⟩ => by
          have a : [S'] = [S] := a
          injection a with a _
          rw [a] at b
          exact absurd b n⟩, fun e => Bool.noConfusion e, F, fun _ _ => rfl, hq⟩
        have n0 : ∀ H, fg_293_107 N H = some (.inl (some (.int 0), H)) := fun H => by
          apply hd_293_107
          apply hd_293_108
          exact ev_i rfl rfl
        by_cases c : (wrT S).length ≤ 60
        case neg =>
          obtain ⟨W2, J2, e2, f2⟩ := cB (by show 60 < 0 + _; omega)
          refine no W2 J2 (frCx_1 (fr1_t f1 f2)) ?_ (fun h => c h.1)
          apply hd_293_31
          exact ev_b o2 (ev_t (nI_le (Nat.le_refl _) (by omega)) (ev_i rfl (ev_cV e1 (ev_b (rdI h11) (ev_f (fun h => h rfl) (ev_b (rdR rfl) (ev_b (g140 (k := 0) (by omega) p2 _ rfl) (ev_cI e2 (ev_t rfl (n0 _))))))))))
        obtain ⟨W2, J2, e2, d2, f2⟩ := cA (by show 0 + _ ≤ 60; omega)
        have d2 : hold W2 J2 169 0 0 (wrT S) := d2
        have f12 := fr1_t f1 f2
        have hX : okX [(truN (xS (wrT S) 0), 1, 0)] (sl (wrT S)) := by rw [w4]; exact okX_w (by omega) hS
        obtain ⟨J3, d, e3, g3, b3, f3⟩ := d75 (L := L) (R := R) (tl := tl) hN (srcP_169 (L := L) (R := R) (tl := tl) (f12.2.2 w) d2 (by omega) (by omega) c) (by omega) (by omega) w2 hX
        have run : ∀ o, (if 12 < nI d then (fg_293_107 N (fx (vup W2 132 7 (.int (nI (wrT S).length))) J3 L R ++ tl)) else (fg_293_108 N 1 (fx (vup W2 132 7 (.int (nI (wrT S).length))) J3 L R ++ tl))) = o → fg_293_31 N (K + 1) (.ref 131) (.ref A) (.ref 169) (nI C.length) (fx V I L R ++ tl) = o := fun o k_ => by
          apply hd_293_31
          exact ev_b o2 (ev_t (nI_le (Nat.le_refl _) (by omega)) (ev_i rfl (ev_cV e1 (ev_b (rdI h11) (ev_f (fun h => h rfl) (ev_b (rdR rfl) (ev_b (g140 (k := 0) (by omega) p2 _ rfl) (ev_cI e2 (ev_f (by decide) (ev_i rfl (ev_cI e3 k_)))))))))))
        have F := frCx_t (frCx_1 f12) (frCx_c (X := 169) (frCl_7 (V := W2) (n := nI (wrT S).length) f3))
        by_cases c2 : d ≤ 12
        case neg => exact no _ J3 F (run _ (ev_t (show (12 : Int32) < nI d by simp (disch := omega) only [i_12, nI_ltI]; omega) (n0 _))) (fun h => c2 (g3.mpr h))
        refine ⟨_, J3, R, q, true, run _ (ev_f (nI_nlt (a := 12) c2 (by decide)) ?_), ⟨fun _ => ⟨S, rfl, g3.mp c2⟩, fun _ => rfl⟩, fun _ => ⟨S, rfl, g3.mp c2, hold_7 f3 (by omega) d2⟩, F, fun _ _ => rfl, hq⟩
        apply hd_293_108
        exact ev_i rfl rfl
  | succ m ih =>
    intro k K V I R q st hm hK w hq hs h hl h8
    obtain ⟨K, rfl⟩ : ∃ k, K = k + 1 := ⟨K - 1, by omega⟩
    obtain ⟨o1, o2, -, -, o5⟩ := src_ok (L := L) (R := R) hs
    have hk : k < C.length := by omega
    obtain ⟨a1, a2, a3, a4, a5, a6⟩ := hh k hk
    obtain ⟨g0, g1⟩ := src_get (L := L) (R := R) hs hk
    have dr : C.drop k = (xS C k, xV C k) :: C.drop (k + 1) := by
      rw [List.drop_eq_getElem_cons hk]
      have := xS_at hk
      rw [List.getElem?_eq_getElem hk] at this
      rw [Option.some.inj this]
    have st0 : ∀ (v33 : Int32) (W : Nat → Nat → Value) (J : Nat → Nat → Int32) (R' : Nat → Nat → Option Nat) (o : Option am_O), fm_294 N (.ref 131) (nI (xS C k)) (xV C k) (fx V I L R ++ tl) = some (.inl (some (.int v33), fx W J L R' ++ tl)) → (if ¬ v33 = 0 then (fg_293_31 N K (.ref 131) (.ref A) (.ref 169) (nI k + 1) (fx W J L R' ++ tl)) else some (.inl (some (.int 0), fx W J L R' ++ tl))) = o → fg_293_31 N (K + 1) (.ref 131) (.ref A) (.ref 169) (nI k) (fx V I L R ++ tl) = o := fun v33 W J R' o e k_ => by
      apply hd_293_31
      exact ev_b o2 (ev_f (nI_ge hk (by omega)) (ev_i o1 (ev_cI g0 (ev_i o1 (ev_cI g1 (ev_i rfl (ev_cI e k_)))))))
    rw [dr]
    by_cases c17 : xS C k < 17
    case neg =>
      have e := i294_17 (V := V) (I := I) (L := L) (R := R) (tl := tl) (N := N) (x := xS C k) (v := xV C k) h.1 (by omega) (by omega) (by omega) h8
      refine ⟨V, I, R, q, false, st0 0 V I R _ e (ev_f (fun h => h rfl) rfl), ⟨fun e => Bool.noConfusion e, fun ⟨S, ⟨s1, e1, _⟩, _⟩ => ?_⟩, fun e => Bool.noConfusion e, frCx_c frCl_r, fun _ _ => rfl, hq⟩
      have e1 : stpT (xS C k) (xV C k) st s1 := e1
      rcases e1 with h | h | h | h | h | h
      · exact absurd h.1 (by omega)
      · exact absurd h.2.1 (by omega)
      · exact absurd h.2.1 (by omega)
      · exact absurd h.1 (by omega)
      · exact absurd h.1 (by omega)
      · exact absurd h.1 (by omega)
    have hv1 : xS C k ≠ 0 → xV C k = 0 := fun h => a3 h c17
    obtain ⟨W, J, R', q', f, fR, hq', ho⟩ := s294 (V := V) (I := I) (L := L) (R := R) (tl := tl) (v := xV C k) hN w hq h c17 (by omega) (by omega) h8
    rcases ho with ⟨st', e, hst, hs'⟩ | ⟨e, hn⟩
    · have l' : st'.length = st.length - tkN (xS C k) + ptN (xS C k) := stp_len hst
      obtain ⟨W2, J2, R2, q2, b, e2, g2, k2, f2, r2, y2⟩ := ih (k + 1) K W J R' q' st' (by omega) (by omega) (f.2.2 w) hq' (srcP_c (fun j => f.1 A j (by omega) (by omega) (by omega) (by omega)) (f.2.1 it (by omega) (by omega) (by omega)) hs) hs' (by rw [l', hl]; exact (a6 (by omega)).symm) (by rw [l', hl]; exact a5)
      refine ⟨W2, J2, R2, q2, b, st0 1 W J R' _ e (ev_t (by decide) (by rw [nI_1]; exact e2)), ⟨fun e => ?_, fun ⟨S, ⟨s1, x1, x2⟩, x3⟩ => g2.mpr ⟨S, by rw [← stp_det x1 hst c17]; exact x2, x3⟩⟩, fun e => ?_, frCx_t (frCx_c f) f2, fun y n => (r2 y n).trans (fR y n), y2⟩
      · obtain ⟨S, y1, y2⟩ := g2.mp e
        exact ⟨S, ⟨st', hst, y1⟩, y2⟩
      · obtain ⟨S, y1, y2⟩ := k2 e
        exact ⟨S, ⟨st', hst, y1⟩, y2⟩
    · exact ⟨W, J, R', q', false, st0 0 W J R' _ e (ev_f (fun h => h rfl) rfl), ⟨fun e => Bool.noConfusion e, fun ⟨S, ⟨s1, e1, _⟩, _⟩ => absurd e1 (hn s1)⟩, fun e => Bool.noConfusion e, frCx_c f, fR, hq'⟩
/-! the class's treeOf, for code -/
set_option maxRecDepth 100000 in
set_option maxHeartbeats 4000000 in
theorem c_293_169 {V : Nat → Nat → Value} {I : Nat → Nat → Int32} {L : Nat → Nat → Int64} {R : Nat → Nat → Option Nat} {tl : am_H} {N A it ln : Nat} {C : xT} (hN : 400 < N) (hA : 169 < A) (hi : 170 < it) (w : wt V) (hR : rPl R) (hs : srcP V I tl A it 1 ln C) (hc : sndC C) : ∃ W J R' b, fm_293 N (.ref 131) (.ref A) (.ref 169) (fx V I L R ++ tl) = some (.inl (some (.int (bI b)), fx W J L R' ++ tl)) ∧ (b = true ↔ ∃ Q, tOf C Q) ∧ (b = true → ∃ Q, tOf C Q ∧ hold W J 169 0 0 Q) ∧ frCx 169 V W I J ∧ (∀ y, y ≠ 140 → R' y = R y) ∧ rPl R' := by
  obtain ⟨ht, h0, hz, hh⟩ := hc
  obtain ⟨q, hq⟩ := hR
  obtain ⟨o1, o2, o3, -, o5⟩ := src_ok (L := L) (R := R) hs
  have F : frCl V (vup V 131 3 (.int 0)) I I := frCl_3
  obtain ⟨W, J, R', q', b, e, g, k, f, r, y⟩ := l293_169 (L := L) (tl := tl) hN hA hi hz hh C.length 0 N (vup V 131 3 (.int 0)) I R q [] (by omega) (by omega) (F.2.2 w) hq (srcP_c (fun j => F.1 A j (by omega) (by omega) (by omega) (by omega)) rfl hs) ⟨rfl, fun i T e => absurd e (by simp), fun T hT => by cases hT⟩ h0.symm (by show 0 ≤ 8; omega)
  rw [List.drop_zero] at g k
  refine ⟨W, J, R', b, ?_, ⟨fun e => ?_, fun ⟨Q, S, x1, x2, x3⟩ => g.mpr ⟨S, x1, by rw [← x2]; exact x3⟩⟩, fun e => ?_, frCx_t (frCx_c F) f, r, q', y⟩
  · apply hm_293
    apply hd_293_0
    exact ev_b o3 (ev_t (by decide) (ev_b o3 (ev_t rfl (ev_b qp_131_3 e))))
  · obtain ⟨S, y1, y2⟩ := g.mp e
    exact ⟨wrT S, S, y1, rfl, y2⟩
  · obtain ⟨S, y1, y2⟩ := k e
    exact ⟨wrT S, ⟨S, y1, rfl, y2.1⟩, y2.2⟩
/-! and for a tree -/
set_option maxRecDepth 100000 in
set_option maxHeartbeats 4000000 in
theorem c_293t_169 {V : Nat → Nat → Value} {I : Nat → Nat → Int32} {L : Nat → Nat → Int64} {R : Nat → Nat → Option Nat} {tl : am_H} {N A it ln : Nat} {P : xT} (hA : A ≠ 169) (hs : srcP V I tl A it 0 ln P) : ∃ W J, fm_293 N (.ref 131) (.ref A) (.ref 169) (fx V I L R ++ tl) = some (.inl (some (.int 1), fx W J L R ++ tl)) ∧ hold W J 169 0 ln P ∧ fr1 169 V W I J := by
  obtain ⟨o1, o2, o3, -, o5⟩ := src_ok (L := L) (R := R) hs
  obtain ⟨W, J, e, d, f⟩ := s60_169 (L := L) (R := R) hs hA
  refine ⟨W, J, ?_, d, f⟩
  apply hm_293
  apply hd_293_0
  exact ev_b o3 (ev_f (fun h => h rfl) (ev_i rfl (ev_cV e rfl)))
