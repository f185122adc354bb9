/-! ===== edits: candidates in the class: code with instructions ===== -/
theorem hd_176_230 {N : Nat} {rec_168 : Value → Int32 → Int32 → am_H → Option am_O} {x0 : Value} {x1 : Int32} {x3 : Int32} {h : am_H} {r_ : Option am_O} (k_ : (rec_168 x0 x1 ((x3 + 1)) h) = r_) : fg_176_230 N rec_168 x0 x1 x3 h = r_ := k_
theorem hd_176_168 {N : Nat} {K : Nat} {x0 : Value} {x1 : Int32} {x3 : Int32} {h : am_H} {r_ : Option am_O} (k_ : (if x1 ≤ x3 then some (.inl (some (.int 1), h)) else ((am_vR (am_pG 5 x0 h)).bind fun v2 => (if am_pOk 3 v2 h then am_cI true (fm_54 v2 x3 0 h) (fun v5 h6 => (if v5 < 17 then (fg_176_230 N (fg_176_168 N K) x0 x1 x3 h6) else ((am_vR (am_pG 5 x0 h6)).bind fun v9 => (if am_pOk 3 v9 h6 then am_cI true (fm_54 v9 x3 1 h6) (fun v12 h13 => (if ((x3 + 1) + v12) ≤ x1 then (fg_176_230 N (fg_176_168 N K) x0 x1 x3 h13) else ((am_vR (am_pG 0 x0 h13)).bind fun v16 => ((am_vR (am_pG 5 x0 h13)).bind fun v18 => (if am_pOk 3 v18 h13 then am_cI true (fm_54 v18 x3 1 h13) (fun v21 h22 => ((am_vR (am_pG 1 x0 h22)).bind fun v24 => ((am_vI (am_pG 771 v24 h22)).bind fun v26 => (if am_pOk 3 v16 h22 then am_cV true (fm_51 v16 x3 1 ((v21 + v26)) h22) (fun h30 => (fg_176_230 N (fg_176_168 N K) x0 x1 x3 h30)) else none)))) else none))))) else none)))) else none))) = r_) : fg_176_168 N (K + 1) x0 x1 x3 h = r_ := by rw [fg_176_168]; exact k_
theorem hd_176_164 {N : Nat} {h : am_H} {r_ : Option am_O} (k_ : some (.inl (some (.int 0), h)) = r_) : fg_176_164 N h = r_ := k_
theorem hd_176_95 {N : Nat} {x0 : Value} {x1 : Int32} {h : am_H} {r_ : Option am_O} (k_ : ((am_vR (am_pG 0 x0 h)).bind fun v1 => (if am_pOk 3 v1 h then am_cV true (fm_34 v1 1 0 h) (fun h5 => ((am_vR (am_pG 0 x0 h5)).bind fun v7 => ((am_vR (am_pG 5 x0 h5)).bind fun v9 => (if am_pOk 3 v7 h5 then am_cI true (fm_170 v7 v9 0 x1 h5) (fun v12 h13 => (if v12 = 0 then (fg_176_164 N h13) else ((am_vR (am_pG 0 x0 h13)).bind fun v16 => ((am_vR (am_pG 1 x0 h13)).bind fun v18 => ((am_vR (am_pG 1 x0 h13)).bind fun v20 => ((am_vI (am_pG 771 v20 h13)).bind fun v22 => (if am_pOk 3 v16 h13 then am_cI true (fm_170 v16 v18 0 v22 h13) (fun v25 h26 => (if v25 = 0 then (fg_176_164 N h26) else ((am_vR (am_pG 0 x0 h26)).bind fun v29 => ((am_vR (am_pG 5 x0 h26)).bind fun v31 => ((am_vR (am_pG 5 x0 h26)).bind fun v33 => ((am_vI (am_pG 771 v33 h26)).bind fun v35 => (if am_pOk 3 v29 h26 then am_cI true (fm_170 v29 v31 x1 v35 h26) (fun v38 h39 => (if ¬ v38 = 0 then (fg_176_168 N N x0 x1 0 h39) else (fg_176_164 N h39))) else none))))))) else none))))))) else none)))) else none)) = r_) : fg_176_95 N x0 x1 h = r_ := k_
theorem hd_176_90 {N : Nat} {x0 : Value} {x1 : Int32} {s0 : Value} {s1 : Int32} {h : am_H} {r_ : Option am_O} (k_ : (if am_pOk 3 s0 h then am_cI true (fm_41 N s0 s1 0 h) (fun v2 h3 => (fg_176_95 N x0 x1 h3)) else none) = r_) : fg_176_90 N x0 x1 s0 s1 h = r_ := k_
theorem hd_176_60 {N : Nat} {x0 : Value} {x1 : Int32} {x2 : Int32} {s0 : Value} {s1 : Int32} {s2 : Int32} {h : am_H} {r_ : Option am_O} (k_ : (if am_pOk 3 s0 h then am_cI true (fm_41 N s0 s1 s2 h) (fun v2 h3 => ((am_vR (am_pG 1 x0 h3)).bind fun v5 => (if ¬ x2 = 2 then (if ¬ x2 = 4 then (fg_176_90 N x0 x1 v5 7 h3) else (fg_176_90 N x0 x1 v5 9 h3)) else (fg_176_90 N x0 x1 v5 8 h3)))) else none) = r_) : fg_176_60 N x0 x1 x2 s0 s1 s2 h = r_ := k_
theorem hd_176_50 {N : Nat} {x0 : Value} {x1 : Int32} {x2 : Int32} {s0 : Value} {s1 : Int32} {h : am_H} {r_ : Option am_O} (k_ : (if 3 ≤ x2 then (fg_176_60 N x0 x1 x2 s0 s1 0 h) else (fg_176_60 N x0 x1 x2 s0 s1 1 h)) = r_) : fg_176_50 N x0 x1 x2 s0 s1 h = r_ := k_
theorem hd_176_0 {N : Nat} {x0 : Value} {x1 : Int32} {x2 : Int32} {h : am_H} {r_ : Option am_O} (k_ : ((am_vR (am_pG 1 x0 h)).bind fun v1 => (if am_pOk 3 v1 h then am_cV true (fm_34 v1 1 0 h) (fun h5 => (if ¬ x2 = 0 then ((am_vR (am_pG 1 x0 h5)).bind fun v8 => (if 3 ≤ x2 then (if ¬ x2 = 3 then (fg_176_50 N x0 x1 x2 v8 14 h5) else (fg_176_50 N x0 x1 x2 v8 1 h5)) else (fg_176_50 N x0 x1 x2 v8 0 h5))) else ((am_vR (am_pG 1 x0 h5)).bind fun v12 => (if am_pOk 3 v12 h5 then am_cI true (fm_41 N v12 5 0 h5) (fun v15 h16 => (fg_176_95 N x0 x1 h16)) else none)))) else none)) = r_) : fg_176_0 N x0 x1 x2 h = r_ := k_
theorem hm_176 {N : Nat} {y0 : Value} {y1 : Int32} {y2 : Int32} {h : am_H} {r_ : Option am_O} (k_ : fg_176_0 N y0 y1 y2 h = r_) : fm_176 N y0 y1 y2 h = r_ := k_
set_option maxRecDepth 100000 in
set_option maxHeartbeats 4000000 in
theorem s170f_90 {V : Nat → Nat → Value} {I : Nat → Nat → Int32} {L : Nat → Nat → Int64} {R : Nat → Nat → Option Nat} {tl : am_H} {A it kd ln kd' ln' i j : Nat} {Q P : xT} (hs : srcP V I tl A it kd' ln' P) (h : hold V I 90 kd ln Q) (hij : i ≤ j) (hj : j ≤ P.length) (hl : Q.length ≤ 60) (hq : 60 < Q.length + (j - i)) (x y : Int32) (hx : x = nI i) (hy : y = nI j) : fm_170 (.ref 90) (.ref A) x y (fx V I L R ++ tl) = some (.inl (some (.int 0), fx V I L R ++ tl)) := by
  subst hx
  subst hy
  obtain ⟨m, f, hp, hf, m1, m2, k3, k2, l60⟩ := hs
  obtain ⟨x1, x2, x3, x4, x5, x6, p1, p2⟩ := hp V I L R (fun _ => rfl) rfl
  rw [wd2 k2] at p1
  obtain ⟨h1, h2, h3, h4, h5⟩ := h
  unfold fm_170 fg_170_0
  have e0 : nI j - nI i = nI (j - i) := nI_sub hij
  rw [e0]
  refine ev_b (ev_gI p1 rfl rfl) (ev_b (rdI h4) (ev_f (fun h => h rfl) (ev_f (nI_pos (by omega)) (ev_f (nI_pos (by omega)) (ev_b (ev_gI p1 rfl rfl) (ev_f (nI_nlt hj (by omega)) (ev_b (rdI h3) (ev_b (rdI h4) (ev_b (rdR rfl) (ev_b ql_91 ?_))))))))))
  rw [nI_add, nI_mm]
  exact ev_f (nI_ge (a := 120) (by omega) (by omega)) rfl
def insN (w : Nat) : xT := if w = 0 then [(5, 0)] else [(if w < 3 then (0, 1) else if w = 3 then (1, 0) else (14, 0)), (if w = 2 then 8 else if w = 4 then 9 else 7, 0)]
theorem insN_t : ∀ w, w < 5 → tI (insN w) = insL w := by decide
theorem insN_l : ∀ w, w < 5 → (insN w).length = (insL w).length := by decide
set_option maxRecDepth 100000 in
set_option maxHeartbeats 4000000 in
theorem s176a {V : Nat → Nat → Value} {I : Nat → Nat → Int32} {L : Nat → Nat → Int64} {R : Nat → Nat → Option Nat} {tl : am_H} {N p w : Nat} (hN : 1 ≤ N) (hw : w < 5) : ∃ W J, fm_176 N (.ref 89) (nI p) (nI w) (fx V I L R ++ tl) = fg_176_95 N (.ref 89) (nI p) (fx W J L R ++ tl) ∧ hold W J 92 1 0 (insN w) ∧ fr1 92 V W I J := by
  obtain ⟨W1, J1, e1, d1, f1⟩ := s34_92 (V := V) (I := I) (L := L) (R := R) (tl := tl) (kd := 1) (ln := 0) 1 0 rfl rfl (by omega) (by omega)
  rcases (by omega : w = 0 ∨ w = 1 ∨ w = 2 ∨ w = 3 ∨ w = 4) with rfl | rfl | rfl | rfl | rfl
  · obtain ⟨W2, J2, e2, d2, f2⟩ := s41_92 (L := L) (R := R) (tl := tl) (N := N) (a := 5) (b := 0) hN d1 (by decide) 5 rfl
    refine ⟨W2, J2, ?_, d2, fr1_t f1 f2⟩
    apply hm_176
    apply hd_176_0
    exact ev_b (rdR rfl) (ev_i rfl (ev_cV e1 (ev_f (fun h => h rfl) (ev_b (rdR rfl) (ev_i rfl (ev_cI e2 rfl))))))
  · obtain ⟨W2, J2, e2, d2, f2⟩ := s41_92 (L := L) (R := R) (tl := tl) (N := N) (a := 0) (b := 1) hN d1 (by decide) 0 rfl
    obtain ⟨W3, J3, e3, d3, f3⟩ := s41_92 (L := L) (R := R) (tl := tl) (N := N) (a := 7) (b := 0) hN d2 (by decide) 7 rfl
    refine ⟨W3, J3, ?_, d3, fr1_t f1 (fr1_t f2 f3)⟩
    apply hm_176
    apply hd_176_0
    refine ev_b (rdR rfl) (ev_i rfl (ev_cV e1 (ev_t (by decide) (ev_b (rdR rfl) (ev_f (by decide) ?_)))))
    apply hd_176_50
    refine ev_f (by decide) ?_
    apply hd_176_60
    refine ev_i rfl (ev_cI e2 (ev_b (rdR rfl) (ev_t (by decide) (ev_t (by decide) ?_))))
    apply hd_176_90
    exact ev_i rfl (ev_cI e3 rfl)
  · obtain ⟨W2, J2, e2, d2, f2⟩ := s41_92 (L := L) (R := R) (tl := tl) (N := N) (a := 0) (b := 1) hN d1 (by decide) 0 rfl
    obtain ⟨W3, J3, e3, d3, f3⟩ := s41_92 (L := L) (R := R) (tl := tl) (N := N) (a := 8) (b := 0) hN d2 (by decide) 8 rfl
    refine ⟨W3, J3, ?_, d3, fr1_t f1 (fr1_t f2 f3)⟩
    apply hm_176
    apply hd_176_0
    refine ev_b (rdR rfl) (ev_i rfl (ev_cV e1 (ev_t (by decide) (ev_b (rdR rfl) (ev_f (by decide) ?_)))))
    apply hd_176_50
    refine ev_f (by decide) ?_
    apply hd_176_60
    refine ev_i rfl (ev_cI e2 (ev_b (rdR rfl) (ev_f (fun h => h rfl) ?_)))
    apply hd_176_90
    exact ev_i rfl (ev_cI e3 rfl)
  · obtain ⟨W2, J2, e2, d2, f2⟩ := s41_92 (L := L) (R := R) (tl := tl) (N := N) (a := 1) (b := 0) hN d1 (by decide) 1 rfl
    obtain ⟨W3, J3, e3, d3, f3⟩ := s41_92 (L := L) (R := R) (tl := tl) (N := N) (a := 7) (b := 0) hN d2 (by decide) 7 rfl
    refine ⟨W3, J3, ?_, d3, fr1_t f1 (fr1_t f2 f3)⟩
    apply hm_176
    apply hd_176_0
    refine ev_b (rdR rfl) (ev_i rfl (ev_cV e1 (ev_t (by decide) (ev_b (rdR rfl) (ev_t (by decide) (ev_f (fun h => h rfl) ?_))))))
    apply hd_176_50
    refine ev_t (by decide) ?_
    apply hd_176_60
    refine ev_i rfl (ev_cI e2 (ev_b (rdR rfl) (ev_t (by decide) (ev_t (by decide) ?_))))
    apply hd_176_90
    exact ev_i rfl (ev_cI e3 rfl)
  · obtain ⟨W2, J2, e2, d2, f2⟩ := s41_92 (L := L) (R := R) (tl := tl) (N := N) (a := 14) (b := 0) hN d1 (by decide) 14 rfl
    obtain ⟨W3, J3, e3, d3, f3⟩ := s41_92 (L := L) (R := R) (tl := tl) (N := N) (a := 9) (b := 0) hN d2 (by decide) 9 rfl
    refine ⟨W3, J3, ?_, d3, fr1_t f1 (fr1_t f2 f3)⟩
    apply hm_176
    apply hd_176_0
    refine ev_b (rdR rfl) (ev_i rfl (ev_cV e1 (ev_t (by decide) (ev_b (rdR rfl) (ev_t (by decide) (ev_t (by decide) ?_))))))
    apply hd_176_50
    refine ev_t (by decide) ?_
    apply hd_176_60
    refine ev_i rfl (ev_cI e2 (ev_b (rdR rfl) (ev_t (by decide) (ev_f (fun h => h rfl) ?_))))
    apply hd_176_90
    exact ev_i rfl (ev_cI e3 rfl)
def bG (P : xT) (p : Nat) (f : Nat → Nat × Int32) (X : xT) (i : Nat) : xT := (List.range i).map f ++ (seg P i p ++ X)
theorem bG_l {P X : xT} {p i : Nat} {f : Nat → Nat × Int32} (hi : i ≤ p) (hp : p ≤ P.length) : (bG P p f X i).length = p + X.length := by
  unfold bG
  rw [List.length_append, List.length_map, List.length_range, List.length_append, seg_len hp]
  omega
theorem bG_at {P X : xT} {p i : Nat} {f : Nat → Nat × Int32} (hi : i < p) (hp : p ≤ P.length) : xS (bG P p f X i) i = xS P i ∧ ∀ v, f i = (xS P i, v) → (bG P p f X i).set i (xS P i, v) = bG P p f X (i + 1) := by
  have l : ((List.range i).map f).length = i := by rw [List.length_map, List.length_range]
  unfold bG
  rw [seg_c hi hp, List.cons_append]
  refine ⟨?_, fun v hv => ?_⟩
  · unfold xS
    rw [List.getD_eq_getElem?_getD, List.getElem?_append_right (by omega), l, Nat.sub_self]
    rfl
  · rw [List.set_append_right _ _ (by omega), l, Nat.sub_self, List.range_succ, List.map_append, List.append_assoc]
    show List.map f (List.range i) ++ ((xS P i, v) :: (seg P (i + 1) p ++ X)) = _
    rw [← hv]
    rfl
theorem bG_s {P X : xT} {p i : Nat} {f : Nat → Nat × Int32} (hi : i < p) (hp : p ≤ P.length) (h : f i = (xS P i, xV P i)) : bG P p f X i = bG P p f X (i + 1) := by
  unfold bG
  rw [seg_c hi hp, List.range_succ, List.map_append, List.append_assoc, ← h]
  rfl
def fJ (P : xT) (p n j : Nat) : Nat × Int32 := (xS P j, if 16 < xS P j ∧ p < j + 1 + sN (xV P j) then xV P j + nI n else xV P j)
theorem bG_w {P : xT} {p w : Nat} (h18 : ∀ k, k < P.length → xS P k ≤ 18) (hp : p ≤ P.length) (hw : w < 5) : tI (bG P p (fJ P p (insN w).length) (insN w ++ P.drop p) p) = wIn (tI P) p w := by
  unfold bG wIn
  rw [seg_e, List.nil_append, tI_app, tI_app, tI_drop, insN_t w hw]
  congr 1
  unfold tI
  rw [List.map_map]
  refine List.map_congr_left (fun k hk => ?_)
  rw [List.mem_range] at hk
  have e := srt_tI (Q := P) (k := k) (by omega)
  have x := h18 k (by omega)
  show (nI (fJ P p (insN w).length k).1, (fJ P p (insN w).length k).2) = _
  unfold fJ jmp
  have e1 : srt (List.map (fun x => (nI x.1, x.2)) P) k = nI (xS P k) := e.1
  have e2 : vlu (List.map (fun x => (nI x.1, x.2)) P) k = xV P k := e.2
  rw [e1, e2, sN_n (by omega), insN_l w hw]
set_option maxRecDepth 100000 in
set_option maxHeartbeats 4000000 in
theorem l176 {L : Nat → Nat → Int64} {R : Nat → Nat → Option Nat} {tl : am_H} {N A it p : Nat} {P Y X : xT} (hA : 130 < A) (hi : 130 < it) (hc : okI (tI P)) (h18 : ∀ k, k < P.length → xS P k ≤ 18) (hp : p ≤ P.length) (hX : p + X.length ≤ 60) (hY : Y.length ≤ 60) : ∀ (m i K : Nat) (V : Nat → Nat → Value) (I : Nat → Nat → Int32), i + m = p → m < K → V 89 5 = .ref A → srcP V I tl A it 1 0 P → hold V I 90 1 0 (bG P p (fJ P p Y.length) X i) → hold V I 92 1 0 Y → ∃ W J, fg_176_168 N K (.ref 89) (nI p) (nI i) (fx V I L R ++ tl) = some (.inl (some (.int (bI true)), fx W J L R ++ tl)) ∧ hold W J 90 1 0 (bG P p (fJ P p Y.length) X p) ∧ fr1 90 V W I J := by
  intro m
  induction m with
  | zero =>
    intro i K V I hm hK h5 hs hd h92
    obtain ⟨K, rfl⟩ : ∃ k, K = k + 1 := ⟨K - 1, by omega⟩
    rw [Nat.add_zero] at hm
    subst hm
    exact ⟨V, I, hd_176_168 (ev_t (nI_le (Nat.le_refl _) (by omega)) rfl), hd, fr1_r⟩
  | succ m ih =>
    intro i K V I hm hK h5 hs hd h92
    obtain ⟨K, rfl⟩ : ∃ k, K = k + 1 := ⟨K - 1, by omega⟩
    obtain ⟨o1, o2, -, -, l60⟩ := src_ok (L := L) (R := R) hs
    have hk : i < P.length := by omega
    obtain ⟨g0, g1⟩ := src_get (L := L) (R := R) hs hk
    have rb : am_vR (am_pG 5 (.ref 89) (fx V I L R ++ tl)) = some (.ref A) := rVR qv_89_5 h5
    obtain ⟨w1, w2, w3⟩ := hc i (by rw [tI_len]; exact hk)
    have xi := h18 i hk
    rw [(srt_tI hk).1, sN_n (by omega), (srt_tI hk).2] at w3
    have go : ∀ (W : Nat → Nat → Value) (J : Nat → Nat → Int32), fr1 90 V W I J → hold W J 90 1 0 (bG P p (fJ P p Y.length) X (i + 1)) → fg_176_168 N (K + 1) (.ref 89) (nI p) (nI i) (fx V I L R ++ tl) = fg_176_230 N (fg_176_168 N K) (.ref 89) (nI p) (nI i) (fx W J L R ++ tl) → ∃ W J, fg_176_168 N (K + 1) (.ref 89) (nI p) (nI i) (fx V I L R ++ tl) = some (.inl (some (.int (bI true)), fx W J L R ++ tl)) ∧ hold W J 90 1 0 (bG P p (fJ P p Y.length) X p) ∧ fr1 90 V W I J := fun W J f hd e => by
      obtain ⟨W', J', e', d', f'⟩ := ih (i + 1) K W J (by omega) (by omega) ((f.1 89 5 (by decide)).trans h5) (srcP_f f (by omega) (by omega) hs) hd (hold_c (fun j => f.1 92 j (by decide)) (f.2.1 93 (by decide)) h92)
      refine ⟨W', J', e.trans ?_, d', fr1_t f f'⟩
      apply hd_176_230
      rw [nI_1]
      exact e'
    obtain ⟨at1, at2⟩ := bG_at (f := fJ P p Y.length) (X := X) (i := i) (p := p) (by omega) hp
    have same : fJ P p Y.length i = (xS P i, xV P i) → hold V I 90 1 0 (bG P p (fJ P p Y.length) X (i + 1)) := fun h => by rw [← bG_s (by omega) hp h]; exact hd
    have st0 : ∀ o, (if nI (xS P i) < 17 then (fg_176_230 N (fg_176_168 N K) (.ref 89) (nI p) (nI i) (fx V I L R ++ tl)) else ((am_vR (am_pG 5 (.ref 89) (fx V I L R ++ tl))).bind fun v9 => (if am_pOk 3 v9 (fx V I L R ++ tl) then am_cI true (fm_54 v9 (nI i) 1 (fx V I L R ++ tl)) (fun v12 h13 => (if ((nI i + 1) + v12) ≤ nI p then (fg_176_230 N (fg_176_168 N K) (.ref 89) (nI p) (nI i) h13) else ((am_vR (am_pG 0 (.ref 89) h13)).bind fun v16 => ((am_vR (am_pG 5 (.ref 89) h13)).bind fun v18 => (if am_pOk 3 v18 h13 then am_cI true (fm_54 v18 (nI i) 1 h13) (fun v21 h22 => ((am_vR (am_pG 1 (.ref 89) h22)).bind fun v24 => ((am_vI (am_pG 771 v24 h22)).bind fun v26 => (if am_pOk 3 v16 h22 then am_cV true (fm_51 v16 (nI i) 1 ((v21 + v26)) h22) (fun h30 => (fg_176_230 N (fg_176_168 N K) (.ref 89) (nI p) (nI i) h30)) else none)))) else none))))) else none))) = o → fg_176_168 N (K + 1) (.ref 89) (nI p) (nI i) (fx V I L R ++ tl) = o := fun o k_ => by
      apply hd_176_168
      exact ev_f (nI_ge (by omega) (by omega)) (ev_b rb (ev_i o1 (ev_cI g0 k_)))
    by_cases c1 : 16 < xS P i
    case neg => exact go V I fr1_r (same (by unfold fJ; rw [if_neg (fun e => c1 e.1)])) (st0 _ (ev_t ((nI_ltI (b := 17) (by omega) (by decide)).mpr (by omega)) rfl))
    obtain ⟨w4, w5⟩ := w3 (by omega)
    have sj : nI i + 1 + xV P i = nI (i + 1 + sN (xV P i)) := by rw [nI_1]; exact (congrArg (fun z => nI (i + 1) + z) w4).trans (nI_add _ _)
    have n17 : ¬ nI (xS P i) < 17 := nI_nlt (b := 17) (by omega) (by omega)
    by_cases c2 : p < i + 1 + sN (xV P i)
    case neg => exact go V I fr1_r (same (by unfold fJ; rw [if_neg (fun e => c2 e.2)])) (st0 _ (ev_f n17 (ev_b rb (ev_i o1 (ev_cI g1 (ev_t (by rw [sj]; exact nI_le (by omega) (by omega)) rfl))))))
    have lb := bG_l (P := P) (X := X) (f := fJ P p Y.length) (i := i) (p := p) (by omega) hp
    obtain ⟨W1, J1, e1, d1, f1⟩ := s51_90 (L := L) (R := R) (tl := tl) (v := xV P i + nI Y.length) hd (i := i) (by rw [lb]; omega) (by rw [lb]; omega)
    rw [at1, at2 _ (by unfold fJ; rw [if_pos ⟨c1, c2⟩])] at d1
    exact go W1 J1 f1 d1 (st0 _ (ev_f n17 (ev_b rb (ev_i o1 (ev_cI g1 (ev_f (by rw [sj]; exact nI_ge c2 (by omega)) (ev_b (rdR rfl) (ev_b rb (ev_i o1 (ev_cI g1 (ev_b (rdR rfl) (ev_b (rdI h92.2.2.1) (ev_i rfl (ev_cV e1 rfl))))))))))))))
theorem frM_92 {V W : Nat → Nat → Value} {I J : Nat → Nat → Int32} (f : fr1 92 V W I J) : frM V W I J := ⟨fun a j _ _ h _ => f.1 a j h, fun y _ h _ => f.2.1 y h, f.2.2⟩
set_option maxRecDepth 100000 in
set_option maxHeartbeats 4000000 in
theorem chk90 {V : Nat → Nat → Value} {I : Nat → Nat → Int32} {L : Nat → Nat → Int64} {R : Nat → Nat → Option Nat} {tl : am_H} {N : Nat} {Q : xT} (hN : 400 < N) (hw : wt V) (hd : hold V I 90 1 0 Q) (hl : Q.length ≤ 60) (hc : okI (tI Q)) : ∃ W J v, fm_52 N (.ref 110) (.ref 90) (fx V I L R ++ tl) = some (.inl (some (.int v), fx W J L R ++ tl)) ∧ (sndB 1 (tI Q) = false → 0 ≤ v) ∧ (sndB 1 (tI Q) = true → ¬ 0 ≤ v) ∧ hold W J 90 1 0 Q ∧ frM V W I J := by
  obtain ⟨F', e2, -⟩ := k_52_110 (V := V) (I := I) (L := L) (R := R) (tl := tl) (N := N) (A := 90) (it := 91) hN (srcP_90 (L := L) (R := R) (tl := tl) hw hd (by omega) (by omega) hl) (by decide) (by decide) hc
  have lq : (tI Q).length = Q.length := tI_len
  have F : frM V (vup V 110 7 (.int (nI Q.length))) I (iup I 117 F') := ⟨fun a j _ _ _ h => vup_o (fun e => h e.1), fun y _ _ h => iup_na (by omega), fun w => wt_i w (by decide)⟩
  have hd90 : hold (vup V 110 7 (.int (nI Q.length))) (iup I 117 F') 90 1 0 Q := hold_c (fun j => vup_o (fun e => absurd e.1 (by decide))) (iup_na (by decide)) hd
  have sn := snd_1 (Q := tI Q)
  rw [lq] at sn
  refine ⟨_, _, _, e2, ?_, ?_, hd90, F⟩
  · intro hs
    by_cases q0 : Q.length = 0
    · rw [if_pos q0]; decide
    · rw [if_neg q0]
      cases hX : cdX (tI Q) Q.length 0 g00 with
      | inl y =>
        have yl := cdX_lt _ _ _ _ hX
        exact nI_le (a := 0) (Nat.zero_le y) (by omega)
      | inr y =>
        rw [hX] at sn
        have := sn.mpr ⟨by omega, rfl⟩
        rw [hs] at this
        exact Bool.noConfusion this
  · intro hs
    have h := sn.mp hs
    rw [if_neg (by omega)]
    cases hX : cdX (tI Q) Q.length 0 g00 with
    | inl y => rw [hX] at h; exact absurd h.2 (by simp)
    | inr y => show ¬ (0 : Int32) ≤ -1; decide
set_option maxRecDepth 100000 in
set_option maxHeartbeats 4000000 in
theorem s176 {V : Nat → Nat → Value} {I : Nat → Nat → Int32} {L : Nat → Nat → Int64} {R : Nat → Nat → Option Nat} {tl : am_H} {N A it p w rc ac : Nat} {P : xT} (hN : 400 < N) (hwt : wt V) (hx : cxC V I tl A it 1 0 rc ac P) (hc : okI (tI P)) (h18 : ∀ k, k < P.length → xS P k ≤ 18) (hp : p ≤ P.length) (hw : w < 5) : ∃ W J b, fm_176 N (.ref 89) (nI p) (nI w) (fx V I L R ++ tl) = some (.inl (some (.int (bI b)), fx W J L R ++ tl)) ∧ (b = true ↔ P.length + (insN w).length ≤ 60) ∧ (b = true → hold W J 90 1 0 (bG P p (fJ P p (insN w).length) (insN w ++ P.drop p) p)) ∧ frM V W I J := by
  obtain ⟨W0, J0, e0, d0, f0⟩ := s176a (V := V) (I := I) (L := L) (R := R) (tl := tl) (N := N) (p := p) (by omega) hw
  rw [e0]
  have g0 := frM_92 f0
  obtain ⟨h5, h7, h8, h1, h2, hs, hA, hi⟩ := cx_f hx g0
  have hwt := g0.2.2 hwt
  obtain ⟨o1, o2, -, -, l60⟩ := src_ok (L := L) (R := R) hs
  have rb : ∀ (W : Nat → Nat → Value) (J : Nat → Nat → Int32), fr1 90 W0 W J0 J → am_vR (am_pG 5 (.ref 89) (fx W J L R ++ tl)) = some (.ref A) := fun W J f => rVR qv_89_5 ((f.1 89 5 (by decide)).trans h5)
  have ln2 : (insN w).length ≤ 2 := by rw [insN_l w hw]; exact ins_l2 w
  have k92 : ∀ (W : Nat → Nat → Value) (J : Nat → Nat → Int32), fr1 90 W0 W J0 J → hold W J 92 1 0 (insN w) := fun W J f => hold_c (fun j => f.1 92 j (by decide)) (f.2.1 93 (by decide)) d0
  obtain ⟨W1, J1, e1, d1, f1⟩ := s34_90 (V := W0) (I := J0) (L := L) (R := R) (tl := tl) (kd := 1) (ln := 0) 1 0 rfl rfl (by omega) (by omega)
  have s1 := srcP_f f1 (by omega) (by omega) hs
  obtain ⟨W2, J2, e2, d2, f2⟩ := s170_90 (L := L) (R := R) (tl := tl) (i := 0) (j := p) s1 d1 (by omega) (by omega) (by show 0 + _ ≤ 60; omega) 0 (nI p) rfl rfl
  have f12 := fr1_t f1 f2
  have l2 : ([] ++ seg P 0 p).length = p := by rw [List.nil_append, seg_0, List.length_take]; omega
  have s2 := srcP_92 (L := L) (R := R) (tl := tl) (f12.2.2 hwt) (k92 W2 J2 f12) (by omega) (by omega) (by omega)
  have st0 : ∀ o, am_cI true (fm_170 (.ref 90) (.ref 92) 0 (nI (insN w).length) (fx W2 J2 L R ++ tl)) (fun v25 h26 => (if v25 = 0 then (fg_176_164 N h26) else ((am_vR (am_pG 0 (.ref 89) h26)).bind fun v29 => ((am_vR (am_pG 5 (.ref 89) h26)).bind fun v31 => ((am_vR (am_pG 5 (.ref 89) h26)).bind fun v33 => ((am_vI (am_pG 771 v33 h26)).bind fun v35 => (if am_pOk 3 v29 h26 then am_cI true (fm_170 v29 v31 (nI p) v35 h26) (fun v38 h39 => (if ¬ v38 = 0 then (fg_176_168 N N (.ref 89) (nI p) 0 h39) else (fg_176_164 N h39))) else none))))))) = o → fg_176_95 N (.ref 89) (nI p) (fx W0 J0 L R ++ tl) = o := fun o k_ => by
    apply hd_176_95
    exact ev_b (rdR rfl) (ev_i rfl (ev_cV e1 (ev_b (rdR rfl) (ev_b (rb W1 J1 f1) (ev_i rfl (ev_cI e2 (ev_f (by decide) (ev_b (rdR rfl) (ev_b (rdR rfl) (ev_b (rdR rfl) (ev_b (rdI (k92 W2 J2 f12).2.2.1) (ev_i rfl k_))))))))))))
  have no : ∀ (W : Nat → Nat → Value) (J : Nat → Nat → Int32), fg_176_164 N (fx W J L R ++ tl) = some (.inl (some (.int (bI false)), fx W J L R ++ tl)) := fun W J => hd_176_164 rfl
  by_cases q1 : p + (insN w).length ≤ 60
  case neg =>
    refine ⟨W2, J2, false, st0 _ (ev_cI (s170f_90 (L := L) (R := R) (i := 0) (j := (insN w).length) s2 d2 (by omega) (by omega) (by rw [l2]; omega) (by rw [l2]; omega) 0 _ rfl rfl) (ev_t rfl (no W2 J2))), ⟨fun e => Bool.noConfusion e, fun e => by omega⟩, fun e => Bool.noConfusion e, frM_t g0 (frM_9 f12)⟩
  obtain ⟨W3, J3, e3, d3, f3⟩ := s170_90 (L := L) (R := R) (tl := tl) (i := 0) (j := (insN w).length) s2 d2 (by omega) (by omega) (by rw [l2]; omega) 0 _ rfl rfl
  rw [seg_whole] at d3
  have f13 := fr1_t f12 f3
  have s3 := srcP_f f13 (by omega) (by omega) hs
  have o2' := (src_ok (L := L) (R := R) s3).2.1
  have l3 : (([] ++ seg P 0 p) ++ insN w).length = p + (insN w).length := by rw [List.length_append, l2]
  by_cases q2 : P.length + (insN w).length ≤ 60
  case neg =>
    refine ⟨W3, J3, false, st0 _ (ev_cI e3 (ev_f (by decide) (ev_b (rdR rfl) (ev_b (rb W3 J3 f13) (ev_b (rb W3 J3 f13) (ev_b o2' (ev_i rfl (ev_cI (s170f_90 (L := L) (R := R) (i := p) (j := P.length) s3 d3 hp (Nat.le_refl _) (by rw [l3]; omega) (by rw [l3]; omega) _ _ rfl rfl) (ev_f (fun h => h rfl) (no W3 J3)))))))))), ⟨fun e => Bool.noConfusion e, fun e => absurd e q2⟩, fun e => Bool.noConfusion e, frM_t g0 (frM_9 f13)⟩
  obtain ⟨W4, J4, e4, d4, f4⟩ := s170_90 (L := L) (R := R) (tl := tl) (i := p) (j := P.length) s3 d3 hp (Nat.le_refl _) (by rw [l3]; omega) _ _ rfl rfl
  rw [seg_nn] at d4
  have f14 := fr1_t f13 f4
  have d4 : hold W4 J4 90 1 0 (bG P p (fJ P p (insN w).length) (insN w ++ P.drop p) 0) := by
    unfold bG
    rw [List.append_assoc, List.append_assoc] at d4
    exact d4
  have lx : (insN w ++ P.drop p).length = (insN w).length + (P.length - p) := by rw [List.length_append, List.length_drop]
  obtain ⟨W, J, e, d, f⟩ := l176 (L := L) (R := R) (tl := tl) (N := N) (Y := insN w) (X := insN w ++ P.drop p) hA hi hc h18 hp (by rw [lx]; omega) (by omega) p 0 N W4 J4 (by omega) (by omega) ((f14.1 89 5 (by decide)).trans h5) (srcP_f f14 (by omega) (by omega) hs) d4 (k92 W4 J4 f14)
  exact ⟨W, J, true, st0 _ (ev_cI e3 (ev_f (by decide) (ev_b (rdR rfl) (ev_b (rb W3 J3 f13) (ev_b (rb W3 J3 f13) (ev_b o2' (ev_i rfl (ev_cI e4 (ev_t (by decide) e))))))))), ⟨fun _ => q2, fun _ => rfl⟩, fun _ => d, frM_t g0 (frM_9 (fr1_t f14 f))⟩
set_option maxRecDepth 100000 in
set_option maxHeartbeats 4000000 in
theorem m_8 {V : Nat → Nat → Value} {I : Nat → Nat → Int32} {L : Nat → Nat → Int64} {R : Nat → Nat → Option Nat} {tl : am_H} {N A it ac c : Nat} {P : xT} (hN : 400 < N) (hw : wt V) (hx : cxC V I tl A it 1 0 8 ac P) (hc : okI (tI P)) (h18 : ∀ k, k < P.length → xS P k ≤ 18) (hj : ∀ k, k < (tI P).length → 17 ≤ sN (srt (tI P) k) → sN (vlu (tI P) k) ≤ 100) (hcl : c < 5 * (P.length + 1)) : ∃ W J b, fm_163 N (.ref 89) (nI c) (fx V I L R ++ tl) = some (.inl (some (.int (bI b)), fx W J L R ++ tl)) ∧ outM W J 1 0 (cd13 (tI P) c) b ∧ frM V W I J := by
  have hx0 := hx
  obtain ⟨h5, h7, h8, h1, h2, hs, hA, hi⟩ := hx
  obtain ⟨o1, o2, -, -, l60⟩ := src_ok (L := L) (R := R) hs
  have hk : c / 5 ≤ P.length := by omega
  have d5 : nI c / 5 = nI (c / 5) := nI_dv (b := 5) (by omega) (by omega)
  have m5 : nI c - nI c / 5 * 5 = nI (c % 5) := nI_md (b := 5) (by omega) (by omega)
  have w5 : c % 5 < 5 := Nat.mod_lt _ (by decide)
  obtain ⟨W, J, b, e, g, d, f⟩ := s176 (L := L) (R := R) (N := N) (p := c / 5) (w := c % 5) hN hw hx0 hc h18 hk w5
  have e : fm_176 N (.ref 89) (nI c / 5) (nI c - nI c / 5 * 5) (fx V I L R ++ tl) = some (.inl (some (.int (bI b)), fx W J L R ++ tl)) := by rw [m5, d5]; exact e
  have lt : (tI P).length = P.length := tI_len
  have lw := wIn_l (P := tI P) (p := c / 5) (w := c % 5) (by rw [lt]; exact hk)
  rw [lt, ← insN_l _ w5] at lw
  have no : ∀ (W : Nat → Nat → Value) (J : Nat → Nat → Int32), fg_163_360 N (fx W J L R ++ tl) = some (.inl (some (.int (bI false)), fx W J L R ++ tl)) := fun W J => hd_163_360 (hd_163_361 (ev_i rfl rfl))
  cases b with
  | false =>
    have ns : sndB 1 (wIn (tI P) (c / 5) (c % 5)) = false := by
      cases h : sndB 1 (wIn (tI P) (c / 5) (c % 5)) with
      | false => rfl
      | true => exact absurd (g.mpr (by have := (snd_1.mp h).1.2; omega)) (fun e => Bool.noConfusion e)
    refine ⟨W, J, false, ?_, out_n (by unfold cd13 gS2; rw [ns]; rfl), f⟩
    apply hm_163
    apply hd_163_0
    exact ev_b (rdI h8) (ev_t (nI_le (a := 1) h1 (by omega)) (ev_b (rdI h7) (ev_f (by decide) (ev_f (by decide) (ev_f (by decide) (ev_f (by decide) (ev_f (by decide) (ev_f (by decide) (ev_f (by decide) (ev_f (by decide) (ev_t rfl (ev_i rfl (ev_cI e (ev_t rfl (no W J)))))))))))))))
  | true =>
    have hg := g.mp rfl
    have fq := wIn_f hc hj (by omega) (by rw [lt]; exact hk) w5
    have lb : (bG P (c / 5) (fJ P (c / 5) (insN (c % 5)).length) (insN (c % 5) ++ P.drop (c / 5)) (c / 5)).length = P.length + (insN (c % 5)).length := by rw [bG_l (Nat.le_refl _) hk, List.length_append, List.length_drop]; omega
    rw [← bG_w h18 hk w5] at fq
    obtain ⟨W2, J2, v, e2, v0, v1, d2, f2⟩ := chk90 (L := L) (R := R) (tl := tl) (N := N) hN (f.2.2 hw) (d rfl) (by omega) (fq.2.2.2 rfl).1
    rw [bG_w h18 hk w5] at v0 v1
    cases hS : sndB 1 (wIn (tI P) (c / 5) (c % 5)) with
    | false =>
      refine ⟨_, _, false, ?_, out_n (by unfold cd13 gS2; rw [hS]; rfl), frM_t f f2⟩
      apply hm_163
      apply hd_163_0
      exact ev_b (rdI h8) (ev_t (nI_le (a := 1) h1 (by omega)) (ev_b (rdI h7) (ev_f (by decide) (ev_f (by decide) (ev_f (by decide) (ev_f (by decide) (ev_f (by decide) (ev_f (by decide) (ev_f (by decide) (ev_f (by decide) (ev_t rfl (ev_i rfl (ev_cI e (ev_f (by decide) (ev_b (rdR rfl) (ev_b (rdR rfl) (ev_i rfl (ev_cI e2 (ev_t (v0 hS) (no _ _))))))))))))))))))))
    | true =>
      refine ⟨_, _, true, ?_, out_y (by unfold cd13 gS2; rw [hS, ← bG_w h18 hk w5]; rfl) d2 (by omega), frM_t f f2⟩
      apply hm_163
      apply hd_163_0
      exact ev_b (rdI h8) (ev_t (nI_le (a := 1) h1 (by omega)) (ev_b (rdI h7) (ev_f (by decide) (ev_f (by decide) (ev_f (by decide) (ev_f (by decide) (ev_f (by decide) (ev_f (by decide) (ev_f (by decide) (ev_f (by decide) (ev_t rfl (ev_i rfl (ev_cI e (ev_f (by decide) (ev_b (rdR rfl) (ev_b (rdR rfl) (ev_i rfl (ev_cI e2 (ev_f (v1 hS) (hd_163_361 (ev_i rfl rfl)))))))))))))))))))))
