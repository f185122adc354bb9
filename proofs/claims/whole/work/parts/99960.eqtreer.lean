/-! ===== equal: the trees made simple, in the reference ===== -/
theorem hd_572_165 {N : Nat} {x3 : Int32} {h : am_H} {r_ : Option am_O} (k_ : (if am_rfit (some FieldType.boolean) x3 then some (.inl (some (.int x3), h)) else none) = r_) : fg_572_165 N x3 h = r_ := k_
theorem hd_572_158 {N : Nat} {rec_106 : Value → Int32 → Int32 → am_H → Option am_O} {x0 : Value} {x4 : Int32} {s0 : Int32} {h : am_H} {r_ : Option am_O} (k_ : (rec_106 x0 s0 ((x4 + 1)) h) = r_) : fg_572_158 N rec_106 x0 x4 s0 h = r_ := k_
theorem hd_572_157 {N : Nat} {rec_106 : Value → Int32 → Int32 → am_H → Option am_O} {x0 : Value} {x4 : Int32} {h : am_H} {r_ : Option am_O} (k_ : (fg_572_158 N rec_106 x0 x4 0 h) = r_) : fg_572_157 N rec_106 x0 x4 h = r_ := k_
theorem hd_572_106 {N : Nat} {K : Nat} {x0 : Value} {x3 : Int32} {x4 : Int32} {h : am_H} {r_ : Option am_O} (k_ : ((am_vI (am_pG 3086 x0 h)).bind fun v1 => (if v1 ≤ x4 then (fg_572_165 N x3 h) else (if x3 = 0 then (fg_572_165 N x3 h) else ((am_vR (am_pG 3088 x0 h)).bind fun v5 => ((am_pA 0 v5 x4 h).bind fun v7 => ((am_vR (am_pG 3201 x0 h)).bind fun v9 => ((am_pA 0 v9 x4 h).bind fun v11 => (if ¬ v7 = v11 then (fg_572_157 N (fg_572_106 N K) x0 x4 h) else ((am_vR (am_pG 3089 x0 h)).bind fun v14 => ((am_pA 0 v14 x4 h).bind fun v16 => ((am_vR (am_pG 3202 x0 h)).bind fun v18 => ((am_pA 0 v18 x4 h).bind fun v20 => (if ¬ v16 = v20 then (fg_572_157 N (fg_572_106 N K) x0 x4 h) else (fg_572_158 N (fg_572_106 N K) x0 x4 1 h)))))))))))))) = r_) : fg_572_106 N (K + 1) x0 x3 x4 h = r_ := by rw [fg_572_106]; exact k_
theorem hd_572_102 {N : Nat} {x0 : Value} {s0 : Int32} {h : am_H} {r_ : Option am_O} (k_ : (fg_572_106 N N x0 s0 0 h) = r_) : fg_572_102 N x0 s0 h = r_ := k_
theorem hd_572_29 {N : Nat} {K : Nat} {x0 : Value} {x2 : Int32} {x3 : Int32} {h : am_H} {r_ : Option am_O} (k_ : ((am_vI (am_pG 3086 x0 h)).bind fun v1 => (if v1 ≤ x3 then (if am_pOk 12 x0 h then am_cV true (fm_391 N x0 x2 h) (fun h6 => (if am_pOk 12 x0 h6 then am_cI true (fm_557 N x0 h6) (fun v9 h10 => (if ¬ v9 = 0 then (if am_pOk 12 x0 h10 then am_cV true (fm_536 N x0 0 h10) (fun h15 => ((am_vI (am_pG 3086 x0 h15)).bind fun v17 => ((am_vI (am_pG 3203 x0 h15)).bind fun v19 => (if ¬ v17 = v19 then (fg_572_102 N x0 0 h15) else (fg_572_102 N x0 1 h15))))) else none) else some (.inl (some (.int 0), h10)))) else none)) else none) else ((am_vR (am_pG 3201 x0 h)).bind fun v22 => ((am_vR (am_pG 3088 x0 h)).bind fun v24 => ((am_pA 0 v24 x3 h).bind fun v26 => ((am_pS 0 v22 x3 v26 h).bind fun h28 => ((am_vR (am_pG 3202 x0 h28)).bind fun v30 => ((am_vR (am_pG 3089 x0 h28)).bind fun v32 => ((am_pA 0 v32 x3 h28).bind fun v34 => ((am_pS 0 v30 x3 v34 h28).bind fun h36 => (fg_572_29 N K x0 x2 ((x3 + 1)) h36))))))))))) = r_) : fg_572_29 N (K + 1) x0 x2 x3 h = r_ := by rw [fg_572_29]; exact k_
theorem hd_572_0 {N : Nat} {x0 : Value} {x1 : Int32} {x2 : Int32} {h : am_H} {r_ : Option am_O} (k_ : (if am_pOk 12 x0 h then am_cV true (fm_391 N x0 x1 h) (fun h3 => (if am_pOk 12 x0 h3 then am_cI true (fm_557 N x0 h3) (fun v6 h7 => (if ¬ v6 = 0 then (if am_pOk 12 x0 h7 then am_cV true (fm_536 N x0 0 h7) (fun h12 => ((am_vI (am_pG 3086 x0 h12)).bind fun v14 => ((am_pP 3203 x0 (.int v14) h12).bind fun h16 => (fg_572_29 N N x0 x2 0 h16)))) else none) else some (.inl (some (.int 0), h7)))) else none)) else none) = r_) : fg_572_0 N x0 x1 x2 h = r_ := k_
theorem hm_572 {N : Nat} {y0 : Value} {y1 : Int32} {y2 : Int32} {h : am_H} {r_ : Option am_O} (k_ : fg_572_0 N y0 y1 y2 h = r_) : fm_572 N y0 y1 y2 h = r_ := k_
def fr60 (I J : Nat → Nat → Int32) : Prop := ∀ y, y ≠ 260 → y ≠ 261 → J y = I y
set_option maxRecDepth 100000 in
set_option maxHeartbeats 4000000 in
theorem cp572 {V : Nat → Nat → Value} {L : Nat → Nat → Int64} {R : Nat → Nat → Option Nat} {tl : am_H} {N sz c : Nat} (hs : sz ≤ 60) (h14 : V 174 14 = .int (nI sz)) : ∀ (m k K : Nat) (I : Nat → Nat → Int32), k + m = sz → m < K → (∀ j, j < k → I 260 j = I 186 j ∧ I 261 j = I 187 j) → ∃ J K', fg_572_29 N K (.ref 174) (nI c) (nI k) (fx V I L R ++ tl) = fg_572_29 N (K' + 1) (.ref 174) (nI c) (nI sz) (fx V J L R ++ tl) ∧ (∀ j, j < sz → J 260 j = J 186 j ∧ J 261 j = J 187 j) ∧ fr60 I J := by
  intro m
  induction m with
  | zero =>
    intro k K I hm hK h
    obtain ⟨K, rfl⟩ : ∃ k, K = k + 1 := ⟨K - 1, by omega⟩
    rw [Nat.add_zero] at hm
    subst hm
    exact ⟨I, K, rfl, h, fun _ _ _ => rfl⟩
  | succ m ih =>
    intro k K I hm hK h
    obtain ⟨K, rfl⟩ : ∃ k, K = k + 1 := ⟨K - 1, by omega⟩
    obtain ⟨J, K', e, p, f⟩ := ih (k + 1) K (iup (iup I 260 (upd (I 260) k (I 186 k))) 261 (upd (I 261) k (I 187 k))) (by omega) (by omega) (fun j hj => by
      by_cases c : j = k
      · rw [c]
        exact ⟨upd_eq, upd_eq⟩
      · have := h j (by omega)
        exact ⟨(upd_ne c).trans this.1, (upd_ne c).trans this.2⟩)
    refine ⟨J, K', ?_, p, fun y a b => (f y a b).trans ((iup_na b).trans (iup_na a))⟩
    apply hd_572_29
    refine ev_b (rdI h14) (ev_f (nI_ge (by omega) (by omega)) (ev_b (rdR rfl) (ev_b (rdR rfl) (ev_b (qa_186 (by omega)) (ev_b (qs_260 (by omega)) (ev_b (rdR rfl) (ev_b (rdR rfl) (ev_b (qa_187 (by omega)) (ev_b (qs_261 (by omega)) ?_)))))))))
    rw [nI_1]
    exact e
set_option maxRecDepth 100000 in
set_option maxHeartbeats 4000000 in
theorem lp106 {V : Nat → Nat → Value} {I : Nat → Nat → Int32} {L : Nat → Nat → Int64} {R : Nat → Nat → Option Nat} {tl : am_H} {N sz : Nat} (hs : sz ≤ 60) (h14 : V 174 14 = .int (nI sz)) : ∀ (m k K : Nat), k + m = sz → m + 1 < K → ∃ E : Bool, fg_572_106 N K (.ref 174) 1 (nI k) (fx V I L R ++ tl) = some (.inl (some (.int (bI E)), fx V I L R ++ tl)) ∧ (E = true ↔ ∀ j, k ≤ j → j < sz → I 186 j = I 260 j ∧ I 187 j = I 261 j) := by
  intro m
  induction m with
  | zero =>
    intro k K hm hK
    obtain ⟨K, rfl⟩ : ∃ k, K = k + 1 := ⟨K - 1, by omega⟩
    refine ⟨true, ?_, fun _ j h1 h2 => absurd h2 (by omega), fun _ => rfl⟩
    apply hd_572_106
    refine ev_b (rdI h14) (ev_t (nI_le (by omega) (by omega)) ?_)
    apply hd_572_165
    exact ev_i rfl rfl
  | succ m ih =>
    intro k K hm hK
    obtain ⟨K, rfl⟩ : ∃ k, K = k + 1 := ⟨K - 1, by omega⟩
    have bad : fg_572_157 N (fg_572_106 N K) (.ref 174) (nI k) (fx V I L R ++ tl) = some (.inl (some (.int 0), fx V I L R ++ tl)) := by
      obtain ⟨K, rfl⟩ : ∃ k, K = k + 1 := ⟨K - 1, by omega⟩
      apply hd_572_157
      apply hd_572_158
      rw [nI_1]
      have fin : fg_572_165 N 0 (fx V I L R ++ tl) = some (.inl (some (.int 0), fx V I L R ++ tl)) := by
        apply hd_572_165
        exact ev_i rfl rfl
      apply hd_572_106
      by_cases c : sz ≤ k + 1
      · exact ev_b (rdI h14) (ev_t (nI_le c (by omega)) fin)
      · exact ev_b (rdI h14) (ev_f (nI_ge (by omega) (by omega)) (ev_t rfl fin))
    by_cases c1 : I 186 k = I 260 k
    case neg =>
      refine ⟨false, ?_, fun e => Bool.noConfusion e, fun h => absurd (h k (Nat.le_refl _) (by omega)).1 c1⟩
      apply hd_572_106
      exact ev_b (rdI h14) (ev_f (nI_ge (by omega) (by omega)) (ev_f (by decide) (ev_b (rdR rfl) (ev_b (qa_186 (by omega)) (ev_b (rdR rfl) (ev_b (qa_260 (by omega)) (ev_t c1 bad)))))))
    by_cases c2 : I 187 k = I 261 k
    case neg =>
      refine ⟨false, ?_, fun e => Bool.noConfusion e, fun h => absurd (h k (Nat.le_refl _) (by omega)).2 c2⟩
      apply hd_572_106
      exact ev_b (rdI h14) (ev_f (nI_ge (by omega) (by omega)) (ev_f (by decide) (ev_b (rdR rfl) (ev_b (qa_186 (by omega)) (ev_b (rdR rfl) (ev_b (qa_260 (by omega)) (ev_f (fun h => h c1) (ev_b (rdR rfl) (ev_b (qa_187 (by omega)) (ev_b (rdR rfl) (ev_b (qa_261 (by omega)) (ev_t c2 bad))))))))))))
    obtain ⟨E, e, g⟩ := ih (k + 1) K (by omega) (by omega)
    refine ⟨E, ?_, fun h j h1 h2 => ?_, fun h => g.mpr (fun j h1 h2 => h j (by omega) h2)⟩
    · apply hd_572_106
      refine ev_b (rdI h14) (ev_f (nI_ge (by omega) (by omega)) (ev_f (by decide) (ev_b (rdR rfl) (ev_b (qa_186 (by omega)) (ev_b (rdR rfl) (ev_b (qa_260 (by omega)) (ev_f (fun h => h c1) (ev_b (rdR rfl) (ev_b (qa_187 (by omega)) (ev_b (rdR rfl) (ev_b (qa_261 (by omega)) (ev_f (fun h => h c2) ?_))))))))))))
      apply hd_572_158
      rw [nI_1]
      exact e
    · by_cases c : j = k
      · rw [c]; exact ⟨c1, c2⟩
      · exact g.mp h j (by omega) h2
set_option maxRecDepth 100000 in
set_option maxHeartbeats 4000000 in
theorem eqT_r {V : Nat → Nat → Value} {I : Nat → Nat → Int32} {L : Nat → Nat → Int64} {R : Nat → Nat → Option Nat} {tl : am_H} {N b c : Nat} {I0 : Nat → Nat → Int32} {T T' : xT → Prop} (hN : 5000 < N) (hI : ∀ y, y = 175 ∨ y = 176 ∨ y = 177 ∨ y = 184 ∨ y = 185 → I y = I0 y) (o : ∀ Q, T Q → okP Q ∧ Q.length ≤ 60) (o' : ∀ Q, T' Q → okP Q ∧ Q.length ≤ 60) (u : ∀ Q Q', T Q → T Q' → Q = Q') (u' : ∀ Q Q', T' Q → T' Q' → Q = Q') (h : rTr N I0 b T) (h' : rTr N I0 c T') : ∃ W J E, fm_572 N (.ref 174) (nI b) (nI c) (fx V I L R ++ tl) = some (.inl (some (.int (bI E)), fx W J L R ++ tl)) ∧ (E = true ↔ eqP T T') ∧ keep V W I J ∧ W 174 0 = V 174 0 := by
  have five : ∀ y, y = 175 ∨ y = 176 ∨ y = 177 ∨ y = 184 ∨ y = 185 → y ∈ iRel := by
    intro y hy
    rcases hy with rfl | rfl | rfl | rfl | rfl <;> decide
  obtain ⟨W1, J1, W2, J2, b1, e1, e2, g1, d1, f1⟩ := h V I L R tl hI
  have k1 := keep_Tr f1
  have z1 : W2 174 0 = V 174 0 := f1.1 174 0 (by decide)
  cases b1 with
  | false =>
    refine ⟨W2, J2, false, ?_, ⟨fun e => Bool.noConfusion e, fun ⟨Q, _, h, _⟩ => g1.mpr ⟨Q, h⟩⟩, k1, z1⟩
    apply hm_572
    apply hd_572_0
    exact ev_i rfl (ev_cV e1 (ev_i rfl (ev_cI e2 (ev_f (fun e => e rfl) rfl))))
  | true =>
    obtain ⟨Q, hQ⟩ := g1.mp rfl
    obtain ⟨o1, o2⟩ := o Q hQ
    obtain ⟨W3, J3, e3, h3, f3, v3, -⟩ := r_536 (L := L) (R := R) (tl := tl) (N := N) (kp := 0) (by omega) (by omega) o1 (d1 Q hQ)
    have k3 := keep_t k1 (keep_X f3 (v3 rfl))
    obtain ⟨s1, s2⟩ := smp_ok 60 Q o1
    have l3 := h3.2.2.1
    rw [tI_len] at l3
    have k4 : keep V (vup W3 174 131 (.int (nI (smp 60 Q).length))) I J3 := keep_t k3 (keep_v (by decide) (by decide))
    obtain ⟨J4, K', e4, p4, f4⟩ := cp572 (V := vup W3 174 131 (.int (nI (smp 60 Q).length))) (L := L) (R := R) (tl := tl) (N := N) (sz := (smp 60 Q).length) (c := c) (by omega) ((vup_o (by decide)).trans l3) (smp 60 Q).length 0 N J3 (by omega) (by omega) (fun j hj => absurd hj (by omega))
    have k5 : keep V (vup W3 174 131 (.int (nI (smp 60 Q).length))) I J4 := keep_t k4 ⟨fun _ _ _ => rfl, fun y hy => f4 y (fun e => by subst e; exact absurd hy (by decide)) (fun e => by subst e; exact absurd hy (by decide)), id⟩
    have z4 : vup W3 174 131 (.int (nI (smp 60 Q).length)) 174 0 = V 174 0 := (vup_o (by decide)).trans ((f3.1 174 0 (by decide)).trans z1)
    have lay4 : lay2 (J4 260) (J4 261) (tI (smp 60 Q)) := fun k x hx => by
      have hk : k < (smp 60 Q).length := by
        have := (List.getElem?_eq_some_iff.mp hx).1
        rw [tI_len] at this
        exact this
      obtain ⟨x1, x2⟩ := h3.2.2.2 k x hx
      obtain ⟨y1, y2⟩ := p4 k hk
      rw [y1, y2, f4 186 (by decide) (by decide), f4 187 (by decide) (by decide)]
      exact ⟨x1, x2⟩
    have st0 : ∀ o, fg_572_29 N (K' + 1) (.ref 174) (nI c) (nI (smp 60 Q).length) (fx (vup W3 174 131 (.int (nI (smp 60 Q).length))) J4 L R ++ tl) = o → fm_572 N (.ref 174) (nI b) (nI c) (fx V I L R ++ tl) = o := fun o k_ => by
      apply hm_572
      apply hd_572_0
      exact ev_i rfl (ev_cV e1 (ev_i rfl (ev_cI e2 (ev_t (by decide) (ev_i rfl (ev_cV e3 (ev_b (rdI l3) (ev_b qp_174_131 (e4.trans k_)))))))))
    have l4 : vup W3 174 131 (.int (nI (smp 60 Q).length)) 174 14 = .int (nI (smp 60 Q).length) := (vup_o (by decide)).trans l3
    obtain ⟨W5, J5, W6, J6, b6, e5, e6, g6, d6, f6⟩ := h' (vup W3 174 131 (.int (nI (smp 60 Q).length))) J4 L R tl (fun y hy => (k5.2.1 y (five y hy)).trans (hI y hy))
    have k6 := keep_t k5 (keep_Tr f6)
    have z6 : W6 174 0 = V 174 0 := (f6.1 174 0 (by decide)).trans z4
    cases b6 with
    | false =>
      refine ⟨W6, J6, false, st0 _ ?_, ⟨fun e => Bool.noConfusion e, fun ⟨_, Q', _, h, _⟩ => g6.mpr ⟨Q', h⟩⟩, k6, z6⟩
      apply hd_572_29
      exact ev_b (rdI l4) (ev_t (nI_le (Nat.le_refl _) (by omega)) (ev_i rfl (ev_cV e5 (ev_i rfl (ev_cI e6 (ev_f (fun e => e rfl) rfl))))))
    | true =>
      obtain ⟨Q', hQ'⟩ := g6.mp rfl
      obtain ⟨o3, o4⟩ := o' Q' hQ'
      obtain ⟨s3, s4⟩ := smp_ok 60 Q' o3
      obtain ⟨W7, J7, e7, h7, f7, v7, -⟩ := r_536 (L := L) (R := R) (tl := tl) (N := N) (kp := 0) (by omega) (by omega) o3 (d6 Q' hQ')
      have k7 := keep_t k6 (keep_X f7 (v7 rfl))
      have z7 : W7 174 0 = V 174 0 := (f7.1 174 0 (by decide)).trans z6
      have l7 := h7.2.2.1
      rw [tI_len] at l7
      have m7 : W7 174 131 = .int (nI (smp 60 Q).length) := (f7.1 174 131 (by decide)).trans ((f6.1 174 131 (by decide)).trans vup_eq)
      have r7 : J7 260 = J4 260 ∧ J7 261 = J4 261 := ⟨(f7.2.1 260 (by decide) (by decide) (by decide) (by decide) (by decide) (by decide) (by decide)).trans (f6.2.1 260 (by decide) (by decide) (by decide) (by decide) (by decide) (by decide) (by decide) (by decide) (by decide) (by decide) (by decide)), (f7.2.1 261 (by decide) (by decide) (by decide) (by decide) (by decide) (by decide) (by decide)).trans (f6.2.1 261 (by decide) (by decide) (by decide) (by decide) (by decide) (by decide) (by decide) (by decide) (by decide) (by decide) (by decide))⟩
      have fin : ∀ o, (if ¬ nI (smp 60 Q').length = nI (smp 60 Q).length then (fg_572_102 N (.ref 174) 0 (fx W7 J7 L R ++ tl)) else (fg_572_102 N (.ref 174) 1 (fx W7 J7 L R ++ tl))) = o → fm_572 N (.ref 174) (nI b) (nI c) (fx V I L R ++ tl) = o := fun o k_ => by
        refine st0 _ ?_
        apply hd_572_29
        exact ev_b (rdI l4) (ev_t (nI_le (Nat.le_refl _) (by omega)) (ev_i rfl (ev_cV e5 (ev_i rfl (ev_cI e6 (ev_t (by decide) (ev_i rfl (ev_cV e7 (ev_b (rdI l7) (ev_b (rdI m7) k_))))))))))
      have un : eqP T T' ↔ smp 60 Q = smp 60 Q' := ⟨fun ⟨A, B, y1, y2, y3⟩ => by rw [u A Q y1 hQ, u' B Q' y2 hQ'] at y3; exact y3, fun h => ⟨Q, Q', hQ, hQ', h⟩⟩
      by_cases cl : (smp 60 Q').length = (smp 60 Q).length
      case neg =>
        refine ⟨W7, J7, false, fin _ (ev_t (fun e => cl ((nI_eq (by omega) (by omega)).mp e)) ?_), ⟨fun e => Bool.noConfusion e, fun h => absurd (un.mp h) (fun e => cl (by rw [e]))⟩, k7, z7⟩
        obtain ⟨N, rfl⟩ : ∃ k, N = k + 1 := ⟨N - 1, by omega⟩
        apply hd_572_102
        have f0 : fg_572_165 (N + 1) 0 (fx W7 J7 L R ++ tl) = some (.inl (some (.int 0), fx W7 J7 L R ++ tl)) := by
          apply hd_572_165
          exact ev_i rfl rfl
        apply hd_572_106
        by_cases c0 : (smp 60 Q').length ≤ 0
        · exact ev_b (rdI l7) (ev_t (nI_le (b := 0) c0 (by decide)) f0)
        · exact ev_b (rdI l7) (ev_f (nI_ge (a := 0) (by omega) (by omega)) (ev_t rfl f0))
      obtain ⟨E, e8, g8⟩ := lp106 (V := W7) (I := J7) (L := L) (R := R) (tl := tl) (N := N) (sz := (smp 60 Q').length) (by omega) l7 (smp 60 Q').length 0 N (by omega) (by omega)
      refine ⟨W7, J7, E, fin _ (ev_f (fun h => h (by rw [cl])) ?_), ?_, k7, z7⟩
      · apply hd_572_102
        exact e8
      · rw [g8, un, r7.1, r7.2]
        refine ⟨fun h => (ext_x cl (fun k hk => ?_)).symm, fun h j _ hj => ?_⟩
        · obtain ⟨x1, x2⟩ := h k (Nat.zero_le _) hk
          obtain ⟨y1, y2⟩ := lay_SV h7.2.2.2 hk
          obtain ⟨y3, y4⟩ := lay_SV lay4 (k := k) (by omega)
          rw [y1, y3] at x1
          rw [y2, y4] at x2
          have q1 := okP_20 s3 hk
          have q2 := okP_20 s1 (k := k) (by omega)
          exact ⟨(nI_eq (by omega) (by omega)).mp x1, x2⟩
        · obtain ⟨y1, y2⟩ := lay_SV h7.2.2.2 hj
          obtain ⟨y3, y4⟩ := lay_SV lay4 (k := j) (by omega)
          rw [y1, y2, y3, y4, h]
          exact ⟨rfl, rfl⟩
