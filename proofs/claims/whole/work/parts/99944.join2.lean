/-! ===== trees out of code: joining two, in the reference ===== -/
set_option maxRecDepth 100000 in
set_option maxHeartbeats 4000000 in
theorem ap560 {L : Nat → Nat → Int64} {R : Nat → Nat → Option Nat} {tl : am_H} {V : Nat → Nat → Value} {N q : Nat} {A T : xT} (hq : q + 1 ≤ 8) (hl : A.length + T.length ≤ 128) : ∀ (m k K : Nat) (I : Nat → Nat → Int32), k + m = T.length → m < K → hpL I q (A ++ T.take k) → hpL I (q + 1) T → ∃ J, fg_560_184 N K (.ref 174) (nI 2) (nI q) (nI k) (fx V I L R ++ tl) = fg_560_243 N (.ref 174) (nI q) (fx V J L R ++ tl) ∧ hpL J q (A ++ T) ∧ hfr q I J := by
  intro m
  induction m with
  | zero =>
    intro k K I hm hK h1 h2
    obtain ⟨K, rfl⟩ : ∃ k, K = k + 1 := ⟨K - 1, by omega⟩
    have l := h2.2.1
    refine ⟨I, ?_, ?_, hfr_r⟩
    · apply hd_560_184
      rw [nI_1]
      exact ev_f (by decide) (ev_b (rdR rfl) (ev_b ((qa_252 (by omega)).trans (congrArg some h2.1)) (ev_t (nI_le (by omega) (by omega)) rfl)))
    · rw [List.take_of_length_le (by omega)] at h1
      exact h1
  | succ m ih =>
    intro k K I hm hK h1 h2
    obtain ⟨K, rfl⟩ : ∃ k, K = k + 1 := ⟨K - 1, by omega⟩
    have l := h2.2.1
    have hk : k < T.length := by omega
    have lk : (A ++ T.take k).length = A.length + k := by rw [List.length_append, List.length_take]; omega
    obtain ⟨c1, c2⟩ := h2.2.2 k _ (List.getElem?_eq_getElem hk)
    obtain ⟨J, e, p, f⟩ := h559 (V := V) (L := L) (R := R) (tl := tl) (b := (T[k]).2) (by omega) h1 (by omega) (nI (T[k]).1) rfl
    obtain ⟨J2, e2, p2, f2⟩ := ih (k + 1) K J (by omega) (by omega) (by rw [List.take_succ_eq_append_getElem hk, ← List.append_assoc]; exact p) (hfr_h f (by omega) h2)
    refine ⟨J2, ?_, p2, hfr_t f f2⟩
    apply hd_560_184
    rw [nI_1 q]
    refine ev_f (by decide) (ev_b (rdR rfl) (ev_b ((qa_252 (by omega)).trans (congrArg some h2.1)) (ev_f (nI_ge hk (by omega)) (ev_b (rdR rfl) ?_))))
    rw [x128, nI_1]
    exact ev_b ((qa_250 (by omega)).trans (congrArg some c1)) (ev_b (rdR rfl) (ev_b ((qa_251 (by omega)).trans (congrArg some c2)) (ev_i rfl (ev_cV e e2))))
set_option maxRecDepth 100000 in
set_option maxHeartbeats 4000000 in
theorem h560_2 {V : Nat → Nat → Value} {I : Nat → Nat → Int32} {L : Nat → Nat → Int64} {R : Nat → Nat → Option Nat} {tl : am_H} {N a q : Nat} {S Q : xT} (hN : 400 < N) (ha : 10 ≤ a ∧ a ≤ 16) (hq : q < 7) (h121 : V 174 121 = .int (nI (q + 2))) (h : hpL I q S) (hS : okV S) (h' : hpL I (q + 1) Q) (hQ : okV Q) (x : Int32) (hx : x = nI a) : ∃ W J b, fm_560 N (.ref 174) x (fx V I L R ++ tl) = some (.inl (some (.int (bI b)), fx W J L R ++ tl)) ∧ (b = true ↔ okV (jn2 a S Q)) ∧ (b = true → hpL J q (jn2 a S Q) ∧ (∀ r T, r < q → hpL I r T → hpL J r T) ∧ W 174 121 = .int (nI (q + 1))) ∧ frTo V W I J := by
  subst hx
  have a20 : a ≤ 20 := by omega
  have key : ∀ a, a < 17 → 10 ≤ a → arN a = 2 ∧ twN a 0 = 0 ∧ twN a 1 = 0 := by decide
  obtain ⟨ar, tw⟩ := key a (by omega) ha.1
  obtain ⟨i1, i2, i3⟩ := okV_i hS
  obtain ⟨w1, w2, w3, w4, w5⟩ := wrT_i i1 i2 (k20_l.mp i3)
  obtain ⟨j1, j2, j3⟩ := okV_i hQ
  obtain ⟨v1, v2, v3, v4, v5⟩ := wrT_i j1 j2 (k20_l.mp j3)
  have t60 := hS.1
  have u60 := hQ.1
  obtain ⟨N, rfl⟩ : ∃ m, N = m + 3 := ⟨N - 3, by omega⟩
  obtain ⟨c1, c2⟩ := w560 (V := V) (L := L) (R := R) (tl := tl) (N := N + 3) (K := N + 2) (x1 := nI a) (x2 := nI 2) (x3 := nI q) hN (show q < q + 2 by omega) (by omega) h121 h hS
  have st : ∀ o, fg_560_15 (N + 3) (N + 3) (.ref 174) (nI a) (nI 2) (nI q) (nI q) (fx V I L R ++ tl) = o → fm_560 (N + 3) (.ref 174) (nI a) (fx V I L R ++ tl) = o := fun o k_ => by
    apply hm_560
    apply hd_560_0
    refine ev_cI (ar_e a a20 _) (ev_b (rdI h121) ?_)
    rw [ar, show nI (q + 2) - nI 2 = nI q from nI_sub (b := 2) (by omega)]
    exact k_
  have imp : okV (jn2 a S Q) → okV (wrT S) ∧ okV (wrT Q) := ok_j2 ar tw (by omega) w1 w4 v4
  by_cases cw : okV (wrT S)
  case neg =>
    obtain ⟨W, J, e, f⟩ := c1 cw
    exact ⟨W, J, false, st _ e, ⟨fun e => Bool.noConfusion e, fun e => absurd (imp e).1 cw⟩, fun e => Bool.noConfusion e, f⟩
  obtain ⟨W, J, e, p, lv, z, f⟩ := c2 cw
  have h2 := lv _ _ (by omega) h'
  obtain ⟨d1, d2⟩ := w560 (V := W) (L := L) (R := R) (tl := tl) (N := N + 3) (K := N + 1) (x1 := nI a) (x2 := nI 2) (x3 := nI q) hN (show q + 1 < q + 2 by omega) (by omega) z h2 hQ
  by_cases cv : okV (wrT Q)
  case neg =>
    obtain ⟨W', J', e', f'⟩ := d1 cv
    exact ⟨W', J', false, st _ (e.trans e'), ⟨fun e => Bool.noConfusion e, fun e => absurd (imp e).2 cv⟩, fun e => Bool.noConfusion e, frTo_t f f'⟩
  obtain ⟨W', J', e', p', lv', z', f'⟩ := d2 cv
  have pS := lv' _ _ (by omega) p
  have l60 := cw.1
  have m60 := cv.1
  have r1 : am_pA 0 (.ref 252) (nI q) (fx W' J' L R ++ tl) = some (nI (wrT S).length) := (qa_252 (by omega)).trans (congrArg some pS.1)
  have r2 : am_pA 0 (.ref 252) (nI (q + 1)) (fx W' J' L R ++ tl) = some (nI (wrT Q).length) := (qa_252 (by omega)).trans (congrArg some p'.1)
  by_cases cs : (wrT S).length + (wrT Q).length ≤ 100
  case neg =>
    refine ⟨W', J', false, st _ (e.trans (e'.trans ?_)), ⟨fun e => Bool.noConfusion e, fun e => ?_⟩, fun e => Bool.noConfusion e, frTo_t f f'⟩
    · apply hd_560_15
      refine ev_b (rdI z') (ev_t (nI_le (by omega) (by omega)) (ev_f (by decide) (ev_b (rdR rfl) (ev_b r1 (ev_b (rdR rfl) ?_)))))
      rw [nI_1 q]
      refine ev_b r2 ?_
      rw [nI_add]
      exact ev_f (nI_ge (a := 100) (by omega) (by omega)) rfl
    · have := e.1
      have this : (wrT S ++ wrT Q).length + 1 ≤ 60 := this
      rw [List.length_append] at this
      omega
  obtain ⟨J1, K', g1, p1, z1, f1⟩ := sh_560 (V := W') (L := L) (R := R) (tl := tl) (N := N + 3) (x1 := nI a) (x2 := nI 2) (q := q) (T := wrT S) (by omega) (by omega) (wrT S).length (N + 3) J' (Nat.le_refl _) (by omega) pS.1 (fun i x e _ => pS.2.2 i x e) (fun i x e hi => absurd (List.getElem?_eq_some_iff.mp e).1 (by omega))
  obtain ⟨J2, p2, f2, g2⟩ := zh_560 (V := W') (L := L) (R := R) (tl := tl) (N := N + 3) (K := K') (a := a) (x1 := nI a) (x2 := nI 2) (q := q) (T := wrT S) (by omega) (by omega) (by rw [z1]; exact pS.1) rfl p1
  obtain ⟨J3, e3, p3, f3⟩ := ap560 (V := W') (L := L) (R := R) (tl := tl) (N := N + 3) (q := q) (A := (a, 0) :: wrT S) (T := wrT Q) (by omega) (by rw [List.length_cons]; omega) (wrT Q).length 0 (N + 3) J2 (by omega) (by omega) (by rw [List.take_zero, List.append_nil]; exact p2) (hfr_h f2 (by omega) (hfr_h f1 (by omega) p'))
  have p3 : hpL J3 q (jn2 a S Q) := p3
  have kj : ∀ x, x ∈ jn2 a S Q → x.1 ≤ 20 := fun x hx => by
    cases hx with
    | head => exact a20
    | tail _ hx =>
      rcases List.mem_append.mp hx with h | h
      · exact w3 x h
      · exact v3 x h
  have Fj : isF 1 (sl (jn2 a S Q)) := by
    show isF (0 + arN a) (sl (wrT S ++ wrT Q))
    rw [ar, sl_app]
    exact isF_app _ _ 1 1 w1 v1
  obtain ⟨W4, J4, b, e4, b4, l4, z4, f4⟩ := e560 (V := W') (L := L) (R := R) (tl := tl) (a := a) hN (by omega) p3 (Nat.succ_pos _) kj Fj
  refine ⟨W4, J4, b, st _ (e.trans (e'.trans ?_)), b4, fun _ => ⟨l4 _ _ p3, fun r T hr hT => l4 _ _ (hfr_h f3 (by omega) (hfr_h f2 (by omega) (hfr_h f1 (by omega) (lv' r T (by omega) (lv r T (by omega) hT))))), z4⟩, frTo_t f (frTo_t f' (frTo_t (frTo_h (hfr_t f1 (hfr_t f2 f3))) f4))⟩
  apply hd_560_15
  refine ev_b (rdI z') (ev_t (nI_le (by omega) (by omega)) (ev_f (by decide) (ev_b (rdR rfl) (ev_b r1 (ev_b (rdR rfl) ?_)))))
  rw [nI_1 q]
  refine ev_b r2 ?_
  rw [nI_add]
  refine ev_t (nI_le (b := 100) cs (by decide)) ?_
  apply hd_560_74
  exact ev_b (rdR rfl) (ev_b r1 (g1.trans (g2 _ (e3.trans e4))))
