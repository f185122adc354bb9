/-! ===== edits: candidates in the class: code without instructions, judged ===== -/
set_option maxRecDepth 100000 in
set_option maxHeartbeats 4000000 in
theorem s175 {V : Nat → Nat → Value} {I : Nat → Nat → Int32} {L : Nat → Nat → Int64} {R : Nat → Nat → Option Nat} {tl : am_H} {N A it p n rc ac : Nat} {P : xT} (hN : 400 < N) (hx : cxC V I tl A it 1 0 rc ac P) (hc : okI (tI P)) (h18 : ∀ k, k < P.length → xS P k ≤ 18) (hpl : p < P.length) (hn : 1 ≤ n ∧ n ≤ 3) : ∃ W J b, fm_175 N (.ref 89) (nI p) (nI n) (fx V I L R ++ tl) = some (.inl (some (.int (bI b)), fx W J L R ++ tl)) ∧ (b = true ↔ p + n ≤ P.length ∧ wBad (tI P) p n p = false) ∧ (b = true → hold W J 90 1 0 (bO P p n p)) ∧ fr1 90 V W I J := by
  obtain ⟨h5, h7, h8, h1, h2, hs, hA, hi⟩ := hx
  obtain ⟨o1, o2, -, -, l60⟩ := src_ok (L := L) (R := R) hs
  have rb : ∀ (W : Nat → Nat → Value) (J : Nat → Nat → Int32), fr1 90 V W I J → am_vR (am_pG 5 (.ref 89) (fx W J L R ++ tl)) = some (.ref A) := fun W J f => rVR qv_89_5 ((f.1 89 5 (by decide)).trans h5)
  have spn : nI p + nI n = nI (p + n) := nI_add p n
  by_cases hp : p + n ≤ P.length
  case neg =>
    refine ⟨V, I, false, ?_, ⟨fun e => Bool.noConfusion e, fun e => absurd e.1 hp⟩, fun e => Bool.noConfusion e, fr1_r⟩
    apply hm_175
    apply hd_175_0
    exact ev_b (rb V I fr1_r) (ev_b o2 (ev_f (by rw [spn]; exact nI_ge (by omega) (by omega)) rfl))
  obtain ⟨W1, J1, e1, d1, f1⟩ := s34_90 (V := V) (I := I) (L := L) (R := R) (tl := tl) (kd := 1) (ln := 0) 1 0 rfl rfl (by omega) (by omega)
  have s1 := srcP_f f1 (by omega) (by omega) hs
  obtain ⟨W2, J2, e2, d2, f2⟩ := s170_90 (L := L) (R := R) (tl := tl) (i := 0) (j := p) s1 d1 (by omega) (by omega) (by show 0 + _ ≤ 60; omega) 0 (nI p) rfl rfl
  have f12 := fr1_t f1 f2
  have s2 := srcP_f f12 (by omega) (by omega) hs
  have o2' := (src_ok (L := L) (R := R) s2).2.1
  have l2 : ([] ++ seg P 0 p).length = p := by rw [List.nil_append, seg_0, List.length_take]; omega
  obtain ⟨W3, J3, e3, d3, f3⟩ := s170_90 (L := L) (R := R) (tl := tl) (i := p + n) (j := P.length) s2 d2 (by omega) (by omega) (by rw [l2]; omega) (nI p + nI n) (nI P.length) spn rfl
  rw [seg_nn] at d3
  have f13 := fr1_t f12 f3
  have d3 : hold W3 J3 90 1 0 (bO P p n 0) := d3
  obtain ⟨W, J, b, e, g, d, f⟩ := l175 (L := L) (R := R) (tl := tl) (N := N) hA hi hc h18 hp hn.2 p 0 N W3 J3 (by omega) (by omega) ((f13.1 89 5 (by decide)).trans h5) (srcP_f f13 (by omega) (by omega) hs) d3
  refine ⟨W, J, b, ?_, ?_, d, fr1_t f13 f⟩
  · apply hm_175
    apply hd_175_0
    exact ev_b (rb V I fr1_r) (ev_b o2 (ev_t (by rw [spn]; exact nI_le hp (by omega)) (ev_b (rdR rfl) (ev_i rfl (ev_cV e1 (ev_b (rdR rfl) (ev_b (rb W1 J1 f1) (ev_i rfl (ev_cI e2 (ev_b (rdR rfl) (ev_b (rb W2 J2 f12) (ev_b (rb W2 J2 f12) (ev_b o2' (ev_i rfl (ev_cI e3 e)))))))))))))))
  · rw [g, wBad_i]
    exact ⟨fun h => ⟨hp, fun j hj => h j (Nat.zero_le _) hj⟩, fun h j _ hj => h.2 j hj⟩
set_option maxRecDepth 100000 in
set_option maxHeartbeats 4000000 in
theorem m_7 {V : Nat → Nat → Value} {I : Nat → Nat → Int32} {L : Nat → Nat → Int64} {R : Nat → Nat → Option Nat} {tl : am_H} {N A it ac c : Nat} {P : xT} (hN : 400 < N) (hw : wt V) (hx : cxC V I tl A it 1 0 7 ac P) (hc : okI (tI P)) (h18 : ∀ k, k < P.length → xS P k ≤ 18) (hcl : c < 3 * P.length) : ∃ W J b, fm_163 N (.ref 89) (nI c) (fx V I L R ++ tl) = some (.inl (some (.int (bI b)), fx W J L R ++ tl)) ∧ outM W J 1 0 (cd12 (tI P) c) b ∧ frM V W I J := by
  have hx0 := hx
  obtain ⟨h5, h7, h8, h1, h2, hs, hA, hi⟩ := hx
  obtain ⟨o1, o2, -, -, l60⟩ := src_ok (L := L) (R := R) hs
  have hk : c / 3 < P.length := by omega
  have d5 : nI c / 3 = nI (c / 3) := nI_dv (b := 3) (by omega) (by omega)
  have m5 : nI c - nI c / 3 * 3 = nI (c % 3) := nI_md (b := 3) (by omega) (by omega)
  obtain ⟨W, J, b, e, g, d, f⟩ := s175 (L := L) (R := R) (N := N) (p := c / 3) (n := c % 3 + 1) hN hx0 hc h18 hk (by omega)
  have e : fm_175 N (.ref 89) (nI c / 3) (nI c - nI c / 3 * 3 + 1) (fx V I L R ++ tl) = some (.inl (some (.int (bI b)), fx W J L R ++ tl)) := by rw [m5, d5, nI_1]; exact e
  have lt : (tI P).length = P.length := tI_len
  have ecd : cd12 (tI P) c = if c / 3 + (c % 3 + 1) ≤ P.length ∧ wBad (tI P) (c / 3) (c % 3 + 1) (c / 3) = false then gS2 1 (wOut (tI P) (c / 3) (c % 3 + 1)) else none := by unfold cd12; rw [lt]
  have no : ∀ (W : Nat → Nat → Value) (J : Nat → Nat → Int32), fg_163_327 N (fx W J L R ++ tl) = some (.inl (some (.int (bI false)), fx W J L R ++ tl)) := fun W J => hd_163_327 (hd_163_328 (ev_i rfl rfl))
  cases b with
  | false =>
    refine ⟨W, J, false, ?_, out_n (by rw [ecd, if_neg (fun h => Bool.noConfusion (g.mpr h))]), frM_9 f⟩
    apply hm_163
    apply hd_163_0
    exact ev_b (rdI h8) (ev_t (nI_le (a := 1) h1 (by omega)) (ev_b (rdI h7) (ev_f (by decide) (ev_f (by decide) (ev_f (by decide) (ev_f (by decide) (ev_f (by decide) (ev_f (by decide) (ev_f (by decide) (ev_t rfl (ev_i rfl (ev_cI e (ev_t rfl (no W J))))))))))))))
  | true =>
    have hg := g.mp rfl
    rw [if_pos hg, ← bO_w h18 hg.1] at ecd
    have lb := bO_l (P := P) (p := c / 3) (n := c % 3 + 1) (i := c / 3) (Nat.le_refl _) hg.1
    have fq := wOut_f hc (by omega) (by rw [lt]; exact hg.1) (by omega) hg.2
    rw [← bO_w h18 hg.1] at fq
    obtain ⟨F', e2, -⟩ := k_52_110 (V := W) (I := J) (L := L) (R := R) (tl := tl) (N := N) (A := 90) (it := 91) hN (srcP_90 (L := L) (R := R) (tl := tl) (f.2.2 hw) (d rfl) (by omega) (by omega) (by omega)) (by decide) (by decide) (fq.2.2.2 rfl).1
    have lq : (tI (bO P (c / 3) (c % 3 + 1) (c / 3))).length = (bO P (c / 3) (c % 3 + 1) (c / 3)).length := tI_len
    have F : frM V (vup W 110 7 (.int (nI (bO P (c / 3) (c % 3 + 1) (c / 3)).length))) I (iup J 117 F') := frM_t (frM_9 f) ⟨fun a j _ _ _ h => vup_o (fun e => h e.1), fun y _ _ h => iup_na (by omega), fun w => wt_i w (by decide)⟩
    have hd90 : hold (vup W 110 7 (.int (nI (bO P (c / 3) (c % 3 + 1) (c / 3)).length))) (iup J 117 F') 90 1 0 (bO P (c / 3) (c % 3 + 1) (c / 3)) := hold_c (fun j => vup_o (fun e => absurd e.1 (by decide))) (iup_na (by decide)) (d rfl)
    obtain ⟨v, hv⟩ : ∃ v, v = (if (bO P (c / 3) (c % 3 + 1) (c / 3)).length = 0 then (0 : Int32) else cdI (cdX (tI (bO P (c / 3) (c % 3 + 1) (c / 3))) (bO P (c / 3) (c % 3 + 1) (c / 3)).length 0 g00)) := ⟨_, rfl⟩
    rw [← hv] at e2
    have sn := snd_1 (Q := tI (bO P (c / 3) (c % 3 + 1) (c / 3)))
    rw [lq] at sn
    by_cases q0 : (bO P (c / 3) (c % 3 + 1) (c / 3)).length = 0
    · rw [if_pos q0] at hv
      have ns : sndB 1 (tI (bO P (c / 3) (c % 3 + 1) (c / 3))) = false := by
        cases h : sndB 1 (tI (bO P (c / 3) (c % 3 + 1) (c / 3))) with
        | false => rfl
        | true => have := (sn.mp h).1; omega
      refine ⟨_, _, false, ?_, out_n (by rw [ecd]; unfold gS2; rw [ns]; rfl), F⟩
      apply hm_163
      apply hd_163_0
      exact ev_b (rdI h8) (ev_t (nI_le (a := 1) h1 (by omega)) (ev_b (rdI h7) (ev_f (by decide) (ev_f (by decide) (ev_f (by decide) (ev_f (by decide) (ev_f (by decide) (ev_f (by decide) (ev_f (by decide) (ev_t rfl (ev_i rfl (ev_cI e (ev_f (by decide) (ev_b (rdR rfl) (ev_b (rdR rfl) (ev_i rfl (ev_cI e2 (ev_t (by rw [hv]; decide) (no _ _)))))))))))))))))))
    rw [if_neg q0] at hv
    cases hX : cdX (tI (bO P (c / 3) (c % 3 + 1) (c / 3))) (bO P (c / 3) (c % 3 + 1) (c / 3)).length 0 g00 with
    | inl y =>
      rw [hX] at hv sn
      have yl := cdX_lt _ _ _ _ hX
      have ns : sndB 1 (tI (bO P (c / 3) (c % 3 + 1) (c / 3))) = false := by
        cases h : sndB 1 (tI (bO P (c / 3) (c % 3 + 1) (c / 3))) with
        | false => rfl
        | true => exact absurd (sn.mp h).2 (by simp)
      refine ⟨_, _, false, ?_, out_n (by rw [ecd]; unfold gS2; rw [ns]; rfl), F⟩
      apply hm_163
      apply hd_163_0
      exact ev_b (rdI h8) (ev_t (nI_le (a := 1) h1 (by omega)) (ev_b (rdI h7) (ev_f (by decide) (ev_f (by decide) (ev_f (by decide) (ev_f (by decide) (ev_f (by decide) (ev_f (by decide) (ev_f (by decide) (ev_t rfl (ev_i rfl (ev_cI e (ev_f (by decide) (ev_b (rdR rfl) (ev_b (rdR rfl) (ev_i rfl (ev_cI e2 (ev_t (by rw [hv]; exact nI_le (a := 0) (Nat.zero_le y) (by omega)) (no _ _)))))))))))))))))))
    | inr y =>
      rw [hX] at hv sn
      have ys : sndB 1 (tI (bO P (c / 3) (c % 3 + 1) (c / 3))) = true := sn.mpr ⟨by omega, rfl⟩
      refine ⟨_, _, true, ?_, out_y (by rw [ecd]; unfold gS2; rw [ys]; rfl) hd90 (by omega), F⟩
      apply hm_163
      apply hd_163_0
      exact ev_b (rdI h8) (ev_t (nI_le (a := 1) h1 (by omega)) (ev_b (rdI h7) (ev_f (by decide) (ev_f (by decide) (ev_f (by decide) (ev_f (by decide) (ev_f (by decide) (ev_f (by decide) (ev_f (by decide) (ev_t rfl (ev_i rfl (ev_cI e (ev_f (by decide) (ev_b (rdR rfl) (ev_b (rdR rfl) (ev_i rfl (ev_cI e2 (ev_f (by rw [hv]; show ¬ (0 : Int32) ≤ -1; decide) (hd_163_328 (ev_i rfl rfl))))))))))))))))))))
