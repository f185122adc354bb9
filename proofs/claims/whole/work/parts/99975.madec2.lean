/-! ===== edits: candidates in the class: signs, nets with one less ===== -/
theorem fam174 : ∀ x, x < 21 → pv_174 (nI x) = nI (fam x) := by decide +kernel
theorem fam_3 (x : Nat) : fam x ≤ 3 := by unfold fam; split <;> (try split) <;> (try split) <;> omega
set_option maxRecDepth 100000 in
set_option maxHeartbeats 4000000 in
theorem m_6 {V : Nat → Nat → Value} {I : Nat → Nat → Int32} {L : Nat → Nat → Int64} {R : Nat → Nat → Option Nat} {tl : am_H} {N A it kd ln ac c : Nat} {P : xT} (hx : cxC V I tl A it kd ln 6 ac P) (h18 : ∀ k, k < P.length → xS P k ≤ 18) (hc : c < 14 * P.length) : ∃ W J b, fm_163 N (.ref 89) (nI c) (fx V I L R ++ tl) = some (.inl (some (.int (bI b)), fx W J L R ++ tl)) ∧ outM W J kd ln (cd11 (tI P) c) b ∧ frM V W I J := by
  obtain ⟨h5, h7, h8, h1, h2, hs, hA, hi⟩ := hx
  obtain ⟨o1, o2, -, -, o5⟩ := src_ok (L := L) (R := R) hs
  have hk : c / 14 < P.length := by omega
  have d5 : nI c / 14 = nI (c / 14) := nI_dv (b := 14) (by omega) (by omega)
  have m5 : nI c - nI c / 14 * 14 = nI (c % 14) := nI_md (b := 14) (by omega) (by omega)
  have gs := (src_get (L := L) (R := R) hs hk).1
  have rb : am_vR (am_pG 5 (.ref 89) (fx V I L R ++ tl)) = some (.ref A) := rVR qv_89_5 h5
  have xk := h18 _ hk
  obtain ⟨k, ek⟩ : ∃ k, k = c / 14 := ⟨_, rfl⟩
  obtain ⟨s, es⟩ : ∃ s, s = c % 14 := ⟨_, rfl⟩
  have s14 : s < 14 := by omega
  rw [← ek] at d5 hk gs xk
  rw [← es] at m5
  have ecd : cd11 (tI P) c = if s ≠ xS P k ∧ fam s = fam (xS P k) then some (tI (P.set k (s, (nwS s).2))) else none := by
    unfold cd11
    rw [← ek, ← es, (srt_tI hk).1, sN_n (by omega), tI_set]
    rfl
  have st0 : ∀ (W : Nat → Nat → Value) (J : Nat → Nat → Int32) (b : Bool), fm_173 (.ref 89) (nI k) (nI s) (fx V I L R ++ tl) = some (.inl (some (.int (bI b)), fx W J L R ++ tl)) → fm_163 N (.ref 89) (nI c) (fx V I L R ++ tl) = some (.inl (some (.int (bI b)), fx W J L R ++ tl)) := fun W J b e => by
    have e : fm_173 (.ref 89) (nI c / 14) (nI c - nI c / 14 * 14) (fx V I L R ++ tl) = some (.inl (some (.int (bI b)), fx W J L R ++ tl)) := by rw [m5, d5]; exact e
    apply hm_163
    apply hd_163_0
    exact ev_b (rdI h8) (ev_t (nI_le (a := 1) h1 (by omega)) (ev_b (rdI h7) (ev_f (by decide) (ev_f (by decide) (ev_f (by decide) (ev_f (by decide) (ev_f (by decide) (ev_f (by decide) (ev_t rfl (ev_i rfl (ev_cI e (ev_i (bI_fit b) rfl))))))))))))
  by_cases c1 : s = xS P k
  · refine ⟨V, I, false, st0 V I false ?_, out_n (by rw [ecd, if_neg (fun e => e.1 c1)]), frM_r⟩
    apply hm_173
    apply hd_173_0
    exact ev_b rb (ev_i o1 (ev_cI gs (ev_t (by rw [c1]) rfl)))
  have n1 : ¬ nI s = nI (xS P k) := fun e => c1 ((nI_eq (by omega) (by omega)).mp e)
  by_cases c2 : fam s = fam (xS P k)
  case neg =>
    refine ⟨V, I, false, st0 V I false ?_, out_n (by rw [ecd, if_neg (fun e => c2 e.2)]), frM_r⟩
    apply hm_173
    apply hd_173_0
    refine ev_b rb (ev_i o1 (ev_cI gs (ev_f n1 (ev_cI (pe_174 _ _) (ev_cI (pe_174 _ _) ?_)))))
    rw [fam174 s (by omega), fam174 _ (by omega)]
    exact ev_f (fun e => c2 ((nI_eq (by have := fam_3 s; omega) (by have := fam_3 (xS P k); omega)).mp e)) rfl
  rw [if_pos ⟨c1, c2⟩] at ecd
  obtain ⟨W1, J1, e1, d1, f1⟩ := s60_90 (L := L) (R := R) hs (by omega)
  obtain ⟨W2, J2, e2, d2, f2⟩ := s50_90 (L := L) (R := R) (tl := tl) (a := s) d1 hk o5
  obtain ⟨W3, J3, e3, d3, f3⟩ := s51_90 (L := L) (R := R) (tl := tl) (v := (nwS s).2) d2 (i := k) (by rw [List.length_set]; exact hk) (by rw [List.length_set]; exact o5)
  have x2 : xS (P.set k (s, xV P k)) k = s := by
    unfold xS
    rw [List.getD_eq_getElem?_getD, List.getElem?_set_self hk]
    rfl
  rw [x2, List.set_set] at d3
  refine ⟨W3, J3, true, st0 W3 J3 true ?_, out_y ecd d3 (by rw [List.length_set]; exact o5), frM_9 (fr1_t f1 (fr1_t f2 f3))⟩
  apply hm_173
  apply hd_173_0
  refine ev_b rb (ev_i o1 (ev_cI gs (ev_f n1 (ev_cI (pe_174 _ _) (ev_cI (pe_174 _ _) ?_)))))
  rw [fam174 s (by omega), fam174 _ (by omega)]
  refine ev_t (by rw [c2]) (ev_b (rdR rfl) (ev_b rb (ev_i rfl (ev_cV e1 (ev_b (rdR rfl) (ev_i rfl (ev_cV e2 (ev_b (rdR rfl) ?_))))))))
  by_cases c3 : s = 0
  · subst c3
    exact ev_f (fun e => e rfl) (hd_173_64 (ev_i rfl (ev_cV e3 rfl)))
  · have v0 : (nwS s).2 = 0 := by unfold nwS; rw [if_neg c3]
    rw [v0] at e3
    exact ev_t (fun e => c3 ((nI_eq (b := 0) (by omega) (by decide)).mp e)) (hd_173_64 (ev_i rfl (ev_cV e3 rfl)))
theorem seg_nn {P : xT} {k : Nat} : seg P k P.length = P.drop k := by unfold seg; rw [List.take_of_length_le (by rw [List.length_drop]; exact Nat.le_refl _)]
set_option maxRecDepth 100000 in
set_option maxHeartbeats 4000000 in
theorem m_16 {V : Nat → Nat → Value} {I : Nat → Nat → Int32} {L : Nat → Nat → Int64} {R : Nat → Nat → Option Nat} {tl : am_H} {N A it ln ac c : Nat} {P : xT} (hx : cxC V I tl A it 3 ln 16 ac P) (hc : c < P.length) : ∃ W J b, fm_163 N (.ref 89) (nI c) (fx V I L R ++ tl) = some (.inl (some (.int (bI b)), fx W J L R ++ tl)) ∧ outM W J 3 ln (cd31 (tI P) c) b ∧ frM V W I J := by
  obtain ⟨h5, h7, h8, h1, h2, hs, hA, hi⟩ := hx
  obtain ⟨o1, o2, -, o4, o5⟩ := src_ok (L := L) (R := R) hs
  have rb : ∀ (W : Nat → Nat → Value) (J : Nat → Nat → Int32), fr1 90 V W I J → am_vR (am_pG 5 (.ref 89) (fx W J L R ++ tl)) = some (.ref A) := fun W J f => rVR qv_89_5 ((f.1 89 5 (by decide)).trans h5)
  obtain ⟨W1, J1, e1, d1, f1⟩ := s34_90 (V := V) (I := I) (L := L) (R := R) (tl := tl) (kd := 3) (ln := ln) 3 (nI ln) rfl rfl (by omega) (by omega)
  have s1 := srcP_f f1 (by omega) (by omega) hs
  obtain ⟨W2, J2, e2, d2, f2⟩ := s170_90 (L := L) (R := R) (tl := tl) (i := 0) (j := c) s1 d1 (by omega) (by omega) (by show 0 + _ ≤ 60; omega) 0 (nI c) rfl rfl
  have f12 := fr1_t f1 f2
  have s2 := srcP_f f12 (by omega) (by omega) hs
  have o2' := (src_ok (L := L) (R := R) s2).2.1
  have l2 : ([] ++ seg P 0 c).length = c := by rw [List.nil_append, seg_0, List.length_take]; omega
  obtain ⟨W3, J3, e3, d3, f3⟩ := s170_90 (L := L) (R := R) (tl := tl) (i := c + 1) (j := P.length) s2 d2 (by omega) (by omega) (by rw [l2]; omega) (nI c + 1) (nI P.length) (nI_1 c) rfl
  rw [List.nil_append, seg_0, seg_nn] at d3
  refine ⟨W3, J3, true, ?_, out_y (Q := P.take c ++ P.drop (c + 1)) (by unfold cd31; rw [tI_app, tI_take, tI_drop]) d3 (by rw [List.length_append, List.length_take, List.length_drop]; omega), frM_9 (fr1_t f12 f3)⟩
  have e : fm_183 (.ref 89) (nI c) (fx V I L R ++ tl) = some (.inl (some (.int (bI true)), fx W3 J3 L R ++ tl)) := by
    apply hm_183
    apply hd_183_0
    refine ev_b (rdR rfl) (ev_b (rb V I fr1_r) (ev_b o4 (ev_i rfl (ev_cV e1 (ev_b (rdR rfl) (ev_b (rb W1 J1 f1) (ev_i rfl (ev_cI e2 (ev_f (by decide) (ev_b (rdR rfl) (ev_b (rb W2 J2 f12) (ev_b (rb W2 J2 f12) (ev_b o2' (ev_i rfl (ev_cI e3 (ev_f (by decide) ?_))))))))))))))))
    exact hd_183_60 (ev_i rfl rfl)
  apply hm_163
  apply hd_163_0
  exact ev_b (rdI h8) (ev_t (nI_le (a := 1) h1 (by omega)) (ev_b (rdI h7) (ev_f (by decide) (ev_f (by decide) (ev_f (by decide) (ev_f (by decide) (ev_f (by decide) (ev_f (by decide) (ev_f (by decide) (ev_f (by decide) (ev_f (by decide) (ev_f (by decide) (ev_f (by decide) (ev_f (by decide) (ev_f (by decide) (ev_f (by decide) (ev_f (by decide) (ev_f (by decide) (ev_t rfl (ev_i rfl (ev_cI e (ev_i (bI_fit true) rfl))))))))))))))))))))))
