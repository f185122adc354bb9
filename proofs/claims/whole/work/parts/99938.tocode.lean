/-! ===== the code of a tree: toCode ===== -/
theorem xE_0 {P : xT} (ho : okP P) : xE P 0 = P.length := by
  unfold xE enL
  rw [List.drop_zero, isF_tk _ 1 (okF_F (sl P) [(0, 1, 0)] ho.1), sl_len, Nat.zero_add]
theorem pl_st {L : Nat → Nat → Int64} {R : Nat → Nat → Option Nat} {tl : am_H} {V : Nat → Nat → Value} {I J : Nat → Nat → Int32} {N K k s : Nat} {nt : Int32} {P : xT} (hB : rB V I nt P) (hk : k < P.length) (hs : I 219 k = nI s) (e : fm_497 N (.ref 174) (nI k) (nI s) (fx V I L R ++ tl) = some (.inl (none, fx V J L R ++ tl))) : fg_494_102 N (K + 1) (.ref 174) (nI k) (fx V I L R ++ tl) = fg_494_102 N K (.ref 174) (nI (k + 1)) (fx V J L R ++ tl) := by
  have l60 := hB.1.2.2.2.2
  apply hd_494_102
  refine ev_b (rdI (rA_18 hB.1)) (ev_f (nI_ge hk (by omega)) (ev_b (rdR rfl) (ev_b ((qa_219 (by omega)).trans (congrArg some hs)) (ev_i rfl (ev_cV e ?_)))))
  rw [nI_1]
theorem pl_all {L : Nat → Nat → Int64} {R : Nat → Nat → Option Nat} {tl : am_H} {V : Nat → Nat → Value} {N : Nat} {nt : Int32} {P : xT} (hN : 400 < N) (ho : okP P) (hg : ∀ j, gdT P j) : ∀ (n k : Nat), k < P.length → xE P k - k ≤ n → ∀ (I : Nat → Nat → Int32) (s K : Nat), rB V I nt P → I 219 k = nI s → s + (cO2 P k).length ≤ 60 → ∃ J, fg_494_102 N (K + (xE P k - k)) (.ref 174) (nI k) (fx V I L R ++ tl) = fg_494_102 N K (.ref 174) (nI (xE P k)) (fx V J L R ++ tl) ∧ pF (fun i => s ≤ i ∧ i < s + (cO2 P k).length) (fun i => k < i ∧ i < xE P k) I J ∧ atL J s (cO2 P k) := by
  intro n
  induction n with
  | zero => intro k hk hn; have := xE_gt hk; omega
  | succ n ih =>
    intro k hk hn I s K hB hs h60
    obtain ⟨J0, e0, f0, a1, a2, a3, a4⟩ := p497 (L := L) (R := R) (tl := tl) hN ho hB (hg k) hk h60
    obtain ⟨n1, n2, n3, n4, n5, n6, n7, n8, n9⟩ := nd_at ho hk
    have g1 := gd_1 hk (hg k)
    have xg0 := xE_gt hk
    have B0 := rB_f f0 hB
    by_cases c1 : xS P k < 7
    · refine ⟨J0, ?_, f0, ?_⟩
      · rw [n7 c1, show K + (k + 1 - k) = K + 1 by omega]
        exact pl_st hB hk hs e0
      · rw [cO_unf ho hk g1.2.2, if_pos (by omega)]
        exact a1 (by omega)
    have h7 : 7 ≤ xS P k := by omega
    have q1 := n4 h7
    have xg1 := xE_gt q1.1
    have cb := cO_bb ho hk (hg k) h7
    have ln := congrArg List.length cb
    simp only [List.length_append] at ln
    obtain ⟨b1, b2⟩ := a2 h7
    obtain ⟨J1, e1, f1, t1⟩ := ih (k + 1) q1.1 (by omega) J0 s (K + (xE P k - xE P (k + 1))) B0 b1 (by omega)
    have B1 := rB_f f1 B0
    have E1 : fg_494_102 N (K + (xE P k - k)) (.ref 174) (nI k) (fx V I L R ++ tl) = fg_494_102 N (K + (xE P k - xE P (k + 1))) (.ref 174) (nI (xE P (k + 1))) (fx V J1 L R ++ tl) := by
      rw [show K + (xE P k - k) = K + (xE P k - xE P (k + 1)) + (xE P (k + 1) - (k + 1)) + 1 by omega]
      exact (pl_st hB hk hs e0).trans e1
    have F1 : pF (fun i => s ≤ i ∧ i < s + (cO2 P k).length) (fun i => k < i ∧ i < xE P k) I J1 := pF_t f0 (pF_w f1 (fun i h => ⟨h.1, by have := h.2; omega⟩) (fun i h => ⟨by have := h.1; omega, by have := h.2; omega⟩))
    have u1 : atL J1 (s + (cO2 P (k + 1)).length) (bA P k) := pF_l f1 (fun i hi h => by have := h.2; omega) b2
    by_cases c2 : xS P k < 10
    · rw [if_neg (by omega)] at cb ln
      have x8 := n8 h7 c2
      refine ⟨J1, ?_, F1, ?_⟩
      · rw [E1, x8, Nat.sub_self, Nat.add_zero]
      · rw [cb, List.append_nil]
        exact atL_app t1 rfl u1
    have h10 : 10 ≤ xS P k := by omega
    rw [if_pos h10] at cb ln
    simp only [List.length_append] at ln
    have q2 := n5 h10
    have xg2 := xE_gt q2.1
    obtain ⟨b3, b4⟩ := a3 h10
    have b3' : J1 219 (xE P (k + 1)) = _ := (f1.2.2 _ (fun h => by have := h.2; omega)).trans b3
    obtain ⟨J2, e2, f2, t2⟩ := ih (xE P (k + 1)) q2.1 (by omega) J1 _ (K + (xE P k - xE P (xE P (k + 1)))) B1 b3' (by omega)
    have B2 := rB_f f2 B1
    have E2 : fg_494_102 N (K + (xE P k - k)) (.ref 174) (nI k) (fx V I L R ++ tl) = fg_494_102 N (K + (xE P k - xE P (xE P (k + 1)))) (.ref 174) (nI (xE P (xE P (k + 1)))) (fx V J2 L R ++ tl) := by
      rw [E1, show K + (xE P k - xE P (k + 1)) = K + (xE P k - xE P (xE P (k + 1))) + (xE P (xE P (k + 1)) - xE P (k + 1)) by omega]
      exact e2
    have F2 : pF (fun i => s ≤ i ∧ i < s + (cO2 P k).length) (fun i => k < i ∧ i < xE P k) I J2 := pF_t F1 (pF_w f2 (fun i h => ⟨by have := h.1; omega, by have := h.2; omega⟩) (fun i h => ⟨by have := h.1; omega, by have := h.2; omega⟩))
    have v1 : atL J2 s (cO2 P (k + 1)) := pF_l f2 (fun i hi h => by have := h.1; omega) t1
    have v2 : atL J2 (s + (cO2 P (k + 1)).length) (bA P k) := pF_l f2 (fun i hi h => by have := h.1; omega) u1
    have v4 : atL J2 _ (bB P k) := pF_l f2 (fun i hi h => by have := h.2; omega) (pF_l f1 (fun i hi h => by have := h.2; omega) b4)
    by_cases c3 : xS P k = 20
    · rw [if_pos c3] at cb ln
      have q3 := n6 c3
      have xg3 := xE_gt q3.1
      have b5 : J2 219 (xE P (xE P (k + 1))) = _ := (f2.2.2 _ (fun h => by have := h.2; omega)).trans ((f1.2.2 _ (fun h => by have := h.2; omega)).trans (a4 c3))
      obtain ⟨J3, e3, f3, t3⟩ := ih (xE P (xE P (k + 1))) q3.1 (by omega) J2 _ K B2 b5 (by omega)
      refine ⟨J3, ?_, pF_t F2 (pF_w f3 (fun i h => ⟨by have := h.1; omega, by have := h.2; omega⟩) (fun i h => ⟨by have := h.1; omega, by have := h.2; omega⟩)), ?_⟩
      · rw [E2, ← q3.2.1]
        exact e3
      · have v1 : atL J3 s (cO2 P (k + 1)) := pF_l f3 (fun i hi h => by have := h.1; omega) v1
        have v2 : atL J3 (s + (cO2 P (k + 1)).length) (bA P k) := pF_l f3 (fun i hi h => by have := h.1; omega) v2
        have v3 : atL J3 _ (cO2 P (xE P (k + 1))) := pF_l f3 (fun i hi h => by have := h.1; omega) t2
        have v4 : atL J3 _ (bB P k) := pF_l f3 (fun i hi h => by have := h.1; omega) v4
        rw [cb]
        exact atL_app v1 rfl (atL_app v2 rfl (atL_app v3 rfl (atL_app v4 rfl t3)))
    · rw [if_neg c3] at cb ln
      have x9 := n9 h10 (by omega)
      refine ⟨J2, ?_, F2, ?_⟩
      · rw [E2, x9, Nat.sub_self, Nat.add_zero]
      · rw [cb, List.append_nil]
        exact atL_app v1 rfl (atL_app v2 rfl (atL_app t2 rfl v4))
/-- what toCode touches -/
def frTc (V W : Nat → Nat → Value) (I J : Nat → Nat → Int32) : Prop := (∀ a j, ¬ (a = 174 ∧ (j = 13 ∨ j = 14 ∨ j = 15 ∨ j = 18 ∨ j = 19 ∨ j = 20)) → W a j = V a j) ∧ (∀ y, y ≠ 186 → y ≠ 187 → y ≠ 188 → y ≠ 189 → y ≠ 192 → y ≠ 211 → y ≠ 219 → y ≠ 253 → J y = I y) ∧ (wt V → wt W)
set_option maxRecDepth 100000 in
set_option maxHeartbeats 4000000 in
theorem rs_494 {V : Nat → Nat → Value} {I : Nat → Nat → Int32} {L : Nat → Nat → Int64} {R : Nat → Nat → Option Nat} {tl : am_H} {N : Nat} {nt : Int32} {P : xT} (hN : 400 < N) (ho : okP P) (h60 : P.length ≤ 60) (hd : dkT V I nt P) : ∃ W J b, fm_494 N (.ref 174) (fx V I L R ++ tl) = some (.inl (some (.int (bI b)), fx W J L R ++ tl)) ∧ (b = true ↔ hasC P) ∧ (b = true → W 174 13 = .int 1 ∧ W 174 15 = .int nt ∧ dkL W J (tI (cO2 P 0))) ∧ frTc V W I J := by
  obtain ⟨W1, J1, e1, A1, x1, u1⟩ := s495 (L := L) (R := R) (tl := tl) hN ho h60 hd
  have hp := okP_pos ho
  have x0 := xE_0 ho
  obtain ⟨F, e2, h2⟩ := s494a (L := L) (R := R) (tl := tl) hN ho A1 P.length N (J1 253) (by omega) (by omega) (fun j a b => absurd b (by omega))
  rw [iup_self] at e2
  have A2 : rA W1 (iup J1 253 F) nt P := rA_i (by decide) A1
  have q1 : frTc V W1 I (iup J1 253 F) := by
    refine ⟨fun a j n => ?_, fun y a b c d e f g h => ?_, x1.2.2⟩
    · by_cases c : a = 174 ∧ j = 115
      · rw [c.1, c.2]; exact u1.1
      · exact x1.1 a j (fun e => by
          rcases e.2 with h | h | h | h | h | h | h
          · exact n ⟨e.1, by omega⟩
          · exact n ⟨e.1, by omega⟩
          · exact n ⟨e.1, by omega⟩
          · exact n ⟨e.1, by omega⟩
          · exact n ⟨e.1, by omega⟩
          · exact n ⟨e.1, by omega⟩
          · exact c ⟨e.1, h⟩)
    · rw [iup_na h]
      by_cases c1 : y = 248
      · rw [c1]; exact u1.2.1
      · by_cases c2 : y = 249
        · rw [c2]; exact u1.2.2
        · exact x1.2.1 y a b c d e c1 c2
  obtain ⟨t1, t2⟩ := s494b (L := L) (R := R) (tl := tl) (N := N) ho A2 P.length 0 N (by omega) (by omega)
  have hd0 : ∀ o, fg_494_34 N N (.ref 174) (nI 0) (fx W1 (iup J1 253 F) L R ++ tl) = o → fm_494 N (.ref 174) (fx V I L R ++ tl) = o := fun o h => by
    apply hm_494
    apply hd_494_0
    refine ev_i rfl (ev_cV e1 (ev_b (rdI (rA_18 A1)) ?_))
    rw [show nI P.length - 1 = nI P.length + (-1) from Int32.sub_eq_add_neg ..]
    exact e2.trans h
  by_cases c19 : ∃ j, 0 ≤ j ∧ j < P.length ∧ xS P j = 19
  · refine ⟨W1, iup J1 253 F, false, hd0 _ (t1 c19), ⟨fun e => Bool.noConfusion e, fun e => ?_⟩, fun e => Bool.noConfusion e, q1⟩
    obtain ⟨j, _, b, c⟩ := c19
    exact absurd c (e.1.1 j (by omega) (by rw [x0]; exact b)).2.2
  have no : ∀ j, 0 ≤ j → j < P.length → xS P j ≠ 19 := fun j a b e => c19 ⟨j, a, b, e⟩
  have hg : ∀ j, gdT P j := gd_no19 ho (fun j b => no j (by omega) b)
  obtain ⟨K', e3⟩ := t2 no
  have hF : ∀ j, j < P.length → F j = nI (cO2 P j).length := fun j hj => by
    obtain ⟨m, m1, m2, m3⟩ := h2 j hj
    rw [m1, m3 (hg j)]
  obtain ⟨m, m1, m2, m3⟩ := h2 0 hp
  rw [x0] at m2
  have m3 := m3 (hg 0)
  have B2 : rB W1 (iup J1 253 F) nt P := ⟨A2, fun j hj => by rw [iup_eq]; exact hF j hj⟩
  have r1 := rB_l (L := L) (R := R) (tl := tl) B2 hp 0 rfl
  by_cases cl : (cO2 P 0).length ≤ 60
  · obtain ⟨W2, e4, d4, k4, n4, f4⟩ := s451 (I := iup J1 253 F) (L := L) (R := R) (tl := tl) A1.1 A1.2.1
    obtain ⟨W3, hW3⟩ : ∃ W3, W3 = vup (vup W2 174 13 (.int 1)) 174 14 (.int (nI (cO2 P 0).length)) := ⟨_, rfl⟩
    have f3 : frEd W1 W3 (iup J1 253 F) (iup J1 253 F) := by
      refine frEd_t f4 ⟨fun a j n => ?_, fun _ _ _ => rfl, fun w => by rw [hW3]; exact wt_i (wt_i w (by decide)) (by decide)⟩
      rw [hW3, vup_o (fun e => n ⟨e.1, .inr (.inl e.2)⟩), vup_o (fun e => n ⟨e.1, .inl e.2⟩)]
    have B3 : rB W3 (iup J1 253 F) nt P := ⟨rA_f f3 A2, B2.2⟩
    have r2 : am_pA 0 (.ref 253) 0 (fx (vup W2 174 13 (.int 1)) (iup J1 253 F) L R ++ tl) = some (nI (cO2 P 0).length) := (qa_253 (k := 0) (by omega)).trans (congrArg some (by rw [iup_eq]; exact hF 0 hp))
    obtain ⟨J4, e5, w5, f5⟩ := s219 (V := W3) (I := iup J1 253 F) (L := L) (R := R) (tl := tl) (A := fun _ => False) (B := fun i => i = 0) 0 0 0 rfl (by omega) rfl
    have B4 := rB_f f5 B3
    obtain ⟨J6, e6, f6, t6⟩ := pl_all (L := L) (R := R) (tl := tl) hN ho hg (xE P 0 - 0) 0 hp (Nat.le_refl _) J4 0 (N - P.length) B4 w5.2.1 (by omega)
    have B6 := rB_f f6 B4
    rw [x0, show N - P.length + (P.length - 0) = N by omega] at e6
    have D6 : dkL W3 J6 (tI (cO2 P 0)) := by
      refine ⟨by rw [tI_len, hW3]; rfl, fun k x hx => ?_⟩
      have hk : k < (cO2 P 0).length := by
        have := (List.getElem?_eq_some_iff.mp hx).1
        rw [tI_len] at this
        exact this
      rw [tI_at hk] at hx
      have := t6 k _ (xS_at hk)
      rw [Nat.zero_add] at this
      rw [← Option.some.inj hx]
      exact this
    have ok := (okI_cO ho cl).1
    obtain ⟨F7, e7, c7⟩ := q_347 (L := L) (R := R) (tl := tl) hN (by rw [tI_len]; omega) D6 ok
    rw [tI_len] at e7 c7
    have q7 : frTc V W3 I (iup J6 211 F7) := by
      refine ⟨fun a j n => ?_, fun y a b c d e f g h => ?_, fun w => f3.2.2 (q1.2.2 w)⟩
      · rw [f3.1 a j (fun e => n ⟨e.1, by have := e.2; omega⟩)]
        exact q1.1 a j n
      · rw [iup_na f, f6.1 y a b g, f5.1 y a b g]
        exact q1.2.1 y a b c d e f g h
    have go : ∀ o, fg_494_102 N (N - P.length) (.ref 174) (nI P.length) (fx W3 J6 L R ++ tl) = o → fm_494 N (.ref 174) (fx V I L R ++ tl) = o := fun o h => by
      apply hd0
      rw [e3]
      apply hd_494_34
      refine ev_b (rdI (rA_18 A2)) (ev_t (nI_le (by omega) (by omega)) (ev_b (rdR rfl) (ev_b r1 (ev_t (nI_le (b := 60) cl (by decide)) (ev_i rfl (ev_cV e4 (ev_b qp_174_13 (ev_b (rdR rfl) (ev_b r2 (ev_b qp_174_14 (ev_b (rdR rfl) ?_)))))))))))
      rw [← hW3]
      exact ev_b e5 (e6.trans h)
    obtain ⟨K, hK⟩ : ∃ K, N - P.length = K + 1 := ⟨N - P.length - 1, by omega⟩
    rw [hK] at go
    have z3 : W3 174 13 = .int 1 := by rw [hW3]; rfl
    have z5 : W3 174 15 = .int nt := by rw [hW3]; exact n4
    cases ex : cdX (tI (cO2 P 0)) (cO2 P 0).length 0 g00 with
    | inl k =>
      rw [ex] at e7 c7
      have hk : k < (cO2 P 0).length := c7
      refine ⟨W3, iup J6 211 F7, false, go _ ?_, ⟨fun e => Bool.noConfusion e, fun e => ?_⟩, fun e => Bool.noConfusion e, q7⟩
      · apply hd_494_102
        refine ev_b (rdI (rA_18 B6.1)) (ev_t (nI_le (by omega) (by omega)) (ev_i rfl (ev_cI e7 (ev_t (nI_ne_m1 k (by omega)) ?_))))
        apply hd_494_140
        exact ev_i rfl rfl
      · have := e.2
        rw [ex] at this
        exact Bool.noConfusion this
    | inr g =>
      rw [ex] at e7
      refine ⟨W3, iup J6 211 F7, true, go _ ?_, ⟨fun _ => ⟨⟨hg 0, cl⟩, by rw [ex]; rfl⟩, fun _ => rfl⟩, fun _ => ⟨z3, z5, D6⟩, q7⟩
      apply hd_494_102
      refine ev_b (rdI (rA_18 B6.1)) (ev_t (nI_le (by omega) (by omega)) (ev_i rfl (ev_cI e7 (ev_f (fun h => h rfl) ?_))))
      apply hd_494_140
      exact ev_i rfl rfl
  · refine ⟨W1, iup J1 253 F, false, hd0 _ ?_, ⟨fun e => Bool.noConfusion e, fun e => absurd e.1.2 cl⟩, fun e => Bool.noConfusion e, q1⟩
    rw [e3]
    apply hd_494_34
    exact ev_b (rdI (rA_18 A2)) (ev_t (nI_le (by omega) (by omega)) (ev_b (rdR rfl) (ev_b r1 (ev_f (nI_ge (a := 60) (by omega) (by omega)) rfl))))
theorem keep_Tc {V W : Nat → Nat → Value} {I J : Nat → Nat → Int32} (f : frTc V W I J) : keep V W I J := by
  refine ⟨fun a j hj => ?_, fun y hy => ?_, f.2.2⟩
  · refine f.1 a j (fun e => ?_)
    have key : ∀ j, j ∈ vRel 174 → j ≠ 13 ∧ j ≠ 14 ∧ j ≠ 15 ∧ j ≠ 18 ∧ j ≠ 19 ∧ j ≠ 20 := by decide
    have := key j (e.1 ▸ hj)
    have h2 := e.2
    omega
  · have key : ∀ y, y ∈ iRel → y ≠ 186 ∧ y ≠ 187 ∧ y ≠ 188 ∧ y ≠ 189 ∧ y ≠ 192 ∧ y ≠ 211 ∧ y ≠ 219 ∧ y ≠ 253 := by decide
    obtain ⟨a, b, c, d, e, g, h, i⟩ := key y hy
    exact f.2.1 y a b c d e g h i
