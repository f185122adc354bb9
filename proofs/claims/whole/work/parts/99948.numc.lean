/-! ===== trees out of code: a truth as a number, in the class ===== -/
theorem hd_295_69 {N : Nat} {s0 : Int32} {h : am_H} {r_ : Option am_O} (k_ : (if am_rfit (some FieldType.boolean) s0 then some (.inl (some (.int s0), h)) else none) = r_) : fg_295_69 N s0 h = r_ := k_
theorem hd_295_68 {N : Nat} {h : am_H} {r_ : Option am_O} (k_ : (fg_295_69 N 0 h) = r_) : fg_295_68 N h = r_ := k_
theorem hd_295_0 {N : Nat} {x0 : Value} {x1 : Value} {h : am_H} {r_ : Option am_O} (k_ : (if am_pOk 3 x1 h then am_cI true (fm_54 x1 0 0 h) (fun v2 h3 => am_cI false (fm_11 v2 h3) (fun v5 h6 => (if ¬ v5 = 0 then (if am_pOk 3 x0 h6 then am_cI true (fm_41 N x0 20 0 h6) (fun v10 h11 => (if v10 = 0 then (fg_295_68 N h11) else ((am_vI (am_pG 771 x1 h11)).bind fun v14 => (if am_pOk 3 x0 h11 then am_cI true (fm_170 x0 x1 0 v14 h11) (fun v17 h18 => (if v17 = 0 then (fg_295_68 N h18) else (if am_pOk 3 x0 h18 then am_cI true (fm_41 N x0 0 1 h18) (fun v22 h23 => (if v22 = 0 then (fg_295_68 N h23) else (if am_pOk 3 x0 h23 then am_cI true (fm_41 N x0 0 0 h23) (fun v27 h28 => (if v27 = 0 then (fg_295_68 N h28) else (fg_295_69 N 1 h28))) else none))) else none))) else none)))) else none) else ((am_vI (am_pG 771 x1 h6)).bind fun v31 => (if am_pOk 3 x0 h6 then am_cI true (fm_170 x0 x1 0 v31 h6) (fun v34 h35 => (if am_rfit (some FieldType.boolean) v34 then some (.inl (some (.int v34), h35)) else none)) else none))))) else none) = r_) : fg_295_0 N x0 x1 h = r_ := k_
theorem hm_295 {N : Nat} {y0 : Value} {y1 : Value} {h : am_H} {r_ : Option am_O} (k_ : fg_295_0 N y0 y1 h = r_) : fm_295 N y0 y1 h = r_ := k_
theorem hd_279_43 {N : Nat} {h : am_H} {r_ : Option am_O} (k_ : some (.inl (some (.int 0), h)) = r_) : fg_279_43 N h = r_ := k_
theorem hd_279_2 {N : Nat} {K : Nat} {x0 : Value} {x2 : Int32} {x3 : Int32} {h : am_H} {r_ : Option am_O} (k_ : (if x2 ≤ x3 then some (.inl (some (.int 1), h)) else (if am_pOk 3 x0 h then am_cI true (fm_54 x0 x3 0 h) (fun v3 h4 => (if v3 = 13 then (fg_279_43 N h4) else (if v3 = 14 then (fg_279_43 N h4) else (if v3 = 8 then (fg_279_43 N h4) else (if ¬ v3 = 19 then (fg_279_2 N K x0 x2 ((x3 + 1)) h4) else (fg_279_43 N h4)))))) else none)) = r_) : fg_279_2 N (K + 1) x0 x2 x3 h = r_ := by rw [fg_279_2]; exact k_
theorem hd_279_0 {N : Nat} {x0 : Value} {x1 : Int32} {x2 : Int32} {h : am_H} {r_ : Option am_O} (k_ : (fg_279_2 N N x0 x2 x1 h) = r_) : fg_279_0 N x0 x1 x2 h = r_ := k_
theorem hm_279 {N : Nat} {y0 : Value} {y1 : Int32} {y2 : Int32} {h : am_H} {r_ : Option am_O} (k_ : fg_279_0 N y0 y1 y2 h = r_) : fm_279 N y0 y1 y2 h = r_ := k_

theorem tr11 : ∀ s, s < 21 → pv_11 (nI s) = nI (truN s) := by decide +kernel
theorem seg_whole {P : xT} : seg P 0 P.length = P := by rw [seg_0, List.take_length]
set_option maxRecDepth 100000 in
set_option maxHeartbeats 4000000 in
theorem c_295_141 {V : Nat → Nat → Value} {I : Nat → Nat → Int32} {L : Nat → Nat → Int64} {R : Nat → Nat → Option Nat} {tl : am_H} {N A it : Nat} {Q S : xT} (hN : 400 < N) (hs : srcP V I tl A it 0 0 S) (hA : A ≠ 141) (hit : it ≠ 141 + 1) (h : hold V I 141 0 0 Q) (hl : Q.length ≤ 60) (h0 : 0 < S.length) (hk : xS S 0 ≤ 20) : (Q.length + (wrT S).length ≤ 60 → ∃ W J, fm_295 N (.ref 141) (.ref A) (fx V I L R ++ tl) = some (.inl (some (.int 1), fx W J L R ++ tl)) ∧ hold W J 141 0 0 (Q ++ wrT S) ∧ fr1 141 V W I J) ∧ (60 < Q.length + (wrT S).length → ∃ W J, fm_295 N (.ref 141) (.ref A) (fx V I L R ++ tl) = some (.inl (some (.int 0), fx W J L R ++ tl)) ∧ fr1 141 V W I J) := by
  obtain ⟨o1, o2, -, -, o5⟩ := src_ok (L := L) (R := R) hs
  have g1 := (src_get (L := L) (R := R) hs h0).1
  have t1 : ∀ o, (if ¬ nI (truN (xS S 0)) = 0 then (if am_pOk 3 (.ref 141) (fx V I L R ++ tl) then am_cI true (fm_41 N (.ref 141) 20 0 (fx V I L R ++ tl)) (fun v10 h11 => (if v10 = 0 then (fg_295_68 N h11) else ((am_vI (am_pG 771 (.ref A) h11)).bind fun v14 => (if am_pOk 3 (.ref 141) h11 then am_cI true (fm_170 (.ref 141) (.ref A) 0 v14 h11) (fun v17 h18 => (if v17 = 0 then (fg_295_68 N h18) else (if am_pOk 3 (.ref 141) h18 then am_cI true (fm_41 N (.ref 141) 0 1 h18) (fun v22 h23 => (if v22 = 0 then (fg_295_68 N h23) else (if am_pOk 3 (.ref 141) h23 then am_cI true (fm_41 N (.ref 141) 0 0 h23) (fun v27 h28 => (if v27 = 0 then (fg_295_68 N h28) else (fg_295_69 N 1 h28))) else none))) else none))) else none)))) else none) else ((am_vI (am_pG 771 (.ref A) (fx V I L R ++ tl))).bind fun v31 => (if am_pOk 3 (.ref 141) (fx V I L R ++ tl) then am_cI true (fm_170 (.ref 141) (.ref A) 0 v31 (fx V I L R ++ tl)) (fun v34 h35 => (if am_rfit (some FieldType.boolean) v34 then some (.inl (some (.int v34), h35)) else none)) else none))) = o → fm_295 N (.ref 141) (.ref A) (fx V I L R ++ tl) = o := fun o k_ => by
    apply hm_295
    apply hd_295_0
    refine ev_i o1 (ev_cI g1 (ev_cI (pe_11 ..) ?_))
    rw [tr11 _ (by omega)]
    exact k_
  unfold wrT
  by_cases c : truN (xS S 0) = 0
  · rw [if_pos c]
    refine ⟨fun hq => ?_, fun hq => ?_⟩
    · obtain ⟨W, J, e, p, f⟩ := s170_141 (L := L) (R := R) hs h (Nat.zero_le _) (Nat.le_refl _) (by omega) 0 (nI S.length) rfl rfl
      rw [seg_whole] at p
      exact ⟨W, J, t1 _ (ev_f (fun h => h (by rw [c]; rfl)) (ev_b o2 (ev_i rfl (ev_cI e (ev_i rfl rfl))))), p, f⟩
    · have e := s170f_141 (L := L) (R := R) hs h hl hq (nI S.length) rfl
      exact ⟨V, I, t1 _ (ev_f (fun h => h (by rw [c]; rfl)) (ev_b o2 (ev_i rfl (ev_cI e (ev_i rfl rfl))))), fr1_r⟩
  · rw [if_neg c]
    have c1 : ¬ nI (truN (xS S 0)) = 0 := by rw [(tru_01 _).resolve_left c]; decide
    have no : ∀ H, fg_295_68 N H = some (.inl (some (.int 0), H)) := fun H => by
      apply hd_295_68
      apply hd_295_69
      exact ev_i rfl rfl
    have ln : ((20, 0) :: (S ++ [(0, 1), (0, 0)]) : xT).length = S.length + 3 := by rw [List.length_cons, List.length_append]; rfl
    rw [ln]
    by_cases q1 : Q.length < 60
    case neg =>
      refine ⟨fun hq => absurd hq (by omega), fun hq => ?_⟩
      have e := s41f_141 (L := L) (R := R) (tl := tl) (N := N) (x := 20) (b := 0) h (by omega)
      exact ⟨V, I, t1 _ (ev_t c1 (ev_i rfl (ev_cI e (ev_t rfl (no _))))), fr1_r⟩
    obtain ⟨W1, J1, e1, p1, f1⟩ := s41_141 (L := L) (R := R) (tl := tl) (N := N) (a := 20) (b := 0) (by omega) h q1 20 rfl
    have l1 : (Q ++ [(20, 0)] : xT).length = Q.length + 1 := by rw [List.length_append]; rfl
    have s1 := srcP_f f1 hA hit hs
    have o2' := (src_ok (L := L) (R := R) s1).2.1
    by_cases q2 : Q.length + 1 + S.length ≤ 60
    case neg =>
      refine ⟨fun hq => absurd hq (by omega), fun hq => ?_⟩
      have e := s170f_141 (L := L) (R := R) s1 p1 (by rw [l1]; omega) (by rw [l1]; omega) (nI S.length) rfl
      exact ⟨W1, J1, t1 _ (ev_t c1 (ev_i rfl (ev_cI e1 (ev_f (by decide) (ev_b o2' (ev_i rfl (ev_cI e (ev_t rfl (no _))))))))), f1⟩
    obtain ⟨W2, J2, e2, p2, f2⟩ := s170_141 (L := L) (R := R) s1 p1 (Nat.zero_le _) (Nat.le_refl _) (by rw [l1]; omega) 0 (nI S.length) rfl rfl
    rw [seg_whole] at p2
    have l2 : ((Q ++ [(20, 0)]) ++ S : xT).length = Q.length + 1 + S.length := by rw [List.length_append, l1]
    by_cases q3 : Q.length + 1 + S.length < 60
    case neg =>
      refine ⟨fun hq => absurd hq (by omega), fun hq => ?_⟩
      have e := s41f_141 (L := L) (R := R) (tl := tl) (N := N) (x := 0) (b := 1) p2 (by rw [l2]; omega)
      exact ⟨W2, J2, t1 _ (ev_t c1 (ev_i rfl (ev_cI e1 (ev_f (by decide) (ev_b o2' (ev_i rfl (ev_cI e2 (ev_f (by decide) (ev_i rfl (ev_cI e (ev_t rfl (no _)))))))))))), fr1_t f1 f2⟩
    obtain ⟨W3, J3, e3, p3, f3⟩ := s41_141 (L := L) (R := R) (tl := tl) (N := N) (a := 0) (b := 1) (by omega) p2 (by rw [l2]; exact q3) 0 rfl
    have l3 : (((Q ++ [(20, 0)]) ++ S) ++ [(0, 1)] : xT).length = Q.length + 1 + S.length + 1 := by rw [List.length_append, l2]; rfl
    by_cases q4 : Q.length + 1 + S.length + 1 < 60
    case neg =>
      refine ⟨fun hq => absurd hq (by omega), fun hq => ?_⟩
      have e := s41f_141 (L := L) (R := R) (tl := tl) (N := N) (x := 0) (b := 0) p3 (by rw [l3]; omega)
      exact ⟨W3, J3, t1 _ (ev_t c1 (ev_i rfl (ev_cI e1 (ev_f (by decide) (ev_b o2' (ev_i rfl (ev_cI e2 (ev_f (by decide) (ev_i rfl (ev_cI e3 (ev_f (by decide) (ev_i rfl (ev_cI e (ev_t rfl (no _))))))))))))))), fr1_t f1 (fr1_t f2 f3)⟩
    obtain ⟨W4, J4, e4, p4, f4⟩ := s41_141 (L := L) (R := R) (tl := tl) (N := N) (a := 0) (b := 0) (by omega) p3 (by rw [l3]; exact q4) 0 rfl
    refine ⟨fun _ => ⟨W4, J4, t1 _ (ev_t c1 (ev_i rfl (ev_cI e1 (ev_f (by decide) (ev_b o2' (ev_i rfl (ev_cI e2 (ev_f (by decide) (ev_i rfl (ev_cI e3 (ev_f (by decide) (ev_i rfl (ev_cI e4 (ev_f (by decide) ?_)))))))))))))), ?_, fr1_t f1 (fr1_t f2 (fr1_t f3 f4))⟩, fun hq => absurd hq (by omega)⟩
    · apply hd_295_69
      exact ev_i rfl rfl
    · have eq : ((((Q ++ [(20, 0)]) ++ S) ++ [(0, 1)]) ++ [(0, 0)] : xT) = Q ++ ((20, 0) :: (S ++ [(0, 1), (0, 0)])) := by simp
      rw [eq] at p4
      exact p4
set_option maxRecDepth 100000 in
set_option maxHeartbeats 4000000 in
theorem c_295_167 {V : Nat → Nat → Value} {I : Nat → Nat → Int32} {L : Nat → Nat → Int64} {R : Nat → Nat → Option Nat} {tl : am_H} {N A it : Nat} {Q S : xT} (hN : 400 < N) (hs : srcP V I tl A it 0 0 S) (hA : A ≠ 167) (hit : it ≠ 167 + 1) (h : hold V I 167 0 0 Q) (hl : Q.length ≤ 60) (h0 : 0 < S.length) (hk : xS S 0 ≤ 20) : (Q.length + (wrT S).length ≤ 60 → ∃ W J, fm_295 N (.ref 167) (.ref A) (fx V I L R ++ tl) = some (.inl (some (.int 1), fx W J L R ++ tl)) ∧ hold W J 167 0 0 (Q ++ wrT S) ∧ fr1 167 V W I J) ∧ (60 < Q.length + (wrT S).length → ∃ W J, fm_295 N (.ref 167) (.ref A) (fx V I L R ++ tl) = some (.inl (some (.int 0), fx W J L R ++ tl)) ∧ fr1 167 V W I J) := by
  obtain ⟨o1, o2, -, -, o5⟩ := src_ok (L := L) (R := R) hs
  have g1 := (src_get (L := L) (R := R) hs h0).1
  have t1 : ∀ o, (if ¬ nI (truN (xS S 0)) = 0 then (if am_pOk 3 (.ref 167) (fx V I L R ++ tl) then am_cI true (fm_41 N (.ref 167) 20 0 (fx V I L R ++ tl)) (fun v10 h11 => (if v10 = 0 then (fg_295_68 N h11) else ((am_vI (am_pG 771 (.ref A) h11)).bind fun v14 => (if am_pOk 3 (.ref 167) h11 then am_cI true (fm_170 (.ref 167) (.ref A) 0 v14 h11) (fun v17 h18 => (if v17 = 0 then (fg_295_68 N h18) else (if am_pOk 3 (.ref 167) h18 then am_cI true (fm_41 N (.ref 167) 0 1 h18) (fun v22 h23 => (if v22 = 0 then (fg_295_68 N h23) else (if am_pOk 3 (.ref 167) h23 then am_cI true (fm_41 N (.ref 167) 0 0 h23) (fun v27 h28 => (if v27 = 0 then (fg_295_68 N h28) else (fg_295_69 N 1 h28))) else none))) else none))) else none)))) else none) else ((am_vI (am_pG 771 (.ref A) (fx V I L R ++ tl))).bind fun v31 => (if am_pOk 3 (.ref 167) (fx V I L R ++ tl) then am_cI true (fm_170 (.ref 167) (.ref A) 0 v31 (fx V I L R ++ tl)) (fun v34 h35 => (if am_rfit (some FieldType.boolean) v34 then some (.inl (some (.int v34), h35)) else none)) else none))) = o → fm_295 N (.ref 167) (.ref A) (fx V I L R ++ tl) = o := fun o k_ => by
    apply hm_295
    apply hd_295_0
    refine ev_i o1 (ev_cI g1 (ev_cI (pe_11 ..) ?_))
    rw [tr11 _ (by omega)]
    exact k_
  unfold wrT
  by_cases c : truN (xS S 0) = 0
  · rw [if_pos c]
    refine ⟨fun hq => ?_, fun hq => ?_⟩
    · obtain ⟨W, J, e, p, f⟩ := s170_167 (L := L) (R := R) hs h (Nat.zero_le _) (Nat.le_refl _) (by omega) 0 (nI S.length) rfl rfl
      rw [seg_whole] at p
      exact ⟨W, J, t1 _ (ev_f (fun h => h (by rw [c]; rfl)) (ev_b o2 (ev_i rfl (ev_cI e (ev_i rfl rfl))))), p, f⟩
    · have e := s170f_167 (L := L) (R := R) hs h hl hq (nI S.length) rfl
      exact ⟨V, I, t1 _ (ev_f (fun h => h (by rw [c]; rfl)) (ev_b o2 (ev_i rfl (ev_cI e (ev_i rfl rfl))))), fr1_r⟩
  · rw [if_neg c]
    have c1 : ¬ nI (truN (xS S 0)) = 0 := by rw [(tru_01 _).resolve_left c]; decide
    have no : ∀ H, fg_295_68 N H = some (.inl (some (.int 0), H)) := fun H => by
      apply hd_295_68
      apply hd_295_69
      exact ev_i rfl rfl
    have ln : ((20, 0) :: (S ++ [(0, 1), (0, 0)]) : xT).length = S.length + 3 := by rw [List.length_cons, List.length_append]; rfl
    rw [ln]
    by_cases q1 : Q.length < 60
    case neg =>
      refine ⟨fun hq => absurd hq (by omega), fun hq => ?_⟩
      have e := s41f_167 (L := L) (R := R) (tl := tl) (N := N) (x := 20) (b := 0) h (by omega)
      exact ⟨V, I, t1 _ (ev_t c1 (ev_i rfl (ev_cI e (ev_t rfl (no _))))), fr1_r⟩
    obtain ⟨W1, J1, e1, p1, f1⟩ := s41_167 (L := L) (R := R) (tl := tl) (N := N) (a := 20) (b := 0) (by omega) h q1 20 rfl
    have l1 : (Q ++ [(20, 0)] : xT).length = Q.length + 1 := by rw [List.length_append]; rfl
    have s1 := srcP_f f1 hA hit hs
    have o2' := (src_ok (L := L) (R := R) s1).2.1
    by_cases q2 : Q.length + 1 + S.length ≤ 60
    case neg =>
      refine ⟨fun hq => absurd hq (by omega), fun hq => ?_⟩
      have e := s170f_167 (L := L) (R := R) s1 p1 (by rw [l1]; omega) (by rw [l1]; omega) (nI S.length) rfl
      exact ⟨W1, J1, t1 _ (ev_t c1 (ev_i rfl (ev_cI e1 (ev_f (by decide) (ev_b o2' (ev_i rfl (ev_cI e (ev_t rfl (no _))))))))), f1⟩
    obtain ⟨W2, J2, e2, p2, f2⟩ := s170_167 (L := L) (R := R) s1 p1 (Nat.zero_le _) (Nat.le_refl _) (by rw [l1]; omega) 0 (nI S.length) rfl rfl
    rw [seg_whole] at p2
    have l2 : ((Q ++ [(20, 0)]) ++ S : xT).length = Q.length + 1 + S.length := by rw [List.length_append, l1]
    by_cases q3 : Q.length + 1 + S.length < 60
    case neg =>
      refine ⟨fun hq => absurd hq (by omega), fun hq => ?_⟩
      have e := s41f_167 (L := L) (R := R) (tl := tl) (N := N) (x := 0) (b := 1) p2 (by rw [l2]; omega)
      exact ⟨W2, J2, t1 _ (ev_t c1 (ev_i rfl (ev_cI e1 (ev_f (by decide) (ev_b o2' (ev_i rfl (ev_cI e2 (ev_f (by decide) (ev_i rfl (ev_cI e (ev_t rfl (no _)))))))))))), fr1_t f1 f2⟩
    obtain ⟨W3, J3, e3, p3, f3⟩ := s41_167 (L := L) (R := R) (tl := tl) (N := N) (a := 0) (b := 1) (by omega) p2 (by rw [l2]; exact q3) 0 rfl
    have l3 : (((Q ++ [(20, 0)]) ++ S) ++ [(0, 1)] : xT).length = Q.length + 1 + S.length + 1 := by rw [List.length_append, l2]; rfl
    by_cases q4 : Q.length + 1 + S.length + 1 < 60
    case neg =>
      refine ⟨fun hq => absurd hq (by omega), fun hq => ?_⟩
      have e := s41f_167 (L := L) (R := R) (tl := tl) (N := N) (x := 0) (b := 0) p3 (by rw [l3]; omega)
      exact ⟨W3, J3, t1 _ (ev_t c1 (ev_i rfl (ev_cI e1 (ev_f (by decide) (ev_b o2' (ev_i rfl (ev_cI e2 (ev_f (by decide) (ev_i rfl (ev_cI e3 (ev_f (by decide) (ev_i rfl (ev_cI e (ev_t rfl (no _))))))))))))))), fr1_t f1 (fr1_t f2 f3)⟩
    obtain ⟨W4, J4, e4, p4, f4⟩ := s41_167 (L := L) (R := R) (tl := tl) (N := N) (a := 0) (b := 0) (by omega) p3 (by rw [l3]; exact q4) 0 rfl
    refine ⟨fun _ => ⟨W4, J4, t1 _ (ev_t c1 (ev_i rfl (ev_cI e1 (ev_f (by decide) (ev_b o2' (ev_i rfl (ev_cI e2 (ev_f (by decide) (ev_i rfl (ev_cI e3 (ev_f (by decide) (ev_i rfl (ev_cI e4 (ev_f (by decide) ?_)))))))))))))), ?_, fr1_t f1 (fr1_t f2 (fr1_t f3 f4))⟩, fun hq => absurd hq (by omega)⟩
    · apply hd_295_69
      exact ev_i rfl rfl
    · have eq : ((((Q ++ [(20, 0)]) ++ S) ++ [(0, 1)]) ++ [(0, 0)] : xT) = Q ++ ((20, 0) :: (S ++ [(0, 1), (0, 0)])) := by simp
      rw [eq] at p4
      exact p4
set_option maxRecDepth 100000 in
set_option maxHeartbeats 4000000 in
theorem c_295_169 {V : Nat → Nat → Value} {I : Nat → Nat → Int32} {L : Nat → Nat → Int64} {R : Nat → Nat → Option Nat} {tl : am_H} {N A it : Nat} {Q S : xT} (hN : 400 < N) (hs : srcP V I tl A it 0 0 S) (hA : A ≠ 169) (hit : it ≠ 169 + 1) (h : hold V I 169 0 0 Q) (hl : Q.length ≤ 60) (h0 : 0 < S.length) (hk : xS S 0 ≤ 20) : (Q.length + (wrT S).length ≤ 60 → ∃ W J, fm_295 N (.ref 169) (.ref A) (fx V I L R ++ tl) = some (.inl (some (.int 1), fx W J L R ++ tl)) ∧ hold W J 169 0 0 (Q ++ wrT S) ∧ fr1 169 V W I J) ∧ (60 < Q.length + (wrT S).length → ∃ W J, fm_295 N (.ref 169) (.ref A) (fx V I L R ++ tl) = some (.inl (some (.int 0), fx W J L R ++ tl)) ∧ fr1 169 V W I J) := by
  obtain ⟨o1, o2, -, -, o5⟩ := src_ok (L := L) (R := R) hs
  have g1 := (src_get (L := L) (R := R) hs h0).1
  have t1 : ∀ o, (if ¬ nI (truN (xS S 0)) = 0 then (if am_pOk 3 (.ref 169) (fx V I L R ++ tl) then am_cI true (fm_41 N (.ref 169) 20 0 (fx V I L R ++ tl)) (fun v10 h11 => (if v10 = 0 then (fg_295_68 N h11) else ((am_vI (am_pG 771 (.ref A) h11)).bind fun v14 => (if am_pOk 3 (.ref 169) h11 then am_cI true (fm_170 (.ref 169) (.ref A) 0 v14 h11) (fun v17 h18 => (if v17 = 0 then (fg_295_68 N h18) else (if am_pOk 3 (.ref 169) h18 then am_cI true (fm_41 N (.ref 169) 0 1 h18) (fun v22 h23 => (if v22 = 0 then (fg_295_68 N h23) else (if am_pOk 3 (.ref 169) h23 then am_cI true (fm_41 N (.ref 169) 0 0 h23) (fun v27 h28 => (if v27 = 0 then (fg_295_68 N h28) else (fg_295_69 N 1 h28))) else none))) else none))) else none)))) else none) else ((am_vI (am_pG 771 (.ref A) (fx V I L R ++ tl))).bind fun v31 => (if am_pOk 3 (.ref 169) (fx V I L R ++ tl) then am_cI true (fm_170 (.ref 169) (.ref A) 0 v31 (fx V I L R ++ tl)) (fun v34 h35 => (if am_rfit (some FieldType.boolean) v34 then some (.inl (some (.int v34), h35)) else none)) else none))) = o → fm_295 N (.ref 169) (.ref A) (fx V I L R ++ tl) = o := fun o k_ => by
    apply hm_295
    apply hd_295_0
    refine ev_i o1 (ev_cI g1 (ev_cI (pe_11 ..) ?_))
    rw [tr11 _ (by omega)]
    exact k_
  unfold wrT
  by_cases c : truN (xS S 0) = 0
  · rw [if_pos c]
    refine ⟨fun hq => ?_, fun hq => ?_⟩
    · obtain ⟨W, J, e, p, f⟩ := s170_169 (L := L) (R := R) hs h (Nat.zero_le _) (Nat.le_refl _) (by omega) 0 (nI S.length) rfl rfl
      rw [seg_whole] at p
      exact ⟨W, J, t1 _ (ev_f (fun h => h (by rw [c]; rfl)) (ev_b o2 (ev_i rfl (ev_cI e (ev_i rfl rfl))))), p, f⟩
    · have e := s170f_169 (L := L) (R := R) hs h hl hq (nI S.length) rfl
      exact ⟨V, I, t1 _ (ev_f (fun h => h (by rw [c]; rfl)) (ev_b o2 (ev_i rfl (ev_cI e (ev_i rfl rfl))))), fr1_r⟩
  · rw [if_neg c]
    have c1 : ¬ nI (truN (xS S 0)) = 0 := by rw [(tru_01 _).resolve_left c]; decide
    have no : ∀ H, fg_295_68 N H = some (.inl (some (.int 0), H)) := fun H => by
      apply hd_295_68
      apply hd_295_69
      exact ev_i rfl rfl
    have ln : ((20, 0) :: (S ++ [(0, 1), (0, 0)]) : xT).length = S.length + 3 := by rw [List.length_cons, List.length_append]; rfl
    rw [ln]
    by_cases q1 : Q.length < 60
    case neg =>
      refine ⟨fun hq => absurd hq (by omega), fun hq => ?_⟩
      have e := s41f_169 (L := L) (R := R) (tl := tl) (N := N) (x := 20) (b := 0) h (by omega)
      exact ⟨V, I, t1 _ (ev_t c1 (ev_i rfl (ev_cI e (ev_t rfl (no _))))), fr1_r⟩
    obtain ⟨W1, J1, e1, p1, f1⟩ := s41_169 (L := L) (R := R) (tl := tl) (N := N) (a := 20) (b := 0) (by omega) h q1 20 rfl
    have l1 : (Q ++ [(20, 0)] : xT).length = Q.length + 1 := by rw [List.length_append]; rfl
    have s1 := srcP_f f1 hA hit hs
    have o2' := (src_ok (L := L) (R := R) s1).2.1
    by_cases q2 : Q.length + 1 + S.length ≤ 60
    case neg =>
      refine ⟨fun hq => absurd hq (by omega), fun hq => ?_⟩
      have e := s170f_169 (L := L) (R := R) s1 p1 (by rw [l1]; omega) (by rw [l1]; omega) (nI S.length) rfl
      exact ⟨W1, J1, t1 _ (ev_t c1 (ev_i rfl (ev_cI e1 (ev_f (by decide) (ev_b o2' (ev_i rfl (ev_cI e (ev_t rfl (no _))))))))), f1⟩
    obtain ⟨W2, J2, e2, p2, f2⟩ := s170_169 (L := L) (R := R) s1 p1 (Nat.zero_le _) (Nat.le_refl _) (by rw [l1]; omega) 0 (nI S.length) rfl rfl
    rw [seg_whole] at p2
    have l2 : ((Q ++ [(20, 0)]) ++ S : xT).length = Q.length + 1 + S.length := by rw [List.length_append, l1]
    by_cases q3 : Q.length + 1 + S.length < 60
    case neg =>
      refine ⟨fun hq => absurd hq (by omega), fun hq => ?_⟩
      have e := s41f_169 (L := L) (R := R) (tl := tl) (N := N) (x := 0) (b := 1) p2 (by rw [l2]; omega)
      exact ⟨W2, J2, t1 _ (ev_t c1 (ev_i rfl (ev_cI e1 (ev_f (by decide) (ev_b o2' (ev_i rfl (ev_cI e2 (ev_f (by decide) (ev_i rfl (ev_cI e (ev_t rfl (no _)))))))))))), fr1_t f1 f2⟩
    obtain ⟨W3, J3, e3, p3, f3⟩ := s41_169 (L := L) (R := R) (tl := tl) (N := N) (a := 0) (b := 1) (by omega) p2 (by rw [l2]; exact q3) 0 rfl
    have l3 : (((Q ++ [(20, 0)]) ++ S) ++ [(0, 1)] : xT).length = Q.length + 1 + S.length + 1 := by rw [List.length_append, l2]; rfl
    by_cases q4 : Q.length + 1 + S.length + 1 < 60
    case neg =>
      refine ⟨fun hq => absurd hq (by omega), fun hq => ?_⟩
      have e := s41f_169 (L := L) (R := R) (tl := tl) (N := N) (x := 0) (b := 0) p3 (by rw [l3]; omega)
      exact ⟨W3, J3, t1 _ (ev_t c1 (ev_i rfl (ev_cI e1 (ev_f (by decide) (ev_b o2' (ev_i rfl (ev_cI e2 (ev_f (by decide) (ev_i rfl (ev_cI e3 (ev_f (by decide) (ev_i rfl (ev_cI e (ev_t rfl (no _))))))))))))))), fr1_t f1 (fr1_t f2 f3)⟩
    obtain ⟨W4, J4, e4, p4, f4⟩ := s41_169 (L := L) (R := R) (tl := tl) (N := N) (a := 0) (b := 0) (by omega) p3 (by rw [l3]; exact q4) 0 rfl
    refine ⟨fun _ => ⟨W4, J4, t1 _ (ev_t c1 (ev_i rfl (ev_cI e1 (ev_f (by decide) (ev_b o2' (ev_i rfl (ev_cI e2 (ev_f (by decide) (ev_i rfl (ev_cI e3 (ev_f (by decide) (ev_i rfl (ev_cI e4 (ev_f (by decide) ?_)))))))))))))), ?_, fr1_t f1 (fr1_t f2 (fr1_t f3 f4))⟩, fun hq => absurd hq (by omega)⟩
    · apply hd_295_69
      exact ev_i rfl rfl
    · have eq : ((((Q ++ [(20, 0)]) ++ S) ++ [(0, 1)]) ++ [(0, 0)] : xT) = Q ++ ((20, 0) :: (S ++ [(0, 1), (0, 0)])) := by simp
      rw [eq] at p4
      exact p4
set_option maxRecDepth 100000 in
set_option maxHeartbeats 4000000 in
theorem cs_279l {V : Nat → Nat → Value} {I : Nat → Nat → Int32} {L : Nat → Nat → Int64} {R : Nat → Nat → Option Nat} {tl : am_H} {N A it : Nat} {S : xT} (hs : srcP V I tl A it 0 0 S) (hk : ∀ x, x ∈ S → x.1 ≤ 20) : ∀ (m k K : Nat), k + m = S.length → m < K → ∃ b, fg_279_2 N K (.ref A) (nI S.length) (nI k) (fx V I L R ++ tl) = some (.inl (some (.int (bI b)), fx V I L R ++ tl)) ∧ (b = true ↔ ∀ x, x ∈ S.drop k → x.1 ≠ 13 ∧ x.1 ≠ 14 ∧ x.1 ≠ 8 ∧ x.1 ≠ 19) := by
  obtain ⟨o1, o2, -, -, o5⟩ := src_ok (L := L) (R := R) hs
  intro m
  induction m with
  | zero =>
    intro k K hm hK
    obtain ⟨K, rfl⟩ : ∃ k, K = k + 1 := ⟨K - 1, by omega⟩
    refine ⟨true, ?_, fun _ x hx => ?_, fun _ => rfl⟩
    · apply hd_279_2
      exact ev_t (nI_le (by omega) (by omega)) rfl
    · rw [List.drop_eq_nil_of_le (by omega)] at hx
      cases hx
  | succ m ih =>
    intro k K hm hK
    obtain ⟨K, rfl⟩ : ∃ k, K = k + 1 := ⟨K - 1, by omega⟩
    have hkk : k < S.length := by omega
    have g1 := (src_get (L := L) (R := R) hs hkk).1
    have x20 := hk _ (List.mem_of_getElem? (xS_at hkk))
    have x20 : xS S k ≤ 20 := x20
    have ds : S.drop k = (xS S k, xV S k) :: S.drop (k + 1) := by
      rw [List.drop_eq_getElem_cons hkk]
      have := xS_at hkk
      rw [List.getElem?_eq_getElem hkk] at this
      rw [Option.some.inj this]
    obtain ⟨b, e, g⟩ := ih (k + 1) K (by omega) (by omega)
    have st : ∀ o, (if nI (xS S k) = 13 then (fg_279_43 N (fx V I L R ++ tl)) else (if nI (xS S k) = 14 then (fg_279_43 N (fx V I L R ++ tl)) else (if nI (xS S k) = 8 then (fg_279_43 N (fx V I L R ++ tl)) else (if ¬ nI (xS S k) = 19 then (fg_279_2 N K (.ref A) (nI S.length) (nI (k + 1)) (fx V I L R ++ tl)) else (fg_279_43 N (fx V I L R ++ tl)))))) = o → fg_279_2 N (K + 1) (.ref A) (nI S.length) (nI k) (fx V I L R ++ tl) = o := fun o k_ => by
      apply hd_279_2
      rw [nI_1]
      exact ev_f (nI_ge hkk (by omega)) (ev_i o1 (ev_cI g1 k_))
    rw [ds]
    by_cases d13 : xS S k = 13
    · exact ⟨false, st _ (ev_t (by rw [d13]; rfl) rfl), fun e => Bool.noConfusion e, fun e => absurd d13 (e _ (List.mem_cons_self ..)).1⟩
    have p13 : ¬ nI (xS S k) = 13 := fun h => d13 ((nI_eq (b := 13) (by omega) (by decide)).mp h)
    by_cases d14 : xS S k = 14
    · exact ⟨false, st _ (ev_f p13 (ev_t (by rw [d14]; rfl) rfl)), fun e => Bool.noConfusion e, fun e => absurd d14 (e _ (List.mem_cons_self ..)).2.1⟩
    have p14 : ¬ nI (xS S k) = 14 := fun h => d14 ((nI_eq (b := 14) (by omega) (by decide)).mp h)
    by_cases d8 : xS S k = 8
    · exact ⟨false, st _ (ev_f p13 (ev_f p14 (ev_t (by rw [d8]; rfl) rfl))), fun e => Bool.noConfusion e, fun e => absurd d8 (e _ (List.mem_cons_self ..)).2.2.1⟩
    have p8 : ¬ nI (xS S k) = 8 := fun h => d8 ((nI_eq (b := 8) (by omega) (by decide)).mp h)
    by_cases d19 : xS S k = 19
    · exact ⟨false, st _ (ev_f p13 (ev_f p14 (ev_f p8 (ev_f (fun h => h (by rw [d19]; rfl)) rfl)))), fun e => Bool.noConfusion e, fun e => absurd d19 (e _ (List.mem_cons_self ..)).2.2.2⟩
    have p19 : ¬ nI (xS S k) = 19 := fun h => d19 ((nI_eq (b := 19) (by omega) (by decide)).mp h)
    refine ⟨b, st _ (ev_f p13 (ev_f p14 (ev_f p8 (ev_t p19 e)))), fun e x hx => ?_, fun e => g.mpr (fun x hx => e x (List.mem_cons_of_mem _ hx))⟩
    cases hx with
    | head => exact ⟨d13, d14, d8, d19⟩
    | tail _ hx => exact g.mp e x hx
theorem s279 {V : Nat → Nat → Value} {I : Nat → Nat → Int32} {L : Nat → Nat → Int64} {R : Nat → Nat → Option Nat} {tl : am_H} {N A it : Nat} {S : xT} (hN : 400 < N) (hs : srcP V I tl A it 0 0 S) (hk : ∀ x, x ∈ S → x.1 ≤ 20) : ∃ b, fm_279 N (.ref A) 0 (nI S.length) (fx V I L R ++ tl) = some (.inl (some (.int (bI b)), fx V I L R ++ tl)) ∧ (b = true ↔ nfT S) := by
  have l60 := (src_ok (L := L) (R := R) hs).2.2.2.2
  obtain ⟨b, e, g⟩ := cs_279l (L := L) (R := R) (N := N) hs hk S.length 0 N (by omega) (by omega)
  rw [List.drop_zero] at g
  refine ⟨b, ?_, g⟩
  apply hm_279
  apply hd_279_0
  exact e
