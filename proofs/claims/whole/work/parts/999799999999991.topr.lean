/-! ===== read: the reference as a whole ===== -/
theorem hd_326_144 {N : Nat} {s0 : Int32} {h : am_H} {r_ : Option am_O} (k_ : some (.inl (some (.int s0), h)) = r_) : fg_326_144 N s0 h = r_ := k_
theorem hd_326_113 {N : Nat} {x0 : Value} {h : am_H} {r_ : Option am_O} (k_ : ((am_pP 3140 x0 (.int 0) h).bind fun h1 => ((am_vI (am_pG 3142 x0 h1)).bind fun v3 => (if v3 < 0 then (if am_pOk 12 x0 h1 then am_cI true (fm_356 N x0 0 ((-1)) ((-1)) ((-1)) ((-1)) 0 h1) (fun v7 h8 => (fg_326_144 N v7 h8)) else none) else ((am_vI (am_pG 3142 x0 h1)).bind fun v10 => (fg_326_144 N (((-1) - v10)) h1))))) = r_) : fg_326_113 N x0 h = r_ := k_
theorem hd_326_32 {N : Nat} {x0 : Value} {x1 : Int32} {s0 : Value} {s1 : Int32} {h : am_H} {r_ : Option am_O} (k_ : ((am_pP 3072 s0 (.int s1) h).bind fun h1 => ((am_vI (am_pG 3072 x0 h1)).bind fun v3 => (if v3 ≤ 0 then ((am_pP 3085 x0 (.int x1) h1).bind fun h6 => ((am_pP 3086 x0 (.int 0) h6).bind fun h8 => ((am_pP 3087 x0 (.int 0) h8).bind fun h10 => ((am_pP 3141 x0 (.int 0) h10).bind fun h12 => ((am_pP 3142 x0 (.int (-1)) h12).bind fun h14 => ((am_pP 3149 x0 (.int 0) h14).bind fun h16 => (if ¬ x1 = 0 then (if ¬ x1 = 1 then (if ¬ x1 = 2 then (if am_pOk 12 x0 h16 then am_cV true (fm_354 N x0 h16) (fun h23 => (fg_326_113 N x0 h23)) else none) else (if am_pOk 12 x0 h16 then am_cV true (fm_351 N x0 h16) (fun h27 => (fg_326_113 N x0 h27)) else none)) else (if am_pOk 12 x0 h16 then am_cV true (fm_344 N x0 h16) (fun h31 => (fg_326_113 N x0 h31)) else none)) else (if am_pOk 12 x0 h16 then am_cV true (fm_328 N x0 h16) (fun h35 => (fg_326_113 N x0 h35)) else none)))))))) else some (.inl (some (.int 0), h1))))) = r_) : fg_326_32 N x0 x1 s0 s1 h = r_ := k_
theorem hd_326_0 {N : Nat} {x0 : Value} {x1 : Int32} {h : am_H} {r_ : Option am_O} (k_ : am_cI false (fm_327 ((Int32.toInt64 x1)) 0 3 h) (fun v1 h2 => (if ¬ v1 = 0 then ((am_vI (am_pG 3073 x0 h2)).bind fun v5 => (if ¬ v5 = 600 then (fg_326_32 N x0 x1 x0 0 h2) else (fg_326_32 N x0 x1 x0 2 h2))) else (fg_326_32 N x0 x1 x0 1 h2))) = r_) : fg_326_0 N x0 x1 h = r_ := k_
theorem hm_326 {N : Nat} {y0 : Value} {y1 : Int32} {h : am_H} {r_ : Option am_O} (k_ : fg_326_0 N y0 y1 h = r_) : fm_326 N y0 y1 h = r_ := k_

def resQ (r : Nat ⊕ (Nat × xI)) (W : Nat → Nat → Value) (J : Nat → Nat → Int32) (m : Nat) : Prop := match r with
  | .inl e => e ≤ m ∧ W 174 70 = .int (nI e)
  | .inr a => W 174 70 = .int (-1) ∧ dkL W J a.2 ∧ W 174 15 = .int (nI a.1)
set_option maxRecDepth 100000 in
set_option maxHeartbeats 4000000 in
theorem r_344 {V : Nat → Nat → Value} {I : Nat → Nat → Int32} {L : Nat → Nat → Int64} {R : Nat → Nat → Option Nat} {tl : am_H} {T : Nat → Nat} {m N : Nat} (hN : 5000 < N) (h : stR V I T m 0 (-1)) (hd : dkL V I []) (h15 : V 174 15 = .int 0) (hT : ∀ p, T p < 256) : ∃ W J, fm_344 N (.ref 174) (fx V I L R ++ tl) = some (.inl (none, fx W J L R ++ tl)) ∧ frRd V W I J ∧ resQ (rMp (codeP T m) (fun Q => (0, tI Q))) W J m := by
  have m240 := h.2.2.2.1
  obtain ⟨W, J, e4, f4, r4⟩ := r_344l (L := L) (R := R) (tl := tl) (T := T) (m := m) (N := N) 60 N V I 0 [] [] rfl rfl (by omega) (Nat.zero_le m) h hd (fun j b hb => absurd hb (by simp))
  have go : ∀ o, fg_344_61 N (.ref 174) (fx W J L R ++ tl) = o → fm_344 N (.ref 174) (fx V I L R ++ tl) = o := fun o k_ => hm_344 (hd_344_0 (e4.trans k_))
  unfold codeP
  cases q : cdSq T m 60 0 [] [] with
  | inl e =>
    rw [q] at r4
    obtain ⟨em, e70⟩ := r4
    exact ⟨W, J, go _ (hd_344_61 (ev_b (rdI e70) (ev_t (nI_pos' (by omega)) (hd_344_76 (ev_t (by decide) (hd_344_92 rfl)))))), f4, em, e70⟩
  | inr a =>
    rw [q] at r4
    obtain ⟨s4, d4, l4, S4, lB⟩ := r4
    obtain ⟨i4, l1, l60, -⟩ := cdSq_ok hT 60 0 [] [] a (fun x hx => by cases hx) (by show 0 + 60 ≤ 60; omega) rfl q
    have lQ := tI_len (P := a.1)
    obtain ⟨F, e5, q5⟩ := q_347 (V := W) (I := J) (L := L) (R := R) (tl := tl) (N := N) (by omega) (by omega) d4 (code_okI i4)
    rw [lQ] at e5 q5
    obtain ⟨J2, eJ2⟩ : ∃ X, X = iup J 211 F := ⟨_, rfl⟩
    rw [← eJ2] at e5
    have f5 : frRd W W J J2 := ⟨fun _ _ _ => rfl, fun y hy => by rw [eJ2]; exact iup_na (by omega), id⟩
    have s5 : stR W J2 T m m (-1) := ⟨s4.1, s4.2.1, s4.2.2.1, by rw [eJ2, iup_na (by decide)]; exact s4.2.2.2⟩
    have w15 : W 174 15 = .int 0 := (f4.1 174 15 (by omega)).trans h15
    show ∃ W J, _ ∧ _ ∧ resQ (rMp (match cdX (tI a.1) a.1.length 0 g00 with | .inl k => .inl (a.2.getD k 0) | .inr _ => .inr a.1) (fun Q => (0, tI Q))) W J m
    have to76 : ∀ o, fg_344_76 N (.ref 174) (cdI (cdX (tI a.1) a.1.length 0 g00)) (fx W J2 L R ++ tl) = o → fm_344 N (.ref 174) (fx V I L R ++ tl) = o := fun o k_ => go _ (hd_344_61 (ev_b (rdI s4.2.2.1) (ev_f (by decide) (ev_i rfl (ev_cI e5 k_)))))
    cases qx : cdX (tI a.1) a.1.length 0 g00 with
    | inl k =>
      rw [qx] at q5 to76
      have kl : k < a.1.length := q5
      have eB : a.2[k]? = some (a.2.getD k 0) := by
        rw [List.getD_eq_getElem?_getD, List.getElem?_eq_getElem (by omega)]
        rfl
      have g4 : am_pA 0 (.ref 219) (nI k) (fx W J2 L R ++ tl) = some (nI (a.2.getD k 0)) := (qa_219 (by omega)).trans (congrArg some (by rw [eJ2, iup_na (by decide)]; exact S4 k _ eB))
      have hbm : a.2.getD k 0 ≤ m := cdSq_b 60 0 [] [] a (Nat.zero_le m) (fun b hb => by cases hb) q _ (List.mem_of_getElem? eB)
      exact ⟨_, J2, to76 _ (hd_344_76 (ev_f (show ¬ nI k < 0 from Int32.not_lt.mpr (nI_pos' (by omega))) (ev_b (rdR rfl) (ev_b g4 (ev_i rfl (ev_cI (r_331 s5) (hd_344_92 rfl))))))), frRd_t f4 (frRd_t f5 (frRd_v (by decide))), hbm, vup_eq⟩
    | inr g =>
      rw [qx] at to76
      exact ⟨W, J2, to76 _ (hd_344_76 (ev_t (show (-1 : Int32) < 0 by decide) (hd_344_92 rfl))), frRd_t f4 f5, s4.2.2.1, ⟨d4.1, by rw [eJ2, iup_na (by decide), iup_na (by decide)]; exact d4.2⟩, w15⟩
set_option maxRecDepth 100000 in
set_option maxHeartbeats 4000000 in
theorem r_351 {V : Nat → Nat → Value} {I : Nat → Nat → Int32} {L : Nat → Nat → Int64} {R : Nat → Nat → Option Nat} {tl : am_H} {T : Nat → Nat} {m N : Nat} (hN : 5000 < N) (hw : wt V) (h : stR V I T m 0 (-1)) (hd : dkL V I []) (h15 : V 174 15 = .int 0) (hT : ∀ p, T p < 256) : ∃ W J, fm_351 N (.ref 174) (fx V I L R ++ tl) = some (.inl (none, fx W J L R ++ tl)) ∧ frRd V W I J ∧ resQ (rMp (machP T m) (fun Q => (0, mIx T Q))) W J m := by
  have m240 := h.2.2.2.1
  obtain ⟨W, J, e4, f4, r4⟩ := r_351l (L := L) (R := R) (tl := tl) (T := T) (m := m) (N := N) (by omega) 6 N V I 0 [] rfl (by omega) (Nat.zero_le m) h hd (fun k x hx => absurd hx (by simp))
  obtain ⟨M, rfl⟩ : ∃ M, N = M + 1 := ⟨N - 1, by omega⟩
  have go : ∀ o, fg_351_63 (M + 1) (M + 1) (.ref 174) (nI 0) (fx W J L R ++ tl) = o → fm_351 (M + 1) (.ref 174) (fx V I L R ++ tl) = o := fun o k_ => hm_351 (hd_351_0 (e4.trans (hd_351_61 k_)))
  have w15 : W 174 15 = .int 0 := (f4.1 174 15 (by omega)).trans h15
  unfold machP
  cases q : mcSq T m 6 0 [] with
  | inl e =>
    rw [q] at r4
    obtain ⟨em, e70⟩ := r4
    obtain ⟨x, hx⟩ := (f4.2.2 hw).1 174 14 (by decide)
    refine ⟨W, J, go _ (hd_351_63 (ev_b (rdI hx) ?_)), f4, em, e70⟩
    by_cases c : 4 * x ≤ nI 0
    · exact ev_t c (hd_351_116 rfl)
    · exact ev_f c (ev_b (rdI e70) (ev_t (nI_pos' (by omega)) (hd_351_116 rfl)))
  | inr Q =>
    rw [q] at r4
    obtain ⟨s4, d4, l1, l6, S4⟩ := r4
    have iM := mcSq_ok 6 0 [] Q (fun x hx => by cases hx) q
    have pb : ∀ j, j < 4 * Q.length → plM Q j < m := fun j hj => by
      have hg := gDm (Q := Q) (k := j / 4) (by omega)
      have := (iM _ (List.mem_of_getElem? hg)).2 (j % 4) (by omega)
      have := dgB_t.mp this
      exact tq_m h.2.2.2 (p := (Q.getD (j / 4) (0, 0)).2 + j % 4) (by omega)
    have pb2 : ∀ k, plM Q k < 2000 := fun k => by
      by_cases c : k < 4 * Q.length
      · have := pb k c
        omega
      · unfold plM
        rw [List.getD_eq_getElem?_getD, List.getElem?_eq_none (by omega)]
        show 0 + k % 4 < 2000
        omega
    have e63 := r_351e (V := W) (I := J) (L := L) (R := R) (tl := tl) (N := M + 1) s4 d4 S4 l6 hT pb2 (4 * Q.length) 0 (M + 1) (by omega) (by omega)
    show ∃ W J, _ ∧ _ ∧ resQ (rMp (match lstE T Q.length Q (4 * Q.length) 0 with | some e => .inl e | none => .inr Q) (fun Q => (0, mIx T Q))) W J m
    cases ql : lstE T Q.length Q (4 * Q.length) 0 with
    | some e =>
      rw [ql] at e63
      obtain ⟨j, j1, j2, ej⟩ := lstE_s _ _ _ ql
      have em := pb j (by omega)
      exact ⟨_, J, go _ e63, frRd_t f4 (frRd_v (by decide)), by omega, vup_eq⟩
    | none =>
      rw [ql] at e63
      exact ⟨W, J, go _ e63, f4, s4.2.2.1, d4, w15⟩
