/-! ===== the pile's programs ===== -/
set_option maxRecDepth 100000 in
set_option maxHeartbeats 4000000 in
theorem p34_148 {V : Nat → Nat → Value} {I : Nat → Nat → Int32} {L : Nat → Nat → Int64} {R : Nat → Nat → Option Nat} {tl : am_H} (k l : Int32) : fm_34 (.ref 148) k l (fx V I L R ++ tl) = some (.inl (none, fx (vup (vup (vup (vup V 148 1 (.int k)) 148 2 (.int l)) 148 3 (.int 0)) 148 4 (.int (if k = 2 then 5 else 2))) I L R ++ tl)) := by
  unfold fm_34 fg_34_0
  refine ev_b (a := fx (vup V 148 1 (.int k)) I L R ++ tl) (ev_p rfl rfl rfl rfl) ?_
  refine ev_b (a := fx (vup (vup V 148 1 (.int k)) 148 2 (.int l)) I L R ++ tl) (ev_p rfl rfl rfl rfl) ?_
  refine ev_b (a := fx (vup (vup (vup V 148 1 (.int k)) 148 2 (.int l)) 148 3 (.int 0)) I L R ++ tl) (ev_p rfl rfl rfl rfl) ?_
  by_cases c : k = 2
  · rw [if_pos c]
    refine ev_f (fun e => e c) ?_
    unfold fg_34_26
    exact ev_b (ev_p rfl rfl rfl rfl) rfl
  · rw [if_neg c]
    refine ev_t c ?_
    unfold fg_34_26
    exact ev_b (ev_p rfl rfl rfl rfl) rfl
set_option maxRecDepth 100000 in
set_option maxHeartbeats 4000000 in
theorem p41_148 {V : Nat → Nat → Value} {I : Nat → Nat → Int32} {L : Nat → Nat → Int64} {R : Nat → Nat → Option Nat} {tl : am_H} {N s : Nat} (hN : 1 ≤ N) (h3 : V 148 3 = .int (nI s)) (h4 : V 148 4 = .int 2) (hs : 2 * s + 2 ≤ 120) (a b : Int32) : fm_41 N (.ref 148) a b (fx V I L R ++ tl) = some (.inl (some (.int 1), fx (vup V 148 3 (.int (nI (s + 1)))) (iup I 149 (upd (upd (I 149) (2 * s) a) (2 * s + 1) b)) L R ++ tl)) := by
  obtain ⟨N, rfl⟩ : ∃ k, N = k + 1 := ⟨N - 1, by omega⟩
  have g3 : ∀ {I : Nat → Nat → Int32}, am_vI (am_pG 771 (.ref 148) (fx V I L R ++ tl)) = some (nI s) := fun {I} => by show am_vI (some (V 148 3)) = _; rw [h3]; rfl
  have g4 : ∀ {I : Nat → Nat → Int32}, am_vI (am_pG 772 (.ref 148) (fx V I L R ++ tl)) = some 2 := fun {I} => by show am_vI (some (V 148 4)) = _; rw [h4]; rfl
  unfold fm_41 fg_41_0
  refine ev_b g3 ?_
  refine ev_b g4 ?_
  refine ev_b g4 ?_
  refine ev_b (a := .ref 149) rfl ?_
  refine ev_b (a := nI 120) rfl ?_
  rw [show nI s * 2 = nI (2 * s) by rw [Nat.mul_comm, nI_mul]; rfl]
  refine ev_t (by rw [show (2 : Int32) = nI 2 from rfl, nI_add]; exact nI_le hs (by omega)) ?_
  rw [fg_41_29]
  refine ev_b g4 ?_
  refine ev_t (by decide) ?_
  refine ev_b (a := .ref 149) rfl ?_
  refine ev_b (ev_s (f := I 149) (n := 120) (h1 := fx V (iup I 149 (upd (I 149) (2 * s) a)) L R ++ tl) rfl (am_inb_n (by omega) (by omega)) rfl (by rw [nI_clamp (by omega)]; rfl)) ?_
  refine ev_b (a := .ref 149) rfl ?_
  rw [nI_1]
  refine ev_b (ev_s (f := upd (I 149) (2 * s) a) (n := 120) (h1 := fx V (iup I 149 (upd (upd (I 149) (2 * s) a) (2 * s + 1) b)) L R ++ tl) rfl (am_inb_n (by omega) (by omega)) rfl (by rw [nI_clamp (by omega)]; rfl)) ?_
  refine ev_b g3 ?_
  rw [nI_1]
  exact ev_b (ev_p rfl rfl rfl rfl) rfl
set_option maxRecDepth 100000 in
set_option maxHeartbeats 1600000 in
/-- take(): items of a program, onto the spare one -/
theorem p170_148 {V : Nat → Nat → Value} {I : Nat → Nat → Int32} {L : Nat → Nat → Int64} {R : Nat → Nat → Option Nat} {tl : am_H} {A it m i j cnt wd sz : Nat} {kd ln x1 x2 x3 x4 x5 : Int32} {x6 : Int64} {f : Nat → Int32} (p1 : (fx V I L R ++ tl)[A]? = some (.inr (3, [.ref it, .int kd, .int ln, .int (nI sz), .int (nI wd), .int x1, .int x2, .int x3, .int x4, .int x5, .long x6]))) (p2 : (fx V I L R ++ tl)[it]? = some (.inl (0, m, .inl f))) (h3 : V 148 3 = .int (nI cnt)) (h4 : V 148 4 = .int (nI wd)) (hij : i ≤ j) (hj : j ≤ sz) (hsz : sz ≤ 60) (hw : wd ≤ 5) (hm : sz * wd ≤ m) (hm2 : m ≤ 1000) (hc : (cnt + (j - i)) * wd ≤ 120) (hcn : cnt ≤ 120) : fm_170 (.ref 148) (.ref A) (nI i) (nI j) (fx V I L R ++ tl) = some (.inl (some (.int 1), fx (vup V 148 3 (.int (nI (cnt + (j - i))))) (iup I 149 (va_cpy f (I 149) (i * wd) (cnt * wd) ((j - i) * wd))) L R ++ tl)) := by
  have hq : (fx V I L R ++ tl)[148]? = some (.inr (3, [.ref 149, V 148 1, V 148 2, V 148 3, V 148 4, V 148 5, V 148 6, V 148 7, V 148 8, V 148 9, V 148 10])) := rfl
  have g3 : am_vI (am_pG 771 (.ref 148) (fx V I L R ++ tl)) = some (nI cnt) := ev_gI hq rfl (by show some (V 148 3) = _; rw [h3])
  have g4 : am_vI (am_pG 772 (.ref 148) (fx V I L R ++ tl)) = some (nI wd) := ev_gI hq rfl (by show some (V 148 4) = _; rw [h4])
  have a1 : i * wd + (j - i) * wd = j * wd := by rw [← Nat.add_mul, show i + (j - i) = j by omega]
  have a2 : cnt * wd + (j - i) * wd = (cnt + (j - i)) * wd := (Nat.add_mul ..).symm
  have a3 : j * wd ≤ sz * wd := Nat.mul_le_mul_right _ hj
  unfold fm_170 fg_170_0
  refine ev_b (ev_gI p1 rfl rfl) (ev_b g4 (ev_f (fun e => e rfl) (ev_f (nI_pos (by omega)) ?_)))
  rw [nI_sub hij]
  refine ev_f (nI_pos (by omega)) (ev_b (ev_gI p1 rfl rfl) (ev_f (nI_nlt hj (by omega)) (ev_b g3 (ev_b g4 (ev_b (a := Value.ref 149) rfl (ev_b (a := nI 120) rfl ?_))))))
  rw [nI_add, ← nI_mul]
  refine ev_t (nI_le (b := 120) hc (by omega)) (ev_b (ev_gR p1 rfl rfl rfl) (ev_b g4 (ev_b (a := Value.ref 149) rfl (ev_b g3 (ev_b g4 (ev_b g4 ?_))))))
  rw [← nI_mul, ← nI_mul, ← nI_mul]
  refine ev_b (ev_cpy (f := f) (g := I 149) (n0 := m) (n1 := 120) (sp := i * wd) (dp := cnt * wd) (n := (j - i) * wd) (h1 := fx V (iup I 149 (va_cpy f (I 149) (i * wd) (cnt * wd) ((j - i) * wd))) L R ++ tl) p2 rfl (by omega) (by omega) (by omega) (by omega) rfl) ?_
  refine ev_b (a := nI cnt) (ev_gI (fs := [.ref 149, V 148 1, V 148 2, V 148 3, V 148 4, V 148 5, V 148 6, V 148 7, V 148 8, V 148 9, V 148 10]) (c := 3) rfl rfl (by show some (V 148 3) = _; rw [h3])) ?_
  rw [nI_add]
  exact ev_b qp_148_3 rfl
theorem prF_148 {V : Nat → Nat → Value} {I : Nat → Nat → Int32} {L : Nat → Nat → Int64} {R : Nat → Nat → Option Nat} {tl : am_H} {kd ln sz : Nat} (w : wt V) (h1 : V 148 1 = .int (nI kd)) (h2 : V 148 2 = .int (nI ln)) (h3 : V 148 3 = .int (nI sz)) (h4 : V 148 4 = .int (nI (wdN kd))) : prA V I tl 148 149 kd ln sz 120 (I 149) := by
  intro W J L R hw hj
  obtain ⟨x5, e5⟩ := w.1 148 5 (by decide)
  obtain ⟨x6, e6⟩ := w.1 148 6 (by decide)
  obtain ⟨x7, e7⟩ := w.1 148 7 (by decide)
  obtain ⟨x8, e8⟩ := w.1 148 8 (by decide)
  obtain ⟨x9, e9⟩ := w.1 148 9 (by decide)
  obtain ⟨x10, e10⟩ := w.2 148 10 (by decide)
  refine ⟨x5, x6, x7, x8, x9, x10, ?_, ?_⟩
  · show some (Sum.inr (3, [.ref 149, W 148 1, W 148 2, W 148 3, W 148 4, W 148 5, W 148 6, W 148 7, W 148 8, W 148 9, W 148 10])) = _
    rw [hw, hw, hw, hw, hw, hw, hw, hw, hw, hw, h1, h2, h3, h4, e5, e6, e7, e8, e9, e10]
  · show some (Sum.inl (0, 120, Sum.inl (J 149))) = _
    rw [hj]
set_option maxRecDepth 100000 in
set_option maxHeartbeats 4000000 in
theorem p60_148 {V : Nat → Nat → Value} {I : Nat → Nat → Int32} {L : Nat → Nat → Int64} {R : Nat → Nat → Option Nat} {tl : am_H} {A it kd ln sz m : Nat} {f : Nat → Int32} (hp : prA V I tl A it kd ln sz m f) (hA : A ≠ 148) (hk : kd ≤ 3) (hm : sz * wdN kd ≤ m) (hm2 : m ≤ 1000) (hs : sz * wdN kd ≤ 120) (hz : sz ≤ 120) : fm_60 (.ref 148) (.ref A) (fx V I L R ++ tl) = some (.inl (none, fx (vup (vup (vup (vup (vup V 148 1 (.int (nI kd))) 148 2 (.int (nI ln))) 148 3 (.int 0)) 148 4 (.int (if nI kd = 2 then 5 else 2))) 148 3 (.int (nI sz))) (iup I 149 (va_cpy f (I 149) 0 0 (sz * wdN kd))) L R ++ tl)) := by
  obtain ⟨x1, x2, x3, x4, x5, x6, p1, p2⟩ := hp V I L R (fun _ => rfl) rfl
  have ew : (if nI kd = 2 then (5 : Int32) else 2) = nI (wdN kd) := by
    unfold wdN
    by_cases c : kd = 2
    · rw [if_pos c, if_pos (show nI kd = 2 by rw [c]; rfl)]
      rfl
    · rw [if_neg c, if_neg (show ¬ nI kd = 2 from fun e => c ((nI_eq (b := 2) (by omega) (by omega)).mp e))]
      rfl
  have ne : ∀ {X : Value} {j : Nat} {W : Nat → Nat → Value} (i : Nat), vup W 148 j X A i = W A i := fun i => vup_o (fun e => hA e.1)
  obtain ⟨y1, y2, y3, y4, y5, y6, q1, q2⟩ := hp (vup (vup (vup (vup V 148 1 (.int (nI kd))) 148 2 (.int (nI ln))) 148 3 (.int 0)) 148 4 (.int (if nI kd = 2 then 5 else 2))) I L R (fun i => by rw [ne, ne, ne, ne]) rfl
  obtain ⟨z1, z2, z3, z4, z5, z6, r1, r2⟩ := hp (vup (vup (vup (vup (vup V 148 1 (.int (nI kd))) 148 2 (.int (nI ln))) 148 3 (.int 0)) 148 4 (.int (if nI kd = 2 then 5 else 2))) 148 3 (.int (nI sz))) I L R (fun i => by rw [ne, ne, ne, ne, ne]) rfl
  unfold fm_60 fg_60_0
  refine ev_b (ev_gI p1 rfl rfl) (ev_b (ev_gI p1 rfl rfl) (ev_i rfl (ev_cV (p34_148 (nI kd) (nI ln)) ?_)))
  refine ev_b (ev_gI q1 rfl rfl) (ev_b (a := if nI kd = 2 then 5 else 2) rfl (ev_b (a := Value.ref 149) rfl (ev_b (a := nI 120) rfl ?_)))
  rw [show nI sz * (if nI kd = 2 then (5 : Int32) else 2) = nI (sz * wdN kd) by rw [ew, nI_mul]]
  refine ev_f (nI_nlt (a := 120) hs (by omega)) (ev_b (ev_gI q1 rfl rfl) (ev_b qp_148_3 (ev_b (ev_gR r1 rfl rfl rfl) (ev_b (a := Value.ref 149) rfl (ev_b (a := nI sz) rfl (ev_b (a := if nI kd = 2 then 5 else 2) rfl ?_))))))
  rw [show nI sz * (if nI kd = 2 then (5 : Int32) else 2) = nI (sz * wdN kd) by rw [ew, nI_mul]]
  refine ev_b (ev_cpy (f := f) (g := I 149) (n0 := m) (n1 := 120) (sp := 0) (dp := 0) (n := sz * wdN kd) r2 rfl (by omega) (by omega) (by omega) (by omega) rfl) rfl
theorem srcP_148 {V : Nat → Nat → Value} {I : Nat → Nat → Int32} {L : Nat → Nat → Int64} {R : Nat → Nat → Option Nat} {tl : am_H} {kd ln : Nat} {P : xT} (w : wt V) (h : hold V I 148 kd ln P) (hk : kd ≤ 3) (h2 : kd ≠ 2) (hl : P.length ≤ 60) : srcP V I tl 148 149 kd ln P := ⟨120, I 149, prF_148 (L := fun _ _ => 0) (R := fun _ _ => none) w h.1 h.2.1 h.2.2.1 (by rw [wd2 h2]; exact h.2.2.2.1), h.2.2.2.2, by omega, by omega, hk, h2, hl⟩
theorem s34_148 {V : Nat → Nat → Value} {I : Nat → Nat → Int32} {L : Nat → Nat → Int64} {R : Nat → Nat → Option Nat} {tl : am_H} {kd ln : Nat} (k l : Int32) (hk : k = nI kd) (hl : l = nI ln) (h3 : kd ≤ 3) (h2 : kd ≠ 2) : ∃ W J, fm_34 (.ref 148) k l (fx V I L R ++ tl) = some (.inl (none, fx W J L R ++ tl)) ∧ hold W J 148 kd ln [] ∧ fr1 148 V W I J := by
  refine ⟨_, _, p34_148 k l, ⟨by subst hk; rfl, by subst hl; rfl, rfl, congrArg Value.int (nI_w h2 h3 hk), tO_nil⟩, ?_⟩
  exact fr1_t (fr1_v (by decide)) (fr1_t (fr1_v (by decide)) (fr1_t (fr1_v (by decide)) (fr1_v (by decide))))
theorem s41_148 {V : Nat → Nat → Value} {I : Nat → Nat → Int32} {L : Nat → Nat → Int64} {R : Nat → Nat → Option Nat} {tl : am_H} {N kd ln a : Nat} {Q : xT} {b : Int32} (hN : 1 ≤ N) (h : hold V I 148 kd ln Q) (hl : Q.length < 60) (x : Int32) (hx : x = nI a) : ∃ W J, fm_41 N (.ref 148) x b (fx V I L R ++ tl) = some (.inl (some (.int 1), fx W J L R ++ tl)) ∧ hold W J 148 kd ln (Q ++ [(a, b)]) ∧ fr1 148 V W I J := by
  subst hx
  refine ⟨_, _, p41_148 hN h.2.2.1 h.2.2.2.1 (by omega) (nI a) b, ⟨h.1, h.2.1, ?_, h.2.2.2.1, tO_app h.2.2.2.2⟩, fr1_t (fr1_v (by decide)) fr1_i⟩
  rw [List.length_append]
  rfl
theorem s170_148 {V : Nat → Nat → Value} {I : Nat → Nat → Int32} {L : Nat → Nat → Int64} {R : Nat → Nat → Option Nat} {tl : am_H} {A it kd ln kd' ln' i j : Nat} {Q P : xT} (hs : srcP V I tl A it kd' ln' P) (h : hold V I 148 kd ln Q) (hij : i ≤ j) (hj : j ≤ P.length) (hq : Q.length + (j - i) ≤ 60) (x y : Int32) (hx : x = nI i) (hy : y = nI j) : ∃ W J, fm_170 (.ref 148) (.ref A) x y (fx V I L R ++ tl) = some (.inl (some (.int 1), fx W J L R ++ tl)) ∧ hold W J 148 kd ln (Q ++ seg P i j) ∧ fr1 148 V W I J := by
  subst hx
  subst hy
  obtain ⟨m, f, hp, hf, m1, m2, k3, k2, l60⟩ := hs
  obtain ⟨x1, x2, x3, x4, x5, x6, p1, p2⟩ := hp V I L R (fun _ => rfl) rfl
  refine ⟨_, _, p170_148 (wd := 2) (by rw [wd2 k2] at p1; exact p1) p2 h.2.2.1 h.2.2.2.1 hij hj l60 (by omega) m1 m2 (by omega) (by omega), ⟨h.1, h.2.1, ?_, h.2.2.2.1, tO_take h.2.2.2.2 hf hij hj⟩, fr1_t (fr1_v (by decide)) fr1_i⟩
  rw [List.length_append, seg_len hj]
  rfl
theorem s60_148 {V : Nat → Nat → Value} {I : Nat → Nat → Int32} {L : Nat → Nat → Int64} {R : Nat → Nat → Option Nat} {tl : am_H} {A it kd ln : Nat} {P : xT} (hs : srcP V I tl A it kd ln P) (hA : A ≠ 148) : ∃ W J, fm_60 (.ref 148) (.ref A) (fx V I L R ++ tl) = some (.inl (none, fx W J L R ++ tl)) ∧ hold W J 148 kd ln P ∧ fr1 148 V W I J := by
  obtain ⟨m, f, hp, hf, m1, m2, k3, k2, l60⟩ := hs
  have hw := wd2 k2
  refine ⟨_, _, p60_148 hp hA k3 (by rw [hw]; exact m1) m2 (by rw [hw]; omega) (by omega), ⟨rfl, rfl, rfl, congrArg Value.int (nI_w k2 k3 rfl), ?_⟩, ?_⟩
  · rw [hw]
    exact tO_cpy hf
  · exact fr1_t (fr1_v (by decide)) (fr1_t (fr1_v (by decide)) (fr1_t (fr1_v (by decide)) (fr1_t (fr1_v (by decide)) (fr1_t (fr1_v (by decide)) fr1_i))))
set_option maxRecDepth 100000 in
set_option maxHeartbeats 4000000 in
theorem p34_150 {V : Nat → Nat → Value} {I : Nat → Nat → Int32} {L : Nat → Nat → Int64} {R : Nat → Nat → Option Nat} {tl : am_H} (k l : Int32) : fm_34 (.ref 150) k l (fx V I L R ++ tl) = some (.inl (none, fx (vup (vup (vup (vup V 150 1 (.int k)) 150 2 (.int l)) 150 3 (.int 0)) 150 4 (.int (if k = 2 then 5 else 2))) I L R ++ tl)) := by
  unfold fm_34 fg_34_0
  refine ev_b (a := fx (vup V 150 1 (.int k)) I L R ++ tl) (ev_p rfl rfl rfl rfl) ?_
  refine ev_b (a := fx (vup (vup V 150 1 (.int k)) 150 2 (.int l)) I L R ++ tl) (ev_p rfl rfl rfl rfl) ?_
  refine ev_b (a := fx (vup (vup (vup V 150 1 (.int k)) 150 2 (.int l)) 150 3 (.int 0)) I L R ++ tl) (ev_p rfl rfl rfl rfl) ?_
  by_cases c : k = 2
  · rw [if_pos c]
    refine ev_f (fun e => e c) ?_
    unfold fg_34_26
    exact ev_b (ev_p rfl rfl rfl rfl) rfl
  · rw [if_neg c]
    refine ev_t c ?_
    unfold fg_34_26
    exact ev_b (ev_p rfl rfl rfl rfl) rfl
set_option maxRecDepth 100000 in
set_option maxHeartbeats 4000000 in
theorem p41_150 {V : Nat → Nat → Value} {I : Nat → Nat → Int32} {L : Nat → Nat → Int64} {R : Nat → Nat → Option Nat} {tl : am_H} {N s : Nat} (hN : 1 ≤ N) (h3 : V 150 3 = .int (nI s)) (h4 : V 150 4 = .int 2) (hs : 2 * s + 2 ≤ 120) (a b : Int32) : fm_41 N (.ref 150) a b (fx V I L R ++ tl) = some (.inl (some (.int 1), fx (vup V 150 3 (.int (nI (s + 1)))) (iup I 151 (upd (upd (I 151) (2 * s) a) (2 * s + 1) b)) L R ++ tl)) := by
  obtain ⟨N, rfl⟩ : ∃ k, N = k + 1 := ⟨N - 1, by omega⟩
  have g3 : ∀ {I : Nat → Nat → Int32}, am_vI (am_pG 771 (.ref 150) (fx V I L R ++ tl)) = some (nI s) := fun {I} => by show am_vI (some (V 150 3)) = _; rw [h3]; rfl
  have g4 : ∀ {I : Nat → Nat → Int32}, am_vI (am_pG 772 (.ref 150) (fx V I L R ++ tl)) = some 2 := fun {I} => by show am_vI (some (V 150 4)) = _; rw [h4]; rfl
  unfold fm_41 fg_41_0
  refine ev_b g3 ?_
  refine ev_b g4 ?_
  refine ev_b g4 ?_
  refine ev_b (a := .ref 151) rfl ?_
  refine ev_b (a := nI 120) rfl ?_
  rw [show nI s * 2 = nI (2 * s) by rw [Nat.mul_comm, nI_mul]; rfl]
  refine ev_t (by rw [show (2 : Int32) = nI 2 from rfl, nI_add]; exact nI_le hs (by omega)) ?_
  rw [fg_41_29]
  refine ev_b g4 ?_
  refine ev_t (by decide) ?_
  refine ev_b (a := .ref 151) rfl ?_
  refine ev_b (ev_s (f := I 151) (n := 120) (h1 := fx V (iup I 151 (upd (I 151) (2 * s) a)) L R ++ tl) rfl (am_inb_n (by omega) (by omega)) rfl (by rw [nI_clamp (by omega)]; rfl)) ?_
  refine ev_b (a := .ref 151) rfl ?_
  rw [nI_1]
  refine ev_b (ev_s (f := upd (I 151) (2 * s) a) (n := 120) (h1 := fx V (iup I 151 (upd (upd (I 151) (2 * s) a) (2 * s + 1) b)) L R ++ tl) rfl (am_inb_n (by omega) (by omega)) rfl (by rw [nI_clamp (by omega)]; rfl)) ?_
  refine ev_b g3 ?_
  rw [nI_1]
  exact ev_b (ev_p rfl rfl rfl rfl) rfl
set_option maxRecDepth 100000 in
set_option maxHeartbeats 1600000 in
/-- take(): items of a program, onto the spare one -/
theorem p170_150 {V : Nat → Nat → Value} {I : Nat → Nat → Int32} {L : Nat → Nat → Int64} {R : Nat → Nat → Option Nat} {tl : am_H} {A it m i j cnt wd sz : Nat} {kd ln x1 x2 x3 x4 x5 : Int32} {x6 : Int64} {f : Nat → Int32} (p1 : (fx V I L R ++ tl)[A]? = some (.inr (3, [.ref it, .int kd, .int ln, .int (nI sz), .int (nI wd), .int x1, .int x2, .int x3, .int x4, .int x5, .long x6]))) (p2 : (fx V I L R ++ tl)[it]? = some (.inl (0, m, .inl f))) (h3 : V 150 3 = .int (nI cnt)) (h4 : V 150 4 = .int (nI wd)) (hij : i ≤ j) (hj : j ≤ sz) (hsz : sz ≤ 60) (hw : wd ≤ 5) (hm : sz * wd ≤ m) (hm2 : m ≤ 1000) (hc : (cnt + (j - i)) * wd ≤ 120) (hcn : cnt ≤ 120) : fm_170 (.ref 150) (.ref A) (nI i) (nI j) (fx V I L R ++ tl) = some (.inl (some (.int 1), fx (vup V 150 3 (.int (nI (cnt + (j - i))))) (iup I 151 (va_cpy f (I 151) (i * wd) (cnt * wd) ((j - i) * wd))) L R ++ tl)) := by
  have hq : (fx V I L R ++ tl)[150]? = some (.inr (3, [.ref 151, V 150 1, V 150 2, V 150 3, V 150 4, V 150 5, V 150 6, V 150 7, V 150 8, V 150 9, V 150 10])) := rfl
  have g3 : am_vI (am_pG 771 (.ref 150) (fx V I L R ++ tl)) = some (nI cnt) := ev_gI hq rfl (by show some (V 150 3) = _; rw [h3])
  have g4 : am_vI (am_pG 772 (.ref 150) (fx V I L R ++ tl)) = some (nI wd) := ev_gI hq rfl (by show some (V 150 4) = _; rw [h4])
  have a1 : i * wd + (j - i) * wd = j * wd := by rw [← Nat.add_mul, show i + (j - i) = j by omega]
  have a2 : cnt * wd + (j - i) * wd = (cnt + (j - i)) * wd := (Nat.add_mul ..).symm
  have a3 : j * wd ≤ sz * wd := Nat.mul_le_mul_right _ hj
  unfold fm_170 fg_170_0
  refine ev_b (ev_gI p1 rfl rfl) (ev_b g4 (ev_f (fun e => e rfl) (ev_f (nI_pos (by omega)) ?_)))
  rw [nI_sub hij]
  refine ev_f (nI_pos (by omega)) (ev_b (ev_gI p1 rfl rfl) (ev_f (nI_nlt hj (by omega)) (ev_b g3 (ev_b g4 (ev_b (a := Value.ref 151) rfl (ev_b (a := nI 120) rfl ?_))))))
  rw [nI_add, ← nI_mul]
  refine ev_t (nI_le (b := 120) hc (by omega)) (ev_b (ev_gR p1 rfl rfl rfl) (ev_b g4 (ev_b (a := Value.ref 151) rfl (ev_b g3 (ev_b g4 (ev_b g4 ?_))))))
  rw [← nI_mul, ← nI_mul, ← nI_mul]
  refine ev_b (ev_cpy (f := f) (g := I 151) (n0 := m) (n1 := 120) (sp := i * wd) (dp := cnt * wd) (n := (j - i) * wd) (h1 := fx V (iup I 151 (va_cpy f (I 151) (i * wd) (cnt * wd) ((j - i) * wd))) L R ++ tl) p2 rfl (by omega) (by omega) (by omega) (by omega) rfl) ?_
  refine ev_b (a := nI cnt) (ev_gI (fs := [.ref 151, V 150 1, V 150 2, V 150 3, V 150 4, V 150 5, V 150 6, V 150 7, V 150 8, V 150 9, V 150 10]) (c := 3) rfl rfl (by show some (V 150 3) = _; rw [h3])) ?_
  rw [nI_add]
  exact ev_b qp_150_3 rfl
theorem prF_150 {V : Nat → Nat → Value} {I : Nat → Nat → Int32} {L : Nat → Nat → Int64} {R : Nat → Nat → Option Nat} {tl : am_H} {kd ln sz : Nat} (w : wt V) (h1 : V 150 1 = .int (nI kd)) (h2 : V 150 2 = .int (nI ln)) (h3 : V 150 3 = .int (nI sz)) (h4 : V 150 4 = .int (nI (wdN kd))) : prA V I tl 150 151 kd ln sz 120 (I 151) := by
  intro W J L R hw hj
  obtain ⟨x5, e5⟩ := w.1 150 5 (by decide)
  obtain ⟨x6, e6⟩ := w.1 150 6 (by decide)
  obtain ⟨x7, e7⟩ := w.1 150 7 (by decide)
  obtain ⟨x8, e8⟩ := w.1 150 8 (by decide)
  obtain ⟨x9, e9⟩ := w.1 150 9 (by decide)
  obtain ⟨x10, e10⟩ := w.2 150 10 (by decide)
  refine ⟨x5, x6, x7, x8, x9, x10, ?_, ?_⟩
  · show some (Sum.inr (3, [.ref 151, W 150 1, W 150 2, W 150 3, W 150 4, W 150 5, W 150 6, W 150 7, W 150 8, W 150 9, W 150 10])) = _
    rw [hw, hw, hw, hw, hw, hw, hw, hw, hw, hw, h1, h2, h3, h4, e5, e6, e7, e8, e9, e10]
  · show some (Sum.inl (0, 120, Sum.inl (J 151))) = _
    rw [hj]
set_option maxRecDepth 100000 in
set_option maxHeartbeats 4000000 in
theorem p60_150 {V : Nat → Nat → Value} {I : Nat → Nat → Int32} {L : Nat → Nat → Int64} {R : Nat → Nat → Option Nat} {tl : am_H} {A it kd ln sz m : Nat} {f : Nat → Int32} (hp : prA V I tl A it kd ln sz m f) (hA : A ≠ 150) (hk : kd ≤ 3) (hm : sz * wdN kd ≤ m) (hm2 : m ≤ 1000) (hs : sz * wdN kd ≤ 120) (hz : sz ≤ 120) : fm_60 (.ref 150) (.ref A) (fx V I L R ++ tl) = some (.inl (none, fx (vup (vup (vup (vup (vup V 150 1 (.int (nI kd))) 150 2 (.int (nI ln))) 150 3 (.int 0)) 150 4 (.int (if nI kd = 2 then 5 else 2))) 150 3 (.int (nI sz))) (iup I 151 (va_cpy f (I 151) 0 0 (sz * wdN kd))) L R ++ tl)) := by
  obtain ⟨x1, x2, x3, x4, x5, x6, p1, p2⟩ := hp V I L R (fun _ => rfl) rfl
  have ew : (if nI kd = 2 then (5 : Int32) else 2) = nI (wdN kd) := by
    unfold wdN
    by_cases c : kd = 2
    · rw [if_pos c, if_pos (show nI kd = 2 by rw [c]; rfl)]
      rfl
    · rw [if_neg c, if_neg (show ¬ nI kd = 2 from fun e => c ((nI_eq (b := 2) (by omega) (by omega)).mp e))]
      rfl
  have ne : ∀ {X : Value} {j : Nat} {W : Nat → Nat → Value} (i : Nat), vup W 150 j X A i = W A i := fun i => vup_o (fun e => hA e.1)
  obtain ⟨y1, y2, y3, y4, y5, y6, q1, q2⟩ := hp (vup (vup (vup (vup V 150 1 (.int (nI kd))) 150 2 (.int (nI ln))) 150 3 (.int 0)) 150 4 (.int (if nI kd = 2 then 5 else 2))) I L R (fun i => by rw [ne, ne, ne, ne]) rfl
  obtain ⟨z1, z2, z3, z4, z5, z6, r1, r2⟩ := hp (vup (vup (vup (vup (vup V 150 1 (.int (nI kd))) 150 2 (.int (nI ln))) 150 3 (.int 0)) 150 4 (.int (if nI kd = 2 then 5 else 2))) 150 3 (.int (nI sz))) I L R (fun i => by rw [ne, ne, ne, ne, ne]) rfl
  unfold fm_60 fg_60_0
  refine ev_b (ev_gI p1 rfl rfl) (ev_b (ev_gI p1 rfl rfl) (ev_i rfl (ev_cV (p34_150 (nI kd) (nI ln)) ?_)))
  refine ev_b (ev_gI q1 rfl rfl) (ev_b (a := if nI kd = 2 then 5 else 2) rfl (ev_b (a := Value.ref 151) rfl (ev_b (a := nI 120) rfl ?_)))
  rw [show nI sz * (if nI kd = 2 then (5 : Int32) else 2) = nI (sz * wdN kd) by rw [ew, nI_mul]]
  refine ev_f (nI_nlt (a := 120) hs (by omega)) (ev_b (ev_gI q1 rfl rfl) (ev_b qp_150_3 (ev_b (ev_gR r1 rfl rfl rfl) (ev_b (a := Value.ref 151) rfl (ev_b (a := nI sz) rfl (ev_b (a := if nI kd = 2 then 5 else 2) rfl ?_))))))
  rw [show nI sz * (if nI kd = 2 then (5 : Int32) else 2) = nI (sz * wdN kd) by rw [ew, nI_mul]]
  refine ev_b (ev_cpy (f := f) (g := I 151) (n0 := m) (n1 := 120) (sp := 0) (dp := 0) (n := sz * wdN kd) r2 rfl (by omega) (by omega) (by omega) (by omega) rfl) rfl
theorem srcP_150 {V : Nat → Nat → Value} {I : Nat → Nat → Int32} {L : Nat → Nat → Int64} {R : Nat → Nat → Option Nat} {tl : am_H} {kd ln : Nat} {P : xT} (w : wt V) (h : hold V I 150 kd ln P) (hk : kd ≤ 3) (h2 : kd ≠ 2) (hl : P.length ≤ 60) : srcP V I tl 150 151 kd ln P := ⟨120, I 151, prF_150 (L := fun _ _ => 0) (R := fun _ _ => none) w h.1 h.2.1 h.2.2.1 (by rw [wd2 h2]; exact h.2.2.2.1), h.2.2.2.2, by omega, by omega, hk, h2, hl⟩
theorem s34_150 {V : Nat → Nat → Value} {I : Nat → Nat → Int32} {L : Nat → Nat → Int64} {R : Nat → Nat → Option Nat} {tl : am_H} {kd ln : Nat} (k l : Int32) (hk : k = nI kd) (hl : l = nI ln) (h3 : kd ≤ 3) (h2 : kd ≠ 2) : ∃ W J, fm_34 (.ref 150) k l (fx V I L R ++ tl) = some (.inl (none, fx W J L R ++ tl)) ∧ hold W J 150 kd ln [] ∧ fr1 150 V W I J := by
  refine ⟨_, _, p34_150 k l, ⟨by subst hk; rfl, by subst hl; rfl, rfl, congrArg Value.int (nI_w h2 h3 hk), tO_nil⟩, ?_⟩
  exact fr1_t (fr1_v (by decide)) (fr1_t (fr1_v (by decide)) (fr1_t (fr1_v (by decide)) (fr1_v (by decide))))
theorem s41_150 {V : Nat → Nat → Value} {I : Nat → Nat → Int32} {L : Nat → Nat → Int64} {R : Nat → Nat → Option Nat} {tl : am_H} {N kd ln a : Nat} {Q : xT} {b : Int32} (hN : 1 ≤ N) (h : hold V I 150 kd ln Q) (hl : Q.length < 60) (x : Int32) (hx : x = nI a) : ∃ W J, fm_41 N (.ref 150) x b (fx V I L R ++ tl) = some (.inl (some (.int 1), fx W J L R ++ tl)) ∧ hold W J 150 kd ln (Q ++ [(a, b)]) ∧ fr1 150 V W I J := by
  subst hx
  refine ⟨_, _, p41_150 hN h.2.2.1 h.2.2.2.1 (by omega) (nI a) b, ⟨h.1, h.2.1, ?_, h.2.2.2.1, tO_app h.2.2.2.2⟩, fr1_t (fr1_v (by decide)) fr1_i⟩
  rw [List.length_append]
  rfl
theorem s170_150 {V : Nat → Nat → Value} {I : Nat → Nat → Int32} {L : Nat → Nat → Int64} {R : Nat → Nat → Option Nat} {tl : am_H} {A it kd ln kd' ln' i j : Nat} {Q P : xT} (hs : srcP V I tl A it kd' ln' P) (h : hold V I 150 kd ln Q) (hij : i ≤ j) (hj : j ≤ P.length) (hq : Q.length + (j - i) ≤ 60) (x y : Int32) (hx : x = nI i) (hy : y = nI j) : ∃ W J, fm_170 (.ref 150) (.ref A) x y (fx V I L R ++ tl) = some (.inl (some (.int 1), fx W J L R ++ tl)) ∧ hold W J 150 kd ln (Q ++ seg P i j) ∧ fr1 150 V W I J := by
  subst hx
  subst hy
  obtain ⟨m, f, hp, hf, m1, m2, k3, k2, l60⟩ := hs
  obtain ⟨x1, x2, x3, x4, x5, x6, p1, p2⟩ := hp V I L R (fun _ => rfl) rfl
  refine ⟨_, _, p170_150 (wd := 2) (by rw [wd2 k2] at p1; exact p1) p2 h.2.2.1 h.2.2.2.1 hij hj l60 (by omega) m1 m2 (by omega) (by omega), ⟨h.1, h.2.1, ?_, h.2.2.2.1, tO_take h.2.2.2.2 hf hij hj⟩, fr1_t (fr1_v (by decide)) fr1_i⟩
  rw [List.length_append, seg_len hj]
  rfl
theorem s60_150 {V : Nat → Nat → Value} {I : Nat → Nat → Int32} {L : Nat → Nat → Int64} {R : Nat → Nat → Option Nat} {tl : am_H} {A it kd ln : Nat} {P : xT} (hs : srcP V I tl A it kd ln P) (hA : A ≠ 150) : ∃ W J, fm_60 (.ref 150) (.ref A) (fx V I L R ++ tl) = some (.inl (none, fx W J L R ++ tl)) ∧ hold W J 150 kd ln P ∧ fr1 150 V W I J := by
  obtain ⟨m, f, hp, hf, m1, m2, k3, k2, l60⟩ := hs
  have hw := wd2 k2
  refine ⟨_, _, p60_150 hp hA k3 (by rw [hw]; exact m1) m2 (by rw [hw]; omega) (by omega), ⟨rfl, rfl, rfl, congrArg Value.int (nI_w k2 k3 rfl), ?_⟩, ?_⟩
  · rw [hw]
    exact tO_cpy hf
  · exact fr1_t (fr1_v (by decide)) (fr1_t (fr1_v (by decide)) (fr1_t (fr1_v (by decide)) (fr1_t (fr1_v (by decide)) (fr1_t (fr1_v (by decide)) fr1_i))))
set_option maxRecDepth 100000 in
set_option maxHeartbeats 4000000 in
theorem p34_152 {V : Nat → Nat → Value} {I : Nat → Nat → Int32} {L : Nat → Nat → Int64} {R : Nat → Nat → Option Nat} {tl : am_H} (k l : Int32) : fm_34 (.ref 152) k l (fx V I L R ++ tl) = some (.inl (none, fx (vup (vup (vup (vup V 152 1 (.int k)) 152 2 (.int l)) 152 3 (.int 0)) 152 4 (.int (if k = 2 then 5 else 2))) I L R ++ tl)) := by
  unfold fm_34 fg_34_0
  refine ev_b (a := fx (vup V 152 1 (.int k)) I L R ++ tl) (ev_p rfl rfl rfl rfl) ?_
  refine ev_b (a := fx (vup (vup V 152 1 (.int k)) 152 2 (.int l)) I L R ++ tl) (ev_p rfl rfl rfl rfl) ?_
  refine ev_b (a := fx (vup (vup (vup V 152 1 (.int k)) 152 2 (.int l)) 152 3 (.int 0)) I L R ++ tl) (ev_p rfl rfl rfl rfl) ?_
  by_cases c : k = 2
  · rw [if_pos c]
    refine ev_f (fun e => e c) ?_
    unfold fg_34_26
    exact ev_b (ev_p rfl rfl rfl rfl) rfl
  · rw [if_neg c]
    refine ev_t c ?_
    unfold fg_34_26
    exact ev_b (ev_p rfl rfl rfl rfl) rfl
set_option maxRecDepth 100000 in
set_option maxHeartbeats 4000000 in
theorem p41_152 {V : Nat → Nat → Value} {I : Nat → Nat → Int32} {L : Nat → Nat → Int64} {R : Nat → Nat → Option Nat} {tl : am_H} {N s : Nat} (hN : 1 ≤ N) (h3 : V 152 3 = .int (nI s)) (h4 : V 152 4 = .int 2) (hs : 2 * s + 2 ≤ 120) (a b : Int32) : fm_41 N (.ref 152) a b (fx V I L R ++ tl) = some (.inl (some (.int 1), fx (vup V 152 3 (.int (nI (s + 1)))) (iup I 153 (upd (upd (I 153) (2 * s) a) (2 * s + 1) b)) L R ++ tl)) := by
  obtain ⟨N, rfl⟩ : ∃ k, N = k + 1 := ⟨N - 1, by omega⟩
  have g3 : ∀ {I : Nat → Nat → Int32}, am_vI (am_pG 771 (.ref 152) (fx V I L R ++ tl)) = some (nI s) := fun {I} => by show am_vI (some (V 152 3)) = _; rw [h3]; rfl
  have g4 : ∀ {I : Nat → Nat → Int32}, am_vI (am_pG 772 (.ref 152) (fx V I L R ++ tl)) = some 2 := fun {I} => by show am_vI (some (V 152 4)) = _; rw [h4]; rfl
  unfold fm_41 fg_41_0
  refine ev_b g3 ?_
  refine ev_b g4 ?_
  refine ev_b g4 ?_
  refine ev_b (a := .ref 153) rfl ?_
  refine ev_b (a := nI 120) rfl ?_
  rw [show nI s * 2 = nI (2 * s) by rw [Nat.mul_comm, nI_mul]; rfl]
  refine ev_t (by rw [show (2 : Int32) = nI 2 from rfl, nI_add]; exact nI_le hs (by omega)) ?_
  rw [fg_41_29]
  refine ev_b g4 ?_
  refine ev_t (by decide) ?_
  refine ev_b (a := .ref 153) rfl ?_
  refine ev_b (ev_s (f := I 153) (n := 120) (h1 := fx V (iup I 153 (upd (I 153) (2 * s) a)) L R ++ tl) rfl (am_inb_n (by omega) (by omega)) rfl (by rw [nI_clamp (by omega)]; rfl)) ?_
  refine ev_b (a := .ref 153) rfl ?_
  rw [nI_1]
  refine ev_b (ev_s (f := upd (I 153) (2 * s) a) (n := 120) (h1 := fx V (iup I 153 (upd (upd (I 153) (2 * s) a) (2 * s + 1) b)) L R ++ tl) rfl (am_inb_n (by omega) (by omega)) rfl (by rw [nI_clamp (by omega)]; rfl)) ?_
  refine ev_b g3 ?_
  rw [nI_1]
  exact ev_b (ev_p rfl rfl rfl rfl) rfl
set_option maxRecDepth 100000 in
set_option maxHeartbeats 1600000 in
/-- take(): items of a program, onto the spare one -/
theorem p170_152 {V : Nat → Nat → Value} {I : Nat → Nat → Int32} {L : Nat → Nat → Int64} {R : Nat → Nat → Option Nat} {tl : am_H} {A it m i j cnt wd sz : Nat} {kd ln x1 x2 x3 x4 x5 : Int32} {x6 : Int64} {f : Nat → Int32} (p1 : (fx V I L R ++ tl)[A]? = some (.inr (3, [.ref it, .int kd, .int ln, .int (nI sz), .int (nI wd), .int x1, .int x2, .int x3, .int x4, .int x5, .long x6]))) (p2 : (fx V I L R ++ tl)[it]? = some (.inl (0, m, .inl f))) (h3 : V 152 3 = .int (nI cnt)) (h4 : V 152 4 = .int (nI wd)) (hij : i ≤ j) (hj : j ≤ sz) (hsz : sz ≤ 60) (hw : wd ≤ 5) (hm : sz * wd ≤ m) (hm2 : m ≤ 1000) (hc : (cnt + (j - i)) * wd ≤ 120) (hcn : cnt ≤ 120) : fm_170 (.ref 152) (.ref A) (nI i) (nI j) (fx V I L R ++ tl) = some (.inl (some (.int 1), fx (vup V 152 3 (.int (nI (cnt + (j - i))))) (iup I 153 (va_cpy f (I 153) (i * wd) (cnt * wd) ((j - i) * wd))) L R ++ tl)) := by
  have hq : (fx V I L R ++ tl)[152]? = some (.inr (3, [.ref 153, V 152 1, V 152 2, V 152 3, V 152 4, V 152 5, V 152 6, V 152 7, V 152 8, V 152 9, V 152 10])) := rfl
  have g3 : am_vI (am_pG 771 (.ref 152) (fx V I L R ++ tl)) = some (nI cnt) := ev_gI hq rfl (by show some (V 152 3) = _; rw [h3])
  have g4 : am_vI (am_pG 772 (.ref 152) (fx V I L R ++ tl)) = some (nI wd) := ev_gI hq rfl (by show some (V 152 4) = _; rw [h4])
  have a1 : i * wd + (j - i) * wd = j * wd := by rw [← Nat.add_mul, show i + (j - i) = j by omega]
  have a2 : cnt * wd + (j - i) * wd = (cnt + (j - i)) * wd := (Nat.add_mul ..).symm
  have a3 : j * wd ≤ sz * wd := Nat.mul_le_mul_right _ hj
  unfold fm_170 fg_170_0
  refine ev_b (ev_gI p1 rfl rfl) (ev_b g4 (ev_f (fun e => e rfl) (ev_f (nI_pos (by omega)) ?_)))
  rw [nI_sub hij]
  refine ev_f (nI_pos (by omega)) (ev_b (ev_gI p1 rfl rfl) (ev_f (nI_nlt hj (by omega)) (ev_b g3 (ev_b g4 (ev_b (a := Value.ref 153) rfl (ev_b (a := nI 120) rfl ?_))))))
  rw [nI_add, ← nI_mul]
  refine ev_t (nI_le (b := 120) hc (by omega)) (ev_b (ev_gR p1 rfl rfl rfl) (ev_b g4 (ev_b (a := Value.ref 153) rfl (ev_b g3 (ev_b g4 (ev_b g4 ?_))))))
  rw [← nI_mul, ← nI_mul, ← nI_mul]
  refine ev_b (ev_cpy (f := f) (g := I 153) (n0 := m) (n1 := 120) (sp := i * wd) (dp := cnt * wd) (n := (j - i) * wd) (h1 := fx V (iup I 153 (va_cpy f (I 153) (i * wd) (cnt * wd) ((j - i) * wd))) L R ++ tl) p2 rfl (by omega) (by omega) (by omega) (by omega) rfl) ?_
  refine ev_b (a := nI cnt) (ev_gI (fs := [.ref 153, V 152 1, V 152 2, V 152 3, V 152 4, V 152 5, V 152 6, V 152 7, V 152 8, V 152 9, V 152 10]) (c := 3) rfl rfl (by show some (V 152 3) = _; rw [h3])) ?_
  rw [nI_add]
  exact ev_b qp_152_3 rfl
theorem prF_152 {V : Nat → Nat → Value} {I : Nat → Nat → Int32} {L : Nat → Nat → Int64} {R : Nat → Nat → Option Nat} {tl : am_H} {kd ln sz : Nat} (w : wt V) (h1 : V 152 1 = .int (nI kd)) (h2 : V 152 2 = .int (nI ln)) (h3 : V 152 3 = .int (nI sz)) (h4 : V 152 4 = .int (nI (wdN kd))) : prA V I tl 152 153 kd ln sz 120 (I 153) := by
  intro W J L R hw hj
  obtain ⟨x5, e5⟩ := w.1 152 5 (by decide)
  obtain ⟨x6, e6⟩ := w.1 152 6 (by decide)
  obtain ⟨x7, e7⟩ := w.1 152 7 (by decide)
  obtain ⟨x8, e8⟩ := w.1 152 8 (by decide)
  obtain ⟨x9, e9⟩ := w.1 152 9 (by decide)
  obtain ⟨x10, e10⟩ := w.2 152 10 (by decide)
  refine ⟨x5, x6, x7, x8, x9, x10, ?_, ?_⟩
  · show some (Sum.inr (3, [.ref 153, W 152 1, W 152 2, W 152 3, W 152 4, W 152 5, W 152 6, W 152 7, W 152 8, W 152 9, W 152 10])) = _
    rw [hw, hw, hw, hw, hw, hw, hw, hw, hw, hw, h1, h2, h3, h4, e5, e6, e7, e8, e9, e10]
  · show some (Sum.inl (0, 120, Sum.inl (J 153))) = _
    rw [hj]
set_option maxRecDepth 100000 in
set_option maxHeartbeats 4000000 in
theorem p60_152 {V : Nat → Nat → Value} {I : Nat → Nat → Int32} {L : Nat → Nat → Int64} {R : Nat → Nat → Option Nat} {tl : am_H} {A it kd ln sz m : Nat} {f : Nat → Int32} (hp : prA V I tl A it kd ln sz m f) (hA : A ≠ 152) (hk : kd ≤ 3) (hm : sz * wdN kd ≤ m) (hm2 : m ≤ 1000) (hs : sz * wdN kd ≤ 120) (hz : sz ≤ 120) : fm_60 (.ref 152) (.ref A) (fx V I L R ++ tl) = some (.inl (none, fx (vup (vup (vup (vup (vup V 152 1 (.int (nI kd))) 152 2 (.int (nI ln))) 152 3 (.int 0)) 152 4 (.int (if nI kd = 2 then 5 else 2))) 152 3 (.int (nI sz))) (iup I 153 (va_cpy f (I 153) 0 0 (sz * wdN kd))) L R ++ tl)) := by
  obtain ⟨x1, x2, x3, x4, x5, x6, p1, p2⟩ := hp V I L R (fun _ => rfl) rfl
  have ew : (if nI kd = 2 then (5 : Int32) else 2) = nI (wdN kd) := by
    unfold wdN
    by_cases c : kd = 2
    · rw [if_pos c, if_pos (show nI kd = 2 by rw [c]; rfl)]
      rfl
    · rw [if_neg c, if_neg (show ¬ nI kd = 2 from fun e => c ((nI_eq (b := 2) (by omega) (by omega)).mp e))]
      rfl
  have ne : ∀ {X : Value} {j : Nat} {W : Nat → Nat → Value} (i : Nat), vup W 152 j X A i = W A i := fun i => vup_o (fun e => hA e.1)
  obtain ⟨y1, y2, y3, y4, y5, y6, q1, q2⟩ := hp (vup (vup (vup (vup V 152 1 (.int (nI kd))) 152 2 (.int (nI ln))) 152 3 (.int 0)) 152 4 (.int (if nI kd = 2 then 5 else 2))) I L R (fun i => by rw [ne, ne, ne, ne]) rfl
  obtain ⟨z1, z2, z3, z4, z5, z6, r1, r2⟩ := hp (vup (vup (vup (vup (vup V 152 1 (.int (nI kd))) 152 2 (.int (nI ln))) 152 3 (.int 0)) 152 4 (.int (if nI kd = 2 then 5 else 2))) 152 3 (.int (nI sz))) I L R (fun i => by rw [ne, ne, ne, ne, ne]) rfl
  unfold fm_60 fg_60_0
  refine ev_b (ev_gI p1 rfl rfl) (ev_b (ev_gI p1 rfl rfl) (ev_i rfl (ev_cV (p34_152 (nI kd) (nI ln)) ?_)))
  refine ev_b (ev_gI q1 rfl rfl) (ev_b (a := if nI kd = 2 then 5 else 2) rfl (ev_b (a := Value.ref 153) rfl (ev_b (a := nI 120) rfl ?_)))
  rw [show nI sz * (if nI kd = 2 then (5 : Int32) else 2) = nI (sz * wdN kd) by rw [ew, nI_mul]]
  refine ev_f (nI_nlt (a := 120) hs (by omega)) (ev_b (ev_gI q1 rfl rfl) (ev_b qp_152_3 (ev_b (ev_gR r1 rfl rfl rfl) (ev_b (a := Value.ref 153) rfl (ev_b (a := nI sz) rfl (ev_b (a := if nI kd = 2 then 5 else 2) rfl ?_))))))
  rw [show nI sz * (if nI kd = 2 then (5 : Int32) else 2) = nI (sz * wdN kd) by rw [ew, nI_mul]]
  refine ev_b (ev_cpy (f := f) (g := I 153) (n0 := m) (n1 := 120) (sp := 0) (dp := 0) (n := sz * wdN kd) r2 rfl (by omega) (by omega) (by omega) (by omega) rfl) rfl
theorem srcP_152 {V : Nat → Nat → Value} {I : Nat → Nat → Int32} {L : Nat → Nat → Int64} {R : Nat → Nat → Option Nat} {tl : am_H} {kd ln : Nat} {P : xT} (w : wt V) (h : hold V I 152 kd ln P) (hk : kd ≤ 3) (h2 : kd ≠ 2) (hl : P.length ≤ 60) : srcP V I tl 152 153 kd ln P := ⟨120, I 153, prF_152 (L := fun _ _ => 0) (R := fun _ _ => none) w h.1 h.2.1 h.2.2.1 (by rw [wd2 h2]; exact h.2.2.2.1), h.2.2.2.2, by omega, by omega, hk, h2, hl⟩
theorem s34_152 {V : Nat → Nat → Value} {I : Nat → Nat → Int32} {L : Nat → Nat → Int64} {R : Nat → Nat → Option Nat} {tl : am_H} {kd ln : Nat} (k l : Int32) (hk : k = nI kd) (hl : l = nI ln) (h3 : kd ≤ 3) (h2 : kd ≠ 2) : ∃ W J, fm_34 (.ref 152) k l (fx V I L R ++ tl) = some (.inl (none, fx W J L R ++ tl)) ∧ hold W J 152 kd ln [] ∧ fr1 152 V W I J := by
  refine ⟨_, _, p34_152 k l, ⟨by subst hk; rfl, by subst hl; rfl, rfl, congrArg Value.int (nI_w h2 h3 hk), tO_nil⟩, ?_⟩
  exact fr1_t (fr1_v (by decide)) (fr1_t (fr1_v (by decide)) (fr1_t (fr1_v (by decide)) (fr1_v (by decide))))
theorem s41_152 {V : Nat → Nat → Value} {I : Nat → Nat → Int32} {L : Nat → Nat → Int64} {R : Nat → Nat → Option Nat} {tl : am_H} {N kd ln a : Nat} {Q : xT} {b : Int32} (hN : 1 ≤ N) (h : hold V I 152 kd ln Q) (hl : Q.length < 60) (x : Int32) (hx : x = nI a) : ∃ W J, fm_41 N (.ref 152) x b (fx V I L R ++ tl) = some (.inl (some (.int 1), fx W J L R ++ tl)) ∧ hold W J 152 kd ln (Q ++ [(a, b)]) ∧ fr1 152 V W I J := by
  subst hx
  refine ⟨_, _, p41_152 hN h.2.2.1 h.2.2.2.1 (by omega) (nI a) b, ⟨h.1, h.2.1, ?_, h.2.2.2.1, tO_app h.2.2.2.2⟩, fr1_t (fr1_v (by decide)) fr1_i⟩
  rw [List.length_append]
  rfl
theorem s170_152 {V : Nat → Nat → Value} {I : Nat → Nat → Int32} {L : Nat → Nat → Int64} {R : Nat → Nat → Option Nat} {tl : am_H} {A it kd ln kd' ln' i j : Nat} {Q P : xT} (hs : srcP V I tl A it kd' ln' P) (h : hold V I 152 kd ln Q) (hij : i ≤ j) (hj : j ≤ P.length) (hq : Q.length + (j - i) ≤ 60) (x y : Int32) (hx : x = nI i) (hy : y = nI j) : ∃ W J, fm_170 (.ref 152) (.ref A) x y (fx V I L R ++ tl) = some (.inl (some (.int 1), fx W J L R ++ tl)) ∧ hold W J 152 kd ln (Q ++ seg P i j) ∧ fr1 152 V W I J := by
  subst hx
  subst hy
  obtain ⟨m, f, hp, hf, m1, m2, k3, k2, l60⟩ := hs
  obtain ⟨x1, x2, x3, x4, x5, x6, p1, p2⟩ := hp V I L R (fun _ => rfl) rfl
  refine ⟨_, _, p170_152 (wd := 2) (by rw [wd2 k2] at p1; exact p1) p2 h.2.2.1 h.2.2.2.1 hij hj l60 (by omega) m1 m2 (by omega) (by omega), ⟨h.1, h.2.1, ?_, h.2.2.2.1, tO_take h.2.2.2.2 hf hij hj⟩, fr1_t (fr1_v (by decide)) fr1_i⟩
  rw [List.length_append, seg_len hj]
  rfl
theorem s60_152 {V : Nat → Nat → Value} {I : Nat → Nat → Int32} {L : Nat → Nat → Int64} {R : Nat → Nat → Option Nat} {tl : am_H} {A it kd ln : Nat} {P : xT} (hs : srcP V I tl A it kd ln P) (hA : A ≠ 152) : ∃ W J, fm_60 (.ref 152) (.ref A) (fx V I L R ++ tl) = some (.inl (none, fx W J L R ++ tl)) ∧ hold W J 152 kd ln P ∧ fr1 152 V W I J := by
  obtain ⟨m, f, hp, hf, m1, m2, k3, k2, l60⟩ := hs
  have hw := wd2 k2
  refine ⟨_, _, p60_152 hp hA k3 (by rw [hw]; exact m1) m2 (by rw [hw]; omega) (by omega), ⟨rfl, rfl, rfl, congrArg Value.int (nI_w k2 k3 rfl), ?_⟩, ?_⟩
  · rw [hw]
    exact tO_cpy hf
  · exact fr1_t (fr1_v (by decide)) (fr1_t (fr1_v (by decide)) (fr1_t (fr1_v (by decide)) (fr1_t (fr1_v (by decide)) (fr1_t (fr1_v (by decide)) fr1_i))))
set_option maxRecDepth 100000 in
set_option maxHeartbeats 4000000 in
theorem p34_154 {V : Nat → Nat → Value} {I : Nat → Nat → Int32} {L : Nat → Nat → Int64} {R : Nat → Nat → Option Nat} {tl : am_H} (k l : Int32) : fm_34 (.ref 154) k l (fx V I L R ++ tl) = some (.inl (none, fx (vup (vup (vup (vup V 154 1 (.int k)) 154 2 (.int l)) 154 3 (.int 0)) 154 4 (.int (if k = 2 then 5 else 2))) I L R ++ tl)) := by
  unfold fm_34 fg_34_0
  refine ev_b (a := fx (vup V 154 1 (.int k)) I L R ++ tl) (ev_p rfl rfl rfl rfl) ?_
  refine ev_b (a := fx (vup (vup V 154 1 (.int k)) 154 2 (.int l)) I L R ++ tl) (ev_p rfl rfl rfl rfl) ?_
  refine ev_b (a := fx (vup (vup (vup V 154 1 (.int k)) 154 2 (.int l)) 154 3 (.int 0)) I L R ++ tl) (ev_p rfl rfl rfl rfl) ?_
  by_cases c : k = 2
  · rw [if_pos c]
    refine ev_f (fun e => e c) ?_
    unfold fg_34_26
    exact ev_b (ev_p rfl rfl rfl rfl) rfl
  · rw [if_neg c]
    refine ev_t c ?_
    unfold fg_34_26
    exact ev_b (ev_p rfl rfl rfl rfl) rfl
set_option maxRecDepth 100000 in
set_option maxHeartbeats 4000000 in
theorem p41_154 {V : Nat → Nat → Value} {I : Nat → Nat → Int32} {L : Nat → Nat → Int64} {R : Nat → Nat → Option Nat} {tl : am_H} {N s : Nat} (hN : 1 ≤ N) (h3 : V 154 3 = .int (nI s)) (h4 : V 154 4 = .int 2) (hs : 2 * s + 2 ≤ 120) (a b : Int32) : fm_41 N (.ref 154) a b (fx V I L R ++ tl) = some (.inl (some (.int 1), fx (vup V 154 3 (.int (nI (s + 1)))) (iup I 155 (upd (upd (I 155) (2 * s) a) (2 * s + 1) b)) L R ++ tl)) := by
  obtain ⟨N, rfl⟩ : ∃ k, N = k + 1 := ⟨N - 1, by omega⟩
  have g3 : ∀ {I : Nat → Nat → Int32}, am_vI (am_pG 771 (.ref 154) (fx V I L R ++ tl)) = some (nI s) := fun {I} => by show am_vI (some (V 154 3)) = _; rw [h3]; rfl
  have g4 : ∀ {I : Nat → Nat → Int32}, am_vI (am_pG 772 (.ref 154) (fx V I L R ++ tl)) = some 2 := fun {I} => by show am_vI (some (V 154 4)) = _; rw [h4]; rfl
  unfold fm_41 fg_41_0
  refine ev_b g3 ?_
  refine ev_b g4 ?_
  refine ev_b g4 ?_
  refine ev_b (a := .ref 155) rfl ?_
  refine ev_b (a := nI 120) rfl ?_
  rw [show nI s * 2 = nI (2 * s) by rw [Nat.mul_comm, nI_mul]; rfl]
  refine ev_t (by rw [show (2 : Int32) = nI 2 from rfl, nI_add]; exact nI_le hs (by omega)) ?_
  rw [fg_41_29]
  refine ev_b g4 ?_
  refine ev_t (by decide) ?_
  refine ev_b (a := .ref 155) rfl ?_
  refine ev_b (ev_s (f := I 155) (n := 120) (h1 := fx V (iup I 155 (upd (I 155) (2 * s) a)) L R ++ tl) rfl (am_inb_n (by omega) (by omega)) rfl (by rw [nI_clamp (by omega)]; rfl)) ?_
  refine ev_b (a := .ref 155) rfl ?_
  rw [nI_1]
  refine ev_b (ev_s (f := upd (I 155) (2 * s) a) (n := 120) (h1 := fx V (iup I 155 (upd (upd (I 155) (2 * s) a) (2 * s + 1) b)) L R ++ tl) rfl (am_inb_n (by omega) (by omega)) rfl (by rw [nI_clamp (by omega)]; rfl)) ?_
  refine ev_b g3 ?_
  rw [nI_1]
  exact ev_b (ev_p rfl rfl rfl rfl) rfl
set_option maxRecDepth 100000 in
set_option maxHeartbeats 1600000 in
/-- take(): items of a program, onto the spare one -/
theorem p170_154 {V : Nat → Nat → Value} {I : Nat → Nat → Int32} {L : Nat → Nat → Int64} {R : Nat → Nat → Option Nat} {tl : am_H} {A it m i j cnt wd sz : Nat} {kd ln x1 x2 x3 x4 x5 : Int32} {x6 : Int64} {f : Nat → Int32} (p1 : (fx V I L R ++ tl)[A]? = some (.inr (3, [.ref it, .int kd, .int ln, .int (nI sz), .int (nI wd), .int x1, .int x2, .int x3, .int x4, .int x5, .long x6]))) (p2 : (fx V I L R ++ tl)[it]? = some (.inl (0, m, .inl f))) (h3 : V 154 3 = .int (nI cnt)) (h4 : V 154 4 = .int (nI wd)) (hij : i ≤ j) (hj : j ≤ sz) (hsz : sz ≤ 60) (hw : wd ≤ 5) (hm : sz * wd ≤ m) (hm2 : m ≤ 1000) (hc : (cnt + (j - i)) * wd ≤ 120) (hcn : cnt ≤ 120) : fm_170 (.ref 154) (.ref A) (nI i) (nI j) (fx V I L R ++ tl) = some (.inl (some (.int 1), fx (vup V 154 3 (.int (nI (cnt + (j - i))))) (iup I 155 (va_cpy f (I 155) (i * wd) (cnt * wd) ((j - i) * wd))) L R ++ tl)) := by
  have hq : (fx V I L R ++ tl)[154]? = some (.inr (3, [.ref 155, V 154 1, V 154 2, V 154 3, V 154 4, V 154 5, V 154 6, V 154 7, V 154 8, V 154 9, V 154 10])) := rfl
  have g3 : am_vI (am_pG 771 (.ref 154) (fx V I L R ++ tl)) = some (nI cnt) := ev_gI hq rfl (by show some (V 154 3) = _; rw [h3])
  have g4 : am_vI (am_pG 772 (.ref 154) (fx V I L R ++ tl)) = some (nI wd) := ev_gI hq rfl (by show some (V 154 4) = _; rw [h4])
  have a1 : i * wd + (j - i) * wd = j * wd := by rw [← Nat.add_mul, show i + (j - i) = j by omega]
  have a2 : cnt * wd + (j - i) * wd = (cnt + (j - i)) * wd := (Nat.add_mul ..).symm
  have a3 : j * wd ≤ sz * wd := Nat.mul_le_mul_right _ hj
  unfold fm_170 fg_170_0
  refine ev_b (ev_gI p1 rfl rfl) (ev_b g4 (ev_f (fun e => e rfl) (ev_f (nI_pos (by omega)) ?_)))
  rw [nI_sub hij]
  refine ev_f (nI_pos (by omega)) (ev_b (ev_gI p1 rfl rfl) (ev_f (nI_nlt hj (by omega)) (ev_b g3 (ev_b g4 (ev_b (a := Value.ref 155) rfl (ev_b (a := nI 120) rfl ?_))))))
  rw [nI_add, ← nI_mul]
  refine ev_t (nI_le (b := 120) hc (by omega)) (ev_b (ev_gR p1 rfl rfl rfl) (ev_b g4 (ev_b (a := Value.ref 155) rfl (ev_b g3 (ev_b g4 (ev_b g4 ?_))))))
  rw [← nI_mul, ← nI_mul, ← nI_mul]
  refine ev_b (ev_cpy (f := f) (g := I 155) (n0 := m) (n1 := 120) (sp := i * wd) (dp := cnt * wd) (n := (j - i) * wd) (h1 := fx V (iup I 155 (va_cpy f (I 155) (i * wd) (cnt * wd) ((j - i) * wd))) L R ++ tl) p2 rfl (by omega) (by omega) (by omega) (by omega) rfl) ?_
  refine ev_b (a := nI cnt) (ev_gI (fs := [.ref 155, V 154 1, V 154 2, V 154 3, V 154 4, V 154 5, V 154 6, V 154 7, V 154 8, V 154 9, V 154 10]) (c := 3) rfl rfl (by show some (V 154 3) = _; rw [h3])) ?_
  rw [nI_add]
  exact ev_b qp_154_3 rfl
theorem prF_154 {V : Nat → Nat → Value} {I : Nat → Nat → Int32} {L : Nat → Nat → Int64} {R : Nat → Nat → Option Nat} {tl : am_H} {kd ln sz : Nat} (w : wt V) (h1 : V 154 1 = .int (nI kd)) (h2 : V 154 2 = .int (nI ln)) (h3 : V 154 3 = .int (nI sz)) (h4 : V 154 4 = .int (nI (wdN kd))) : prA V I tl 154 155 kd ln sz 120 (I 155) := by
  intro W J L R hw hj
  obtain ⟨x5, e5⟩ := w.1 154 5 (by decide)
  obtain ⟨x6, e6⟩ := w.1 154 6 (by decide)
  obtain ⟨x7, e7⟩ := w.1 154 7 (by decide)
  obtain ⟨x8, e8⟩ := w.1 154 8 (by decide)
  obtain ⟨x9, e9⟩ := w.1 154 9 (by decide)
  obtain ⟨x10, e10⟩ := w.2 154 10 (by decide)
  refine ⟨x5, x6, x7, x8, x9, x10, ?_, ?_⟩
  · show some (Sum.inr (3, [.ref 155, W 154 1, W 154 2, W 154 3, W 154 4, W 154 5, W 154 6, W 154 7, W 154 8, W 154 9, W 154 10])) = _
    rw [hw, hw, hw, hw, hw, hw, hw, hw, hw, hw, h1, h2, h3, h4, e5, e6, e7, e8, e9, e10]
  · show some (Sum.inl (0, 120, Sum.inl (J 155))) = _
    rw [hj]
set_option maxRecDepth 100000 in
set_option maxHeartbeats 4000000 in
theorem p60_154 {V : Nat → Nat → Value} {I : Nat → Nat → Int32} {L : Nat → Nat → Int64} {R : Nat → Nat → Option Nat} {tl : am_H} {A it kd ln sz m : Nat} {f : Nat → Int32} (hp : prA V I tl A it kd ln sz m f) (hA : A ≠ 154) (hk : kd ≤ 3) (hm : sz * wdN kd ≤ m) (hm2 : m ≤ 1000) (hs : sz * wdN kd ≤ 120) (hz : sz ≤ 120) : fm_60 (.ref 154) (.ref A) (fx V I L R ++ tl) = some (.inl (none, fx (vup (vup (vup (vup (vup V 154 1 (.int (nI kd))) 154 2 (.int (nI ln))) 154 3 (.int 0)) 154 4 (.int (if nI kd = 2 then 5 else 2))) 154 3 (.int (nI sz))) (iup I 155 (va_cpy f (I 155) 0 0 (sz * wdN kd))) L R ++ tl)) := by
  obtain ⟨x1, x2, x3, x4, x5, x6, p1, p2⟩ := hp V I L R (fun _ => rfl) rfl
  have ew : (if nI kd = 2 then (5 : Int32) else 2) = nI (wdN kd) := by
    unfold wdN
    by_cases c : kd = 2
    · rw [if_pos c, if_pos (show nI kd = 2 by rw [c]; rfl)]
      rfl
    · rw [if_neg c, if_neg (show ¬ nI kd = 2 from fun e => c ((nI_eq (b := 2) (by omega) (by omega)).mp e))]
      rfl
  have ne : ∀ {X : Value} {j : Nat} {W : Nat → Nat → Value} (i : Nat), vup W 154 j X A i = W A i := fun i => vup_o (fun e => hA e.1)
  obtain ⟨y1, y2, y3, y4, y5, y6, q1, q2⟩ := hp (vup (vup (vup (vup V 154 1 (.int (nI kd))) 154 2 (.int (nI ln))) 154 3 (.int 0)) 154 4 (.int (if nI kd = 2 then 5 else 2))) I L R (fun i => by rw [ne, ne, ne, ne]) rfl
  obtain ⟨z1, z2, z3, z4, z5, z6, r1, r2⟩ := hp (vup (vup (vup (vup (vup V 154 1 (.int (nI kd))) 154 2 (.int (nI ln))) 154 3 (.int 0)) 154 4 (.int (if nI kd = 2 then 5 else 2))) 154 3 (.int (nI sz))) I L R (fun i => by rw [ne, ne, ne, ne, ne]) rfl
  unfold fm_60 fg_60_0
  refine ev_b (ev_gI p1 rfl rfl) (ev_b (ev_gI p1 rfl rfl) (ev_i rfl (ev_cV (p34_154 (nI kd) (nI ln)) ?_)))
  refine ev_b (ev_gI q1 rfl rfl) (ev_b (a := if nI kd = 2 then 5 else 2) rfl (ev_b (a := Value.ref 155) rfl (ev_b (a := nI 120) rfl ?_)))
  rw [show nI sz * (if nI kd = 2 then (5 : Int32) else 2) = nI (sz * wdN kd) by rw [ew, nI_mul]]
  refine ev_f (nI_nlt (a := 120) hs (by omega)) (ev_b (ev_gI q1 rfl rfl) (ev_b qp_154_3 (ev_b (ev_gR r1 rfl rfl rfl) (ev_b (a := Value.ref 155) rfl (ev_b (a := nI sz) rfl (ev_b (a := if nI kd = 2 then 5 else 2) rfl ?_))))))
  rw [show nI sz * (if nI kd = 2 then (5 : Int32) else 2) = nI (sz * wdN kd) by rw [ew, nI_mul]]
  refine ev_b (ev_cpy (f := f) (g := I 155) (n0 := m) (n1 := 120) (sp := 0) (dp := 0) (n := sz * wdN kd) r2 rfl (by omega) (by omega) (by omega) (by omega) rfl) rfl
theorem srcP_154 {V : Nat → Nat → Value} {I : Nat → Nat → Int32} {L : Nat → Nat → Int64} {R : Nat → Nat → Option Nat} {tl : am_H} {kd ln : Nat} {P : xT} (w : wt V) (h : hold V I 154 kd ln P) (hk : kd ≤ 3) (h2 : kd ≠ 2) (hl : P.length ≤ 60) : srcP V I tl 154 155 kd ln P := ⟨120, I 155, prF_154 (L := fun _ _ => 0) (R := fun _ _ => none) w h.1 h.2.1 h.2.2.1 (by rw [wd2 h2]; exact h.2.2.2.1), h.2.2.2.2, by omega, by omega, hk, h2, hl⟩
theorem s34_154 {V : Nat → Nat → Value} {I : Nat → Nat → Int32} {L : Nat → Nat → Int64} {R : Nat → Nat → Option Nat} {tl : am_H} {kd ln : Nat} (k l : Int32) (hk : k = nI kd) (hl : l = nI ln) (h3 : kd ≤ 3) (h2 : kd ≠ 2) : ∃ W J, fm_34 (.ref 154) k l (fx V I L R ++ tl) = some (.inl (none, fx W J L R ++ tl)) ∧ hold W J 154 kd ln [] ∧ fr1 154 V W I J := by
  refine ⟨_, _, p34_154 k l, ⟨by subst hk; rfl, by subst hl; rfl, rfl, congrArg Value.int (nI_w h2 h3 hk), tO_nil⟩, ?_⟩
  exact fr1_t (fr1_v (by decide)) (fr1_t (fr1_v (by decide)) (fr1_t (fr1_v (by decide)) (fr1_v (by decide))))
theorem s41_154 {V : Nat → Nat → Value} {I : Nat → Nat → Int32} {L : Nat → Nat → Int64} {R : Nat → Nat → Option Nat} {tl : am_H} {N kd ln a : Nat} {Q : xT} {b : Int32} (hN : 1 ≤ N) (h : hold V I 154 kd ln Q) (hl : Q.length < 60) (x : Int32) (hx : x = nI a) : ∃ W J, fm_41 N (.ref 154) x b (fx V I L R ++ tl) = some (.inl (some (.int 1), fx W J L R ++ tl)) ∧ hold W J 154 kd ln (Q ++ [(a, b)]) ∧ fr1 154 V W I J := by
  subst hx
  refine ⟨_, _, p41_154 hN h.2.2.1 h.2.2.2.1 (by omega) (nI a) b, ⟨h.1, h.2.1, ?_, h.2.2.2.1, tO_app h.2.2.2.2⟩, fr1_t (fr1_v (by decide)) fr1_i⟩
  rw [List.length_append]
  rfl
theorem s170_154 {V : Nat → Nat → Value} {I : Nat → Nat → Int32} {L : Nat → Nat → Int64} {R : Nat → Nat → Option Nat} {tl : am_H} {A it kd ln kd' ln' i j : Nat} {Q P : xT} (hs : srcP V I tl A it kd' ln' P) (h : hold V I 154 kd ln Q) (hij : i ≤ j) (hj : j ≤ P.length) (hq : Q.length + (j - i) ≤ 60) (x y : Int32) (hx : x = nI i) (hy : y = nI j) : ∃ W J, fm_170 (.ref 154) (.ref A) x y (fx V I L R ++ tl) = some (.inl (some (.int 1), fx W J L R ++ tl)) ∧ hold W J 154 kd ln (Q ++ seg P i j) ∧ fr1 154 V W I J := by
  subst hx
  subst hy
  obtain ⟨m, f, hp, hf, m1, m2, k3, k2, l60⟩ := hs
  obtain ⟨x1, x2, x3, x4, x5, x6, p1, p2⟩ := hp V I L R (fun _ => rfl) rfl
  refine ⟨_, _, p170_154 (wd := 2) (by rw [wd2 k2] at p1; exact p1) p2 h.2.2.1 h.2.2.2.1 hij hj l60 (by omega) m1 m2 (by omega) (by omega), ⟨h.1, h.2.1, ?_, h.2.2.2.1, tO_take h.2.2.2.2 hf hij hj⟩, fr1_t (fr1_v (by decide)) fr1_i⟩
  rw [List.length_append, seg_len hj]
  rfl
theorem s60_154 {V : Nat → Nat → Value} {I : Nat → Nat → Int32} {L : Nat → Nat → Int64} {R : Nat → Nat → Option Nat} {tl : am_H} {A it kd ln : Nat} {P : xT} (hs : srcP V I tl A it kd ln P) (hA : A ≠ 154) : ∃ W J, fm_60 (.ref 154) (.ref A) (fx V I L R ++ tl) = some (.inl (none, fx W J L R ++ tl)) ∧ hold W J 154 kd ln P ∧ fr1 154 V W I J := by
  obtain ⟨m, f, hp, hf, m1, m2, k3, k2, l60⟩ := hs
  have hw := wd2 k2
  refine ⟨_, _, p60_154 hp hA k3 (by rw [hw]; exact m1) m2 (by rw [hw]; omega) (by omega), ⟨rfl, rfl, rfl, congrArg Value.int (nI_w k2 k3 rfl), ?_⟩, ?_⟩
  · rw [hw]
    exact tO_cpy hf
  · exact fr1_t (fr1_v (by decide)) (fr1_t (fr1_v (by decide)) (fr1_t (fr1_v (by decide)) (fr1_t (fr1_v (by decide)) (fr1_t (fr1_v (by decide)) fr1_i))))
set_option maxRecDepth 100000 in
set_option maxHeartbeats 4000000 in
theorem p34_156 {V : Nat → Nat → Value} {I : Nat → Nat → Int32} {L : Nat → Nat → Int64} {R : Nat → Nat → Option Nat} {tl : am_H} (k l : Int32) : fm_34 (.ref 156) k l (fx V I L R ++ tl) = some (.inl (none, fx (vup (vup (vup (vup V 156 1 (.int k)) 156 2 (.int l)) 156 3 (.int 0)) 156 4 (.int (if k = 2 then 5 else 2))) I L R ++ tl)) := by
  unfold fm_34 fg_34_0
  refine ev_b (a := fx (vup V 156 1 (.int k)) I L R ++ tl) (ev_p rfl rfl rfl rfl) ?_
  refine ev_b (a := fx (vup (vup V 156 1 (.int k)) 156 2 (.int l)) I L R ++ tl) (ev_p rfl rfl rfl rfl) ?_
  refine ev_b (a := fx (vup (vup (vup V 156 1 (.int k)) 156 2 (.int l)) 156 3 (.int 0)) I L R ++ tl) (ev_p rfl rfl rfl rfl) ?_
  by_cases c : k = 2
  · rw [if_pos c]
    refine ev_f (fun e => e c) ?_
    unfold fg_34_26
    exact ev_b (ev_p rfl rfl rfl rfl) rfl
  · rw [if_neg c]
    refine ev_t c ?_
    unfold fg_34_26
    exact ev_b (ev_p rfl rfl rfl rfl) rfl
set_option maxRecDepth 100000 in
set_option maxHeartbeats 4000000 in
theorem p41_156 {V : Nat → Nat → Value} {I : Nat → Nat → Int32} {L : Nat → Nat → Int64} {R : Nat → Nat → Option Nat} {tl : am_H} {N s : Nat} (hN : 1 ≤ N) (h3 : V 156 3 = .int (nI s)) (h4 : V 156 4 = .int 2) (hs : 2 * s + 2 ≤ 120) (a b : Int32) : fm_41 N (.ref 156) a b (fx V I L R ++ tl) = some (.inl (some (.int 1), fx (vup V 156 3 (.int (nI (s + 1)))) (iup I 157 (upd (upd (I 157) (2 * s) a) (2 * s + 1) b)) L R ++ tl)) := by
  obtain ⟨N, rfl⟩ : ∃ k, N = k + 1 := ⟨N - 1, by omega⟩
  have g3 : ∀ {I : Nat → Nat → Int32}, am_vI (am_pG 771 (.ref 156) (fx V I L R ++ tl)) = some (nI s) := fun {I} => by show am_vI (some (V 156 3)) = _; rw [h3]; rfl
  have g4 : ∀ {I : Nat → Nat → Int32}, am_vI (am_pG 772 (.ref 156) (fx V I L R ++ tl)) = some 2 := fun {I} => by show am_vI (some (V 156 4)) = _; rw [h4]; rfl
  unfold fm_41 fg_41_0
  refine ev_b g3 ?_
  refine ev_b g4 ?_
  refine ev_b g4 ?_
  refine ev_b (a := .ref 157) rfl ?_
  refine ev_b (a := nI 120) rfl ?_
  rw [show nI s * 2 = nI (2 * s) by rw [Nat.mul_comm, nI_mul]; rfl]
  refine ev_t (by rw [show (2 : Int32) = nI 2 from rfl, nI_add]; exact nI_le hs (by omega)) ?_
  rw [fg_41_29]
  refine ev_b g4 ?_
  refine ev_t (by decide) ?_
  refine ev_b (a := .ref 157) rfl ?_
  refine ev_b (ev_s (f := I 157) (n := 120) (h1 := fx V (iup I 157 (upd (I 157) (2 * s) a)) L R ++ tl) rfl (am_inb_n (by omega) (by omega)) rfl (by rw [nI_clamp (by omega)]; rfl)) ?_
  refine ev_b (a := .ref 157) rfl ?_
  rw [nI_1]
  refine ev_b (ev_s (f := upd (I 157) (2 * s) a) (n := 120) (h1 := fx V (iup I 157 (upd (upd (I 157) (2 * s) a) (2 * s + 1) b)) L R ++ tl) rfl (am_inb_n (by omega) (by omega)) rfl (by rw [nI_clamp (by omega)]; rfl)) ?_
  refine ev_b g3 ?_
  rw [nI_1]
  exact ev_b (ev_p rfl rfl rfl rfl) rfl
set_option maxRecDepth 100000 in
set_option maxHeartbeats 1600000 in
/-- take(): items of a program, onto the spare one -/
theorem p170_156 {V : Nat → Nat → Value} {I : Nat → Nat → Int32} {L : Nat → Nat → Int64} {R : Nat → Nat → Option Nat} {tl : am_H} {A it m i j cnt wd sz : Nat} {kd ln x1 x2 x3 x4 x5 : Int32} {x6 : Int64} {f : Nat → Int32} (p1 : (fx V I L R ++ tl)[A]? = some (.inr (3, [.ref it, .int kd, .int ln, .int (nI sz), .int (nI wd), .int x1, .int x2, .int x3, .int x4, .int x5, .long x6]))) (p2 : (fx V I L R ++ tl)[it]? = some (.inl (0, m, .inl f))) (h3 : V 156 3 = .int (nI cnt)) (h4 : V 156 4 = .int (nI wd)) (hij : i ≤ j) (hj : j ≤ sz) (hsz : sz ≤ 60) (hw : wd ≤ 5) (hm : sz * wd ≤ m) (hm2 : m ≤ 1000) (hc : (cnt + (j - i)) * wd ≤ 120) (hcn : cnt ≤ 120) : fm_170 (.ref 156) (.ref A) (nI i) (nI j) (fx V I L R ++ tl) = some (.inl (some (.int 1), fx (vup V 156 3 (.int (nI (cnt + (j - i))))) (iup I 157 (va_cpy f (I 157) (i * wd) (cnt * wd) ((j - i) * wd))) L R ++ tl)) := by
  have hq : (fx V I L R ++ tl)[156]? = some (.inr (3, [.ref 157, V 156 1, V 156 2, V 156 3, V 156 4, V 156 5, V 156 6, V 156 7, V 156 8, V 156 9, V 156 10])) := rfl
  have g3 : am_vI (am_pG 771 (.ref 156) (fx V I L R ++ tl)) = some (nI cnt) := ev_gI hq rfl (by show some (V 156 3) = _; rw [h3])
  have g4 : am_vI (am_pG 772 (.ref 156) (fx V I L R ++ tl)) = some (nI wd) := ev_gI hq rfl (by show some (V 156 4) = _; rw [h4])
  have a1 : i * wd + (j - i) * wd = j * wd := by rw [← Nat.add_mul, show i + (j - i) = j by omega]
  have a2 : cnt * wd + (j - i) * wd = (cnt + (j - i)) * wd := (Nat.add_mul ..).symm
  have a3 : j * wd ≤ sz * wd := Nat.mul_le_mul_right _ hj
  unfold fm_170 fg_170_0
  refine ev_b (ev_gI p1 rfl rfl) (ev_b g4 (ev_f (fun e => e rfl) (ev_f (nI_pos (by omega)) ?_)))
  rw [nI_sub hij]
  refine ev_f (nI_pos (by omega)) (ev_b (ev_gI p1 rfl rfl) (ev_f (nI_nlt hj (by omega)) (ev_b g3 (ev_b g4 (ev_b (a := Value.ref 157) rfl (ev_b (a := nI 120) rfl ?_))))))
  rw [nI_add, ← nI_mul]
  refine ev_t (nI_le (b := 120) hc (by omega)) (ev_b (ev_gR p1 rfl rfl rfl) (ev_b g4 (ev_b (a := Value.ref 157) rfl (ev_b g3 (ev_b g4 (ev_b g4 ?_))))))
  rw [← nI_mul, ← nI_mul, ← nI_mul]
  refine ev_b (ev_cpy (f := f) (g := I 157) (n0 := m) (n1 := 120) (sp := i * wd) (dp := cnt * wd) (n := (j - i) * wd) (h1 := fx V (iup I 157 (va_cpy f (I 157) (i * wd) (cnt * wd) ((j - i) * wd))) L R ++ tl) p2 rfl (by omega) (by omega) (by omega) (by omega) rfl) ?_
  refine ev_b (a := nI cnt) (ev_gI (fs := [.ref 157, V 156 1, V 156 2, V 156 3, V 156 4, V 156 5, V 156 6, V 156 7, V 156 8, V 156 9, V 156 10]) (c := 3) rfl rfl (by show some (V 156 3) = _; rw [h3])) ?_
  rw [nI_add]
  exact ev_b qp_156_3 rfl
theorem prF_156 {V : Nat → Nat → Value} {I : Nat → Nat → Int32} {L : Nat → Nat → Int64} {R : Nat → Nat → Option Nat} {tl : am_H} {kd ln sz : Nat} (w : wt V) (h1 : V 156 1 = .int (nI kd)) (h2 : V 156 2 = .int (nI ln)) (h3 : V 156 3 = .int (nI sz)) (h4 : V 156 4 = .int (nI (wdN kd))) : prA V I tl 156 157 kd ln sz 120 (I 157) := by
  intro W J L R hw hj
  obtain ⟨x5, e5⟩ := w.1 156 5 (by decide)
  obtain ⟨x6, e6⟩ := w.1 156 6 (by decide)
  obtain ⟨x7, e7⟩ := w.1 156 7 (by decide)
  obtain ⟨x8, e8⟩ := w.1 156 8 (by decide)
  obtain ⟨x9, e9⟩ := w.1 156 9 (by decide)
  obtain ⟨x10, e10⟩ := w.2 156 10 (by decide)
  refine ⟨x5, x6, x7, x8, x9, x10, ?_, ?_⟩
  · show some (Sum.inr (3, [.ref 157, W 156 1, W 156 2, W 156 3, W 156 4, W 156 5, W 156 6, W 156 7, W 156 8, W 156 9, W 156 10])) = _
    rw [hw, hw, hw, hw, hw, hw, hw, hw, hw, hw, h1, h2, h3, h4, e5, e6, e7, e8, e9, e10]
  · show some (Sum.inl (0, 120, Sum.inl (J 157))) = _
    rw [hj]
set_option maxRecDepth 100000 in
set_option maxHeartbeats 4000000 in
theorem p60_156 {V : Nat → Nat → Value} {I : Nat → Nat → Int32} {L : Nat → Nat → Int64} {R : Nat → Nat → Option Nat} {tl : am_H} {A it kd ln sz m : Nat} {f : Nat → Int32} (hp : prA V I tl A it kd ln sz m f) (hA : A ≠ 156) (hk : kd ≤ 3) (hm : sz * wdN kd ≤ m) (hm2 : m ≤ 1000) (hs : sz * wdN kd ≤ 120) (hz : sz ≤ 120) : fm_60 (.ref 156) (.ref A) (fx V I L R ++ tl) = some (.inl (none, fx (vup (vup (vup (vup (vup V 156 1 (.int (nI kd))) 156 2 (.int (nI ln))) 156 3 (.int 0)) 156 4 (.int (if nI kd = 2 then 5 else 2))) 156 3 (.int (nI sz))) (iup I 157 (va_cpy f (I 157) 0 0 (sz * wdN kd))) L R ++ tl)) := by
  obtain ⟨x1, x2, x3, x4, x5, x6, p1, p2⟩ := hp V I L R (fun _ => rfl) rfl
  have ew : (if nI kd = 2 then (5 : Int32) else 2) = nI (wdN kd) := by
    unfold wdN
    by_cases c : kd = 2
    · rw [if_pos c, if_pos (show nI kd = 2 by rw [c]; rfl)]
      rfl
    · rw [if_neg c, if_neg (show ¬ nI kd = 2 from fun e => c ((nI_eq (b := 2) (by omega) (by omega)).mp e))]
      rfl
  have ne : ∀ {X : Value} {j : Nat} {W : Nat → Nat → Value} (i : Nat), vup W 156 j X A i = W A i := fun i => vup_o (fun e => hA e.1)
  obtain ⟨y1, y2, y3, y4, y5, y6, q1, q2⟩ := hp (vup (vup (vup (vup V 156 1 (.int (nI kd))) 156 2 (.int (nI ln))) 156 3 (.int 0)) 156 4 (.int (if nI kd = 2 then 5 else 2))) I L R (fun i => by rw [ne, ne, ne, ne]) rfl
  obtain ⟨z1, z2, z3, z4, z5, z6, r1, r2⟩ := hp (vup (vup (vup (vup (vup V 156 1 (.int (nI kd))) 156 2 (.int (nI ln))) 156 3 (.int 0)) 156 4 (.int (if nI kd = 2 then 5 else 2))) 156 3 (.int (nI sz))) I L R (fun i => by rw [ne, ne, ne, ne, ne]) rfl
  unfold fm_60 fg_60_0
  refine ev_b (ev_gI p1 rfl rfl) (ev_b (ev_gI p1 rfl rfl) (ev_i rfl (ev_cV (p34_156 (nI kd) (nI ln)) ?_)))
  refine ev_b (ev_gI q1 rfl rfl) (ev_b (a := if nI kd = 2 then 5 else 2) rfl (ev_b (a := Value.ref 157) rfl (ev_b (a := nI 120) rfl ?_)))
  rw [show nI sz * (if nI kd = 2 then (5 : Int32) else 2) = nI (sz * wdN kd) by rw [ew, nI_mul]]
  refine ev_f (nI_nlt (a := 120) hs (by omega)) (ev_b (ev_gI q1 rfl rfl) (ev_b qp_156_3 (ev_b (ev_gR r1 rfl rfl rfl) (ev_b (a := Value.ref 157) rfl (ev_b (a := nI sz) rfl (ev_b (a := if nI kd = 2 then 5 else 2) rfl ?_))))))
  rw [show nI sz * (if nI kd = 2 then (5 : Int32) else 2) = nI (sz * wdN kd) by rw [ew, nI_mul]]
  refine ev_b (ev_cpy (f := f) (g := I 157) (n0 := m) (n1 := 120) (sp := 0) (dp := 0) (n := sz * wdN kd) r2 rfl (by omega) (by omega) (by omega) (by omega) rfl) rfl
theorem srcP_156 {V : Nat → Nat → Value} {I : Nat → Nat → Int32} {L : Nat → Nat → Int64} {R : Nat → Nat → Option Nat} {tl : am_H} {kd ln : Nat} {P : xT} (w : wt V) (h : hold V I 156 kd ln P) (hk : kd ≤ 3) (h2 : kd ≠ 2) (hl : P.length ≤ 60) : srcP V I tl 156 157 kd ln P := ⟨120, I 157, prF_156 (L := fun _ _ => 0) (R := fun _ _ => none) w h.1 h.2.1 h.2.2.1 (by rw [wd2 h2]; exact h.2.2.2.1), h.2.2.2.2, by omega, by omega, hk, h2, hl⟩
theorem s34_156 {V : Nat → Nat → Value} {I : Nat → Nat → Int32} {L : Nat → Nat → Int64} {R : Nat → Nat → Option Nat} {tl : am_H} {kd ln : Nat} (k l : Int32) (hk : k = nI kd) (hl : l = nI ln) (h3 : kd ≤ 3) (h2 : kd ≠ 2) : ∃ W J, fm_34 (.ref 156) k l (fx V I L R ++ tl) = some (.inl (none, fx W J L R ++ tl)) ∧ hold W J 156 kd ln [] ∧ fr1 156 V W I J := by
  refine ⟨_, _, p34_156 k l, ⟨by subst hk; rfl, by subst hl; rfl, rfl, congrArg Value.int (nI_w h2 h3 hk), tO_nil⟩, ?_⟩
  exact fr1_t (fr1_v (by decide)) (fr1_t (fr1_v (by decide)) (fr1_t (fr1_v (by decide)) (fr1_v (by decide))))
theorem s41_156 {V : Nat → Nat → Value} {I : Nat → Nat → Int32} {L : Nat → Nat → Int64} {R : Nat → Nat → Option Nat} {tl : am_H} {N kd ln a : Nat} {Q : xT} {b : Int32} (hN : 1 ≤ N) (h : hold V I 156 kd ln Q) (hl : Q.length < 60) (x : Int32) (hx : x = nI a) : ∃ W J, fm_41 N (.ref 156) x b (fx V I L R ++ tl) = some (.inl (some (.int 1), fx W J L R ++ tl)) ∧ hold W J 156 kd ln (Q ++ [(a, b)]) ∧ fr1 156 V W I J := by
  subst hx
  refine ⟨_, _, p41_156 hN h.2.2.1 h.2.2.2.1 (by omega) (nI a) b, ⟨h.1, h.2.1, ?_, h.2.2.2.1, tO_app h.2.2.2.2⟩, fr1_t (fr1_v (by decide)) fr1_i⟩
  rw [List.length_append]
  rfl
theorem s170_156 {V : Nat → Nat → Value} {I : Nat → Nat → Int32} {L : Nat → Nat → Int64} {R : Nat → Nat → Option Nat} {tl : am_H} {A it kd ln kd' ln' i j : Nat} {Q P : xT} (hs : srcP V I tl A it kd' ln' P) (h : hold V I 156 kd ln Q) (hij : i ≤ j) (hj : j ≤ P.length) (hq : Q.length + (j - i) ≤ 60) (x y : Int32) (hx : x = nI i) (hy : y = nI j) : ∃ W J, fm_170 (.ref 156) (.ref A) x y (fx V I L R ++ tl) = some (.inl (some (.int 1), fx W J L R ++ tl)) ∧ hold W J 156 kd ln (Q ++ seg P i j) ∧ fr1 156 V W I J := by
  subst hx
  subst hy
  obtain ⟨m, f, hp, hf, m1, m2, k3, k2, l60⟩ := hs
  obtain ⟨x1, x2, x3, x4, x5, x6, p1, p2⟩ := hp V I L R (fun _ => rfl) rfl
  refine ⟨_, _, p170_156 (wd := 2) (by rw [wd2 k2] at p1; exact p1) p2 h.2.2.1 h.2.2.2.1 hij hj l60 (by omega) m1 m2 (by omega) (by omega), ⟨h.1, h.2.1, ?_, h.2.2.2.1, tO_take h.2.2.2.2 hf hij hj⟩, fr1_t (fr1_v (by decide)) fr1_i⟩
  rw [List.length_append, seg_len hj]
  rfl
theorem s60_156 {V : Nat → Nat → Value} {I : Nat → Nat → Int32} {L : Nat → Nat → Int64} {R : Nat → Nat → Option Nat} {tl : am_H} {A it kd ln : Nat} {P : xT} (hs : srcP V I tl A it kd ln P) (hA : A ≠ 156) : ∃ W J, fm_60 (.ref 156) (.ref A) (fx V I L R ++ tl) = some (.inl (none, fx W J L R ++ tl)) ∧ hold W J 156 kd ln P ∧ fr1 156 V W I J := by
  obtain ⟨m, f, hp, hf, m1, m2, k3, k2, l60⟩ := hs
  have hw := wd2 k2
  refine ⟨_, _, p60_156 hp hA k3 (by rw [hw]; exact m1) m2 (by rw [hw]; omega) (by omega), ⟨rfl, rfl, rfl, congrArg Value.int (nI_w k2 k3 rfl), ?_⟩, ?_⟩
  · rw [hw]
    exact tO_cpy hf
  · exact fr1_t (fr1_v (by decide)) (fr1_t (fr1_v (by decide)) (fr1_t (fr1_v (by decide)) (fr1_t (fr1_v (by decide)) (fr1_t (fr1_v (by decide)) fr1_i))))
set_option maxRecDepth 100000 in
set_option maxHeartbeats 4000000 in
theorem p34_158 {V : Nat → Nat → Value} {I : Nat → Nat → Int32} {L : Nat → Nat → Int64} {R : Nat → Nat → Option Nat} {tl : am_H} (k l : Int32) : fm_34 (.ref 158) k l (fx V I L R ++ tl) = some (.inl (none, fx (vup (vup (vup (vup V 158 1 (.int k)) 158 2 (.int l)) 158 3 (.int 0)) 158 4 (.int (if k = 2 then 5 else 2))) I L R ++ tl)) := by
  unfold fm_34 fg_34_0
  refine ev_b (a := fx (vup V 158 1 (.int k)) I L R ++ tl) (ev_p rfl rfl rfl rfl) ?_
  refine ev_b (a := fx (vup (vup V 158 1 (.int k)) 158 2 (.int l)) I L R ++ tl) (ev_p rfl rfl rfl rfl) ?_
  refine ev_b (a := fx (vup (vup (vup V 158 1 (.int k)) 158 2 (.int l)) 158 3 (.int 0)) I L R ++ tl) (ev_p rfl rfl rfl rfl) ?_
  by_cases c : k = 2
  · rw [if_pos c]
    refine ev_f (fun e => e c) ?_
    unfold fg_34_26
    exact ev_b (ev_p rfl rfl rfl rfl) rfl
  · rw [if_neg c]
    refine ev_t c ?_
    unfold fg_34_26
    exact ev_b (ev_p rfl rfl rfl rfl) rfl
set_option maxRecDepth 100000 in
set_option maxHeartbeats 4000000 in
theorem p41_158 {V : Nat → Nat → Value} {I : Nat → Nat → Int32} {L : Nat → Nat → Int64} {R : Nat → Nat → Option Nat} {tl : am_H} {N s : Nat} (hN : 1 ≤ N) (h3 : V 158 3 = .int (nI s)) (h4 : V 158 4 = .int 2) (hs : 2 * s + 2 ≤ 120) (a b : Int32) : fm_41 N (.ref 158) a b (fx V I L R ++ tl) = some (.inl (some (.int 1), fx (vup V 158 3 (.int (nI (s + 1)))) (iup I 159 (upd (upd (I 159) (2 * s) a) (2 * s + 1) b)) L R ++ tl)) := by
  obtain ⟨N, rfl⟩ : ∃ k, N = k + 1 := ⟨N - 1, by omega⟩
  have g3 : ∀ {I : Nat → Nat → Int32}, am_vI (am_pG 771 (.ref 158) (fx V I L R ++ tl)) = some (nI s) := fun {I} => by show am_vI (some (V 158 3)) = _; rw [h3]; rfl
  have g4 : ∀ {I : Nat → Nat → Int32}, am_vI (am_pG 772 (.ref 158) (fx V I L R ++ tl)) = some 2 := fun {I} => by show am_vI (some (V 158 4)) = _; rw [h4]; rfl
  unfold fm_41 fg_41_0
  refine ev_b g3 ?_
  refine ev_b g4 ?_
  refine ev_b g4 ?_
  refine ev_b (a := .ref 159) rfl ?_
  refine ev_b (a := nI 120) rfl ?_
  rw [show nI s * 2 = nI (2 * s) by rw [Nat.mul_comm, nI_mul]; rfl]
  refine ev_t (by rw [show (2 : Int32) = nI 2 from rfl, nI_add]; exact nI_le hs (by omega)) ?_
  rw [fg_41_29]
  refine ev_b g4 ?_
  refine ev_t (by decide) ?_
  refine ev_b (a := .ref 159) rfl ?_
  refine ev_b (ev_s (f := I 159) (n := 120) (h1 := fx V (iup I 159 (upd (I 159) (2 * s) a)) L R ++ tl) rfl (am_inb_n (by omega) (by omega)) rfl (by rw [nI_clamp (by omega)]; rfl)) ?_
  refine ev_b (a := .ref 159) rfl ?_
  rw [nI_1]
  refine ev_b (ev_s (f := upd (I 159) (2 * s) a) (n := 120) (h1 := fx V (iup I 159 (upd (upd (I 159) (2 * s) a) (2 * s + 1) b)) L R ++ tl) rfl (am_inb_n (by omega) (by omega)) rfl (by rw [nI_clamp (by omega)]; rfl)) ?_
  refine ev_b g3 ?_
  rw [nI_1]
  exact ev_b (ev_p rfl rfl rfl rfl) rfl
set_option maxRecDepth 100000 in
set_option maxHeartbeats 1600000 in
/-- take(): items of a program, onto the spare one -/
theorem p170_158 {V : Nat → Nat → Value} {I : Nat → Nat → Int32} {L : Nat → Nat → Int64} {R : Nat → Nat → Option Nat} {tl : am_H} {A it m i j cnt wd sz : Nat} {kd ln x1 x2 x3 x4 x5 : Int32} {x6 : Int64} {f : Nat → Int32} (p1 : (fx V I L R ++ tl)[A]? = some (.inr (3, [.ref it, .int kd, .int ln, .int (nI sz), .int (nI wd), .int x1, .int x2, .int x3, .int x4, .int x5, .long x6]))) (p2 : (fx V I L R ++ tl)[it]? = some (.inl (0, m, .inl f))) (h3 : V 158 3 = .int (nI cnt)) (h4 : V 158 4 = .int (nI wd)) (hij : i ≤ j) (hj : j ≤ sz) (hsz : sz ≤ 60) (hw : wd ≤ 5) (hm : sz * wd ≤ m) (hm2 : m ≤ 1000) (hc : (cnt + (j - i)) * wd ≤ 120) (hcn : cnt ≤ 120) : fm_170 (.ref 158) (.ref A) (nI i) (nI j) (fx V I L R ++ tl) = some (.inl (some (.int 1), fx (vup V 158 3 (.int (nI (cnt + (j - i))))) (iup I 159 (va_cpy f (I 159) (i * wd) (cnt * wd) ((j - i) * wd))) L R ++ tl)) := by
  have hq : (fx V I L R ++ tl)[158]? = some (.inr (3, [.ref 159, V 158 1, V 158 2, V 158 3, V 158 4, V 158 5, V 158 6, V 158 7, V 158 8, V 158 9, V 158 10])) := rfl
  have g3 : am_vI (am_pG 771 (.ref 158) (fx V I L R ++ tl)) = some (nI cnt) := ev_gI hq rfl (by show some (V 158 3) = _; rw [h3])
  have g4 : am_vI (am_pG 772 (.ref 158) (fx V I L R ++ tl)) = some (nI wd) := ev_gI hq rfl (by show some (V 158 4) = _; rw [h4])
  have a1 : i * wd + (j - i) * wd = j * wd := by rw [← Nat.add_mul, show i + (j - i) = j by omega]
  have a2 : cnt * wd + (j - i) * wd = (cnt + (j - i)) * wd := (Nat.add_mul ..).symm
  have a3 : j * wd ≤ sz * wd := Nat.mul_le_mul_right _ hj
  unfold fm_170 fg_170_0
  refine ev_b (ev_gI p1 rfl rfl) (ev_b g4 (ev_f (fun e => e rfl) (ev_f (nI_pos (by omega)) ?_)))
  rw [nI_sub hij]
  refine ev_f (nI_pos (by omega)) (ev_b (ev_gI p1 rfl rfl) (ev_f (nI_nlt hj (by omega)) (ev_b g3 (ev_b g4 (ev_b (a := Value.ref 159) rfl (ev_b (a := nI 120) rfl ?_))))))
  rw [nI_add, ← nI_mul]
  refine ev_t (nI_le (b := 120) hc (by omega)) (ev_b (ev_gR p1 rfl rfl rfl) (ev_b g4 (ev_b (a := Value.ref 159) rfl (ev_b g3 (ev_b g4 (ev_b g4 ?_))))))
  rw [← nI_mul, ← nI_mul, ← nI_mul]
  refine ev_b (ev_cpy (f := f) (g := I 159) (n0 := m) (n1 := 120) (sp := i * wd) (dp := cnt * wd) (n := (j - i) * wd) (h1 := fx V (iup I 159 (va_cpy f (I 159) (i * wd) (cnt * wd) ((j - i) * wd))) L R ++ tl) p2 rfl (by omega) (by omega) (by omega) (by omega) rfl) ?_
  refine ev_b (a := nI cnt) (ev_gI (fs := [.ref 159, V 158 1, V 158 2, V 158 3, V 158 4, V 158 5, V 158 6, V 158 7, V 158 8, V 158 9, V 158 10]) (c := 3) rfl rfl (by show some (V 158 3) = _; rw [h3])) ?_
  rw [nI_add]
  exact ev_b qp_158_3 rfl
theorem prF_158 {V : Nat → Nat → Value} {I : Nat → Nat → Int32} {L : Nat → Nat → Int64} {R : Nat → Nat → Option Nat} {tl : am_H} {kd ln sz : Nat} (w : wt V) (h1 : V 158 1 = .int (nI kd)) (h2 : V 158 2 = .int (nI ln)) (h3 : V 158 3 = .int (nI sz)) (h4 : V 158 4 = .int (nI (wdN kd))) : prA V I tl 158 159 kd ln sz 120 (I 159) := by
  intro W J L R hw hj
  obtain ⟨x5, e5⟩ := w.1 158 5 (by decide)
  obtain ⟨x6, e6⟩ := w.1 158 6 (by decide)
  obtain ⟨x7, e7⟩ := w.1 158 7 (by decide)
  obtain ⟨x8, e8⟩ := w.1 158 8 (by decide)
  obtain ⟨x9, e9⟩ := w.1 158 9 (by decide)
  obtain ⟨x10, e10⟩ := w.2 158 10 (by decide)
  refine ⟨x5, x6, x7, x8, x9, x10, ?_, ?_⟩
  · show some (Sum.inr (3, [.ref 159, W 158 1, W 158 2, W 158 3, W 158 4, W 158 5, W 158 6, W 158 7, W 158 8, W 158 9, W 158 10])) = _
    rw [hw, hw, hw, hw, hw, hw, hw, hw, hw, hw, h1, h2, h3, h4, e5, e6, e7, e8, e9, e10]
  · show some (Sum.inl (0, 120, Sum.inl (J 159))) = _
    rw [hj]
set_option maxRecDepth 100000 in
set_option maxHeartbeats 4000000 in
theorem p60_158 {V : Nat → Nat → Value} {I : Nat → Nat → Int32} {L : Nat → Nat → Int64} {R : Nat → Nat → Option Nat} {tl : am_H} {A it kd ln sz m : Nat} {f : Nat → Int32} (hp : prA V I tl A it kd ln sz m f) (hA : A ≠ 158) (hk : kd ≤ 3) (hm : sz * wdN kd ≤ m) (hm2 : m ≤ 1000) (hs : sz * wdN kd ≤ 120) (hz : sz ≤ 120) : fm_60 (.ref 158) (.ref A) (fx V I L R ++ tl) = some (.inl (none, fx (vup (vup (vup (vup (vup V 158 1 (.int (nI kd))) 158 2 (.int (nI ln))) 158 3 (.int 0)) 158 4 (.int (if nI kd = 2 then 5 else 2))) 158 3 (.int (nI sz))) (iup I 159 (va_cpy f (I 159) 0 0 (sz * wdN kd))) L R ++ tl)) := by
  obtain ⟨x1, x2, x3, x4, x5, x6, p1, p2⟩ := hp V I L R (fun _ => rfl) rfl
  have ew : (if nI kd = 2 then (5 : Int32) else 2) = nI (wdN kd) := by
    unfold wdN
    by_cases c : kd = 2
    · rw [if_pos c, if_pos (show nI kd = 2 by rw [c]; rfl)]
      rfl
    · rw [if_neg c, if_neg (show ¬ nI kd = 2 from fun e => c ((nI_eq (b := 2) (by omega) (by omega)).mp e))]
      rfl
  have ne : ∀ {X : Value} {j : Nat} {W : Nat → Nat → Value} (i : Nat), vup W 158 j X A i = W A i := fun i => vup_o (fun e => hA e.1)
  obtain ⟨y1, y2, y3, y4, y5, y6, q1, q2⟩ := hp (vup (vup (vup (vup V 158 1 (.int (nI kd))) 158 2 (.int (nI ln))) 158 3 (.int 0)) 158 4 (.int (if nI kd = 2 then 5 else 2))) I L R (fun i => by rw [ne, ne, ne, ne]) rfl
  obtain ⟨z1, z2, z3, z4, z5, z6, r1, r2⟩ := hp (vup (vup (vup (vup (vup V 158 1 (.int (nI kd))) 158 2 (.int (nI ln))) 158 3 (.int 0)) 158 4 (.int (if nI kd = 2 then 5 else 2))) 158 3 (.int (nI sz))) I L R (fun i => by rw [ne, ne, ne, ne, ne]) rfl
  unfold fm_60 fg_60_0
  refine ev_b (ev_gI p1 rfl rfl) (ev_b (ev_gI p1 rfl rfl) (ev_i rfl (ev_cV (p34_158 (nI kd) (nI ln)) ?_)))
  refine ev_b (ev_gI q1 rfl rfl) (ev_b (a := if nI kd = 2 then 5 else 2) rfl (ev_b (a := Value.ref 159) rfl (ev_b (a := nI 120) rfl ?_)))
  rw [show nI sz * (if nI kd = 2 then (5 : Int32) else 2) = nI (sz * wdN kd) by rw [ew, nI_mul]]
  refine ev_f (nI_nlt (a := 120) hs (by omega)) (ev_b (ev_gI q1 rfl rfl) (ev_b qp_158_3 (ev_b (ev_gR r1 rfl rfl rfl) (ev_b (a := Value.ref 159) rfl (ev_b (a := nI sz) rfl (ev_b (a := if nI kd = 2 then 5 else 2) rfl ?_))))))
  rw [show nI sz * (if nI kd = 2 then (5 : Int32) else 2) = nI (sz * wdN kd) by rw [ew, nI_mul]]
  refine ev_b (ev_cpy (f := f) (g := I 159) (n0 := m) (n1 := 120) (sp := 0) (dp := 0) (n := sz * wdN kd) r2 rfl (by omega) (by omega) (by omega) (by omega) rfl) rfl
theorem srcP_158 {V : Nat → Nat → Value} {I : Nat → Nat → Int32} {L : Nat → Nat → Int64} {R : Nat → Nat → Option Nat} {tl : am_H} {kd ln : Nat} {P : xT} (w : wt V) (h : hold V I 158 kd ln P) (hk : kd ≤ 3) (h2 : kd ≠ 2) (hl : P.length ≤ 60) : srcP V I tl 158 159 kd ln P := ⟨120, I 159, prF_158 (L := fun _ _ => 0) (R := fun _ _ => none) w h.1 h.2.1 h.2.2.1 (by rw [wd2 h2]; exact h.2.2.2.1), h.2.2.2.2, by omega, by omega, hk, h2, hl⟩
theorem s34_158 {V : Nat → Nat → Value} {I : Nat → Nat → Int32} {L : Nat → Nat → Int64} {R : Nat → Nat → Option Nat} {tl : am_H} {kd ln : Nat} (k l : Int32) (hk : k = nI kd) (hl : l = nI ln) (h3 : kd ≤ 3) (h2 : kd ≠ 2) : ∃ W J, fm_34 (.ref 158) k l (fx V I L R ++ tl) = some (.inl (none, fx W J L R ++ tl)) ∧ hold W J 158 kd ln [] ∧ fr1 158 V W I J := by
  refine ⟨_, _, p34_158 k l, ⟨by subst hk; rfl, by subst hl; rfl, rfl, congrArg Value.int (nI_w h2 h3 hk), tO_nil⟩, ?_⟩
  exact fr1_t (fr1_v (by decide)) (fr1_t (fr1_v (by decide)) (fr1_t (fr1_v (by decide)) (fr1_v (by decide))))
theorem s41_158 {V : Nat → Nat → Value} {I : Nat → Nat → Int32} {L : Nat → Nat → Int64} {R : Nat → Nat → Option Nat} {tl : am_H} {N kd ln a : Nat} {Q : xT} {b : Int32} (hN : 1 ≤ N) (h : hold V I 158 kd ln Q) (hl : Q.length < 60) (x : Int32) (hx : x = nI a) : ∃ W J, fm_41 N (.ref 158) x b (fx V I L R ++ tl) = some (.inl (some (.int 1), fx W J L R ++ tl)) ∧ hold W J 158 kd ln (Q ++ [(a, b)]) ∧ fr1 158 V W I J := by
  subst hx
  refine ⟨_, _, p41_158 hN h.2.2.1 h.2.2.2.1 (by omega) (nI a) b, ⟨h.1, h.2.1, ?_, h.2.2.2.1, tO_app h.2.2.2.2⟩, fr1_t (fr1_v (by decide)) fr1_i⟩
  rw [List.length_append]
  rfl
theorem s170_158 {V : Nat → Nat → Value} {I : Nat → Nat → Int32} {L : Nat → Nat → Int64} {R : Nat → Nat → Option Nat} {tl : am_H} {A it kd ln kd' ln' i j : Nat} {Q P : xT} (hs : srcP V I tl A it kd' ln' P) (h : hold V I 158 kd ln Q) (hij : i ≤ j) (hj : j ≤ P.length) (hq : Q.length + (j - i) ≤ 60) (x y : Int32) (hx : x = nI i) (hy : y = nI j) : ∃ W J, fm_170 (.ref 158) (.ref A) x y (fx V I L R ++ tl) = some (.inl (some (.int 1), fx W J L R ++ tl)) ∧ hold W J 158 kd ln (Q ++ seg P i j) ∧ fr1 158 V W I J := by
  subst hx
  subst hy
  obtain ⟨m, f, hp, hf, m1, m2, k3, k2, l60⟩ := hs
  obtain ⟨x1, x2, x3, x4, x5, x6, p1, p2⟩ := hp V I L R (fun _ => rfl) rfl
  refine ⟨_, _, p170_158 (wd := 2) (by rw [wd2 k2] at p1; exact p1) p2 h.2.2.1 h.2.2.2.1 hij hj l60 (by omega) m1 m2 (by omega) (by omega), ⟨h.1, h.2.1, ?_, h.2.2.2.1, tO_take h.2.2.2.2 hf hij hj⟩, fr1_t (fr1_v (by decide)) fr1_i⟩
  rw [List.length_append, seg_len hj]
  rfl
theorem s60_158 {V : Nat → Nat → Value} {I : Nat → Nat → Int32} {L : Nat → Nat → Int64} {R : Nat → Nat → Option Nat} {tl : am_H} {A it kd ln : Nat} {P : xT} (hs : srcP V I tl A it kd ln P) (hA : A ≠ 158) : ∃ W J, fm_60 (.ref 158) (.ref A) (fx V I L R ++ tl) = some (.inl (none, fx W J L R ++ tl)) ∧ hold W J 158 kd ln P ∧ fr1 158 V W I J := by
  obtain ⟨m, f, hp, hf, m1, m2, k3, k2, l60⟩ := hs
  have hw := wd2 k2
  refine ⟨_, _, p60_158 hp hA k3 (by rw [hw]; exact m1) m2 (by rw [hw]; omega) (by omega), ⟨rfl, rfl, rfl, congrArg Value.int (nI_w k2 k3 rfl), ?_⟩, ?_⟩
  · rw [hw]
    exact tO_cpy hf
  · exact fr1_t (fr1_v (by decide)) (fr1_t (fr1_v (by decide)) (fr1_t (fr1_v (by decide)) (fr1_t (fr1_v (by decide)) (fr1_t (fr1_v (by decide)) fr1_i))))
set_option maxRecDepth 100000 in
set_option maxHeartbeats 4000000 in
theorem p34_160 {V : Nat → Nat → Value} {I : Nat → Nat → Int32} {L : Nat → Nat → Int64} {R : Nat → Nat → Option Nat} {tl : am_H} (k l : Int32) : fm_34 (.ref 160) k l (fx V I L R ++ tl) = some (.inl (none, fx (vup (vup (vup (vup V 160 1 (.int k)) 160 2 (.int l)) 160 3 (.int 0)) 160 4 (.int (if k = 2 then 5 else 2))) I L R ++ tl)) := by
  unfold fm_34 fg_34_0
  refine ev_b (a := fx (vup V 160 1 (.int k)) I L R ++ tl) (ev_p rfl rfl rfl rfl) ?_
  refine ev_b (a := fx (vup (vup V 160 1 (.int k)) 160 2 (.int l)) I L R ++ tl) (ev_p rfl rfl rfl rfl) ?_
  refine ev_b (a := fx (vup (vup (vup V 160 1 (.int k)) 160 2 (.int l)) 160 3 (.int 0)) I L R ++ tl) (ev_p rfl rfl rfl rfl) ?_
  by_cases c : k = 2
  · rw [if_pos c]
    refine ev_f (fun e => e c) ?_
    unfold fg_34_26
    exact ev_b (ev_p rfl rfl rfl rfl) rfl
  · rw [if_neg c]
    refine ev_t c ?_
    unfold fg_34_26
    exact ev_b (ev_p rfl rfl rfl rfl) rfl
set_option maxRecDepth 100000 in
set_option maxHeartbeats 4000000 in
theorem p41_160 {V : Nat → Nat → Value} {I : Nat → Nat → Int32} {L : Nat → Nat → Int64} {R : Nat → Nat → Option Nat} {tl : am_H} {N s : Nat} (hN : 1 ≤ N) (h3 : V 160 3 = .int (nI s)) (h4 : V 160 4 = .int 2) (hs : 2 * s + 2 ≤ 120) (a b : Int32) : fm_41 N (.ref 160) a b (fx V I L R ++ tl) = some (.inl (some (.int 1), fx (vup V 160 3 (.int (nI (s + 1)))) (iup I 161 (upd (upd (I 161) (2 * s) a) (2 * s + 1) b)) L R ++ tl)) := by
  obtain ⟨N, rfl⟩ : ∃ k, N = k + 1 := ⟨N - 1, by omega⟩
  have g3 : ∀ {I : Nat → Nat → Int32}, am_vI (am_pG 771 (.ref 160) (fx V I L R ++ tl)) = some (nI s) := fun {I} => by show am_vI (some (V 160 3)) = _; rw [h3]; rfl
  have g4 : ∀ {I : Nat → Nat → Int32}, am_vI (am_pG 772 (.ref 160) (fx V I L R ++ tl)) = some 2 := fun {I} => by show am_vI (some (V 160 4)) = _; rw [h4]; rfl
  unfold fm_41 fg_41_0
  refine ev_b g3 ?_
  refine ev_b g4 ?_
  refine ev_b g4 ?_
  refine ev_b (a := .ref 161) rfl ?_
  refine ev_b (a := nI 120) rfl ?_
  rw [show nI s * 2 = nI (2 * s) by rw [Nat.mul_comm, nI_mul]; rfl]
  refine ev_t (by rw [show (2 : Int32) = nI 2 from rfl, nI_add]; exact nI_le hs (by omega)) ?_
  rw [fg_41_29]
  refine ev_b g4 ?_
  refine ev_t (by decide) ?_
  refine ev_b (a := .ref 161) rfl ?_
  refine ev_b (ev_s (f := I 161) (n := 120) (h1 := fx V (iup I 161 (upd (I 161) (2 * s) a)) L R ++ tl) rfl (am_inb_n (by omega) (by omega)) rfl (by rw [nI_clamp (by omega)]; rfl)) ?_
  refine ev_b (a := .ref 161) rfl ?_
  rw [nI_1]
  refine ev_b (ev_s (f := upd (I 161) (2 * s) a) (n := 120) (h1 := fx V (iup I 161 (upd (upd (I 161) (2 * s) a) (2 * s + 1) b)) L R ++ tl) rfl (am_inb_n (by omega) (by omega)) rfl (by rw [nI_clamp (by omega)]; rfl)) ?_
  refine ev_b g3 ?_
  rw [nI_1]
  exact ev_b (ev_p rfl rfl rfl rfl) rfl
set_option maxRecDepth 100000 in
set_option maxHeartbeats 1600000 in
/-- take(): items of a program, onto the spare one -/
theorem p170_160 {V : Nat → Nat → Value} {I : Nat → Nat → Int32} {L : Nat → Nat → Int64} {R : Nat → Nat → Option Nat} {tl : am_H} {A it m i j cnt wd sz : Nat} {kd ln x1 x2 x3 x4 x5 : Int32} {x6 : Int64} {f : Nat → Int32} (p1 : (fx V I L R ++ tl)[A]? = some (.inr (3, [.ref it, .int kd, .int ln, .int (nI sz), .int (nI wd), .int x1, .int x2, .int x3, .int x4, .int x5, .long x6]))) (p2 : (fx V I L R ++ tl)[it]? = some (.inl (0, m, .inl f))) (h3 : V 160 3 = .int (nI cnt)) (h4 : V 160 4 = .int (nI wd)) (hij : i ≤ j) (hj : j ≤ sz) (hsz : sz ≤ 60) (hw : wd ≤ 5) (hm : sz * wd ≤ m) (hm2 : m ≤ 1000) (hc : (cnt + (j - i)) * wd ≤ 120) (hcn : cnt ≤ 120) : fm_170 (.ref 160) (.ref A) (nI i) (nI j) (fx V I L R ++ tl) = some (.inl (some (.int 1), fx (vup V 160 3 (.int (nI (cnt + (j - i))))) (iup I 161 (va_cpy f (I 161) (i * wd) (cnt * wd) ((j - i) * wd))) L R ++ tl)) := by
  have hq : (fx V I L R ++ tl)[160]? = some (.inr (3, [.ref 161, V 160 1, V 160 2, V 160 3, V 160 4, V 160 5, V 160 6, V 160 7, V 160 8, V 160 9, V 160 10])) := rfl
  have g3 : am_vI (am_pG 771 (.ref 160) (fx V I L R ++ tl)) = some (nI cnt) := ev_gI hq rfl (by show some (V 160 3) = _; rw [h3])
  have g4 : am_vI (am_pG 772 (.ref 160) (fx V I L R ++ tl)) = some (nI wd) := ev_gI hq rfl (by show some (V 160 4) = _; rw [h4])
  have a1 : i * wd + (j - i) * wd = j * wd := by rw [← Nat.add_mul, show i + (j - i) = j by omega]
  have a2 : cnt * wd + (j - i) * wd = (cnt + (j - i)) * wd := (Nat.add_mul ..).symm
  have a3 : j * wd ≤ sz * wd := Nat.mul_le_mul_right _ hj
  unfold fm_170 fg_170_0
  refine ev_b (ev_gI p1 rfl rfl) (ev_b g4 (ev_f (fun e => e rfl) (ev_f (nI_pos (by omega)) ?_)))
  rw [nI_sub hij]
  refine ev_f (nI_pos (by omega)) (ev_b (ev_gI p1 rfl rfl) (ev_f (nI_nlt hj (by omega)) (ev_b g3 (ev_b g4 (ev_b (a := Value.ref 161) rfl (ev_b (a := nI 120) rfl ?_))))))
  rw [nI_add, ← nI_mul]
  refine ev_t (nI_le (b := 120) hc (by omega)) (ev_b (ev_gR p1 rfl rfl rfl) (ev_b g4 (ev_b (a := Value.ref 161) rfl (ev_b g3 (ev_b g4 (ev_b g4 ?_))))))
  rw [← nI_mul, ← nI_mul, ← nI_mul]
  refine ev_b (ev_cpy (f := f) (g := I 161) (n0 := m) (n1 := 120) (sp := i * wd) (dp := cnt * wd) (n := (j - i) * wd) (h1 := fx V (iup I 161 (va_cpy f (I 161) (i * wd) (cnt * wd) ((j - i) * wd))) L R ++ tl) p2 rfl (by omega) (by omega) (by omega) (by omega) rfl) ?_
  refine ev_b (a := nI cnt) (ev_gI (fs := [.ref 161, V 160 1, V 160 2, V 160 3, V 160 4, V 160 5, V 160 6, V 160 7, V 160 8, V 160 9, V 160 10]) (c := 3) rfl rfl (by show some (V 160 3) = _; rw [h3])) ?_
  rw [nI_add]
  exact ev_b qp_160_3 rfl
theorem prF_160 {V : Nat → Nat → Value} {I : Nat → Nat → Int32} {L : Nat → Nat → Int64} {R : Nat → Nat → Option Nat} {tl : am_H} {kd ln sz : Nat} (w : wt V) (h1 : V 160 1 = .int (nI kd)) (h2 : V 160 2 = .int (nI ln)) (h3 : V 160 3 = .int (nI sz)) (h4 : V 160 4 = .int (nI (wdN kd))) : prA V I tl 160 161 kd ln sz 120 (I 161) := by
  intro W J L R hw hj
  obtain ⟨x5, e5⟩ := w.1 160 5 (by decide)
  obtain ⟨x6, e6⟩ := w.1 160 6 (by decide)
  obtain ⟨x7, e7⟩ := w.1 160 7 (by decide)
  obtain ⟨x8, e8⟩ := w.1 160 8 (by decide)
  obtain ⟨x9, e9⟩ := w.1 160 9 (by decide)
  obtain ⟨x10, e10⟩ := w.2 160 10 (by decide)
  refine ⟨x5, x6, x7, x8, x9, x10, ?_, ?_⟩
  · show some (Sum.inr (3, [.ref 161, W 160 1, W 160 2, W 160 3, W 160 4, W 160 5, W 160 6, W 160 7, W 160 8, W 160 9, W 160 10])) = _
    rw [hw, hw, hw, hw, hw, hw, hw, hw, hw, hw, h1, h2, h3, h4, e5, e6, e7, e8, e9, e10]
  · show some (Sum.inl (0, 120, Sum.inl (J 161))) = _
    rw [hj]
set_option maxRecDepth 100000 in
set_option maxHeartbeats 4000000 in
theorem p60_160 {V : Nat → Nat → Value} {I : Nat → Nat → Int32} {L : Nat → Nat → Int64} {R : Nat → Nat → Option Nat} {tl : am_H} {A it kd ln sz m : Nat} {f : Nat → Int32} (hp : prA V I tl A it kd ln sz m f) (hA : A ≠ 160) (hk : kd ≤ 3) (hm : sz * wdN kd ≤ m) (hm2 : m ≤ 1000) (hs : sz * wdN kd ≤ 120) (hz : sz ≤ 120) : fm_60 (.ref 160) (.ref A) (fx V I L R ++ tl) = some (.inl (none, fx (vup (vup (vup (vup (vup V 160 1 (.int (nI kd))) 160 2 (.int (nI ln))) 160 3 (.int 0)) 160 4 (.int (if nI kd = 2 then 5 else 2))) 160 3 (.int (nI sz))) (iup I 161 (va_cpy f (I 161) 0 0 (sz * wdN kd))) L R ++ tl)) := by
  obtain ⟨x1, x2, x3, x4, x5, x6, p1, p2⟩ := hp V I L R (fun _ => rfl) rfl
  have ew : (if nI kd = 2 then (5 : Int32) else 2) = nI (wdN kd) := by
    unfold wdN
    by_cases c : kd = 2
    · rw [if_pos c, if_pos (show nI kd = 2 by rw [c]; rfl)]
      rfl
    · rw [if_neg c, if_neg (show ¬ nI kd = 2 from fun e => c ((nI_eq (b := 2) (by omega) (by omega)).mp e))]
      rfl
  have ne : ∀ {X : Value} {j : Nat} {W : Nat → Nat → Value} (i : Nat), vup W 160 j X A i = W A i := fun i => vup_o (fun e => hA e.1)
  obtain ⟨y1, y2, y3, y4, y5, y6, q1, q2⟩ := hp (vup (vup (vup (vup V 160 1 (.int (nI kd))) 160 2 (.int (nI ln))) 160 3 (.int 0)) 160 4 (.int (if nI kd = 2 then 5 else 2))) I L R (fun i => by rw [ne, ne, ne, ne]) rfl
  obtain ⟨z1, z2, z3, z4, z5, z6, r1, r2⟩ := hp (vup (vup (vup (vup (vup V 160 1 (.int (nI kd))) 160 2 (.int (nI ln))) 160 3 (.int 0)) 160 4 (.int (if nI kd = 2 then 5 else 2))) 160 3 (.int (nI sz))) I L R (fun i => by rw [ne, ne, ne, ne, ne]) rfl
  unfold fm_60 fg_60_0
  refine ev_b (ev_gI p1 rfl rfl) (ev_b (ev_gI p1 rfl rfl) (ev_i rfl (ev_cV (p34_160 (nI kd) (nI ln)) ?_)))
  refine ev_b (ev_gI q1 rfl rfl) (ev_b (a := if nI kd = 2 then 5 else 2) rfl (ev_b (a := Value.ref 161) rfl (ev_b (a := nI 120) rfl ?_)))
  rw [show nI sz * (if nI kd = 2 then (5 : Int32) else 2) = nI (sz * wdN kd) by rw [ew, nI_mul]]
  refine ev_f (nI_nlt (a := 120) hs (by omega)) (ev_b (ev_gI q1 rfl rfl) (ev_b qp_160_3 (ev_b (ev_gR r1 rfl rfl rfl) (ev_b (a := Value.ref 161) rfl (ev_b (a := nI sz) rfl (ev_b (a := if nI kd = 2 then 5 else 2) rfl ?_))))))
  rw [show nI sz * (if nI kd = 2 then (5 : Int32) else 2) = nI (sz * wdN kd) by rw [ew, nI_mul]]
  refine ev_b (ev_cpy (f := f) (g := I 161) (n0 := m) (n1 := 120) (sp := 0) (dp := 0) (n := sz * wdN kd) r2 rfl (by omega) (by omega) (by omega) (by omega) rfl) rfl
theorem srcP_160 {V : Nat → Nat → Value} {I : Nat → Nat → Int32} {L : Nat → Nat → Int64} {R : Nat → Nat → Option Nat} {tl : am_H} {kd ln : Nat} {P : xT} (w : wt V) (h : hold V I 160 kd ln P) (hk : kd ≤ 3) (h2 : kd ≠ 2) (hl : P.length ≤ 60) : srcP V I tl 160 161 kd ln P := ⟨120, I 161, prF_160 (L := fun _ _ => 0) (R := fun _ _ => none) w h.1 h.2.1 h.2.2.1 (by rw [wd2 h2]; exact h.2.2.2.1), h.2.2.2.2, by omega, by omega, hk, h2, hl⟩
theorem s34_160 {V : Nat → Nat → Value} {I : Nat → Nat → Int32} {L : Nat → Nat → Int64} {R : Nat → Nat → Option Nat} {tl : am_H} {kd ln : Nat} (k l : Int32) (hk : k = nI kd) (hl : l = nI ln) (h3 : kd ≤ 3) (h2 : kd ≠ 2) : ∃ W J, fm_34 (.ref 160) k l (fx V I L R ++ tl) = some (.inl (none, fx W J L R ++ tl)) ∧ hold W J 160 kd ln [] ∧ fr1 160 V W I J := by
  refine ⟨_, _, p34_160 k l, ⟨by subst hk; rfl, by subst hl; rfl, rfl, congrArg Value.int (nI_w h2 h3 hk), tO_nil⟩, ?_⟩
  exact fr1_t (fr1_v (by decide)) (fr1_t (fr1_v (by decide)) (fr1_t (fr1_v (by decide)) (fr1_v (by decide))))
theorem s41_160 {V : Nat → Nat → Value} {I : Nat → Nat → Int32} {L : Nat → Nat → Int64} {R : Nat → Nat → Option Nat} {tl : am_H} {N kd ln a : Nat} {Q : xT} {b : Int32} (hN : 1 ≤ N) (h : hold V I 160 kd ln Q) (hl : Q.length < 60) (x : Int32) (hx : x = nI a) : ∃ W J, fm_41 N (.ref 160) x b (fx V I L R ++ tl) = some (.inl (some (.int 1), fx W J L R ++ tl)) ∧ hold W J 160 kd ln (Q ++ [(a, b)]) ∧ fr1 160 V W I J := by
  subst hx
  refine ⟨_, _, p41_160 hN h.2.2.1 h.2.2.2.1 (by omega) (nI a) b, ⟨h.1, h.2.1, ?_, h.2.2.2.1, tO_app h.2.2.2.2⟩, fr1_t (fr1_v (by decide)) fr1_i⟩
  rw [List.length_append]
  rfl
theorem s170_160 {V : Nat → Nat → Value} {I : Nat → Nat → Int32} {L : Nat → Nat → Int64} {R : Nat → Nat → Option Nat} {tl : am_H} {A it kd ln kd' ln' i j : Nat} {Q P : xT} (hs : srcP V I tl A it kd' ln' P) (h : hold V I 160 kd ln Q) (hij : i ≤ j) (hj : j ≤ P.length) (hq : Q.length + (j - i) ≤ 60) (x y : Int32) (hx : x = nI i) (hy : y = nI j) : ∃ W J, fm_170 (.ref 160) (.ref A) x y (fx V I L R ++ tl) = some (.inl (some (.int 1), fx W J L R ++ tl)) ∧ hold W J 160 kd ln (Q ++ seg P i j) ∧ fr1 160 V W I J := by
  subst hx
  subst hy
  obtain ⟨m, f, hp, hf, m1, m2, k3, k2, l60⟩ := hs
  obtain ⟨x1, x2, x3, x4, x5, x6, p1, p2⟩ := hp V I L R (fun _ => rfl) rfl
  refine ⟨_, _, p170_160 (wd := 2) (by rw [wd2 k2] at p1; exact p1) p2 h.2.2.1 h.2.2.2.1 hij hj l60 (by omega) m1 m2 (by omega) (by omega), ⟨h.1, h.2.1, ?_, h.2.2.2.1, tO_take h.2.2.2.2 hf hij hj⟩, fr1_t (fr1_v (by decide)) fr1_i⟩
  rw [List.length_append, seg_len hj]
  rfl
theorem s60_160 {V : Nat → Nat → Value} {I : Nat → Nat → Int32} {L : Nat → Nat → Int64} {R : Nat → Nat → Option Nat} {tl : am_H} {A it kd ln : Nat} {P : xT} (hs : srcP V I tl A it kd ln P) (hA : A ≠ 160) : ∃ W J, fm_60 (.ref 160) (.ref A) (fx V I L R ++ tl) = some (.inl (none, fx W J L R ++ tl)) ∧ hold W J 160 kd ln P ∧ fr1 160 V W I J := by
  obtain ⟨m, f, hp, hf, m1, m2, k3, k2, l60⟩ := hs
  have hw := wd2 k2
  refine ⟨_, _, p60_160 hp hA k3 (by rw [hw]; exact m1) m2 (by rw [hw]; omega) (by omega), ⟨rfl, rfl, rfl, congrArg Value.int (nI_w k2 k3 rfl), ?_⟩, ?_⟩
  · rw [hw]
    exact tO_cpy hf
  · exact fr1_t (fr1_v (by decide)) (fr1_t (fr1_v (by decide)) (fr1_t (fr1_v (by decide)) (fr1_t (fr1_v (by decide)) (fr1_t (fr1_v (by decide)) fr1_i))))
set_option maxRecDepth 100000 in
set_option maxHeartbeats 4000000 in
theorem p34_162 {V : Nat → Nat → Value} {I : Nat → Nat → Int32} {L : Nat → Nat → Int64} {R : Nat → Nat → Option Nat} {tl : am_H} (k l : Int32) : fm_34 (.ref 162) k l (fx V I L R ++ tl) = some (.inl (none, fx (vup (vup (vup (vup V 162 1 (.int k)) 162 2 (.int l)) 162 3 (.int 0)) 162 4 (.int (if k = 2 then 5 else 2))) I L R ++ tl)) := by
  unfold fm_34 fg_34_0
  refine ev_b (a := fx (vup V 162 1 (.int k)) I L R ++ tl) (ev_p rfl rfl rfl rfl) ?_
  refine ev_b (a := fx (vup (vup V 162 1 (.int k)) 162 2 (.int l)) I L R ++ tl) (ev_p rfl rfl rfl rfl) ?_
  refine ev_b (a := fx (vup (vup (vup V 162 1 (.int k)) 162 2 (.int l)) 162 3 (.int 0)) I L R ++ tl) (ev_p rfl rfl rfl rfl) ?_
  by_cases c : k = 2
  · rw [if_pos c]
    refine ev_f (fun e => e c) ?_
    unfold fg_34_26
    exact ev_b (ev_p rfl rfl rfl rfl) rfl
  · rw [if_neg c]
    refine ev_t c ?_
    unfold fg_34_26
    exact ev_b (ev_p rfl rfl rfl rfl) rfl
set_option maxRecDepth 100000 in
set_option maxHeartbeats 4000000 in
theorem p41_162 {V : Nat → Nat → Value} {I : Nat → Nat → Int32} {L : Nat → Nat → Int64} {R : Nat → Nat → Option Nat} {tl : am_H} {N s : Nat} (hN : 1 ≤ N) (h3 : V 162 3 = .int (nI s)) (h4 : V 162 4 = .int 2) (hs : 2 * s + 2 ≤ 120) (a b : Int32) : fm_41 N (.ref 162) a b (fx V I L R ++ tl) = some (.inl (some (.int 1), fx (vup V 162 3 (.int (nI (s + 1)))) (iup I 163 (upd (upd (I 163) (2 * s) a) (2 * s + 1) b)) L R ++ tl)) := by
  obtain ⟨N, rfl⟩ : ∃ k, N = k + 1 := ⟨N - 1, by omega⟩
  have g3 : ∀ {I : Nat → Nat → Int32}, am_vI (am_pG 771 (.ref 162) (fx V I L R ++ tl)) = some (nI s) := fun {I} => by show am_vI (some (V 162 3)) = _; rw [h3]; rfl
  have g4 : ∀ {I : Nat → Nat → Int32}, am_vI (am_pG 772 (.ref 162) (fx V I L R ++ tl)) = some 2 := fun {I} => by show am_vI (some (V 162 4)) = _; rw [h4]; rfl
  unfold fm_41 fg_41_0
  refine ev_b g3 ?_
  refine ev_b g4 ?_
  refine ev_b g4 ?_
  refine ev_b (a := .ref 163) rfl ?_
  refine ev_b (a := nI 120) rfl ?_
  rw [show nI s * 2 = nI (2 * s) by rw [Nat.mul_comm, nI_mul]; rfl]
  refine ev_t (by rw [show (2 : Int32) = nI 2 from rfl, nI_add]; exact nI_le hs (by omega)) ?_
  rw [fg_41_29]
  refine ev_b g4 ?_
  refine ev_t (by decide) ?_
  refine ev_b (a := .ref 163) rfl ?_
  refine ev_b (ev_s (f := I 163) (n := 120) (h1 := fx V (iup I 163 (upd (I 163) (2 * s) a)) L R ++ tl) rfl (am_inb_n (by omega) (by omega)) rfl (by rw [nI_clamp (by omega)]; rfl)) ?_
  refine ev_b (a := .ref 163) rfl ?_
  rw [nI_1]
  refine ev_b (ev_s (f := upd (I 163) (2 * s) a) (n := 120) (h1 := fx V (iup I 163 (upd (upd (I 163) (2 * s) a) (2 * s + 1) b)) L R ++ tl) rfl (am_inb_n (by omega) (by omega)) rfl (by rw [nI_clamp (by omega)]; rfl)) ?_
  refine ev_b g3 ?_
  rw [nI_1]
  exact ev_b (ev_p rfl rfl rfl rfl) rfl
set_option maxRecDepth 100000 in
set_option maxHeartbeats 1600000 in
/-- take(): items of a program, onto the spare one -/
theorem p170_162 {V : Nat → Nat → Value} {I : Nat → Nat → Int32} {L : Nat → Nat → Int64} {R : Nat → Nat → Option Nat} {tl : am_H} {A it m i j cnt wd sz : Nat} {kd ln x1 x2 x3 x4 x5 : Int32} {x6 : Int64} {f : Nat → Int32} (p1 : (fx V I L R ++ tl)[A]? = some (.inr (3, [.ref it, .int kd, .int ln, .int (nI sz), .int (nI wd), .int x1, .int x2, .int x3, .int x4, .int x5, .long x6]))) (p2 : (fx V I L R ++ tl)[it]? = some (.inl (0, m, .inl f))) (h3 : V 162 3 = .int (nI cnt)) (h4 : V 162 4 = .int (nI wd)) (hij : i ≤ j) (hj : j ≤ sz) (hsz : sz ≤ 60) (hw : wd ≤ 5) (hm : sz * wd ≤ m) (hm2 : m ≤ 1000) (hc : (cnt + (j - i)) * wd ≤ 120) (hcn : cnt ≤ 120) : fm_170 (.ref 162) (.ref A) (nI i) (nI j) (fx V I L R ++ tl) = some (.inl (some (.int 1), fx (vup V 162 3 (.int (nI (cnt + (j - i))))) (iup I 163 (va_cpy f (I 163) (i * wd) (cnt * wd) ((j - i) * wd))) L R ++ tl)) := by
  have hq : (fx V I L R ++ tl)[162]? = some (.inr (3, [.ref 163, V 162 1, V 162 2, V 162 3, V 162 4, V 162 5, V 162 6, V 162 7, V 162 8, V 162 9, V 162 10])) := rfl
  have g3 : am_vI (am_pG 771 (.ref 162) (fx V I L R ++ tl)) = some (nI cnt) := ev_gI hq rfl (by show some (V 162 3) = _; rw [h3])
  have g4 : am_vI (am_pG 772 (.ref 162) (fx V I L R ++ tl)) = some (nI wd) := ev_gI hq rfl (by show some (V 162 4) = _; rw [h4])
  have a1 : i * wd + (j - i) * wd = j * wd := by rw [← Nat.add_mul, show i + (j - i) = j by omega]
  have a2 : cnt * wd + (j - i) * wd = (cnt + (j - i)) * wd := (Nat.add_mul ..).symm
  have a3 : j * wd ≤ sz * wd := Nat.mul_le_mul_right _ hj
  unfold fm_170 fg_170_0
  refine ev_b (ev_gI p1 rfl rfl) (ev_b g4 (ev_f (fun e => e rfl) (ev_f (nI_pos (by omega)) ?_)))
  rw [nI_sub hij]
  refine ev_f (nI_pos (by omega)) (ev_b (ev_gI p1 rfl rfl) (ev_f (nI_nlt hj (by omega)) (ev_b g3 (ev_b g4 (ev_b (a := Value.ref 163) rfl (ev_b (a := nI 120) rfl ?_))))))
  rw [nI_add, ← nI_mul]
  refine ev_t (nI_le (b := 120) hc (by omega)) (ev_b (ev_gR p1 rfl rfl rfl) (ev_b g4 (ev_b (a := Value.ref 163) rfl (ev_b g3 (ev_b g4 (ev_b g4 ?_))))))
  rw [← nI_mul, ← nI_mul, ← nI_mul]
  refine ev_b (ev_cpy (f := f) (g := I 163) (n0 := m) (n1 := 120) (sp := i * wd) (dp := cnt * wd) (n := (j - i) * wd) (h1 := fx V (iup I 163 (va_cpy f (I 163) (i * wd) (cnt * wd) ((j - i) * wd))) L R ++ tl) p2 rfl (by omega) (by omega) (by omega) (by omega) rfl) ?_
  refine ev_b (a := nI cnt) (ev_gI (fs := [.ref 163, V 162 1, V 162 2, V 162 3, V 162 4, V 162 5, V 162 6, V 162 7, V 162 8, V 162 9, V 162 10]) (c := 3) rfl rfl (by show some (V 162 3) = _; rw [h3])) ?_
  rw [nI_add]
  exact ev_b qp_162_3 rfl
theorem prF_162 {V : Nat → Nat → Value} {I : Nat → Nat → Int32} {L : Nat → Nat → Int64} {R : Nat → Nat → Option Nat} {tl : am_H} {kd ln sz : Nat} (w : wt V) (h1 : V 162 1 = .int (nI kd)) (h2 : V 162 2 = .int (nI ln)) (h3 : V 162 3 = .int (nI sz)) (h4 : V 162 4 = .int (nI (wdN kd))) : prA V I tl 162 163 kd ln sz 120 (I 163) := by
  intro W J L R hw hj
  obtain ⟨x5, e5⟩ := w.1 162 5 (by decide)
  obtain ⟨x6, e6⟩ := w.1 162 6 (by decide)
  obtain ⟨x7, e7⟩ := w.1 162 7 (by decide)
  obtain ⟨x8, e8⟩ := w.1 162 8 (by decide)
  obtain ⟨x9, e9⟩ := w.1 162 9 (by decide)
  obtain ⟨x10, e10⟩ := w.2 162 10 (by decide)
  refine ⟨x5, x6, x7, x8, x9, x10, ?_, ?_⟩
  · show some (Sum.inr (3, [.ref 163, W 162 1, W 162 2, W 162 3, W 162 4, W 162 5, W 162 6, W 162 7, W 162 8, W 162 9, W 162 10])) = _
    rw [hw, hw, hw, hw, hw, hw, hw, hw, hw, hw, h1, h2, h3, h4, e5, e6, e7, e8, e9, e10]
  · show some (Sum.inl (0, 120, Sum.inl (J 163))) = _
    rw [hj]
set_option maxRecDepth 100000 in
set_option maxHeartbeats 4000000 in
theorem p60_162 {V : Nat → Nat → Value} {I : Nat → Nat → Int32} {L : Nat → Nat → Int64} {R : Nat → Nat → Option Nat} {tl : am_H} {A it kd ln sz m : Nat} {f : Nat → Int32} (hp : prA V I tl A it kd ln sz m f) (hA : A ≠ 162) (hk : kd ≤ 3) (hm : sz * wdN kd ≤ m) (hm2 : m ≤ 1000) (hs : sz * wdN kd ≤ 120) (hz : sz ≤ 120) : fm_60 (.ref 162) (.ref A) (fx V I L R ++ tl) = some (.inl (none, fx (vup (vup (vup (vup (vup V 162 1 (.int (nI kd))) 162 2 (.int (nI ln))) 162 3 (.int 0)) 162 4 (.int (if nI kd = 2 then 5 else 2))) 162 3 (.int (nI sz))) (iup I 163 (va_cpy f (I 163) 0 0 (sz * wdN kd))) L R ++ tl)) := by
  obtain ⟨x1, x2, x3, x4, x5, x6, p1, p2⟩ := hp V I L R (fun _ => rfl) rfl
  have ew : (if nI kd = 2 then (5 : Int32) else 2) = nI (wdN kd) := by
    unfold wdN
    by_cases c : kd = 2
    · rw [if_pos c, if_pos (show nI kd = 2 by rw [c]; rfl)]
      rfl
    · rw [if_neg c, if_neg (show ¬ nI kd = 2 from fun e => c ((nI_eq (b := 2) (by omega) (by omega)).mp e))]
      rfl
  have ne : ∀ {X : Value} {j : Nat} {W : Nat → Nat → Value} (i : Nat), vup W 162 j X A i = W A i := fun i => vup_o (fun e => hA e.1)
  obtain ⟨y1, y2, y3, y4, y5, y6, q1, q2⟩ := hp (vup (vup (vup (vup V 162 1 (.int (nI kd))) 162 2 (.int (nI ln))) 162 3 (.int 0)) 162 4 (.int (if nI kd = 2 then 5 else 2))) I L R (fun i => by rw [ne, ne, ne, ne]) rfl
  obtain ⟨z1, z2, z3, z4, z5, z6, r1, r2⟩ := hp (vup (vup (vup (vup (vup V 162 1 (.int (nI kd))) 162 2 (.int (nI ln))) 162 3 (.int 0)) 162 4 (.int (if nI kd = 2 then 5 else 2))) 162 3 (.int (nI sz))) I L R (fun i => by rw [ne, ne, ne, ne, ne]) rfl
  unfold fm_60 fg_60_0
  refine ev_b (ev_gI p1 rfl rfl) (ev_b (ev_gI p1 rfl rfl) (ev_i rfl (ev_cV (p34_162 (nI kd) (nI ln)) ?_)))
  refine ev_b (ev_gI q1 rfl rfl) (ev_b (a := if nI kd = 2 then 5 else 2) rfl (ev_b (a := Value.ref 163) rfl (ev_b (a := nI 120) rfl ?_)))
  rw [show nI sz * (if nI kd = 2 then (5 : Int32) else 2) = nI (sz * wdN kd) by rw [ew, nI_mul]]
  refine ev_f (nI_nlt (a := 120) hs (by omega)) (ev_b (ev_gI q1 rfl rfl) (ev_b qp_162_3 (ev_b (ev_gR r1 rfl rfl rfl) (ev_b (a := Value.ref 163) rfl (ev_b (a := nI sz) rfl (ev_b (a := if nI kd = 2 then 5 else 2) rfl ?_))))))
  rw [show nI sz * (if nI kd = 2 then (5 : Int32) else 2) = nI (sz * wdN kd) by rw [ew, nI_mul]]
  refine ev_b (ev_cpy (f := f) (g := I 163) (n0 := m) (n1 := 120) (sp := 0) (dp := 0) (n := sz * wdN kd) r2 rfl (by omega) (by omega) (by omega) (by omega) rfl) rfl
theorem srcP_162 {V : Nat → Nat → Value} {I : Nat → Nat → Int32} {L : Nat → Nat → Int64} {R : Nat → Nat → Option Nat} {tl : am_H} {kd ln : Nat} {P : xT} (w : wt V) (h : hold V I 162 kd ln P) (hk : kd ≤ 3) (h2 : kd ≠ 2) (hl : P.length ≤ 60) : srcP V I tl 162 163 kd ln P := ⟨120, I 163, prF_162 (L := fun _ _ => 0) (R := fun _ _ => none) w h.1 h.2.1 h.2.2.1 (by rw [wd2 h2]; exact h.2.2.2.1), h.2.2.2.2, by omega, by omega, hk, h2, hl⟩
theorem s34_162 {V : Nat → Nat → Value} {I : Nat → Nat → Int32} {L : Nat → Nat → Int64} {R : Nat → Nat → Option Nat} {tl : am_H} {kd ln : Nat} (k l : Int32) (hk : k = nI kd) (hl : l = nI ln) (h3 : kd ≤ 3) (h2 : kd ≠ 2) : ∃ W J, fm_34 (.ref 162) k l (fx V I L R ++ tl) = some (.inl (none, fx W J L R ++ tl)) ∧ hold W J 162 kd ln [] ∧ fr1 162 V W I J := by
  refine ⟨_, _, p34_162 k l, ⟨by subst hk; rfl, by subst hl; rfl, rfl, congrArg Value.int (nI_w h2 h3 hk), tO_nil⟩, ?_⟩
  exact fr1_t (fr1_v (by decide)) (fr1_t (fr1_v (by decide)) (fr1_t (fr1_v (by decide)) (fr1_v (by decide))))
theorem s41_162 {V : Nat → Nat → Value} {I : Nat → Nat → Int32} {L : Nat → Nat → Int64} {R : Nat → Nat → Option Nat} {tl : am_H} {N kd ln a : Nat} {Q : xT} {b : Int32} (hN : 1 ≤ N) (h : hold V I 162 kd ln Q) (hl : Q.length < 60) (x : Int32) (hx : x = nI a) : ∃ W J, fm_41 N (.ref 162) x b (fx V I L R ++ tl) = some (.inl (some (.int 1), fx W J L R ++ tl)) ∧ hold W J 162 kd ln (Q ++ [(a, b)]) ∧ fr1 162 V W I J := by
  subst hx
  refine ⟨_, _, p41_162 hN h.2.2.1 h.2.2.2.1 (by omega) (nI a) b, ⟨h.1, h.2.1, ?_, h.2.2.2.1, tO_app h.2.2.2.2⟩, fr1_t (fr1_v (by decide)) fr1_i⟩
  rw [List.length_append]
  rfl
theorem s170_162 {V : Nat → Nat → Value} {I : Nat → Nat → Int32} {L : Nat → Nat → Int64} {R : Nat → Nat → Option Nat} {tl : am_H} {A it kd ln kd' ln' i j : Nat} {Q P : xT} (hs : srcP V I tl A it kd' ln' P) (h : hold V I 162 kd ln Q) (hij : i ≤ j) (hj : j ≤ P.length) (hq : Q.length + (j - i) ≤ 60) (x y : Int32) (hx : x = nI i) (hy : y = nI j) : ∃ W J, fm_170 (.ref 162) (.ref A) x y (fx V I L R ++ tl) = some (.inl (some (.int 1), fx W J L R ++ tl)) ∧ hold W J 162 kd ln (Q ++ seg P i j) ∧ fr1 162 V W I J := by
  subst hx
  subst hy
  obtain ⟨m, f, hp, hf, m1, m2, k3, k2, l60⟩ := hs
  obtain ⟨x1, x2, x3, x4, x5, x6, p1, p2⟩ := hp V I L R (fun _ => rfl) rfl
  refine ⟨_, _, p170_162 (wd := 2) (by rw [wd2 k2] at p1; exact p1) p2 h.2.2.1 h.2.2.2.1 hij hj l60 (by omega) m1 m2 (by omega) (by omega), ⟨h.1, h.2.1, ?_, h.2.2.2.1, tO_take h.2.2.2.2 hf hij hj⟩, fr1_t (fr1_v (by decide)) fr1_i⟩
  rw [List.length_append, seg_len hj]
  rfl
theorem s60_162 {V : Nat → Nat → Value} {I : Nat → Nat → Int32} {L : Nat → Nat → Int64} {R : Nat → Nat → Option Nat} {tl : am_H} {A it kd ln : Nat} {P : xT} (hs : srcP V I tl A it kd ln P) (hA : A ≠ 162) : ∃ W J, fm_60 (.ref 162) (.ref A) (fx V I L R ++ tl) = some (.inl (none, fx W J L R ++ tl)) ∧ hold W J 162 kd ln P ∧ fr1 162 V W I J := by
  obtain ⟨m, f, hp, hf, m1, m2, k3, k2, l60⟩ := hs
  have hw := wd2 k2
  refine ⟨_, _, p60_162 hp hA k3 (by rw [hw]; exact m1) m2 (by rw [hw]; omega) (by omega), ⟨rfl, rfl, rfl, congrArg Value.int (nI_w k2 k3 rfl), ?_⟩, ?_⟩
  · rw [hw]
    exact tO_cpy hf
  · exact fr1_t (fr1_v (by decide)) (fr1_t (fr1_v (by decide)) (fr1_t (fr1_v (by decide)) (fr1_t (fr1_v (by decide)) (fr1_t (fr1_v (by decide)) fr1_i))))
set_option maxRecDepth 100000 in
set_option maxHeartbeats 4000000 in
theorem s41f_141 {V : Nat → Nat → Value} {I : Nat → Nat → Int32} {L : Nat → Nat → Int64} {R : Nat → Nat → Option Nat} {tl : am_H} {N kd ln : Nat} {Q : xT} {x b : Int32} (h : hold V I 141 kd ln Q) (hl : Q.length = 60) : fm_41 N (.ref 141) x b (fx V I L R ++ tl) = some (.inl (some (.int 0), fx V I L R ++ tl)) := by
  obtain ⟨h1, h2, h3, h4, h5⟩ := h
  rw [hl] at h3
  unfold fm_41 fg_41_0
  exact ev_b (rdI h3) (ev_b (rdI h4) (ev_b (rdI h4) (ev_b (rdR rfl) (ev_b (rdLen rfl rfl) (ev_f (by decide) rfl)))))
set_option maxRecDepth 100000 in
set_option maxHeartbeats 4000000 in
theorem s41f_169 {V : Nat → Nat → Value} {I : Nat → Nat → Int32} {L : Nat → Nat → Int64} {R : Nat → Nat → Option Nat} {tl : am_H} {N kd ln : Nat} {Q : xT} {x b : Int32} (h : hold V I 169 kd ln Q) (hl : Q.length = 60) : fm_41 N (.ref 169) x b (fx V I L R ++ tl) = some (.inl (some (.int 0), fx V I L R ++ tl)) := by
  obtain ⟨h1, h2, h3, h4, h5⟩ := h
  rw [hl] at h3
  unfold fm_41 fg_41_0
  exact ev_b (rdI h3) (ev_b (rdI h4) (ev_b (rdI h4) (ev_b (rdR rfl) (ev_b (rdLen rfl rfl) (ev_f (by decide) rfl)))))
set_option maxRecDepth 100000 in
set_option maxHeartbeats 4000000 in
theorem s170f_141 {V : Nat → Nat → Value} {I : Nat → Nat → Int32} {L : Nat → Nat → Int64} {R : Nat → Nat → Option Nat} {tl : am_H} {A it kd ln kd' ln' : Nat} {Q P : xT} (hs : srcP V I tl A it kd' ln' P) (h : hold V I 141 kd ln Q) (hl : Q.length ≤ 60) (hq : 60 < Q.length + P.length) (y : Int32) (hy : y = nI P.length) : fm_170 (.ref 141) (.ref A) 0 y (fx V I L R ++ tl) = some (.inl (some (.int 0), fx V I L R ++ tl)) := by
  subst hy
  obtain ⟨m, f, hp, hf, m1, m2, k3, k2, l60⟩ := hs
  obtain ⟨x1, x2, x3, x4, x5, x6, p1, p2⟩ := hp V I L R (fun _ => rfl) rfl
  rw [wd2 k2] at p1
  obtain ⟨h1, h2, h3, h4, h5⟩ := h
  unfold fm_170 fg_170_0
  have e0 : nI P.length - 0 = nI P.length := nI_sub (b := 0) (by omega)
  rw [e0]
  refine ev_b (ev_gI p1 rfl rfl) (ev_b (rdI h4) (ev_f (fun h => h rfl) (ev_f (by decide) (ev_f (nI_pos (by omega)) (ev_b (ev_gI p1 rfl rfl) (ev_f (nI_nlt (Nat.le_refl _) (by omega)) (ev_b (rdI h3) (ev_b (rdI h4) (ev_b (rdR rfl) (ev_b ql_142 ?_))))))))))
  rw [nI_add, nI_mm]
  exact ev_f (nI_ge (a := 120) (by omega) (by omega)) rfl
set_option maxRecDepth 100000 in
set_option maxHeartbeats 4000000 in
theorem s170f_167 {V : Nat → Nat → Value} {I : Nat → Nat → Int32} {L : Nat → Nat → Int64} {R : Nat → Nat → Option Nat} {tl : am_H} {A it kd ln kd' ln' : Nat} {Q P : xT} (hs : srcP V I tl A it kd' ln' P) (h : hold V I 167 kd ln Q) (hl : Q.length ≤ 60) (hq : 60 < Q.length + P.length) (y : Int32) (hy : y = nI P.length) : fm_170 (.ref 167) (.ref A) 0 y (fx V I L R ++ tl) = some (.inl (some (.int 0), fx V I L R ++ tl)) := by
  subst hy
  obtain ⟨m, f, hp, hf, m1, m2, k3, k2, l60⟩ := hs
  obtain ⟨x1, x2, x3, x4, x5, x6, p1, p2⟩ := hp V I L R (fun _ => rfl) rfl
  rw [wd2 k2] at p1
  obtain ⟨h1, h2, h3, h4, h5⟩ := h
  unfold fm_170 fg_170_0
  have e0 : nI P.length - 0 = nI P.length := nI_sub (b := 0) (by omega)
  rw [e0]
  refine ev_b (ev_gI p1 rfl rfl) (ev_b (rdI h4) (ev_f (fun h => h rfl) (ev_f (by decide) (ev_f (nI_pos (by omega)) (ev_b (ev_gI p1 rfl rfl) (ev_f (nI_nlt (Nat.le_refl _) (by omega)) (ev_b (rdI h3) (ev_b (rdI h4) (ev_b (rdR rfl) (ev_b ql_168 ?_))))))))))
  rw [nI_add, nI_mm]
  exact ev_f (nI_ge (a := 120) (by omega) (by omega)) rfl
set_option maxRecDepth 100000 in
set_option maxHeartbeats 4000000 in
theorem s170f_169 {V : Nat → Nat → Value} {I : Nat → Nat → Int32} {L : Nat → Nat → Int64} {R : Nat → Nat → Option Nat} {tl : am_H} {A it kd ln kd' ln' : Nat} {Q P : xT} (hs : srcP V I tl A it kd' ln' P) (h : hold V I 169 kd ln Q) (hl : Q.length ≤ 60) (hq : 60 < Q.length + P.length) (y : Int32) (hy : y = nI P.length) : fm_170 (.ref 169) (.ref A) 0 y (fx V I L R ++ tl) = some (.inl (some (.int 0), fx V I L R ++ tl)) := by
  subst hy
  obtain ⟨m, f, hp, hf, m1, m2, k3, k2, l60⟩ := hs
  obtain ⟨x1, x2, x3, x4, x5, x6, p1, p2⟩ := hp V I L R (fun _ => rfl) rfl
  rw [wd2 k2] at p1
  obtain ⟨h1, h2, h3, h4, h5⟩ := h
  unfold fm_170 fg_170_0
  have e0 : nI P.length - 0 = nI P.length := nI_sub (b := 0) (by omega)
  rw [e0]
  refine ev_b (ev_gI p1 rfl rfl) (ev_b (rdI h4) (ev_f (fun h => h rfl) (ev_f (by decide) (ev_f (nI_pos (by omega)) (ev_b (ev_gI p1 rfl rfl) (ev_f (nI_nlt (Nat.le_refl _) (by omega)) (ev_b (rdI h3) (ev_b (rdI h4) (ev_b (rdR rfl) (ev_b ql_170 ?_))))))))))
  rw [nI_add, nI_mm]
  exact ev_f (nI_ge (a := 120) (by omega) (by omega)) rfl
set_option maxRecDepth 100000 in
set_option maxHeartbeats 4000000 in
theorem srcP_p {V : Nat → Nat → Value} {I : Nat → Nat → Int32} {L : Nat → Nat → Int64} {R : Nat → Nat → Option Nat} {tl : am_H} {q : Nat} (hq : q < 8) {kd ln : Nat} {P : xT} (w : wt V) (h : hold V I (148 + 2 * q) kd ln P) (hk : kd ≤ 3) (h2 : kd ≠ 2) (hl : P.length ≤ 60) : srcP V I tl (148 + 2 * q) (148 + 2 * q + 1) kd ln P := by
  rcases (by omega : q = 0 ∨ q = 1 ∨ q = 2 ∨ q = 3 ∨ q = 4 ∨ q = 5 ∨ q = 6 ∨ q = 7) with r | r | r | r | r | r | r | r <;> subst r
  · exact srcP_148 (L := L) (R := R) w h hk h2 hl
  · exact srcP_150 (L := L) (R := R) w h hk h2 hl
  · exact srcP_152 (L := L) (R := R) w h hk h2 hl
  · exact srcP_154 (L := L) (R := R) w h hk h2 hl
  · exact srcP_156 (L := L) (R := R) w h hk h2 hl
  · exact srcP_158 (L := L) (R := R) w h hk h2 hl
  · exact srcP_160 (L := L) (R := R) w h hk h2 hl
  · exact srcP_162 (L := L) (R := R) w h hk h2 hl
set_option maxRecDepth 100000 in
set_option maxHeartbeats 4000000 in
theorem s34_p {V : Nat → Nat → Value} {I : Nat → Nat → Int32} {L : Nat → Nat → Int64} {R : Nat → Nat → Option Nat} {tl : am_H} {q : Nat} (hq : q < 8) {kd ln : Nat} (k l : Int32) (hk : k = nI kd) (hl : l = nI ln) (h3 : kd ≤ 3) (h2 : kd ≠ 2) : ∃ W J, fm_34 (.ref (148 + 2 * q)) k l (fx V I L R ++ tl) = some (.inl (none, fx W J L R ++ tl)) ∧ hold W J (148 + 2 * q) kd ln [] ∧ fr1 (148 + 2 * q) V W I J := by
  rcases (by omega : q = 0 ∨ q = 1 ∨ q = 2 ∨ q = 3 ∨ q = 4 ∨ q = 5 ∨ q = 6 ∨ q = 7) with r | r | r | r | r | r | r | r <;> subst r
  · exact s34_148 k l hk hl h3 h2
  · exact s34_150 k l hk hl h3 h2
  · exact s34_152 k l hk hl h3 h2
  · exact s34_154 k l hk hl h3 h2
  · exact s34_156 k l hk hl h3 h2
  · exact s34_158 k l hk hl h3 h2
  · exact s34_160 k l hk hl h3 h2
  · exact s34_162 k l hk hl h3 h2
set_option maxRecDepth 100000 in
set_option maxHeartbeats 4000000 in
theorem s41_p {V : Nat → Nat → Value} {I : Nat → Nat → Int32} {L : Nat → Nat → Int64} {R : Nat → Nat → Option Nat} {tl : am_H} {q : Nat} (hq : q < 8) {N kd ln a : Nat} {Q : xT} {b : Int32} (hN : 1 ≤ N) (h : hold V I (148 + 2 * q) kd ln Q) (hl : Q.length < 60) (x : Int32) (hx : x = nI a) : ∃ W J, fm_41 N (.ref (148 + 2 * q)) x b (fx V I L R ++ tl) = some (.inl (some (.int 1), fx W J L R ++ tl)) ∧ hold W J (148 + 2 * q) kd ln (Q ++ [(a, b)]) ∧ fr1 (148 + 2 * q) V W I J := by
  rcases (by omega : q = 0 ∨ q = 1 ∨ q = 2 ∨ q = 3 ∨ q = 4 ∨ q = 5 ∨ q = 6 ∨ q = 7) with r | r | r | r | r | r | r | r <;> subst r
  · exact s41_148 hN h hl x hx
  · exact s41_150 hN h hl x hx
  · exact s41_152 hN h hl x hx
  · exact s41_154 hN h hl x hx
  · exact s41_156 hN h hl x hx
  · exact s41_158 hN h hl x hx
  · exact s41_160 hN h hl x hx
  · exact s41_162 hN h hl x hx
set_option maxRecDepth 100000 in
set_option maxHeartbeats 4000000 in
theorem s60_p {V : Nat → Nat → Value} {I : Nat → Nat → Int32} {L : Nat → Nat → Int64} {R : Nat → Nat → Option Nat} {tl : am_H} {q : Nat} (hq : q < 8) {A it kd ln : Nat} {P : xT} (hs : srcP V I tl A it kd ln P) (hA : A ≠ 148 + 2 * q) : ∃ W J, fm_60 (.ref (148 + 2 * q)) (.ref A) (fx V I L R ++ tl) = some (.inl (none, fx W J L R ++ tl)) ∧ hold W J (148 + 2 * q) kd ln P ∧ fr1 (148 + 2 * q) V W I J := by
  rcases (by omega : q = 0 ∨ q = 1 ∨ q = 2 ∨ q = 3 ∨ q = 4 ∨ q = 5 ∨ q = 6 ∨ q = 7) with r | r | r | r | r | r | r | r <;> subst r
  · exact s60_148 hs hA
  · exact s60_150 hs hA
  · exact s60_152 hs hA
  · exact s60_154 hs hA
  · exact s60_156 hs hA
  · exact s60_158 hs hA
  · exact s60_160 hs hA
  · exact s60_162 hs hA
