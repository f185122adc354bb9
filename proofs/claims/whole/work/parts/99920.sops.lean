/-! ===== programs that are put together ===== -/
/-- only a program's cell has changed -/
def fr1 (C : Nat) (V W : Nat → Nat → Value) (I J : Nat → Nat → Int32) : Prop := (∀ a j, a ≠ C → W a j = V a j) ∧ (∀ y, y ≠ C + 1 → J y = I y) ∧ (wt V → wt W)
theorem fr1_r {C : Nat} {V : Nat → Nat → Value} {I : Nat → Nat → Int32} : fr1 C V V I I := ⟨fun _ _ _ => rfl, fun _ _ => rfl, id⟩
theorem fr1_t {C : Nat} {V W X : Nat → Nat → Value} {I J K : Nat → Nat → Int32} (h1 : fr1 C V W I J) (h2 : fr1 C W X J K) : fr1 C V X I K := ⟨fun a j h => (h2.1 a j h).trans (h1.1 a j h), fun y h => (h2.2.1 y h).trans (h1.2.1 y h), fun w => h2.2.2 (h1.2.2 w)⟩
theorem fr1_v {C j : Nat} {V : Nat → Nat → Value} {I : Nat → Nat → Int32} {x : Int32} (h : ¬ j ∈ fL C) : fr1 C V (vup V C j (.int x)) I I := ⟨fun a i ha => vup_o (fun e => ha e.1), fun _ _ => rfl, fun w => wt_i w h⟩
theorem fr1_i {C : Nat} {V : Nat → Nat → Value} {I : Nat → Nat → Int32} {F : Nat → Int32} : fr1 C V V I (iup I (C + 1) F) := ⟨fun _ _ _ => rfl, fun y h => iup_na h, id⟩
/-- a program that items can be taken from -/
def srcP (V : Nat → Nat → Value) (I : Nat → Nat → Int32) (tl : am_H) (A it kd ln : Nat) (P : xT) : Prop := ∃ m f, prA V I tl A it kd ln P.length m f ∧ tO f P ∧ P.length * 2 ≤ m ∧ m ≤ 1000 ∧ kd ≤ 3 ∧ kd ≠ 2 ∧ P.length ≤ 60
theorem srcP_c {V W : Nat → Nat → Value} {I J : Nat → Nat → Int32} {tl : am_H} {A it kd ln : Nat} {P : xT} (hv : ∀ j, W A j = V A j) (hi : J it = I it) (h : srcP V I tl A it kd ln P) : srcP W J tl A it kd ln P := by
  obtain ⟨m, f, h1, h2⟩ := h
  exact ⟨m, f, prA_c hv hi h1, h2⟩
theorem srcP_f {C : Nat} {V W : Nat → Nat → Value} {I J : Nat → Nat → Int32} {tl : am_H} {A it kd ln : Nat} {P : xT} (hf : fr1 C V W I J) (hA : A ≠ C) (hi : it ≠ C + 1) (h : srcP V I tl A it kd ln P) : srcP W J tl A it kd ln P := srcP_c (fun j => hf.1 A j hA) (hf.2.1 it hi) h
theorem hold_f {C A : Nat} {V W : Nat → Nat → Value} {I J : Nat → Nat → Int32} {kd ln : Nat} {P : xT} (hf : fr1 C V W I J) (hA : A ≠ C) (h : hold V I A kd ln P) : hold W J A kd ln P := by
  obtain ⟨h1, h2, h3, h4, h5⟩ := h
  refine ⟨(hf.1 A 1 hA).trans h1, (hf.1 A 2 hA).trans h2, (hf.1 A 3 hA).trans h3, (hf.1 A 4 hA).trans h4, ?_⟩
  rw [hf.2.1 (A + 1) (by omega)]
  exact h5
theorem wd2 {kd : Nat} (h : kd ≠ 2) : wdN kd = 2 := if_neg h
theorem nI_w {kd : Nat} (h : kd ≠ 2) (h3 : kd ≤ 3) {k : Int32} (hk : k = nI kd) : (if k = 2 then (5 : Int32) else 2) = nI 2 := by
  subst hk
  rw [if_neg (show ¬ nI kd = 2 from fun e => h ((nI_eq (b := 2) (by omega) (by omega)).mp e))]
  rfl
theorem srcP_90 {V : Nat → Nat → Value} {I : Nat → Nat → Int32} {L : Nat → Nat → Int64} {R : Nat → Nat → Option Nat} {tl : am_H} {kd ln : Nat} {P : xT} (w : wt V) (h : hold V I 90 kd ln P) (hk : kd ≤ 3) (h2 : kd ≠ 2) (hl : P.length ≤ 60) : srcP V I tl 90 91 kd ln P := ⟨120, I 91, prF_90 (L := fun _ _ => 0) (R := fun _ _ => none) w h.1 h.2.1 h.2.2.1 (by rw [wd2 h2]; exact h.2.2.2.1), h.2.2.2.2, by omega, by omega, hk, h2, hl⟩
theorem s34_90 {V : Nat → Nat → Value} {I : Nat → Nat → Int32} {L : Nat → Nat → Int64} {R : Nat → Nat → Option Nat} {tl : am_H} {kd ln : Nat} (k l : Int32) (hk : k = nI kd) (hl : l = nI ln) (h3 : kd ≤ 3) (h2 : kd ≠ 2) : ∃ W J, fm_34 (.ref 90) k l (fx V I L R ++ tl) = some (.inl (none, fx W J L R ++ tl)) ∧ hold W J 90 kd ln [] ∧ fr1 90 V W I J := by
  refine ⟨_, _, p34_90 k l, ⟨by subst hk; rfl, by subst hl; rfl, rfl, congrArg Value.int (nI_w h2 h3 hk), tO_nil⟩, ?_⟩
  exact fr1_t (fr1_v (by decide)) (fr1_t (fr1_v (by decide)) (fr1_t (fr1_v (by decide)) (fr1_v (by decide))))
theorem s41_90 {V : Nat → Nat → Value} {I : Nat → Nat → Int32} {L : Nat → Nat → Int64} {R : Nat → Nat → Option Nat} {tl : am_H} {N kd ln a : Nat} {Q : xT} {b : Int32} (hN : 1 ≤ N) (h : hold V I 90 kd ln Q) (hl : Q.length < 60) (x : Int32) (hx : x = nI a) : ∃ W J, fm_41 N (.ref 90) x b (fx V I L R ++ tl) = some (.inl (some (.int 1), fx W J L R ++ tl)) ∧ hold W J 90 kd ln (Q ++ [(a, b)]) ∧ fr1 90 V W I J := by
  subst hx
  refine ⟨_, _, p41_90 hN h.2.2.1 h.2.2.2.1 (by omega) (nI a) b, ⟨h.1, h.2.1, ?_, h.2.2.2.1, tO_app h.2.2.2.2⟩, fr1_t (fr1_v (by decide)) fr1_i⟩
  rw [List.length_append]
  rfl
theorem s170_90 {V : Nat → Nat → Value} {I : Nat → Nat → Int32} {L : Nat → Nat → Int64} {R : Nat → Nat → Option Nat} {tl : am_H} {A it kd ln kd' ln' i j : Nat} {Q P : xT} (hs : srcP V I tl A it kd' ln' P) (h : hold V I 90 kd ln Q) (hij : i ≤ j) (hj : j ≤ P.length) (hq : Q.length + (j - i) ≤ 60) (x y : Int32) (hx : x = nI i) (hy : y = nI j) : ∃ W J, fm_170 (.ref 90) (.ref A) x y (fx V I L R ++ tl) = some (.inl (some (.int 1), fx W J L R ++ tl)) ∧ hold W J 90 kd ln (Q ++ seg P i j) ∧ fr1 90 V W I J := by
  subst hx
  subst hy
  obtain ⟨m, f, hp, hf, m1, m2, k3, k2, l60⟩ := hs
  obtain ⟨x1, x2, x3, x4, x5, x6, p1, p2⟩ := hp V I L R (fun _ => rfl) rfl
  refine ⟨_, _, p170_90 (wd := 2) (by rw [wd2 k2] at p1; exact p1) p2 h.2.2.1 h.2.2.2.1 hij hj l60 (by omega) m1 m2 (by omega) (by omega), ⟨h.1, h.2.1, ?_, h.2.2.2.1, tO_take h.2.2.2.2 hf hij hj⟩, fr1_t (fr1_v (by decide)) fr1_i⟩
  rw [List.length_append, seg_len hj]
  rfl
theorem s60_90 {V : Nat → Nat → Value} {I : Nat → Nat → Int32} {L : Nat → Nat → Int64} {R : Nat → Nat → Option Nat} {tl : am_H} {A it kd ln : Nat} {P : xT} (hs : srcP V I tl A it kd ln P) (hA : A ≠ 90) : ∃ W J, fm_60 (.ref 90) (.ref A) (fx V I L R ++ tl) = some (.inl (none, fx W J L R ++ tl)) ∧ hold W J 90 kd ln P ∧ fr1 90 V W I J := by
  obtain ⟨m, f, hp, hf, m1, m2, k3, k2, l60⟩ := hs
  have hw := wd2 k2
  refine ⟨_, _, p60_90 hp hA k3 (by rw [hw]; exact m1) m2 (by rw [hw]; omega) (by omega), ⟨rfl, rfl, rfl, congrArg Value.int (nI_w k2 k3 rfl), ?_⟩, ?_⟩
  · rw [hw]
    exact tO_cpy hf
  · exact fr1_t (fr1_v (by decide)) (fr1_t (fr1_v (by decide)) (fr1_t (fr1_v (by decide)) (fr1_t (fr1_v (by decide)) (fr1_t (fr1_v (by decide)) fr1_i))))
theorem srcP_92 {V : Nat → Nat → Value} {I : Nat → Nat → Int32} {L : Nat → Nat → Int64} {R : Nat → Nat → Option Nat} {tl : am_H} {kd ln : Nat} {P : xT} (w : wt V) (h : hold V I 92 kd ln P) (hk : kd ≤ 3) (h2 : kd ≠ 2) (hl : P.length ≤ 60) : srcP V I tl 92 93 kd ln P := ⟨120, I 93, prF_92 (L := fun _ _ => 0) (R := fun _ _ => none) w h.1 h.2.1 h.2.2.1 (by rw [wd2 h2]; exact h.2.2.2.1), h.2.2.2.2, by omega, by omega, hk, h2, hl⟩
theorem s34_92 {V : Nat → Nat → Value} {I : Nat → Nat → Int32} {L : Nat → Nat → Int64} {R : Nat → Nat → Option Nat} {tl : am_H} {kd ln : Nat} (k l : Int32) (hk : k = nI kd) (hl : l = nI ln) (h3 : kd ≤ 3) (h2 : kd ≠ 2) : ∃ W J, fm_34 (.ref 92) k l (fx V I L R ++ tl) = some (.inl (none, fx W J L R ++ tl)) ∧ hold W J 92 kd ln [] ∧ fr1 92 V W I J := by
  refine ⟨_, _, p34_92 k l, ⟨by subst hk; rfl, by subst hl; rfl, rfl, congrArg Value.int (nI_w h2 h3 hk), tO_nil⟩, ?_⟩
  exact fr1_t (fr1_v (by decide)) (fr1_t (fr1_v (by decide)) (fr1_t (fr1_v (by decide)) (fr1_v (by decide))))
theorem s41_92 {V : Nat → Nat → Value} {I : Nat → Nat → Int32} {L : Nat → Nat → Int64} {R : Nat → Nat → Option Nat} {tl : am_H} {N kd ln a : Nat} {Q : xT} {b : Int32} (hN : 1 ≤ N) (h : hold V I 92 kd ln Q) (hl : Q.length < 60) (x : Int32) (hx : x = nI a) : ∃ W J, fm_41 N (.ref 92) x b (fx V I L R ++ tl) = some (.inl (some (.int 1), fx W J L R ++ tl)) ∧ hold W J 92 kd ln (Q ++ [(a, b)]) ∧ fr1 92 V W I J := by
  subst hx
  refine ⟨_, _, p41_92 hN h.2.2.1 h.2.2.2.1 (by omega) (nI a) b, ⟨h.1, h.2.1, ?_, h.2.2.2.1, tO_app h.2.2.2.2⟩, fr1_t (fr1_v (by decide)) fr1_i⟩
  rw [List.length_append]
  rfl
theorem s170_92 {V : Nat → Nat → Value} {I : Nat → Nat → Int32} {L : Nat → Nat → Int64} {R : Nat → Nat → Option Nat} {tl : am_H} {A it kd ln kd' ln' i j : Nat} {Q P : xT} (hs : srcP V I tl A it kd' ln' P) (h : hold V I 92 kd ln Q) (hij : i ≤ j) (hj : j ≤ P.length) (hq : Q.length + (j - i) ≤ 60) (x y : Int32) (hx : x = nI i) (hy : y = nI j) : ∃ W J, fm_170 (.ref 92) (.ref A) x y (fx V I L R ++ tl) = some (.inl (some (.int 1), fx W J L R ++ tl)) ∧ hold W J 92 kd ln (Q ++ seg P i j) ∧ fr1 92 V W I J := by
  subst hx
  subst hy
  obtain ⟨m, f, hp, hf, m1, m2, k3, k2, l60⟩ := hs
  obtain ⟨x1, x2, x3, x4, x5, x6, p1, p2⟩ := hp V I L R (fun _ => rfl) rfl
  refine ⟨_, _, p170_92 (wd := 2) (by rw [wd2 k2] at p1; exact p1) p2 h.2.2.1 h.2.2.2.1 hij hj l60 (by omega) m1 m2 (by omega) (by omega), ⟨h.1, h.2.1, ?_, h.2.2.2.1, tO_take h.2.2.2.2 hf hij hj⟩, fr1_t (fr1_v (by decide)) fr1_i⟩
  rw [List.length_append, seg_len hj]
  rfl
theorem s60_92 {V : Nat → Nat → Value} {I : Nat → Nat → Int32} {L : Nat → Nat → Int64} {R : Nat → Nat → Option Nat} {tl : am_H} {A it kd ln : Nat} {P : xT} (hs : srcP V I tl A it kd ln P) (hA : A ≠ 92) : ∃ W J, fm_60 (.ref 92) (.ref A) (fx V I L R ++ tl) = some (.inl (none, fx W J L R ++ tl)) ∧ hold W J 92 kd ln P ∧ fr1 92 V W I J := by
  obtain ⟨m, f, hp, hf, m1, m2, k3, k2, l60⟩ := hs
  have hw := wd2 k2
  refine ⟨_, _, p60_92 hp hA k3 (by rw [hw]; exact m1) m2 (by rw [hw]; omega) (by omega), ⟨rfl, rfl, rfl, congrArg Value.int (nI_w k2 k3 rfl), ?_⟩, ?_⟩
  · rw [hw]
    exact tO_cpy hf
  · exact fr1_t (fr1_v (by decide)) (fr1_t (fr1_v (by decide)) (fr1_t (fr1_v (by decide)) (fr1_t (fr1_v (by decide)) (fr1_t (fr1_v (by decide)) fr1_i))))
theorem srcP_129 {V : Nat → Nat → Value} {I : Nat → Nat → Int32} {L : Nat → Nat → Int64} {R : Nat → Nat → Option Nat} {tl : am_H} {kd ln : Nat} {P : xT} (w : wt V) (h : hold V I 129 kd ln P) (hk : kd ≤ 3) (h2 : kd ≠ 2) (hl : P.length ≤ 60) : srcP V I tl 129 130 kd ln P := ⟨120, I 130, prF_129 (L := fun _ _ => 0) (R := fun _ _ => none) w h.1 h.2.1 h.2.2.1 (by rw [wd2 h2]; exact h.2.2.2.1), h.2.2.2.2, by omega, by omega, hk, h2, hl⟩
theorem s34_129 {V : Nat → Nat → Value} {I : Nat → Nat → Int32} {L : Nat → Nat → Int64} {R : Nat → Nat → Option Nat} {tl : am_H} {kd ln : Nat} (k l : Int32) (hk : k = nI kd) (hl : l = nI ln) (h3 : kd ≤ 3) (h2 : kd ≠ 2) : ∃ W J, fm_34 (.ref 129) k l (fx V I L R ++ tl) = some (.inl (none, fx W J L R ++ tl)) ∧ hold W J 129 kd ln [] ∧ fr1 129 V W I J := by
  refine ⟨_, _, p34_129 k l, ⟨by subst hk; rfl, by subst hl; rfl, rfl, congrArg Value.int (nI_w h2 h3 hk), tO_nil⟩, ?_⟩
  exact fr1_t (fr1_v (by decide)) (fr1_t (fr1_v (by decide)) (fr1_t (fr1_v (by decide)) (fr1_v (by decide))))
theorem s41_129 {V : Nat → Nat → Value} {I : Nat → Nat → Int32} {L : Nat → Nat → Int64} {R : Nat → Nat → Option Nat} {tl : am_H} {N kd ln a : Nat} {Q : xT} {b : Int32} (hN : 1 ≤ N) (h : hold V I 129 kd ln Q) (hl : Q.length < 60) (x : Int32) (hx : x = nI a) : ∃ W J, fm_41 N (.ref 129) x b (fx V I L R ++ tl) = some (.inl (some (.int 1), fx W J L R ++ tl)) ∧ hold W J 129 kd ln (Q ++ [(a, b)]) ∧ fr1 129 V W I J := by
  subst hx
  refine ⟨_, _, p41_129 hN h.2.2.1 h.2.2.2.1 (by omega) (nI a) b, ⟨h.1, h.2.1, ?_, h.2.2.2.1, tO_app h.2.2.2.2⟩, fr1_t (fr1_v (by decide)) fr1_i⟩
  rw [List.length_append]
  rfl
theorem s170_129 {V : Nat → Nat → Value} {I : Nat → Nat → Int32} {L : Nat → Nat → Int64} {R : Nat → Nat → Option Nat} {tl : am_H} {A it kd ln kd' ln' i j : Nat} {Q P : xT} (hs : srcP V I tl A it kd' ln' P) (h : hold V I 129 kd ln Q) (hij : i ≤ j) (hj : j ≤ P.length) (hq : Q.length + (j - i) ≤ 60) (x y : Int32) (hx : x = nI i) (hy : y = nI j) : ∃ W J, fm_170 (.ref 129) (.ref A) x y (fx V I L R ++ tl) = some (.inl (some (.int 1), fx W J L R ++ tl)) ∧ hold W J 129 kd ln (Q ++ seg P i j) ∧ fr1 129 V W I J := by
  subst hx
  subst hy
  obtain ⟨m, f, hp, hf, m1, m2, k3, k2, l60⟩ := hs
  obtain ⟨x1, x2, x3, x4, x5, x6, p1, p2⟩ := hp V I L R (fun _ => rfl) rfl
  refine ⟨_, _, p170_129 (wd := 2) (by rw [wd2 k2] at p1; exact p1) p2 h.2.2.1 h.2.2.2.1 hij hj l60 (by omega) m1 m2 (by omega) (by omega), ⟨h.1, h.2.1, ?_, h.2.2.2.1, tO_take h.2.2.2.2 hf hij hj⟩, fr1_t (fr1_v (by decide)) fr1_i⟩
  rw [List.length_append, seg_len hj]
  rfl
theorem s60_129 {V : Nat → Nat → Value} {I : Nat → Nat → Int32} {L : Nat → Nat → Int64} {R : Nat → Nat → Option Nat} {tl : am_H} {A it kd ln : Nat} {P : xT} (hs : srcP V I tl A it kd ln P) (hA : A ≠ 129) : ∃ W J, fm_60 (.ref 129) (.ref A) (fx V I L R ++ tl) = some (.inl (none, fx W J L R ++ tl)) ∧ hold W J 129 kd ln P ∧ fr1 129 V W I J := by
  obtain ⟨m, f, hp, hf, m1, m2, k3, k2, l60⟩ := hs
  have hw := wd2 k2
  refine ⟨_, _, p60_129 hp hA k3 (by rw [hw]; exact m1) m2 (by rw [hw]; omega) (by omega), ⟨rfl, rfl, rfl, congrArg Value.int (nI_w k2 k3 rfl), ?_⟩, ?_⟩
  · rw [hw]
    exact tO_cpy hf
  · exact fr1_t (fr1_v (by decide)) (fr1_t (fr1_v (by decide)) (fr1_t (fr1_v (by decide)) (fr1_t (fr1_v (by decide)) (fr1_t (fr1_v (by decide)) fr1_i))))
theorem srcP_141 {V : Nat → Nat → Value} {I : Nat → Nat → Int32} {L : Nat → Nat → Int64} {R : Nat → Nat → Option Nat} {tl : am_H} {kd ln : Nat} {P : xT} (w : wt V) (h : hold V I 141 kd ln P) (hk : kd ≤ 3) (h2 : kd ≠ 2) (hl : P.length ≤ 60) : srcP V I tl 141 142 kd ln P := ⟨120, I 142, prF_141 (L := fun _ _ => 0) (R := fun _ _ => none) w h.1 h.2.1 h.2.2.1 (by rw [wd2 h2]; exact h.2.2.2.1), h.2.2.2.2, by omega, by omega, hk, h2, hl⟩
theorem s34_141 {V : Nat → Nat → Value} {I : Nat → Nat → Int32} {L : Nat → Nat → Int64} {R : Nat → Nat → Option Nat} {tl : am_H} {kd ln : Nat} (k l : Int32) (hk : k = nI kd) (hl : l = nI ln) (h3 : kd ≤ 3) (h2 : kd ≠ 2) : ∃ W J, fm_34 (.ref 141) k l (fx V I L R ++ tl) = some (.inl (none, fx W J L R ++ tl)) ∧ hold W J 141 kd ln [] ∧ fr1 141 V W I J := by
  refine ⟨_, _, p34_141 k l, ⟨by subst hk; rfl, by subst hl; rfl, rfl, congrArg Value.int (nI_w h2 h3 hk), tO_nil⟩, ?_⟩
  exact fr1_t (fr1_v (by decide)) (fr1_t (fr1_v (by decide)) (fr1_t (fr1_v (by decide)) (fr1_v (by decide))))
theorem s41_141 {V : Nat → Nat → Value} {I : Nat → Nat → Int32} {L : Nat → Nat → Int64} {R : Nat → Nat → Option Nat} {tl : am_H} {N kd ln a : Nat} {Q : xT} {b : Int32} (hN : 1 ≤ N) (h : hold V I 141 kd ln Q) (hl : Q.length < 60) (x : Int32) (hx : x = nI a) : ∃ W J, fm_41 N (.ref 141) x b (fx V I L R ++ tl) = some (.inl (some (.int 1), fx W J L R ++ tl)) ∧ hold W J 141 kd ln (Q ++ [(a, b)]) ∧ fr1 141 V W I J := by
  subst hx
  refine ⟨_, _, p41_141 hN h.2.2.1 h.2.2.2.1 (by omega) (nI a) b, ⟨h.1, h.2.1, ?_, h.2.2.2.1, tO_app h.2.2.2.2⟩, fr1_t (fr1_v (by decide)) fr1_i⟩
  rw [List.length_append]
  rfl
theorem s170_141 {V : Nat → Nat → Value} {I : Nat → Nat → Int32} {L : Nat → Nat → Int64} {R : Nat → Nat → Option Nat} {tl : am_H} {A it kd ln kd' ln' i j : Nat} {Q P : xT} (hs : srcP V I tl A it kd' ln' P) (h : hold V I 141 kd ln Q) (hij : i ≤ j) (hj : j ≤ P.length) (hq : Q.length + (j - i) ≤ 60) (x y : Int32) (hx : x = nI i) (hy : y = nI j) : ∃ W J, fm_170 (.ref 141) (.ref A) x y (fx V I L R ++ tl) = some (.inl (some (.int 1), fx W J L R ++ tl)) ∧ hold W J 141 kd ln (Q ++ seg P i j) ∧ fr1 141 V W I J := by
  subst hx
  subst hy
  obtain ⟨m, f, hp, hf, m1, m2, k3, k2, l60⟩ := hs
  obtain ⟨x1, x2, x3, x4, x5, x6, p1, p2⟩ := hp V I L R (fun _ => rfl) rfl
  refine ⟨_, _, p170_141 (wd := 2) (by rw [wd2 k2] at p1; exact p1) p2 h.2.2.1 h.2.2.2.1 hij hj l60 (by omega) m1 m2 (by omega) (by omega), ⟨h.1, h.2.1, ?_, h.2.2.2.1, tO_take h.2.2.2.2 hf hij hj⟩, fr1_t (fr1_v (by decide)) fr1_i⟩
  rw [List.length_append, seg_len hj]
  rfl
theorem s60_141 {V : Nat → Nat → Value} {I : Nat → Nat → Int32} {L : Nat → Nat → Int64} {R : Nat → Nat → Option Nat} {tl : am_H} {A it kd ln : Nat} {P : xT} (hs : srcP V I tl A it kd ln P) (hA : A ≠ 141) : ∃ W J, fm_60 (.ref 141) (.ref A) (fx V I L R ++ tl) = some (.inl (none, fx W J L R ++ tl)) ∧ hold W J 141 kd ln P ∧ fr1 141 V W I J := by
  obtain ⟨m, f, hp, hf, m1, m2, k3, k2, l60⟩ := hs
  have hw := wd2 k2
  refine ⟨_, _, p60_141 hp hA k3 (by rw [hw]; exact m1) m2 (by rw [hw]; omega) (by omega), ⟨rfl, rfl, rfl, congrArg Value.int (nI_w k2 k3 rfl), ?_⟩, ?_⟩
  · rw [hw]
    exact tO_cpy hf
  · exact fr1_t (fr1_v (by decide)) (fr1_t (fr1_v (by decide)) (fr1_t (fr1_v (by decide)) (fr1_t (fr1_v (by decide)) (fr1_t (fr1_v (by decide)) fr1_i))))
theorem srcP_167 {V : Nat → Nat → Value} {I : Nat → Nat → Int32} {L : Nat → Nat → Int64} {R : Nat → Nat → Option Nat} {tl : am_H} {kd ln : Nat} {P : xT} (w : wt V) (h : hold V I 167 kd ln P) (hk : kd ≤ 3) (h2 : kd ≠ 2) (hl : P.length ≤ 60) : srcP V I tl 167 168 kd ln P := ⟨120, I 168, prF_167 (L := fun _ _ => 0) (R := fun _ _ => none) w h.1 h.2.1 h.2.2.1 (by rw [wd2 h2]; exact h.2.2.2.1), h.2.2.2.2, by omega, by omega, hk, h2, hl⟩
theorem s34_167 {V : Nat → Nat → Value} {I : Nat → Nat → Int32} {L : Nat → Nat → Int64} {R : Nat → Nat → Option Nat} {tl : am_H} {kd ln : Nat} (k l : Int32) (hk : k = nI kd) (hl : l = nI ln) (h3 : kd ≤ 3) (h2 : kd ≠ 2) : ∃ W J, fm_34 (.ref 167) k l (fx V I L R ++ tl) = some (.inl (none, fx W J L R ++ tl)) ∧ hold W J 167 kd ln [] ∧ fr1 167 V W I J := by
  refine ⟨_, _, p34_167 k l, ⟨by subst hk; rfl, by subst hl; rfl, rfl, congrArg Value.int (nI_w h2 h3 hk), tO_nil⟩, ?_⟩
  exact fr1_t (fr1_v (by decide)) (fr1_t (fr1_v (by decide)) (fr1_t (fr1_v (by decide)) (fr1_v (by decide))))
theorem s41_167 {V : Nat → Nat → Value} {I : Nat → Nat → Int32} {L : Nat → Nat → Int64} {R : Nat → Nat → Option Nat} {tl : am_H} {N kd ln a : Nat} {Q : xT} {b : Int32} (hN : 1 ≤ N) (h : hold V I 167 kd ln Q) (hl : Q.length < 60) (x : Int32) (hx : x = nI a) : ∃ W J, fm_41 N (.ref 167) x b (fx V I L R ++ tl) = some (.inl (some (.int 1), fx W J L R ++ tl)) ∧ hold W J 167 kd ln (Q ++ [(a, b)]) ∧ fr1 167 V W I J := by
  subst hx
  refine ⟨_, _, p41_167 hN h.2.2.1 h.2.2.2.1 (by omega) (nI a) b, ⟨h.1, h.2.1, ?_, h.2.2.2.1, tO_app h.2.2.2.2⟩, fr1_t (fr1_v (by decide)) fr1_i⟩
  rw [List.length_append]
  rfl
theorem s170_167 {V : Nat → Nat → Value} {I : Nat → Nat → Int32} {L : Nat → Nat → Int64} {R : Nat → Nat → Option Nat} {tl : am_H} {A it kd ln kd' ln' i j : Nat} {Q P : xT} (hs : srcP V I tl A it kd' ln' P) (h : hold V I 167 kd ln Q) (hij : i ≤ j) (hj : j ≤ P.length) (hq : Q.length + (j - i) ≤ 60) (x y : Int32) (hx : x = nI i) (hy : y = nI j) : ∃ W J, fm_170 (.ref 167) (.ref A) x y (fx V I L R ++ tl) = some (.inl (some (.int 1), fx W J L R ++ tl)) ∧ hold W J 167 kd ln (Q ++ seg P i j) ∧ fr1 167 V W I J := by
  subst hx
  subst hy
  obtain ⟨m, f, hp, hf, m1, m2, k3, k2, l60⟩ := hs
  obtain ⟨x1, x2, x3, x4, x5, x6, p1, p2⟩ := hp V I L R (fun _ => rfl) rfl
  refine ⟨_, _, p170_167 (wd := 2) (by rw [wd2 k2] at p1; exact p1) p2 h.2.2.1 h.2.2.2.1 hij hj l60 (by omega) m1 m2 (by omega) (by omega), ⟨h.1, h.2.1, ?_, h.2.2.2.1, tO_take h.2.2.2.2 hf hij hj⟩, fr1_t (fr1_v (by decide)) fr1_i⟩
  rw [List.length_append, seg_len hj]
  rfl
theorem s60_167 {V : Nat → Nat → Value} {I : Nat → Nat → Int32} {L : Nat → Nat → Int64} {R : Nat → Nat → Option Nat} {tl : am_H} {A it kd ln : Nat} {P : xT} (hs : srcP V I tl A it kd ln P) (hA : A ≠ 167) : ∃ W J, fm_60 (.ref 167) (.ref A) (fx V I L R ++ tl) = some (.inl (none, fx W J L R ++ tl)) ∧ hold W J 167 kd ln P ∧ fr1 167 V W I J := by
  obtain ⟨m, f, hp, hf, m1, m2, k3, k2, l60⟩ := hs
  have hw := wd2 k2
  refine ⟨_, _, p60_167 hp hA k3 (by rw [hw]; exact m1) m2 (by rw [hw]; omega) (by omega), ⟨rfl, rfl, rfl, congrArg Value.int (nI_w k2 k3 rfl), ?_⟩, ?_⟩
  · rw [hw]
    exact tO_cpy hf
  · exact fr1_t (fr1_v (by decide)) (fr1_t (fr1_v (by decide)) (fr1_t (fr1_v (by decide)) (fr1_t (fr1_v (by decide)) (fr1_t (fr1_v (by decide)) fr1_i))))
theorem srcP_169 {V : Nat → Nat → Value} {I : Nat → Nat → Int32} {L : Nat → Nat → Int64} {R : Nat → Nat → Option Nat} {tl : am_H} {kd ln : Nat} {P : xT} (w : wt V) (h : hold V I 169 kd ln P) (hk : kd ≤ 3) (h2 : kd ≠ 2) (hl : P.length ≤ 60) : srcP V I tl 169 170 kd ln P := ⟨120, I 170, prF_169 (L := fun _ _ => 0) (R := fun _ _ => none) w h.1 h.2.1 h.2.2.1 (by rw [wd2 h2]; exact h.2.2.2.1), h.2.2.2.2, by omega, by omega, hk, h2, hl⟩
theorem s34_169 {V : Nat → Nat → Value} {I : Nat → Nat → Int32} {L : Nat → Nat → Int64} {R : Nat → Nat → Option Nat} {tl : am_H} {kd ln : Nat} (k l : Int32) (hk : k = nI kd) (hl : l = nI ln) (h3 : kd ≤ 3) (h2 : kd ≠ 2) : ∃ W J, fm_34 (.ref 169) k l (fx V I L R ++ tl) = some (.inl (none, fx W J L R ++ tl)) ∧ hold W J 169 kd ln [] ∧ fr1 169 V W I J := by
  refine ⟨_, _, p34_169 k l, ⟨by subst hk; rfl, by subst hl; rfl, rfl, congrArg Value.int (nI_w h2 h3 hk), tO_nil⟩, ?_⟩
  exact fr1_t (fr1_v (by decide)) (fr1_t (fr1_v (by decide)) (fr1_t (fr1_v (by decide)) (fr1_v (by decide))))
theorem s41_169 {V : Nat → Nat → Value} {I : Nat → Nat → Int32} {L : Nat → Nat → Int64} {R : Nat → Nat → Option Nat} {tl : am_H} {N kd ln a : Nat} {Q : xT} {b : Int32} (hN : 1 ≤ N) (h : hold V I 169 kd ln Q) (hl : Q.length < 60) (x : Int32) (hx : x = nI a) : ∃ W J, fm_41 N (.ref 169) x b (fx V I L R ++ tl) = some (.inl (some (.int 1), fx W J L R ++ tl)) ∧ hold W J 169 kd ln (Q ++ [(a, b)]) ∧ fr1 169 V W I J := by
  subst hx
  refine ⟨_, _, p41_169 hN h.2.2.1 h.2.2.2.1 (by omega) (nI a) b, ⟨h.1, h.2.1, ?_, h.2.2.2.1, tO_app h.2.2.2.2⟩, fr1_t (fr1_v (by decide)) fr1_i⟩
  rw [List.length_append]
  rfl
theorem s170_169 {V : Nat → Nat → Value} {I : Nat → Nat → Int32} {L : Nat → Nat → Int64} {R : Nat → Nat → Option Nat} {tl : am_H} {A it kd ln kd' ln' i j : Nat} {Q P : xT} (hs : srcP V I tl A it kd' ln' P) (h : hold V I 169 kd ln Q) (hij : i ≤ j) (hj : j ≤ P.length) (hq : Q.length + (j - i) ≤ 60) (x y : Int32) (hx : x = nI i) (hy : y = nI j) : ∃ W J, fm_170 (.ref 169) (.ref A) x y (fx V I L R ++ tl) = some (.inl (some (.int 1), fx W J L R ++ tl)) ∧ hold W J 169 kd ln (Q ++ seg P i j) ∧ fr1 169 V W I J := by
  subst hx
  subst hy
  obtain ⟨m, f, hp, hf, m1, m2, k3, k2, l60⟩ := hs
  obtain ⟨x1, x2, x3, x4, x5, x6, p1, p2⟩ := hp V I L R (fun _ => rfl) rfl
  refine ⟨_, _, p170_169 (wd := 2) (by rw [wd2 k2] at p1; exact p1) p2 h.2.2.1 h.2.2.2.1 hij hj l60 (by omega) m1 m2 (by omega) (by omega), ⟨h.1, h.2.1, ?_, h.2.2.2.1, tO_take h.2.2.2.2 hf hij hj⟩, fr1_t (fr1_v (by decide)) fr1_i⟩
  rw [List.length_append, seg_len hj]
  rfl
theorem s60_169 {V : Nat → Nat → Value} {I : Nat → Nat → Int32} {L : Nat → Nat → Int64} {R : Nat → Nat → Option Nat} {tl : am_H} {A it kd ln : Nat} {P : xT} (hs : srcP V I tl A it kd ln P) (hA : A ≠ 169) : ∃ W J, fm_60 (.ref 169) (.ref A) (fx V I L R ++ tl) = some (.inl (none, fx W J L R ++ tl)) ∧ hold W J 169 kd ln P ∧ fr1 169 V W I J := by
  obtain ⟨m, f, hp, hf, m1, m2, k3, k2, l60⟩ := hs
  have hw := wd2 k2
  refine ⟨_, _, p60_169 hp hA k3 (by rw [hw]; exact m1) m2 (by rw [hw]; omega) (by omega), ⟨rfl, rfl, rfl, congrArg Value.int (nI_w k2 k3 rfl), ?_⟩, ?_⟩
  · rw [hw]
    exact tO_cpy hf
  · exact fr1_t (fr1_v (by decide)) (fr1_t (fr1_v (by decide)) (fr1_t (fr1_v (by decide)) (fr1_t (fr1_v (by decide)) (fr1_t (fr1_v (by decide)) fr1_i))))
