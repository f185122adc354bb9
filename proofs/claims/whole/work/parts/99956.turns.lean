/-! ===== code and trees turned into one another: what it keeps ===== -/
theorem rel_R {V : Nat → Nat → Value} {I : Nat → Nat → Int32} {L : Nat → Nat → Int64} {R : Nat → Nat → Option Nat} {tl : am_H} {R' : Nat → Nat → Option Nat} {n p : Nat} (hr : rel V I L R tl n p) (h : ∀ y, y ≠ 140 → R' y = R y) (hq : rPl R') : rel V I L R' tl n p := by
  obtain ⟨a1, a2, a3, a4, a5, a6, a7, a8, a9, a10, a11, ⟨s1, s2, s3, s4⟩, w⟩ := hr
  refine ⟨a1, fun b hb => ?_, a3, a4, a5, a6, a7, a8, a9, a10, a11, ⟨s1, ?_, ?_, hq⟩, w⟩
  · have := a2 b hb
    unfold bOk at this ⊢
    rw [h 1 (by decide)]
    exact this
  · rw [h 87 (by decide)]; exact s2
  · rw [h 87 (by decide)]; exact s3
theorem rel_pl {V : Nat → Nat → Value} {I : Nat → Nat → Int32} {L : Nat → Nat → Int64} {R : Nat → Nat → Option Nat} {tl : am_H} {n p : Nat} (hr : rel V I L R tl n p) : rPl R := hr.2.2.2.2.2.2.2.2.2.2.2.1.2.2.2
theorem vR_a {a j : Nat} (h : j ∈ vRel a) : a < 119 ∨ a = 174 := by
  unfold vRel at h
  split at h
  all_goals first | (left; omega) | (right; rfl) | exact absurd h (by simp)
theorem keep_Cx {X : Nat} {V W : Nat → Nat → Value} {I J : Nat → Nat → Int32} (hX : X = 167 ∨ X = 169) (f : frCx X V W I J) : keep V W I J := by
  refine ⟨fun a j hj => ?_, fun y hy => ?_, f.2.2⟩
  · have := vR_a hj
    exact f.1 a j (by omega) (by omega) (by omega) (by omega) (by omega)
  · have key : ∀ y, y ∈ iRel → (y < 133 ∨ 138 < y) ∧ y ≠ 142 ∧ (y < 149 ∨ 163 < y) ∧ y ≠ 168 ∧ y ≠ 170 := by decide
    obtain ⟨a, b, c, d, e⟩ := key y hy
    exact f.2.1 y a b c (by omega)
theorem keep_Co {V W : Nat → Nat → Value} {I J : Nat → Nat → Int32} (f : frCo V W I J) : keep V W I J := by
  refine ⟨fun a j hj => ?_, fun y hy => ?_, f.2.2⟩
  · have := vR_a hj
    exact f.1 a j (by omega) (by omega) (by omega)
  · have key : ∀ y, y ∈ iRel → y ≠ 168 ∧ y ≠ 133 ∧ y ≠ 139 := by decide
    obtain ⟨a, b, c⟩ := key y hy
    exact f.2.1 y a b c
theorem keep_Tr {V W : Nat → Nat → Value} {I J : Nat → Nat → Int32} (f : frTr V W I J) : keep V W I J := by
  refine ⟨fun a j hj => ?_, fun y hy => ?_, f.2.2⟩
  · refine f.1 a j (fun e => ?_)
    have key : ∀ j, j ∈ vRel 174 → j ≠ 13 ∧ j ≠ 14 ∧ j ≠ 15 ∧ j ≠ 18 ∧ j ≠ 19 ∧ j ≠ 20 ∧ j ≠ 121 := by decide
    have := key j (e.1 ▸ hj)
    have h2 := e.2
    omega
  · have key : ∀ y, y ∈ iRel → y ≠ 186 ∧ y ≠ 187 ∧ y ≠ 188 ∧ y ≠ 189 ∧ y ≠ 192 ∧ y ≠ 194 ∧ y ≠ 195 ∧ y ≠ 196 ∧ y ≠ 250 ∧ y ≠ 251 ∧ y ≠ 252 := by decide
    obtain ⟨a, b, c, d, e, g, h, i, k, l, m⟩ := key y hy
    exact f.2.1 y a b c d e g h i k l m
theorem keep_Ed {V W : Nat → Nat → Value} {I J : Nat → Nat → Int32} (f : frEd V W I J) : keep V W I J := keep_X (frX_d f) (frU3_d f)
theorem keep_up {V W : Nat → Nat → Value} {I J : Nat → Nat → Int32} {a j : Nat} {x : Int32} (hw : wt V) (hl : ¬ j ∈ fL a) (k : keep V W I J) : keep (vup V a j (.int x)) (vup W a j (.int x)) I J := by
  refine ⟨fun b i hi => ?_, k.2.1, fun _ => wt_i (k.2.2 hw) hl⟩
  by_cases c : b = a ∧ i = j
  · rw [c.1, c.2, vup_eq, vup_eq]
  · rw [vup_o c, vup_o c]
    exact k.1 b i hi
/-! what a code's tree is -/
theorem rn_vT : ∀ (C : xT) (st st' : List xT), rnT C st st' → (∀ x, x ∈ C → (x.1 = 0 → two x.2) ∧ (x.1 ≠ 0 → x.1 < 17 → x.2 = 0)) → (∀ T, T ∈ st → vT T) → ∀ T, T ∈ st' → vT T := by
  intro C
  induction C with
  | nil =>
    intro st st' h _ hv
    have h : st' = st := h
    rw [h]
    exact hv
  | cons c C ih =>
    intro st st' h hc hv
    obtain ⟨s1, h1, h2⟩ := h
    have c0 := hc c (List.mem_cons_self ..)
    have x17 : c.1 < 17 := by
      rcases h1 with h | h | h | h | h | h
      · exact by have := h.1; omega
      · exact by have := h.2.1; omega
      · exact by have := h.2.1; omega
      · exact by have := h.1; omega
      · exact by have := h.1; omega
      · exact by have := h.1; omega
    exact ih s1 st' h2 (fun x hx => hc x (List.mem_cons_of_mem _ hx)) (stp_f h1 c0.1 (fun n => c0.2 n x17) hv).1
theorem rn_det : ∀ (C : xT) (st s1 s2 : List xT), rnT C st s1 → rnT C st s2 → s1 = s2 := by
  intro C
  induction C with
  | nil =>
    intro st s1 s2 h g
    have h : s1 = st := h
    have g : s2 = st := g
    rw [h, g]
  | cons c C ih =>
    intro st s1 s2 h g
    obtain ⟨t1, h1, h2⟩ := h
    obtain ⟨t2, g1, g2⟩ := g
    have x17 : c.1 < 17 := by
      rcases h1 with h | h | h | h | h | h
      · exact by have := h.1; omega
      · exact by have := h.2.1; omega
      · exact by have := h.2.1; omega
      · exact by have := h.1; omega
      · exact by have := h.1; omega
      · exact by have := h.1; omega
    rw [stp_det g1 h1 x17] at g2
    exact ih t1 s1 s2 h2 g2
theorem tOf_u {C Q Q' : xT} (h : tOf C Q) (g : tOf C Q') : Q = Q' := by
  obtain ⟨S, h1, h2, -⟩ := h
  obtain ⟨S', g1, g2, -⟩ := g
  have := rn_det C [] _ _ h1 g1
  injection this with this _
  rw [h2, g2, this]
theorem wr_0 (T : xT) : truN (xS (wrT T) 0) = 0 := by
  unfold wrT
  by_cases c : truN (xS T 0) = 0
  · rw [if_pos c]; exact c
  · rw [if_neg c]; rfl
theorem tOf_ok {C Q : xT} (hc : sndC C) (h : tOf C Q) : okP Q ∧ Q.length ≤ 60 := by
  obtain ⟨ht, h0, hz, hh⟩ := hc
  obtain ⟨S, h1, h2, h3⟩ := h
  have hv := rn_vT C [] [S] h1 (fun x hx => by
    obtain ⟨k, hk, e⟩ := List.getElem_of_mem hx
    have := xS_at hk
    rw [List.getElem?_eq_getElem hk, e] at this
    have := Option.some.inj this
    obtain ⟨a1, a2, a3, -⟩ := hh k hk
    rw [this]
    exact ⟨a2, a3⟩) (fun T hT => by cases hT) S (List.mem_cons_self ..)
  refine ⟨⟨?_, ?_⟩, h3.1⟩
  · have := h3.2
    have z := wr_0 S
    rw [← h2] at z
    rw [z] at this
    exact this
  · rw [h2]
    exact vT_w hv
/-- a birth that is code -/
theorem birth_C {V : Nat → Nat → Value} {I : Nat → Nat → Int32} {L : Nat → Nat → Int64} {R : Nat → Nat → Option Nat} {tl : am_H} {n p b : Nat} (hr : rel V I L R tl n p) (hb : b < n) (hk : I 175 b = nI 1) : ∃ (C : xT) (a it : Nat), sndC C ∧ C.length ≤ 60 ∧ I 176 b = nI C.length ∧ I 177 b = nI 0 ∧ R 1 b = some (269 + a) ∧ lay2 (fun k => I 184 (60 * b + k)) (fun k => I 185 (60 * b + k)) (tI C) ∧ (∀ W J, srcP W J tl (269 + a) (269 + it) 1 0 C) ∧ (∀ W J M Q, am_vI (am_pG 769 (.ref (269 + a)) (fx W J M Q ++ tl)) = some (nI 1)) := by
  obtain ⟨kd, ln, sz, a, it, f, q1, q2, q3, q4, q5, q6, q7⟩ := bOk_pg (V := V) (I := I) (L := L) (R := R) (tl := tl) (hr.2.1 b hb)
  have k3 := q7.1
  have e : kd = 1 := (nI_eq (by omega) (by omega)).mp (q1.symm.trans hk)
  subst e
  have l0 : ln = 0 := (q7.2.2.1 (by decide)).2
  subst l0
  have s60 := q7.2.1
  obtain ⟨l, ar, ht, ⟨h0, -⟩, hz, hh⟩ := q7.2.2.2.2.1 rfl
  have len : ((List.range sz).map (fun k => (l k, I 185 (60 * b + k))) : xT).length = sz := by rw [List.length_map, List.length_range]
  have at_ : ∀ k, k < sz → ((List.range sz).map (fun k => (l k, I 185 (60 * b + k))) : xT)[k]? = some (l k, I 185 (60 * b + k)) := fun k hk => by rw [List.getElem?_map, List.getElem?_range hk]; rfl
  have xs : ∀ k, k < sz → xS ((List.range sz).map (fun k => (l k, I 185 (60 * b + k)))) k = l k ∧ xV ((List.range sz).map (fun k => (l k, I 185 (60 * b + k)))) k = I 185 (60 * b + k) := fun k hk => by
    unfold xS xV
    rw [List.getD_eq_getElem?_getD, at_ k hk]
    exact ⟨rfl, rfl⟩
  obtain ⟨C, hC⟩ : ∃ C : xT, C = (List.range sz).map (fun k => (l k, I 185 (60 * b + k))) := ⟨_, rfl⟩
  rw [← hC] at len at_ xs
  have lay : lay2 (fun k => I 184 (60 * b + k)) (fun k => I 185 (60 * b + k)) (tI C) := fun k x hx => by
    have hk : k < C.length := by
      have := (List.getElem?_eq_some_iff.mp hx).1
      rw [tI_len] at this
      exact this
    rw [tI_at hk] at hx
    have hx := Option.some.inj hx
    rw [← hx, (xs k (by omega)).1, (xs k (by omega)).2]
    exact ⟨(hh k (by omega)).2.1, rfl⟩
  have all : ∀ W J, prA W J tl (269 + a) (269 + it) 1 0 sz (sz * wdN 1) f := fun W J W' J' L' R' _ _ => by
    obtain ⟨x1, x2, x3, x4, x5, x6, p1, p2⟩ := q5
    rw [tl_at] at p1 p2
    exact ⟨x1, x2, x3, x4, x5, x6, tl_at.trans p1, tl_at.trans p2⟩
  refine ⟨C, a, it, ⟨ht, h0, by rw [len]; exact hz, fun k hk => ?_⟩, by omega, by rw [len]; exact q2, q3, q4, lay, fun W J => ⟨sz * 2, f, by rw [len]; exact all W J, tO_of (kd := 1) (by decide) lay (by rw [len]; exact q6), by rw [len]; exact Nat.le_refl _, by omega, by decide, by decide, by omega⟩, fun W J M Q => ?_⟩
  · rw [len] at hk
    obtain ⟨e1, e2⟩ := xs k hk
    obtain ⟨c1, c2, c3, c4, c5, c6, c7, c8, c9⟩ := hh k hk
    rw [e1, e2]
    refine ⟨c1, c3, fun n m => ?_, c6, c7, c8⟩
    have := (c4 n).1
    rw [c5 m n] at this
    exact this
  · obtain ⟨x1, x2, x3, x4, x5, x6, p1, p2⟩ := q5
    rw [tl_at] at p1
    exact ev_gI (tl_at.trans p1) rfl rfl
/-- the second desk, and what stands on the first -/
theorem s391m {V : Nat → Nat → Value} {I : Nat → Nat → Int32} {L : Nat → Nat → Int64} {R : Nat → Nat → Option Nat} {tl : am_H} {N b : Nat} {P : xT} (hN : 400 < N) (hb : b < 600) (ho : okP P) (hl : P.length ≤ 60) (q1 : I 175 b = nI 0) (q2 : I 176 b = nI P.length) (q3 : I 177 b = nI 0) (hy : lay2 (fun k => I 184 (60 * b + k)) (fun k => I 185 (60 * b + k)) (tI P)) : ∃ g, fm_391 N (.ref 174) (nI b) (fx V I L R ++ tl) = some (.inl (none, fx (dk2V V 0 0 P.length) (iup (dk2I I b P.length) 192 g) L R ++ tl)) := by
  have hF : isF 1 (sl P) := okF_F (sl P) [(0, 1, 0)] ho.1
  rw [← sl_len (P := P)] at q2
  obtain ⟨g, g1, e⟩ := r_391t (V := V) (L := L) (R := R) (tl := tl) (N := N) (by omega) hb (by rw [sl_len]; exact hl) hF q1 q2 q3 (fun k x r hd => by
    have hk : k < P.length := by
      have := drop_len hd
      rw [sl_len] at this
      omega
    rw [sl_at hk] at hd
    injection hd with h1 h2
    rw [← h1]
    exact ⟨(hy k _ (tI_at hk)).1, (nd_at ho hk).1⟩)
  rw [sl_len] at e
  exact ⟨g, e⟩
