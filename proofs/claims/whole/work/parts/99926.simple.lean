/-! ===== simple(b), proves(a, b) ===== -/
theorem hd_268_0 {N : Nat} {x0 : Value} {x1 : Int32} {h : am_H} {r_ : Option am_O} (k_ : (if am_pOk 11 x0 h then am_cR true (fm_63 x0 x1 h) (fun v2 h3 => ((am_vI (am_pG 769 v2 h3)).bind fun v5 => (if v5 = 0 then (if am_pOk 11 x0 h3 then am_cV true (fm_32 x0 1 h3) (fun h10 => ((am_vR (am_pG 2831 x0 h10)).bind fun v12 => (if am_pOk 3 v12 h10 then am_cV true (fm_60 v12 v2 h10) (fun h16 => ((am_vR (am_pG 2824 x0 h16)).bind fun v18 => ((am_vR (am_pG 2831 x0 h16)).bind fun v20 => (if am_pOk 5 v18 h16 then am_cV true (fm_269 N v18 v20 1 h16) (fun h24 => ((am_vR (am_pG 2831 x0 h24)).bind fun v26 => (if am_pOk 11 x0 h24 then am_cI true (fm_59 x0 v26 5 x1 ((-1)) ((-1)) ((-1)) 0 h24) (fun v29 h30 => some (.inl (some (.int v29), h30))) else none))) else none)))) else none))) else none) else some (.inr (0, h3 ++ [am_dummy]))))) else none) = r_) : fg_268_0 N x0 x1 h = r_ := k_
theorem hm_268 {N : Nat} {y0 : Value} {y1 : Int32} {h : am_H} {r_ : Option am_O} (k_ : fg_268_0 N y0 y1 h = r_) : fm_268 N y0 y1 h = r_ := k_
theorem hd_535_53 {N : Nat} {x0 : Value} {x1 : Int32} {s0 : Value} {s1 : Int32} {h : am_H} {r_ : Option am_O} (k_ : ((am_pP 3072 s0 (.int s1) h).bind fun h1 => ((am_vI (am_pG 3072 x0 h1)).bind fun v3 => (if v3 ≤ 0 then (if am_pOk 12 x0 h1 then am_cV true (fm_391 N x0 x1 h1) (fun h8 => (if am_pOk 12 x0 h8 then am_cV true (fm_536 N x0 1 h8) (fun h12 => (if am_pOk 12 x0 h12 then am_cI true (fm_356 N x0 5 x1 ((-1)) ((-1)) ((-1)) 0 h12) (fun v15 h16 => some (.inl (some (.int v15), h16))) else none)) else none)) else none) else some (.inl (some (.int 0), h1))))) = r_) : fg_535_53 N x0 x1 s0 s1 h = r_ := k_
theorem hd_535_30 {N : Nat} {x0 : Value} {x1 : Int32} {s0 : Value} {s1 : Value} {s2 : Int32} {h : am_H} {r_ : Option am_O} (k_ : ((am_pA 0 s1 s2 h).bind fun v1 => (if v1 = 0 then ((am_vI (am_pG 3073 x0 h)).bind fun v4 => (if ¬ v4 = 600 then (fg_535_53 N x0 x1 s0 0 h) else (fg_535_53 N x0 x1 s0 3 h))) else (fg_535_53 N x0 x1 s0 2 h))) = r_) : fg_535_30 N x0 x1 s0 s1 s2 h = r_ := k_
theorem hd_535_0 {N : Nat} {x0 : Value} {x1 : Int32} {h : am_H} {r_ : Option am_O} (k_ : (if am_pOk 12 x0 h then am_cI true (fm_358 x0 x1 h) (fun v2 h3 => (if ¬ v2 = 0 then ((am_vR (am_pG 3074 x0 h3)).bind fun v6 => (if am_pOk 12 x0 h3 then am_cI true (fm_358 x0 x1 h3) (fun v9 h10 => (if v9 = 0 then (fg_535_30 N x0 x1 x0 v6 0 h10) else (fg_535_30 N x0 x1 x0 v6 x1 h10))) else none)) else (fg_535_53 N x0 x1 x0 1 h3))) else none) = r_) : fg_535_0 N x0 x1 h = r_ := k_
theorem hm_535 {N : Nat} {y0 : Value} {y1 : Int32} {h : am_H} {r_ : Option am_O} (k_ : fg_535_0 N y0 y1 h = r_) : fm_535 N y0 y1 h = r_ := k_
theorem hd_284_69 {N : Nat} {s0 : Int32} {h : am_H} {r_ : Option am_O} (k_ : (if am_rfit (some FieldType.boolean) s0 then some (.inl (some (.int s0), h)) else none) = r_) : fg_284_69 N s0 h = r_ := k_
theorem hd_284_68 {N : Nat} {h : am_H} {r_ : Option am_O} (k_ : (fg_284_69 N 0 h) = r_) : fg_284_68 N h = r_ := k_
theorem hd_284_28 {N : Nat} {h : am_H} {r_ : Option am_O} (k_ : some (.inl (some (.int 0), h)) = r_) : fg_284_28 N h = r_ := k_
theorem hd_284_0 {N : Nat} {x0 : Value} {x1 : Int32} {x2 : Int32} {h : am_H} {r_ : Option am_O} (k_ : (if am_pOk 11 x0 h then am_cR true (fm_63 x0 x1 h) (fun v2 h3 => (if am_pOk 11 x0 h3 then am_cR true (fm_63 x0 x2 h3) (fun v6 h7 => ((am_vI (am_pG 769 v2 h7)).bind fun v9 => (if ¬ v9 = 0 then (fg_284_28 N h7) else ((am_vI (am_pG 769 v6 h7)).bind fun v12 => (if v12 = 0 then ((am_vR (am_pG 2831 x0 h7)).bind fun v15 => (if am_pOk 3 v15 h7 then am_cV true (fm_60 v15 v2 h7) (fun h19 => ((am_vR (am_pG 2824 x0 h19)).bind fun v21 => ((am_vR (am_pG 2831 x0 h19)).bind fun v23 => (if am_pOk 5 v21 h19 then am_cI true (fm_285 N v21 v23 h19) (fun v26 h27 => (if v26 = 0 then (fg_284_68 N h27) else ((am_vR (am_pG 2831 x0 h27)).bind fun v30 => (if am_pOk 3 v30 h27 then am_cI true (fm_86 N v30 v6 h27) (fun v33 h34 => (if v33 = 0 then (fg_284_68 N h34) else (fg_284_69 N 1 h34))) else none)))) else none)))) else none)) else (fg_284_28 N h7)))))) else none)) else none) = r_) : fg_284_0 N x0 x1 x2 h = r_ := k_
theorem hm_284 {N : Nat} {y0 : Value} {y1 : Int32} {y2 : Int32} {h : am_H} {r_ : Option am_O} (k_ : fg_284_0 N y0 y1 y2 h = r_) : fm_284 N y0 y1 y2 h = r_ := k_
theorem hd_555_151 {N : Nat} {s0 : Int32} {h : am_H} {r_ : Option am_O} (k_ : (if am_rfit (some FieldType.boolean) s0 then some (.inl (some (.int s0), h)) else none) = r_) : fg_555_151 N s0 h = r_ := k_
theorem hd_555_150 {N : Nat} {h : am_H} {r_ : Option am_O} (k_ : (fg_555_151 N 0 h) = r_) : fg_555_150 N h = r_ := k_
theorem hd_555_130 {N : Nat} {x0 : Value} {x2 : Int32} {x3 : Int32} {h : am_H} {r_ : Option am_O} (k_ : (if am_pOk 12 x0 h then am_cV true (fm_442 N x0 h) (fun h3 => (if x3 = 0 then (fg_555_150 N h3) else (if am_pOk 12 x0 h3 then am_cI true (fm_375 N x0 x2 h3) (fun v7 h8 => (if v7 = 0 then (fg_555_150 N h8) else (fg_555_151 N 1 h8))) else none))) else none) = r_) : fg_555_130 N x0 x2 x3 h = r_ := k_
theorem hd_555_124 {N : Nat} {rec_62 : Value → Int32 → Int32 → Int32 → am_H → Option am_O} {x0 : Value} {x2 : Int32} {x3 : Int32} {x4 : Int32} {h : am_H} {r_ : Option am_O} (k_ : (rec_62 x0 x2 x3 ((x4 + 1)) h) = r_) : fg_555_124 N rec_62 x0 x2 x3 x4 h = r_ := k_
theorem hd_555_115 {N : Nat} {rec_62 : Value → Int32 → Int32 → Int32 → am_H → Option am_O} {x0 : Value} {x2 : Int32} {x4 : Int32} {s0 : Int32} {h : am_H} {r_ : Option am_O} (k_ : (if s0 = 0 then (fg_555_124 N rec_62 x0 x2 s0 x4 h) else (if am_pOk 12 x0 h then am_cV true (fm_495 N x0 h) (fun h4 => (fg_555_124 N rec_62 x0 x2 s0 x4 h4)) else none)) = r_) : fg_555_115 N rec_62 x0 x2 x4 s0 h = r_ := k_
theorem hd_555_114 {N : Nat} {rec_62 : Value → Int32 → Int32 → Int32 → am_H → Option am_O} {x0 : Value} {x2 : Int32} {x4 : Int32} {h : am_H} {r_ : Option am_O} (k_ : (fg_555_115 N rec_62 x0 x2 x4 0 h) = r_) : fg_555_114 N rec_62 x0 x2 x4 h = r_ := k_
theorem hd_555_62 {N : Nat} {K : Nat} {x0 : Value} {x2 : Int32} {x3 : Int32} {x4 : Int32} {h : am_H} {r_ : Option am_O} (k_ : ((am_vI (am_pG 3187 x0 h)).bind fun v1 => (if v1 ≤ x4 then (fg_555_130 N x0 x2 x3 h) else (if x3 = 0 then (fg_555_130 N x0 x2 x3 h) else ((am_vR (am_pG 3188 x0 h)).bind fun v5 => ((am_pA 0 v5 x4 h).bind fun v7 => ((am_vI (am_pG 3090 x0 h)).bind fun v9 => (if v9 ≤ v7 then (fg_555_114 N (fg_555_62 N K) x0 x2 x4 h) else ((am_vR (am_pG 3188 x0 h)).bind fun v12 => ((am_pA 0 v12 x4 h).bind fun v14 => ((am_vR (am_pG 3189 x0 h)).bind fun v16 => ((am_pA 0 v16 x4 h).bind fun v18 => (if am_pOk 12 x0 h then am_cI true (fm_538 N x0 v14 v18 h) (fun v21 h22 => (if v21 = 0 then (fg_555_114 N (fg_555_62 N K) x0 x2 x4 h22) else (fg_555_115 N (fg_555_62 N K) x0 x2 x4 1 h22))) else none)))))))))))) = r_) : fg_555_62 N (K + 1) x0 x2 x3 x4 h = r_ := by rw [fg_555_62]; exact k_
theorem hd_555_50 {N : Nat} {h : am_H} {r_ : Option am_O} (k_ : some (.inl (some (.int 0), h)) = r_) : fg_555_50 N h = r_ := k_
theorem hd_555_22 {N : Nat} {x0 : Value} {x1 : Int32} {x2 : Int32} {s0 : Value} {s1 : Int32} {h : am_H} {r_ : Option am_O} (k_ : ((am_pP 3072 s0 (.int s1) h).bind fun h1 => ((am_vI (am_pG 3072 x0 h1)).bind fun v3 => (if 0 < v3 then (fg_555_50 N h1) else ((am_vR (am_pG 3074 x0 h1)).bind fun v6 => ((am_pA 0 v6 x1 h1).bind fun v8 => (if ¬ v8 = 0 then (fg_555_50 N h1) else ((am_vR (am_pG 3074 x0 h1)).bind fun v11 => ((am_pA 0 v11 x2 h1).bind fun v13 => (if v13 = 0 then (if am_pOk 12 x0 h1 then am_cV true (fm_391 N x0 x1 h1) (fun h18 => (fg_555_62 N N x0 x2 1 0 h18)) else none) else (fg_555_50 N h1)))))))))) = r_) : fg_555_22 N x0 x1 x2 s0 s1 h = r_ := k_
theorem hd_555_21 {N : Nat} {x0 : Value} {x1 : Int32} {x2 : Int32} {s0 : Value} {h : am_H} {r_ : Option am_O} (k_ : (fg_555_22 N x0 x1 x2 s0 1 h) = r_) : fg_555_21 N x0 x1 x2 s0 h = r_ := k_
theorem hd_555_0 {N : Nat} {x0 : Value} {x1 : Int32} {x2 : Int32} {h : am_H} {r_ : Option am_O} (k_ : (if am_pOk 12 x0 h then am_cI true (fm_358 x0 x1 h) (fun v2 h3 => (if v2 = 0 then (fg_555_21 N x0 x1 x2 x0 h3) else (if am_pOk 12 x0 h3 then am_cI true (fm_358 x0 x2 h3) (fun v7 h8 => (if v7 = 0 then (fg_555_21 N x0 x1 x2 x0 h8) else (fg_555_22 N x0 x1 x2 x0 0 h8))) else none))) else none) = r_) : fg_555_0 N x0 x1 x2 h = r_ := k_
theorem hm_555 {N : Nat} {y0 : Value} {y1 : Int32} {y2 : Int32} {h : am_H} {r_ : Option am_O} (k_ : fg_555_0 N y0 y1 y2 h = r_) : fm_555 N y0 y1 y2 h = r_ := k_

theorem okF_z : ∀ (l : List (Nat × Nat)) (st : List (Nat × Nat × Nat)), okF st l → okF st (l.map (fun x => (x.1, 0))) := by
  intro l
  induction l with
  | nil => intro st h; exact h
  | cons x r ih =>
    intro st h
    cases st with
    | nil => rw [okF] at h; exact absurd h id
    | cons c s =>
      rw [okF] at h
      rw [List.map_cons, okF]
      exact ⟨h.1, h.2.1, h.2.2.1, h.2.2.2.1, h.2.2.2.2.1, ih _ h.2.2.2.2.2⟩
/-- a sound tree, as a list -/
theorem tree_of {ln sz : Nat} {s v : Nat → Int32} (h : sound 0 ln sz s v) : ∃ P : xT, P.length = sz ∧ okP P ∧ lay2 s v (tI P) := by
  obtain ⟨l, l1, l2, l3⟩ := h.2.2.2.1 rfl
  refine ⟨(List.range sz).map (fun k => ((l.getD k (0, 0)).1, v k)), by rw [List.length_map, List.length_range], ⟨?_, fun x hx => ?_⟩, fun k x hx => ?_⟩
  · have e : sl ((List.range sz).map (fun k => ((l.getD k (0, 0)).1, v k))) = l.map (fun x => (x.1, 0)) := by
      unfold sl
      rw [List.map_map]
      apply List.ext_getElem?
      intro i
      rw [List.getElem?_map, List.getElem?_map]
      by_cases c : i < sz
      · rw [List.getElem?_range c, List.getElem?_eq_getElem (by omega)]
        show some ((l.getD i (0, 0)).1, 0) = some ((l[i]).1, 0)
        rw [List.getD_eq_getElem?_getD, List.getElem?_eq_getElem (by omega)]
        rfl
      · rw [List.getElem?_eq_none (by rw [List.length_range]; omega), List.getElem?_eq_none (by omega)]
        rfl
    rw [e]
    exact okF_z l _ l2
  · rw [List.mem_map] at hx
    obtain ⟨k, hk, rfl⟩ := hx
    rw [List.mem_range] at hk
    have hd := List.drop_eq_getElem_cons (l := l) (i := k) (by omega)
    obtain ⟨a, b, c⟩ := l3 k _ _ hd
    have e : l.getD k (0, 0) = l[k] := by rw [List.getD_eq_getElem?_getD, List.getElem?_eq_getElem (by omega)]; rfl
    dsimp only
    rw [e]
    exact ⟨b, c⟩
  · unfold tI at hx
    rw [List.map_map, List.getElem?_map] at hx
    by_cases c : k < sz
    · rw [List.getElem?_range c] at hx
      have hx := Option.some.inj hx
      rw [← hx]
      have hd := List.drop_eq_getElem_cons (l := l) (i := k) (by omega)
      obtain ⟨a, -, -⟩ := l3 k _ _ hd
      have e : l.getD k (0, 0) = l[k] := by rw [List.getD_eq_getElem?_getD, List.getElem?_eq_getElem (by omega)]; rfl
      refine ⟨?_, rfl⟩
      show s k = nI (l.getD k (0, 0)).1
      rw [e]
      exact a
    · rw [List.getElem?_eq_none (by rw [List.length_range]; omega)] at hx
      exact absurd hx (by simp)
theorem sound_T {s v : Nat → Int32} {Q : xT} (ho : okP Q) (hl : Q.length ≤ 60) (h : lay2 s v (tI Q)) : sound 0 0 Q.length s v := by
  refine ⟨by omega, hl, fun _ => ⟨okP_pos ho, rfl⟩, fun _ => ⟨sl Q, sl_len, ho.1, fun k x r hd => ?_⟩, fun e => absurd e (by decide), fun e => absurd e (by decide), fun e => absurd e (by decide)⟩
  have hk : k < Q.length := by
    have := drop_len hd
    rw [sl_len] at this
    omega
  rw [sl_at hk] at hd
  injection hd with h1 h2
  rw [← h1]
  obtain ⟨a, b⟩ := h k _ (tI_at hk)
  obtain ⟨c, d⟩ := ho.2 _ (List.mem_of_getElem? (xS_at hk))
  exact ⟨a, fun e => by rw [b]; exact c e, fun e => by rw [b]; exact d e⟩
theorem itm_T {kd : Nat} {s v F : Nat → Int32} {Q : xT} (hk : kd ≠ 2) (hF : tO F Q) (h : lay2 s v (tI Q)) : itm kd s v Q.length F := by
  unfold itm
  rw [if_neg hk]
  intro k hkl
  obtain ⟨a, b⟩ := h k _ (tI_at hkl)
  obtain ⟨c, d⟩ := hF k _ (xS_at hkl)
  exact ⟨c.trans a.symm, d.trans b.symm⟩
theorem tO_of {kd : Nat} {s v F : Nat → Int32} {Q : xT} (hk : kd ≠ 2) (h : lay2 s v (tI Q)) (hi : itm kd s v Q.length F) : tO F Q := by
  unfold itm at hi
  rw [if_neg hk] at hi
  intro k x hx
  have hkl : k < Q.length := (List.getElem?_eq_some_iff.mp hx).1
  have e := xS_at hkl
  rw [hx] at e
  have e := Option.some.inj e
  obtain ⟨a, b⟩ := h k _ (tI_at hkl)
  obtain ⟨c, d⟩ := hi k hkl
  rw [e]
  exact ⟨c.trans a, d.trans b⟩
/-- a birth that is a tree -/
theorem birth_T {V : Nat → Nat → Value} {I : Nat → Nat → Int32} {L : Nat → Nat → Int64} {R : Nat → Nat → Option Nat} {tl : am_H} {n p b : Nat} (hr : rel V I L R tl n p) (hb : b < n) (hk : I 175 b = nI 0) : ∃ (P : xT) (a it : Nat), okP P ∧ P.length ≤ 60 ∧ I 176 b = nI P.length ∧ I 177 b = nI 0 ∧ R 1 b = some (269 + a) ∧ lay2 (fun k => I 184 (60 * b + k)) (fun k => I 185 (60 * b + k)) (tI P) ∧ (∀ W J, srcP W J tl (269 + a) (269 + it) 0 0 P) ∧ (∀ W J M Q, am_vI (am_pG 769 (.ref (269 + a)) (fx W J M Q ++ tl)) = some (nI 0)) := by
  obtain ⟨kd, ln, sz, a, it, f, q1, q2, q3, q4, q5, q6, q7⟩ := bOk_pg (V := V) (I := I) (L := L) (R := R) (tl := tl) (hr.2.1 b hb)
  have k3 := q7.1
  have e : kd = 0 := (nI_eq (by omega) (by omega)).mp (q1.symm.trans hk)
  subst e
  have l0 : ln = 0 := (q7.2.2.1 (by decide)).2
  subst l0
  obtain ⟨P, p1, p2, p3⟩ := tree_of q7
  subst p1
  have hp := prA_tl q5
  have all : ∀ W J, prA W J tl (269 + a) (269 + it) 0 0 P.length (P.length * wdN 0) f := fun W J W' J' L' R' _ _ => by
    obtain ⟨x1, x2, x3, x4, x5, x6, p1, p2⟩ := q5
    rw [tl_at] at p1 p2
    exact ⟨x1, x2, x3, x4, x5, x6, tl_at.trans p1, tl_at.trans p2⟩
  refine ⟨P, a, it, p2, q7.2.1, q2, q3, q4, p3, fun W J => ⟨P.length * 2, f, all W J, tO_of (kd := 0) (by decide) p3 q6, Nat.le_refl _, by have := q7.2.1; omega, by decide, by decide, q7.2.1⟩, fun W J M Q => ?_⟩
  obtain ⟨x1, x2, x3, x4, x5, x6, p1, p2⟩ := q5
  rw [tl_at] at p1
  exact ev_gI (tl_at.trans p1) rfl rfl
/-- the reference loads a tree onto its second desk -/
theorem s391 {V : Nat → Nat → Value} {I : Nat → Nat → Int32} {L : Nat → Nat → Int64} {R : Nat → Nat → Option Nat} {tl : am_H} {N b : Nat} {P : xT} (hN : 400 < N) (hb : b < 600) (ho : okP P) (hl : P.length ≤ 60) (q1 : I 175 b = nI 0) (q2 : I 176 b = nI P.length) (q3 : I 177 b = nI 0) (hy : lay2 (fun k => I 184 (60 * b + k)) (fun k => I 185 (60 * b + k)) (tI P)) : ∃ W J, fm_391 N (.ref 174) (nI b) (fx V I L R ++ tl) = some (.inl (none, fx W J L R ++ tl)) ∧ rA W J 0 P ∧ frX V W I J ∧ frU3 V W I J := by
  have hF : isF 1 (sl P) := okF_F (sl P) [(0, 1, 0)] ho.1
  rw [← sl_len (P := P)] at q2
  obtain ⟨g, g1, e⟩ := r_391t (V := V) (L := L) (R := R) (tl := tl) (N := N) (by omega) hb (by rw [sl_len]; exact hl) hF q1 q2 q3 (fun k x r hd => by
    have hk : k < P.length := by
      have := drop_len hd
      rw [sl_len] at this
      omega
    rw [sl_at hk] at hd
    injection hd with h1 h2
    rw [← h1]
    exact ⟨(hy k _ (tI_at hk)).1, (nd_at ho hk).1⟩)
  rw [sl_len] at e
  refine ⟨_, _, e, ⟨rfl, rfl, ⟨by rw [tI_len]; rfl, fun k x hx => ?_⟩, fun k hk => ?_, hl⟩, ⟨fun a j n => ?_, fun y a b c d e f g => ?_, fun w => wt_i (wt_i (wt_i w (by decide)) (by decide)) (by decide)⟩, rfl, rfl, rfl⟩
  · have hk : k < P.length := by
      have := (List.getElem?_eq_some_iff.mp hx).1
      rw [tI_len] at this
      exact this
    obtain ⟨y1, y2⟩ := hy k x hx
    exact ⟨(ldr_at hk).trans y1, (ldr_at hk).trans y2⟩
  · have := g1 k (by omega) (by rw [sl_len]; exact hk)
    show g k = _
    rw [this]
    congr 1
    unfold xE enL
    omega
  · unfold dk2V
    rw [vup_o (fun e => n ⟨e.1, by omega⟩), vup_o (fun e => n ⟨e.1, by omega⟩), vup_o (fun e => n ⟨e.1, by omega⟩)]
  · unfold dk2I
    rw [iup_na e, iup_na d, iup_na c]
/-- a call that bears -/
theorem bear_fin {L : Nat → Nat → Int64} {R : Nat → Nat → Option Nat} {tl : am_H} {n p j kd ln sz : Nat} {V0 W W' : Nat → Nat → Value} {I0 J J' : Nat → Nat → Int32} {x1 x2 x3 x4 x5 : Int32} {x6 : Int64} {F : Nat → Int32} {w : Option am_O} {r : am_H → Option am_O} (hr : rel V0 I0 L R tl n p) (hm : room tl n p j) (hn : n < 600) (hsz : sz * wdN kd ≤ 120) (hw : w = some (.inl (some (.int 0), fx (vup W 0 1 (.int (nI (n + 1)))) J (outL L (nI n).toInt64) (rup R 1 (va_up (R 1) n (some (269 + tl.length)))) ++ (tl ++ brt tl.length kd ln sz x1 x2 x3 x4 x5 x6 F)))) (hr2 : r (fx (vup W 0 1 (.int (nI (n + 1)))) J (outL L (nI n).toInt64) (rup R 1 (va_up (R 1) n (some (269 + tl.length)))) ++ (tl ++ brt tl.length kd ln sz x1 x2 x3 x4 x5 x6 F)) = some (.inl (some (.int (nI n)), fx (vup W' 174 1 (.int (nI (n + 1)))) (bJ J' n (nI kd) sz (nI ln) x1 x2 x3 x4 x5) (lup (outL L (nI n).toInt64) 183 (vp_updL (outL L (nI n).toInt64 183) n x6)) (rup R 1 (va_up (R 1) n (some (269 + tl.length)))) ++ (tl ++ brt tl.length kd ln sz x1 x2 x3 x4 x5 x6 F)))) (k2 : keep (vup V0 0 1 (.int (nI (n + 1)))) W' I0 J') (h0 : W' 174 0 = .int 0) (hi : itm kd (J' 186) (J' 187) sz F) (hs : sound kd ln sz (J' 186) (J' 187)) (hp : ped n x1 x2 x3 x4 x5) (hg : gen1 I0 n x1 x2 x3 x4 x5) : ∃ h', opBI w r vfI h' ∧ invW (j + 1) h' := by
  have hR := bear_rel (x6 := x6) (f := F) (M' := outL L (nI n).toInt64) hr hn keep_r k2 (fun y hy => by
    refine lup_na ?_
    have key : ∀ y, y ∈ lRel → y ≠ 268 := by decide
    exact key y hy) hi hs hp hg
  refine ⟨_, opBI_g (v := nI n) hw hr2 ?_ ?_, inv_mk hR (room_up (room_b hsz hm))⟩
  · rw [vup_o (by decide)]
    exact h0
  · rw [lup_na (by decide)]
    exact outL_at
theorem ped_5 {n b : Nat} (hb : b < n) (hn : n ≤ 600) : ped n 5 (nI b) (-1) (-1) (-1) := ⟨5, by decide, rfl, .inr ⟨b, hb, rfl⟩, .inl rfl, fun _ => nI_nm1 (by omega), fun h => absurd h (by decide), fun h => absurd h (by decide), .inl rfl⟩
/-- other rows of the last simplifying -/
theorem rel_rows {V : Nat → Nat → Value} {I : Nat → Nat → Int32} {L : Nat → Nat → Int64} {R : Nat → Nat → Option Nat} {tl : am_H} {n p m : Nat} {g1 g2 g3 g4 : Nat → Int32} (hr : rel V I L R tl n p) (hm : m ≤ 60) (h : ∀ k, k < m → g1 k = g3 k ∧ g2 k = g4 k ∧ (∃ a, a < 60 ∧ g1 k = nI a) ∧ ∃ a, a ≤ 8 ∧ g2 k = nI a) : rel (vup (vup V 118 2 (.int (nI m))) 174 115 (.int (nI m))) (iup (iup (iup (iup I 119 g1) 120 g2) 248 g3) 249 g4) L R tl n p := by
  obtain ⟨a1, a2, a3, a4, a5, a6, a7, a8, a9, a10, a11, a12, w⟩ := hr
  exact ⟨a1, a2, a3, a4, a5, a6, a7, a8, a9, ⟨m, hm, rfl, rfl, h⟩, a11, a12, wt_i (wt_i w (by decide)) (by decide)⟩
theorem smR_b : ∀ (n : Nat) (P : xT), okP P → (smR n P).length + 1 ≤ P.length + 0 ∧ ∀ x, x ∈ smR n P → x.1 < P.length ∧ x.2 < 9 := by
  intro n
  induction n with
  | zero => intro P ho; rw [smR]; exact ⟨okP_pos ho, fun x hx => absurd hx (by simp)⟩
  | succ n ih =>
    intro P ho
    rw [smR]
    cases er : fsK P P.length with
    | none => exact ⟨okP_pos ho, fun x hx => absurd hx (by simp)⟩
    | some d =>
      obtain ⟨k, w, c⟩ := d
      obtain ⟨a1, a2, a3⟩ := fsK_s _ _ _ _ er
      obtain ⟨b1, b2⟩ := ru_len ho a1 a3
      obtain ⟨i1, i2⟩ := ih _ b1
      refine ⟨?_, fun x hx => ?_⟩
      · show (smR n (rp P k (rMid P k c))).length + 1 + 1 ≤ _
        omega
      · rw [List.mem_cons] at hx
        rcases hx with rfl | hx
        · exact ⟨a1, a2⟩
        · have := i2 x hx
          exact ⟨by omega, this.2⟩
set_option maxRecDepth 100000 in
set_option maxHeartbeats 4000000 in
theorem r_535h {V : Nat → Nat → Value} {I : Nat → Nat → Int32} {L : Nat → Nat → Int64} {R : Nat → Nat → Option Nat} {tl : am_H} {N n b kd : Nat} {o : Option am_O} (b3 : V 174 1 = .int (nI n)) (b1 : n ≤ 600) (hb : b < n) (q1 : I 175 b = nI kd) (k3 : kd ≤ 3) (ho : fg_535_53 N (.ref 174) (nI b) (.ref 174) (if kd = 0 then (if n = 600 then 3 else 0) else 2) (fx V I L R ++ tl) = o) : fm_535 N (.ref 174) (nI b) (fx V I L R ++ tl) = o := by
  apply hm_535
  apply hd_535_0
  refine ev_i rfl (ev_cI (r_358 b3 b1 hb) (ev_t (by decide) (ev_b (rdR rfl) (ev_i rfl (ev_cI (r_358 b3 b1 hb) (ev_f (by decide) ?_))))))
  apply hd_535_30
  refine ev_b ((qa_175 (by omega)).trans (congrArg some q1)) ?_
  by_cases c : kd = 0
  · rw [if_pos c] at ho
    refine ev_t (by rw [c]; rfl) (ev_b (rdI b3) ?_)
    by_cases d : n = 600
    · rw [if_pos d] at ho
      exact ev_f (fun e => e (by rw [d]; rfl)) ho
    · rw [if_neg d] at ho
      exact ev_t (fun e => d ((nI_eq (b := 600) (by omega) (by omega)).mp e)) ho
  · rw [if_neg c] at ho
    exact ev_f (fun e => c ((nI_eq (b := 0) (by omega) (by omega)).mp e)) ho
set_option maxRecDepth 100000 in
set_option maxHeartbeats 4000000 in
theorem u_47 {V : Nat → Nat → Value} {I : Nat → Nat → Int32} {L : Nat → Nat → Int64} {R : Nat → Nat → Option Nat} {tl : am_H} {n p j : Nat} (hr : rel V I L R tl n p) (hm : room tl n p j) {N : Nat} (hN : 5000 < N) (a1 : Int32) : ∃ h', opBI (fm_267 N (.ref 0) a1 (.ref 268) (fx V I L R ++ tl)) (fun h1 => fm_535 N (.ref 174) a1 h1) vfI h' ∧ invW (j + 1) h' := by
  obtain ⟨b1, b2, b3⟩ := hr.1
  have hw := rel_w hr
  rcases dich a1 (n := n) (by omega) with hn | ⟨b, hb, rfl⟩
  · refine ⟨_, opBI_err (c := 1) (b := 0) (by decide) (tl := tl ++ [am_dummy]) ?_ ?_, inv_mk (rel_thr 1 (rel_dum hr)) (room_dum hm)⟩
    · have e : fm_268 N (.ref 0) a1 (fx V I L R ++ tl) = some (.inr (2, (fx V I L R ++ (tl ++ [am_dummy])))) := by
        apply hm_268
        apply hd_268_0
        refine ev_i rfl ?_
        rw [c_63n b2 hn]
        rfl
      unfold fm_267 fg_267_0
      refine ev_i rfl ?_
      rw [e]
      rfl
    · show fm_535 N (.ref 174) a1 (fx V I L R ++ (tl ++ [am_dummy])) = _
      apply hm_535
      apply hd_535_0
      refine ev_i rfl (ev_cI (r_358n b3 b1 hn) (ev_f (fun e => e rfl) ?_))
      apply hd_535_53
      exact ev_b qp_174_0 (ev_b (a := 1) rfl (ev_f (by decide) rfl))
  · obtain ⟨kd, ln, sz, a, it, f, q1, q2, q3, q4, q5, q6, q7, q8, q9⟩ := hr.2.1 b hb
    have p1 : (fx V I L R ++ tl)[269 + a]? = _ := tl_at.trans q5
    have k3 := q8.1
    by_cases hk : kd = 0
    · subst hk
      by_cases c6 : n = 600
      · subst c6
        refine ⟨_, opBI_err (c := 3) (b := 0) (by decide) (tl := tl ++ [am_dummy]) ?_ (r_535h b3 b1 hb q1 k3 (by rw [if_pos rfl, if_pos rfl]; apply hd_535_53; exact ev_b qp_174_0 (ev_b (a := 3) rfl (ev_f (by decide) rfl)))), inv_mk (rel_thr 3 (rel_dum hr)) (room_dum hm)⟩
        have e : fm_268 N (.ref 0) (nI b) (fx V I L R ++ tl) = some (.inr (1, (fx V I L R ++ (tl ++ [am_dummy])))) := by
          apply hm_268
          apply hd_268_0
          refine ev_i rfl (ev_cR (c_63 b2 b1 hb q4) rfl (ev_b (ev_gI p1 rfl rfl) (ev_t rfl (ev_i rfl ?_))))
          rw [c_32n b2]
          rfl
        unfold fm_267 fg_267_0
        refine ev_i rfl ?_
        rw [e]
        rfl
      · have hn : n < 600 := by omega
        obtain ⟨P, a', it', o1, o2, o3, o4, o5, o6, o7, o8⟩ := birth_T hr hb q1
        have ea : a' = a := by rw [q4] at o5; have := Option.some.inj o5; omega
        subst ea
        obtain ⟨z1, z2⟩ := smp_ok 60 P o1
        obtain ⟨y1, y2⟩ := smR_b 60 P o1
        -- the class
        obtain ⟨W1, J1, e1, h1, f1⟩ := s60_167 (L := L) (R := R) (o7 V I) (by omega)
        obtain ⟨W2, J2, e2, h2, f2, -, r2⟩ := c_269_167 (L := L) (R := R) (tl := tl) (N := N) (kp := 1) (by omega) (by omega) o1 o2 (f1.2.2 hw) h1
        have r2 := r2 rfl
        have w2 : wt W2 := f2.2.2 (f1.2.2 hw)
        have c01 : W2 0 1 = .int (nI n) := (f2.1 0 1 (by decide) (by decide) (by decide) (by decide)).trans ((f1.1 0 1 (by decide)).trans b2)
        have eb := bear_c (V := W2) (I := J2) (L := L) (R := R) (tl := tl) (n := n) (kd := 0) (ln := 0) (sz := (smp 60 P).length) h2.1 h2.2.1 h2.2.2.1 h2.2.2.2.1 (by omega) (by show (smp 60 P).length * 2 ≤ 120; omega) c01 hn 5 (nI b) (-1) (-1) (-1) 0
        have vc : ∀ a j, a ≠ 167 → a ≠ 129 → a ≠ 118 → ¬ (a = 121 ∧ j = 7) → W2 a j = V a j := fun a j p q r s => (f2.1 a j p q r s).trans (f1.1 a j p)
        have ic : ∀ y, y ≠ 168 → y ≠ 130 → y ≠ 122 → y ≠ 119 → y ≠ 120 → J2 y = I y := fun y p q r s t => (f2.2.1 y p q r s t).trans (f1.2.1 y p)
        -- the reference
        obtain ⟨W3, J3, e3, h3, f3, u3⟩ := s391 (V := vup (vup W2 0 1 (.int (nI (n + 1)))) 174 0 (.int 0)) (I := J2) (L := outL L (nI n).toInt64) (R := rup R 1 (va_up (R 1) n (some (269 + tl.length)))) (tl := tl ++ brt tl.length 0 0 (smp 60 P).length 5 (nI b) (-1) (-1) (-1) 0 (va_cpy (J2 168) (fun _ => 0) 0 0 ((smp 60 P).length * wdN 0))) (N := N) (b := b) (by omega) (by omega) o1 o2 (by rw [ic 175 (by decide) (by decide) (by decide) (by decide) (by decide)]; exact q1) (by rw [ic 176 (by decide) (by decide) (by decide) (by decide) (by decide)]; exact o3) (by rw [ic 177 (by decide) (by decide) (by decide) (by decide) (by decide)]; exact o4) (by rw [ic 184 (by decide) (by decide) (by decide) (by decide) (by decide), ic 185 (by decide) (by decide) (by decide) (by decide) (by decide)]; exact o6)
        obtain ⟨W4, J4, e4, h4, f4, -, r4⟩ := r_536 (L := outL L (nI n).toInt64) (R := rup R 1 (va_up (R 1) n (some (269 + tl.length)))) (tl := tl ++ brt tl.length 0 0 (smp 60 P).length 5 (nI b) (-1) (-1) (-1) 0 (va_cpy (J2 168) (fun _ => 0) 0 0 ((smp 60 P).length * wdN 0))) (N := N) (kp := 1) (by omega) (by omega) o1 h3
        have r4 := r4 rfl
        have F4 := frX_t f3 f4
        have l4 := h4.2.2.1
        rw [tI_len] at l4
        have v1 : W4 174 1 = .int (nI n) := (F4.1 174 1 (by decide)).trans ((vc 174 1 (by decide) (by decide) (by decide) (by decide)).trans b3)
        have er := bear_r (V := W4) (I := J4) (L := outL L (nI n).toInt64) (R := rup R 1 (va_up (R 1) n (some (269 + tl.length)))) (tl := tl ++ brt tl.length 0 0 (smp 60 P).length 5 (nI b) (-1) (-1) (-1) 0 (va_cpy (J2 168) (fun _ => 0) 0 0 ((smp 60 P).length * wdN 0))) (N := N) (n := n) (kd := 0) (ln := 0) (sz := (smp 60 P).length) v1 h4.1 l4 ⟨0, h4.2.1, rfl⟩ hn (by omega) (by omega) 5 (nI b) (-1) (-1) (-1) 0
        have hR := rel_rows (m := (smR 60 P).length) (g1 := J4 119) (g2 := J4 120) (g3 := J4 248) (g4 := J4 249) hr (by omega) (fun k hk => by
          obtain ⟨x1, x2⟩ := r2.2 k _ (List.getElem?_eq_getElem hk)
          obtain ⟨x3, x4⟩ := r4.2 k _ (List.getElem?_eq_getElem hk)
          obtain ⟨x5, x6⟩ := y2 _ (List.getElem_mem hk)
          rw [F4.2.1 119 (by decide) (by decide) (by decide) (by decide) (by decide) (by decide) (by decide), F4.2.1 120 (by decide) (by decide) (by decide) (by decide) (by decide) (by decide) (by decide)]
          exact ⟨x1.trans x3.symm, x2.trans x4.symm, ⟨_, by omega, x1⟩, ⟨_, by omega, x2⟩⟩)
        refine bear_fin (W := W2) (J := J2) (W' := W4) (J' := J4) (kd := 0) (ln := 0) (sz := (smp 60 P).length) (x1 := 5) (x2 := nI b) (x3 := -1) (x4 := -1) (x5 := -1) (x6 := 0) (F := va_cpy (J2 168) (fun _ => 0) 0 0 ((smp 60 P).length * wdN 0)) hR hm hn (by show (smp 60 P).length * 2 ≤ 120; omega) ?_ ?_ ⟨fun a j hj => ?_, fun y hy => ?_, fun _ => F4.2.2 (wt_i (wt_i w2 (by decide)) (by decide))⟩ ((F4.1 174 0 (by decide)).trans rfl) (itm_T (by decide) (tO_cpy h2.2.2.2.2) h4.2.2.2) (sound_T z1 (by omega) h4.2.2.2) (ped_5 hb b1) (gen_o (by decide) (by decide))
        · have e : fm_268 N (.ref 0) (nI b) (fx V I L R ++ tl) = _ := hm_268 (hd_268_0 (ev_i rfl (ev_cR (c_63 b2 b1 hb q4) rfl (ev_b (ev_gI p1 rfl rfl) (ev_t rfl (ev_i rfl (ev_cV (c_32 b2 hn) (ev_b (rdR rfl) (ev_i rfl (ev_cV e1 (ev_b (rdR rfl) (ev_b (rdR rfl) (ev_i rfl (ev_cV e2 (ev_b (rdR rfl) (ev_i rfl (ev_cI eb rfl)))))))))))))))))
          unfold fm_267 fg_267_0
          refine ev_i rfl ?_
          rw [e]
          exact ev_b out_s rfl
        · show fm_535 N (.ref 174) (nI b) _ = _
          refine r_535h (n := n) (kd := 0) ((vc 174 1 (by decide) (by decide) (by decide) (by decide)).trans b3) b1 hb (by rw [ic 175 (by decide) (by decide) (by decide) (by decide) (by decide)]; exact q1) (by omega) ?_
          rw [if_pos rfl, if_neg c6]
          apply hd_535_53
          exact ev_b qp_174_0 (ev_b (a := 0) rfl (ev_t (by decide) (ev_i rfl (ev_cV e3 (ev_i rfl (ev_cV e4 (ev_i rfl (ev_cI er rfl))))))))
        · by_cases c1 : a = 174 ∧ j = 115
          · rw [c1.1, c1.2]
            exact r4.1.trans rfl
          · have n174 : ¬ (a = 174 ∧ (j = 13 ∨ j = 14 ∨ j = 15 ∨ j = 18 ∨ j = 19 ∨ j = 20 ∨ j = 115)) := fun e => by
              have key : ∀ j, j ∈ vRel 174 → j ≠ 13 ∧ j ≠ 14 ∧ j ≠ 15 ∧ j ≠ 18 ∧ j ≠ 19 ∧ j ≠ 20 := by decide
              have := key j (e.1 ▸ hj)
              have h2 := e.2
              have h3 : j ≠ 115 := fun h => c1 ⟨e.1, h⟩
              omega
            have n0 : ¬ (a = 174 ∧ j = 0) := fun e => by
              have key : ∀ j, j ∈ vRel 174 → j ≠ 0 := by decide
              exact key j (e.1 ▸ hj) e.2
            rw [F4.1 a j n174, vup_o n0]
            by_cases c2 : a = 0 ∧ j = 1
            · rw [c2.1, c2.2]
              rfl
            · rw [vup_o c2, vup_o c2, vup_o c1]
              by_cases c3 : a = 118 ∧ j = 2
              · rw [c3.1, c3.2, vup_eq]
                exact r2.1
              · rw [vup_o c3]
                refine vc a j (fun e => ?_) (fun e => ?_) (fun e => ?_) (fun e => ?_)
                · rw [e] at hj; exact absurd hj (by simp [vRel])
                · rw [e] at hj; exact absurd hj (by simp [vRel])
                · rw [e] at hj
                  have key : ∀ j, j ∈ vRel 118 → j = 2 := by decide
                  exact c3 ⟨e, key j hj⟩
                · rw [e.1] at hj; exact absurd hj (by simp [vRel])
        · by_cases d1 : y = 249
          · rw [d1, iup_eq]
          · rw [iup_na d1]
            by_cases d2 : y = 248
            · rw [d2, iup_eq]
            · rw [iup_na d2]
              by_cases d3 : y = 120
              · rw [d3, iup_eq]
              · rw [iup_na d3]
                by_cases d4 : y = 119
                · rw [d4, iup_eq]
                · rw [iup_na d4]
                  have key : ∀ y, y ∈ iRel → y ≠ 186 ∧ y ≠ 187 ∧ y ≠ 188 ∧ y ≠ 189 ∧ y ≠ 192 ∧ y ≠ 168 ∧ y ≠ 130 ∧ y ≠ 122 := by decide
                  obtain ⟨g1, g2, g3, g4, g5, g6, g7, g8⟩ := key y hy
                  rw [F4.2.1 y g1 g2 g3 g4 g5 d2 d1]
                  exact ic y g6 g7 g8 d4 d3
    · refine ⟨_, opBI_err (c := 2) (b := 0) (by decide) (tl := tl ++ [am_dummy]) ?_ (r_535h b3 b1 hb q1 k3 (by rw [if_neg hk]; apply hd_535_53; exact ev_b qp_174_0 (ev_b (a := 2) rfl (ev_f (by decide) rfl)))), inv_mk (rel_thr 2 (rel_dum hr)) (room_dum hm)⟩
      have e : fm_268 N (.ref 0) (nI b) (fx V I L R ++ tl) = some (.inr (0, (fx V I L R ++ (tl ++ [am_dummy])))) := by
        rw [← List.append_assoc]
        apply hm_268
        apply hd_268_0
        exact ev_i rfl (ev_cR (c_63 b2 b1 hb q4) rfl (ev_b (ev_gI p1 rfl rfl) (ev_f (fun e => hk ((nI_eq (b := 0) (by omega) (by omega)).mp e)) rfl)))
      unfold fm_267 fg_267_0
      refine ev_i rfl ?_
      rw [e]
      rfl
