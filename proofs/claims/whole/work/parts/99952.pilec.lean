/-! ===== trees out of code: the pile of the class ===== -/
theorem hd_294_352 {N : Nat} {x0 : Value} {x1 : Int32} {h : am_H} {r_ : Option am_O} (k_ : ((am_vI (am_pG 2563 x0 h)).bind fun v1 => am_cI false (fm_55 x1 h) (fun v3 h4 => ((am_pP 2563 x0 (.int (v1 + v3)) h4).bind fun h6 => some (.inl (some (.int 1), h6))))) = r_) : fg_294_352 N x0 x1 h = r_ := k_
theorem hd_294_300 {N : Nat} {x0 : Value} {x1 : Int32} {h : am_H} {r_ : Option am_O} (k_ : (if ¬ x1 = 15 then (fg_294_352 N x0 x1 h) else ((am_vR (am_pG 2561 x0 h)).bind fun v2 => ((am_vI (am_pG 2563 x0 h)).bind fun v4 => ((am_pAA v2 (v4 - 1) h).bind fun v6 => ((am_vR (am_pG 2561 x0 h)).bind fun v8 => ((am_vI (am_pG 2563 x0 h)).bind fun v10 => ((am_vR (am_pG 2561 x0 h)).bind fun v12 => ((am_vI (am_pG 2563 x0 h)).bind fun v14 => ((am_pAA v12 (v14 - 2) h).bind fun v16 => ((am_pSA v8 (v10 - 1) v16 h).bind fun h18 => ((am_vR (am_pG 2561 x0 h18)).bind fun v20 => ((am_vI (am_pG 2563 x0 h18)).bind fun v22 => ((am_pSA v20 (v22 - 2) v6 h18).bind fun h24 => (fg_294_352 N x0 x1 h24)))))))))))))) = r_) : fg_294_300 N x0 x1 h = r_ := k_
theorem hd_294_298 {N : Nat} {h : am_H} {r_ : Option am_O} (k_ : some (.inl (some (.int 0), h)) = r_) : fg_294_298 N h = r_ := k_
theorem hd_294_173 {N : Nat} {h : am_H} {r_ : Option am_O} (k_ : some (.inl (some (.int 0), h)) = r_) : fg_294_173 N h = r_ := k_
theorem hd_294_160 {N : Nat} {x0 : Value} {x1 : Int32} {x3 : Int32} {h : am_H} {r_ : Option am_O} (k_ : ((am_vR (am_pG 2562 x0 h)).bind fun v1 => (if am_pOk 10 x0 h then am_cI true (fm_75 N x0 v1 h) (fun v4 h5 => (if v4 ≤ 12 then ((am_vR (am_pG 2561 x0 h5)).bind fun v8 => ((am_vI (am_pG 2563 x0 h5)).bind fun v10 => ((am_pAA v8 (v10 - x3) h5).bind fun v12 => ((am_vR (am_pG 2562 x0 h5)).bind fun v14 => (if am_pOk 3 v12 h5 then am_cV true (fm_60 v12 v14 h5) (fun h18 => (fg_294_352 N x0 x1 h18)) else none))))) else (fg_294_173 N h5))) else none)) = r_) : fg_294_160 N x0 x1 x3 h = r_ := k_
theorem hd_294_108 {N : Nat} {x0 : Value} {x1 : Int32} {x3 : Int32} {s0 : Value} {s1 : Int32} {h : am_H} {r_ : Option am_O} (k_ : (if am_pOk 3 s0 h then am_cI true (fm_41 N s0 s1 0 h) (fun v2 h3 => ((am_vR (am_pG 2562 x0 h3)).bind fun v5 => ((am_vR (am_pG 2561 x0 h3)).bind fun v7 => ((am_vI (am_pG 2563 x0 h3)).bind fun v9 => ((am_pAA v7 (v9 - x3) h3).bind fun v11 => am_cI false (fm_295 N v5 v11 h3) (fun v13 h14 => (if v13 = 0 then (fg_294_173 N h14) else (if ¬ x3 = 2 then (fg_294_160 N x0 x1 x3 h14) else ((am_vR (am_pG 2562 x0 h14)).bind fun v18 => ((am_vR (am_pG 2561 x0 h14)).bind fun v20 => ((am_vI (am_pG 2563 x0 h14)).bind fun v22 => ((am_pAA v20 (v22 - 1) h14).bind fun v24 => am_cI false (fm_295 N v18 v24 h14) (fun v26 h27 => (if v26 = 0 then (fg_294_173 N h27) else (fg_294_160 N x0 x1 x3 h27))))))))))))))) else none) = r_) : fg_294_108 N x0 x1 x3 s0 s1 h = r_ := k_
theorem hd_294_31 {N : Nat} {h : am_H} {r_ : Option am_O} (k_ : some (.inl (some (.int 0), h)) = r_) : fg_294_31 N h = r_ := k_
theorem hd_294_0 {N : Nat} {x0 : Value} {x1 : Int32} {x2 : Int32} {h : am_H} {r_ : Option am_O} (k_ : ((am_vI (am_pG 2563 x0 h)).bind fun v1 => am_cI false (fm_56 x1 h) (fun v3 h4 => (if v1 < v3 then (fg_294_31 N h4) else ((am_vI (am_pG 2563 x0 h4)).bind fun v7 => am_cI false (fm_55 x1 h4) (fun v9 h10 => (if 8 < (v7 + v9) then (fg_294_31 N h10) else (if x1 < 17 then (if 4 < x1 then (if 13 < x1 then (if ¬ x1 = 14 then ((am_vR (am_pG 2561 x0 h10)).bind fun v17 => ((am_vI (am_pG 2563 x0 h10)).bind fun v19 => ((am_pAA v17 (v19 - 1) h10).bind fun v21 => ((am_vR (am_pG 2561 x0 h10)).bind fun v23 => ((am_vI (am_pG 2563 x0 h10)).bind fun v25 => ((am_pAA v23 (v25 - 1) h10).bind fun v27 => ((am_vI (am_pG 771 v27 h10)).bind fun v29 => (if am_pOk 3 v21 h10 then am_cI true (fm_279 N v21 0 v29 h10) (fun v32 h33 => (if ¬ v32 = 0 then (fg_294_300 N x0 x1 h33) else (if x1 = 16 then (fg_294_298 N h33) else ((am_vR (am_pG 2561 x0 h33)).bind fun v37 => ((am_vI (am_pG 2563 x0 h33)).bind fun v39 => ((am_pAA v37 (v39 - 2) h33).bind fun v41 => ((am_vR (am_pG 2561 x0 h33)).bind fun v43 => ((am_vI (am_pG 2563 x0 h33)).bind fun v45 => ((am_pAA v43 (v45 - 2) h33).bind fun v47 => ((am_vI (am_pG 771 v47 h33)).bind fun v49 => (if am_pOk 3 v41 h33 then am_cI true (fm_279 N v41 0 v49 h33) (fun v52 h53 => (if ¬ v52 = 0 then (fg_294_300 N x0 x1 h53) else (fg_294_298 N h53))) else none))))))))))) else none)))))))) else ((am_vR (am_pG 2561 x0 h10)).bind fun v56 => ((am_vI (am_pG 2563 x0 h10)).bind fun v58 => ((am_pAA v56 v58 h10).bind fun v60 => ((am_vR (am_pG 2561 x0 h10)).bind fun v62 => ((am_vI (am_pG 2563 x0 h10)).bind fun v64 => ((am_pAA v62 (v64 - 1) h10).bind fun v66 => (if am_pOk 3 v60 h10 then am_cV true (fm_60 v60 v66 h10) (fun h70 => (fg_294_352 N x0 x1 h70)) else none)))))))) else am_cI false (fm_56 x1 h10) (fun v72 h73 => ((am_vR (am_pG 2562 x0 h73)).bind fun v75 => (if am_pOk 3 v75 h73 then am_cV true (fm_34 v75 0 0 h73) (fun h79 => ((am_vR (am_pG 2562 x0 h79)).bind fun v81 => (if ¬ v72 = 1 then (fg_294_108 N x0 x1 v72 v81 ((x1 + 3)) h79) else (fg_294_108 N x0 x1 v72 v81 ((x1 + 2)) h79)))) else none)))) else ((am_vR (am_pG 2561 x0 h10)).bind fun v84 => ((am_vI (am_pG 2563 x0 h10)).bind fun v86 => ((am_pAA v84 v86 h10).bind fun v88 => (if am_pOk 3 v88 h10 then am_cV true (fm_34 v88 0 0 h10) (fun h92 => ((am_vR (am_pG 2561 x0 h92)).bind fun v94 => ((am_vI (am_pG 2563 x0 h92)).bind fun v96 => ((am_pAA v94 v96 h92).bind fun v98 => (if am_pOk 3 v98 h92 then am_cI true (fm_41 N v98 x1 x2 h92) (fun v101 h102 => (fg_294_352 N x0 x1 h102)) else none))))) else none))))) else (fg_294_31 N h10)))))))) = r_) : fg_294_0 N x0 x1 x2 h = r_ := k_
theorem hm_294 {N : Nat} {y0 : Value} {y1 : Int32} {y2 : Int32} {h : am_H} {r_ : Option am_O} (k_ : fg_294_0 N y0 y1 y2 h = r_) : fm_294 N y0 y1 y2 h = r_ := k_
set_option maxRecDepth 100000 in
set_option maxHeartbeats 4000000 in
theorem g140 {V : Nat → Nat → Value} {I : Nat → Nat → Int32} {L : Nat → Nat → Int64} {R : Nat → Nat → Option Nat} {tl : am_H} {k q : Nat} (hk : k < 8) (h : R 140 k = some (148 + 2 * q)) (x : Int32) (hx : x = nI k) : am_pAA (.ref 140) x (fx V I L R ++ tl) = some (.ref (148 + 2 * q)) := by
  rw [hx, ev_A (f := R 140) (n := 8) (t := 4) rfl rfl (am_inb_n (by omega) (by omega)), nI_clamp (by omega), h]
  rfl
set_option maxRecDepth 100000 in
set_option maxHeartbeats 4000000 in
theorem p140 {V : Nat → Nat → Value} {I : Nat → Nat → Int32} {L : Nat → Nat → Int64} {R : Nat → Nat → Option Nat} {tl : am_H} {k q : Nat} (hk : k < 8) (hq : q < 8) (x : Int32) (hx : x = nI k) : am_pSA (.ref 140) x (.ref (148 + 2 * q)) (fx V I L R ++ tl) = some (fx V I L (rup R 140 (va_up (R 140) k (some (148 + 2 * q)))) ++ tl) := by
  subst hx
  rcases (by omega : q = 0 ∨ q = 1 ∨ q = 2 ∨ q = 3 ∨ q = 4 ∨ q = 5 ∨ q = 6 ∨ q = 7) with rfl | rfl | rfl | rfl | rfl | rfl | rfl | rfl
  all_goals exact ev_sA (f := R 140) (t := 4) (n := 8) rfl rfl (by show (true && am_inb (nI k) 8) = true; exact am_inb_n hk (by omega)) (by rw [nI_clamp (by omega)]; rfl)
set_option maxRecDepth 100000 in
set_option maxHeartbeats 4000000 in
theorem k_p {V : Nat → Nat → Value} {I : Nat → Nat → Int32} {L : Nat → Nat → Int64} {R : Nat → Nat → Option Nat} {tl : am_H} {q : Nat} (hq : q < 8) : am_pOk 3 (.ref (148 + 2 * q)) (fx V I L R ++ tl) = true := by
  rcases (by omega : q = 0 ∨ q = 1 ∨ q = 2 ∨ q = 3 ∨ q = 4 ∨ q = 5 ∨ q = 6 ∨ q = 7) with rfl | rfl | rfl | rfl | rfl | rfl | rfl | rfl
  all_goals exact rfl
def frCl (V W : Nat → Nat → Value) (I J : Nat → Nat → Int32) : Prop := (∀ a j, ¬ (a = 131 ∧ j = 3) → a ≠ 132 → a ≠ 141 → (a < 148 ∨ 163 < a) → W a j = V a j) ∧ (∀ y, (y < 133 ∨ 138 < y) → y ≠ 142 → (y < 149 ∨ 163 < y) → J y = I y) ∧ (wt V → wt W)
theorem frCl_r {V : Nat → Nat → Value} {I : Nat → Nat → Int32} : frCl V V I I := ⟨fun _ _ _ _ _ _ => rfl, fun _ _ _ _ => rfl, id⟩
theorem frCl_t {V W X : Nat → Nat → Value} {I J K : Nat → Nat → Int32} (h : frCl V W I J) (g : frCl W X J K) : frCl V X I K := ⟨fun a j n o p q => (g.1 a j n o p q).trans (h.1 a j n o p q), fun y n o p => (g.2.1 y n o p).trans (h.2.1 y n o p), fun w => g.2.2 (h.2.2 w)⟩
theorem frCl_4 {V W : Nat → Nat → Value} {I J : Nat → Nat → Int32} (f : fr1 141 V W I J) : frCl V W I J := ⟨fun a j _ _ h _ => f.1 a j h, fun y _ h _ => f.2.1 y h, f.2.2⟩
theorem frCl_p {V W : Nat → Nat → Value} {I J : Nat → Nat → Int32} {q : Nat} (hq : q < 8) (f : fr1 (148 + 2 * q) V W I J) : frCl V W I J := ⟨fun a j _ _ _ h => f.1 a j (by omega), fun y _ _ h => f.2.1 y (by omega), f.2.2⟩
theorem frCl_3 {V : Nat → Nat → Value} {I : Nat → Nat → Int32} {n : Int32} : frCl V (vup V 131 3 (.int n)) I I := ⟨fun a j n _ _ _ => vup_o n, fun _ _ _ _ => rfl, fun w => wt_i w (by decide)⟩
theorem frCl_7 {V : Nat → Nat → Value} {I J : Nat → Nat → Int32} {n : Int32} (h : ∀ y, y < 132 + 1 ∨ 132 + 6 < y → J y = I y) : frCl V (vup V 132 7 (.int n)) I J := ⟨fun a j _ n _ _ => vup_o (fun e => n e.1), fun y a _ _ => h y (by omega), fun w => wt_i w (by decide)⟩
theorem hold_7 {V : Nat → Nat → Value} {I J : Nat → Nat → Int32} {n : Int32} {C kd ln : Nat} {P : xT} (h : ∀ y, y < 132 + 1 ∨ 132 + 6 < y → J y = I y) (hC : 138 < C) (g : hold V I C kd ln P) : hold (vup V 132 7 (.int n)) J C kd ln P := by
  obtain ⟨h1, h2, h3, h4, h5⟩ := g
  have o : ∀ j, vup V 132 7 (.int n) C j = V C j := fun j => vup_o (fun e => by omega)
  refine ⟨(o 1).trans h1, (o 2).trans h2, (o 3).trans h3, (o 4).trans h4, ?_⟩
  rw [h (C + 1) (by omega)]
  exact h5
theorem hold_3 {V : Nat → Nat → Value} {I : Nat → Nat → Int32} {n : Int32} {C kd ln : Nat} {P : xT} (hC : 131 < C) (g : hold V I C kd ln P) : hold (vup V 131 3 (.int n)) I C kd ln P := by
  obtain ⟨h1, h2, h3, h4, h5⟩ := g
  have o : ∀ j, vup V 131 3 (.int n) C j = V C j := fun j => vup_o (fun e => by omega)
  exact ⟨(o 1).trans h1, (o 2).trans h2, (o 3).trans h3, (o 4).trans h4, h5⟩
def pqR (R : Nat → Nat → Option Nat) (q : Nat → Nat) : Prop := (∀ k, k < 8 → q k < 8 ∧ R 140 k = some (148 + 2 * q k)) ∧ ∀ i j, i < 8 → j < 8 → q i = q j → i = j
def lvC (V : Nat → Nat → Value) (I : Nat → Nat → Int32) (q : Nat → Nat) (st : List xT) : Prop := ∀ i T, st.reverse[i]? = some T → hold V I (148 + 2 * q i) 0 0 T
def cSt (V : Nat → Nat → Value) (I : Nat → Nat → Int32) (q : Nat → Nat) (st : List xT) : Prop := V 131 3 = .int (nI st.length) ∧ lvC V I q st ∧ ∀ T, T ∈ st → okV T
theorem lvC_t {V : Nat → Nat → Value} {I : Nat → Nat → Int32} {q : Nat → Nat} {T : xT} {r : List xT} (h : lvC V I q (T :: r)) : hold V I (148 + 2 * q r.length) 0 0 T ∧ lvC V I q r := by
  refine ⟨h _ T ?_, fun i S e => h i S ?_⟩
  · rw [List.reverse_cons, List.getElem?_append_right (by rw [List.length_reverse]; omega), List.length_reverse, Nat.sub_self]
    rfl
  · have hi := (List.getElem?_eq_some_iff.mp e).1
    rw [List.reverse_cons, List.getElem?_append_left hi]
    exact e
theorem lvC_p {V : Nat → Nat → Value} {I : Nat → Nat → Int32} {q : Nat → Nat} {T : xT} {r : List xT} (h : hold V I (148 + 2 * q r.length) 0 0 T) (g : lvC V I q r) : lvC V I q (T :: r) := fun i S e => by
  rw [List.reverse_cons] at e
  by_cases q : i < r.length
  · rw [List.getElem?_append_left (by rw [List.length_reverse]; exact q)] at e
    exact g i S e
  · rw [List.getElem?_append_right (by rw [List.length_reverse]; omega), List.length_reverse] at e
    by_cases q2 : i = r.length
    · subst q2
      rw [Nat.sub_self, List.getElem?_cons_zero] at e
      rw [← Option.some.inj e]
      exact h
    · rw [show i - r.length = (i - r.length - 1) + 1 by omega, List.getElem?_cons_succ] at e
      exact absurd e (by simp)
theorem lvC_m {V W : Nat → Nat → Value} {I J : Nat → Nat → Int32} {q q' : Nat → Nat} {r : List xT} (g : lvC V I q r) (f : ∀ i T, i < r.length → hold V I (148 + 2 * q i) 0 0 T → hold W J (148 + 2 * q' i) 0 0 T) : lvC W J q' r := fun i T e => f i T (by have := (List.getElem?_eq_some_iff.mp e).1; rw [List.length_reverse] at this; exact this) (g i T e)
/-! the draft -/
theorem okX_w {T : xT} {d : Nat} (hd : d ≤ 80) (h : okV T) : okX [(0, d, 0)] (sl (wrT T)) := by
  unfold wrT
  by_cases c : truN (xS T 0) = 0
  · rw [if_pos c]
    have := h.2
    rw [c] at this
    exact okF_X1 this (by omega)
  · rw [if_neg c]
    have c1 := (tru_01 _).resolve_left c
    have h2 := h.2
    rw [c1] at h2
    have e : sl ((20, 0) :: (T ++ [(0, 1), (0, 0)])) = (20, 0) :: (sl T ++ [(0, 0), (0, 0)]) := by unfold sl; simp
    rw [e]
    refine ⟨Nat.le_refl 20, rfl, by show d ≤ 100; omega, fun _ => by decide, fun h => absurd h (show ¬ (0 : Nat) = 1 by decide), ?_⟩
    have ek : kid 20 (0, d, 0) ++ [] = [(1, d + 1, 0)] ++ [(0, d + 1, 0), (0, d + 1, 0)] := rfl
    rw [ek]
    refine okX_app _ _ _ _ (okF_X1 h2 (by omega)) ⟨Nat.zero_le _, rfl, by show d + 1 ≤ 100; omega, fun _ => by decide, fun h => absurd h (show ¬ (0 : Nat) = 1 by decide), ?_⟩
    exact ⟨Nat.zero_le _, rfl, by show d + 1 ≤ 100; omega, fun _ => by decide, fun h => absurd h (show ¬ (0 : Nat) = 1 by decide), trivial⟩
theorem okX_1 {a : Nat} {T : xT} (ha : a = 7 ∨ a = 8) (h : okV T) : okX [(truN a, 1, 0)] (sl (jn1 a T)) := by
  have w := okX_w (d := 2) (by omega) h
  rcases ha with rfl | rfl
  · exact ⟨by decide, by decide, by decide, fun _ => by decide, fun h => absurd h (by decide), w⟩
  · exact ⟨by decide, by decide, by decide, fun _ => by decide, fun h => absurd h (by decide), w⟩
theorem okX_2 {a : Nat} {S T : xT} (ha : 10 ≤ a ∧ a ≤ 16) (h : okV S) (g : okV T) : okX [(truN a, 1, 0)] (sl (jn2 a S T)) := by
  have w := okX_app _ _ _ _ (okX_w (d := 2) (by omega) h) (okX_w (d := 2) (by omega) g)
  have e : sl (jn2 a S T) = (a, 0) :: (sl (wrT S) ++ sl (wrT T)) := by unfold sl jn2; rw [List.map_cons, List.map_append]
  rw [e]
  rcases (by omega : a = 10 ∨ a = 11 ∨ a = 12 ∨ a = 13 ∨ a = 14 ∨ a = 15 ∨ a = 16) with rfl | rfl | rfl | rfl | rfl | rfl | rfl
  all_goals exact ⟨by decide, by decide, by decide, fun _ => by decide, fun h => absurd h (by decide), w⟩
set_option maxRecDepth 100000 in
set_option maxHeartbeats 4000000 in
theorem d75 {V : Nat → Nat → Value} {I : Nat → Nat → Int32} {L : Nat → Nat → Int64} {R : Nat → Nat → Option Nat} {tl : am_H} {N A it : Nat} {D : xT} (hN : 400 < N) (hs : srcP V I tl A it 0 0 D) (hA : A ≠ 132) (hit : it < 132 ∨ 132 + 7 < it) (h0 : 0 < D.length) (hx : okX [(truN (xS D 0), 1, 0)] (sl D)) : ∃ J n, fm_75 N (.ref 131) (.ref A) (fx V I L R ++ tl) = some (.inl (some (.int (nI n)), fx (vup V 132 7 (.int (nI D.length))) J L R ++ tl)) ∧ (n ≤ 12 ↔ okV D) ∧ n ≤ 101 ∧ (∀ y, y < 132 + 1 ∨ 132 + 6 < y → J y = I y) := by
  have l60 := (src_ok (L := L) (R := R) hs).2.2.2.2
  have oW := okW_t (t' := 0) (okX_W _ _ hx)
  have ls : (sl D).length = D.length := List.length_map ..
  obtain ⟨J, e, f⟩ := s75 (L := L) (R := R) hN hs hA hit oW h0
  refine ⟨J, _, e, ?_, ?_, f⟩
  · rw [tl_12 hx]
    exact ⟨fun h => ⟨l60, h⟩, fun h => h.2⟩
  · unfold tlL
    rw [List.drop_zero]
    have := mx_bw oW (by omega) (k := 0) (m := tk 1 (sl D)) (by have := tk_le (sl D) 1; omega)
    omega
