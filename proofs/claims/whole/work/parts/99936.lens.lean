/-! ===== the code of a tree: how long it is, in the reference ===== -/
theorem hd_494_140 {N : Nat} {s0 : Int32} {h : am_H} {r_ : Option am_O} (k_ : (if am_rfit (some FieldType.boolean) s0 then some (.inl (some (.int s0), h)) else none) = r_) : fg_494_140 N s0 h = r_ := k_
theorem hd_494_102 {N : Nat} {K : Nat} {x0 : Value} {x1 : Int32} {h : am_H} {r_ : Option am_O} (k_ : ((am_vI (am_pG 3090 x0 h)).bind fun v1 => (if v1 ≤ x1 then (if am_pOk 12 x0 h then am_cI true (fm_347 N x0 h) (fun v5 h6 => (if ¬ v5 = (-1) then (fg_494_140 N 0 h6) else (fg_494_140 N 1 h6))) else none) else ((am_vR (am_pG 3143 x0 h)).bind fun v9 => ((am_pA 0 v9 x1 h).bind fun v11 => (if am_pOk 12 x0 h then am_cV true (fm_497 N x0 x1 v11 h) (fun h15 => (fg_494_102 N K x0 ((x1 + 1)) h15)) else none))))) = r_) : fg_494_102 N (K + 1) x0 x1 h = r_ := by rw [fg_494_102]; exact k_
theorem hd_494_34 {N : Nat} {K : Nat} {x0 : Value} {x1 : Int32} {h : am_H} {r_ : Option am_O} (k_ : ((am_vI (am_pG 3090 x0 h)).bind fun v1 => (if v1 ≤ x1 then ((am_vR (am_pG 3194 x0 h)).bind fun v4 => ((am_pA 0 v4 0 h).bind fun v6 => (if v6 ≤ 60 then (if am_pOk 12 x0 h then am_cV true (fm_451 x0 h) (fun h11 => ((am_pP 3085 x0 (.int 1) h11).bind fun h13 => ((am_vR (am_pG 3194 x0 h13)).bind fun v15 => ((am_pA 0 v15 0 h13).bind fun v17 => ((am_pP 3086 x0 (.int v17) h13).bind fun h19 => ((am_vR (am_pG 3143 x0 h19)).bind fun v21 => ((am_pS 0 v21 0 0 h19).bind fun h23 => (fg_494_102 N N x0 0 h23)))))))) else none) else some (.inl (some (.int 0), h))))) else ((am_vR (am_pG 3093 x0 h)).bind fun v25 => ((am_pA 0 v25 x1 h).bind fun v27 => (if ¬ v27 = 19 then (fg_494_34 N K x0 ((x1 + 1)) h) else some (.inl (some (.int 0), h))))))) = r_) : fg_494_34 N (K + 1) x0 x1 h = r_ := by rw [fg_494_34]; exact k_
theorem hd_494_11 {N : Nat} {K : Nat} {x0 : Value} {x1 : Int32} {h : am_H} {r_ : Option am_O} (k_ : (if x1 < 0 then (fg_494_34 N N x0 0 h) else ((am_vR (am_pG 3194 x0 h)).bind fun v2 => (if am_pOk 12 x0 h then am_cI true (fm_496 N x0 x1 h) (fun v5 h6 => ((am_pS 0 v2 x1 v5 h6).bind fun h8 => (fg_494_11 N K x0 ((x1 + (-1))) h8))) else none))) = r_) : fg_494_11 N (K + 1) x0 x1 h = r_ := by rw [fg_494_11]; exact k_
theorem hd_494_0 {N : Nat} {x0 : Value} {h : am_H} {r_ : Option am_O} (k_ : (if am_pOk 12 x0 h then am_cV true (fm_495 N x0 h) (fun h3 => ((am_vI (am_pG 3090 x0 h3)).bind fun v5 => (fg_494_11 N N x0 ((v5 - 1)) h3))) else none) = r_) : fg_494_0 N x0 h = r_ := k_
theorem hm_494 {N : Nat} {y0 : Value} {h : am_H} {r_ : Option am_O} (k_ : fg_494_0 N y0 h = r_) : fm_494 N y0 h = r_ := k_
theorem hd_496_90 {N : Nat} {s0 : Int32} {s1 : Int32} {h : am_H} {r_ : Option am_O} (k_ : some (.inl (some (.int (s0 + s1)), h)) = r_) : fg_496_90 N s0 s1 h = r_ := k_
theorem hd_496_85 {N : Nat} {s0 : Int32} {h : am_H} {r_ : Option am_O} (k_ : (fg_496_90 N s0 3 h) = r_) : fg_496_85 N s0 h = r_ := k_
theorem hd_496_12 {N : Nat} {K : Nat} {x0 : Value} {x1 : Int32} {x2 : Int32} {x3 : Int32} {x4 : Int32} {h : am_H} {r_ : Option am_O} (k_ : am_cI false (fm_343 x2 h) (fun v1 h2 => (if v1 ≤ x4 then (if 9 ≤ x2 then (if ¬ x2 = 9 then (if 17 ≤ x2 then (if x2 = 17 then (fg_496_85 N x3 h2) else (if ¬ x2 = 18 then (fg_496_90 N x3 2 h2) else (fg_496_85 N x3 h2))) else (fg_496_90 N x3 1 h2)) else (fg_496_90 N x3 2 h2)) else (fg_496_90 N x3 1 h2)) else ((am_vR (am_pG 3194 x0 h2)).bind fun v10 => (if am_pOk 12 x0 h2 then am_cI true (fm_393 N x0 x1 x4 h2) (fun v13 h14 => ((am_pA 0 v10 v13 h14).bind fun v16 => (fg_496_12 N K x0 x1 x2 ((x3 + v16)) ((x4 + 1)) h14))) else none)))) = r_) : fg_496_12 N (K + 1) x0 x1 x2 x3 x4 h = r_ := by rw [fg_496_12]; exact k_
theorem hd_496_0 {N : Nat} {x0 : Value} {x1 : Int32} {h : am_H} {r_ : Option am_O} (k_ : ((am_vR (am_pG 3093 x0 h)).bind fun v1 => ((am_pA 0 v1 x1 h).bind fun v3 => (fg_496_12 N N x0 x1 v3 0 0 h))) = r_) : fg_496_0 N x0 x1 h = r_ := k_
theorem hm_496 {N : Nat} {y0 : Value} {y1 : Int32} {h : am_H} {r_ : Option am_O} (k_ : fg_496_0 N y0 y1 h = r_) : fm_496 N y0 y1 h = r_ := k_
theorem hd_497_348 {N : Nat} {h : am_H} {r_ : Option am_O} (k_ : some (.inl (none, h)) = r_) : fg_497_348 N h = r_ := k_
theorem hd_497_254 {N : Nat} {x0 : Value} {x1 : Int32} {x3 : Int32} {x5 : Int32} {h : am_H} {r_ : Option am_O} (k_ : (if ¬ x3 = 20 then (fg_497_348 N h) else (if am_pOk 12 x0 h then am_cI true (fm_393 N x0 x1 1 h) (fun v3 h4 => (if am_pOk 12 x0 h4 then am_cI true (fm_393 N x0 x1 2 h4) (fun v7 h8 => ((am_vR (am_pG 3194 x0 h8)).bind fun v10 => ((am_pA 0 v10 v3 h8).bind fun v12 => (if am_pOk 12 x0 h8 then am_cV true (fm_498 x0 x5 18 ((v12 + 1)) h8) (fun h16 => ((am_vR (am_pG 3143 x0 h16)).bind fun v18 => ((am_pS 0 v18 v3 (x5 + 1) h16).bind fun h20 => ((am_vR (am_pG 3194 x0 h20)).bind fun v22 => ((am_pA 0 v22 v3 h20).bind fun v24 => ((am_vR (am_pG 3194 x0 h20)).bind fun v26 => ((am_pA 0 v26 v7 h20).bind fun v28 => (if am_pOk 12 x0 h20 then am_cV true (fm_498 x0 (((x5 + 1) + v24)) 17 v28 h20) (fun h32 => ((am_vR (am_pG 3143 x0 h32)).bind fun v34 => ((am_vR (am_pG 3194 x0 h32)).bind fun v36 => ((am_pA 0 v36 v3 h32).bind fun v38 => ((am_pS 0 v34 v7 ((x5 + 2) + v38) h32).bind fun h40 => (fg_497_348 N h40)))))) else none)))))))) else none)))) else none)) else none)) = r_) : fg_497_254 N x0 x1 x3 x5 h = r_ := k_
theorem hd_497_193 {N : Nat} {x0 : Value} {x1 : Int32} {x3 : Int32} {x5 : Int32} {h : am_H} {r_ : Option am_O} (k_ : (if ¬ x3 = 18 then (fg_497_254 N x0 x1 x3 x5 h) else (if am_pOk 12 x0 h then am_cI true (fm_393 N x0 x1 1 h) (fun v3 h4 => (if am_pOk 12 x0 h4 then am_cV true (fm_498 x0 x5 18 2 h4) (fun h8 => (if am_pOk 12 x0 h8 then am_cV true (fm_498 x0 ((x5 + 1)) 0 1 h8) (fun h12 => ((am_vR (am_pG 3194 x0 h12)).bind fun v14 => ((am_pA 0 v14 v3 h12).bind fun v16 => (if am_pOk 12 x0 h12 then am_cV true (fm_498 x0 ((x5 + 2)) 17 v16 h12) (fun h20 => ((am_vR (am_pG 3143 x0 h20)).bind fun v22 => ((am_pS 0 v22 v3 (x5 + 3) h20).bind fun h24 => (fg_497_254 N x0 x1 x3 x5 h24)))) else none)))) else none)) else none)) else none)) = r_) : fg_497_193 N x0 x1 x3 x5 h = r_ := k_
theorem hd_497_132 {N : Nat} {x0 : Value} {x1 : Int32} {x3 : Int32} {x4 : Int32} {x5 : Int32} {h : am_H} {r_ : Option am_O} (k_ : (if ¬ x3 = 17 then (fg_497_193 N x0 x1 x3 x5 h) else (if am_pOk 12 x0 h then am_cI true (fm_393 N x0 x1 1 h) (fun v3 h4 => ((am_vR (am_pG 3194 x0 h4)).bind fun v6 => ((am_pA 0 v6 v3 h4).bind fun v8 => (if am_pOk 12 x0 h4 then am_cV true (fm_498 x0 x5 18 ((v8 + 1)) h4) (fun h12 => ((am_vR (am_pG 3143 x0 h12)).bind fun v14 => ((am_pS 0 v14 v3 (x5 + 1) h12).bind fun h16 => (if am_pOk 12 x0 h16 then am_cV true (fm_498 x0 ((x4 - 1)) 17 1 h16) (fun h20 => (if am_pOk 12 x0 h20 then am_cV true (fm_498 x0 x4 0 0 h20) (fun h24 => (fg_497_193 N x0 x1 x3 x5 h24)) else none)) else none)))) else none)))) else none)) = r_) : fg_497_132 N x0 x1 x3 x4 x5 h = r_ := k_
theorem hd_497_97 {N : Nat} {x0 : Value} {x1 : Int32} {x3 : Int32} {x4 : Int32} {x5 : Int32} {h : am_H} {r_ : Option am_O} (k_ : (if x3 ≤ 9 then (fg_497_132 N x0 x1 x3 x4 x5 h) else (if 17 ≤ x3 then (fg_497_132 N x0 x1 x3 x4 x5 h) else ((am_vR (am_pG 3143 x0 h)).bind fun v3 => (if am_pOk 12 x0 h then am_cI true (fm_393 N x0 x1 1 h) (fun v6 h7 => ((am_pS 0 v3 v6 x5 h7).bind fun h9 => (if am_pOk 12 x0 h9 then am_cV true (fm_498 x0 x4 ((x3 - 3)) 0 h9) (fun h13 => (fg_497_132 N x0 x1 x3 x4 x5 h13)) else none))) else none)))) = r_) : fg_497_97 N x0 x1 x3 x4 x5 h = r_ := k_
theorem hd_497_74 {N : Nat} {x0 : Value} {x1 : Int32} {x3 : Int32} {x4 : Int32} {x5 : Int32} {h : am_H} {r_ : Option am_O} (k_ : (if ¬ x3 = 9 then (fg_497_97 N x0 x1 x3 x4 x5 h) else (if am_pOk 12 x0 h then am_cV true (fm_498 x0 x5 0 0 h) (fun h4 => (if am_pOk 12 x0 h4 then am_cV true (fm_498 x0 x4 13 0 h4) (fun h8 => (fg_497_97 N x0 x1 x3 x4 x5 h8)) else none)) else none)) = r_) : fg_497_74 N x0 x1 x3 x4 x5 h = r_ := k_
theorem hd_497_0 {N : Nat} {x0 : Value} {x1 : Int32} {x2 : Int32} {h : am_H} {r_ : Option am_O} (k_ : ((am_vR (am_pG 3093 x0 h)).bind fun v1 => ((am_pA 0 v1 x1 h).bind fun v3 => ((am_vR (am_pG 3194 x0 h)).bind fun v5 => ((am_pA 0 v5 x1 h).bind fun v7 => (if 5 ≤ v3 then ((am_vR (am_pG 3143 x0 h)).bind fun v10 => ((am_pS 0 v10 (x1 + 1) x2 h).bind fun h12 => ((am_vR (am_pG 3194 x0 h12)).bind fun v14 => ((am_pA 0 v14 (x1 + 1) h12).bind fun v16 => (if 9 ≤ v3 then (fg_497_74 N x0 x1 v3 (((x2 + v7) - 1)) ((x2 + v16)) h12) else (if am_pOk 12 x0 h12 then am_cV true (fm_498 x0 (((x2 + v7) - 1)) ((v3 - 2)) 0 h12) (fun h21 => (fg_497_74 N x0 x1 v3 (((x2 + v7) - 1)) ((x2 + v16)) h21)) else none)))))) else ((am_vR (am_pG 3094 x0 h)).bind fun v23 => ((am_pA 0 v23 x1 h).bind fun v25 => (if am_pOk 12 x0 h then am_cV true (fm_498 x0 x2 v3 v25 h) (fun h29 => some (.inl (none, h29))) else none)))))))) = r_) : fg_497_0 N x0 x1 x2 h = r_ := k_
theorem hm_497 {N : Nat} {y0 : Value} {y1 : Int32} {y2 : Int32} {h : am_H} {r_ : Option am_O} (k_ : fg_497_0 N y0 y1 y2 h = r_) : fm_497 N y0 y1 y2 h = r_ := k_
theorem hd_498_0 {x0 : Value} {x1 : Int32} {x2 : Int32} {x3 : Int32} {h : am_H} {r_ : Option am_O} (k_ : ((am_vR (am_pG 3088 x0 h)).bind fun v1 => ((am_pS 0 v1 x1 x2 h).bind fun h3 => ((am_vR (am_pG 3089 x0 h3)).bind fun v5 => ((am_pS 0 v5 x1 x3 h3).bind fun h7 => some (.inl (none, h7)))))) = r_) : fg_498_0 x0 x1 x2 x3 h = r_ := k_
theorem hm_498 {y0 : Value} {y1 : Int32} {y2 : Int32} {y3 : Int32} {h : am_H} {r_ : Option am_O} (k_ : fg_498_0 y0 y1 y2 y3 h = r_) : fm_498 y0 y1 y2 y3 h = r_ := k_

theorem no56l : ∀ (l : List (Nat × Nat)) (st : List (Nat × Nat × Nat)), okF st l → (∀ c, c ∈ st → c.2.2 = 0) → (∀ x, x ∈ l → x.1 ≠ 19) → ∀ x, x ∈ l → x.1 ≠ 5 ∧ x.1 ≠ 6 := by
  intro l
  induction l with
  | nil => intro st _ _ _ x hx; cases hx
  | cons y l ih =>
    intro st ho hc hn x hx
    cases st with
    | nil => exact absurd ho id
    | cons c st =>
      obtain ⟨a1, a2, a3, a4, a5, a6⟩ := ho
      have z := hc c (List.mem_cons_self ..)
      cases hx with
      | head => exact a4 z
      | tail _ hx =>
        refine ih _ a6 (fun d hd => ?_) (fun x h => hn x (List.mem_cons_of_mem _ h)) x hx
        rcases List.mem_append.mp hd with h | h
        · unfold kid at h
          obtain ⟨p, -, e⟩ := List.mem_map.mp h
          rw [← e]
          show (if y.1 = 19 ∧ p = 1 then 1 else c.2.2) = 0
          rw [if_neg (fun e => hn y (List.mem_cons_self ..) e.1)]
          exact z
        · exact hc d (List.mem_cons_of_mem _ h)
theorem gd_no19 {P : xT} (ho : okP P) (h : ∀ j, j < P.length → xS P j ≠ 19) (k : Nat) : gdT P k := by
  intro j _ hj
  have hl : ∀ x, x ∈ sl P → x.1 ≠ 19 := fun x hx => by
    obtain ⟨i, hi, e⟩ := List.mem_iff_getElem.mp hx
    have hi2 : i < P.length := by rw [sl_len] at hi; exact hi
    have e2 := sl_at hi2
    rw [List.drop_eq_getElem_cons hi] at e2
    injection e2 with e3 e4
    rw [← e, e3]
    exact h i hi2
  have hj2 : j < P.length := by
    by_cases c : j < P.length
    · exact c
    · exfalso
      by_cases d : k < P.length
      · have := xE_le (P := P) (k := k) (by omega); omega
      · have e : xE P k = k := by
          unfold xE enL
          rw [show (sl P).drop k = [] from List.drop_eq_nil_of_le (by rw [sl_len]; omega)]
          first | rfl | simp [tk]
        omega
  have e2 := sl_at hj2
  have hm : (xS P j, 0) ∈ sl P := by
    have : (sl P).drop j ≠ [] := by rw [e2]; simp
    have m : (xS P j, 0) ∈ (sl P).drop j := by rw [e2]; exact List.mem_cons_self ..
    exact List.mem_of_mem_drop m
  obtain ⟨a, b⟩ := no56l (sl P) [(0, 1, 0)] ho.1 (fun c hc => by rw [List.mem_singleton.mp hc]) hl _ hm
  exact ⟨a, b, h j hj2⟩
/-- what a node adds to its kids' code -/
def ownL (x : Nat) : Nat := if x < 9 then 1 else if x = 9 then 2 else if x < 17 then 1 else if x = 17 ∨ x = 18 then 3 else 2
def lnI (P : xT) (F : Nat → Int32) (j : Nat) : Prop := ∃ m, F j = nI m ∧ m ≤ 3 * (xE P j - j) ∧ (gdT P j → m = (cO2 P j).length)
theorem ownL_le (x : Nat) : 1 ≤ ownL x ∧ ownL x ≤ 3 := by unfold ownL; repeat (first | (split) | omega)
theorem cO_len {P : xT} (ho : okP P) {k : Nat} (hk : k < P.length) (hg : gdT P k) : (cO2 P k).length = (if 7 ≤ xS P k then (cO2 P (k + 1)).length else 0) + (if 10 ≤ xS P k then (cO2 P (xE P (k + 1))).length else 0) + (if xS P k = 20 then (cO2 P (xE P (xE P (k + 1)))).length else 0) + ownL (xS P k) := by
  have g1 := gd_1 hk hg
  have n1 := (nd_at ho hk).1
  rw [cO_unf ho hk g1.2.2]
  unfold ownL
  by_cases c1 : xS P k < 5
  · rw [if_pos c1, if_neg (by omega), if_neg (by omega), if_neg (by omega), if_pos (by omega)]; rfl
  rw [if_neg c1, if_pos (show 7 ≤ xS P k by omega)]
  by_cases c2 : xS P k = 9
  · rw [if_pos c2, if_neg (by omega), if_neg (by omega), if_neg (by omega), if_pos c2, List.length_append]; rfl
  rw [if_neg c2]
  by_cases c3 : xS P k < 10
  · rw [if_pos c3, if_neg (show ¬ xS P k < 7 by omega), if_neg (by omega), if_neg (by omega), if_pos (by omega), List.length_append]; rfl
  rw [if_neg c3, if_pos (show 10 ≤ xS P k by omega), if_neg (show ¬ xS P k < 9 by omega), if_neg c2]
  by_cases c5 : xS P k = 17
  · rw [if_pos c5, if_neg (by omega), if_neg (by omega), if_pos (.inl c5)]
    simp only [List.length_append, List.length_cons, List.length_nil]; omega
  rw [if_neg c5]
  by_cases c6 : xS P k = 18
  · rw [if_pos c6, if_neg (by omega), if_neg (by omega), if_pos (.inr c6)]
    simp only [List.length_append, List.length_cons, List.length_nil]; omega
  rw [if_neg c6]
  by_cases c7 : xS P k = 20
  · rw [if_pos c7, if_pos c7, if_neg (by omega), if_neg (by omega)]
    simp only [List.length_append, List.length_cons, List.length_nil]; omega
  rw [if_neg c7, if_neg c7, if_pos (by omega)]
  simp only [List.length_append, List.length_cons, List.length_nil]; omega
set_option maxRecDepth 100000 in
set_option maxHeartbeats 4000000 in
theorem t496 {h : am_H} {N K k x s a : Nat} (hx : x ≤ 20) (ha : arN x ≤ a) (ha3 : a ≤ 3) : fg_496_12 N (K + 1) (.ref 174) (nI k) (nI x) (nI s) (nI a) h = some (.inl (some (.int (nI (s + ownL x))), h)) := by
  apply hd_496_12
  refine ev_cI (ar_e x hx h) (ev_t (nI_le ha (by omega)) ?_)
  unfold ownL
  by_cases c1 : x < 9
  · rw [if_pos c1]
    refine ev_f (nI_ge (b := 9) c1 (by decide)) ?_
    apply hd_496_90
    rw [nI_1]
  rw [if_neg c1]
  refine ev_t (nI_le (a := 9) (by omega) (by omega)) ?_
  by_cases c2 : x = 9
  · rw [if_pos c2]
    subst c2
    refine ev_f (by decide) ?_
    apply hd_496_90
    rw [nI_p2]
  rw [if_neg c2]
  refine ev_t (fun e => c2 ((nI_eq (b := 9) (by omega) (by decide)).mp e)) ?_
  by_cases c3 : x < 17
  · rw [if_pos c3]
    refine ev_f (nI_ge (b := 17) c3 (by decide)) ?_
    apply hd_496_90
    rw [nI_1]
  rw [if_neg c3]
  refine ev_t (nI_le (a := 17) (by omega) (by omega)) ?_
  rcases (by omega : x = 17 ∨ x = 18 ∨ x = 19 ∨ x = 20) with r | r | r | r <;> subst r
  · refine ev_t rfl ?_
    apply hd_496_85
    apply hd_496_90
    rw [nI_p3]
    rfl
  · refine ev_f (by decide) (ev_f (by decide) ?_)
    apply hd_496_85
    apply hd_496_90
    rw [nI_p3]
    rfl
  · refine ev_f (by decide) (ev_t (by decide) ?_)
    apply hd_496_90
    rw [nI_p2]
    rfl
  · refine ev_f (by decide) (ev_t (by decide) ?_)
    apply hd_496_90
    rw [nI_p2]
    rfl
set_option maxRecDepth 100000 in
set_option maxHeartbeats 4000000 in
theorem u496 {V : Nat → Nat → Value} {I : Nat → Nat → Int32} {L : Nat → Nat → Int64} {R : Nat → Nat → Option Nat} {tl : am_H} {N K k x s a c m : Nat} {o : Option am_O} (hx : x ≤ 20) (ha : a < arN x) (hc : c < 61) (e : fm_393 N (.ref 174) (nI k) (nI a) (fx V I L R ++ tl) = some (.inl (some (.int (nI c)), fx V I L R ++ tl))) (hm : I 253 c = nI m) (h : fg_496_12 N K (.ref 174) (nI k) (nI x) (nI (s + m)) (nI (a + 1)) (fx V I L R ++ tl) = o) : fg_496_12 N (K + 1) (.ref 174) (nI k) (nI x) (nI s) (nI a) (fx V I L R ++ tl) = o := by
  apply hd_496_12
  have h3 : arN x ≤ 3 := by unfold arN; repeat (first | split | omega)
  refine ev_cI (ar_e x hx _) (ev_f (nI_ge ha (by omega)) (ev_b (rdR rfl) (ev_i rfl (ev_cI e (ev_b ((qa_253 hc).trans (congrArg some hm)) ?_)))))
  rw [nI_add, nI_1]
  exact h
theorem s393_0 {V : Nat → Nat → Value} {I : Nat → Nat → Int32} {L : Nat → Nat → Int64} {R : Nat → Nat → Option Nat} {tl : am_H} {N k : Nat} (hN : 400 < N) : fm_393 N (.ref 174) (nI k) (nI 0) (fx V I L R ++ tl) = some (.inl (some (.int (nI (k + 1))), fx V I L R ++ tl)) := by
  obtain ⟨N, rfl⟩ : ∃ m, N = m + 3 := ⟨N - 3, by omega⟩
  apply hm_393
  apply hd_393_0
  rw [nI_1]
  apply hd_393_7
  exact ev_t (by decide) rfl
theorem s496 {V : Nat → Nat → Value} {I : Nat → Nat → Int32} {L : Nat → Nat → Int64} {R : Nat → Nat → Option Nat} {tl : am_H} {N k : Nat} {nt : Int32} {P : xT} (hN : 400 < N) (ho : okP P) (hA : rA V I nt P) (hk : k < P.length) (h : ∀ j, k < j → j < P.length → lnI P (I 253) j) : ∃ m, fm_496 N (.ref 174) (nI k) (fx V I L R ++ tl) = some (.inl (some (.int (nI m)), fx V I L R ++ tl)) ∧ m ≤ 3 * (xE P k - k) ∧ (gdT P k → m = (cO2 P k).length) := by
  have l60 := hA.2.2.2.2
  obtain ⟨n1, n2, n3, n4, n5, n6, n7, n8, n9⟩ := nd_at ho hk
  have ow := ownL_le (xS P k)
  have st : ∀ m, fg_496_12 N N (.ref 174) (nI k) (nI (xS P k)) (nI 0) (nI 0) (fx V I L R ++ tl) = some (.inl (some (.int (nI m)), fx V I L R ++ tl)) → fm_496 N (.ref 174) (nI k) (fx V I L R ++ tl) = some (.inl (some (.int (nI m)), fx V I L R ++ tl)) := fun m e => by
    apply hm_496
    apply hd_496_0
    exact ev_b (rdR rfl) (ev_b (rA_s hA hk) e)
  obtain ⟨K, rfl⟩ : ∃ K, N = K + 4 := ⟨N - 4, by omega⟩
  by_cases c1 : xS P k < 7
  · refine ⟨0 + ownL (xS P k), st _ (t496 n1 (by unfold arN; rw [if_pos c1]; omega) (by omega)), by rw [n7 c1]; omega, fun g => ?_⟩
    rw [cO_len ho hk g, if_neg (by omega), if_neg (by omega), if_neg (by omega)]
  have q1 := n4 (by omega)
  obtain ⟨m1, x1, y1, z1⟩ := h (k + 1) (by omega) q1.1
  have xg1 := xE_gt q1.1
  by_cases c2 : xS P k < 10
  · refine ⟨0 + m1 + ownL (xS P k), st _ (u496 n1 (by unfold arN; rw [if_neg c1, if_pos c2]; omega) (by omega) (s393_0 hN) x1 (t496 n1 (by unfold arN; rw [if_neg c1, if_pos c2]; omega) (by omega))), by rw [← n8 (by omega) c2]; omega, fun g => ?_⟩
    rw [cO_len ho hk g, if_pos (by omega), if_neg (by omega), if_neg (by omega), ← z1 (gd_a ho hk (by omega) g)]
    omega
  have q2 := n5 (by omega)
  obtain ⟨m2, x2, y2, z2⟩ := h (xE P (k + 1)) (by omega) q2.1
  have xg2 := xE_gt q2.1
  by_cases c3 : xS P k < 20
  · refine ⟨0 + m1 + m2 + ownL (xS P k), st _ (u496 n1 (by unfold arN; rw [if_neg c1, if_neg c2, if_pos c3]; omega) (by omega) (s393_0 hN) x1 (u496 n1 (by unfold arN; rw [if_neg c1, if_neg c2, if_pos c3]; omega) (by omega) (s393_1 hN hA q1.1) x2 (t496 n1 (by unfold arN; rw [if_neg c1, if_neg c2, if_pos c3]; omega) (by omega)))), by rw [← n9 (by omega) c3]; omega, fun g => ?_⟩
    rw [cO_len ho hk g, if_pos (by omega), if_pos (by omega), if_neg (by omega), ← z1 (gd_a ho hk (by omega) g), ← z2 (gd_b ho hk (by omega) g)]
    omega
  have c20 : xS P k = 20 := by omega
  have q3 := n6 c20
  obtain ⟨m3, x3, y3, z3⟩ := h (xE P (xE P (k + 1))) (by omega) q3.1
  have xg3 := xE_gt q3.1
  have ar : arN (xS P k) = 3 := by rw [c20]; rfl
  refine ⟨0 + m1 + m2 + m3 + ownL (xS P k), st _ (u496 n1 (by omega) (by omega) (s393_0 hN) x1 (u496 n1 (by omega) (by omega) (s393_1 hN hA q1.1) x2 (u496 n1 (by omega) (by omega) (s393_2 hN hA q1.1 q2.1) x3 (t496 n1 (by omega) (by omega))))), by rw [← q3.2.1]; omega, fun g => ?_⟩
  rw [cO_len ho hk g, if_pos (by omega), if_pos (by omega), if_pos c20, ← z1 (gd_a ho hk (by omega) g), ← z2 (gd_b ho hk (by omega) g), ← z3 (gd_c ho hk c20 g)]
  omega
theorem rA_i {V : Nat → Nat → Value} {I : Nat → Nat → Int32} {nt : Int32} {P : xT} {y : Nat} {F : Nat → Int32} (hy : y ≠ 188 ∧ y ≠ 189 ∧ y ≠ 192) (d : rA V I nt P) : rA V (iup I y F) nt P := by
  obtain ⟨d1, d2, d3, d4, d5⟩ := d
  refine ⟨d1, d2, ⟨d3.1, ?_⟩, ?_, d5⟩
  · rw [iup_na (Ne.symm hy.1), iup_na (Ne.symm hy.2.1)]; exact d3.2
  · rw [iup_na (Ne.symm hy.2.2)]; exact d4
theorem s494a {V : Nat → Nat → Value} {I : Nat → Nat → Int32} {L : Nat → Nat → Int64} {R : Nat → Nat → Option Nat} {tl : am_H} {N : Nat} {nt : Int32} {P : xT} (hN : 400 < N) (ho : okP P) (hA : rA V I nt P) : ∀ (k K : Nat) (F : Nat → Int32), k ≤ P.length → k < K → (∀ j, k ≤ j → j < P.length → lnI P F j) → ∃ F', fg_494_11 N K (.ref 174) (nI k + (-1)) (fx V (iup I 253 F) L R ++ tl) = fg_494_34 N N (.ref 174) 0 (fx V (iup I 253 F') L R ++ tl) ∧ ∀ j, j < P.length → lnI P F' j := by
  have l60 := hA.2.2.2.2
  intro k
  induction k with
  | zero =>
    intro K F hk hK hF
    obtain ⟨K, rfl⟩ : ∃ k, K = k + 1 := ⟨K - 1, by omega⟩
    refine ⟨F, ?_, fun j hj => hF j (by omega) hj⟩
    apply hd_494_11
    exact ev_t (by decide) rfl
  | succ k ih =>
    intro K F hk hK hF
    obtain ⟨K, rfl⟩ : ∃ k, K = k + 1 := ⟨K - 1, by omega⟩
    obtain ⟨m, e, m1, m2⟩ := s496 (L := L) (R := R) (tl := tl) (k := k) hN ho (rA_i (y := 253) (F := F) (by decide) hA) (by omega) (fun j a b => by rw [iup_eq]; exact hF j a b)
    obtain ⟨F', e2, h2⟩ := ih K (upd F k (nI m)) (by omega) (by omega) (fun j a b => by
      by_cases c : j = k
      · subst c; exact ⟨m, upd_eq, m1, m2⟩
      · obtain ⟨y, y1, y2⟩ := hF j (by omega) b
        exact ⟨y, (upd_ne c).trans y1, y2⟩)
    refine ⟨F', ?_, h2⟩
    apply hd_494_11
    rw [nI_m1]
    refine ev_f (nI_pos (by omega)) (ev_b (rdR rfl) (ev_i rfl (ev_cI e (ev_b (qs_253 (by omega)) ?_))))
    rw [iup_eq, iup_iup]
    exact e2
theorem s494b {V : Nat → Nat → Value} {I : Nat → Nat → Int32} {L : Nat → Nat → Int64} {R : Nat → Nat → Option Nat} {tl : am_H} {N : Nat} {nt : Int32} {P : xT} (ho : okP P) (hA : rA V I nt P) : ∀ (m k K : Nat), k + m = P.length → m < K → ((∃ j, k ≤ j ∧ j < P.length ∧ xS P j = 19) → fg_494_34 N K (.ref 174) (nI k) (fx V I L R ++ tl) = some (.inl (some (.int 0), fx V I L R ++ tl))) ∧ ((∀ j, k ≤ j → j < P.length → xS P j ≠ 19) → ∃ K', fg_494_34 N K (.ref 174) (nI k) (fx V I L R ++ tl) = fg_494_34 N (K' + 1) (.ref 174) (nI P.length) (fx V I L R ++ tl)) := by
  have l60 := hA.2.2.2.2
  intro m
  induction m with
  | zero =>
    intro k K hm hK
    obtain ⟨K, rfl⟩ : ∃ k, K = k + 1 := ⟨K - 1, by omega⟩
    rw [Nat.add_zero] at hm
    subst hm
    exact ⟨fun ⟨j, a, b, _⟩ => absurd b (by omega), fun _ => ⟨K, rfl⟩⟩
  | succ m ih =>
    intro k K hm hK
    obtain ⟨K, rfl⟩ : ∃ k, K = k + 1 := ⟨K - 1, by omega⟩
    have hk : k < P.length := by omega
    obtain ⟨i1, i2⟩ := ih (k + 1) K (by omega) (by omega)
    have n20 := (nd_at ho hk).1
    by_cases c : xS P k = 19
    · refine ⟨fun _ => ?_, fun h => absurd c (h k (by omega) hk)⟩
      apply hd_494_34
      exact ev_b (rdI (rA_18 hA)) (ev_f (nI_ge hk (by omega)) (ev_b (rdR rfl) (ev_b (rA_s hA hk) (ev_f (by rw [c]; decide) rfl))))
    · have go : fg_494_34 N (K + 1) (.ref 174) (nI k) (fx V I L R ++ tl) = fg_494_34 N K (.ref 174) (nI (k + 1)) (fx V I L R ++ tl) := by
        apply hd_494_34
        refine ev_b (rdI (rA_18 hA)) (ev_f (nI_ge hk (by omega)) (ev_b (rdR rfl) (ev_b (rA_s hA hk) (ev_t (fun e => c ((nI_eq (b := 19) (by omega) (by decide)).mp e)) ?_))))
        rw [nI_1]
      rw [go]
      refine ⟨fun ⟨j, a, b, d⟩ => i1 ⟨j, ?_, b, d⟩, fun h => i2 (fun j a b => h j (by omega) b)⟩
      rcases Nat.eq_or_lt_of_le a with e | e
      · exact absurd (e ▸ d) c
      · exact e
