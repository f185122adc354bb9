/-! ===== edits: candidates in the class: trees, other sorts ===== -/
theorem hd_165_198 {N : Nat} {s0 : Value} {s1 : Int32} {s2 : Int32} {s3 : Int32} {h : am_H} {r_ : Option am_O} (k_ : (if am_pOk 3 s0 h then am_cV true (fm_51 s0 s1 s2 s3 h) (fun h3 => some (.inl (some (.int 1), h3))) else none) = r_) : fg_165_198 N s0 s1 s2 s3 h = r_ := k_
theorem hd_165_162 {N : Nat} {x0 : Value} {x1 : Int32} {x2 : Int32} {h : am_H} {r_ : Option am_O} (k_ : ((am_vR (am_pG 0 x0 h)).bind fun v1 => ((am_vR (am_pG 5 x0 h)).bind fun v3 => (if am_pOk 3 v1 h then am_cV true (fm_60 v1 v3 h) (fun h7 => ((am_vR (am_pG 0 x0 h7)).bind fun v9 => (if am_pOk 3 v9 h7 then am_cV true (fm_51 v9 x1 0 x2 h7) (fun h13 => ((am_vR (am_pG 0 x0 h13)).bind fun v15 => (if ¬ x2 = 0 then (fg_165_198 N v15 x1 1 0 h13) else (fg_165_198 N v15 x1 1 1 h13)))) else none))) else none))) = r_) : fg_165_162 N x0 x1 x2 h = r_ := k_
theorem hd_165_160 {N : Nat} {h : am_H} {r_ : Option am_O} (k_ : some (.inl (some (.int 0), h)) = r_) : fg_165_160 N h = r_ := k_
theorem hd_165_129 {N : Nat} {x0 : Value} {x1 : Int32} {x2 : Int32} {x3 : Int32} {x4 : Int32} {h : am_H} {r_ : Option am_O} (k_ : (if ¬ x3 = 19 then (fg_165_162 N x0 x1 x2 h) else ((am_vR (am_pG 5 x0 h)).bind fun v2 => ((am_vI (am_pG 771 v2 h)).bind fun v4 => (if v4 ≤ x4 then (fg_165_162 N x0 x1 x2 h) else ((am_vR (am_pG 2 x0 h)).bind fun v7 => ((am_vR (am_pG 1797 v7 h)).bind fun v9 => ((am_pA 2 v9 x4 h).bind fun v11 => (if v11 = 0 then (fg_165_162 N x0 x1 x2 h) else (fg_165_160 N h))))))))) = r_) : fg_165_129 N x0 x1 x2 x3 x4 h = r_ := k_
theorem hd_165_86 {N : Nat} {x0 : Value} {x1 : Int32} {x2 : Int32} {x3 : Int32} {x4 : Int32} {h : am_H} {r_ : Option am_O} (k_ : (if ¬ x2 = 19 then (fg_165_129 N x0 x1 x2 x3 x4 h) else ((am_vR (am_pG 2 x0 h)).bind fun v2 => ((am_vR (am_pG 1795 v2 h)).bind fun v4 => ((am_pA 2 v4 x1 h).bind fun v6 => (if ¬ v6 = 0 then (fg_165_160 N h) else ((am_vR (am_pG 5 x0 h)).bind fun v9 => ((am_vI (am_pG 771 v9 h)).bind fun v11 => (if v11 ≤ x4 then (fg_165_129 N x0 x1 x2 x3 x4 h) else ((am_vR (am_pG 2 x0 h)).bind fun v14 => ((am_vR (am_pG 1796 v14 h)).bind fun v16 => ((am_pA 2 v16 x4 h).bind fun v18 => (if ¬ v18 = 0 then (fg_165_160 N h) else (fg_165_129 N x0 x1 x2 x3 x4 h))))))))))))) = r_) : fg_165_86 N x0 x1 x2 x3 x4 h = r_ := k_
theorem hd_165_74 {N : Nat} {x0 : Value} {x1 : Int32} {x2 : Int32} {x3 : Int32} {x4 : Int32} {h : am_H} {r_ : Option am_O} (k_ : ((am_vR (am_pG 2 x0 h)).bind fun v1 => ((am_vR (am_pG 1795 v1 h)).bind fun v3 => ((am_pA 2 v3 x1 h).bind fun v5 => (if v5 = 0 then (fg_165_160 N h) else (fg_165_86 N x0 x1 x2 x3 x4 h))))) = r_) : fg_165_74 N x0 x1 x2 x3 x4 h = r_ := k_
theorem hd_165_61 {N : Nat} {h : am_H} {r_ : Option am_O} (k_ : some (.inl (some (.int 0), h)) = r_) : fg_165_61 N h = r_ := k_
theorem hd_165_0 {N : Nat} {x0 : Value} {x1 : Int32} {x2 : Int32} {h : am_H} {r_ : Option am_O} (k_ : ((am_vR (am_pG 5 x0 h)).bind fun v1 => (if am_pOk 3 v1 h then am_cI true (fm_54 v1 x1 0 h) (fun v4 h5 => ((am_vR (am_pG 2 x0 h5)).bind fun v7 => (if am_pOk 7 v7 h5 then am_cI true (fm_166 N v7 x1 1 h5) (fun v10 h11 => (if x2 = v4 then (fg_165_61 N h11) else am_cI false (fm_14 x2 h11) (fun v14 h15 => am_cI false (fm_14 v4 h15) (fun v17 h18 => (if ¬ v14 = v17 then (fg_165_61 N h18) else am_cI false (fm_11 x2 h18) (fun v21 h22 => am_cI false (fm_11 v4 h22) (fun v24 h25 => (if ¬ v21 = v24 then (fg_165_61 N h25) else am_cI false (fm_13 x2 0 h25) (fun v28 h29 => am_cI false (fm_13 v4 0 h29) (fun v31 h32 => (if v28 = v31 then (if x2 = 5 then (fg_165_74 N x0 x1 x2 v4 v10 h32) else (if ¬ x2 = 6 then (fg_165_86 N x0 x1 x2 v4 v10 h32) else (fg_165_74 N x0 x1 x2 v4 v10 h32))) else (fg_165_61 N h32)))))))))))) else none))) else none)) = r_) : fg_165_0 N x0 x1 x2 h = r_ := k_
theorem hm_165 {N : Nat} {y0 : Value} {y1 : Int32} {y2 : Int32} {h : am_H} {r_ : Option am_O} (k_ : fg_165_0 N y0 y1 y2 h = r_) : fm_165 N y0 y1 y2 h = r_ := k_
theorem hd_166_7 {N : Nat} {K : Nat} {x0 : Value} {x2 : Int32} {x3 : Int32} {x4 : Int32} {h : am_H} {r_ : Option am_O} (k_ : (if x2 ≤ x4 then some (.inl (some (.int x3), h)) else (if am_pOk 7 x0 h then am_cI true (fm_100 x0 x3 h) (fun v3 h4 => (fg_166_7 N K x0 x2 v3 ((x4 + 1)) h4)) else none)) = r_) : fg_166_7 N (K + 1) x0 x2 x3 x4 h = r_ := by rw [fg_166_7]; exact k_
theorem hd_166_0 {N : Nat} {x0 : Value} {x1 : Int32} {x2 : Int32} {h : am_H} {r_ : Option am_O} (k_ : (fg_166_7 N N x0 x2 ((x1 + 1)) 0 h) = r_) : fg_166_0 N x0 x1 x2 h = r_ := k_
theorem hm_166 {N : Nat} {y0 : Value} {y1 : Int32} {y2 : Int32} {h : am_H} {r_ : Option am_O} (k_ : fg_166_0 N y0 y1 y2 h = r_) : fm_166 N y0 y1 y2 h = r_ := k_
theorem e100_94 {V : Nat → Nat → Value} {I : Nat → Nat → Int32} {L : Nat → Nat → Int64} {R : Nat → Nat → Option Nat} {tl : am_H} {P : xT} {k : Nat} (h7 : V 94 7 = .int (nI P.length)) (hl : P.length ≤ 60) (hg : ∀ j, j < P.length → I 95 j = nI (xE P j)) (hk : k ≤ P.length) (x : Int32) (hx : x = nI k) : fm_100 (.ref 94) x (fx V I L R ++ tl) = some (.inl (some (.int (nI (xE P k))), fx V I L R ++ tl)) := by
  subst hx
  by_cases c : k < P.length
  · exact c_100 (h := fx V I L R ++ tl) (f := I 95) (fs := [.ref 95, .ref 96, .ref 97, .ref 98, .ref 99, .ref 100, .ref 101, V 94 7]) rfl rfl (by show some (V 94 7) = _; rw [h7]) rfl c hl (hg k c)
  · have e : k = P.length := by omega
    rw [xE_end (by omega), e]
    have g7 : am_vI (am_pG 1799 (.ref 94) (fx V I L R ++ tl)) = some (nI P.length) := rdI h7
    unfold fm_100 fg_100_0
    refine ev_f (nI_pos (by omega)) (ev_b g7 (ev_t (nI_le (Nat.le_refl _) (by omega)) ?_))
    unfold fg_100_21
    exact ev_b g7 rfl
theorem e100_102 {V : Nat → Nat → Value} {I : Nat → Nat → Int32} {L : Nat → Nat → Int64} {R : Nat → Nat → Option Nat} {tl : am_H} {P : xT} {k : Nat} (h7 : V 102 7 = .int (nI P.length)) (hl : P.length ≤ 60) (hg : ∀ j, j < P.length → I 103 j = nI (xE P j)) (hk : k ≤ P.length) (x : Int32) (hx : x = nI k) : fm_100 (.ref 102) x (fx V I L R ++ tl) = some (.inl (some (.int (nI (xE P k))), fx V I L R ++ tl)) := by
  subst hx
  by_cases c : k < P.length
  · exact c_100 (h := fx V I L R ++ tl) (f := I 103) (fs := [.ref 103, .ref 104, .ref 105, .ref 106, .ref 107, .ref 108, .ref 109, V 102 7]) rfl rfl (by show some (V 102 7) = _; rw [h7]) rfl c hl (hg k c)
  · have e : k = P.length := by omega
    rw [xE_end (by omega), e]
    have g7 : am_vI (am_pG 1799 (.ref 102) (fx V I L R ++ tl)) = some (nI P.length) := rdI h7
    unfold fm_100 fg_100_0
    refine ev_f (nI_pos (by omega)) (ev_b g7 (ev_t (nI_le (Nat.le_refl _) (by omega)) ?_))
    unfold fg_100_21
    exact ev_b g7 rfl
def likK (s x p : Nat) : Bool := !(likB s x) || (decide (s = 19) || (decide (x = 19) || decide (twN s p = twN x p)))
theorem like_c : ∀ s, s < 21 → ∀ x, x < 21 → (likK s x 0 && (likK s x 1 && likK s x 2)) = true := by decide +kernel
theorem like_k {s x p : Nat} (hs : s < 21) (hx : x < 21) (hp : p < 3) (h : likB s x = true) (h1 : s ≠ 19) (h2 : x ≠ 19) : twN s p = twN x p := by
  have k := like_c s hs x hx
  rw [Bool.and_eq_true, Bool.and_eq_true] at k
  have q : likK s x p = true := by
    rcases (by omega : p = 0 ∨ p = 1 ∨ p = 2) with rfl | rfl | rfl
    · exact k.1
    · exact k.2.1
    · exact k.2.2
  unfold likK at q
  rw [h, decide_eq_false h1, decide_eq_false h2] at q
  exact of_decide_eq_true q
theorem like_19 : ∀ x, x < 21 → (likB 19 x = true ∨ likB x 19 = true) → arN x = 2 ∧ truN x = 0 ∧ twN x 0 = 0 ∧ twN x 1 = 0 := by decide +kernel
theorem like_a {s x : Nat} (h : likB s x = true) : arN s = arN x ∧ truN s = truN x ∧ twN s 0 = twN x 0 := of_decide_eq_true h
theorem kid_like {s x : Nat} {c : Nat × Nat × Nat} (hs : s < 21) (hx : x < 21) (h : likB s x = true) (h1 : s ≠ 19) (h2 : x ≠ 19) : kid s c = kid x c := by
  unfold kid
  rw [(like_a h).1]
  refine List.map_congr_left (fun p hp => ?_)
  rw [List.mem_range] at hp
  rw [like_k hs hx (by have := ar_le x; omega) h h1 h2, if_neg (fun e => h1 e.1), if_neg (fun e => h2 e.1)]
theorem kid_2 {s : Nat} {c : Nat × Nat × Nat} (h : arN s = 2) (h0 : twN s 0 = 0) (h1 : twN s 1 = 0) : kid s c = [(0, c.2.1 + 1, c.2.2), (0, c.2.1 + 1, if s = 19 then 1 else c.2.2)] := by
  unfold kid
  rw [h]
  show [(twN s 0, c.2.1 + 1, if s = 19 ∧ 0 = 1 then 1 else c.2.2), (twN s 1, c.2.1 + 1, if s = 19 ∧ 1 = 1 then 1 else c.2.2)] = _
  rw [h0, h1, if_neg (fun e => absurd e.2 (by decide))]
  by_cases q : s = 19
  · rw [if_pos q, if_pos ⟨q, rfl⟩]
  · rw [if_neg q, if_neg (fun e => q e.1)]
theorem okF_2 {a b : Nat × Nat × Nat} {A B : List (Nat × Nat)} (hA : isF 1 A) : okF [a, b] (A ++ B) ↔ okF [a] A ∧ okF [b] B := by
  constructor
  · intro h
    have := okF_spl (A ++ B) [a] [b] h
    rw [show [a].length = 1 from rfl, tk_app _ _ _ hA, List.take_left, List.drop_left] at this
    exact this
  · rintro ⟨h1, h2⟩
    exact okF_app A [a] B [b] h1 h2
theorem set_l {l r : List (Nat × Nat)} {x y : Nat × Nat} {k : Nat} (h : l.drop k = x :: r) : l.set k y = l.take k ++ ((y :: r.take (tk (arN x.1) r)) ++ l.drop (k + tk 1 (l.drop k))) := by
  have hk : k < l.length := by
    by_cases c : k < l.length
    · exact c
    · rw [List.drop_of_length_le (by omega)] at h; exact absurd h (by simp)
  have h1 : l.drop (k + 1) = r := by rw [← List.drop_drop, h]; rfl
  rw [List.set_eq_take_append_cons_drop, if_pos hk, h1, h, tk_c, Nat.zero_add, ← Nat.add_assoc, ← List.drop_drop, h1, List.cons_append, List.take_append_drop]
/-- when a node may be of another sort -/
theorem rs_iff {l : List (Nat × Nat)} (ho : okF [(0, 1, 0)] l) {k s x : Nat} {r : List (Nat × Nat)} (hx : l.drop k = (x, 0) :: r) (hs : s ≤ 20) (hl : likB s x = true) (hn : s ≠ x) : okF [(0, 1, 0)] (l.set k (s, 0)) ↔ (s = 5 ∨ s = 6 → inL l k = 1) ∧ (s = 19 → inL l k = 0 ∧ foL l (enL l (k + 1)) = false) ∧ (x = 19 → loL l (enL l (k + 1)) = false) := by
  have hk : k < l.length := by
    by_cases c : k < l.length
    · exact c
    · rw [List.drop_of_length_le (by omega)] at hx; exact absurd hx (by simp)
  have hT := okF_sub l _ k _ ho (cxK_at ho hk)
  rw [hx, tk_c, Nat.zero_add, Nat.add_comm 1, List.take_succ_cons] at hT
  obtain ⟨f1, d1⟩ := cxK_f1 ho hk
  have fT := okF_F _ _ hT
  rw [okF] at hT
  obtain ⟨a1, a2, a3, a4, a5, a6⟩ := hT
  rw [List.append_nil] at a6
  obtain ⟨l1, l2, l3⟩ := like_a hl
  have fN : isF 1 ((s, 0) :: r.take (tk (arN x) r)) := by
    show isF (0 + arN s) _
    rw [l1]
    exact fT
  rw [set_l (y := (s, 0)) hx, hole_iff ho hk fN, okF]
  show _ ↔ (s = 5 ∨ s = 6 → (cxK l k).2.2 = 1) ∧ (s = 19 → (cxK l k).2.2 = 0 ∧ _) ∧ _
  rw [List.append_nil]
  by_cases q : s ≠ 19 ∧ x ≠ 19
  · rw [kid_like (by omega) (by omega) hl q.1 q.2]
    constructor
    · rintro ⟨-, -, -, b4, -, -⟩
      refine ⟨fun e => ?_, fun e => absurd e q.1, fun e => absurd e q.2⟩
      by_cases z : (cxK l k).2.2 = 0
      · have := b4 z; omega
      · omega
    · rintro ⟨b1, -, -⟩
      exact ⟨hs, by rw [← a2]; exact l2, a3, fun z => ⟨fun e => by have := b1 (.inl e); omega, fun e => by have := b1 (.inr e); omega⟩, fun _ => q.1, a6⟩
  -- one of them is a fold: two parts
  have tw : arN x = 2 ∧ truN x = 0 ∧ twN x 0 = 0 ∧ twN x 1 = 0 := by
    by_cases z : s = 19
    · rw [z] at hl; exact like_19 x (by omega) (.inl hl)
    · have : x = 19 := by omega
      rw [this]; decide
  have tw' : arN s = 2 ∧ truN s = 0 ∧ twN s 0 = 0 ∧ twN s 1 = 0 := by
    by_cases z : s = 19
    · rw [z]; decide
    · have e : x = 19 := by omega
      rw [e] at hl; exact like_19 s (by omega) (.inr hl)
  obtain ⟨m, hm⟩ := isF_drop l 1 (k + 1) (okF_F _ _ ho) (by omega)
  have h1 : l.drop (k + 1) = r := by rw [← List.drop_drop, hx]; rfl
  rw [h1] at hm
  have fr : isF 2 (r.take (tk 2 r)) := by
    have : isF (0 + arN x) (r.take (tk (arN x) r)) := fT
    rw [tw.1] at this
    exact this
  have k2 : k + 1 < l.length := by
    by_cases z : k + 1 < l.length
    · exact z
    · rw [List.drop_of_length_le (by omega)] at h1
      rw [← h1, List.take_nil] at fr
      exact absurd fr id
  -- the first part and what lies behind it
  obtain ⟨A, hA⟩ : ∃ A, A = r.take (tk 1 r) := ⟨_, rfl⟩
  have t2 : tk 2 r = tk 1 r + tk 1 (r.drop (tk 1 r)) := tk_add r 1 1
  have e2 : enL l (k + 1) = k + 1 + tk 1 r := en_1 hx
  have hr2 : r.drop (tk 1 r) = l.drop (enL l (k + 1)) := by rw [e2, ← h1, List.drop_drop]
  have sR : r.take (tk 2 r) = A ++ (l.drop (enL l (k + 1))).take (tk 1 (l.drop (enL l (k + 1)))) := by
    rw [t2, hr2, hA, ← hr2, List.take_add]
  have fA : isF 1 A := by
    have := isF_pre (r.take (tk 2 r)) 1 1 fr
    have tt : tk 1 (r.take (tk 2 r)) = tk 1 r := by
      have h3 := isF_pre (r.take (tk 2 r)) 1 1 fr
      have h4 : r = (r.take (tk 2 r)).take (tk 1 (r.take (tk 2 r))) ++ ((r.take (tk 2 r)).drop (tk 1 (r.take (tk 2 r))) ++ r.drop (tk 2 r)) := by rw [← List.append_assoc, List.take_append_drop, List.take_append_drop]
      have h5 := tk_app _ ((r.take (tk 2 r)).drop (tk 1 (r.take (tk 2 r))) ++ r.drop (tk 2 r)) 1 h3
      rw [← h4, List.length_take, Nat.min_eq_left (tk_le _ _)] at h5
      exact h5.symm
    rw [tt, List.take_take, Nat.min_eq_left (by omega), ← hA] at this
    exact this
  have ke : enL l (k + 1) < l.length := by
    by_cases z : enL l (k + 1) < l.length
    · exact z
    · rw [List.drop_of_length_le (l := l) (i := enL l (k + 1)) (by omega), List.take_nil, List.append_nil] at sR
      rw [sR] at fr
      have u1 := isF_tk _ _ fr
      have u2 := isF_tk _ _ fA
      have u3 := tk_lt fr (q := 1) (i := 2) (by omega) (by omega)
      omega
  rw [tw.1, sR] at a6 ⊢
  rw [kid_2 tw.1 tw.2.2.1 tw.2.2.2, okF_2 fA] at a6
  rw [kid_2 tw'.1 tw'.2.2.1 tw'.2.2.2, okF_2 fA]
  by_cases z : s = 19
  · have nx : x ≠ 19 := fun e => hn (z.trans e.symm)
    rw [if_neg nx] at a6
    rw [if_pos z]
    by_cases c0 : (cxK l k).2.2 = 0
    · have b0 := (fit_iff ho ke (c := (0, (cxK l k).2.1 + 1, (cxK l k).2.2)) (by show (cxK l k).2.2 ≤ 1; omega) (by show 1 ≤ (cxK l k).2.1 + 1; omega)).mp a6.2
      have b1 := fit_iff ho ke (c := (0, (cxK l k).2.1 + 1, 1)) (by show 1 ≤ 1; omega) (by show 1 ≤ (cxK l k).2.1 + 1; omega)
      rw [b1]
      constructor
      · rintro ⟨-, -, -, -, -, -, -, -, g, -⟩
        exact ⟨fun e => by omega, fun _ => ⟨c0, g rfl⟩, fun e => absurd e nx⟩
      · rintro ⟨-, g, -⟩
        exact ⟨hs, by rw [← a2]; exact l2, a3, fun _ => ⟨by omega, by omega⟩, fun e => by omega, a6.1, b0.1, b0.2.1, fun _ => (g z).2, fun e => absurd e (show ¬ (1 : Nat) = 0 by decide)⟩
    · constructor
      · rintro ⟨-, -, -, -, g, -⟩
        exact absurd z (g (by omega))
      · rintro ⟨-, g, -⟩
        exact absurd (g z).1 c0
  · have ex : x = 19 := by omega
    rw [if_pos ex] at a6
    rw [if_neg z]
    have c0 : (cxK l k).2.2 = 0 := by
      by_cases u : (cxK l k).2.2 = 0
      · exact u
      · exact absurd ex (a5 (by omega))
    have b0 := (fit_iff ho ke (c := (0, (cxK l k).2.1 + 1, 1)) (by show 1 ≤ 1; omega) (by show 1 ≤ (cxK l k).2.1 + 1; omega)).mp a6.2
    have b1 := fit_iff ho ke (c := (0, (cxK l k).2.1 + 1, (cxK l k).2.2)) (by show (cxK l k).2.2 ≤ 1; omega) (by show 1 ≤ (cxK l k).2.1 + 1; omega)
    rw [b1]
    have s2 := tw'.1
    constructor
    · rintro ⟨-, -, -, -, -, -, -, -, -, g⟩
      exact ⟨fun e => by rcases e with e | e <;> rw [e] at s2 <;> exact absurd s2 (by decide), fun e => absurd e z, fun _ => g c0⟩
    · rintro ⟨g1, -, g⟩
      exact ⟨hs, by rw [← a2]; exact l2, a3, fun _ => ⟨fun e => by have e : s = 5 := e; rw [e] at s2; exact absurd s2 (by decide), fun e => by have e : s = 6 := e; rw [e] at s2; exact absurd s2 (by decide)⟩, fun _ => z, a6.1, b0.1, b0.2.1, fun e => by have : (cxK l k).2.2 = 1 := e; omega, fun _ => g ex⟩
