/-! ===== novelty: the three least ===== -/
theorem cmpL3 {a b : Nat} (ha : a < 2 ^ 60) (hb : b < 2 ^ 60) : ((lg_cmp (lN a) (lN b) < 0) ↔ a < b) ∧ ((0 < lg_cmp (lN a) (lN b)) ↔ b < a) := by
  obtain ⟨z1, z2⟩ := cmpL2 ha hb
  refine ⟨⟨fun h => ?_, fun h => ?_⟩, ⟨fun h => ?_, fun h => ?_⟩⟩
  · have : ¬ b ≤ a := fun e => absurd (z2.mpr e) (Int32.not_le.mpr h)
    omega
  · exact Int32.not_le.mp (fun e => by have := z2.mp e; omega)
  · have h1 := z2.mp (Int32.le_of_lt h)
    have h2 : ¬ b = a := fun e => by
      rw [z1.mpr e] at h
      exact absurd h (by decide)
    omega
  · have h1 : 0 ≤ lg_cmp (lN a) (lN b) := z2.mpr (by omega)
    have h2 : ¬ lg_cmp (lN a) (lN b) = 0 := fun e => by have := z1.mp e; omega
    exact Int32.lt_of_le_of_ne h1 (fun e => h2 e.symm)
theorem mxL {a b : Nat} (ha : a < 2 ^ 60) (hb : b < 2 ^ 60) : pv_249 (lN a) (lN b) = lN (max a b) := by
  have z := (cmpL3 ha hb).1
  unfold pv_249
  by_cases c : a < b
  · rw [if_pos (z.mpr c), Nat.max_eq_right (by omega)]
  · rw [if_neg (fun e => c (z.mp e)), Nat.max_eq_left (by omega)]
theorem mnL {a b : Nat} (ha : a < 2 ^ 60) (hb : b < 2 ^ 60) : pv_136 (lN a) (lN b) = lN (min a b) := by
  have z := (cmpL3 ha hb).2
  unfold pv_136
  by_cases c : b < a
  · rw [if_pos (z.mpr c), Nat.min_eq_right (by omega)]
  · rw [if_neg (fun e => c (z.mp e)), Nat.min_eq_left (by omega)]
def nvS (u : Nat × Nat × Nat) (d : Nat) : Nat × Nat × Nat := (min u.1 d, min u.2.1 (max u.1 d), min u.2.2 (max u.2.1 d))
def nvL (D : Nat → Nat) (p : Nat) : Nat → Nat × Nat × Nat
  | 0 => (100000000, 100000000, 100000000)
  | k + 1 => if k = p then nvL D p k else nvS (nvL D p k) (D k)
theorem nvL_p {D : Nat → Nat} {p k : Nat} (h : k = p) : nvL D p (k + 1) = nvL D p k := if_pos h
theorem nvL_n {D : Nat → Nat} {p k : Nat} (h : ¬ k = p) : nvL D p (k + 1) = nvS (nvL D p k) (D k) := if_neg h
/-- t of them are there -/
def nvO (t : Nat) (u : Nat × Nat × Nat) : Prop := u.1 ≤ u.2.1 ∧ u.2.1 ≤ u.2.2 ∧ u.2.2 ≤ 100000000 ∧ (u.1 < 100000000 ↔ 0 < t) ∧ (u.2.1 < 100000000 ↔ 1 < t) ∧ (u.2.2 < 100000000 ↔ 2 < t)
theorem nvO_s {t d : Nat} {u : Nat × Nat × Nat} (hd : d < 100000000) (h : nvO t u) : nvO (t + 1) (nvS u d) := by
  obtain ⟨x, y, z⟩ := u
  obtain ⟨h1, h2, h3, h4, h5, h6⟩ := h
  dsimp only at h1 h2 h3 h4 h5 h6
  unfold nvO nvS
  dsimp only
  refine ⟨by omega, by omega, by omega, ⟨fun _ => by omega, fun _ => by omega⟩, ⟨fun h => ?_, fun h => ?_⟩, ⟨fun h => ?_, fun h => ?_⟩⟩
  · have : x < 100000000 := by omega
    have := h4.mp this
    omega
  · have := h4.mpr (by omega)
    omega
  · have : y < 100000000 := by omega
    have := h5.mp this
    omega
  · have := h5.mpr (by omega)
    omega
def nvT (p k : Nat) : Nat := if p < k then k - 1 else k
theorem nvL_o {D : Nat → Nat} {p c : Nat} (hD : ∀ x, x < c → D x < 100000000) : ∀ k, k ≤ c → nvO (nvT p k) (nvL D p k) := by
  intro k
  induction k with
  | zero =>
    intro _
    have e : nvT p 0 = 0 := if_neg (by omega)
    rw [e]
    show nvO 0 (100000000, 100000000, 100000000)
    unfold nvO
    dsimp only
    exact ⟨by decide, by decide, by decide, by decide, by decide, by decide⟩
  | succ k ih =>
    intro hk
    have h := ih (by omega)
    by_cases e : k = p
    · rw [nvL_p e]
      have e1 : nvT p (k + 1) = k := if_pos (by omega)
      have e2 : nvT p k = k := if_neg (by omega)
      rw [e1]
      rw [e2] at h
      exact h
    · rw [nvL_n e]
      have e1 : nvT p (k + 1) = nvT p k + 1 := by
        unfold nvT
        by_cases c1 : p < k
        · rw [if_pos c1, if_pos (by omega)]; omega
        · rw [if_neg c1, if_neg (by omega)]
      rw [e1]
      exact nvO_s (hD k (by omega)) h
def nvE (c : Nat) (u : Nat × Nat × Nat) : Nat := (if c ≤ 1 then 0 else u.1) + (if c ≤ 2 then 0 else u.2.1) + (if c ≤ 3 then 0 else u.2.2)
theorem dsN_le (I0 : Nat → Nat → Int32) (Oc Od : Nat → Int32 × Nat × Int32) (k : Nat) : dsN I0 Oc Od k ≤ 1000000 := by
  unfold dsN
  by_cases c : I0 202 k = 0
  · rw [if_pos c]
    by_cases d : (Oc k).1 = (Od k).1
    · rw [if_pos d]; exact gN_le _ _
    · rw [if_neg d]; exact Nat.le_refl _
  · rw [if_neg c]; exact Nat.zero_le _
theorem dsS_lt {I0 : Nat → Nat → Int32} {Oc Od : Nat → Int32 × Nat × Int32} {m : Nat} (hm : m ≤ 24) : suN (dsN I0 Oc Od) m < 100000000 := by
  have := suN_le (g := dsN I0 Oc Od) (c := 1000000) m (fun k _ => dsN_le I0 Oc Od k)
  omega
set_option maxRecDepth 100000 in
set_option maxHeartbeats 1600000 in
theorem c_248e {V : Nat → Nat → Value} {I : Nat → Nat → Int32} {L : Nat → Nat → Int64} {R : Nat → Nat → Option Nat} {tl : am_H} {N i c x y z : Nat} (hi : i < 4) (hc : c ≤ 16) (h0 : V (40 + 9 * i) 0 = .int (nI c)) : ((am_vI (am_pG 256 (.ref (40 + 9 * i)) (fx V I L R ++ tl))).bind fun v4 => (if v4 ≤ 1 then (fg_248_130 N (.ref (40 + 9 * i)) (lN y) (lN z) 0 (fx V I L R ++ tl)) else (fg_248_130 N (.ref (40 + 9 * i)) (lN y) (lN z) (lN x) (fx V I L R ++ tl)))) = some (.inl (some (.long (lN (nvE c (x, y, z)))), (fx V I L R ++ tl))) := by
  have key : ∀ (A B C : Nat), (some (.inl (some (.long ((lN A + lN B) + lN C)), (fx V I L R ++ tl))) : Option am_O) = some (.inl (some (.long (lN (A + B + C))), (fx V I L R ++ tl))) := fun A B C => by rw [lN_add, lN_add]
  have y1 : c ≤ 1 → nI c ≤ (1 : Int32) := fun h => nI_le (b := 1) h (by decide)
  have n1 : ¬ c ≤ 1 → ¬ nI c ≤ (1 : Int32) := fun h => nI_ge (a := 1) (by omega) (by omega)
  have y2 : c ≤ 2 → nI c ≤ (2 : Int32) := fun h => nI_le (b := 2) h (by decide)
  have n2 : ¬ c ≤ 2 → ¬ nI c ≤ (2 : Int32) := fun h => nI_ge (a := 2) (by omega) (by omega)
  have y3 : c ≤ 3 → nI c ≤ (3 : Int32) := fun h => nI_le (b := 3) h (by decide)
  have n3 : ¬ c ≤ 3 → ¬ nI c ≤ (3 : Int32) := fun h => nI_ge (a := 3) (by omega) (by omega)
  have e3 := iv_0 (V := V) (I := I) (L := L) (R := R) (tl := tl) hi h0
  by_cases c3 : c ≤ 3
  · by_cases c2 : c ≤ 2
    · by_cases c1 : c ≤ 1
      · have e : nvE c (x, y, z) = 0 + 0 + 0 := by unfold nvE; rw [if_pos c1, if_pos c2, if_pos c3]
        rw [e]
        refine ev_b e3 (ev_t (y1 c1) ?_)
        unfold fg_248_130
        refine ev_b e3 (ev_t (y2 c2) ?_)
        unfold fg_248_144
        exact ev_b e3 (ev_t (y3 c3) (key 0 0 0))
      · have e : nvE c (x, y, z) = x + 0 + 0 := by unfold nvE; rw [if_neg c1, if_pos c2, if_pos c3]
        rw [e]
        refine ev_b e3 (ev_f (n1 c1) ?_)
        unfold fg_248_130
        refine ev_b e3 (ev_t (y2 c2) ?_)
        unfold fg_248_144
        exact ev_b e3 (ev_t (y3 c3) (key x 0 0))
    · have e : nvE c (x, y, z) = x + y + 0 := by unfold nvE; rw [if_neg (by omega), if_neg c2, if_pos c3]
      rw [e]
      refine ev_b e3 (ev_f (n1 (by omega)) ?_)
      unfold fg_248_130
      refine ev_b e3 (ev_f (n2 c2) ?_)
      unfold fg_248_144
      exact ev_b e3 (ev_t (y3 c3) (key x y 0))
  · have e : nvE c (x, y, z) = x + y + z := by unfold nvE; rw [if_neg (by omega), if_neg (by omega), if_neg c3]
    rw [e]
    refine ev_b e3 (ev_f (n1 (by omega)) ?_)
    unfold fg_248_130
    refine ev_b e3 (ev_f (n2 (by omega)) ?_)
    unfold fg_248_144
    exact ev_b e3 (ev_f (n3 c3) (key x y z))
set_option maxRecDepth 100000 in
set_option maxHeartbeats 1600000 in
theorem c_248l {L : Nat → Nat → Int64} {R : Nat → Nat → Option Nat} {tl : am_H} {I0 : Nat → Nat → Int32} {N i c p m n lm a it : Nat} {f : Nat → Int32} {Ob : Nat → Nat → Int32 × Nat × Int32} {bm : Nat → Nat} {D : Nat → Nat} (hD : ∀ x, D x = suN (dsN I0 (Ob (bm p)) (Ob (bm x))) m) (hN : 100 < N) (hi : i < 4) (hc16 : c ≤ 16) (hn : n ≤ 600) (hp : p < c) (hlo : 10 ≤ lm) (hhi : lm ≤ 2000) (hB : ∀ b, b < n → bK R tl I0 b) (hO : oB I0 lm n m Ob) (hm : ∀ x, x < c → bm x < n) (p1 : ∀ V I, prA V I tl (269 + a) (269 + it) (kdB I0 (bm p)) (lnB I0 (bm p)) (szB I0 (bm p)) (szB I0 (bm p) * wdN (kdB I0 (bm p))) f) (i1 : itm (kdB I0 (bm p)) (sB I0 (bm p)) (vB I0 (bm p)) (szB I0 (bm p)) f) : ∀ (t k K : Nat) (V : Nat → Nat → Value) (I : Nat → Nat → Int32), k + t = c → t < K → wt V → csK V I I0 m → V 0 1 = .int (nI n) → V (40 + 9 * i) 0 = .int (nI c) → (∀ x, x < c → I (41 + 9 * i) x = nI (bm x)) → V 16 0 = .int (nI lm) → V 27 0 = .int (nI lm) → ∃ W J, fg_248_36 N K (.ref 0) (nI p) (.ref (40 + 9 * i)) (.ref (269 + a)) (lN (nvL D p k).1) (lN (nvL D p k).2.1) (lN (nvL D p k).2.2) (nI k) (fx V I L R ++ tl) = some (.inl (some (.long (lN (nvE c (nvL D p c)))), fx W J L R ++ tl)) ∧ frD V W I J := by
  intro t
  induction t with
  | zero =>
    intro k K V I hk hK hw hc h01 h0 h41 h16 h27
    obtain ⟨K, rfl⟩ : ∃ k, K = k + 1 := ⟨K - 1, by omega⟩
    obtain rfl : k = c := by omega
    refine ⟨V, I, ?_, frD_r⟩
    rw [fg_248_36]
    exact ev_b (iv_0 hi h0) (ev_t (nI_le (Nat.le_refl _) (by omega)) (c_248e hi hc16 h0))
  | succ t ih =>
    intro k K V I hk hK hw hc h01 h0 h41 h16 h27
    obtain ⟨K, rfl⟩ : ∃ k, K = k + 1 := ⟨K - 1, by omega⟩
    have m24 := hc.2.2.1
    by_cases kp : k = p
    · obtain ⟨W, J, e, f'⟩ := ih (k + 1) K V I (by omega) (by omega) hw hc h01 h0 h41 h16 h27
      rw [nvL_p kp] at e
      refine ⟨W, J, ?_, f'⟩
      rw [fg_248_36]
      refine ev_b (iv_0 hi h0) (ev_f (nI_ge (by omega) (by omega)) (ev_t (by rw [kp]) ?_))
      unfold fg_248_110
      rw [nI_1]
      exact e
    · obtain ⟨q1, q2, q3, q4, a', it', f', q5, q6, q7⟩ := hB (bm k) (hm k (by omega))
      obtain ⟨W1, J1, e1, f1⟩ := c_246 (V := V) (I := I) (L := L) (R := R) (N := N) hN hw hc hO (hm p hp) (hm k (by omega)) p1 i1 (hB (bm p) (hm p hp)).2.2.2.1 q6 q7 q4 h16 h27 hlo hhi
      rw [← hD k] at e1
      have dl : D k < 100000000 := by rw [hD]; exact dsS_lt m24
      have k1 := frD_k f1
      obtain ⟨W, J, e, f2⟩ := ih (k + 1) K W1 J1 (by omega) (by omega) (k1.2.2 hw) (csK_c k1 hc) ((f1.1 0 1 (by decide) (by decide) (by decide) (by decide)).trans h01) ((f1.1 (40 + 9 * i) 0 (by omega) (by omega) (fun e => by omega) (fun e => by omega)).trans h0) (fun x hx => by
        rw [f1.2.2.2.1 (41 + 9 * i) (by omega) (by omega) (by omega) (by omega) (by omega) (by omega)]
        exact h41 x hx) (f1.2.1.trans h16) (f1.2.2.1.trans h27)
      rw [nvL_n kp] at e
      have ho := nvL_o (D := D) (p := p) (c := k) (fun x _ => by rw [hD]; exact dsS_lt m24) k (Nat.le_refl _)
      obtain ⟨u, hu⟩ : ∃ u, u = nvL D p k := ⟨_, rfl⟩
      rw [← hu] at e ho
      rw [← hu]
      obtain ⟨o1, o2, o3, -⟩ := ho
      have s1 : fm_249 (lN u.2.1) (lN (D k)) (fx W1 J1 L R ++ tl) = some (.inl (some (.long (lN (max u.2.1 (D k)))), (fx W1 J1 L R ++ tl))) := by rw [pe_249, mxL (by omega) (by omega)]
      have s2 : fm_136 (lN u.2.2) (lN (max u.2.1 (D k))) (fx W1 J1 L R ++ tl) = some (.inl (some (.long (lN (min u.2.2 (max u.2.1 (D k))))), (fx W1 J1 L R ++ tl))) := by rw [pe_136, mnL (by omega) (by omega)]
      have s3 : fm_249 (lN u.1) (lN (D k)) (fx W1 J1 L R ++ tl) = some (.inl (some (.long (lN (max u.1 (D k)))), (fx W1 J1 L R ++ tl))) := by rw [pe_249, mxL (by omega) (by omega)]
      have s4 : fm_136 (lN u.2.1) (lN (max u.1 (D k))) (fx W1 J1 L R ++ tl) = some (.inl (some (.long (lN (min u.2.1 (max u.1 (D k))))), (fx W1 J1 L R ++ tl))) := by rw [pe_136, mnL (by omega) (by omega)]
      have s5 : fm_136 (lN u.1) (lN (D k)) (fx W1 J1 L R ++ tl) = some (.inl (some (.long (lN (min u.1 (D k)))), (fx W1 J1 L R ++ tl))) := by rw [pe_136, mnL (by omega) (by omega)]
      refine ⟨W, J, ?_, frD_t f1 f2⟩
      rw [fg_248_36]
      refine ev_b (iv_0 hi h0) (ev_f (nI_ge (by omega) (by omega)) (ev_f (fun e => kp ((nI_eq (by omega) (by omega)).mp e)) (ev_b (a := Value.ref 14) rfl (ev_b (ir_1 hi) (ev_b (a := nI (bm k)) ((ia_41 hi (by omega)).trans (by rw [h41 k (by omega)])) (ev_i rfl (ev_cR (c_63 h01 hn (hm k (by omega)) q5) rfl (ev_i rfl (ev_cL e1 (ev_cL s1 (ev_cL s2 (ev_cL s3 (ev_cL s4 (ev_cL s5 ?_))))))))))))))
      unfold fg_248_110
      rw [nI_1]
      exact e
/-! ===== the reference: the row of three ===== -/
def enX (x : Nat) : Int64 := if x < 100000000 then lN x else -1
theorem enX_y {x : Nat} (h : x < 100000000) : enX x = lN x := if_pos h
theorem enX_n {x : Nat} (h : ¬ x < 100000000) : enX x = -1 := if_neg h
theorem lz_y {x : Nat} (h : x < 2 ^ 60) : ¬ lg_cmp (lN x) 0 < 0 ∧ 0 ≤ lg_cmp (lN x) 0 := by
  have z : 0 ≤ lg_cmp (lN x) (lN 0) := (cmpL2 h (by decide)).2.mpr (Nat.zero_le _)
  exact ⟨Int32.not_lt.mpr z, z⟩
theorem lz_n : lg_cmp (-1) 0 < 0 ∧ ¬ 0 ≤ lg_cmp (-1) 0 := by decide
def rw3 (M : Nat → Nat → Int64) (u : Nat × Nat × Nat) : Prop := M 245 0 = enX u.1 ∧ M 245 1 = enX u.2.1 ∧ M 245 2 = enX u.2.2
set_option maxRecDepth 100000 in
set_option maxHeartbeats 1600000 in
theorem r_526s {V : Nat → Nat → Value} {I : Nat → Nat → Int32} {M : Nat → Nat → Int64} {R : Nat → Nat → Option Nat} {tl : am_H} {N K i p k x d e : Nat} {rc : Value → Int32 → Int32 → Int32 → am_H → Option am_O} (hx : x < 3) (hM : M 245 x = enX e) (hd : d < 100000000) (hk : k < 2 ^ 31) : fg_526_100 N rc (K + 1) (.ref 174) (nI i) (nI p) (nI k) (lN d) (nI x) (fx V I M R ++ tl) = if e < 100000000 then fg_526_100 N rc K (.ref 174) (nI i) (nI p) (nI k) (lN (max e d)) (nI (x + 1)) (fx V I (lup M 245 (vp_updL (M 245) x (lN (min e d)))) R ++ tl) else rc (.ref 174) (nI i) (nI p) (nI (k + 1)) (fx V I (lup M 245 (vp_updL (M 245) x (lN d))) R ++ tl) := by
  have a1 : am_pAL (.ref 245) (nI x) (fx V I M R ++ tl) = some (enX e) := (qa_245 hx).trans (by rw [hM])
  have n3 : ¬ (3 : Int32) ≤ nI x := nI_ge (b := 3) (by omega) (by decide)
  by_cases c : e < 100000000
  · rw [if_pos c]
    rw [enX_y c] at a1
    obtain ⟨z1, z2⟩ := lz_y (x := e) (by omega)
    have zc := (cmpL2 (a := d) (b := e) (by omega) (by omega)).2
    rw [fg_526_100]
    refine ev_f n3 (ev_b (a := Value.ref 245) rfl (ev_b a1 (ev_f z1 (ev_b (a := Value.ref 245) rfl (ev_b a1 ?_)))))
    by_cases c2 : e ≤ d
    · rw [Nat.max_eq_right c2, Nat.min_eq_left c2]
      refine ev_t (zc.mpr c2) ?_
      unfold fg_526_136
      refine ev_b (a := Value.ref 245) rfl (ev_b a1 (ev_b (a := Value.ref 245) rfl (ev_t rfl ?_)))
      unfold fg_526_165
      refine ev_b (qs_245 hx) (ev_t rfl ?_)
      unfold fg_526_178
      refine ev_t (lz_y (by omega)).2 ?_
      rw [nI_1]
    · rw [Nat.max_eq_left (by omega), Nat.min_eq_right (by omega)]
      refine ev_f (fun h => c2 (zc.mp h)) ?_
      unfold fg_526_131 fg_526_136
      refine ev_b (a := Value.ref 245) rfl (ev_b a1 (ev_b (a := Value.ref 245) rfl (ev_f (by decide) ?_)))
      unfold fg_526_165
      refine ev_b (qs_245 hx) (ev_f (by decide) ?_)
      unfold fg_526_178
      refine ev_t z2 ?_
      rw [nI_1]
  · rw [if_neg c]
    rw [enX_n c] at a1
    rw [fg_526_100]
    refine ev_f n3 (ev_b (a := Value.ref 245) rfl (ev_b a1 (ev_t lz_n.1 ?_)))
    unfold fg_526_131 fg_526_136
    refine ev_b (a := Value.ref 245) rfl (ev_b a1 (ev_b (a := Value.ref 245) rfl (ev_f (by decide) ?_)))
    unfold fg_526_165
    refine ev_b (qs_245 hx) (ev_f (by decide) ?_)
    unfold fg_526_178
    refine ev_f lz_n.2 ?_
    unfold fg_526_196
    rw [nI_1]
theorem up3 {M : Nat → Nat → Int64} {x : Nat} {v : Int64} : lup M 245 (vp_updL (M 245) x v) 245 x = v := by rw [lup_eq, updL_eq]
theorem up3n {M : Nat → Nat → Int64} {x y : Nat} {v : Int64} (h : y ≠ x) : lup M 245 (vp_updL (M 245) x v) 245 y = M 245 y := by rw [lup_eq, updL_ne h]
set_option maxRecDepth 100000 in
set_option maxHeartbeats 1600000 in
/-- the reference puts a distance into its row -/
theorem r_526i {V : Nat → Nat → Value} {I : Nat → Nat → Int32} {M : Nat → Nat → Int64} {R : Nat → Nat → Option Nat} {tl : am_H} {N K i p k d t : Nat} {u : Nat × Nat × Nat} {rc : Value → Int32 → Int32 → Int32 → am_H → Option am_O} (hK : 4 ≤ K) (h3 : rw3 M u) (ho : nvO t u) (hd : d < 100000000) (hk : k < 2 ^ 31) : ∃ M', fg_526_100 N rc K (.ref 174) (nI i) (nI p) (nI k) (lN d) (nI 0) (fx V I M R ++ tl) = rc (.ref 174) (nI i) (nI p) (nI (k + 1)) (fx V I M' R ++ tl) ∧ rw3 M' (nvS u d) ∧ ∀ y, y ≠ 245 → M' y = M y := by
  obtain ⟨x, y, z⟩ := u
  obtain ⟨m0, m1, m2⟩ := h3
  obtain ⟨o1, o2, o3, o4, o5, o6⟩ := ho
  dsimp only at m0 m1 m2 o1 o2 o3 o4 o5 o6
  obtain ⟨K, rfl⟩ : ∃ k, K = k + 1 + 1 + 1 + 1 := ⟨K - 4, by omega⟩
  have e0 := r_526s (V := V) (I := I) (M := M) (R := R) (tl := tl) (N := N) (K := K + 1 + 1 + 1) (i := i) (p := p) (k := k) (rc := rc) (x := 0) (by decide) m0 hd hk
  by_cases c0 : x < 100000000
  · rw [if_pos c0] at e0
    obtain ⟨d1, hd1⟩ : ∃ d1, d1 = max x d := ⟨_, rfl⟩
    obtain ⟨M1, hM1⟩ : ∃ M1, M1 = lup M 245 (vp_updL (M 245) 0 (lN (min x d))) := ⟨_, rfl⟩
    rw [← hd1, ← hM1] at e0
    have a0 : M1 245 0 = lN (min x d) := by rw [hM1]; exact up3
    have a1 : M1 245 1 = enX y := by rw [hM1, up3n (by decide)]; exact m1
    have a2 : M1 245 2 = enX z := by rw [hM1, up3n (by decide)]; exact m2
    have ay : ∀ w, w ≠ 245 → M1 w = M w := fun w hw => by rw [hM1]; exact lup_na hw
    have e1 := r_526s (V := V) (I := I) (M := M1) (R := R) (tl := tl) (N := N) (K := K + 1 + 1) (i := i) (p := p) (k := k) (d := d1) (rc := rc) (x := 1) (by decide) a1 (by omega) hk
    by_cases c1 : y < 100000000
    · rw [if_pos c1] at e1
      obtain ⟨d2, hd2⟩ : ∃ d2, d2 = max y d1 := ⟨_, rfl⟩
      obtain ⟨M2, hM2⟩ : ∃ M2, M2 = lup M1 245 (vp_updL (M1 245) 1 (lN (min y d1))) := ⟨_, rfl⟩
      rw [← hd2, ← hM2] at e1
      have b0 : M2 245 0 = lN (min x d) := by rw [hM2, up3n (by decide)]; exact a0
      have b1 : M2 245 1 = lN (min y d1) := by rw [hM2]; exact up3
      have b2 : M2 245 2 = enX z := by rw [hM2, up3n (by decide)]; exact a2
      have by' : ∀ w, w ≠ 245 → M2 w = M w := fun w hw => by rw [hM2, lup_na hw]; exact ay w hw
      have e2 := r_526s (V := V) (I := I) (M := M2) (R := R) (tl := tl) (N := N) (K := K + 1) (i := i) (p := p) (k := k) (d := d2) (rc := rc) (x := 2) (by decide) b2 (by omega) hk
      have r0 : enX (min x d) = lN (min x d) := enX_y (by omega)
      have r1 : enX (min y (max x d)) = lN (min y d1) := by rw [enX_y (by omega), hd1]
      by_cases c2 : z < 100000000
      · rw [if_pos c2] at e2
        refine ⟨lup M2 245 (vp_updL (M2 245) 2 (lN (min z d2))), ?_, ⟨?_, ?_, ?_⟩, fun w hw => by rw [lup_na hw]; exact by' w hw⟩
        · rw [e0, e1, e2, fg_526_100]
          refine ev_t (by decide) ?_
          unfold fg_526_196
          rw [nI_1]
        · rw [up3n (by decide), b0]; exact r0.symm
        · rw [up3n (by decide), b1]; exact r1.symm
        · rw [up3]
          show _ = enX (min z (max y d))
          rw [enX_y (by omega), show min z d2 = min z (max y d) by omega]
      · rw [if_neg c2] at e2
        refine ⟨lup M2 245 (vp_updL (M2 245) 2 (lN d2)), ?_, ⟨?_, ?_, ?_⟩, fun w hw => by rw [lup_na hw]; exact by' w hw⟩
        · rw [e0, e1, e2]
        · rw [up3n (by decide), b0]; exact r0.symm
        · rw [up3n (by decide), b1]; exact r1.symm
        · rw [up3]
          show _ = enX (min z (max y d))
          rw [enX_y (by omega), show d2 = min z (max y d) by omega]
    · rw [if_neg c1] at e1
      refine ⟨lup M1 245 (vp_updL (M1 245) 1 (lN d1)), ?_, ⟨?_, ?_, ?_⟩, fun w hw => by rw [lup_na hw]; exact ay w hw⟩
      · rw [e0, e1]
      · rw [up3n (by decide), a0]
        exact (enX_y (show min x d < 100000000 by omega)).symm
      · rw [up3]
        show _ = enX (min y (max x d))
        rw [enX_y (by omega), show d1 = min y (max x d) by omega]
      · rw [up3n (by decide), a2]
        show enX z = enX (min z (max y d))
        rw [show min z (max y d) = z by omega]
  · rw [if_neg c0] at e0
    refine ⟨lup M 245 (vp_updL (M 245) 0 (lN d)), e0, ⟨?_, ?_, ?_⟩, fun w hw => lup_na hw⟩
    · rw [up3]
      show _ = enX (min x d)
      rw [enX_y (by omega), show min x d = d by omega]
    · rw [up3n (by decide), m1]
      show enX y = enX (min y (max x d))
      rw [show min y (max x d) = y by omega]
    · rw [up3n (by decide), m2]
      show enX z = enX (min z (max y d))
      rw [show min z (max y d) = z by omega]
def frN (V W : Nat → Nat → Value) (I J : Nat → Nat → Int32) (L M : Nat → Nat → Int64) : Prop := (∀ a j, (a = 174 → ¬ j ∈ scT) → W a j = V a j) ∧ (∀ y, ¬ y ∈ siT → J y = I y) ∧ (∀ y, y ≠ 236 → y ≠ 237 → y ≠ 245 → M y = L y) ∧ (wt V → wt W)
theorem frN_r {V : Nat → Nat → Value} {I : Nat → Nat → Int32} {L : Nat → Nat → Int64} : frN V V I I L L := ⟨fun _ _ _ => rfl, fun _ _ => rfl, fun _ _ _ _ => rfl, id⟩
theorem frN_t {V W X : Nat → Nat → Value} {I J K : Nat → Nat → Int32} {L M N : Nat → Nat → Int64} (h1 : frN V W I J L M) (h2 : frN W X J K M N) : frN V X I K L N := ⟨fun a j h => (h2.1 a j h).trans (h1.1 a j h), fun y h => (h2.2.1 y h).trans (h1.2.1 y h), fun y a b c => (h2.2.2.1 y a b c).trans (h1.2.2.1 y a b c), fun w => h2.2.2.2 (h1.2.2.2 w)⟩
theorem frN_T {V W : Nat → Nat → Value} {I J : Nat → Nat → Int32} {L M : Nat → Nat → Int64} (h : frT V W I J L M) : frN V W I J L M := ⟨h.1, h.2.1, fun y a b _ => h.2.2.1 y a b, h.2.2.2⟩
theorem frN_l {V : Nat → Nat → Value} {I : Nat → Nat → Int32} {L M : Nat → Nat → Int64} (h : ∀ y, y ≠ 245 → M y = L y) : frN V V I I L M := ⟨fun _ _ _ => rfl, fun _ _ => rfl, fun y _ _ c => h y c, id⟩
theorem frN_k {V W : Nat → Nat → Value} {I J : Nat → Nat → Int32} {L M : Nat → Nat → Int64} (h : frN V W I J L M) : keepL V W I J L M := ⟨⟨fun a j hj => h.1 a j (fun e => by subst e; exact vrT j hj), fun y hy => h.2.1 y (irT y hy), h.2.2.2⟩, fun y hy => h.2.2.1 y (fun e => by subst e; revert hy; decide) (fun e => by subst e; revert hy; decide) (fun e => by subst e; revert hy; decide)⟩
set_option maxRecDepth 100000 in
set_option maxHeartbeats 1600000 in
/-- the end: what lies in the row is added up -/
theorem r_526e {V : Nat → Nat → Value} {I : Nat → Nat → Int32} {M : Nat → Nat → Int64} {R : Nat → Nat → Option Nat} {tl : am_H} {N c : Nat} {u : Nat × Nat × Nat} (hN : 5 < N) (h3 : rw3 M u) (ho : nvO (c - 1) u) (hc : 1 ≤ c) : fg_526_207 N N (.ref 174) 0 0 (fx V I M R ++ tl) = some (.inl (some (.long (lN (nvE c u))), (fx V I M R ++ tl))) := by
  obtain ⟨x, y, z⟩ := u
  obtain ⟨m0, m1, m2⟩ := h3
  obtain ⟨o1, o2, o3, o4, o5, o6⟩ := ho
  dsimp only at m0 m1 m2 o1 o2 o3 o4 o5 o6
  have st : ∀ (k K q e : Nat), k < 3 → M 245 k = enX e → fg_526_207 N (K + 1) (.ref 174) (lN q) (nI k) (fx V I M R ++ tl) = fg_526_207 N K (.ref 174) (lN (q + (if e < 100000000 then e else 0))) (nI (k + 1)) (fx V I M R ++ tl) := fun k K q e hk hm => by
    have a1 : am_pAL (.ref 245) (nI k) (fx V I M R ++ tl) = some (enX e) := (qa_245 hk).trans (by rw [hm])
    have n3 : ¬ (3 : Int32) ≤ nI k := nI_ge (b := 3) (by omega) (by decide)
    by_cases c : e < 100000000
    · rw [if_pos c]
      rw [enX_y c] at a1
      rw [fg_526_207]
      refine ev_f n3 (ev_b (a := Value.ref 245) rfl (ev_b a1 (ev_t (lz_y (by omega)).2 (ev_b (a := Value.ref 245) rfl (ev_b a1 ?_)))))
      unfold fg_526_237
      rw [lN_add, nI_1]
    · rw [if_neg c]
      rw [enX_n c] at a1
      rw [fg_526_207]
      refine ev_f n3 (ev_b (a := Value.ref 245) rfl (ev_b a1 (ev_f lz_n.2 ?_)))
      unfold fg_526_237
      rw [show (0 : Int64) = lN 0 from rfl, lN_add, nI_1]
  obtain ⟨K, rfl⟩ : ∃ k, N = k + 1 + 1 + 1 + 1 := ⟨N - 4, by omega⟩
  have e0 := st 0 (K + 1 + 1 + 1) 0 x (by decide) m0
  have e1 := st 1 (K + 1 + 1) (0 + (if x < 100000000 then x else 0)) y (by decide) m1
  have e2 := st 2 (K + 1) (0 + (if x < 100000000 then x else 0) + (if y < 100000000 then y else 0)) z (by decide) m2
  have es : 0 + (if x < 100000000 then x else 0) + (if y < 100000000 then y else 0) + (if z < 100000000 then z else 0) = nvE c (x, y, z) := by
    unfold nvE
    dsimp only
    have q : ∀ (P Q : Prop) [Decidable P] [Decidable Q] (w : Nat), (P ↔ ¬ Q) → (if P then w else 0) = (if Q then 0 else w) := fun P Q _ _ w h => by
      by_cases c : P
      · rw [if_pos c, if_neg (h.mp c)]
      · rw [if_neg c, if_pos (Decidable.of_not_not (fun hq => c (h.mpr hq)))]
    rw [q (x < 100000000) (c ≤ 1) x ⟨fun h => by have := o4.mp h; omega, fun h => o4.mpr (by omega)⟩, q (y < 100000000) (c ≤ 2) y ⟨fun h => by have := o5.mp h; omega, fun h => o5.mpr (by omega)⟩, q (z < 100000000) (c ≤ 3) z ⟨fun h => by have := o6.mp h; omega, fun h => o6.mpr (by omega)⟩]
    omega
  show fg_526_207 _ (K + 1 + 1 + 1 + 1) (.ref 174) (lN 0) (nI 0) _ = _
  rw [e0, e1, e2, es, fg_526_207]
  exact ev_t (by decide) rfl
set_option maxRecDepth 100000 in
set_option maxHeartbeats 1600000 in
theorem r_526l {R : Nat → Nat → Option Nat} {tl : am_H} {V0 : Nat → Nat → Value} {I0 : Nat → Nat → Int32} {N i c p m n lm : Nat} {Ob : Nat → Nat → Int32 × Nat × Int32} {bm : Nat → Nat} {D : Nat → Nat} (hD : ∀ x, D x = suN (dsN I0 (Ob (bm p)) (Ob (bm x))) m) (hN : 5000 < N) (hi : i < 4) (hc16 : c ≤ 16) (hn : n ≤ 600) (hp : p < c) (hlo : 10 ≤ lm) (hhi : lm ≤ 2000) (h6 : I0 206 0 = nI lm) (hB : ∀ b, b < n → bK R tl I0 b) (hO : oB I0 lm n m Ob) (hm : ∀ x, x < c → bm x < n) (h34 : ∀ x, x < c → I0 234 (16 * i + x) = nI (bm x)) (h33 : I0 233 i = nI c) : ∀ (t k K : Nat) (V : Nat → Nat → Value) (I : Nat → Nat → Int32) (L : Nat → Nat → Int64), k + t = c → t < K → wt V → keep V0 V I0 I → csK V I I0 m → rw3 L (nvL D p k) → ∃ W J M, fg_526_51 N K (.ref 174) (nI i) (nI p) (nI k) (fx V I L R ++ tl) = some (.inl (some (.long (lN (nvE c (nvL D p c)))), fx W J M R ++ tl)) ∧ frN V W I J L M := by
  intro t
  induction t with
  | zero =>
    intro k K V I L hk hK hw hkp hc h3
    obtain ⟨K, rfl⟩ : ∃ k, K = k + 1 := ⟨K - 1, by omega⟩
    obtain rfl : k = c := by omega
    have m24 := hc.2.2.1
    have ho := nvL_o (D := D) (p := p) (c := k) (fun x _ => by rw [hD]; exact dsS_lt m24) k (Nat.le_refl _)
    rw [show nvT p k = k - 1 from if_pos hp] at ho
    refine ⟨V, I, L, ?_, frN_r⟩
    rw [fg_526_51]
    exact ev_b (a := Value.ref 233) rfl (ev_b (a := nI k) ((qa_233 hi).trans (by rw [hkp.2.1 233 (by decide), h33])) (ev_t (nI_le (Nat.le_refl _) (by omega)) (r_526e (by omega) h3 ho (by omega))))
  | succ t ih =>
    intro k K V I L hk hK hw hkp hc h3
    obtain ⟨K, rfl⟩ : ∃ k, K = k + 1 := ⟨K - 1, by omega⟩
    have m24 := hc.2.2.1
    have a33 : am_pA 0 (.ref 233) (nI i) (fx V I L R ++ tl) = some (nI c) := (qa_233 hi).trans (by rw [hkp.2.1 233 (by decide), h33])
    have i34 : ∀ x, x < c → am_pA 0 (.ref 234) (nI (16 * i + x)) (fx V I L R ++ tl) = some (nI (bm x)) := fun x hx => (qa_234 (by omega)).trans (by rw [hkp.2.1 234 (by decide), h34 x hx])
    by_cases kp : k = p
    · obtain ⟨W, J, M, e, f'⟩ := ih (k + 1) K V I L (by omega) (by omega) hw hkp hc (by rw [nvL_p kp]; exact h3)
      refine ⟨W, J, M, ?_, f'⟩
      rw [fg_526_51]
      refine ev_b (a := Value.ref 233) rfl (ev_b a33 (ev_f (nI_ge (by omega) (by omega)) (ev_f (fun h => h (by rw [kp])) ?_)))
      unfold fg_526_196
      rw [nI_1]
      exact e
    · have ho := nvL_o (D := D) (p := p) (c := k) (fun x _ => by rw [hD]; exact dsS_lt m24) k (Nat.le_refl _)
      have dl : D k < 100000000 := by rw [hD]; exact dsS_lt m24
      obtain ⟨W1, J1, e1, f1⟩ := r_525 (V := V) (I := I) (L := L) (R := R) (tl := tl) (V0 := V0) (I0 := I0) (N := N) hN hn hlo hhi h6 hB hO (hm p hp) (hm k (by omega)) hw hkp hc
      rw [← hD k] at e1
      have k1 := (frT_k f1).1
      obtain ⟨M2, e2, r2, y2⟩ := r_526i (V := W1) (I := J1) (M := L) (R := R) (tl := tl) (N := N) (K := N) (i := i) (p := p) (k := k) (d := D k) (rc := fg_526_51 N K) (by omega) h3 ho dl (by omega)
      obtain ⟨W, J, M, e, f'⟩ := ih (k + 1) K W1 J1 M2 (by omega) (by omega) (k1.2.2 hw) (keep_t hkp k1) (csK_c k1 hc) (by rw [nvL_n kp]; exact r2)
      refine ⟨W, J, M, ?_, frN_t (frN_T f1) (frN_t (frN_l y2) f')⟩
      rw [fg_526_51]
      dsimp only
      rw [show (16 : Int32) * nI i + nI p = nI (16 * i + p) from nI_add' i 16 p, show (16 : Int32) * nI i + nI k = nI (16 * i + k) from nI_add' i 16 k]
      refine ev_b (a := Value.ref 233) rfl (ev_b a33 (ev_f (nI_ge (by omega) (by omega)) (ev_t (fun h => kp ((nI_eq (by omega) (by omega)).mp h)) (ev_b (a := Value.ref 234) rfl (ev_b (i34 p hp) (ev_b (a := Value.ref 234) rfl (ev_b (i34 k (by omega)) (ev_i rfl (ev_cL e1 ?_)))))))))
      exact e2.trans e
set_option maxRecDepth 100000 in
set_option maxHeartbeats 1600000 in
theorem r_526z {V : Nat → Nat → Value} {I : Nat → Nat → Int32} {R : Nat → Nat → Option Nat} {tl : am_H} {N i p : Nat} {L : Nat → Nat → Int64} (hN : 10 < N) : ∃ M, fg_526_29 N N (.ref 174) (nI i) (nI p) 0 (fx V I L R ++ tl) = fg_526_51 N N (.ref 174) (nI i) (nI p) 0 (fx V I M R ++ tl) ∧ rw3 M (100000000, 100000000, 100000000) ∧ ∀ y, y ≠ 245 → M y = L y := by
  have st : ∀ (k K : Nat) (M : Nat → Nat → Int64), k < 3 → fg_526_29 N (K + 1) (.ref 174) (nI i) (nI p) (nI k) (fx V I M R ++ tl) = fg_526_29 N K (.ref 174) (nI i) (nI p) (nI (k + 1)) (fx V I (lup M 245 (vp_updL (M 245) k (-1))) R ++ tl) := fun k K M hk => by
    rw [fg_526_29]
    refine ev_f (nI_ge (b := 3) (by omega) (by decide)) (ev_b (a := Value.ref 245) rfl (ev_b (qs_245 hk) ?_))
    rw [nI_1]
  obtain ⟨K, rfl⟩ : ∃ k, N = k + 1 + 1 + 1 + 1 := ⟨N - 4, by omega⟩
  obtain ⟨M1, h1⟩ : ∃ M1, M1 = lup L 245 (vp_updL (L 245) 0 (-1)) := ⟨_, rfl⟩
  obtain ⟨M2, h2⟩ : ∃ M2, M2 = lup M1 245 (vp_updL (M1 245) 1 (-1)) := ⟨_, rfl⟩
  have e0 := st 0 (K + 1 + 1 + 1) L (by decide)
  have e1 := st 1 (K + 1 + 1) M1 (by decide)
  have e2 := st 2 (K + 1) M2 (by decide)
  rw [← h1] at e0
  rw [← h2] at e1
  have eB : enX 100000000 = -1 := enX_n (by decide)
  refine ⟨lup M2 245 (vp_updL (M2 245) 2 (-1)), ?_, ⟨?_, ?_, ?_⟩, fun y hy => by rw [lup_na hy, h2, lup_na hy, h1, lup_na hy]⟩
  · show fg_526_29 _ (K + 1 + 1 + 1 + 1) (.ref 174) (nI i) (nI p) (nI 0) _ = _
    rw [e0, e1, e2, fg_526_29]
    exact ev_t (by decide) rfl
  · rw [up3n (by decide), h2, up3n (by decide), h1, up3]; exact eB.symm
  · rw [up3n (by decide), h2, up3]; exact eB.symm
  · rw [up3]; exact eB.symm
/-! novelty(island, place) -/
set_option maxRecDepth 100000 in
set_option maxHeartbeats 1600000 in
theorem u_41 {V : Nat → Nat → Value} {I : Nat → Nat → Int32} {L : Nat → Nat → Int64} {R : Nat → Nat → Option Nat} {tl : am_H} {n p j : Nat} (hr : rel V I L R tl n p) (hm : room tl n p j) {N : Nat} (hN : 5000 < N) (a1 a2 : Int32) : ∃ h', opBL (fm_247 N (.ref 0) a1 a2 (.ref 268) (fx V I L R ++ tl)) (fun h1 => fm_526 N (.ref 174) a1 a2 h1) vfI h' ∧ invW (j + 1) h' := by
  obtain ⟨b1, b2, b3⟩ := hr.1
  rcases dich a1 (n := 4) (by omega) with hn | ⟨i, hi, rfl⟩
  · refine ⟨_, opBL_err (c := 1) (b := 0) (by decide) (tl := tl ++ [am_dummy]) ?_ ?_, inv_mk (rel_thr 1 (rel_dum hr)) (room_dum hm)⟩
    · have e : fm_248 N (.ref 0) a1 a2 (fx V I L R ++ tl) = some (.inr (2, (fx V I L R ++ (tl ++ [am_dummy])))) := by
        unfold fm_248 fg_248_0
        refine ev_i rfl ?_
        rw [c_201n hn]
        rfl
      unfold fm_247 fg_247_0
      refine ev_i rfl ?_
      rw [e]
      rfl
    · show fm_526 N (.ref 174) a1 a2 (fx V I L R ++ (tl ++ [am_dummy])) = _
      unfold fm_526 fg_526_0
      refine ev_i rfl (ev_cI (r_501n hn) (ev_t rfl ?_))
      unfold fg_526_15
      exact ev_b qp_174_0 (ev_b (a := 1) rfl (ev_f (by decide) rfl))
  · obtain ⟨c, kd, bm, c16, s2, s3, s5⟩ := isl_ld hr hi
    rcases dich a2 (n := c) (by omega) with hn | ⟨k, hk, rfl⟩
    · refine ⟨_, opBL_err (c := 1) (b := 0) (by decide) (tl := tl ++ [am_dummy]) ?_ ?_, inv_mk (rel_thr 1 (rel_dum hr)) (room_dum hm)⟩
      · have e : fm_248 N (.ref 0) (nI i) a2 (fx V I L R ++ tl) = some (.inr (2, (fx V I L R ++ (tl ++ [am_dummy])))) := by
          unfold fm_248 fg_248_0
          refine ev_i rfl (ev_cR (c_201 hi) rfl (ev_i rfl ?_))
          rw [c_214n hi s2 hn]
          rfl
        unfold fm_247 fg_247_0
        refine ev_i rfl ?_
        rw [e]
        rfl
      · show fm_526 N (.ref 174) (nI i) a2 (fx V I L R ++ (tl ++ [am_dummy])) = _
        unfold fm_526 fg_526_0
        refine ev_i rfl (ev_cI (r_501 hi s3 (in_b (by omega) hn) (.inl rfl)) (ev_t rfl ?_))
        unfold fg_526_15
        exact ev_b qp_174_0 (ev_b (a := 1) rfl (ev_f (by decide) rfl))
    · obtain ⟨m, lm, Ob, hc, hB, hO, l16, l27, l6, lo, hi2⟩ := all_ld hr
      have hbn : ∀ x, x < c → bm x < n := fun x hx => (s5 x hx).1
      obtain ⟨q1, q2, q3, q4, a, it, f, q5, q6, q7⟩ := hB (bm k) (hbn k hk)
      obtain ⟨D, hD⟩ : ∃ D : Nat → Nat, ∀ x, D x = suN (dsN I (Ob (bm k)) (Ob (bm x))) m := ⟨_, fun _ => rfl⟩
      obtain ⟨W1, J1, e1, f1⟩ := c_248l (L := L) (R := R) (tl := tl) (I0 := I) (N := N) hD (by omega) hi c16 b1 hk lo hi2 hB hO hbn q6 q7 c 0 N V I (by omega) (by omega) (rel_w hr) hc b2 s2 (fun x hx => (s5 x hx).2.1) l16 l27
      have k1 := frD_k f1
      have k4 := keep_t k1 (keep_0 (V := W1) (I := J1) (x := 0))
      obtain ⟨v, hv⟩ : ∃ v, v = lN (nvE c (nvL D k c)) := ⟨_, rfl⟩
      obtain ⟨M2, e2, r2, y2⟩ := r_526z (V := vup W1 174 0 (.int 0)) (I := J1) (L := outL L v) (R := R) (tl := tl) (N := N) (i := i) (p := k) (by omega)
      obtain ⟨W3, J3, M3, e3, f3⟩ := r_526l (R := R) (tl := tl) (V0 := V) (I0 := I) (N := N) hD hN hi c16 b1 hk lo hi2 l6 hB hO hbn (fun x hx => (s5 x hx).2.2.1) s3 c 0 N (vup W1 174 0 (.int 0)) J1 M2 (by omega) (by omega) (k4.2.2 (rel_w hr)) k4 (csK_c k4 hc) r2
      have f4 := frN_t (frN_l (V := vup W1 174 0 (.int 0)) (I := J1) y2) f3
      rw [← hv] at e1 e3
      have hr1 : rel W1 J1 L R tl n p := rel_k k1 hr
      refine ⟨_, opBL_g (v := v) (W := W1) (J := J1) (M := outL L v) (R1 := R) (t1 := tl) (W' := W3) (J' := J3) (M' := M3) (R2 := R) (t2 := tl) ?_ ?_ ?_ ?_, inv_mk (rel_kl (frN_k f4) (rel_ol _ (rel_thr 0 hr1))) (room_up hm)⟩
      · have e : fm_248 N (.ref 0) (nI i) (nI k) (fx V I L R ++ tl) = some (.inl (some (.long v), fx W1 J1 L R ++ tl)) := by
          have i41 : I (41 + 9 * i) k = nI (bm k) := (s5 k hk).2.1
          have e14 := c_214 (V := V) (I := I) (L := L) (R := R) (tl := tl) hi c16 s2 hk
          rw [i41] at e14
          unfold fm_248 fg_248_0
          exact ev_i rfl (ev_cR (c_201 hi) rfl (ev_i rfl (ev_cI e14 (ev_i rfl (ev_cR (c_63 b2 b1 (hbn k hk) q5) rfl e1)))))
        unfold fm_247 fg_247_0
        refine ev_i rfl ?_
        rw [e]
        exact ev_b out_s rfl
      · show fm_526 N (.ref 174) (nI i) (nI k) (fx W1 J1 (outL L v) R ++ tl) = _
        unfold fm_526 fg_526_0
        refine ev_i rfl (ev_cI (r_501 hi (by rw [k1.2.1 233 (by decide)]; exact s3) (in_n hk (by omega)) (.inr rfl)) (ev_f (by decide) ?_))
        unfold fg_526_15
        exact ev_b qp_174_0 (ev_b (a := 0) rfl (ev_t (by decide) (e2.trans e3)))
      · rw [f4.1 174 0 (fun _ => by decide)]
        exact vup_eq
      · rw [f4.2.2.1 268 (by decide) (by decide) (by decide)]
        exact outL_at
