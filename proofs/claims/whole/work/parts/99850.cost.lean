/-! ===== costs and weights ===== -/
def suN (g : Nat → Nat) : Nat → Nat
  | 0 => 0
  | m + 1 => suN g m + g m
theorem suN_le {g : Nat → Nat} {c : Nat} : ∀ m, (∀ k, k < m → g k ≤ c) → suN g m ≤ c * m := by
  intro m
  induction m with
  | zero => intro _; exact Nat.le_refl _
  | succ m ih =>
    intro h
    have h1 := ih (fun k hk => h k (by omega))
    have h2 := h m (by omega)
    show suN g m + g m ≤ c * (m + 1)
    rw [Nat.mul_succ]
    omega
/-- the cases, as they were -/
def csK (V : Nat → Nat → Value) (I I0 : Nat → Nat → Int32) (m : Nat) : Prop := V 14 1 = .int (nI m) ∧ V 174 31 = .int (nI m) ∧ m ≤ 24 ∧ I 15 = I0 15 ∧ (∀ y, 197 ≤ y → y ≤ 204 → I y = I0 y) ∧ ∀ k, k < m → cOk I0 k
theorem csK_c {V W : Nat → Nat → Value} {I J I0 : Nat → Nat → Int32} {m : Nat} (k : keep V W I J) (h : csK V I I0 m) : csK W J I0 m := ⟨(k.1 14 1 (by decide)).trans h.1, (k.1 174 31 (by decide)).trans h.2.1, h.2.2.1, (keep_c k).1.trans h.2.2.2.1, fun y a b => ((keep_c k).2 y a b).trans (h.2.2.2.2.1 y a b), h.2.2.2.2.2⟩
theorem csK_r {V : Nat → Nat → Value} {I : Nat → Nat → Int32} {L : Nat → Nat → Int64} {R : Nat → Nat → Option Nat} {tl : am_H} {n p : Nat} (h : rel V I L R tl n p) : ∃ m, csK V I I m := by
  obtain ⟨m, m1, m2, m3, m4⟩ := h.2.2.2.1
  exact ⟨m, m2, m3, m1, rfl, fun _ _ _ => rfl, m4⟩
def wgN (I0 : Nat → Nat → Int32) (k : Nat) : Nat := clN (I0 201) k
theorem wg_at {I0 : Nat → Nat → Int32} {k : Nat} (hc : cOk I0 k) : 1 ≤ wgN I0 k ∧ wgN I0 k ≤ 9 ∧ I0 201 k = nI (wgN I0 k) ∧ I0 15 (15 * k + 4) = nI (wgN I0 k) := by
  obtain ⟨-, -, -, -, ⟨w, w1, w9, e1, e2⟩, -⟩ := hc
  have e : wgN I0 k = w := clN_at e1 (by omega)
  rw [e]
  exact ⟨w1, w9, e1, e2⟩
def cgN (I0 : Nat → Nat → Int32) (h : Int32) (Oc : Nat → Int32 × Nat × Int32) (k : Nat) : Nat := if I0 202 k = h then wgN I0 k * erN (Oc k) (I0 200 k) else 0
def wzN (I0 : Nat → Nat → Int32) (h : Int32) (k : Nat) : Nat := if I0 202 k = h then wgN I0 k else 0
def ctN (I0 : Nat → Nat → Int32) (h : Int32) (Oc : Nat → Int32 × Nat × Int32) (m : Nat) : Nat := suN (cgN I0 h Oc) m
def wsN (I0 : Nat → Nat → Int32) (h : Int32) (m : Nat) : Nat := if suN (wzN I0 h) m = 0 then 1 else suN (wzN I0 h) m
theorem ctN_le {I0 : Nat → Nat → Int32} {h : Int32} {Oc : Nat → Int32 × Nat × Int32} {m : Nat} (hm : m ≤ 24) (hc : ∀ k, k < m → cOk I0 k) : ctN I0 h Oc m ≤ 432000000 := by
  have := suN_le (g := cgN I0 h Oc) (c := 18000000) m (fun k hk => by
    unfold cgN
    by_cases c : I0 202 k = h
    · rw [if_pos c]
      exact Nat.mul_le_mul (wg_at (hc k hk)).2.1 (erN_le _ _)
    · rw [if_neg c]; exact Nat.zero_le _)
  unfold ctN
  omega
theorem wzN_le {I0 : Nat → Nat → Int32} {h : Int32} {m : Nat} (hm : m ≤ 24) (hc : ∀ k, k < m → cOk I0 k) : suN (wzN I0 h) m ≤ 216 := by
  have := suN_le (g := wzN I0 h) (c := 9) m (fun k hk => by
    unfold wzN
    by_cases c : I0 202 k = h
    · rw [if_pos c]
      exact (wg_at (hc k hk)).2.1
    · rw [if_neg c]; exact Nat.zero_le _)
  omega
theorem wsN_le {I0 : Nat → Nat → Int32} {h : Int32} {m : Nat} (hm : m ≤ 24) (hc : ∀ k, k < m → cOk I0 k) : 1 ≤ wsN I0 h m ∧ wsN I0 h m ≤ 216 := by
  have := wzN_le (h := h) hm hc
  unfold wsN
  by_cases c : suN (wzN I0 h) m = 0
  · rw [if_pos c]; omega
  · rw [if_neg c]; omega
set_option maxRecDepth 100000 in
set_option maxHeartbeats 1600000 in
theorem c_141 {V : Nat → Nat → Value} {I : Nat → Nat → Int32} {L : Nat → Nat → Int64} {R : Nat → Nat → Option Nat} {tl : am_H} {k : Nat} {h : Int32} (hk : k < 24) (hc : cOk I k) (hh : h = 0 ∨ h = 1) : fm_141 (.ref 14) (nI k) h (fx V I L R ++ tl) = some (.inl (some (.int (if I 202 k = h then 1 else 0)), (fx V I L R ++ tl))) := by
  obtain ⟨-, -, -, -, -, ⟨d, d1, e1, e2⟩, -⟩ := hc
  unfold fm_141 fg_141_0
  refine ev_i rfl (ev_cI (c_112 (w := 5) hk (by omega)) ?_)
  rw [e2, e1]
  rcases (by omega : d = 0 ∨ d = 1) with rfl | rfl
  · refine ev_t rfl ?_
    unfold fg_141_14
    rcases hh with rfl | rfl
    · exact ev_f (fun e => e rfl) rfl
    · exact ev_t (by decide) rfl
  · refine ev_f (by decide) ?_
    unfold fg_141_14
    rcases hh with rfl | rfl
    · exact ev_t (by decide) rfl
    · exact ev_f (fun e => e rfl) rfl
/-- what judging may change -/
def frG (V W : Nat → Nat → Value) (I J : Nat → Nat → Int32) : Prop := (∀ a j, a ≠ 16 → ¬ (a = 17 ∧ j = 7) → W a j = V a j) ∧ W 16 0 = V 16 0 ∧ (∀ y, y ≠ 18 → y ≠ 25 → y ≠ 26 → J y = I y) ∧ (wt V → wt W)
theorem frG_r {V : Nat → Nat → Value} {I : Nat → Nat → Int32} : frG V V I I := ⟨fun _ _ _ _ => rfl, rfl, fun _ _ _ _ => rfl, id⟩
theorem frG_t {V W X : Nat → Nat → Value} {I J K : Nat → Nat → Int32} (h1 : frG V W I J) (h2 : frG W X J K) : frG V X I K := ⟨fun a j p q => (h2.1 a j p q).trans (h1.1 a j p q), h2.2.1.trans h1.2.1, fun y a b c => (h2.2.2.1 y a b c).trans (h1.2.2.1 y a b c), fun w => h2.2.2.2 (h1.2.2.2 w)⟩
theorem frG_P {V W : Nat → Nat → Value} {I J : Nat → Nat → Int32} (h : frP V W I J) : frG V W I J := ⟨fun a j p _ => h.1 a j p, h.2.1, fun y _ b c => h.2.2.2.1 y b c, h.2.2.2.2⟩
theorem frG_L {V W : Nat → Nat → Value} {I J : Nat → Nat → Int32} (h : frL V W I J) : frG V W I J := ⟨fun a j p q => h.1 a j (fun e => p e.1) q, h.1 16 0 (by decide) (by decide), fun y a _ _ => h.2.1 y a, h.2.2⟩
theorem frG_k {V W : Nat → Nat → Value} {I J : Nat → Nat → Int32} (h : frG V W I J) : keep V W I J := ⟨fun a j hj => by
    by_cases c : a = 16
    · subst c
      have e : j = 0 := vr16 j hj
      subst e
      exact h.2.1
    · exact h.1 a j c (fun e => by
        obtain ⟨e1, e2⟩ := e
        subst e1
        exact vr17 j hj), fun y hy => h.2.2.1 y (fun e => by subst e; revert hy; decide) (fun e => by subst e; revert hy; decide) (fun e => by subst e; revert hy; decide), h.2.2.2⟩
set_option maxRecDepth 100000 in
set_option maxHeartbeats 1600000 in
theorem c_140l {L : Nat → Nat → Int64} {R : Nat → Nat → Option Nat} {tl : am_H} {I0 : Nat → Nat → Int32} {N a it kd ln sz m0 lm m : Nat} {fi s v : Nat → Int32} {Oc : Nat → Int32 × Nat × Int32} {h : Int32} (hN : 100 < N) (hh : h = 0 ∨ h = 1) (hO : ∀ k, k < m → cO kd ln sz s v lm I0 k (Oc k)) : ∀ (q k K : Nat) (V : Nat → Nat → Value) (I : Nat → Nat → Int32), k + q = m → q < K → wt V → ldC V I tl a it kd ln sz m0 fi s v lm → csK V I I0 m → ∃ W J, fg_140_13 N K (.ref 14) h (lN (suN (cgN I0 h Oc) k)) (nI k) (fx V I L R ++ tl) = some (.inl (some (.long (lN (suN (cgN I0 h Oc) m))), fx W J L R ++ tl)) ∧ frP V W I J := by
  intro q
  induction q with
  | zero =>
    intro k K V I hk hK hw hl hc
    obtain ⟨K, rfl⟩ : ∃ k, K = k + 1 := ⟨K - 1, by omega⟩
    obtain rfl : k = m := by omega
    refine ⟨V, I, ?_, frP_r⟩
    rw [fg_140_13]
    exact ev_b (rdI hc.1) (ev_t (nI_le (Nat.le_refl _) (by have := hc.2.2.1; omega)) rfl)
  | succ q ih =>
    intro k K V I hk hK hw hl hc
    obtain ⟨K, rfl⟩ : ∃ k, K = k + 1 := ⟨K - 1, by omega⟩
    have hc' := hc
    obtain ⟨v1, v2, m24, i15, i197, cok⟩ := hc
    have ck := cOk_c i15 i197 (cok k (by omega))
    have e41 := c_141 (V := V) (I := I) (L := L) (R := R) (tl := tl) (k := k) (h := h) (by omega) ck hh
    rw [i197 202 (by omega) (by omega)] at e41
    by_cases c : I0 202 k = h
    · rw [if_pos c] at e41
      obtain ⟨W, J, e3, f3⟩ := c_133 (L := L) (R := R) hN hw hl (show k < 24 by omega) ck (cO_c i197 (hO k (by omega)))
      rw [i197 200 (by omega) (by omega)] at e3
      have k3 := frP_k f3
      obtain ⟨W', J', e', f'⟩ := ih (k + 1) K W J (by omega) (by omega) (k3.2.2 hw) (ldC_c f3 hl) (csK_c k3 hc')
      refine ⟨W', J', ?_, frP_t f3 f'⟩
      have ew := wg_at (cok k (by omega))
      have es : suN (cgN I0 h Oc) (k + 1) = suN (cgN I0 h Oc) k + wgN I0 k * erN (Oc k) (I0 200 k) := by
        show _ + cgN I0 h Oc k = _
        unfold cgN
        rw [if_pos c]
      have el := erN_le (Oc k) (I0 200 k)
      rw [es] at e'
      rw [fg_140_13]
      refine ev_b (rdI v1) (ev_f (nI_ge (by omega) (by omega)) (ev_i rfl (ev_cI e41 (ev_f (by decide) (ev_i rfl (ev_cI (c_112 (w := 4) (by omega) (by omega)) (ev_i rfl (ev_cI e3 ?_))))))))
      unfold fg_140_51
      rw [show I 15 (15 * k + 4) = nI (wgN I0 k) by rw [i15]; exact ew.2.2.2, nI_l (by omega), nI_l (by omega), lN_mul, lN_add, nI_1]
      exact e'
    · rw [if_neg c] at e41
      obtain ⟨W', J', e', f'⟩ := ih (k + 1) K V I (by omega) (by omega) hw hl hc'
      refine ⟨W', J', ?_, f'⟩
      have es : suN (cgN I0 h Oc) (k + 1) = suN (cgN I0 h Oc) k := by
        show _ + cgN I0 h Oc k = _
        unfold cgN
        rw [if_neg c, Nat.add_zero]
      rw [es] at e'
      rw [fg_140_13]
      refine ev_b (rdI v1) (ev_f (nI_ge (by omega) (by omega)) (ev_i rfl (ev_cI e41 (ev_t rfl ?_))))
      unfold fg_140_51
      rw [nI_1]
      exact e'
set_option maxRecDepth 100000 in
set_option maxHeartbeats 1600000 in
theorem c_140 {V : Nat → Nat → Value} {I : Nat → Nat → Int32} {L : Nat → Nat → Int64} {R : Nat → Nat → Option Nat} {tl : am_H} {I0 : Nat → Nat → Int32} {N a it kd ln sz m0 lm m : Nat} {fi s v : Nat → Int32} {Oc : Nat → Int32 × Nat × Int32} {h : Int32} (hN : 100 < N) (hw : wt V) (hp : prA V I tl a it kd ln sz m0 fi) (hne : a ≠ 16 ∧ a ≠ 17 ∧ it ≠ 18 ∧ it ≠ 25 ∧ it ≠ 26) (hi : itm kd s v sz fi) (hs : sound kd ln sz s v) (hm0 : sz * wdN kd ≤ m0) (hm1 : m0 ≤ 1000) (h0 : V 16 0 = .int (nI lm)) (hlo : 10 ≤ lm) (hhi : lm ≤ 2000) (hh : h = 0 ∨ h = 1) (hc : csK V I I0 m) (hO : ∀ k, k < m → cO kd ln sz s v lm I0 k (Oc k)) : ∃ W J, fm_140 N (.ref 14) (.ref a) h (fx V I L R ++ tl) = some (.inl (some (.long (lN (ctN I0 h Oc m))), fx W J L R ++ tl)) ∧ frG V W I J := by
  obtain ⟨W, J, e1, g1, f1⟩ := c_115 (L := L) (R := R) hN hp hne hi hs hm0 hm1 h0 hlo hhi
  have k1 := frL_k f1
  obtain ⟨W', J', e2, f2⟩ := c_140l (L := L) (R := R) (tl := tl) hN hh hO m 0 N W J (by omega) (by have := hc.2.2.1; omega) (k1.2.2 hw) g1 (csK_c k1 hc)
  refine ⟨W', J', ?_, frG_t (frG_L f1) (frG_P f2)⟩
  unfold fm_140 fg_140_0
  exact ev_b (a := Value.ref 16) rfl (ev_i rfl (ev_cV e1 e2))
set_option maxRecDepth 100000 in
set_option maxHeartbeats 1600000 in
theorem c_142l {V : Nat → Nat → Value} {I : Nat → Nat → Int32} {L : Nat → Nat → Int64} {R : Nat → Nat → Option Nat} {tl : am_H} {I0 : Nat → Nat → Int32} {N m : Nat} {h : Int32} (hh : h = 0 ∨ h = 1) (hc : csK V I I0 m) : ∀ (q k K : Nat), k + q = m → q < K → fg_142_5 N K (.ref 14) h (lN (suN (wzN I0 h) k)) (nI k) (fx V I L R ++ tl) = some (.inl (some (.long (lN (wsN I0 h m))), (fx V I L R ++ tl))) := by
  obtain ⟨v1, v2, m24, i15, i197, cok⟩ := hc
  intro q
  induction q with
  | zero =>
    intro k K hk hK
    obtain ⟨K, rfl⟩ : ∃ k, K = k + 1 := ⟨K - 1, by omega⟩
    obtain rfl : k = m := by omega
    rw [fg_142_5]
    refine ev_b (rdI v1) (ev_t (nI_le (Nat.le_refl _) (by omega)) ?_)
    have hb := wzN_le (h := h) m24 cok
    unfold wsN
    by_cases c : suN (wzN I0 h) k = 0
    · rw [if_pos c, c]
      exact ev_t (by decide) rfl
    · rw [if_neg c]
      refine ev_f (fun e => ?_) rfl
      have := (lg_cmp_le _ _).mp e
      rw [Int64.le_iff_toInt_le, lN_t (by omega)] at this
      have z : (0 : Int64).toInt = 0 := by decide
      omega
  | succ q ih =>
    intro k K hk hK
    obtain ⟨K, rfl⟩ : ∃ k, K = k + 1 := ⟨K - 1, by omega⟩
    have ck := cOk_c i15 i197 (cok k (by omega))
    have e41 := c_141 (V := V) (I := I) (L := L) (R := R) (tl := tl) (k := k) (h := h) (by omega) ck hh
    rw [i197 202 (by omega) (by omega)] at e41
    have e' := ih (k + 1) K (by omega) (by omega)
    rw [fg_142_5]
    by_cases c : I0 202 k = h
    · rw [if_pos c] at e41
      have ew := wg_at (cok k (by omega))
      have es : suN (wzN I0 h) (k + 1) = suN (wzN I0 h) k + wgN I0 k := by
        show _ + wzN I0 h k = _
        unfold wzN
        rw [if_pos c]
      rw [es] at e'
      refine ev_b (rdI v1) (ev_f (nI_ge (by omega) (by omega)) (ev_i rfl (ev_cI e41 (ev_f (by decide) (ev_i rfl (ev_cI (c_112 (w := 4) (by omega) (by omega)) ?_))))))
      unfold fg_142_35
      rw [show I 15 (15 * k + 4) = nI (wgN I0 k) by rw [i15]; exact ew.2.2.2, nI_l (by omega), lN_add, nI_1]
      exact e'
    · rw [if_neg c] at e41
      have es : suN (wzN I0 h) (k + 1) = suN (wzN I0 h) k := by
        show _ + wzN I0 h k = _
        unfold wzN
        rw [if_neg c, Nat.add_zero]
      rw [es] at e'
      refine ev_b (rdI v1) (ev_f (nI_ge (by omega) (by omega)) (ev_i rfl (ev_cI e41 (ev_t rfl ?_))))
      unfold fg_142_35
      rw [nI_1]
      exact e'
theorem c_142 {V : Nat → Nat → Value} {I : Nat → Nat → Int32} {L : Nat → Nat → Int64} {R : Nat → Nat → Option Nat} {tl : am_H} {I0 : Nat → Nat → Int32} {N m : Nat} {h : Int32} (hN : 100 < N) (hh : h = 0 ∨ h = 1) (hc : csK V I I0 m) : fm_142 N (.ref 14) h (fx V I L R ++ tl) = some (.inl (some (.long (lN (wsN I0 h m))), (fx V I L R ++ tl))) := by
  unfold fm_142 fg_142_0
  exact c_142l hh hc m 0 N (by omega) (by have := hc.2.2.1; omega)
/-! ===== the reference judges ===== -/
def scJ : List Nat := [48, 49, 50, 51, 52, 53, 54, 58, 59, 65, 66, 91, 92]
def frJ (V W : Nat → Nat → Value) (I J : Nat → Nat → Int32) : Prop := (∀ a j, (a = 174 → ¬ j ∈ scJ) → W a j = V a j) ∧ (∀ y, ¬ y ∈ siR → J y = I y) ∧ (wt V → wt W)
theorem frJ_r {V : Nat → Nat → Value} {I : Nat → Nat → Int32} : frJ V V I I := ⟨fun _ _ _ => rfl, fun _ _ => rfl, id⟩
theorem frJ_t {V W X : Nat → Nat → Value} {I J K : Nat → Nat → Int32} (h1 : frJ V W I J) (h2 : frJ W X J K) : frJ V X I K := ⟨fun a j h => (h2.1 a j h).trans (h1.1 a j h), fun y h => (h2.2.1 y h).trans (h1.2.1 y h), fun w => h2.2.2 (h1.2.2 w)⟩
theorem scRJ {j : Nat} (h : ¬ j ∈ scJ) : ¬ j ∈ scR := fun e => h (by
  have key : ∀ j, j ∈ scR → j ∈ scJ := by decide
  exact key j e)
theorem frJ_Q {V W : Nat → Nat → Value} {I J : Nat → Nat → Int32} (h : frQ V W I J) : frJ V W I J := ⟨fun a j hj => h.1 a j (fun e => scRJ (hj e)), h.2.1, h.2.2⟩
theorem frJ_91 {V : Nat → Nat → Value} {I : Nat → Nat → Int32} {x : Int64} : frJ V (vup V 174 91 (.long x)) I I := ⟨fun a j hj => by
    by_cases c : a = 174
    · subst c
      exact vup_nj (fun e => by subst e; exact hj rfl (by decide))
    · exact vup_na c, fun _ _ => rfl, fun h => wt_l h (by decide)⟩
theorem frJ_92 {V : Nat → Nat → Value} {I : Nat → Nat → Int32} {x : Int64} : frJ V (vup V 174 92 (.long x)) I I := ⟨fun a j hj => by
    by_cases c : a = 174
    · subst c
      exact vup_nj (fun e => by subst e; exact hj rfl (by decide))
    · exact vup_na c, fun _ _ => rfl, fun h => wt_l h (by decide)⟩
theorem vr174j : ∀ j, j ∈ vRel 174 → ¬ j ∈ scJ := by decide
theorem frJ_k {V W : Nat → Nat → Value} {I J : Nat → Nat → Int32} (h : frJ V W I J) : keep V W I J := ⟨fun a j hj => h.1 a j (fun e => by subst e; exact vr174j j hj), fun y hy => h.2.1 y (ir174 y hy), h.2.2⟩
theorem ldR_j {V W : Nat → Nat → Value} {I J : Nat → Nat → Int32} {kd ln sz lm : Nat} {s v : Nat → Int32} (hf : frJ V W I J) (h : ldR V I kd ln sz s v lm) : ldR W J kd ln sz s v lm := by
  obtain ⟨d13, d14, d15, dsv, hs, h6, hlo, hhi⟩ := h
  refine ⟨(hf.1 174 13 (fun _ => by decide)).trans d13, (hf.1 174 14 (fun _ => by decide)).trans d14, fun e => (hf.1 174 15 (fun _ => by decide)).trans (d15 e), ?_, hs, ?_, hlo, hhi⟩
  · rw [hf.2.1 186 (by decide), hf.2.1 187 (by decide)]
    exact dsv
  · rw [hf.2.1 206 (by decide)]
    exact h6
set_option maxRecDepth 100000 in
set_option maxHeartbeats 1600000 in
theorem r_428e {V : Nat → Nat → Value} {I : Nat → Nat → Int32} {L : Nat → Nat → Int64} {R : Nat → Nat → Option Nat} {tl : am_H} {I0 : Nat → Nat → Int32} {N m : Nat} {h : Int32} {Oc : Nat → Int32 × Nat × Int32} (hN : 200 < N) (m24 : m ≤ 24) (cok : ∀ k, k < m → cOk I0 k) (h91 : V 174 91 = .long (lN (ctN I0 h Oc m))) (h92 : V 174 92 = .long (lN (suN (wzN I0 h) m))) : ((am_vL (am_pG 3164 (.ref 174) (fx V I L R ++ tl))).bind fun v4 => (if ¬ (lg_cmp v4 0) = 0 then ((am_vL (am_pG 3164 (.ref 174) (fx V I L R ++ tl))).bind fun v7 => (fg_428_95 N (.ref 174) (.ref 174) v7 (fx V I L R ++ tl))) else (fg_428_95 N (.ref 174) (.ref 174) 1 (fx V I L R ++ tl)))) = some (.inl (none, fx (vup (vup (vup V 174 92 (.long (lN (wsN I0 h m)))) 174 91 (.long (Int64.ofInt ((ctN I0 h Oc m : Int).tdiv (gdN (ctN I0 h Oc m : Int) (wsN I0 h m)))))) 174 92 (.long (lN (wsN I0 h m / gdN (ctN I0 h Oc m : Int) (wsN I0 h m))))) I L R ++ tl)) := by
  have hb := wzN_le (h := h) m24 cok
  have hw := wsN_le (h := h) m24 cok
  have hct := ctN_le (h := h) (Oc := Oc) m24 cok
  have k : fg_428_95 N (.ref 174) (.ref 174) (lN (wsN I0 h m)) (fx V I L R ++ tl) = some (.inl (none, fx (vup (vup (vup V 174 92 (.long (lN (wsN I0 h m)))) 174 91 (.long (Int64.ofInt ((ctN I0 h Oc m : Int).tdiv (gdN (ctN I0 h Oc m : Int) (wsN I0 h m)))))) 174 92 (.long (lN (wsN I0 h m / gdN (ctN I0 h Oc m : Int) (wsN I0 h m))))) I L R ++ tl)) := by
    unfold fg_428_95
    exact ev_b qp_174_92 (ev_i rfl (ev_cV (r_429 (V := vup V 174 92 (.long (lN (wsN I0 h m)))) (t := (ctN I0 h Oc m : Int)) (d := wsN I0 h m) hN ((vup_nj (by decide)).trans h91) vup_eq (lN_t (by omega)) (by omega) (by omega) (by omega) (by omega)) rfl))
  refine ev_b (rdL h92) ?_
  by_cases c : suN (wzN I0 h) m = 0
  · have ew : wsN I0 h m = 1 := if_pos c
    rw [ew] at k ⊢
    exact ev_f (fun e => e ((lN_cz (by omega)).mpr c)) k
  · have ew : wsN I0 h m = suN (wzN I0 h) m := if_neg c
    rw [ew] at k ⊢
    exact ev_t (fun e => c ((lN_cz (by omega)).mp e)) (ev_b (rdL h92) k)
set_option maxRecDepth 100000 in
set_option maxHeartbeats 1600000 in
theorem r_428l {L : Nat → Nat → Int64} {R : Nat → Nat → Option Nat} {tl : am_H} {I0 : Nat → Nat → Int32} {N kd ln sz lm m : Nat} {s v : Nat → Int32} {Oc : Nat → Int32 × Nat × Int32} {h : Int32} (hN : 5000 < N) (hO : ∀ k, k < m → cO kd ln sz s v lm I0 k (Oc k)) : ∀ (q k K : Nat) (V : Nat → Nat → Value) (I : Nat → Nat → Int32), k + q = m → q < K → wt V → ldR V I kd ln sz s v lm → csK V I I0 m → V 174 91 = .long (lN (suN (cgN I0 h Oc) k)) → V 174 92 = .long (lN (suN (wzN I0 h) k)) → ∃ W J, fg_428_12 N K (.ref 174) h (nI k) (fx V I L R ++ tl) = some (.inl (none, fx W J L R ++ tl)) ∧ W 174 91 = .long (Int64.ofInt ((ctN I0 h Oc m : Int).tdiv (gdN (ctN I0 h Oc m : Int) (wsN I0 h m)))) ∧ W 174 92 = .long (lN (wsN I0 h m / gdN (ctN I0 h Oc m : Int) (wsN I0 h m))) ∧ frJ V W I J := by
  intro q
  induction q with
  | zero =>
    intro k K V I hk hK hw hd hc h91 h92
    obtain ⟨K, rfl⟩ : ∃ k, K = k + 1 := ⟨K - 1, by omega⟩
    obtain rfl : k = m := by omega
    have e := r_428e (V := V) (I := I) (L := L) (R := R) (tl := tl) (N := N) (by omega) hc.2.2.1 hc.2.2.2.2.2 h91 h92
    refine ⟨vup (vup (vup V 174 92 (.long (lN (wsN I0 h k)))) 174 91 (.long (Int64.ofInt ((ctN I0 h Oc k : Int).tdiv (gdN (ctN I0 h Oc k : Int) (wsN I0 h k)))))) 174 92 (.long (lN (wsN I0 h k / gdN (ctN I0 h Oc k : Int) (wsN I0 h k)))), I, ?_, (vup_nj (by decide)).trans vup_eq, vup_eq, frJ_t frJ_92 (frJ_t frJ_91 frJ_92)⟩
    rw [fg_428_12]
    exact ev_b (rdI hc.2.1) (ev_t (nI_le (Nat.le_refl _) (by have := hc.2.2.1; omega)) e)
  | succ q ih =>
    intro k K V I hk hK hw hd hc h91 h92
    obtain ⟨K, rfl⟩ : ∃ k, K = k + 1 := ⟨K - 1, by omega⟩
    have hc' := hc
    obtain ⟨v1, v2, m24, i15, i197, cok⟩ := hc
    have ew := wg_at (cok k (by omega))
    have r2 : am_pA 2 (.ref 202) (nI k) (fx V I L R ++ tl) = some (I0 202 k) := (qa_202 (by omega)).trans (by rw [i197 202 (by omega) (by omega)])
    by_cases c : I0 202 k = h
    · obtain ⟨W, J, e3, f3⟩ := r_425 (L := L) (R := R) (tl := tl) hN hw hd (show k < 24 by omega) (cO_c i197 (hO k (by omega)))
      rw [i197 200 (by omega) (by omega)] at e3
      have el := erN_le (Oc k) (I0 200 k)
      have j201 : J 201 k = nI (wgN I0 k) := by
        rw [f3.2.1 201 (by decide), i197 201 (by omega) (by omega)]
        exact ew.2.2.1
      have fj := frJ_t (frJ_Q f3) (frJ_t (frJ_91 (V := W) (I := J) (x := lN (suN (cgN I0 h Oc) (k + 1)))) (frJ_92 (x := lN (suN (wzN I0 h) (k + 1)))))
      obtain ⟨W', J', e', y1, y2, f'⟩ := ih (k + 1) K _ J (by omega) (by omega) (fj.2.2 hw) (ldR_j fj hd) (csK_c (frJ_k fj) hc') ((vup_nj (by decide)).trans vup_eq) vup_eq
      refine ⟨W', J', ?_, y1, y2, frJ_t fj f'⟩
      have es : suN (cgN I0 h Oc) (k + 1) = suN (cgN I0 h Oc) k + wgN I0 k * erN (Oc k) (I0 200 k) := by
        show _ + cgN I0 h Oc k = _
        unfold cgN
        rw [if_pos c]
      have ez : suN (wzN I0 h) (k + 1) = suN (wzN I0 h) k + wgN I0 k := by
        show _ + wzN I0 h k = _
        unfold wzN
        rw [if_pos c]
      rw [fg_428_12]
      refine ev_b (rdI v2) (ev_f (nI_ge (by omega) (by omega)) (ev_b (a := Value.ref 202) rfl (ev_b r2 (ev_t c (ev_b (rdL h91) (ev_b (a := Value.ref 201) rfl (ev_b (a := nI (wgN I0 k)) ((qa_201 (by omega)).trans (by rw [i197 201 (by omega) (by omega), ew.2.2.1])) (ev_i rfl (ev_cL e3 ?_)))))))))
      rw [nI_l (by omega), lN_mul, lN_add, ← es]
      refine ev_b qp_174_91 (ev_b (a := lN (suN (wzN I0 h) k)) (by show am_vL (some (W 174 92)) = _; rw [f3.1 174 92 (fun _ => by decide), h92]; rfl) (ev_b (a := Value.ref 201) rfl (ev_b (a := nI (wgN I0 k)) ((qa_201 (by omega)).trans (by rw [j201])) ?_)))
      rw [nI_l (by omega), lN_add, ← ez]
      refine ev_b qp_174_92 ?_
      unfold fg_428_71
      rw [nI_1]
      exact e'
    · have es : suN (cgN I0 h Oc) (k + 1) = suN (cgN I0 h Oc) k := by
        show _ + cgN I0 h Oc k = _
        unfold cgN
        rw [if_neg c, Nat.add_zero]
      have ez : suN (wzN I0 h) (k + 1) = suN (wzN I0 h) k := by
        show _ + wzN I0 h k = _
        unfold wzN
        rw [if_neg c, Nat.add_zero]
      obtain ⟨W', J', e', y1, y2, f'⟩ := ih (k + 1) K V I (by omega) (by omega) hw hd hc' (by rw [es]; exact h91) (by rw [ez]; exact h92)
      refine ⟨W', J', ?_, y1, y2, f'⟩
      rw [fg_428_12]
      refine ev_b (rdI v2) (ev_f (nI_ge (by omega) (by omega)) (ev_b (a := Value.ref 202) rfl (ev_b r2 (ev_f c ?_))))
      unfold fg_428_71
      rw [nI_1]
      exact e'
set_option maxRecDepth 100000 in
set_option maxHeartbeats 1600000 in
theorem r_428 {V : Nat → Nat → Value} {I : Nat → Nat → Int32} {L : Nat → Nat → Int64} {R : Nat → Nat → Option Nat} {tl : am_H} {I0 : Nat → Nat → Int32} {N kd ln sz lm m : Nat} {s v : Nat → Int32} {Oc : Nat → Int32 × Nat × Int32} {h : Int32} (hN : 5000 < N) (hO : ∀ k, k < m → cO kd ln sz s v lm I0 k (Oc k)) (hw : wt V) (hd : ldR V I kd ln sz s v lm) (hc : csK V I I0 m) : ∃ W J, fm_428 N (.ref 174) h (fx V I L R ++ tl) = some (.inl (none, fx W J L R ++ tl)) ∧ W 174 91 = .long (Int64.ofInt ((ctN I0 h Oc m : Int).tdiv (gdN (ctN I0 h Oc m : Int) (wsN I0 h m)))) ∧ W 174 92 = .long (lN (wsN I0 h m / gdN (ctN I0 h Oc m : Int) (wsN I0 h m))) ∧ frJ V W I J := by
  have fj := frJ_t (frJ_91 (V := V) (I := I) (x := 0)) (frJ_92 (x := 0))
  obtain ⟨W', J', e', y1, y2, f'⟩ := r_428l (L := L) (R := R) (tl := tl) (h := h) hN hO m 0 N _ I (by omega) (by have := hc.2.2.1; omega) (fj.2.2 hw) (ldR_j fj hd) (csK_c (frJ_k fj) hc) ((vup_nj (by decide)).trans vup_eq) vup_eq
  refine ⟨W', J', ?_, y1, y2, frJ_t fj f'⟩
  unfold fm_428 fg_428_0
  exact ev_b qp_174_91 (ev_b qp_174_92 e')
