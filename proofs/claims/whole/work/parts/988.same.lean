/-! ===== load, same ===== -/
/-- a desk's row, k of it laid from a birth's -/
def ldr (D Q : Nat → Int32) (b k : Nat) : Nat → Int32 := fun j => if j < k then Q (60 * b + j) else D j
theorem ldr_0 {D Q : Nat → Int32} {b : Nat} : ldr D Q b 0 = D := by
  funext j
  unfold ldr
  rw [if_neg (by omega)]
theorem ldr_s {D Q : Nat → Int32} {b k : Nat} : upd (ldr D Q b k) k (Q (60 * b + k)) = ldr D Q b (k + 1) := by
  funext j
  by_cases c : j = k
  · rw [c, upd_eq]
    unfold ldr
    rw [if_pos (by omega)]
  · rw [upd_ne c]
    unfold ldr
    by_cases d : j < k
    · rw [if_pos d, if_pos (by omega)]
    · rw [if_neg d, if_neg (by omega)]
theorem ldr_at {D Q : Nat → Int32} {b k j : Nat} (h : j < k) : ldr D Q b k j = Q (60 * b + j) := if_pos h
set_option maxRecDepth 100000 in
set_option maxHeartbeats 4000000 in
theorem r_359l {V : Nat → Nat → Value} {I : Nat → Nat → Int32} {L : Nat → Nat → Int64} {R : Nat → Nat → Option Nat} {tl : am_H} {N b sz : Nat} (h14 : V 174 14 = .int (nI sz)) (hb : b < 600) (hs : sz ≤ 60) : ∀ (m k K : Nat), k + m = sz → m < K → fg_359_32 N K (.ref 174) (nI b) (nI k) (fx V (iup (iup I 186 (ldr (I 186) (I 184) b k)) 187 (ldr (I 187) (I 185) b k)) L R ++ tl) = some (.inl (none, fx V (iup (iup I 186 (ldr (I 186) (I 184) b sz)) 187 (ldr (I 187) (I 185) b sz)) L R ++ tl)) := by
  intro m
  induction m with
  | zero =>
    intro k K hk hK
    obtain ⟨K, rfl⟩ : ∃ k, K = k + 1 := ⟨K - 1, by omega⟩
    obtain rfl : k = sz := by omega
    rw [fg_359_32]
    exact ev_b (rdI h14) (ev_t (nI_le (Nat.le_refl _) (by omega)) rfl)
  | succ m ih =>
    intro k K hk hK
    obtain ⟨K, rfl⟩ : ∃ k, K = k + 1 := ⟨K - 1, by omega⟩
    rw [fg_359_32]
    dsimp only
    rw [show (60 : Int32) * nI b + nI k = nI (60 * b + k) from nI_add' b 60 k, nI_1]
    refine ev_b (rdI h14) (ev_f (nI_ge (by omega) (by omega)) (ev_b (a := Value.ref 186) rfl (ev_b (a := Value.ref 184) rfl (ev_b (qa_184 (by omega)) ?_))))
    refine ev_b (a := fx V (iup (iup I 186 (ldr (I 186) (I 184) b (k + 1))) 187 (ldr (I 187) (I 185) b k)) L R ++ tl) (ev_s (f := ldr (I 186) (I 184) b k) (n := 400) rfl (am_inb_n (by omega) (by omega)) rfl (by rw [nI_clamp (by omega), ← ldr_s (D := I 186) (Q := I 184)]; rfl)) ?_
    refine ev_b (a := Value.ref 187) rfl (ev_b (a := Value.ref 185) rfl (ev_b (qa_185 (by omega)) ?_))
    refine ev_b (a := fx V (iup (iup I 186 (ldr (I 186) (I 184) b (k + 1))) 187 (ldr (I 187) (I 185) b (k + 1))) L R ++ tl) (ev_s (f := ldr (I 187) (I 185) b k) (n := 400) rfl (am_inb_n (by omega) (by omega)) rfl (by rw [nI_clamp (by omega), ← ldr_s (D := I 187) (Q := I 185)]; rfl)) ?_
    exact ih (k + 1) K (by omega) (by omega)
/-- the desk with a birth on it -/
def dkV (V : Nat → Nat → Value) (kd ln sz : Nat) : Nat → Nat → Value := vup (vup (vup V 174 13 (.int (nI kd))) 174 14 (.int (nI sz))) 174 15 (.int (nI ln))
def dkI (I : Nat → Nat → Int32) (b sz : Nat) : Nat → Nat → Int32 := iup (iup I 186 (ldr (I 186) (I 184) b sz)) 187 (ldr (I 187) (I 185) b sz)
set_option maxRecDepth 100000 in
set_option maxHeartbeats 4000000 in
theorem r_359 {V : Nat → Nat → Value} {I : Nat → Nat → Int32} {L : Nat → Nat → Int64} {R : Nat → Nat → Option Nat} {tl : am_H} {N b kd ln sz : Nat} (hN : 100 < N) (hb : b < 600) (hs : sz ≤ 60) (q1 : I 175 b = nI kd) (q2 : I 176 b = nI sz) (q3 : I 177 b = nI ln) : fm_359 N (.ref 174) (nI b) (fx V I L R ++ tl) = some (.inl (none, fx (dkV V kd ln sz) (dkI I b sz) L R ++ tl)) := by
  have k := r_359l (V := dkV V kd ln sz) (I := I) (L := L) (R := R) (tl := tl) (N := N) (b := b) (sz := sz) (by show vup _ 174 15 _ 174 14 = _; rw [vup_v (by omega), vup_eq]) hb hs sz 0 N (by omega) (by omega)
  have e1 : iup (iup I 186 (ldr (I 186) (I 184) b 0)) 187 (ldr (I 187) (I 185) b 0) = I := by rw [ldr_0, ldr_0, iup_self, iup_self]
  rw [e1] at k
  unfold fm_359 fg_359_0
  refine ev_b (a := Value.ref 175) rfl (ev_b (a := nI kd) ((qa_175 hb).trans (by rw [q1])) (ev_b qp_174_13 (ev_b (a := Value.ref 176) rfl (ev_b (a := nI sz) ((qa_176 hb).trans (by rw [q2])) (ev_b qp_174_14 (ev_b (a := Value.ref 177) rfl (ev_b (a := nI ln) ((qa_177 hb).trans (by rw [q3])) (ev_b qp_174_15 ?_)))))))) 
  exact k
theorem rel_dk {V : Nat → Nat → Value} {I : Nat → Nat → Int32} {L : Nat → Nat → Int64} {R : Nat → Nat → Option Nat} {tl : am_H} {n p kd ln sz b : Nat} (h : rel V I L R tl n p) : rel (dkV V kd ln sz) (dkI I b sz) L R tl n p := by
  obtain ⟨z1, z2, z3, z4, z5, z6, z7, z8, z9, z10, z11, z12, w⟩ := h
  exact ⟨z1, z2, z3, z4, z5, z6, z7, z8, z9, z10, z11, z12, wt_i (wt_i (wt_i w (by decide)) (by decide)) (by decide)⟩
/-! same(a, b) -/
set_option maxRecDepth 100000 in
set_option maxHeartbeats 4000000 in
theorem c_86l {h : am_H} {a it a' it' kd ln sz : Nat} {f g : Nat → Int32} {N : Nat} (hp : pg h a it kd ln sz (sz * wdN kd) f) (hp2 : pg h a' it' kd ln sz (sz * wdN kd) g) (hs : sz * wdN kd ≤ 1000) : ∀ (m k K : Nat), k + m = sz * wdN kd → m < K → ∃ r : Int32, fg_86_37 N K (.ref a) (.ref a') (nI k) h = some (.inl (some (.int r), h)) ∧ ((r = 1 ∧ ∀ q, k ≤ q → q < sz * wdN kd → f q = g q) ∨ (r = 0 ∧ ∃ q, q < sz * wdN kd ∧ f q ≠ g q)) := by
  obtain ⟨x1, x2, x3, x4, x5, x6, p1, p2⟩ := hp
  obtain ⟨y1, y2, y3, y4, y5, y6, p3, p4⟩ := hp2
  intro m
  induction m with
  | zero =>
    intro k K hk hK
    obtain ⟨K, rfl⟩ : ∃ k, K = k + 1 := ⟨K - 1, by omega⟩
    refine ⟨1, ?_, .inl ⟨rfl, fun q h1 h2 => by omega⟩⟩
    rw [fg_86_37]
    refine ev_b (ev_gI p1 rfl rfl) (ev_b (ev_gI p1 rfl rfl) ?_)
    rw [← nI_mul]
    exact ev_t (nI_le (by omega) (by omega)) rfl
  | succ m ih =>
    intro k K hk hK
    obtain ⟨K, rfl⟩ : ∃ k, K = k + 1 := ⟨K - 1, by omega⟩
    have st : ∀ o, (if f k = g k then fg_86_37 N K (.ref a) (.ref a') (nI (k + 1)) h else some (.inl (some (.int 0), h))) = o → fg_86_37 N (K + 1) (.ref a) (.ref a') (nI k) h = o := fun o ho => by
      rw [fg_86_37]
      dsimp only
      rw [nI_1]
      refine ev_b (ev_gI p1 rfl rfl) (ev_b (ev_gI p1 rfl rfl) ?_)
      rw [← nI_mul]
      refine ev_f (nI_ge (by omega) (by omega)) (ev_b (ev_gR p1 rfl rfl rfl) (ev_b (a := f k) ((ev_a p2 (am_inb_n (by omega) (by omega))).trans (by rw [nI_clamp (by omega)])) (ev_b (ev_gR p3 rfl rfl rfl) (ev_b (a := g k) ((ev_a p4 (am_inb_n (by omega) (by omega))).trans (by rw [nI_clamp (by omega)])) ho))))
    by_cases c : f k = g k
    · obtain ⟨r, e1, e2⟩ := ih (k + 1) K (by omega) (by omega)
      refine ⟨r, st _ (ev_t c e1), ?_⟩
      rcases e2 with ⟨h1, h2⟩ | ⟨h1, h2⟩
      · exact .inl ⟨h1, fun q a b => by
          by_cases d : q = k
          · rw [d]; exact c
          · exact h2 q (by omega) b⟩
      · exact .inr ⟨h1, h2⟩
    · exact ⟨0, st _ (ev_f c rfl), .inr ⟨rfl, k, by omega, c⟩⟩
set_option maxRecDepth 100000 in
set_option maxHeartbeats 4000000 in
theorem r_375l {V : Nat → Nat → Value} {I : Nat → Nat → Int32} {L : Nat → Nat → Int64} {R : Nat → Nat → Option Nat} {tl : am_H} {N b sz : Nat} (h14 : V 174 14 = .int (nI sz)) (hb : b < 600) (hs : sz ≤ 60) : ∀ (m k K : Nat), k + m = sz → m < K → ∃ r : Int32, fg_375_55 N K (.ref 174) (nI b) 1 (nI k) (fx V I L R ++ tl) = some (.inl (some (.int r), (fx V I L R ++ tl))) ∧ ((r = 1 ∧ ∀ q, k ≤ q → q < sz → I 184 (60 * b + q) = I 186 q ∧ I 185 (60 * b + q) = I 187 q) ∨ (r = 0 ∧ ∃ q, q < sz ∧ ¬ (I 184 (60 * b + q) = I 186 q ∧ I 185 (60 * b + q) = I 187 q))) := by
  have z0 : ∀ (k K : Nat), fg_375_55 N (K + 1) (.ref 174) (nI b) 0 (nI k) (fx V I L R ++ tl) = some (.inl (some (.int 0), (fx V I L R ++ tl))) := fun k K => by
    rw [fg_375_55]
    refine ev_b (rdI h14) ?_
    by_cases c : nI sz ≤ nI k
    · exact ev_t c rfl
    · exact ev_f c (ev_t rfl rfl)
  intro m
  induction m with
  | zero =>
    intro k K hk hK
    obtain ⟨K, rfl⟩ : ∃ k, K = k + 1 := ⟨K - 1, by omega⟩
    refine ⟨1, ?_, .inl ⟨rfl, fun q h1 h2 => by omega⟩⟩
    rw [fg_375_55]
    exact ev_b (rdI h14) (ev_t (nI_le (by omega) (by omega)) rfl)
  | succ m ih =>
    intro k K hk hK
    obtain ⟨K, rfl⟩ : ∃ k, K = k + 1 := ⟨K - 1, by omega⟩
    obtain ⟨J, rfl⟩ : ∃ k, K = k + 1 := ⟨K - 1, by omega⟩
    have st : ∀ o, (if ¬ I 184 (60 * b + k) = I 186 k then fg_375_55 N (J + 1) (.ref 174) (nI b) 0 (nI (k + 1)) (fx V I L R ++ tl) else if ¬ I 185 (60 * b + k) = I 187 k then fg_375_55 N (J + 1) (.ref 174) (nI b) 0 (nI (k + 1)) (fx V I L R ++ tl) else fg_375_55 N (J + 1) (.ref 174) (nI b) 1 (nI (k + 1)) (fx V I L R ++ tl)) = o → fg_375_55 N (J + 1 + 1) (.ref 174) (nI b) 1 (nI k) (fx V I L R ++ tl) = o := fun o ho => by
      rw [fg_375_55]
      dsimp only
      rw [show (60 : Int32) * nI b + nI k = nI (60 * b + k) from nI_add' b 60 k]
      refine ev_b (rdI h14) (ev_f (nI_ge (by omega) (by omega)) (ev_f (by decide) (ev_b (a := Value.ref 184) rfl (ev_b (qa_184 (by omega)) (ev_b (a := Value.ref 186) rfl (ev_b (qa_186 (by omega)) ?_))))))
      by_cases c1 : ¬ I 184 (60 * b + k) = I 186 k
      · rw [if_pos c1] at ho
        refine ev_t c1 ?_
        unfold fg_375_111 fg_375_112
        rw [nI_1]
        exact ho
      · rw [if_neg c1] at ho
        refine ev_f c1 (ev_b (a := Value.ref 185) rfl (ev_b (qa_185 (by omega)) (ev_b (a := Value.ref 187) rfl (ev_b (qa_187 (by omega)) ?_))))
        by_cases c2 : ¬ I 185 (60 * b + k) = I 187 k
        · rw [if_pos c2] at ho
          refine ev_t c2 ?_
          unfold fg_375_111 fg_375_112
          rw [nI_1]
          exact ho
        · rw [if_neg c2] at ho
          refine ev_f c2 ?_
          unfold fg_375_112
          rw [nI_1]
          exact ho
    by_cases c1 : I 184 (60 * b + k) = I 186 k
    · by_cases c2 : I 185 (60 * b + k) = I 187 k
      · obtain ⟨r, e1, e2⟩ := ih (k + 1) (J + 1) (by omega) (by omega)
        refine ⟨r, st _ (ev_f (fun e => e c1) (ev_f (fun e => e c2) e1)), ?_⟩
        rcases e2 with ⟨h1, h2⟩ | ⟨h1, h2⟩
        · exact .inl ⟨h1, fun q a b => by
            by_cases d : q = k
            · rw [d]; exact ⟨c1, c2⟩
            · exact h2 q (by omega) b⟩
        · exact .inr ⟨h1, h2⟩
      · exact ⟨0, st _ (ev_f (fun e => e c1) (ev_t c2 (z0 _ _))), .inr ⟨rfl, k, by omega, fun e => c2 e.2⟩⟩
    · exact ⟨0, st _ (ev_t c1 (z0 _ _)), .inr ⟨rfl, k, by omega, fun e => c1 e.1⟩⟩
/-! a machine's value is its edges -/
theorem edg_inj : ∀ x, x < 4096 → ∃ e0 e1 e2 e3, e0 < 8 ∧ e1 < 8 ∧ e2 < 8 ∧ e3 < 8 ∧ pv_367 (nI x) (nI 0) = nI e0 ∧ pv_367 (nI x) (nI 1) = nI e1 ∧ pv_367 (nI x) (nI 2) = nI e2 ∧ pv_367 (nI x) (nI 3) = nI e3 ∧ x = e0 + 8 * e1 + 64 * e2 + 512 * e3 := by
  have k : ∀ p, p < 64 → ∀ q, q < 64 → pv_367 (nI (64 * p + q)) (nI 0) = nI ((64 * p + q) % 8) ∧ pv_367 (nI (64 * p + q)) (nI 1) = nI ((64 * p + q) / 8 % 8) ∧ pv_367 (nI (64 * p + q)) (nI 2) = nI ((64 * p + q) / 64 % 8) ∧ pv_367 (nI (64 * p + q)) (nI 3) = nI ((64 * p + q) / 512 % 8) := by decide +kernel
  intro x hx
  have k := k (x / 64) (by omega) (x % 64) (by omega)
  rw [show 64 * (x / 64) + x % 64 = x by omega] at k
  obtain ⟨a, b, c, d⟩ := k
  exact ⟨x % 8, x / 8 % 8, x / 64 % 8, x / 512 % 8, by omega, by omega, by omega, by omega, a, b, c, d, by omega⟩
theorem edg_eq {x y : Nat} (hx : x < 4096) (hy : y < 4096) (h : ∀ c, c < 4 → pv_367 (nI x) (nI c) = pv_367 (nI y) (nI c)) : x = y := by
  obtain ⟨a0, a1, a2, a3, b0, b1, b2, b3, c0, c1, c2, c3, e⟩ := edg_inj x hx
  obtain ⟨a0', a1', a2', a3', b0', b1', b2', b3', c0', c1', c2', c3', e'⟩ := edg_inj y hy
  have h0 := h 0 (by omega)
  have h1 := h 1 (by omega)
  have h2 := h 2 (by omega)
  have h3 := h 3 (by omega)
  rw [c0, c0'] at h0
  rw [c1, c1'] at h1
  rw [c2, c2'] at h2
  rw [c3, c3'] at h3
  have h0 := (nI_eq (by omega) (by omega)).mp h0
  have h1 := (nI_eq (by omega) (by omega)).mp h1
  have h2 := (nI_eq (by omega) (by omega)).mp h2
  have h3 := (nI_eq (by omega) (by omega)).mp h3
  omega
theorem okM_lt {sz k : Nat} {s v : Nat → Int32} (h : okM sz s v) (hk : k < sz) : ∃ x, x < 4096 ∧ v k = nI x := by
  obtain ⟨h6, h1⟩ := h
  obtain ⟨-, e0, e1, e2, e3, a0, a1, a2, a3, e⟩ := h1 k hk
  exact ⟨_, by omega, e⟩
/-- equal items are equal sorts and values -/
theorem itm_eq {kd ln sz : Nat} {s v s' v' f g : Nat → Int32} (h1 : itm kd s v sz f) (h2 : itm kd s' v' sz g) (o1 : sound kd ln sz s v) (o2 : sound kd ln sz s' v') : (∀ q, q < sz * wdN kd → f q = g q) ↔ (∀ k, k < sz → s k = s' k ∧ v k = v' k) := by
  unfold itm at h1 h2
  by_cases c : kd = 2
  · rw [if_pos c] at h1 h2
    have w5 : wdN kd = 5 := by unfold wdN; rw [if_pos c]
    rw [w5]
    constructor
    · intro h k hk
      obtain ⟨a1, a2⟩ := h1 k hk
      obtain ⟨b1, b2⟩ := h2 k hk
      refine ⟨by rw [← a1, ← b1]; exact h _ (by omega), ?_⟩
      obtain ⟨x, x1, x2⟩ := okM_lt (o1.2.2.2.2.2.1 c) hk
      obtain ⟨y, y1, y2⟩ := okM_lt (o2.2.2.2.2.2.1 c) hk
      rw [x2, y2, edg_eq x1 y1 (fun t ht => by
        have e1 := a2 t ht
        have e2 := b2 t ht
        rw [x2] at e1
        rw [y2] at e2
        rw [← e1, ← e2]
        exact h _ (by omega))]
    · intro h q hq
      obtain ⟨k, t, hk, ht, rfl⟩ : ∃ k t, k < sz ∧ t < 5 ∧ q = k * 5 + t := ⟨q / 5, q % 5, by omega, by omega, by omega⟩
      obtain ⟨a1, a2⟩ := h1 k hk
      obtain ⟨b1, b2⟩ := h2 k hk
      obtain ⟨e1, e2⟩ := h k hk
      by_cases d : t = 0
      · rw [d, Nat.add_zero, a1, b1, e1]
      · obtain ⟨t, rfl⟩ : ∃ u, t = 1 + u := ⟨t - 1, by omega⟩
        rw [a2 t (by omega), b2 t (by omega), e2]
  · rw [if_neg c] at h1 h2
    have w2 : wdN kd = 2 := by unfold wdN; rw [if_neg c]
    rw [w2]
    constructor
    · intro h k hk
      obtain ⟨a1, a2⟩ := h1 k hk
      obtain ⟨b1, b2⟩ := h2 k hk
      exact ⟨by rw [← a1, ← b1]; exact h _ (by omega), by rw [← a2, ← b2]; exact h _ (by omega)⟩
    · intro h q hq
      obtain ⟨k, t, hk, ht, rfl⟩ : ∃ k t, k < sz ∧ t < 2 ∧ q = k * 2 + t := ⟨q / 2, q % 2, by omega, by omega, by omega⟩
      obtain ⟨a1, a2⟩ := h1 k hk
      obtain ⟨b1, b2⟩ := h2 k hk
      obtain ⟨e1, e2⟩ := h k hk
      by_cases d : t = 0
      · rw [d, Nat.add_zero, a1, b1, e1]
      · rw [show t = 1 by omega, a2, b2, e2]
