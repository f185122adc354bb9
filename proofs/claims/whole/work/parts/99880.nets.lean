/-! ===== nets: layers(b) and unsorted(b) ===== -/
theorem maxI {a b : Nat} (ha : a < 2 ^ 31) (hb : b < 2 ^ 31) : pv_37 (nI a) (nI b) = nI (max a b) := by
  unfold pv_37
  by_cases c : a < b
  · rw [if_pos (nI_lt c hb), Nat.max_eq_right (by omega)]
  · rw [if_neg (nI_nlt (by omega) ha), Nat.max_eq_left (by omega)]
/-- the layers of the first comparators: how many, and each line's -/
def lyS (s v : Nat → Nat) : Nat → Nat × (Nat → Nat)
  | 0 => (0, fun _ => 0)
  | c + 1 => (max (lyS s v c).1 (max ((lyS s v c).2 (s c)) ((lyS s v c).2 (v c)) + 1), fun y => if y = v c then max ((lyS s v c).2 (s c)) ((lyS s v c).2 (v c)) + 1 else if y = s c then max ((lyS s v c).2 (s c)) ((lyS s v c).2 (v c)) + 1 else (lyS s v c).2 y)
theorem lyS_le (s v : Nat → Nat) : ∀ c, (lyS s v c).1 ≤ c ∧ ∀ y, (lyS s v c).2 y ≤ c := by
  intro c
  induction c with
  | zero => exact ⟨Nat.le_refl _, fun _ => Nat.le_refl _⟩
  | succ c ih =>
    obtain ⟨h1, h2⟩ := ih
    have a := h2 (s c)
    have b := h2 (v c)
    have m : max ((lyS s v c).2 (s c)) ((lyS s v c).2 (v c)) ≤ c := Nat.max_le.mpr ⟨a, b⟩
    refine ⟨?_, fun y => ?_⟩
    · show max (lyS s v c).1 (max ((lyS s v c).2 (s c)) ((lyS s v c).2 (v c)) + 1) ≤ c + 1
      exact Nat.max_le.mpr ⟨by omega, by omega⟩
    · show (if y = v c then _ else if y = s c then _ else (lyS s v c).2 y) ≤ c + 1
      have d := h2 y
      by_cases c1 : y = v c
      · rw [if_pos c1]; omega
      · rw [if_neg c1]
        by_cases c2 : y = s c
        · rw [if_pos c2]; omega
        · rw [if_neg c2]; omega
theorem ly_up {s v : Nat → Nat} {c : Nat} {g : Nat → Int32} (hg : ∀ y, y < 8 → g y = nI ((lyS s v c).2 y)) : ∀ y, y < 8 → upd (upd g (s c) (nI (max ((lyS s v c).2 (s c)) ((lyS s v c).2 (v c)) + 1))) (v c) (nI (max ((lyS s v c).2 (s c)) ((lyS s v c).2 (v c)) + 1)) y = nI ((lyS s v (c + 1)).2 y) := by
  intro y hy
  show _ = nI (if y = v c then _ else if y = s c then _ else (lyS s v c).2 y)
  by_cases c1 : y = v c
  · rw [if_pos c1, c1, upd_eq]
  · rw [if_neg c1, upd_ne c1]
    by_cases c2 : y = s c
    · rw [if_pos c2, c2, upd_eq]
    · rw [if_neg c2, upd_ne c2]; exact hg y hy
/-- a net, as both sides keep it -/
def ntO (ln sz : Nat) (s v : Nat → Nat) : Prop := 2 ≤ ln ∧ ln ≤ 8 ∧ sz ≤ 40 ∧ ∀ c, c < sz → s c < v c ∧ v c < ln
def ntC (V : Nat → Nat → Value) (I : Nat → Nat → Int32) (tl : am_H) (a it ln sz : Nat) (f : Nat → Int32) (s v : Nat → Nat) : Prop := prA V I tl (269 + a) (269 + it) 3 ln sz (sz * wdN 3) f ∧ ∀ c, c < sz → f (c * 2) = nI (s c) ∧ f (c * 2 + 1) = nI (v c)
theorem nt_get {V : Nat → Nat → Value} {I : Nat → Nat → Int32} {tl : am_H} {a it ln sz : Nat} {f : Nat → Int32} {s v : Nat → Nat} (ho : ntO ln sz s v) (hp : ntC V I tl a it ln sz f s v) (W : Nat → Nat → Value) (J : Nat → Nat → Int32) (M : Nat → Nat → Int64) (Q : Nat → Nat → Option Nat) (hW : ∀ j, W (269 + a) j = V (269 + a) j) (hJ : J (269 + it) = I (269 + it)) : (∃ x1 x2 x3 x4 x5 x6, (fx W J M Q ++ tl)[269 + a]? = some (.inr (3, [.ref (269 + it), .int (nI 3), .int (nI ln), .int (nI sz), .int (nI (wdN 3)), .int x1, .int x2, .int x3, .int x4, .int x5, .long x6]))) ∧ ∀ c, c < sz → fm_54 (.ref (269 + a)) (nI c) 0 (fx W J M Q ++ tl) = some (.inl (some (.int (nI (s c))), fx W J M Q ++ tl)) ∧ fm_54 (.ref (269 + a)) (nI c) 1 (fx W J M Q ++ tl) = some (.inl (some (.int (nI (v c))), fx W J M Q ++ tl)) := by
  have hpg := hp.1 W J M Q hW hJ
  refine ⟨?_, fun c hc => ?_⟩
  · obtain ⟨x1, x2, x3, x4, x5, x6, p1, p2⟩ := hpg
    exact ⟨x1, x2, x3, x4, x5, x6, p1⟩
  · have e2 : wdN 3 = 2 := by decide
    have h40 := ho.2.2.1
    have g0 := c_54 (k := c) (w := 0) hpg (Nat.le_refl _) (by rw [e2]; omega) (by omega) hc (by rw [e2]; omega)
    have g1 := c_54 (k := c) (w := 1) hpg (Nat.le_refl _) (by rw [e2]; omega) (by omega) hc (by rw [e2]; omega)
    rw [e2, Nat.add_zero, (hp.2 c hc).1] at g0
    rw [e2, (hp.2 c hc).2] at g1
    exact ⟨g0, g1⟩
set_option maxRecDepth 100000 in
set_option maxHeartbeats 1600000 in
theorem c_322l {V : Nat → Nat → Value} {I : Nat → Nat → Int32} {L : Nat → Nat → Int64} {R : Nat → Nat → Option Nat} {tl : am_H} {N a it ln sz : Nat} {f : Nat → Int32} {s v : Nat → Nat} (ho : ntO ln sz s v) (hp : ntC V I tl a it ln sz f s v) : ∀ (m c K : Nat) (g : Nat → Int32), c + m = sz → m < K → (∀ y, y < 8 → g y = nI ((lyS s v c).2 y)) → ∃ G, fg_322_12 N K (.ref 131) (.ref (269 + a)) (nI (lyS s v c).1) (nI c) (fx V (iup I 147 g) L R ++ tl) = some (.inl (some (.int (nI (lyS s v sz).1)), fx V (iup I 147 G) L R ++ tl)) := by
  have h40 := ho.2.2.1
  intro m
  induction m with
  | zero =>
    intro c K g hc hK hg
    obtain ⟨K, rfl⟩ : ∃ k, K = k + 1 := ⟨K - 1, by omega⟩
    obtain ⟨⟨x1, x2, x3, x4, x5, x6, p1⟩, -⟩ := nt_get ho hp V (iup I 147 g) L R (fun _ => rfl) (iup_na (by omega))
    refine ⟨g, ?_⟩
    rw [fg_322_12, show c = sz by omega]
    exact ev_b (ev_gI p1 rfl rfl) (ev_t (nI_le (Nat.le_refl _) (by omega)) rfl)
  | succ m ih =>
    intro c K g hc hK hg
    obtain ⟨K, rfl⟩ : ∃ k, K = k + 1 := ⟨K - 1, by omega⟩
    obtain ⟨⟨x1, x2, x3, x4, x5, x6, p1⟩, hG⟩ := nt_get ho hp V (iup I 147 g) L R (fun _ => rfl) (iup_na (by omega))
    obtain ⟨g0, g1⟩ := hG c (by omega)
    obtain ⟨o1, o2⟩ := ho.2.2.2 c (by omega)
    have o3 := ho.2.1
    obtain ⟨b1, b2⟩ := lyS_le s v c
    have b3 := b2 (s c)
    have b4 := b2 (v c)
    obtain ⟨t, ht⟩ : ∃ t, t = max ((lyS s v c).2 (s c)) ((lyS s v c).2 (v c)) := ⟨_, rfl⟩
    have t40 : t ≤ c := by rw [ht]; exact Nat.max_le.mpr ⟨b3, b4⟩
    obtain ⟨G, e⟩ := ih (c + 1) K (upd (upd g (s c) (nI (t + 1))) (v c) (nI (t + 1))) (by omega) (by omega) (by rw [ht]; exact ly_up hg)
    refine ⟨G, ?_⟩
    rw [fg_322_12]
    refine ev_b (ev_gI p1 rfl rfl) (ev_f (nI_ge (by omega) (by omega)) (ev_i (ev_ok p1) (ev_cI g0 (ev_i (ev_ok p1) (ev_cI g1 (ev_f (nI_pos (by omega)) (ev_b (a := Value.ref 147) rfl (ev_b (a := nI 8) rfl (ev_f (nI_ge (by omega) (by omega)) (ev_f (nI_pos (by omega)) (ev_b (a := Value.ref 147) rfl (ev_b (a := nI 8) rfl (ev_f (nI_ge (by omega) (by omega)) ?_)))))))))))))
    refine ev_b (a := Value.ref 147) rfl (ev_b (a := nI ((lyS s v c).2 (s c))) ((qa_147 (by omega)).trans (congrArg some (hg _ (by omega)))) (ev_b (a := Value.ref 147) rfl (ev_b (a := nI ((lyS s v c).2 (v c))) ((qa_147 (by omega)).trans (congrArg some (hg _ (by omega)))) (ev_cI (pe_37 _ _ _) ?_))))
    rw [maxI (by omega) (by omega), ← ht, nI_1]
    refine ev_b (a := Value.ref 147) rfl (ev_b (a := fx V (iup I 147 (upd g (s c) (nI (t + 1)))) L R ++ tl) ((qs_147 (by omega)).trans (by rw [iup_eq, iup_iup])) (ev_b (a := Value.ref 147) rfl (ev_b (a := fx V (iup I 147 (upd (upd g (s c) (nI (t + 1))) (v c) (nI (t + 1)))) L R ++ tl) ((qs_147 (by omega)).trans (by rw [iup_eq, iup_iup])) (ev_cI (pe_37 _ _ _) ?_))))
    rw [maxI (by omega) (by omega)]
    unfold fg_322_112
    rw [nI_1]
    have e2 : (lyS s v (c + 1)).1 = max (lyS s v c).1 (t + 1) := by rw [ht]; rfl
    rw [← e2]
    exact e
set_option maxRecDepth 100000 in
set_option maxHeartbeats 1600000 in
theorem r_588s {V : Nat → Nat → Value} {I : Nat → Nat → Int32} {L : Nat → Nat → Int64} {R : Nat → Nat → Option Nat} {tl : am_H} {N c x T : Nat} {s v : Nat → Nat} {g : Nat → Int32} {rc : Value → Int32 → Int32 → am_H → Option am_O} (hc : c < 400) (hd : I 186 c = nI (s c) ∧ I 187 c = nI (v c)) (hb : s c < 8 ∧ v c < 8) (hx : x < 100) (hT : T < 100) : fg_588_106 N rc (.ref 174) (nI x) (nI c) (nI T) (fx V (iup I 267 g) L R ++ tl) = rc (.ref 174) (nI (max x (T + 1))) (nI (c + 1)) (fx V (iup I 267 (upd (upd g (s c) (nI (T + 1))) (v c) (nI (T + 1)))) L R ++ tl) := by
  unfold fg_588_106
  rw [nI_1]
  refine ev_b (a := Value.ref 267) rfl (ev_b (a := Value.ref 186) rfl (ev_b (a := nI (s c)) ((qa_186 hc).trans (congrArg some hd.1)) (ev_b (a := fx V (iup I 267 (upd g (s c) (nI (T + 1)))) L R ++ tl) ((qs_267 hb.1).trans (by rw [iup_eq, iup_iup])) ?_)))
  refine ev_b (a := Value.ref 267) rfl (ev_b (a := Value.ref 187) rfl (ev_b (a := nI (v c)) ((qa_187 hc).trans (congrArg some hd.2)) (ev_b (a := fx V (iup I 267 (upd (upd g (s c) (nI (T + 1))) (v c) (nI (T + 1)))) L R ++ tl) ((qs_267 hb.2).trans (by rw [iup_eq, iup_iup])) ?_)))
  by_cases k : T + 1 ≤ x
  · refine ev_t (nI_le k (by omega)) ?_
    unfold fg_588_154
    rw [nI_1, Nat.max_eq_left k]
  · refine ev_f (nI_ge (by omega) (by omega)) ?_
    unfold fg_588_154
    rw [nI_1, Nat.max_eq_right (by omega)]
set_option maxRecDepth 100000 in
set_option maxHeartbeats 1600000 in
theorem r_588l {V : Nat → Nat → Value} {I : Nat → Nat → Int32} {L : Nat → Nat → Int64} {R : Nat → Nat → Option Nat} {tl : am_H} {N ln sz : Nat} {s v : Nat → Nat} (ho : ntO ln sz s v) (h14 : V 174 14 = .int (nI sz)) (hd : ∀ k, k < sz → I 186 k = nI (s k) ∧ I 187 k = nI (v k)) : ∀ (m c K : Nat) (g : Nat → Int32), c + m = sz → m < K → (∀ y, y < 8 → g y = nI ((lyS s v c).2 y)) → ∃ G, fg_588_48 N K (.ref 174) (nI (lyS s v c).1) (nI c) (fx V (iup I 267 g) L R ++ tl) = some (.inl (some (.int (nI (lyS s v sz).1)), fx V (iup I 267 G) L R ++ tl)) := by
  have h40 := ho.2.2.1
  intro m
  induction m with
  | zero =>
    intro c K g hc hK hg
    obtain ⟨K, rfl⟩ : ∃ k, K = k + 1 := ⟨K - 1, by omega⟩
    refine ⟨g, ?_⟩
    rw [fg_588_48, show c = sz by omega]
    exact ev_b (rdI h14) (ev_t (nI_le (Nat.le_refl _) (by omega)) rfl)
  | succ m ih =>
    intro c K g hc hK hg
    obtain ⟨K, rfl⟩ : ∃ k, K = k + 1 := ⟨K - 1, by omega⟩
    obtain ⟨o1, o2⟩ := ho.2.2.2 c (by omega)
    have o3 := ho.2.1
    obtain ⟨b1, b2⟩ := lyS_le s v c
    have b3 := b2 (s c)
    have b4 := b2 (v c)
    obtain ⟨t, ht⟩ : ∃ t, t = max ((lyS s v c).2 (s c)) ((lyS s v c).2 (v c)) := ⟨_, rfl⟩
    have t40 : t ≤ c := by rw [ht]; exact Nat.max_le.mpr ⟨b3, b4⟩
    obtain ⟨G, e⟩ := ih (c + 1) K (upd (upd g (s c) (nI (t + 1))) (v c) (nI (t + 1))) (by omega) (by omega) (by rw [ht]; exact ly_up hg)
    have e2 : (lyS s v (c + 1)).1 = max (lyS s v c).1 (t + 1) := by rw [ht]; rfl
    have d1 : am_pA 0 (.ref 186) (nI c) (fx V (iup I 267 g) L R ++ tl) = some (nI (s c)) := (qa_186 (by omega)).trans (congrArg some (hd c (by omega)).1)
    have d2 : am_pA 0 (.ref 187) (nI c) (fx V (iup I 267 g) L R ++ tl) = some (nI (v c)) := (qa_187 (by omega)).trans (congrArg some (hd c (by omega)).2)
    have d3 : am_pA 0 (.ref 267) (nI (s c)) (fx V (iup I 267 g) L R ++ tl) = some (nI ((lyS s v c).2 (s c))) := (qa_267 (by omega)).trans (congrArg some (hg _ (by omega)))
    have d4 : am_pA 0 (.ref 267) (nI (v c)) (fx V (iup I 267 g) L R ++ tl) = some (nI ((lyS s v c).2 (v c))) := (qa_267 (by omega)).trans (congrArg some (hg _ (by omega)))
    refine ⟨G, ?_⟩
    rw [fg_588_48]
    refine ev_b (rdI h14) (ev_f (nI_ge (by omega) (by omega)) (ev_b (a := Value.ref 267) rfl (ev_b (a := Value.ref 186) rfl (ev_b d1 (ev_b d3 (ev_b (a := Value.ref 267) rfl (ev_b (a := Value.ref 187) rfl (ev_b d2 (ev_b d4 ?_)))))))))
    by_cases k : (lyS s v c).2 (s c) ≤ (lyS s v c).2 (v c)
    · have tt : t = (lyS s v c).2 (v c) := by rw [ht]; exact Nat.max_eq_right k
      refine ev_t (nI_le k (by omega)) (ev_b (a := Value.ref 267) rfl (ev_b (a := Value.ref 187) rfl (ev_b d2 (ev_b d4 ?_))))
      rw [← tt, r_588s (by omega) (hd c (by omega)) ⟨by omega, by omega⟩ (by omega) (by omega), ← e2]
      exact e
    · have tt : t = (lyS s v c).2 (s c) := by rw [ht]; exact Nat.max_eq_left (by omega)
      refine ev_f (nI_ge (by omega) (by omega)) (ev_b (a := Value.ref 267) rfl (ev_b (a := Value.ref 186) rfl (ev_b d1 (ev_b d3 ?_))))
      rw [← tt, r_588s (by omega) (hd c (by omega)) ⟨by omega, by omega⟩ (by omega) (by omega), ← e2]
      exact e
set_option maxRecDepth 100000 in
set_option maxHeartbeats 1600000 in
theorem r_588f {V : Nat → Nat → Value} {I : Nat → Nat → Int32} {L : Nat → Nat → Int64} {R : Nat → Nat → Option Nat} {tl : am_H} {N : Nat} : ∀ (m k K : Nat) (g : Nat → Int32), k + m = 8 → m < K → ∃ G, (∀ y, y < 8 → k ≤ y → G y = 0) ∧ (∀ y, y < k → G y = g y) ∧ fg_588_25 N K (.ref 174) (nI k) (fx V (iup I 267 g) L R ++ tl) = fg_588_48 N N (.ref 174) 0 0 (fx V (iup I 267 G) L R ++ tl) := by
  intro m
  induction m with
  | zero =>
    intro k K g hk hK
    obtain ⟨K, rfl⟩ : ∃ k, K = k + 1 := ⟨K - 1, by omega⟩
    refine ⟨g, fun y h1 h2 => by omega, fun _ _ => rfl, ?_⟩
    rw [fg_588_25]
    exact ev_t (nI_le (a := 8) (by omega) (by omega)) rfl
  | succ m ih =>
    intro k K g hk hK
    obtain ⟨K, rfl⟩ : ∃ k, K = k + 1 := ⟨K - 1, by omega⟩
    obtain ⟨G, h1, h2, h3⟩ := ih (k + 1) K (upd g k 0) (by omega) (by omega)
    refine ⟨G, fun y y1 y2 => ?_, fun y y1 => ?_, ?_⟩
    · by_cases c : y = k
      · rw [h2 y (by omega), c, upd_eq]
      · exact h1 y y1 (by omega)
    · rw [h2 y (by omega), upd_ne (by omega)]
    · rw [fg_588_25]
      refine ev_f (nI_ge (b := 8) (by omega) (by omega)) (ev_b (a := Value.ref 267) rfl (ev_b (a := fx V (iup I 267 (upd g k 0)) L R ++ tl) ((qs_267 (by omega)).trans (by rw [iup_eq, iup_iup])) ?_))
      rw [nI_1]
      exact h3
/-- the refusals that both have -/
theorem c_315e {V : Nat → Nat → Value} {I : Nat → Nat → Int32} {L : Nat → Nat → Int64} {R : Nat → Nat → Option Nat} {tl : am_H} {n : Nat} {a : Int32} (hb : V 0 1 = .int (nI n)) (h : a < 0 ∨ nI n ≤ a) : fm_315 (.ref 0) a (fx V I L R ++ tl) = some (.inr (2, fx V I L R ++ (tl ++ [am_dummy]))) := by
  unfold fm_315 fg_315_0
  refine ev_i rfl ?_
  rw [c_63n hb h]
  rfl
set_option maxRecDepth 100000 in
set_option maxHeartbeats 1600000 in
theorem c_315k {V : Nat → Nat → Value} {I : Nat → Nat → Int32} {L : Nat → Nat → Int64} {R : Nat → Nat → Option Nat} {tl : am_H} {n b a it kd ln sz m : Nat} {f : Nat → Int32} (hb : V 0 1 = .int (nI n)) (hn : n ≤ 600) (hbn : b < n) (hR : R 1 b = some (269 + a)) (hp : pg (fx V I L R ++ tl) (269 + a) (269 + it) kd ln sz m f) (hk : kd ≠ 3) (hk3 : kd ≤ 3) : fm_315 (.ref 0) (nI b) (fx V I L R ++ tl) = some (.inr (0, fx V I L R ++ (tl ++ [am_dummy]))) := by
  obtain ⟨x1, x2, x3, x4, x5, x6, p1, p2⟩ := hp
  rw [← List.append_assoc]
  unfold fm_315 fg_315_0
  exact ev_i rfl (ev_cR (c_63 hb hn hbn hR) rfl (ev_b (ev_gI p1 rfl rfl) (ev_f (fun e => hk ((nI_eq (b := 3) (by omega) (by omega)).mp e)) rfl)))
set_option maxRecDepth 100000 in
set_option maxHeartbeats 1600000 in
theorem c_315o {V : Nat → Nat → Value} {I : Nat → Nat → Int32} {L : Nat → Nat → Int64} {R : Nat → Nat → Option Nat} {tl : am_H} {n b a it ln sz m : Nat} {f : Nat → Int32} (hb : V 0 1 = .int (nI n)) (hn : n ≤ 600) (hbn : b < n) (hR : R 1 b = some (269 + a)) (hp : pg (fx V I L R ++ tl) (269 + a) (269 + it) 3 ln sz m f) : fm_315 (.ref 0) (nI b) (fx V I L R ++ tl) = some (.inl (some (.ref (269 + a)), fx V I L R ++ tl)) := by
  obtain ⟨x1, x2, x3, x4, x5, x6, p1, p2⟩ := hp
  unfold fm_315 fg_315_0
  exact ev_i rfl (ev_cR (c_63 hb hn hbn hR) rfl (ev_b (ev_gI p1 rfl rfl) (ev_t rfl rfl)))
set_option maxRecDepth 100000 in
set_option maxHeartbeats 1600000 in
theorem r_586e {V : Nat → Nat → Value} {I : Nat → Nat → Int32} {L : Nat → Nat → Int64} {R : Nat → Nat → Option Nat} {tl : am_H} {n : Nat} {a : Int32} (hb : V 174 1 = .int (nI n)) (hn : n ≤ 600) (h : a < 0 ∨ nI n ≤ a) : fm_586 (.ref 174) a (fx V I L R ++ tl) = some (.inl (some (.int 1), fx V I L R ++ tl)) := by
  unfold fm_586 fg_586_0
  exact ev_i rfl (ev_cI (r_358n hb hn h) (ev_f (fun e => e rfl) rfl))
set_option maxRecDepth 100000 in
set_option maxHeartbeats 1600000 in
theorem r_586k {V : Nat → Nat → Value} {I : Nat → Nat → Int32} {L : Nat → Nat → Int64} {R : Nat → Nat → Option Nat} {tl : am_H} {n b kd : Nat} (hb : V 174 1 = .int (nI n)) (hn : n ≤ 600) (h : b < n) (hk : I 175 b = nI kd) (hk3 : kd ≤ 3) : fm_586 (.ref 174) (nI b) (fx V I L R ++ tl) = some (.inl (some (.int (if kd = 3 then 0 else 2)), fx V I L R ++ tl)) := by
  unfold fm_586 fg_586_0
  refine ev_i rfl (ev_cI (r_358 hb hn h) (ev_t (by decide) (ev_b (a := Value.ref 175) rfl (ev_i rfl (ev_cI (r_358 hb hn h) (ev_f (by decide) ?_))))))
  unfold fg_586_29
  refine ev_b (a := nI kd) ((qa_175 (by omega)).trans (congrArg some hk)) ?_
  by_cases c : kd = 3
  · rw [if_pos c]
    exact ev_t (by rw [c]; rfl) rfl
  · rw [if_neg c]
    exact ev_f (fun e => c ((nI_eq (b := 3) (by omega) (by omega)).mp e)) rfl
/-- a birth that is a net -/
theorem nt_of {V : Nat → Nat → Value} {I : Nat → Nat → Int32} {L : Nat → Nat → Int64} {R : Nat → Nat → Option Nat} {tl : am_H} {n p b : Nat} (hr : rel V I L R tl n p) (hb : b < n) : ∃ (kd ln sz a it : Nat) (f : Nat → Int32), I 175 b = nI kd ∧ I 176 b = nI sz ∧ I 177 b = nI ln ∧ kd ≤ 3 ∧ sz ≤ 60 ∧ R 1 b = some (269 + a) ∧ (∀ (W : Nat → Nat → Value) (J : Nat → Nat → Int32) (M : Nat → Nat → Int64) (Q : Nat → Nat → Option Nat), pg (fx W J M Q ++ tl) (269 + a) (269 + it) kd ln sz (sz * wdN kd) f) ∧ (kd = 3 → ∃ s v, ntO ln sz s v ∧ ntC V I tl a it ln sz f s v ∧ ∀ k, k < sz → I 184 (60 * b + k) = nI (s k) ∧ I 185 (60 * b + k) = nI (v k)) := by
  obtain ⟨kd, ln, sz, a, it, f, q1, q2, q3, q4, q5, q6, q7⟩ := bOk_pg (V := V) (I := I) (L := L) (R := R) (tl := tl) (hr.2.1 b hb)
  have hp := prA_tl q5
  refine ⟨kd, ln, sz, a, it, f, q1, q2, q3, q7.1, q7.2.1, q4, fun W J M Q => ?_, fun hk => ?_⟩
  · obtain ⟨x1, x2, x3, x4, x5, x6, p1, p2⟩ := q5
    rw [tl_at] at p1 p2
    exact ⟨x1, x2, x3, x4, x5, x6, tl_at.trans p1, tl_at.trans p2⟩
  · subst hk
    obtain ⟨o1, o2, o3, o4⟩ := so_3 q7
    refine ⟨clN (fun k => I 184 (60 * b + k)), clN (fun k => I 185 (60 * b + k)), ⟨o1, o2, o3, fun c hc => ⟨(o4 c hc).2.2.1, (o4 c hc).2.2.2⟩⟩, ⟨hp, fun c hc => ?_⟩, fun k hk => ⟨(o4 k hk).1, (o4 k hk).2.1⟩⟩
    have q := q6
    unfold itm at q
    rw [if_neg (by decide)] at q
    obtain ⟨u1, u2⟩ := q c hc
    exact ⟨u1.trans (o4 c hc).1, u2.trans (o4 c hc).2.1⟩
set_option maxRecDepth 100000 in
set_option maxHeartbeats 1600000 in
theorem u_59 {V : Nat → Nat → Value} {I : Nat → Nat → Int32} {L : Nat → Nat → Int64} {R : Nat → Nat → Option Nat} {tl : am_H} {n p j : Nat} (hr : rel V I L R tl n p) (hm : room tl n p j) {N : Nat} (hN : 5000 < N) (a1 : Int32) : ∃ h', opBI (fm_320 N (.ref 0) a1 (.ref 268) (fx V I L R ++ tl)) (fun h1 => fm_588 N (.ref 174) a1 h1) vfI h' ∧ invW (j + 1) h' := by
  obtain ⟨b1, b2, b3⟩ := hr.1
  rcases dich a1 (n := n) (by omega) with hn | ⟨b, hb, rfl⟩
  · refine ⟨_, opBI_err (c := 1) (b := 0) (by decide) (tl := tl ++ [am_dummy]) ?_ ?_, inv_mk (rel_thr 1 (rel_dum hr)) (room_dum hm)⟩
    · have e : fm_321 N (.ref 0) a1 (fx V I L R ++ tl) = some (.inr (2, (fx V I L R ++ (tl ++ [am_dummy])))) := by
        unfold fm_321 fg_321_0
        refine ev_b (a := Value.ref 131) rfl (ev_i rfl ?_)
        rw [c_315e b2 hn]
        rfl
      unfold fm_320 fg_320_0
      refine ev_i rfl ?_
      rw [e]
      rfl
    · show fm_588 N (.ref 174) a1 (fx V I L R ++ (tl ++ [am_dummy])) = _
      unfold fm_588 fg_588_0
      exact ev_i rfl (ev_cI (r_586e b3 b1 hn) (ev_b qp_174_0 (ev_b (a := 1) rfl (ev_f (by decide) rfl))))
  · obtain ⟨kd, ln, sz, a, it, f, q1, q2, q3, k3, s60, q4, q5, q6⟩ := nt_of hr hb
    by_cases hk : kd = 3
    · subst hk
      obtain ⟨s, v, ho, hc, hd⟩ := q6 rfl
      obtain ⟨G1, e1⟩ := c_322l (V := V) (I := I) (L := L) (R := R) (tl := tl) (N := N) ho hc sz 0 N (filf (I 147) 0 8) (by omega) (by have := ho.2.2.1; omega) (fun y hy => by unfold filf; rw [if_pos hy]; rfl)
      obtain ⟨w, hw⟩ : ∃ w, w = nI (lyS s v sz).1 := ⟨_, rfl⟩
      rw [← hw] at e1
      obtain ⟨G2, g1, g2, e2⟩ := r_588f (V := dkV (vup V 174 0 (.int 0)) 3 ln sz) (I := dkI (iup I 147 G1) b sz) (L := outL L w.toInt64) (R := R) (tl := tl) (N := N) 8 0 N (dkI (iup I 147 G1) b sz 267) (by omega) (by omega)
      rw [iup_self] at e2
      obtain ⟨G3, e3⟩ := r_588l (V := dkV (vup V 174 0 (.int 0)) 3 ln sz) (I := dkI (iup I 147 G1) b sz) (L := outL L w.toInt64) (R := R) (tl := tl) (N := N) ho (by show vup _ 174 15 _ 174 14 = _; rw [vup_v (by omega), vup_eq]) (fun k hk => ⟨(ldr_at hk).trans (hd k hk).1, (ldr_at hk).trans (hd k hk).2⟩) sz 0 N G2 (by omega) (by have := ho.2.2.1; omega) (fun y hy => g1 y hy (by omega))
      rw [← hw] at e3
      refine ⟨_, opBI_g (v := w) (W := V) (J := iup I 147 G1) (M := outL L w.toInt64) (R1 := R) (t1 := tl) (W' := dkV (vup V 174 0 (.int 0)) 3 ln sz) (J' := iup (dkI (iup I 147 G1) b sz) 267 G3) (M' := outL L w.toInt64) (R2 := R) (t2 := tl) ?_ ?_ ?_ outL_at, inv_mk (rel_k (keep_i (by decide)) (rel_dk (rel_thr 0 (rel_ol _ (rel_k (keep_i (by decide)) hr))))) (room_up hm)⟩
      · have e : fm_321 N (.ref 0) (nI b) (fx V I L R ++ tl) = some (.inl (some (.int w), fx V (iup I 147 G1) L R ++ tl)) := by
          unfold fm_321 fg_321_0
          refine ev_b (a := Value.ref 131) rfl (ev_i rfl (ev_cR (c_315o b2 b1 hb q4 (q5 V I L R)) rfl (ev_i rfl (ev_cI (v := w) (h1 := fx V (iup I 147 G1) L R ++ tl) ?_ rfl))))
          unfold fm_322 fg_322_0
          exact ev_b (a := Value.ref 147) rfl (ev_cV (h1 := fx V (iup I 147 (filf (I 147) 0 8)) L R ++ tl) (e_53 (a := 147) (n := 8) (f := I 147) rfl (by omega) (by omega)) e1)
        unfold fm_320 fg_320_0
        refine ev_i rfl ?_
        rw [e]
        exact ev_b out_s rfl
      · show fm_588 N (.ref 174) (nI b) (fx V (iup I 147 G1) (outL L w.toInt64) R ++ tl) = _
        unfold fm_588 fg_588_0
        exact ev_i rfl (ev_cI (r_586k (kd := 3) b3 b1 hb q1 (by omega)) (ev_b qp_174_0 (ev_b (a := 0) rfl (ev_t (by decide) (ev_i rfl (ev_cV (r_359 (by omega) (by omega) s60 q1 q2 q3) (e2.trans e3)))))))
      · show vup (vup (vup (vup V 174 0 (.int 0)) 174 13 _) 174 14 _) 174 15 _ 174 0 = _
        rw [vup_v (by omega), vup_v (by omega), vup_v (by omega), vup_eq]
    · refine ⟨_, opBI_err (c := 2) (b := 0) (by decide) (tl := tl ++ [am_dummy]) ?_ ?_, inv_mk (rel_thr 2 (rel_dum hr)) (room_dum hm)⟩
      · have e : fm_321 N (.ref 0) (nI b) (fx V I L R ++ tl) = some (.inr (0, (fx V I L R ++ (tl ++ [am_dummy])))) := by
          unfold fm_321 fg_321_0
          refine ev_b (a := Value.ref 131) rfl (ev_i rfl ?_)
          rw [c_315k b2 b1 hb q4 (q5 V I L R) hk k3]
          rfl
        unfold fm_320 fg_320_0
        refine ev_i rfl ?_
        rw [e]
        rfl
      · show fm_588 N (.ref 174) (nI b) (fx V I L R ++ (tl ++ [am_dummy])) = _
        have e := r_586k (V := V) (I := I) (L := L) (R := R) (tl := tl ++ [am_dummy]) b3 b1 hb q1 k3
        rw [if_neg hk] at e
        unfold fm_588 fg_588_0
        exact ev_i rfl (ev_cI e (ev_b qp_174_0 (ev_b (a := 2) rfl (ev_f (by decide) rfl))))
