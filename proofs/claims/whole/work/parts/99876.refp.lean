/-! ===== the reference prints code, machines and nets ===== -/
/-- what lies on the reference's desk -/
def dsk (V : Nat → Nat → Value) (I : Nat → Nat → Int32) (kd ln sz : Nat) (s v : Nat → Int32) : Prop := V 174 13 = .int (nI kd) ∧ V 174 14 = .int (nI sz) ∧ V 174 15 = .int (nI ln) ∧ ∀ k, k < sz → I 186 k = s k ∧ I 187 k = v k
set_option maxRecDepth 100000 in
set_option maxHeartbeats 1600000 in
theorem d_13 {V : Nat → Nat → Value} {I : Nat → Nat → Int32} {L : Nat → Nat → Int64} {R : Nat → Nat → Option Nat} {tl : am_H} {c x : Nat} {f : Nat → Int32} (h : V 174 13 = .int (nI x)) : am_vI (am_pG 3085 (.ref 174) (pR V I L R tl c f)) = some (nI x) := by
  show am_vI (some (V 174 13)) = _
  rw [h]
  rfl
set_option maxRecDepth 100000 in
set_option maxHeartbeats 1600000 in
theorem d_14 {V : Nat → Nat → Value} {I : Nat → Nat → Int32} {L : Nat → Nat → Int64} {R : Nat → Nat → Option Nat} {tl : am_H} {c x : Nat} {f : Nat → Int32} (h : V 174 14 = .int (nI x)) : am_vI (am_pG 3086 (.ref 174) (pR V I L R tl c f)) = some (nI x) := by
  show am_vI (some (V 174 14)) = _
  rw [h]
  rfl
set_option maxRecDepth 100000 in
set_option maxHeartbeats 1600000 in
theorem d_15 {V : Nat → Nat → Value} {I : Nat → Nat → Int32} {L : Nat → Nat → Int64} {R : Nat → Nat → Option Nat} {tl : am_H} {c x : Nat} {f : Nat → Int32} (h : V 174 15 = .int (nI x)) : am_vI (am_pG 3087 (.ref 174) (pR V I L R tl c f)) = some (nI x) := by
  show am_vI (some (V 174 15)) = _
  rw [h]
  rfl
set_option maxRecDepth 100000 in
set_option maxHeartbeats 1600000 in
theorem d_186 {V : Nat → Nat → Value} {I : Nat → Nat → Int32} {L : Nat → Nat → Int64} {R : Nat → Nat → Option Nat} {tl : am_H} {c k : Nat} {f : Nat → Int32} {x : Int32} (hk : k < 60) (h : I 186 k = x) : am_pA 0 (.ref 186) (nI k) (pR V I L R tl c f) = some x := by
  unfold pR
  rw [qa_186 (by omega), iup_na (by decide), h]
set_option maxRecDepth 100000 in
set_option maxHeartbeats 1600000 in
theorem d_187 {V : Nat → Nat → Value} {I : Nat → Nat → Int32} {L : Nat → Nat → Int64} {R : Nat → Nat → Option Nat} {tl : am_H} {c k : Nat} {f : Nat → Int32} {x : Int32} (hk : k < 60) (h : I 187 k = x) : am_pA 0 (.ref 187) (nI k) (pR V I L R tl c f) = some x := by
  unfold pR
  rw [qa_187 (by omega), iup_na (by decide), h]
set_option maxRecDepth 100000 in
set_option maxHeartbeats 1600000 in
/-- no code: the loop over it does nothing -/
theorem r_18n {V : Nat → Nat → Value} {I : Nat → Nat → Int32} {L : Nat → Nat → Int64} {R : Nat → Nat → Option Nat} {tl : am_H} {N kd ln sz c : Nat} {f s v : Nat → Int32} (hN : 10 < N) (h : dsk V I kd ln sz s v) (h3 : kd ≤ 3) (hs : sz ≤ 60) (h1 : kd ≠ 1) : fg_360_18 N N (.ref 174) 0 (pR V I L R tl c f) = fg_360_106 N (.ref 174) (pR V I L R tl c f) := by
  obtain ⟨K, hK⟩ : ∃ k, N = k + 1 := ⟨N - 1, by omega⟩
  rw [show fg_360_18 N N = fg_360_18 N (K + 1) by rw [← hK], fg_360_18]
  refine ev_b (d_14 h.2.1) ?_
  by_cases c0 : nI sz ≤ (0 : Int32)
  · exact ev_t c0 rfl
  · exact ev_f c0 (ev_b (d_13 h.1) (ev_t (fun e => h1 ((nI_eq (b := 1) (by omega) (by decide)).mp e)) rfl))
set_option maxRecDepth 100000 in
set_option maxHeartbeats 1600000 in
theorem r_108n {V : Nat → Nat → Value} {I : Nat → Nat → Int32} {L : Nat → Nat → Int64} {R : Nat → Nat → Option Nat} {tl : am_H} {N kd ln sz c : Nat} {f s v : Nat → Int32} (hN : 10 < N) (h : dsk V I kd ln sz s v) (h3 : kd ≤ 3) (hs : sz ≤ 60) (h1 : kd ≠ 2) : fg_360_108 N N (.ref 174) 0 (pR V I L R tl c f) = fg_360_186 N (.ref 174) (pR V I L R tl c f) := by
  obtain ⟨K, hK⟩ : ∃ k, N = k + 1 := ⟨N - 1, by omega⟩
  rw [show fg_360_108 N N = fg_360_108 N (K + 1) by rw [← hK], fg_360_108]
  refine ev_b (d_14 h.2.1) ?_
  by_cases c0 : nI sz ≤ (0 : Int32)
  · exact ev_t c0 rfl
  · exact ev_f c0 (ev_b (d_13 h.1) (ev_t (fun e => h1 ((nI_eq (b := 2) (by omega) (by decide)).mp e)) rfl))
set_option maxRecDepth 100000 in
set_option maxHeartbeats 1600000 in
theorem r_186n {V : Nat → Nat → Value} {I : Nat → Nat → Int32} {L : Nat → Nat → Int64} {R : Nat → Nat → Option Nat} {tl : am_H} {N kd ln sz c : Nat} {f s v : Nat → Int32} (hN : 10 < N) (h : dsk V I kd ln sz s v) (h3 : kd ≤ 3) (hs : sz ≤ 60) (h1 : kd ≠ 3) : fg_360_186 N (.ref 174) (pR V I L R tl c f) = some (.inl (none, pR V I L R tl c f)) := by
  have n3 : ¬ nI kd = (3 : Int32) := fun e => h1 ((nI_eq (b := 3) (by omega) (by decide)).mp e)
  obtain ⟨K, hK⟩ : ∃ k, N = k + 1 := ⟨N - 1, by omega⟩
  unfold fg_360_186 fg_360_205 fg_360_219
  refine ev_b (d_13 h.1) (ev_t n3 (ev_b (d_13 h.1) (ev_t n3 ?_)))
  rw [show fg_360_221 N N = fg_360_221 N (K + 1) by rw [← hK], fg_360_221]
  refine ev_b (d_14 h.2.1) ?_
  by_cases c0 : nI sz ≤ (0 : Int32)
  · exact ev_t c0 rfl
  · exact ev_f c0 (ev_b (d_13 h.1) (ev_t n3 rfl))
set_option maxRecDepth 100000 in
set_option maxHeartbeats 1600000 in
/-- the reference prints code -/
theorem rp_18 {V : Nat → Nat → Value} {I : Nat → Nat → Int32} {L : Nat → Nat → Int64} {R : Nat → Nat → Option Nat} {tl : am_H} {N ln sz : Nat} {f s v : Nat → Int32} (hN : 100 < N) (h : dsk V I 1 ln sz s v) (hs : sz ≤ 60) (hK : ∀ k, k < sz → itK 1 s v k) : ∀ (m k K : Nat), k + m = sz → m < K → (∀ i, i ≤ m → (txI 1 ln s v (k + i)).length ≤ 240) → fg_360_18 N K (.ref 174) (nI k) (pR V I L R tl (txI 1 ln s v k).length (wrL f 0 (txI 1 ln s v k))) = fg_360_106 N (.ref 174) (pR V I L R tl (txI 1 ln s v sz).length (wrL f 0 (txI 1 ln s v sz))) := by
  intro m
  induction m with
  | zero =>
    intro k K hk hK' _
    obtain ⟨K, rfl⟩ : ∃ k, K = k + 1 := ⟨K - 1, by omega⟩
    obtain rfl : k = sz := by omega
    rw [fg_360_18]
    exact ev_b (d_14 h.2.1) (ev_t (nI_le (Nat.le_refl _) (by omega)) rfl)
  | succ m ih =>
    intro k K hk hK' hb
    obtain ⟨K, rfl⟩ : ∃ k, K = k + 1 := ⟨K - 1, by omega⟩
    have e := ih (k + 1) K (by omega) (by omega) (fun i hi => by have := hb (i + 1) (by omega); rw [show k + (i + 1) = k + 1 + i by omega] at this; exact this)
    have b1 := hb 1 (by omega)
    obtain ⟨x1, x2⟩ := h.2.2.2 k (by omega)
    obtain ⟨l, l1, l2, l3, l4⟩ := (hK k (by omega)).1 rfl
    rw [l2] at x1
    have nx : ∀ (c : Nat) (g : Nat → Int32), c + (itL 1 s v k).length = (txI 1 ln s v (k + 1)).length → wrL g c (itL 1 s v k) = wrL f 0 (txI 1 ln s v (k + 1)) → fg_360_44 N (fg_360_18 N K) (.ref 174) (nI k) (pR V I L R tl c g) = fg_360_106 N (.ref 174) (pR V I L R tl (txI 1 ln s v sz).length (wrL f 0 (txI 1 ln s v sz))) := fun c g h1 h2 => by
      have fin : ∀ (c2 : Nat) (g2 : Nat → Int32), c2 = (txI 1 ln s v (k + 1)).length → g2 = wrL f 0 (txI 1 ln s v (k + 1)) → fg_360_100 N (fg_360_18 N K) (.ref 174) (nI k) (pR V I L R tl c2 g2) = fg_360_106 N (.ref 174) (pR V I L R tl (txI 1 ln s v sz).length (wrL f 0 (txI 1 ln s v sz))) := fun c2 g2 k1 k2 => by
        unfold fg_360_100
        rw [nI_1, k1, k2]
        exact e
      unfold fg_360_44
      refine ev_b (a := Value.ref 186) rfl (ev_b (d_186 (by omega) x1) ?_)
      by_cases c0 : l = 0
      · subst c0
        rw [itL_0 l2] at h1 h2
        refine ev_f (fun e => e rfl) (ev_b (a := Value.ref 187) rfl (ev_b (d_187 (by omega) x2) (ev_i rfl (ev_cV (r_363 (l3 rfl) (by omega)) ?_))))
        unfold fg_360_79
        exact ev_b (a := Value.ref 186) rfl (ev_b (d_186 (by omega) x1) (ev_t (by decide) (fin _ _ h1 h2)))
      · refine ev_t (nI_ne0 (by omega) (by omega)) (ev_b (a := Value.ref 186) rfl (ev_b (d_186 (by omega) x1) (ev_cI (pe_366 _ _) (ev_i rfl ?_))))
        rw [(cd_r l (by omega) (by omega)).1]
        by_cases c2 : l ≤ 16
        · rw [itL_1 l2 (by omega) c2] at h1 h2
          have h3 : c + 1 = (txI 1 ln s v (k + 1)).length := h1
          refine ev_cV (r_362 (by omega)) ?_
          unfold fg_360_79
          exact ev_b (a := Value.ref 186) rfl (ev_b (d_186 (by omega) x1) (ev_t (nI_le (b := 16) c2 (by decide)) (fin _ _ h3 h2)))
        · obtain ⟨a, a1, a2⟩ := l4 (by omega)
          rw [itL_j l2 (by omega) l1 a1 a2] at h1 h2
          have h3 : c + ((dgL a).length + 1) = (txI 1 ln s v (k + 1)).length := h1
          rw [a2] at x2
          have q := r_363 (V := V) (I := I) (L := L) (R := R) (tl := tl) (x := nI a) (c := c + 1) (f := upd g c (nI (cdN l))) (.inl ⟨a, a1, rfl⟩) (by rw [nbL_p a1]; omega)
          rw [nbL_p a1] at q
          refine ev_cV (r_362 (by omega)) ?_
          unfold fg_360_79
          exact ev_b (a := Value.ref 186) rfl (ev_b (d_186 (by omega) x1) (ev_f (nI_ge (a := 16) (by omega) (by omega)) (ev_b (a := Value.ref 187) rfl (ev_b (d_187 (by omega) x2) (ev_i rfl (ev_cV q (fin _ _ (by omega) h2)))))))
    rw [fg_360_18]
    refine ev_b (d_14 h.2.1) (ev_f (nI_ge (by omega) (by omega)) (ev_b (d_13 h.1) (ev_f (fun e => e rfl) ?_)))
    by_cases k0 : k = 0
    · subst k0
      refine ev_t (by decide) (nx _ _ ?_ ?_)
      · rw [tx_0, List.length_append]
      · rw [tx_0, wrL_app, Nat.zero_add]
    · rw [tx_s k0, List.length_append] at b1
      have b2 : (txI 1 ln s v k).length + ((itL 1 s v k).length + 1) ≤ 240 := b1
      refine ev_f (nI_nle (by omega) (by omega)) (ev_i rfl (ev_cV (r_362 (x := 32) (by omega)) (nx _ _ ?_ ?_)))
      · rw [tx_s k0, List.length_append]
        show _ = (txI 1 ln s v k).length + ((itL 1 s v k).length + 1)
        omega
      · rw [tx_s k0, wrL_app, Nat.zero_add]
        rfl
set_option maxRecDepth 100000 in
set_option maxHeartbeats 1600000 in
/-- the reference prints a machine -/
theorem r_108 {V : Nat → Nat → Value} {I : Nat → Nat → Int32} {L : Nat → Nat → Int64} {R : Nat → Nat → Option Nat} {tl : am_H} {N ln sz : Nat} {f s v : Nat → Int32} (hN : 100 < N) (h : dsk V I 2 ln sz s v) (hs : sz ≤ 60) (hK : ∀ k, k < sz → itK 2 s v k) : ∀ (m k K : Nat), k + m = sz → m < K → (∀ i, i ≤ m → (txI 2 ln s v (k + i)).length ≤ 240) → fg_360_108 N K (.ref 174) (nI k) (pR V I L R tl (txI 2 ln s v k).length (wrL f 0 (txI 2 ln s v k))) = fg_360_186 N (.ref 174) (pR V I L R tl (txI 2 ln s v sz).length (wrL f 0 (txI 2 ln s v sz))) := by
  intro m
  induction m with
  | zero =>
    intro k K hk hK' _
    obtain ⟨K, rfl⟩ : ∃ k, K = k + 1 := ⟨K - 1, by omega⟩
    obtain rfl : k = sz := by omega
    rw [fg_360_108]
    exact ev_b (d_14 h.2.1) (ev_t (nI_le (Nat.le_refl _) (by omega)) rfl)
  | succ m ih =>
    intro k K hk hK' hb
    obtain ⟨K, rfl⟩ : ∃ k, K = k + 1 := ⟨K - 1, by omega⟩
    have e := ih (k + 1) K (by omega) (by omega) (fun i hi => by have := hb (i + 1) (by omega); rw [show k + (i + 1) = k + 1 + i by omega] at this; exact this)
    have b1 := hb 1 (by omega)
    obtain ⟨x1, x2⟩ := h.2.2.2 k (by omega)
    have ht := (hK k (by omega)).2.1 rfl
    have nx : ∀ (c : Nat) (g : Nat → Int32), c + (itL 2 s v k).length = (txI 2 ln s v (k + 1)).length → wrL g c (itL 2 s v k) = wrL f 0 (txI 2 ln s v (k + 1)) → fg_360_134 N (fg_360_108 N K) (.ref 174) (nI k) (pR V I L R tl c g) = fg_360_186 N (.ref 174) (pR V I L R tl (txI 2 ln s v sz).length (wrL f 0 (txI 2 ln s v sz))) := fun c g h1 h2 => by
      rw [itL_2, List.length_append] at h1
      rw [itL_2, wrL_app] at h2
      have h3 : c + ((nbL (s k)).length + 5) = (txI 2 ln s v (k + 1)).length := h1
      have st : ∀ (q K' c : Nat) (g : Nat → Int32), q < 4 → c < 800 → fg_360_152 N (fg_360_108 N K) (K' + 1) (.ref 174) (nI k) (nI q) (pR V I L R tl c g) = fg_360_152 N (fg_360_108 N K) K' (.ref 174) (nI k) (nI (q + 1)) (pR V I L R tl (c + 1) (upd g c (nI (48 + e4 (v k) q)))) := fun q K' c g hq hcq => by
        obtain ⟨p1, p2⟩ := p367 (v k) (nI q)
        rw [fg_360_152]
        refine ev_f (nI_ge (b := 4) hq (by decide)) (ev_b (a := Value.ref 187) rfl (ev_b (d_187 (by omega) x2) (ev_cI (pe_367 _ _ _) (ev_i rfl ?_))))
        rw [p2, (d48 _ (show (pv_367 (v k) (nI q)).toNatClampNeg < 20 by omega)).2, nI_1]
        exact ev_cV (r_362 hcq) rfl
      unfold fg_360_134
      refine ev_b (a := Value.ref 186) rfl (ev_b (d_186 (by omega) x1) (ev_i rfl (ev_cV (r_363 ht (by omega)) (ev_i rfl (ev_cV (r_362 (x := 58) (by omega)) ?_)))))
      obtain ⟨M, hM⟩ : ∃ m, N = m + 1 + 1 + 1 + 1 + 1 := ⟨N - 5, by omega⟩
      rw [show fg_360_152 N (fg_360_108 N K) N (.ref 174) (nI k) 0 = fg_360_152 N (fg_360_108 N K) (M + 1 + 1 + 1 + 1 + 1) (.ref 174) (nI k) (nI 0) by rw [← hM]; rfl, st 0 _ _ _ (by decide) (by omega), st 1 _ _ _ (by decide) (by omega), st 2 _ _ _ (by decide) (by omega), st 3 _ _ _ (by decide) (by omega), fg_360_152]
      refine ev_t (by decide) ?_
      rw [nI_1]
      rw [← h3, ← h2] at e
      exact e
    rw [fg_360_108]
    refine ev_b (d_14 h.2.1) (ev_f (nI_ge (by omega) (by omega)) (ev_b (d_13 h.1) (ev_f (fun e => e rfl) ?_)))
    by_cases k0 : k = 0
    · subst k0
      refine ev_t (by decide) (nx _ _ ?_ ?_)
      · rw [tx_0, List.length_append]
      · rw [tx_0, wrL_app, Nat.zero_add]
    · rw [tx_s k0, List.length_append] at b1
      have b2 : (txI 2 ln s v k).length + ((itL 2 s v k).length + 1) ≤ 240 := b1
      refine ev_f (nI_nle (by omega) (by omega)) (ev_i rfl (ev_cV (r_362 (x := 59) (by omega)) (nx _ _ ?_ ?_)))
      · rw [tx_s k0, List.length_append]
        show _ = (txI 2 ln s v k).length + ((itL 2 s v k).length + 1)
        omega
      · rw [tx_s k0, wrL_app, Nat.zero_add]
        rfl
set_option maxRecDepth 100000 in
set_option maxHeartbeats 1600000 in
/-- the reference prints a net -/
theorem r_221 {V : Nat → Nat → Value} {I : Nat → Nat → Int32} {L : Nat → Nat → Int64} {R : Nat → Nat → Option Nat} {tl : am_H} {N ln sz : Nat} {f s v : Nat → Int32} (hN : 100 < N) (h : dsk V I 3 ln sz s v) (hs : sz ≤ 60) (hK : ∀ k, k < sz → itK 3 s v k) : ∀ (m k K : Nat), k + m = sz → m < K → (∀ i, i ≤ m → (txI 3 ln s v (k + i)).length ≤ 240) → fg_360_221 N K (.ref 174) (nI k) (pR V I L R tl (txI 3 ln s v k).length (wrL f 0 (txI 3 ln s v k))) = some (.inl (none, pR V I L R tl (txI 3 ln s v sz).length (wrL f 0 (txI 3 ln s v sz)))) := by
  intro m
  induction m with
  | zero =>
    intro k K hk hK' _
    obtain ⟨K, rfl⟩ : ∃ k, K = k + 1 := ⟨K - 1, by omega⟩
    obtain rfl : k = sz := by omega
    rw [fg_360_221]
    exact ev_b (d_14 h.2.1) (ev_t (nI_le (Nat.le_refl _) (by omega)) rfl)
  | succ m ih =>
    intro k K hk hK' hb
    obtain ⟨K, rfl⟩ : ∃ k, K = k + 1 := ⟨K - 1, by omega⟩
    have e := ih (k + 1) K (by omega) (by omega) (fun i hi => by have := hb (i + 1) (by omega); rw [show k + (i + 1) = k + 1 + i by omega] at this; exact this)
    have b1 := hb 1 (by omega)
    obtain ⟨x1, x2⟩ := h.2.2.2 k (by omega)
    obtain ⟨i, j, q1, q2, q3, q4⟩ := (hK k (by omega)).2.2 rfl
    rw [q3] at x1
    rw [q4] at x2
    have nx : ∀ (c : Nat) (g : Nat → Int32), c + (itL 3 s v k).length = (txI 3 ln s v (k + 1)).length → wrL g c (itL 3 s v k) = wrL f 0 (txI 3 ln s v (k + 1)) → fg_360_247 N (fg_360_221 N K) (.ref 174) (nI k) (pR V I L R tl c g) = some (.inl (none, pR V I L R tl (txI 3 ln s v sz).length (wrL f 0 (txI 3 ln s v sz)))) := fun c g h1 h2 => by
      rw [itL_3 q3 q4 q1 q2] at h1 h2
      have h3 : c + 2 = (txI 3 ln s v (k + 1)).length := h1
      unfold fg_360_247
      refine ev_b (a := Value.ref 186) rfl (ev_b (d_186 (by omega) x1) (ev_i rfl ?_))
      rw [(d48 i (by omega)).2]
      refine ev_cV (r_362 (by omega)) (ev_b (a := Value.ref 187) rfl (ev_b (d_187 (by omega) x2) (ev_i rfl ?_)))
      rw [(d48 j (by omega)).2]
      refine ev_cV (r_362 (by omega)) ?_
      rw [nI_1]
      rw [← h3, ← h2] at e
      exact e
    rw [fg_360_221]
    refine ev_b (d_14 h.2.1) (ev_f (nI_ge (by omega) (by omega)) (ev_b (d_13 h.1) (ev_f (fun e => e rfl) ?_)))
    by_cases k0 : k = 0
    · subst k0
      refine ev_t (by decide) (nx _ _ ?_ ?_)
      · rw [tx_0, List.length_append]
      · rw [tx_0, wrL_app, Nat.zero_add]
    · rw [tx_s k0, List.length_append] at b1
      have b2 : (txI 3 ln s v k).length + ((itL 3 s v k).length + 1) ≤ 240 := b1
      refine ev_f (nI_nle (by omega) (by omega)) (ev_i rfl (ev_cV (r_362 (x := 44) (by omega)) (nx _ _ ?_ ?_)))
      · rw [tx_s k0, List.length_append]
        show _ = (txI 3 ln s v k).length + ((itL 3 s v k).length + 1)
        omega
      · rw [tx_s k0, wrL_app, Nat.zero_add]
        rfl
