/-! ===== printing code, machines and nets ===== -/
theorem and7 (a : Int32) : ∃ j : Nat, j < 8 ∧ a &&& 7 = nI j := by
  refine ⟨(a &&& 7).toBitVec.toNat, ?_, ?_⟩
  · rw [Int32.toBitVec_and, BitVec.toNat_and]
    exact Nat.lt_of_le_of_lt Nat.and_le_right (by decide)
  · apply Int32.toBitVec_inj.mp
    show _ = BitVec.ofNat 32 (a &&& 7).toBitVec.toNat
    apply BitVec.eq_of_toNat_eq
    rw [BitVec.toNat_ofNat, Nat.mod_eq_of_lt (BitVec.isLt _)]
theorem d48 : ∀ e, e < 20 → ((Int32.toUInt32 (48 + nI e) % 65536).toInt32) = nI (48 + e) ∧ (48 + nI e : Int32) = nI (48 + e) := by decide
theorem p367 (x c : Int32) : (pv_367 x c).toNatClampNeg < 8 ∧ pv_367 x c = nI (pv_367 x c).toNatClampNeg := by
  obtain ⟨j, h1, h2⟩ := and7 (x >>> ((3 * c) &&& 31))
  have e : pv_367 x c = nI j := h2
  rw [e, nI_clamp (by omega)]
  exact ⟨h1, rfl⟩
/-- what an item of a sound program is -/
def itK (kd : Nat) (s v : Nat → Int32) (k : Nat) : Prop := (kd = 1 → ∃ l, l ≤ 18 ∧ s k = nI l ∧ (l = 0 → two (v k)) ∧ (17 ≤ l → ∃ a, a ≤ 99 ∧ v k = nI a)) ∧ (kd = 2 → two (s k)) ∧ (kd = 3 → ∃ i j, i < 8 ∧ j < 8 ∧ s k = nI i ∧ v k = nI j)
theorem itK_s {kd ln sz : Nat} {s v : Nat → Int32} (h : sound kd ln sz s v) {k : Nat} (hk : k < sz) : itK kd s v k := by
  obtain ⟨h1, h2, h3, h4, h5, h6, h7⟩ := h
  refine ⟨fun e => ?_, fun e => ?_, fun e => ?_⟩
  · obtain ⟨l, a, ht, -, -, q⟩ := h5 e
    obtain ⟨q1, q2, q3, q4, -⟩ := q k hk
    exact ⟨l k, q1, q2, q3, fun c => ⟨a k, (q4 (by omega)).2, (q4 (by omega)).1⟩⟩
  · exact ((h6 e).2 k hk).1
  · obtain ⟨l2, l8, -, q⟩ := h7 e
    obtain ⟨i, j, q1, q2, q3, q4⟩ := q k hk
    exact ⟨i, j, by omega, by omega, q3, q4⟩
theorem itL_0 {s v : Nat → Int32} {k : Nat} (h : s k = nI 0) : itL 1 s v k = nbL (v k) := by
  unfold itL
  rw [if_pos rfl, h]
  rfl
theorem itL_1 {s v : Nat → Int32} {k l : Nat} (h : s k = nI l) (h1 : 1 ≤ l) (h16 : l ≤ 16) : itL 1 s v k = [cdN l] := by
  unfold itL
  rw [if_pos rfl, h, nI_clamp (by omega), if_neg (by omega), if_pos h16]
theorem itL_j {s v : Nat → Int32} {k l a : Nat} (h : s k = nI l) (h17 : 17 ≤ l) (h18 : l ≤ 18) (ha : a ≤ 99) (hv : v k = nI a) : itL 1 s v k = cdN l :: dgL a := by
  unfold itL
  rw [if_pos rfl, h, nI_clamp (by omega), if_neg (by omega), if_neg (by omega), hv, nbL_p ha]
def e4 (x : Int32) (c : Nat) : Nat := (pv_367 x (nI c)).toNatClampNeg
theorem itL_2 {s v : Nat → Int32} {k : Nat} : itL 2 s v k = nbL (s k) ++ (58 :: [48 + e4 (v k) 0, 48 + e4 (v k) 1, 48 + e4 (v k) 2, 48 + e4 (v k) 3]) := by
  unfold itL
  rw [if_neg (by decide), if_pos rfl]
  rfl
theorem itL_3 {s v : Nat → Int32} {k i j : Nat} (hs : s k = nI i) (hv : v k = nI j) (hi : i < 8) (hj : j < 8) : itL 3 s v k = [48 + i, 48 + j] := by
  unfold itL
  rw [if_neg (by decide), if_neg (by decide), hs, hv, nI_clamp (by omega), nI_clamp (by omega)]
/-- how long an item is -/
theorem itL_le {kd : Nat} {s v : Nat → Int32} {k : Nat} (h0 : kd ≠ 0) (h3 : kd ≤ 3) (h : itK kd s v k) : (itL kd s v k).length ≤ (if kd = 2 then 8 else 3) := by
  have hkk : kd = 1 ∨ kd = 2 ∨ kd = 3 := by omega
  obtain ⟨h1, h2, h4⟩ := h
  rcases hkk with rfl | rfl | rfl
  · rw [if_neg (by decide)]
    obtain ⟨l, l1, l2, l3, l4⟩ := h1 rfl
    by_cases c : l = 0
    · subst c
      rw [itL_0 l2]
      exact (nbL_le (l3 rfl)).1
    · by_cases c2 : l ≤ 16
      · rw [itL_1 l2 (by omega) c2]
        show 1 ≤ 3
        decide
      · obtain ⟨a, a1, a2⟩ := l4 (by omega)
        rw [itL_j l2 (by omega) l1 a1 a2]
        have := (dgL_le a1).1
        show (dgL a).length + 1 ≤ 3
        omega
  · rw [if_pos rfl, itL_2, List.length_append]
    have := (nbL_le (h2 rfl)).1
    show (nbL (s k)).length + 5 ≤ 8
    omega
  · rw [if_neg (by decide)]
    obtain ⟨i, j, i1, j1, e1, e2⟩ := h4 rfl
    rw [itL_3 e1 e2 i1 j1]
    show 2 ≤ 3
    decide
/-- the whole text's length -/
theorem txI_le {kd ln : Nat} {s v : Nat → Int32} (h0 : kd ≠ 0) (h3 : kd ≤ 3) : ∀ k, (∀ i, i < k → itK kd s v i) → (txI kd ln s v k).length + (if k = 0 then 0 else 1) ≤ 2 + (if kd = 2 then 9 else 4) * k ∧ (kd = 1 → (txI kd ln s v k).length + (if k = 0 then 0 else 1) ≤ 4 * k) := by
  intro k
  induction k with
  | zero =>
    intro _
    show (hdL kd ln).length + 0 ≤ 2 + 0 ∧ (kd = 1 → (hdL kd ln).length + 0 ≤ 0)
    unfold hdL
    by_cases c : kd = 3
    · rw [if_pos c]
      exact ⟨by show 2 + 0 ≤ 2 + 0; decide, fun e => by omega⟩
    · rw [if_neg c]
      exact ⟨by show 0 + 0 ≤ 2 + 0; decide, fun _ => Nat.le_refl _⟩
  | succ k ih =>
    intro hk
    obtain ⟨i1, i2⟩ := ih (fun i hi => hk i (by omega))
    have il := itL_le h0 h3 (hk k (by omega))
    have e : (txI kd ln s v (k + 1)).length = (txI kd ln s v k).length + ((if k = 0 then 0 else 1) + (itL kd s v k).length) := by
      show (txI kd ln s v k ++ ((if k = 0 then [] else [sepN kd]) ++ itL kd s v k)).length = _
      rw [List.length_append, List.length_append]
      by_cases c : k = 0
      · rw [if_pos c, if_pos c]; rfl
      · rw [if_neg c, if_neg c]; rfl
    rw [e, show (if k + 1 = 0 then 0 else 1) = 1 from if_neg (by omega)]
    by_cases c2 : kd = 2
    · rw [if_pos c2] at il i1 ⊢
      exact ⟨by omega, fun e => by omega⟩
    · rw [if_neg c2] at il i1 ⊢
      exact ⟨by omega, fun e => by have := i2 e; omega⟩
/-! the class -/
set_option maxRecDepth 100000 in
set_option maxHeartbeats 1600000 in
theorem c_69 {V : Nat → Nat → Value} {I : Nat → Nat → Int32} {L : Nat → Nat → Int64} {R : Nat → Nat → Option Nat} {tl : am_H} {N A it kd ln sz c k : Nat} {F s v f : Nat → Int32} (hN : 10 < N) (h0 : kd ≠ 0) (h3 : kd ≤ 3) (h4 : V 2 4 = .ref A) (hA : A ≠ 2) (hit : it ≠ 13) (hp : prA V I tl A it kd ln sz (sz * wdN kd) F) (hi : itm kd s v sz F) (hs : sz ≤ 60) (hk : k < sz) (hK : itK kd s v k) (hc : c + (itL kd s v k).length ≤ 240) : fm_69 N (.ref 2) (nI kd) (nI k) (pC V I L R tl c f) = some (.inl (none, pC V I L R tl (c + (itL kd s v k).length) (wrL f c (itL kd s v k)))) := by
  have hkk : kd = 1 ∨ kd = 2 ∨ kd = 3 := by omega
  have rd : ∀ (c : Nat) (f : Nat → Int32), am_vR (am_pG 2308 (.ref 2) (pC V I L R tl c f)) = some (.ref A) := fun c f => by
    show am_vR (some (V 2 4)) = _
    rw [h4]
    rfl
  have gp : ∀ (c : Nat) (f : Nat → Int32), pg (pC V I L R tl c f) A it kd ln sz (sz * wdN kd) F := fun c f => hp _ _ _ _ (fun j => vup_na hA) (iup_na hit)
  have ok : ∀ (c : Nat) (f : Nat → Int32), am_pOk 3 (.ref A) (pC V I L R tl c f) = true := fun c f => by
    obtain ⟨wy, f1, f2, hw', nb, sd, p1, p2⟩ := gp c f
    exact ev_ok p1
  have g : ∀ (c : Nat) (f : Nat → Int32) (w : Nat), w < 5 → fm_54 (.ref A) (nI k) (nI w) (pC V I L R tl c f) = some (.inl (some (.int (itV kd s v k w)), pC V I L R tl c f)) := fun c f w hw => itm_get (gp c f) hi hs hk hw
  have i0 : itV kd s v k 0 = s k := if_pos rfl
  obtain ⟨k1, k2, k3⟩ := hK
  unfold fm_69 fg_69_0
  refine ev_b (rd c f) (ev_i (ok c f) (ev_cI (g c f 0 (by decide)) (ev_b (rd c f) (ev_i (ok c f) (ev_cI (g c f 1 (by decide)) ?_)))))
  rw [i0]
  rcases hkk with rfl | rfl | rfl
  · have i1 : itV 1 s v k 1 = v k := rfl
    rw [i1]
    obtain ⟨l, l1, l2, l3, l4⟩ := k1 rfl
    refine ev_t (by decide) (ev_t (by decide) ?_)
    by_cases c0 : l = 0
    · subst c0
      rw [itL_0 l2] at hc ⊢
      rw [l2]
      exact ev_f (fun e => e rfl) (ev_i rfl (ev_cV (c_66 (l3 rfl) hc) rfl))
    · rw [l2]
      refine ev_t (nI_ne0 (by omega) (by omega)) ?_
      by_cases c2 : l ≤ 16
      · rw [itL_1 l2 (by omega) c2] at hc ⊢
        have hc1 : c + 1 ≤ 240 := hc
        refine ev_f (nI_ge (b := 17) (by omega) (by decide)) (ev_b (cd_c l (by omega) (by omega)) (ev_i rfl ?_))
        exact ev_cV (c_68 (by omega) (cd_r l (by omega) (by omega)).2) rfl
      · obtain ⟨a, a1, a2⟩ := l4 (by omega)
        rw [itL_j l2 (by omega) l1 a1 a2] at hc ⊢
        have hc1 : c + ((dgL a).length + 1) ≤ 240 := hc
        rw [a2]
        refine ev_t (nI_le (a := 17) (by omega) (by omega)) ?_
        have fin : ∀ x, x < 127 → fg_69_150 N (.ref 2) (nI a) (.ref 2) (nI x) (pC V I L R tl c f) = some (.inl (none, pC V I L R tl (c + (x :: dgL a).length) (wrL f c (x :: dgL a)))) := fun x hx => by
          unfold fg_69_150
          refine ev_i rfl (ev_cV (c_68 (by omega) hx) (ev_i rfl ?_))
          have k := c_66 (V := V) (I := I) (L := L) (R := R) (tl := tl) (x := nI a) (c := c + 1) (f := upd f c (nI x)) (.inl ⟨a, a1, rfl⟩) (by rw [nbL_p a1]; omega)
          rw [nbL_p a1] at k
          rw [show c + (x :: dgL a).length = c + 1 + (dgL a).length by show c + ((dgL a).length + 1) = _; omega]
          exact ev_cV k rfl
        by_cases c3 : l = 17
        · subst c3
          exact ev_f (fun e => e rfl) (fin 106 (by decide))
        · obtain rfl : l = 18 := by omega
          exact ev_t (by decide) (fin 98 (by decide))
  · rw [itL_2] at hc ⊢
    rw [List.length_append] at hc
    have hc1 : c + ((nbL (s k)).length + 5) ≤ 240 := hc
    have ht := k2 rfl
    refine ev_t (by decide) (ev_f (fun e => e rfl) (ev_i rfl (ev_cV (c_66 ht (by omega)) (ev_i rfl (ev_cV (c_68 (x := 58) (by omega) (by decide)) ?_)))))
    obtain ⟨c2, hc2⟩ : ∃ c2, c2 = c + (nbL (s k)).length + 1 := ⟨_, rfl⟩
    have st : ∀ (q K c : Nat) (f : Nat → Int32), q < 4 → c < 240 → fg_69_67 N (K + 1) (.ref 2) (nI k) (nI q) (pC V I L R tl c f) = fg_69_67 N K (.ref 2) (nI k) (nI (q + 1)) (pC V I L R tl (c + 1) (upd f c (nI (48 + e4 (v k) q)))) := fun q K c f hq hcq => by
      obtain ⟨p1, p2⟩ := p367 (v k) (nI q)
      have iq : itV 2 s v k (q + 1) = pv_367 (v k) (nI q) := by
        unfold itV
        rw [if_neg (by omega), if_pos rfl, Nat.add_sub_cancel]
      rw [fg_69_67]
      dsimp only
      rw [show (1 : Int32) + nI q = nI (q + 1) by rw [Nat.add_comm]; exact nI_add 1 q]
      refine ev_f (nI_ge (b := 4) hq (by decide)) (ev_b (rd c f) (ev_i (ok c f) (ev_cI (g c f (q + 1) (by omega)) (ev_i rfl ?_))))
      rw [iq, p2, (d48 _ (show (pv_367 (v k) (nI q)).toNatClampNeg < 20 by omega)).1, nI_1]
      exact ev_cV (c_68 hcq (by omega)) rfl
    obtain ⟨M, rfl⟩ : ∃ m, N = m + 1 + 1 + 1 + 1 + 1 := ⟨N - 5, by omega⟩
    rw [show fg_69_67 (M + 1 + 1 + 1 + 1 + 1) (M + 1 + 1 + 1 + 1 + 1) (.ref 2) (nI k) 0 = fg_69_67 (M + 1 + 1 + 1 + 1 + 1) (M + 1 + 1 + 1 + 1 + 1) (.ref 2) (nI k) (nI 0) from rfl, st 0 _ _ _ (by decide) (by omega), st 1 _ _ _ (by decide) (by omega), st 2 _ _ _ (by decide) (by omega), st 3 _ _ _ (by decide) (by omega), fg_69_67]
    refine ev_t (by decide) ?_
    unfold fg_69_159
    rw [List.length_append, wrL_app, ← Nat.add_assoc]
    rfl
  · have i1 : itV 3 s v k 1 = v k := rfl
    rw [i1]
    obtain ⟨i, j, q1, q2, q3, q4⟩ := k3 rfl
    rw [itL_3 q3 q4 q1 q2] at hc ⊢
    have hc1 : c + 2 ≤ 240 := hc
    rw [q3, q4]
    refine ev_f (fun e => e rfl) (ev_i rfl ?_)
    rw [(d48 i (by omega)).1]
    refine ev_cV (c_68 (by omega) (by omega)) (ev_i rfl ?_)
    rw [(d48 j (by omega)).1]
    exact ev_cV (c_68 (by omega) (by omega)) rfl
theorem tx_s {kd ln : Nat} {s v : Nat → Int32} {k : Nat} (h : ¬ k = 0) : txI kd ln s v (k + 1) = txI kd ln s v k ++ (sepN kd :: itL kd s v k) := by
  show txI kd ln s v k ++ ((if k = 0 then [] else [sepN kd]) ++ itL kd s v k) = _
  rw [if_neg h]
  rfl
theorem tx_0 {kd ln : Nat} {s v : Nat → Int32} : txI kd ln s v 1 = txI kd ln s v 0 ++ itL kd s v 0 := rfl
set_option maxRecDepth 100000 in
set_option maxHeartbeats 1600000 in
theorem c_64l {V : Nat → Nat → Value} {I : Nat → Nat → Int32} {L : Nat → Nat → Int64} {R : Nat → Nat → Option Nat} {tl : am_H} {N A it kd ln sz : Nat} {F s v f : Nat → Int32} (hN : 100 < N) (h0 : kd ≠ 0) (h3 : kd ≤ 3) (h4 : V 2 4 = .ref A) (hA : A ≠ 2) (hit : it ≠ 13) (hp : prA V I tl A it kd ln sz (sz * wdN kd) F) (hi : itm kd s v sz F) (hs : sz ≤ 60) (hK : ∀ k, k < sz → itK kd s v k) (hl : (txI kd ln s v sz).length ≤ 240) : ∀ (m k K : Nat), k + m = sz → m < K → (∀ i, i ≤ m → (txI kd ln s v (k + i)).length ≤ 240) → fg_64_55 N K (.ref 2) (.ref A) (nI k) (pC V I L R tl (txI kd ln s v k).length (wrL f 0 (txI kd ln s v k))) = some (.inl (some (.int (nI (txI kd ln s v sz).length)), pC V I L R tl (txI kd ln s v sz).length (wrL f 0 (txI kd ln s v sz)))) := by
  have gp : ∀ (c : Nat) (f : Nat → Int32), pg (pC V I L R tl c f) A it kd ln sz (sz * wdN kd) F := fun c f => hp _ _ _ _ (fun j => vup_na hA) (iup_na hit)
  have g1 : ∀ (c : Nat) (f : Nat → Int32), am_vI (am_pG 769 (.ref A) (pC V I L R tl c f)) = some (nI kd) := fun c f => pg_1 (gp c f)
  have g3 : ∀ (c : Nat) (f : Nat → Int32), am_vI (am_pG 771 (.ref A) (pC V I L R tl c f)) = some (nI sz) := fun c f => by
    obtain ⟨wy, f1, f2, hw', nb, sd, p1, p2⟩ := gp c f
    exact ev_gI p1 rfl rfl
  intro m
  induction m with
  | zero =>
    intro k K hk hK' _
    obtain ⟨K, rfl⟩ : ∃ k, K = k + 1 := ⟨K - 1, by omega⟩
    obtain rfl : k = sz := by omega
    rw [fg_64_55]
    refine ev_b (g1 _ _) (ev_f (fun e => h0 ((nI_eq (b := 0) (by omega) (by decide)).mp e)) (ev_b (g3 _ _) (ev_t (nI_le (Nat.le_refl _) (by omega)) ?_)))
    unfold fg_64_121
    exact ev_b (a := nI (txI kd ln s v k).length) rfl rfl
  | succ m ih =>
    intro k K hk hK' hb
    obtain ⟨K, rfl⟩ : ∃ k, K = k + 1 := ⟨K - 1, by omega⟩
    have e := ih (k + 1) K (by omega) (by omega) (fun i hi => by have := hb (i + 1) (by omega); rw [show k + (i + 1) = k + 1 + i by omega] at this; exact this)
    have b1 := hb 1 (by omega)
    have nx : ∀ (c : Nat) (g : Nat → Int32), c + (itL kd s v k).length = (txI kd ln s v (k + 1)).length → wrL g c (itL kd s v k) = wrL f 0 (txI kd ln s v (k + 1)) → fg_64_106 N (fg_64_55 N K) (.ref 2) (.ref A) (nI k) (pC V I L R tl c g) = some (.inl (some (.int (nI (txI kd ln s v sz).length)), pC V I L R tl (txI kd ln s v sz).length (wrL f 0 (txI kd ln s v sz)))) := fun c g h1 h2 => by
      unfold fg_64_106
      refine ev_b (g1 _ _) (ev_i rfl (ev_cV (c_69 (by omega) h0 h3 h4 hA hit hp hi hs (by omega) (hK k (by omega)) (by omega)) ?_))
      rw [nI_1, h1, h2]
      exact e
    rw [fg_64_55]
    refine ev_b (g1 _ _) (ev_f (fun e => h0 ((nI_eq (b := 0) (by omega) (by decide)).mp e)) (ev_b (g3 _ _) (ev_f (nI_ge (by omega) (by omega)) ?_)))
    by_cases k0 : k = 0
    · subst k0
      refine ev_t (by decide) (nx _ _ ?_ ?_)
      · rw [tx_0, List.length_append]
      · rw [tx_0, wrL_app, Nat.zero_add]
    · rw [tx_s k0, List.length_append] at b1
      have b2 : (txI kd ln s v k).length + ((itL kd s v k).length + 1) ≤ 240 := b1
      refine ev_f (nI_nle (by omega) (by omega)) (ev_b (g1 _ _) ?_)
      have sp : fg_64_103 N (fg_64_55 N K) (.ref 2) (.ref A) (nI k) (.ref 2) (nI (sepN kd)) (pC V I L R tl (txI kd ln s v k).length (wrL f 0 (txI kd ln s v k))) = some (.inl (some (.int (nI (txI kd ln s v sz).length)), pC V I L R tl (txI kd ln s v sz).length (wrL f 0 (txI kd ln s v sz)))) := by
        have s127 : sepN kd < 127 := by
          unfold sepN
          by_cases c1 : kd = 1
          · rw [if_pos c1]; decide
          · rw [if_neg c1]
            by_cases c2 : kd = 2
            · rw [if_pos c2]; decide
            · rw [if_neg c2]; decide
        unfold fg_64_103
        refine ev_i rfl (ev_cV (c_68 (by omega) s127) (nx _ _ ?_ ?_))
        · rw [tx_s k0, List.length_append]
          show _ = (txI kd ln s v k).length + ((itL kd s v k).length + 1)
          omega
        · rw [tx_s k0, wrL_app, Nat.zero_add]
          rfl
      rcases (by omega : kd = 1 ∨ kd = 2 ∨ kd = 3) with rfl | rfl | rfl
      · exact ev_f (fun e => e rfl) sp
      · exact ev_t (by decide) (ev_b (g1 _ _) (ev_f (fun e => e rfl) sp))
      · exact ev_t (by decide) (ev_b (g1 _ _) (ev_t (by decide) sp))
