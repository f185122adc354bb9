set_option maxRecDepth 100000 in
set_option maxHeartbeats 4000000 in
theorem r_488g {V : Nat → Nat → Value} {I : Nat → Nat → Int32} {L : Nat → Nat → Int64} {R : Nat → Nat → Option Nat} {tl : am_H} {N i kd z n : Nat} {x : Int64} {Q : (Nat → Nat → Int32) → Prop} (hN : 100 < N) (hi : i < 4) (hg : pGood (nI kd) (nI n) (nI z)) (hn1 : 1 ≤ n) (hn : n ≤ 16) (hD : rOk N kd z Q) (hQ : ∀ I I' : Nat → Nat → Int32, (∀ y, 186 ≤ y → y ≠ 234 → I' y = I y) → Q I → Q I') (hq : Q (iup I 233 (upd (I 233) i (nI n)))) (h1 : V 174 1 = .int (nI 0)) (hinv : rInv V L) (h88 : ∃ k0, V 174 88 = .int (nI k0)) :
    ∃ V' I' L', fm_488 N (.ref 174) (nI i) (nI kd) (nI n) (nI z) x (fx V I L R ++ tl) = some (.inl (some (.int (nI 0)), fx V' I' L' R ++ tl)) ∧ V' 174 0 = .int 0 ∧ L' 268 = L 268 := by
  obtain ⟨V', I', L', r1, r2, r3⟩ := r_488l (N := N) (i := i) (kd := kd) (z := z) (n := n) (R := R) (tl := tl) hN hi hn hD hQ n 0 N (vup (vup V 174 0 (.int 0)) 174 96 (.long x)) (iup I 233 (upd (I 233) i (nI n))) L x (by omega) hn1 (by omega) vup_eq (by unfold rInv at hinv ⊢; rw [vup_v (by omega), vup_v (by omega)]; exact hinv) (by rw [vup_v (by omega), vup_v (by omega)]; exact h88) (by rw [vup_v (by omega), vup_v (by omega)]; exact h1) hq (fun h9 => absurd h9 (by omega))
  refine ⟨V', I', L', ?_, by rw [r2, vup_v (by omega)]; exact vup_eq, r3⟩
  obtain ⟨g1, g2, g3, g4, g5, g6⟩ := hg
  unfold fm_488 fg_488_0
  refine ev_i rfl ?_
  refine ev_cI (t489v hi) ?_
  refine ev_t (by decide) ?_
  refine ev_cI (pe_327 _ _ _ _) ?_
  rw [show pv_327 (nI kd).toInt64 0 3 = 1 from in_ok (w64le (a := 0) (Int32.not_lt.mp g1)) (w64le (b := 3) (Int32.not_lt.mp g2))]
  refine ev_f (by decide) ?_
  refine ev_cI (pe_327 _ _ _ _) ?_
  rw [show pv_327 (nI n).toInt64 1 16 = 1 from in_ok (w64le (a := 1) (Int32.not_lt.mp g3)) (w64le (b := 16) (Int32.not_lt.mp g4))]
  refine ev_f (by decide) ?_
  refine ev_cI t490 ?_
  rw [in_ok (w64le (Int32.not_lt.mp g5)) (w64le g6)]
  refine ev_t (by decide) ?_
  refine ev_b (a := nI 0) (by show am_vI (some (V 174 1)) = _; rw [h1]; rfl) ?_
  rw [nI_add]
  refine ev_t (nI_le (b := 600) (by omega) (by decide)) ?_
  unfold fg_488_67
  refine ev_b (a := fx (vup V 174 0 (.int 0)) I L R ++ tl) (ev_p rfl rfl rfl rfl) ?_
  refine ev_b (a := 0) rfl ?_
  refine ev_t (by decide) ?_
  refine ev_b (a := fx (vup (vup V 174 0 (.int 0)) 174 96 (.long x)) I L R ++ tl) (ev_p rfl rfl rfl rfl) ?_
  refine ev_b (a := .ref 233) rfl ?_
  refine ev_b (ev_s (f := I 233) (n := 4) (h1 := fx (vup (vup V 174 0 (.int 0)) 174 96 (.long x)) (iup I 233 (upd (I 233) i (nI n))) L R ++ tl) rfl (am_inb_n hi (by omega)) rfl (by rw [nI_clamp (by omega)]; rfl)) ?_
  exact r1
/-- what is kept of the reference's rows while it draws a kind: any Q that holds of zero rows -/
def rOk1 (N kd z : Nat) : Prop := ∃ Q : (Nat → Nat → Int32) → Prop, rOk N kd z Q ∧ (∀ I I' : Nat → Nat → Int32, (∀ y, 186 ≤ y → y ≠ 234 → I' y = I y) → Q I → Q I') ∧ (∀ I : Nat → Nat → Int32, (∀ y, 186 ≤ y → y ≠ 233 → y ≠ 234 → I y = I0 y) → Q I)
theorem rOk1_T {N kd z : Nat} (h : rOk N kd z (fun _ => True)) : rOk1 N kd z := ⟨fun _ => True, h, fun _ _ _ _ => trivial, fun _ _ => trivial⟩
theorem t489i (a : Int32) : (a < 0 ∨ 4 ≤ a) ∨ ∃ i, i < 4 ∧ a = nI i := by
  by_cases c : a < 0
  · exact .inl (.inl c)
  · by_cases c2 : 4 ≤ a
    · exact .inl (.inr c2)
    · obtain ⟨k, hk, rfl⟩ := nI_of c
      exact .inr ⟨k, Nat.not_le.mp (fun h9 => c2 ((nI_leI (by decide) hk).mpr h9)), rfl⟩
/-- the numbers of a good call -/
theorem pGood_n {a2 a3 a4 : Int32} (h : pGood a2 a3 a4) : ∃ kd n z, a2 = nI kd ∧ a3 = nI n ∧ a4 = nI z ∧ kd ≤ 3 ∧ 1 ≤ n ∧ n ≤ 16 ∧ ((kd = 0 ∨ kd = 1) → 1 ≤ z ∧ z ≤ 9) ∧ (kd = 2 → 1 ≤ z ∧ z ≤ 6) ∧ (kd = 3 → 2 ≤ z ∧ z ≤ 8) := by
  obtain ⟨g1, g2, g3, g4, g5, g6⟩ := h
  obtain ⟨kd, hk, rfl⟩ := nI_of g1
  have hk3 : kd ≤ 3 := Nat.not_lt.mp (fun h9 => g2 ((nI_ltI (a := 3) (by decide) hk).mpr h9))
  obtain ⟨n, hn, rfl⟩ := nI_of (x := a3) (fun h9 => g3 (Int32.lt_trans h9 (by decide)))
  have hn1 : 1 ≤ n := Nat.not_lt.mp (fun h9 => g3 ((nI_ltI (b := 1) hn (by decide)).mpr h9))
  have hn16 : n ≤ 16 := Nat.not_lt.mp (fun h9 => g4 ((nI_ltI (a := 16) (by decide) hn).mpr h9))
  have hz0 : ¬ a4 < 0 := fun h9 => g5 (Int32.lt_trans h9 (by unfold pLo; split <;> decide))
  obtain ⟨z, hz, rfl⟩ := nI_of hz0
  refine ⟨kd, n, z, rfl, rfl, rfl, hk3, hn1, hn16, fun h9 => ?_, fun h9 => ?_, fun h9 => ?_⟩
  · have e1 : pLo (nI kd) = nI 1 := by rcases h9 with rfl | rfl <;> rfl
    have e2 : pHi (nI kd) = nI 9 := by rcases h9 with rfl | rfl <;> rfl
    rw [e1] at g5
    rw [e2] at g6
    exact ⟨Nat.not_lt.mp (fun h8 => g5 ((nI_ltI hz (by decide)).mpr h8)), (nI_leI hz (by decide)).mp g6⟩
  · subst h9
    rw [show pLo (nI 2) = nI 1 from rfl] at g5
    rw [show pHi (nI 2) = nI 6 from rfl] at g6
    exact ⟨Nat.not_lt.mp (fun h8 => g5 ((nI_ltI hz (by decide)).mpr h8)), (nI_leI hz (by decide)).mp g6⟩
  · subst h9
    rw [show pLo (nI 3) = nI 2 from rfl] at g5
    rw [show pHi (nI 3) = nI 8 from rfl] at g6
    exact ⟨Nat.not_lt.mp (fun h8 => g5 ((nI_ltI hz (by decide)).mpr h8)), (nI_leI hz (by decide)).mp g6⟩
set_option maxRecDepth 100000 in
set_option maxHeartbeats 4000000 in
/-- populate on the fresh objects, given that both sides draw code -/
theorem p_32 (HC : ∀ z, 1 ≤ z → z ≤ 9 → dOk 1000 (L0 (tW, tT)) 1 z) (HR : ∀ z, 1 ≤ z → z ≤ 9 → rOk1 1000 1 z) (a1 a2 a3 a4 : Int32) (x : Int64) : ∃ h', opBI (fm_199 1000 (.ref 0) a1 a2 a3 a4 x (.ref 268) (hp0 (tW, tT))) (fun h1 => fm_488 1000 (.ref 174) a1 a2 a3 a4 x h1) vfI h' ∧ fits h' := by
  rcases t489i a1 with hn | ⟨i, hi, rfl⟩
  · refine ⟨hpT (tW, tT) 1, ⟨1, hpE (tW, tT), 0, 0, ?_, rfl, ?_, rfl, rfl, fun e => absurd e (by decide)⟩, hpT_fits (tW, tT) 1⟩
    · have hz : fm_200 1000 (.ref 0) a1 a2 a3 a4 x (hp0 (tW, tT)) = some (.inr (2, hpE (tW, tT))) := by
        simp only [fm_200, fg_200_0, t201n hn]
        rfl
      simp only [fm_199, fg_199_0, hz]
      rfl
    · simp only [fm_488, fg_488_0, t489n hn]
      rfl
  · by_cases hb : pGood a2 a3 a4
    · obtain ⟨kd, n, z, rfl, rfl, rfl, hk3, hn1, hn16, z1, z2, z3⟩ := pGood_n hb
      have hD : dOk 1000 (L0 (tW, tT)) kd z ∧ rOk1 1000 kd z := by
        rcases (by omega : kd = 0 ∨ kd = 1 ∨ kd = 2 ∨ kd = 3) with rfl | rfl | rfl | rfl
        · obtain ⟨w1, w2⟩ := z1 (.inl rfl)
          exact ⟨dOk_0 (by decide) rfl rfl w1 w2, rOk1_T (rOk_0 (by decide) w1 w2)⟩
        · obtain ⟨w1, w2⟩ := z1 (.inr rfl)
          exact ⟨HC z w1 w2, HR z w1 w2⟩
        · obtain ⟨w1, w2⟩ := z2 rfl
          exact ⟨dOk_2 (by decide) w1 w2, rOk1_T (rOk_2 (by decide) w1 w2)⟩
        · obtain ⟨w1, w2⟩ := z3 rfl
          exact ⟨dOk_3 (by decide) w1 w2, rOk1_T (rOk_3 (by decide) w1 w2)⟩
      obtain ⟨V', I', R', tl', k1, k2, k3, k4, k5⟩ := c_200g (q := (tW, tT)) (N := 1000) (i := i) (kd := kd) (z := z) (n := n) (x := x) (by decide) hi hb hn16 hD.1
      obtain ⟨Q, q1, q2, q3⟩ := hD.2
      obtain ⟨V2, I2, L2, m1, m2, m3⟩ := r_488g (V := V') (I := I') (L := lup (L0 (tW, tT)) 268 (vp_updL (L0 (tW, tT) 268) 0 (Int32.toInt64 0))) (R := R') (tl := tl') (N := 1000) (i := i) (kd := kd) (z := z) (n := n) (x := x) (by decide) hi hb hn1 hn16 q1 q2 (q3 _ (fun y y1 y2 _ => (if_neg y2).trans (k3 y (by omega)))) (by rw [k2]; rfl) (.inl ⟨by rw [k2]; rfl, rfl, rfl⟩) ⟨0, by rw [k2]; rfl⟩
      refine ⟨_, ⟨0, fx V' I' (lup (L0 (tW, tT)) 268 (vp_updL (L0 (tW, tT) 268) 0 (Int32.toInt64 0))) R' ++ tl', nI 0, Int32.toInt64 0, ?_, rfl, m1, rfl, ?_, fun _ => ⟨?_, rfl⟩⟩, fits_fx (by omega) (by omega)⟩
      · simp only [fm_199, fg_199_0, k1]
        rfl
      · show am_vI (some (V2 174 0)) = _
        rw [m2]
        rfl
      · refine (ev_aL (f := L2 268) (n := 1) rfl rfl).trans ?_
        rw [m3]
        rfl
    · refine ⟨hpT (tW, tT) 2, ⟨2, hpE (tW, tT), 0, 0, ?_, rfl, r_488b hi hb, rfl, rfl, fun e => absurd e (by decide)⟩, hpT_fits (tW, tT) 2⟩
      have hz : fm_200 1000 (.ref 0) (nI i) a2 a3 a4 x (hp0 (tW, tT)) = some (.inr (0, hpE (tW, tT))) := c_200h rfl (c_201v (tW, tT) hi) (c_200b hb)
      simp only [fm_199, fg_199_0, hz]
      rfl
