/-! ===== shown unlike: the class ===== -/
def unB (o o' : Int32 × Nat × Int32) : Bool := decide (o.1 ≠ 3 ∧ o'.1 ≠ 3 ∧ (o.1 ≠ o'.1 ∨ o.2.2 ≠ o'.2.2))
def bI (b : Bool) : Int32 := if b = true then 1 else 0
set_option maxRecDepth 100000 in
set_option maxHeartbeats 1600000 in
theorem c_297r {V : Nat → Nat → Value} {I : Nat → Nat → Int32} {L : Nat → Nat → Int64} {R : Nat → Nat → Option Nat} {tl : am_H} {N : Nat} {X : Value} {q : Int32} {W1 W2 : Nat → Nat → Value} {J1 J2 : Nat → Nat → Int32} {o o' : Int32 × Nat × Int32} (e1 : fm_116 N (.ref 16) X q (fx V I L R ++ tl) = some (.inl (none, fx W1 J1 L R ++ tl))) (e2 : fm_116 N (.ref 27) X q (fx W1 J1 L R ++ tl) = some (.inl (none, fx W2 J2 L R ++ tl))) (u1 : W2 16 1 = .int o.1) (u3 : W2 16 3 = .int o.2.2) (y1 : W2 27 1 = .int o'.1) (y3 : W2 27 3 = .int o'.2.2) : fm_297 N (.ref 14) X q (fx V I L R ++ tl) = some (.inl (some (.int (bI (unB o o'))), fx W2 J2 L R ++ tl)) := by
  unfold fm_297 fg_297_0
  refine ev_b (a := Value.ref 16) rfl (ev_i rfl (ev_cV e1 (ev_b (a := Value.ref 27) rfl (ev_i rfl (ev_cV e2 (ev_b (a := Value.ref 16) rfl (ev_b (rdI u1) ?_)))))))
  by_cases c1 : o.1 = 3
  · rw [show unB o o' = false from decide_eq_false (fun h => h.1 c1)]
    exact ev_t c1 rfl
  · refine ev_f c1 (ev_b (a := Value.ref 27) rfl (ev_b (rdI y1) ?_))
    by_cases c2 : o'.1 = 3
    · rw [show unB o o' = false from decide_eq_false (fun h => h.2.1 c2)]
      exact ev_t c2 rfl
    · refine ev_f c2 (ev_b (a := Value.ref 16) rfl (ev_b (rdI u1) (ev_b (a := Value.ref 27) rfl (ev_b (rdI y1) ?_))))
      by_cases c3 : o.1 = o'.1
      · refine ev_f (fun h => h c3) (ev_b (a := Value.ref 16) rfl (ev_b (rdI u3) (ev_b (a := Value.ref 27) rfl (ev_b (rdI y3) ?_))))
        by_cases c4 : o.2.2 = o'.2.2
        · rw [show unB o o' = false from decide_eq_false (fun h => h.2.2.elim (fun e => e c3) (fun e => e c4))]
          exact ev_t c4 rfl
        · rw [show unB o o' = true from decide_eq_true ⟨c1, c2, .inr c4⟩]
          exact ev_f c4 rfl
      · rw [show unB o o' = true from decide_eq_true ⟨c1, c2, .inl c3⟩]
        exact ev_t c3 rfl
/-- a row that tells two programs apart -/
def uw (x y z l : Int32) (row g : Nat → Int32) : Prop := g 0 = x ∧ g 1 = y ∧ g 2 = z ∧ g 3 = l ∧ (∀ i, i < 8 → g (4 + i) = row i) ∧ ∀ j, 12 ≤ j → j < 15 → g j = 0
theorem uw_eq {x y z l : Int32} {row row' g g' : Nat → Int32} (h : uw x y z l row g) (h' : uw x y z l row' g') (hr : ∀ i, i < 8 → row i = row' i) : ∀ j, j < 15 → g j = g' j := by
  intro j hj
  obtain ⟨a0, a1, a2, a3, a4, a5⟩ := h
  obtain ⟨b0, b1, b2, b3, b4, b5⟩ := h'
  by_cases c : j < 4
  · rcases (by omega : j = 0 ∨ j = 1 ∨ j = 2 ∨ j = 3) with rfl | rfl | rfl | rfl
    · exact a0.trans b0.symm
    · exact a1.trans b1.symm
    · exact a2.trans b2.symm
    · exact a3.trans b3.symm
  · by_cases d : j < 12
    · obtain ⟨i, rfl⟩ : ∃ i, j = 4 + i := ⟨j - 4, by omega⟩
      rw [a4 i (by omega), b4 i (by omega), hr i (by omega)]
    · rw [a5 j (by omega) hj, b5 j (by omega) hj]
theorem cp_15 {V : Nat → Nat → Value} {I : Nat → Nat → Int32} {L : Nat → Nat → Int64} {R : Nat → Nat → Option Nat} {tl : am_H} {sp dp n : Nat} (h0 : sp + n ≤ 360) (h2 : dp + n ≤ 15) : am_pCpy (.ref 15) (nI sp) (.ref 166) (nI dp) (nI n) (fx V I L R ++ tl) = some (fx V (iup I 166 (va_cpy (I 15) (I 166) sp dp n)) L R ++ tl) := ev_cpy (f := I 15) (g := I 166) (n0 := 360) (n1 := 15) rfl rfl h0 h2 (by omega) (by omega) rfl
set_option maxRecDepth 100000 in
set_option maxHeartbeats 1600000 in
theorem c_298_15 {V : Nat → Nat → Value} {I : Nat → Nat → Int32} {L : Nat → Nat → Int64} {R : Nat → Nat → Option Nat} {tl : am_H} {N q : Nat} (hN : 100 < N) (hq : q + 15 ≤ 360) : ∃ g, uw (I 15 q) (I 15 (q + 1)) (I 15 (q + 2)) (I 15 (q + 6)) (fun i => I 15 (q + 7 + i)) g ∧ fm_298 N (.ref 0) (.ref 15) (nI q) (fx V I L R ++ tl) = some (.inl (some (.int 1), fx V (iup I 166 g) L R ++ tl)) := by
  refine ⟨va_cpy (I 15) (upd (va_cpy (I 15) (filf (I 166) 0 15) q 0 3) 3 (I 15 (q + 6))) (q + 7) 4 8, ?_, ?_⟩
  · have hi : ∀ i, i < 3 → va_cpy (I 15) (upd (va_cpy (I 15) (filf (I 166) 0 15) q 0 3) 3 (I 15 (q + 6))) (q + 7) 4 8 i = I 15 (q + i) := fun i h => by
      unfold va_cpy
      rw [if_neg (by omega), upd_ne (by omega), if_pos ⟨by omega, by omega⟩, show q + (i - 0) = q + i by omega]
    refine ⟨hi 0 (by omega), hi 1 (by omega), hi 2 (by omega), ?_, fun i h => ?_, fun j h1 h2 => ?_⟩
    · unfold va_cpy
      rw [if_neg (by omega), upd_eq]
    · unfold va_cpy
      rw [if_pos ⟨by omega, by omega⟩, show q + 7 + (4 + i - 4) = q + 7 + i by omega]
    · unfold va_cpy filf
      rw [if_neg (by omega), upd_ne (by omega), if_neg (by omega), if_pos h2]
  · have k1 : am_pCpy (.ref 15) (nI q) (.ref 166) 0 3 (fx V (iup I 166 (filf (I 166) 0 15)) L R ++ tl) = some (fx V (iup I 166 (va_cpy (I 15) (filf (I 166) 0 15) q 0 3)) L R ++ tl) := by
      have h := cp_15 (V := V) (I := iup I 166 (filf (I 166) 0 15)) (L := L) (R := R) (tl := tl) (sp := q) (dp := 0) (n := 3) (by omega) (by omega)
      rw [iup_eq, iup_iup, iup_na (show 15 ≠ 166 by decide)] at h
      exact h
    have k3 : am_pCpy (.ref 15) (nI (q + 7)) (.ref 166) 4 8 (fx V (iup I 166 (upd (va_cpy (I 15) (filf (I 166) 0 15) q 0 3) 3 (I 15 (q + 6)))) L R ++ tl) = some (fx V (iup I 166 (va_cpy (I 15) (upd (va_cpy (I 15) (filf (I 166) 0 15) q 0 3) 3 (I 15 (q + 6))) (q + 7) 4 8)) L R ++ tl) := by
      have h := cp_15 (V := V) (I := iup I 166 (upd (va_cpy (I 15) (filf (I 166) 0 15) q 0 3) 3 (I 15 (q + 6)))) (L := L) (R := R) (tl := tl) (sp := q + 7) (dp := 4) (n := 8) (by omega) (by omega)
      rw [iup_eq, iup_iup, iup_na (show 15 ≠ 166 by decide)] at h
      exact h
    unfold fm_298 fg_298_0
    rw [show nI q + 6 = nI (q + 6) from nI_add q 6, show nI q + 7 = nI (q + 7) from nI_add q 7]
    refine ev_b (a := Value.ref 166) rfl (ev_cV (h1 := fx V (iup I 166 (filf (I 166) 0 15)) L R ++ tl) (e_53 (a := 166) (n := 15) (f := I 166) rfl (by omega) (by omega)) (ev_b (a := Value.ref 166) rfl (ev_b k1 (ev_b (a := Value.ref 166) rfl ?_))))
    exact ev_b (a := I 15 (q + 6)) (qa_15 (by omega)) (ev_b (a := fx V (iup I 166 (upd (va_cpy (I 15) (filf (I 166) 0 15) q 0 3) 3 (I 15 (q + 6)))) L R ++ tl) ((qs_166 (k := 3) (by omega)).trans (by rw [iup_eq, iup_iup])) (ev_b (a := Value.ref 166) rfl (ev_b k3 rfl)))
theorem cp_165 {V : Nat → Nat → Value} {I : Nat → Nat → Int32} {L : Nat → Nat → Int64} {R : Nat → Nat → Option Nat} {tl : am_H} {sp dp n : Nat} (h0 : sp + n ≤ 15) (h2 : dp + n ≤ 15) : am_pCpy (.ref 165) (nI sp) (.ref 166) (nI dp) (nI n) (fx V I L R ++ tl) = some (fx V (iup I 166 (va_cpy (I 165) (I 166) sp dp n)) L R ++ tl) := ev_cpy (f := I 165) (g := I 166) (n0 := 15) (n1 := 15) rfl rfl h0 h2 (by omega) (by omega) rfl
set_option maxRecDepth 100000 in
set_option maxHeartbeats 1600000 in
theorem c_298_165 {V : Nat → Nat → Value} {I : Nat → Nat → Int32} {L : Nat → Nat → Int64} {R : Nat → Nat → Option Nat} {tl : am_H} {N q : Nat} (hN : 100 < N) (hq : q + 15 ≤ 15) : ∃ g, uw (I 165 q) (I 165 (q + 1)) (I 165 (q + 2)) (I 165 (q + 6)) (fun i => I 165 (q + 7 + i)) g ∧ fm_298 N (.ref 0) (.ref 165) (nI q) (fx V I L R ++ tl) = some (.inl (some (.int 1), fx V (iup I 166 g) L R ++ tl)) := by
  refine ⟨va_cpy (I 165) (upd (va_cpy (I 165) (filf (I 166) 0 15) q 0 3) 3 (I 165 (q + 6))) (q + 7) 4 8, ?_, ?_⟩
  · have hi : ∀ i, i < 3 → va_cpy (I 165) (upd (va_cpy (I 165) (filf (I 166) 0 15) q 0 3) 3 (I 165 (q + 6))) (q + 7) 4 8 i = I 165 (q + i) := fun i h => by
      unfold va_cpy
      rw [if_neg (by omega), upd_ne (by omega), if_pos ⟨by omega, by omega⟩, show q + (i - 0) = q + i by omega]
    refine ⟨hi 0 (by omega), hi 1 (by omega), hi 2 (by omega), ?_, fun i h => ?_, fun j h1 h2 => ?_⟩
    · unfold va_cpy
      rw [if_neg (by omega), upd_eq]
    · unfold va_cpy
      rw [if_pos ⟨by omega, by omega⟩, show q + 7 + (4 + i - 4) = q + 7 + i by omega]
    · unfold va_cpy filf
      rw [if_neg (by omega), upd_ne (by omega), if_neg (by omega), if_pos h2]
  · have k1 : am_pCpy (.ref 165) (nI q) (.ref 166) 0 3 (fx V (iup I 166 (filf (I 166) 0 15)) L R ++ tl) = some (fx V (iup I 166 (va_cpy (I 165) (filf (I 166) 0 15) q 0 3)) L R ++ tl) := by
      have h := cp_165 (V := V) (I := iup I 166 (filf (I 166) 0 15)) (L := L) (R := R) (tl := tl) (sp := q) (dp := 0) (n := 3) (by omega) (by omega)
      rw [iup_eq, iup_iup, iup_na (show 165 ≠ 166 by decide)] at h
      exact h
    have k3 : am_pCpy (.ref 165) (nI (q + 7)) (.ref 166) 4 8 (fx V (iup I 166 (upd (va_cpy (I 165) (filf (I 166) 0 15) q 0 3) 3 (I 165 (q + 6)))) L R ++ tl) = some (fx V (iup I 166 (va_cpy (I 165) (upd (va_cpy (I 165) (filf (I 166) 0 15) q 0 3) 3 (I 165 (q + 6))) (q + 7) 4 8)) L R ++ tl) := by
      have h := cp_165 (V := V) (I := iup I 166 (upd (va_cpy (I 165) (filf (I 166) 0 15) q 0 3) 3 (I 165 (q + 6)))) (L := L) (R := R) (tl := tl) (sp := q + 7) (dp := 4) (n := 8) (by omega) (by omega)
      rw [iup_eq, iup_iup, iup_na (show 165 ≠ 166 by decide)] at h
      exact h
    unfold fm_298 fg_298_0
    rw [show nI q + 6 = nI (q + 6) from nI_add q 6, show nI q + 7 = nI (q + 7) from nI_add q 7]
    refine ev_b (a := Value.ref 166) rfl (ev_cV (h1 := fx V (iup I 166 (filf (I 166) 0 15)) L R ++ tl) (e_53 (a := 166) (n := 15) (f := I 166) rfl (by omega) (by omega)) (ev_b (a := Value.ref 166) rfl (ev_b k1 (ev_b (a := Value.ref 166) rfl ?_))))
    exact ev_b (a := I 165 (q + 6)) (qa_165 (by omega)) (ev_b (a := fx V (iup I 166 (upd (va_cpy (I 165) (filf (I 166) 0 15) q 0 3) 3 (I 165 (q + 6)))) L R ++ tl) ((qs_166 (k := 3) (by omega)).trans (by rw [iup_eq, iup_iup])) (ev_b (a := Value.ref 166) rfl (ev_b k3 rfl)))

/-- the trials -/
def tX (k : Nat) : Int32 := (nI k / 25 - (nI k / 25) / 5 * 5) - 2
def tY (k : Nat) : Int32 := (nI k / 5 - (nI k / 5) / 5 * 5) - 2
def tZ (k : Nat) : Int32 := (nI k - nI k / 5 * 5) - 2
def tN (k : Nat) : Nat := if 125 ≤ k then 3 else 0
def tR (k i : Nat) : Int32 := if 125 ≤ k then nI (i + 1) else 0
def tF (F : Nat → Int32) (k : Nat) : Nat → Int32 := upd (upd (upd (upd (upd (upd (upd F 0 (tX k)) 1 (tY k)) 2 (tZ k)) 6 (nI (tN k))) 7 (tR k 0)) 8 (tR k 1)) 9 (tR k 2)
theorem tF_9 {F : Nat → Int32} {k i : Nat} (h : i < 3) : tF F k (7 + i) = tR k i := by
  rcases (by omega : i = 0 ∨ i = 1 ∨ i = 2) with rfl | rfl | rfl <;> rfl
theorem tF_o {F : Nat → Int32} {k j : Nat} (h : 10 ≤ j) : tF F k j = F j := by
  unfold tF
  rw [upd_ne (by omega), upd_ne (by omega), upd_ne (by omega), upd_ne (by omega), upd_ne (by omega), upd_ne (by omega), upd_ne (by omega)]
/-- what shownUnlike may change -/
def frU (V W : Nat → Nat → Value) (I J : Nat → Nat → Int32) : Prop := (∀ a j, a ≠ 16 → a ≠ 27 → ¬ (a = 17 ∧ j = 7) → ¬ (a = 28 ∧ j = 7) → W a j = V a j) ∧ W 16 0 = V 16 0 ∧ W 27 0 = V 27 0 ∧ (∀ y, y ≠ 18 → y ≠ 25 → y ≠ 26 → y ≠ 29 → y ≠ 36 → y ≠ 37 → y ≠ 165 → J y = I y) ∧ (∀ j, 10 ≤ j → J 165 j = I 165 j) ∧ (wt V → wt W)
theorem frU_D {V W : Nat → Nat → Value} {I J : Nat → Nat → Int32} (h : frD V W I J) : frU V W I J := ⟨h.1, h.2.1, h.2.2.1, fun y a b c d e f _ => h.2.2.2.1 y a b c d e f, fun j _ => by rw [h.2.2.2.1 165 (by decide) (by decide) (by decide) (by decide) (by decide) (by decide)], h.2.2.2.2⟩
theorem frU_t {V W X : Nat → Nat → Value} {I J K : Nat → Nat → Int32} (h1 : frU V W I J) (h2 : frU W X J K) : frU V X I K := ⟨fun a j p q r s => (h2.1 a j p q r s).trans (h1.1 a j p q r s), h2.2.1.trans h1.2.1, h2.2.2.1.trans h1.2.2.1, fun y a b c d e f g => (h2.2.2.2.1 y a b c d e f g).trans (h1.2.2.2.1 y a b c d e f g), fun j hj => (h2.2.2.2.2.1 j hj).trans (h1.2.2.2.2.1 j hj), fun w => h2.2.2.2.2.2 (h1.2.2.2.2.2 w)⟩
theorem frU_i {V : Nat → Nat → Value} {I : Nat → Nat → Int32} {k : Nat} : frU V V I (iup I 165 (tF (I 165) k)) := ⟨fun _ _ _ _ _ _ => rfl, rfl, rfl, fun y _ _ _ _ _ _ h => iup_na h, fun j hj => by rw [iup_eq]; exact tF_o hj, id⟩
theorem ldC_I {V : Nat → Nat → Value} {I J : Nat → Nat → Int32} {tl : am_H} {a it kd ln sz m0 lm : Nat} {fi s v : Nat → Int32} (hi : J it = I it) (h18 : J 18 = I 18) (h : ldC V I tl a it kd ln sz m0 fi s v lm) : ldC V J tl a it kd ln sz m0 fi s v lm := by
  obtain ⟨hp, ne, h1, hs, hm0, hm1, h4, h0, hlo, hhi, hT⟩ := h
  refine ⟨prA_c (fun j => rfl) hi hp, ne, h1, hs, hm0, hm1, h4, h0, hlo, hhi, fun e => ?_⟩
  rw [h18]
  exact hT e
theorem ldCb_I {V : Nat → Nat → Value} {I J : Nat → Nat → Int32} {tl : am_H} {a it kd ln sz m0 lm : Nat} {fi s v : Nat → Int32} (hi : J it = I it) (h18 : J 29 = I 29) (h : ldC_b V I tl a it kd ln sz m0 fi s v lm) : ldC_b V J tl a it kd ln sz m0 fi s v lm := by
  obtain ⟨hp, ne, h1, hs, hm0, hm1, h4, h0, hlo, hhi, hT⟩ := h
  refine ⟨prA_c (fun j => rfl) hi hp, ne, h1, hs, hm0, hm1, h4, h0, hlo, hhi, fun e => ?_⟩
  rw [h18]
  exact hT e
set_option maxRecDepth 100000 in
set_option maxHeartbeats 1600000 in
theorem c_296i {L : Nat → Nat → Int64} {R : Nat → Nat → Option Nat} {tl : am_H} {V : Nat → Nat → Value} {N k : Nat} {rc : Value → Int32 → am_H → Option am_O} (hk : k < 250) : ∀ (i K : Nat) (I : Nat → Nat → Int32), i < 3 → fg_296_146 N rc (K + 1) (.ref 0) (nI k) (nI i) (fx V I L R ++ tl) = fg_296_146 N rc K (.ref 0) (nI k) (nI (i + 1)) (fx V (iup I 165 (upd (I 165) (7 + i) (tR k i))) L R ++ tl) := by
  intro i K I hi
  rw [fg_296_146]
  refine ev_f (nI_ge (b := 3) (by omega) (by omega)) (ev_b (a := Value.ref 165) rfl ?_)
  unfold tR
  rw [show (7 : Int32) + nI i = nI (7 + i) from nI_add 7 i, nI_1]
  by_cases c : 125 ≤ k
  · refine ev_t (nI_le (a := 125) c (by omega)) ?_
    unfold fg_296_175
    rw [if_pos c, nI_1]
    exact ev_b (qs_165 (by omega)) rfl
  · refine ev_f (nI_ge (b := 125) (by omega) (by omega)) ?_
    unfold fg_296_175
    rw [if_neg c, nI_1]
    exact ev_b (qs_165 (by omega)) rfl
set_option maxRecDepth 100000 in
set_option maxHeartbeats 1600000 in
/-- one trial -/
theorem c_296o {V : Nat → Nat → Value} {I : Nat → Nat → Int32} {L : Nat → Nat → Int64} {R : Nat → Nat → Option Nat} {tl : am_H} {N K k : Nat} {b : Bool} {W : Nat → Nat → Value} {J : Nat → Nat → Int32} (hN : 100 < N) (hk : k < 250) (e : fm_297 N (.ref 14) (.ref 165) 0 (fx V (iup I 165 (tF (I 165) k)) L R ++ tl) = some (.inl (some (.int (bI b)), fx W J L R ++ tl))) : (b = false → fg_296_80 N (K + 1) (.ref 0) (nI k) (fx V I L R ++ tl) = fg_296_80 N K (.ref 0) (nI (k + 1)) (fx W J L R ++ tl)) ∧ (b = true → ∃ g, uw (J 165 0) (J 165 1) (J 165 2) (J 165 6) (fun i => J 165 (7 + i)) g ∧ fg_296_80 N (K + 1) (.ref 0) (nI k) (fx V I L R ++ tl) = some (.inl (some (.int 1), fx W (iup J 166 g) L R ++ tl))) := by
  obtain ⟨M, rfl⟩ : ∃ M, N = M + 4 := ⟨N - 4, by omega⟩
  have e3 : ∀ X o, ((am_vR (am_pG 2819 (.ref 0) (fx V X L R ++ tl))).bind fun v2 => ((am_vR (am_pG 2827 (.ref 0) (fx V X L R ++ tl))).bind fun v4 => (if am_pOk 2 v2 (fx V X L R ++ tl) then am_cI true (fm_297 (M + 4) v2 v4 0 (fx V X L R ++ tl)) (fun v7 h8 => (if v7 = 0 then (fg_296_80 (M + 4) K (.ref 0) ((nI k + 1)) h8) else ((am_vR (am_pG 2827 (.ref 0) h8)).bind fun v11 => (if am_pOk 11 (.ref 0) h8 then am_cI true (fm_298 (M + 4) (.ref 0) v11 0 h8) (fun v14 h15 => (if am_rfit (some FieldType.boolean) v14 then some (.inl (some (.int v14), h15)) else none)) else none)))) else none))) = o → fg_296_146 (M + 4) (fg_296_80 (M + 4) K) (M + 1) (.ref 0) (nI k) (nI 3) (fx V X L R ++ tl) = o := fun X o h => by
    rw [fg_296_146]
    exact ev_t (by decide) h
  have head : ∀ o, fg_296_146 (M + 4) (fg_296_80 (M + 4) K) (M + 4) (.ref 0) (nI k) (nI 0) (fx V (iup I 165 (upd (upd (upd (upd (I 165) 0 (tX k)) 1 (tY k)) 2 (tZ k)) 6 (nI (tN k)))) L R ++ tl) = o → fg_296_80 (M + 4) (K + 1) (.ref 0) (nI k) (fx V I L R ++ tl) = o := fun o h => by
    rw [fg_296_80]
    refine ev_f (nI_ge (b := 250) (by omega) (by omega)) (ev_b (a := Value.ref 165) rfl (ev_b (a := fx V (iup I 165 (upd (I 165) 0 (tX k))) L R ++ tl) (qs_165 (k := 0) (by omega)) (ev_b (a := Value.ref 165) rfl (ev_b (a := fx V (iup I 165 (upd (upd (I 165) 0 (tX k)) 1 (tY k))) L R ++ tl) ((qs_165 (k := 1) (by omega)).trans (by rw [iup_eq, iup_iup]; rfl)) (ev_b (a := Value.ref 165) rfl (ev_b (a := fx V (iup I 165 (upd (upd (upd (I 165) 0 (tX k)) 1 (tY k)) 2 (tZ k))) L R ++ tl) ((qs_165 (k := 2) (by omega)).trans (by rw [iup_eq, iup_iup]; rfl)) (ev_b (a := Value.ref 165) rfl ?_)))))))
    unfold tN at h
    by_cases c : 125 ≤ k
    · rw [if_pos c] at h
      refine ev_t (nI_le (a := 125) c (by omega)) ?_
      unfold fg_296_142
      exact ev_b ((qs_165 (k := 6) (x := nI 3) (by omega)).trans (by rw [iup_eq, iup_iup])) h
    · rw [if_neg c] at h
      refine ev_f (nI_ge (b := 125) (by omega) (by omega)) ?_
      unfold fg_296_142
      exact ev_b ((qs_165 (k := 6) (x := nI 0) (by omega)).trans (by rw [iup_eq, iup_iup])) h
  have run : ∀ o, ((am_vR (am_pG 2819 (.ref 0) (fx V (iup I 165 (tF (I 165) k)) L R ++ tl))).bind fun v2 => ((am_vR (am_pG 2827 (.ref 0) (fx V (iup I 165 (tF (I 165) k)) L R ++ tl))).bind fun v4 => (if am_pOk 2 v2 (fx V (iup I 165 (tF (I 165) k)) L R ++ tl) then am_cI true (fm_297 (M + 4) v2 v4 0 (fx V (iup I 165 (tF (I 165) k)) L R ++ tl)) (fun v7 h8 => (if v7 = 0 then (fg_296_80 (M + 4) K (.ref 0) ((nI k + 1)) h8) else ((am_vR (am_pG 2827 (.ref 0) h8)).bind fun v11 => (if am_pOk 11 (.ref 0) h8 then am_cI true (fm_298 (M + 4) (.ref 0) v11 0 h8) (fun v14 h15 => (if am_rfit (some FieldType.boolean) v14 then some (.inl (some (.int v14), h15)) else none)) else none)))) else none))) = o → fg_296_80 (M + 4) (K + 1) (.ref 0) (nI k) (fx V I L R ++ tl) = o := fun o h => by
    refine head o ?_
    rw [c_296i hk 0 (M + 3) _ (by omega), c_296i hk 1 (M + 2) _ (by omega), c_296i hk 2 (M + 1) _ (by omega)]
    rw [iup_eq, iup_iup, iup_eq, iup_iup, iup_eq, iup_iup]
    exact e3 _ o h
  refine ⟨fun hb => run _ ?_, fun hb => ?_⟩
  · subst hb
    refine ev_b (a := Value.ref 14) rfl (ev_b (a := Value.ref 165) rfl (ev_i rfl (ev_cI e (ev_t rfl ?_))))
    rw [nI_1]
  · subst hb
    obtain ⟨g, g1, g2⟩ := c_298_165 (V := W) (I := J) (L := L) (R := R) (tl := tl) (N := M + 4) (q := 0) hN (by omega)
    rw [show (fun i => J 165 (0 + 7 + i)) = fun i => J 165 (7 + i) from rfl] at g1
    refine ⟨g, g1, run _ ?_⟩
    exact ev_b (a := Value.ref 14) rfl (ev_b (a := Value.ref 165) rfl (ev_i rfl (ev_cI e (ev_f (by decide) (ev_b (a := Value.ref 165) rfl (ev_i rfl (ev_cI g2 rfl)))))))
set_option maxRecDepth 100000 in
set_option maxHeartbeats 1600000 in
theorem c_296t {L : Nat → Nat → Int64} {R : Nat → Nat → Option Nat} {tl : am_H} {N a it kd ln sz m0 a' it' kd' ln' sz' m0' lm : Nat} {fi s v fi' s' v' : Nat → Int32} {Oc Od : Nat → Int32 × Nat × Int32} (hN : 100 < N) (hO : ∀ k, k < 250 → rP kd ln sz s v lm (tX k) (tY k) (tZ k) (tN k) (tR k) (Oc k)) (hO' : ∀ k, k < 250 → rP kd' ln' sz' s' v' lm (tX k) (tY k) (tZ k) (tN k) (tR k) (Od k)) : ∀ (q k K : Nat) (V : Nat → Nat → Value) (I : Nat → Nat → Int32), k + q = 250 → q < K → wt V → ldC V I tl (269 + a) (269 + it) kd ln sz m0 fi s v lm → ldC_b V I tl (269 + a') (269 + it') kd' ln' sz' m0' fi' s' v' lm → (∀ j, 10 ≤ j → j < 15 → I 165 j = 0) → match nFs (fun k => unB (Oc k) (Od k)) q k with
    | none => ∃ W J, fg_296_80 N K (.ref 0) (nI k) (fx V I L R ++ tl) = some (.inl (some (.int 0), fx W J L R ++ tl)) ∧ frU V W I J
    | some y => y < 250 ∧ ∃ W J g, fg_296_80 N K (.ref 0) (nI k) (fx V I L R ++ tl) = some (.inl (some (.int 1), fx W (iup J 166 g) L R ++ tl)) ∧ frU V W I J ∧ uw (tX y) (tY y) (tZ y) (nI (tN y)) (fun i => if i < 3 then tR y i else 0) g := by
  intro q
  induction q with
  | zero =>
    intro k K V I hk hK hw hl hl' hz
    obtain ⟨K, rfl⟩ : ∃ k, K = k + 1 := ⟨K - 1, by omega⟩
    obtain rfl : k = 250 := by omega
    refine ⟨V, I, ?_, frU_D frD_r⟩
    rw [fg_296_80]
    exact ev_t (by decide) rfl
  | succ q ih =>
    intro k K V I hk hK hw hl hl' hz
    obtain ⟨K, rfl⟩ : ∃ k, K = k + 1 := ⟨K - 1, by omega⟩
    have l1 := ldC_I (J := iup I 165 (tF (I 165) k)) (iup_na (by omega)) (iup_na (by decide)) hl
    have l2 := ldCb_I (J := iup I 165 (tF (I 165) k)) (iup_na (by omega)) (iup_na (by decide)) hl'
    have t8 : tN k ≤ 8 := by unfold tN; by_cases c : 125 ≤ k <;> simp [c]
    have t3 : tN k ≤ 3 := by unfold tN; by_cases c : 125 ≤ k <;> simp [c]
    obtain ⟨W1, J1, e1, x1, x2, x3, f1⟩ := k_perf_165 (L := L) (R := R) (fr := 0) hN hw l1 (hO k (by omega)) (by omega) (by rw [iup_eq]; rfl) (by rw [iup_eq]; rfl) (by rw [iup_eq]; rfl) (by rw [iup_eq]; rfl) t8 (fun i hi => by rw [iup_eq, Nat.zero_add]; exact tF_9 (by omega))
    have j1 : J1 165 = tF (I 165) k := (f1.2.2.2.1 165 (by decide) (by decide)).trans iup_eq
    obtain ⟨W2, J2, e2, y1, y2, y3, f2⟩ := k_perf_165_b (L := L) (R := R) (fr := 0) hN (f1.2.2.2.2 hw) (ldCb_P f1 (by omega) (by omega) (by omega) l2) (hO' k (by omega)) (by omega) (by rw [j1]; rfl) (by rw [j1]; rfl) (by rw [j1]; rfl) (by rw [j1]; rfl) t8 (fun i hi => by rw [j1, Nat.zero_add]; exact tF_9 (by omega))
    have fd := frU_t (frU_i (k := k)) (frU_D (frD_t (frD_P f1) (frD_Pb f2)))
    have e := c_297r e1 e2 ((f2.1 16 1 (by decide)).trans x1) ((f2.1 16 3 (by decide)).trans x3) y1 y3
    have j2 : J2 165 = tF (I 165) k := (f2.2.2.2.1 165 (by decide) (by decide)).trans j1
    have o := c_296o (K := K) hN (by omega) e
    have hz2 : ∀ j, 10 ≤ j → j < 15 → J2 165 j = 0 := fun j h1 h2 => by rw [j2, tF_o h1]; exact hz j h1 h2
    by_cases c : unB (Oc k) (Od k) = true
    · rw [nFs, if_pos c]
      obtain ⟨g, g1, g2⟩ := o.2 c
      refine ⟨by omega, W2, J2, g, g2, fd, ?_⟩
      rw [j2] at g1
      obtain ⟨u0, u1, u2, u3, u4, u5⟩ := g1
      refine ⟨u0, u1, u2, u3, fun i hi => ?_, u5⟩
      rw [u4 i hi]
      show tF (I 165) k (7 + i) = (if i < 3 then tR k i else 0)
      by_cases c3 : i < 3
      · rw [if_pos c3]; exact tF_9 c3
      · rw [if_neg c3, ← j2]; exact hz2 _ (by omega) (by omega)
    · rw [nFs, if_neg c]
      have q := ih (k + 1) K W2 J2 (by omega) (by omega) (fd.2.2.2.2.2 hw) (ldC_Pb f2 (by omega) (by omega) (by omega) (ldC_c f1 l1)) (ldC_c_b f2 (ldCb_P f1 (by omega) (by omega) (by omega) l2)) hz2
      have o1 := o.1 (Bool.eq_false_iff.mpr c)
      revert q
      cases nFs (fun k => unB (Oc k) (Od k)) q (k + 1) with
      | none =>
        intro q
        obtain ⟨W', J', e', f'⟩ := q
        exact ⟨W', J', o1.trans e', frU_t fd f'⟩
      | some y =>
        intro q
        obtain ⟨yl, W', J', g, e', f', u⟩ := q
        exact ⟨yl, W', J', g, o1.trans e', frU_t fd f', u⟩
set_option maxRecDepth 100000 in
set_option maxHeartbeats 1600000 in
theorem c_296l {L : Nat → Nat → Int64} {R : Nat → Nat → Option Nat} {tl : am_H} {I0 : Nat → Nat → Int32} {N a it kd ln sz m0 a' it' kd' ln' sz' m0' lm m : Nat} {fi s v fi' s' v' : Nat → Int32} {Oc Od : Nat → Int32 × Nat × Int32} (hN : 100 < N) (hne : a ≠ 27 ∧ it ≠ 36 ∧ it ≠ 37) (hne' : a' ≠ 16 ∧ it' ≠ 25 ∧ it' ≠ 26) (hO : ∀ k, k < m → cO kd ln sz s v lm I0 k (Oc k)) (hO' : ∀ k, k < m → cO kd' ln' sz' s' v' lm I0 k (Od k)) : ∀ (q k K : Nat) (V : Nat → Nat → Value) (I : Nat → Nat → Int32), k + q = m → q < K → wt V → ldC V I tl a it kd ln sz m0 fi s v lm → ldC_b V I tl a' it' kd' ln' sz' m0' fi' s' v' lm → csK V I I0 m → match nFs (fun k => unB (Oc k) (Od k)) q k with
    | none => ∃ W J, fg_296_24 N K (.ref 0) (nI k) (fx V I L R ++ tl) = fg_296_80 N N (.ref 0) (nI 0) (fx W J L R ++ tl) ∧ frD V W I J ∧ ldC W J tl a it kd ln sz m0 fi s v lm ∧ ldC_b W J tl a' it' kd' ln' sz' m0' fi' s' v' lm
    | some y => y < m ∧ ∃ W J g, fg_296_24 N K (.ref 0) (nI k) (fx V I L R ++ tl) = some (.inl (some (.int 1), fx W (iup J 166 g) L R ++ tl)) ∧ frD V W I J ∧ uw (I0 197 y) (I0 198 y) (I0 199 y) (I0 203 y) (fun i => I0 204 (8 * y + i)) g := by
  intro q
  induction q with
  | zero =>
    intro k K V I hk hK hw hl hl' hc
    obtain ⟨K, rfl⟩ : ∃ k, K = k + 1 := ⟨K - 1, by omega⟩
    obtain rfl : k = m := by omega
    refine ⟨V, I, ?_, frD_r, hl, hl'⟩
    rw [fg_296_24]
    exact ev_b (a := Value.ref 14) rfl (ev_b (rdI hc.1) (ev_t (nI_le (Nat.le_refl _) (by have := hc.2.2.1; omega)) rfl))
  | succ q ih =>
    intro k K V I hk hK hw hl hl' hc
    obtain ⟨K, rfl⟩ : ∃ k, K = k + 1 := ⟨K - 1, by omega⟩
    have hc' := hc
    obtain ⟨v1, v2, m24, i15, i197, cok⟩ := hc
    have ck := cOk_c i15 i197 (cok k (by omega))
    obtain ⟨W1, J1, e1, x1, x2, x3, f1⟩ := c_pf (L := L) (R := R) hN hw hl (show k < 24 by omega) ck (cO_c i197 (hO k (by omega)))
    have k1 := frP_k f1
    have hc1 := csK_c k1 hc'
    obtain ⟨W2, J2, e2, y1, y2, y3, f2⟩ := c_pf_b (L := L) (R := R) hN (k1.2.2 hw) (ldCb_P f1 hne'.1 hne'.2.1 hne'.2.2 hl') (show k < 24 by omega) (cOk_c hc1.2.2.2.1 hc1.2.2.2.2.1 (cok k (by omega))) (cO_c hc1.2.2.2.2.1 (hO' k (by omega)))
    have fd := frD_t (frD_P f1) (frD_Pb f2)
    have kd' := frD_k fd
    have hc2 := csK_c kd' hc'
    have e := c_297r e1 e2 ((f2.1 16 1 (by decide)).trans x1) ((f2.1 16 3 (by decide)).trans x3) y1 y3
    by_cases c : unB (Oc k) (Od k) = true
    · rw [nFs, if_pos c]
      rw [c] at e
      obtain ⟨g, g1, g2⟩ := c_298_15 (V := W2) (I := J2) (L := L) (R := R) (tl := tl) (N := N) (q := k * 15) hN (by omega)
      refine ⟨by omega, W2, J2, g, ?_, fd, ?_⟩
      · rw [fg_296_24]
        rw [nI_mul] at g2
        exact ev_b (a := Value.ref 14) rfl (ev_b (rdI v1) (ev_f (nI_ge (by omega) (by omega)) (ev_b (a := Value.ref 14) rfl (ev_b (a := Value.ref 14) rfl (ev_b (a := Value.ref 15) rfl (ev_i rfl (ev_cI e (ev_f (by decide) (ev_b (a := Value.ref 14) rfl (ev_b (a := Value.ref 15) rfl (ev_i rfl (ev_cI g2 rfl))))))))))))
      · rw [hc2.2.2.2.1, show k * 15 = 15 * k from Nat.mul_comm _ _] at g1
        obtain ⟨o0, o1, o2, o3, -, -, ⟨s, s1, s2, s3⟩, o7⟩ := cok k (by omega)
        obtain ⟨u0, u1, u2, u3, u4, u5⟩ := g1
        exact ⟨u0.trans o0, u1.trans o1, u2.trans o2, u3.trans (s3.trans s2.symm), fun i hi => (u4 i hi).trans ((congrArg (I0 15) (by omega)).trans (o7 i hi)), u5⟩
    · rw [nFs, if_neg c]
      rw [Bool.eq_false_iff.mpr c] at e
      have q := ih (k + 1) K W2 J2 (by omega) (by omega) (kd'.2.2 hw) (ldC_Pb f2 hne.1 hne.2.1 hne.2.2 (ldC_c f1 hl)) (ldC_c_b f2 (ldCb_P f1 hne'.1 hne'.2.1 hne'.2.2 hl')) hc2
      have o1 : fg_296_24 N (K + 1) (.ref 0) (nI k) (fx V I L R ++ tl) = fg_296_24 N K (.ref 0) (nI (k + 1)) (fx W2 J2 L R ++ tl) := by
        rw [fg_296_24]
        refine ev_b (a := Value.ref 14) rfl (ev_b (rdI v1) (ev_f (nI_ge (by omega) (by omega)) (ev_b (a := Value.ref 14) rfl (ev_b (a := Value.ref 14) rfl (ev_b (a := Value.ref 15) rfl (ev_i rfl (ev_cI e (ev_t rfl ?_))))))))
        rw [nI_1]
      revert q
      cases nFs (fun k => unB (Oc k) (Od k)) q (k + 1) with
      | none =>
        intro q
        obtain ⟨W', J', e', f', g1, g2⟩ := q
        exact ⟨W', J', o1.trans e', frD_t fd f', g1, g2⟩
      | some y =>
        intro q
        obtain ⟨yl, W', J', g, e', f', u⟩ := q
        exact ⟨yl, W', J', g, o1.trans e', frD_t fd f', u⟩
/-- what is told of two programs: P1 on the cases, P2 on the trials -/
def uOut (P1 P2 : Nat → Bool) (m : Nat) (I0 : Nat → Nat → Int32) (b : Bool) (g0 g : Nat → Int32) : Prop := match nFs P1 m 0 with
  | some y => b = true ∧ y < m ∧ uw (I0 197 y) (I0 198 y) (I0 199 y) (I0 203 y) (fun i => I0 204 (8 * y + i)) g
  | none => match nFs P2 250 0 with
    | some y => b = true ∧ uw (tX y) (tY y) (tZ y) (nI (tN y)) (fun i => if i < 3 then tR y i else 0) g
    | none => b = false ∧ g = g0
theorem uOut_eq {P1 P2 : Nat → Bool} {m : Nat} {I0 : Nat → Nat → Int32} {b b' : Bool} {g0 g g0' g' : Nat → Int32} (h : uOut P1 P2 m I0 b g0 g) (h' : uOut P1 P2 m I0 b' g0' g') (h0 : ∀ j, j < 15 → g0 j = g0' j) : b = b' ∧ ∀ j, j < 15 → g j = g' j := by
  unfold uOut at h h'
  revert h h'
  cases nFs P1 m 0 with
  | some y =>
    intro h h'
    exact ⟨h.1.trans h'.1.symm, uw_eq h.2.2 h'.2.2 (fun _ _ => rfl)⟩
  | none =>
    cases nFs P2 250 0 with
    | some y =>
      intro h h'
      exact ⟨h.1.trans h'.1.symm, uw_eq h.2 h'.2 (fun _ _ => rfl)⟩
    | none =>
      intro h h'
      obtain ⟨h1, rfl⟩ := h
      obtain ⟨h2, rfl⟩ := h'
      exact ⟨h1.trans h2.symm, h0⟩
theorem iup_id {I : Nat → Nat → Int32} {a : Nat} : iup I a (I a) = I := by
  funext x
  by_cases c : x = a
  · subst c; exact iup_eq
  · exact iup_na c
set_option maxRecDepth 100000 in
set_option maxHeartbeats 1600000 in
/-- the class shows two births unlike, or doesn't -/
theorem c_296 {V : Nat → Nat → Value} {I : Nat → Nat → Int32} {L : Nat → Nat → Int64} {R : Nat → Nat → Option Nat} {tl : am_H} {I0 : Nat → Nat → Int32} {N b b' lm n m a it a' it' : Nat} {f f' : Nat → Int32} {Ob : Nat → Nat → Int32 × Nat × Int32} {Oc Od : Nat → Int32 × Nat × Int32} (hN : 300 < N) (hw : wt V) (hc : csK V I I0 m) (hO : oB I0 lm n m Ob) (hb : b < n) (hb' : b' < n) (p1 : ∀ V I, prA V I tl (269 + a) (269 + it) (kdB I0 b) (lnB I0 b) (szB I0 b) (szB I0 b * wdN (kdB I0 b)) f) (i1 : itm (kdB I0 b) (sB I0 b) (vB I0 b) (szB I0 b) f) (o1 : sound (kdB I0 b) (lnB I0 b) (szB I0 b) (sB I0 b) (vB I0 b)) (p2 : ∀ V I, prA V I tl (269 + a') (269 + it') (kdB I0 b') (lnB I0 b') (szB I0 b') (szB I0 b' * wdN (kdB I0 b')) f') (i2 : itm (kdB I0 b') (sB I0 b') (vB I0 b') (szB I0 b') f') (o2 : sound (kdB I0 b') (lnB I0 b') (szB I0 b') (sB I0 b') (vB I0 b')) (h0 : V 16 0 = .int (nI lm)) (h0' : V 27 0 = .int (nI lm)) (hlo : 10 ≤ lm) (hhi : lm ≤ 2000) (hz : ∀ j, 10 ≤ j → j < 15 → I 165 j = 0) (hT : ∀ k, k < 250 → rP (kdB I0 b) (lnB I0 b) (szB I0 b) (sB I0 b) (vB I0 b) lm (tX k) (tY k) (tZ k) (tN k) (tR k) (Oc k)) (hT' : ∀ k, k < 250 → rP (kdB I0 b') (lnB I0 b') (szB I0 b') (sB I0 b') (vB I0 b') lm (tX k) (tY k) (tZ k) (tN k) (tR k) (Od k)) : ∃ W J g r, fm_296 N (.ref 0) (.ref (269 + a)) (.ref (269 + a')) (fx V I L R ++ tl) = some (.inl (some (.int (bI r)), fx W (iup J 166 g) L R ++ tl)) ∧ frU V W I J ∧ uOut (fun k => unB (Ob b k) (Ob b' k)) (fun k => unB (Oc k) (Od k)) m I0 r (I 166) g := by
  obtain ⟨W1, J1, e1, g1, f1⟩ := c_115 (L := L) (R := R) (N := N) (by omega) (p1 V I) (tl_ne a it) i1 o1 (Nat.le_refl _) (sz_1000 o1.2.1) h0 hlo hhi
  have fd1 := frD_L f1
  obtain ⟨W2, J2, e2, g2, f2⟩ := c_115_b (V := W1) (I := J1) (L := L) (R := R) (N := N) (by omega) (p2 W1 J1) ⟨by omega, by omega, by omega, by omega, by omega⟩ i2 o2 (Nat.le_refl _) (sz_1000 o2.2.1) (fd1.2.2.1.trans h0') hlo hhi
  have fd2 := frD_t fd1 (frD_Lb f2)
  have k2 := frD_k fd2
  have q := c_296l (L := L) (R := R) (tl := tl) (N := N) (by omega) ⟨by omega, by omega, by omega⟩ ⟨by omega, by omega, by omega⟩ (hO b hb) (hO b' hb') m 0 N W2 J2 (by omega) (by have := hc.2.2.1; omega) (k2.2.2 hw) (ldC_Lb f2 (by omega) (by omega) (by omega) g1) g2 (csK_c k2 hc)
  have tr : fm_296 N (.ref 0) (.ref (269 + a)) (.ref (269 + a')) (fx V I L R ++ tl) = fg_296_24 N N (.ref 0) (nI 0) (fx W2 J2 L R ++ tl) := by
    unfold fm_296 fg_296_0
    exact ev_b (a := Value.ref 14) rfl (ev_b (a := Value.ref 16) rfl (ev_i rfl (ev_cV e1 (ev_b (a := Value.ref 14) rfl (ev_b (a := Value.ref 27) rfl (ev_i rfl (ev_cV e2 rfl)))))))
  rw [tr]
  unfold uOut
  revert q
  cases nFs (fun k => unB (Ob b k) (Ob b' k)) m 0 with
  | some y =>
    intro q
    obtain ⟨yl, W3, J3, g, e3, f3, u⟩ := q
    exact ⟨W3, J3, g, true, e3, frU_D (frD_t fd2 f3), rfl, yl, u⟩
  | none =>
    intro q
    obtain ⟨W3, J3, e3, f3, l1, l2⟩ := q
    have fd3 := frD_t fd2 f3
    have z3 : ∀ j, 10 ≤ j → j < 15 → J3 165 j = 0 := fun j h1 h2 => by
      rw [fd3.2.2.2.1 165 (by decide) (by decide) (by decide) (by decide) (by decide) (by decide)]
      exact hz j h1 h2
    have t := c_296t (L := L) (R := R) (tl := tl) (N := N) (by omega) hT hT' 250 0 N W3 J3 (by omega) (by omega) (fd3.2.2.2.2 hw) l1 l2 z3
    revert t
    cases nFs (fun k => unB (Oc k) (Od k)) 250 0 with
    | some y =>
      intro t
      obtain ⟨yl, W4, J4, g, e4, f4, u⟩ := t
      exact ⟨W4, J4, g, true, e3.trans e4, frU_t (frU_D fd3) f4, rfl, u⟩
    | none =>
      intro t
      obtain ⟨W4, J4, e4, f4⟩ := t
      have f5 := frU_t (frU_D fd3) f4
      refine ⟨W4, J4, J4 166, false, ?_, f5, rfl, f5.2.2.2.1 166 (by decide) (by decide) (by decide) (by decide) (by decide) (by decide) (by decide)⟩
      rw [iup_id]
      exact e3.trans e4
