/-! ===== a birth's tree, on both sides ===== -/
def cTr (N : Nat) (tl : am_H) (T : xT → Prop) (a X : Nat) : Prop := ∀ (V : Nat → Nat → Value) (I : Nat → Nat → Int32) (L : Nat → Nat → Int64) (R : Nat → Nat → Option Nat), wt V → rPl R → ∃ W J R' bo, fm_293 N (.ref 131) (.ref (269 + a)) (.ref X) (fx V I L R ++ tl) = some (.inl (some (.int (bI bo)), fx W J L R' ++ tl)) ∧ (bo = true ↔ ∃ Q, T Q) ∧ (∀ Q, T Q → hold W J X 0 0 Q) ∧ frCx X V W I J ∧ (∀ y, y ≠ 140 → R' y = R y) ∧ rPl R'
def rTr (N : Nat) (I0 : Nat → Nat → Int32) (b : Nat) (T : xT → Prop) : Prop := ∀ (V : Nat → Nat → Value) (I : Nat → Nat → Int32) (L : Nat → Nat → Int64) (R : Nat → Nat → Option Nat) (tl : am_H), (∀ y, y = 175 ∨ y = 176 ∨ y = 177 ∨ y = 184 ∨ y = 185 → I y = I0 y) → ∃ W1 J1 W J bo, fm_391 N (.ref 174) (nI b) (fx V I L R ++ tl) = some (.inl (none, fx W1 J1 L R ++ tl)) ∧ fm_557 N (.ref 174) (fx W1 J1 L R ++ tl) = some (.inl (some (.int (bI bo)), fx W J L R ++ tl)) ∧ (bo = true ↔ ∃ Q, T Q) ∧ (∀ Q, T Q → rA W J 0 Q) ∧ frTr V W I J
theorem frTr_dk {V : Nat → Nat → Value} {I : Nat → Nat → Int32} {kd ln sz b : Nat} : frTr V (dk2V V kd ln sz) I (dk2I I b sz) := by
  refine ⟨fun a j n => ?_, fun y _ _ c d _ _ _ _ _ _ _ => ?_, fun w => wt_i (wt_i (wt_i w (by decide)) (by decide)) (by decide)⟩
  · unfold dk2V
    rw [vup_o (fun e => n ⟨e.1, by omega⟩), vup_o (fun e => n ⟨e.1, by omega⟩), vup_o (fun e => n ⟨e.1, by omega⟩)]
  · unfold dk2I
    rw [iup_na d, iup_na c]
set_option maxRecDepth 100000 in
set_option maxHeartbeats 4000000 in
theorem cTr_0 {N a it X : Nat} {tl : am_H} {P : xT} (hX : X = 167 ∨ X = 169) (hs : ∀ W J, srcP W J tl (269 + a) (269 + it) 0 0 P) : cTr N tl (fun Q => Q = P) a X := fun V I L R w hR => by
  rcases hX with rfl | rfl
  · obtain ⟨W, J, e, d, f⟩ := c_293t_167 (L := L) (R := R) (N := N) (by omega) (hs V I)
    exact ⟨W, J, R, true, e, ⟨fun _ => ⟨P, rfl⟩, fun _ => rfl⟩, fun Q h => by rw [h]; exact d, frCx_1 f, fun _ _ => rfl, hR⟩
  · obtain ⟨W, J, e, d, f⟩ := c_293t_169 (L := L) (R := R) (N := N) (by omega) (hs V I)
    exact ⟨W, J, R, true, e, ⟨fun _ => ⟨P, rfl⟩, fun _ => rfl⟩, fun Q h => by rw [h]; exact d, frCx_1 f, fun _ _ => rfl, hR⟩
set_option maxRecDepth 100000 in
set_option maxHeartbeats 4000000 in
theorem cTr_1 {N a it X : Nat} {tl : am_H} {C : xT} (hN : 400 < N) (hX : X = 167 ∨ X = 169) (hc : sndC C) (hs : ∀ W J, srcP W J tl (269 + a) (269 + it) 1 0 C) : cTr N tl (tOf C) a X := fun V I L R w hR => by
  have key : ∀ {W : Nat → Nat → Value} {J : Nat → Nat → Int32} {bo : Bool}, (bo = true ↔ ∃ Q, tOf C Q) → (bo = true → ∃ Q, tOf C Q ∧ hold W J X 0 0 Q) → ∀ Q, tOf C Q → hold W J X 0 0 Q := fun g d Q h => by
    obtain ⟨Q', y1, y2⟩ := d (g.mpr ⟨Q, h⟩)
    rw [tOf_u h y1]
    exact y2
  rcases hX with rfl | rfl
  · obtain ⟨W, J, R', bo, e, g, d, f, r, p⟩ := c_293_167 (L := L) (R := R) (N := N) hN (by omega) (by omega) w hR (hs V I) hc
    exact ⟨W, J, R', bo, e, g, key g d, f, r, p⟩
  · obtain ⟨W, J, R', bo, e, g, d, f, r, p⟩ := c_293_169 (L := L) (R := R) (N := N) hN (by omega) (by omega) w hR (hs V I) hc
    exact ⟨W, J, R', bo, e, g, key g d, f, r, p⟩
set_option maxRecDepth 100000 in
set_option maxHeartbeats 4000000 in
theorem cTr_2 {N a kd X : Nat} {tl : am_H} (h2 : 2 ≤ kd ∧ kd ≤ 3) (hk : ∀ W J M Q, am_vI (am_pG 769 (.ref (269 + a)) (fx W J M Q ++ tl)) = some (nI kd)) : cTr N tl (fun _ => False) a X := fun V I L R w hR => by
  refine ⟨V, I, R, false, ?_, ⟨fun e => Bool.noConfusion e, fun ⟨Q, h⟩ => h.elim⟩, fun Q h => h.elim, frCx_c frCl_r, fun _ _ => rfl, hR⟩
  apply hm_293
  apply hd_293_0
  exact ev_b (hk V I L R) (ev_t (fun e => by have := (nI_eq (b := 0) (by omega) (by decide)).mp e; omega) (ev_b (hk V I L R) (ev_f (fun e => by have := (nI_eq (b := 1) (by omega) (by decide)).mp e; omega) rfl)))
set_option maxRecDepth 100000 in
set_option maxHeartbeats 4000000 in
theorem rTr_0 {N b : Nat} {I0 : Nat → Nat → Int32} {P : xT} (hN : 400 < N) (hb : b < 600) (o1 : okP P) (o2 : P.length ≤ 60) (q1 : I0 175 b = nI 0) (q2 : I0 176 b = nI P.length) (q3 : I0 177 b = nI 0) (hy : lay2 (fun k => I0 184 (60 * b + k)) (fun k => I0 185 (60 * b + k)) (tI P)) : rTr N I0 b (fun Q => Q = P) := fun V I L R tl hI => by
  obtain ⟨W, J, e, h, f, u⟩ := s391 (V := V) (I := I) (L := L) (R := R) (tl := tl) hN hb o1 o2 (by rw [hI 175 (by omega)]; exact q1) (by rw [hI 176 (by omega)]; exact q2) (by rw [hI 177 (by omega)]; exact q3) (by rw [hI 184 (by omega), hI 185 (by omega)]; exact hy)
  refine ⟨W, J, W, J, true, e, ?_, ⟨fun _ => ⟨P, rfl⟩, fun _ => rfl⟩, fun Q hQ => by rw [hQ]; exact h, frTr_x f u⟩
  apply hm_557
  apply hd_557_0
  exact ev_b (rdI h.1) (ev_f (fun e => e rfl) rfl)
set_option maxRecDepth 100000 in
set_option maxHeartbeats 4000000 in
theorem rTr_1 {N b : Nat} {I0 : Nat → Nat → Int32} {C : xT} (hN : 400 < N) (hb : b < 600) (hc : sndC C) (o2 : C.length ≤ 60) (q1 : I0 175 b = nI 1) (q2 : I0 176 b = nI C.length) (q3 : I0 177 b = nI 0) (hy : lay2 (fun k => I0 184 (60 * b + k)) (fun k => I0 185 (60 * b + k)) (tI C)) : rTr N I0 b (tOf C) := fun V I L R tl hI => by
  have e2 := r_391 (V := V) (I := I) (L := L) (R := R) (tl := tl) (N := N) (b := b) (kd := 1) (ln := 0) (sz := C.length) (by omega) hb o2 (by decide) (by decide) (by rw [hI 175 (by omega)]; exact q1) (by rw [hI 176 (by omega)]; exact q2) (by rw [hI 177 (by omega)]; exact q3)
  have dk : dsA (dk2V V 1 0 C.length) (dk2I I b C.length) (tI C) := by
    refine ⟨by rw [tI_len]; rfl, fun k x hx => ?_⟩
    have hk : k < C.length := by
      have := (List.getElem?_eq_some_iff.mp hx).1
      rw [tI_len] at this
      exact this
    obtain ⟨y1, y2⟩ := hy k x hx
    have l1 : dk2I I b C.length 188 k = I 184 (60 * b + k) := ldr_at hk
    have l2 : dk2I I b C.length 189 k = I 185 (60 * b + k) := ldr_at hk
    rw [l1, l2, hI 184 (by omega), hI 185 (by omega)]
    exact ⟨y1, y2⟩
  obtain ⟨W, J, bo, e3, g3, d3, f3⟩ := s557 (L := L) (R := R) (tl := tl) (N := N) hN o2 hc rfl dk
  refine ⟨_, _, W, J, bo, e2, e3, g3, fun Q h => ?_, frTr_t frTr_dk f3⟩
  obtain ⟨Q', y1, y2⟩ := d3 (g3.mpr ⟨Q, h⟩)
  rw [tOf_u h y1]
  exact y2
set_option maxRecDepth 100000 in
set_option maxHeartbeats 4000000 in
theorem rTr_2 {N b kd ln sz : Nat} {I0 : Nat → Nat → Int32} (hN : 400 < N) (hb : b < 600) (h2 : 2 ≤ kd ∧ kd ≤ 3) (hs : sz ≤ 60) (q1 : I0 175 b = nI kd) (q2 : I0 176 b = nI sz) (q3 : I0 177 b = nI ln) : rTr N I0 b (fun _ => False) := fun V I L R tl hI => by
  have e2 := r_391 (V := V) (I := I) (L := L) (R := R) (tl := tl) (N := N) (b := b) (kd := kd) (ln := ln) (sz := sz) (by omega) hb hs (by omega) (by omega) (by rw [hI 175 (by omega)]; exact q1) (by rw [hI 176 (by omega)]; exact q2) (by rw [hI 177 (by omega)]; exact q3)
  have k0 : dk2V V kd ln sz 174 20 = .int (nI kd) := rfl
  refine ⟨_, _, dk2V V kd ln sz, dk2I I b sz, false, e2, ?_, ⟨fun e => Bool.noConfusion e, fun ⟨Q, h⟩ => h.elim⟩, fun Q h => h.elim, frTr_dk⟩
  apply hm_557
  apply hd_557_0
  exact ev_b (rdI k0) (ev_t (fun e => by have := (nI_eq (b := 0) (by omega) (by decide)).mp e; omega) (ev_b (rdI k0) (ev_f (fun e => by have := (nI_eq (b := 1) (by omega) (by decide)).mp e; omega) rfl)))
set_option maxRecDepth 100000 in
set_option maxHeartbeats 4000000 in
theorem birth_tr {V : Nat → Nat → Value} {I : Nat → Nat → Int32} {L : Nat → Nat → Int64} {R : Nat → Nat → Option Nat} {tl : am_H} {N n p b : Nat} (hN : 400 < N) (hr : rel V I L R tl n p) (hb : b < n) : ∃ (T : xT → Prop) (a : Nat), R 1 b = some (269 + a) ∧ (∀ Q, T Q → okP Q ∧ Q.length ≤ 60) ∧ (∀ Q Q', T Q → T Q' → Q = Q') ∧ cTr N tl T a 167 ∧ cTr N tl T a 169 ∧ rTr N I b T := by
  obtain ⟨kd, ln, sz, a, it, f, q1, q2, q3, q4, q5, q6, q7⟩ := bOk_pg (V := V) (I := I) (L := L) (R := R) (tl := tl) (hr.2.1 b hb)
  have k3 := q7.1
  have b6 := hr.1.1
  by_cases c0 : kd = 0
  · subst c0
    obtain ⟨P, a', it', o1, o2, o3, o4, o5, o6, o7, o8⟩ := birth_T hr hb q1
    exact ⟨fun Q => Q = P, a', o5, fun Q h => by rw [h]; exact ⟨o1, o2⟩, fun Q Q' h h' => by rw [h, h'], cTr_0 (.inl rfl) o7, cTr_0 (.inr rfl) o7, rTr_0 hN (by omega) o1 o2 q1 o3 o4 o6⟩
  by_cases c1 : kd = 1
  · subst c1
    obtain ⟨C, a', it', o1, o2, o3, o4, o5, o6, o7, o8⟩ := birth_C hr hb q1
    exact ⟨tOf C, a', o5, fun Q h => tOf_ok o1 h, fun Q Q' h h' => tOf_u h h', cTr_1 hN (.inl rfl) o1 o7, cTr_1 hN (.inr rfl) o1 o7, rTr_1 hN (by omega) o1 o2 q1 o3 o4 o6⟩
  · have hk : ∀ W J M Q, am_vI (am_pG 769 (.ref (269 + a)) (fx W J M Q ++ tl)) = some (nI kd) := fun W J M Q => by
      obtain ⟨x1, x2, x3, x4, x5, x6, p1, p2⟩ := pg_tl (W := W) (J := J) (M := M) (Q := Q) q5
      exact ev_gI p1 rfl rfl
    exact ⟨fun _ => False, a, q4, fun Q h => h.elim, fun Q Q' h => h.elim, cTr_2 (by omega) hk, cTr_2 (by omega) hk, rTr_2 hN (by omega) (by omega) q7.2.1 q1 q2 q3⟩
