/-! ===== edits: all candidates of the class ===== -/
def uTx (P : xI) : xT := P.map (fun x => (sN x.1, x.2))
theorem uTx_len {P : xI} : (uTx P).length = P.length := List.length_map ..
theorem uTx_s {P : xI} {k : Nat} : xS (uTx P) k = sN (srt P k) ∧ xV (uTx P) k = vlu P k := by
  unfold xS xV uTx srt vlu
  rw [List.getD_eq_getElem?_getD, List.getD_eq_getElem?_getD, List.getElem?_map]
  cases P[k]? with
  | none => exact ⟨rfl, rfl⟩
  | some x => exact ⟨rfl, rfl⟩
theorem uTx_t {P : xI} (h : ∀ k, k < P.length → srt P k = nI (sN (srt P k))) : tI (uTx P) = P := by
  apply List.ext_getElem?
  intro k
  by_cases c : k < P.length
  · rw [tI_at (by rw [uTx_len]; exact c), srt_at c, uTx_s.1, uTx_s.2, ← h k c]
  · rw [List.getElem?_eq_none (by rw [tI_len, uTx_len]; omega), List.getElem?_eq_none (by omega)]
/-- a good program -/
def gdP (kd ln : Nat) (P : xI) : Prop := kd ≤ 3 ∧ P.length ≤ 60 ∧ (kd = 0 → ln = 0 ∧ okP (uTx P) ∧ tI (uTx P) = P) ∧ (kd = 1 → ln = 0 ∧ 1 ≤ P.length ∧ okI P ∧ vlC P ∧ (∀ k, k < P.length → 17 ≤ sN (srt P k) → sN (vlu P k) ≤ 100) ∧ ∃ g, cdX P P.length 0 g00 = .inr g) ∧ (kd = 2 → ln = 0 ∧ 1 ≤ P.length ∧ okMl P) ∧ (kd = 3 → 2 ≤ ln ∧ ln ≤ 8 ∧ P.length ≤ 40 ∧ ∀ k, k < P.length → ∃ i j, i < j ∧ j < ln ∧ srt P k = nI i ∧ vlu P k = nI j)
/-- a program's cell, of any kind -/
def srcE (V : Nat → Nat → Value) (I : Nat → Nat → Int32) (tl : am_H) (A it kd ln : Nat) (P : xI) : Prop := ∃ m f, prA V I tl A it kd ln P.length m f ∧ itm kd (srt P) (vlu P) P.length f ∧ P.length * wdN kd ≤ m ∧ m ≤ 1000
def holdE (V : Nat → Nat → Value) (I : Nat → Nat → Int32) (C kd ln : Nat) (Q : xI) : Prop := V C 1 = .int (nI kd) ∧ V C 2 = .int (nI ln) ∧ V C 3 = .int (nI Q.length) ∧ V C 4 = .int (nI (wdN kd)) ∧ itm kd (srt Q) (vlu Q) Q.length (I (C + 1))
theorem itm_t {kd : Nat} {Q : xT} {f : Nat → Int32} (hk : kd ≠ 2) : itm kd (srt (tI Q)) (vlu (tI Q)) (tI Q).length f ↔ tO f Q := by
  unfold itm
  rw [if_neg hk, tI_len]
  constructor
  · intro h k x e
    have hk : k < Q.length := (List.getElem?_eq_some_iff.mp e).1
    have := h k hk
    rw [(srt_tI hk).1, (srt_tI hk).2] at this
    rw [xS_at hk] at e
    rw [← Option.some.inj e]
    exact this
  · intro h k hk
    rw [(srt_tI hk).1, (srt_tI hk).2]
    exact h k _ (xS_at hk)
theorem itm_m {Q : xI} {z : Nat} {f : Nat → Int32} : itm 2 (srt Q) (vlu Q) z f ↔ ∀ k w, k < z → w < 5 → f (k * 5 + w) = rG Q k w := by
  unfold itm
  rw [if_pos rfl]
  constructor
  · intro h k w hk hw
    unfold rG
    by_cases c : w = 0
    · rw [if_pos c, c]; exact (h k hk).1
    · rw [if_neg c, ← (h k hk).2 (w - 1) (by omega), show 1 + (w - 1) = w by omega]
  · intro h k hk
    refine ⟨h k 0 hk (by omega), fun c hc => ?_⟩
    have := h k (1 + c) hk (by omega)
    unfold rG at this
    rw [if_neg (by omega), show 1 + c - 1 = c by omega] at this
    exact this
theorem srcE_P {V : Nat → Nat → Value} {I : Nat → Nat → Int32} {tl : am_H} {A it kd ln : Nat} {P : xT} (hk : kd ≤ 3) (h2 : kd ≠ 2) (hl : P.length ≤ 60) (h : srcE V I tl A it kd ln (tI P)) : srcP V I tl A it kd ln P := by
  obtain ⟨m, f, p1, p2, p3, p4⟩ := h
  rw [tI_len] at p1 p3
  rw [wd2 h2] at p3
  exact ⟨m, f, p1, (itm_t h2).mp p2, p3, p4, hk, h2, hl⟩
theorem srcP_E {V : Nat → Nat → Value} {I : Nat → Nat → Int32} {tl : am_H} {A it kd ln : Nat} {P : xT} (h : srcP V I tl A it kd ln P) : srcE V I tl A it kd ln (tI P) := by
  obtain ⟨m, f, p1, p2, p3, p4, p5, p6, p7⟩ := h
  refine ⟨m, f, by rw [tI_len]; exact p1, (itm_t p6).mpr p2, by rw [tI_len, wd2 p6]; exact p3, p4⟩
theorem srcE_M {V : Nat → Nat → Value} {I : Nat → Nat → Int32} {tl : am_H} {A it : Nat} {P : xI} (hl : P.length ≤ 6) (h : srcE V I tl A it 2 0 P) : srcM V I tl A it P.length (rG P) := by
  obtain ⟨m, f, p1, p2, p3, p4⟩ := h
  exact ⟨m, f, p1, itm_m.mp p2, p3, p4, by omega⟩
theorem srcE_c {V W : Nat → Nat → Value} {I J : Nat → Nat → Int32} {tl : am_H} {A it kd ln : Nat} {P : xI} (hv : ∀ j, W A j = V A j) (hi : J it = I it) (h : srcE V I tl A it kd ln P) : srcE W J tl A it kd ln P := by
  obtain ⟨m, f, p1, p2, p3, p4⟩ := h
  exact ⟨m, f, fun X K L R a b => p1 X K L R (fun j => (a j).trans (hv j)) (b.trans hi), p2, p3, p4⟩
theorem hold_E {V : Nat → Nat → Value} {I : Nat → Nat → Int32} {C kd ln : Nat} {Q : xT} (h2 : kd ≠ 2) : hold V I C kd ln Q ↔ holdE V I C kd ln (tI Q) := by
  unfold hold holdE
  rw [tI_len, wd2 h2, ← itm_t h2, tI_len]
theorem hM_E {V : Nat → Nat → Value} {I : Nat → Nat → Int32} {C : Nat} {Q : xI} : hM V I C Q.length (rG Q) ↔ holdE V I C 2 0 Q := by
  unfold hM holdE
  rw [itm_m]
  rfl
def outE (W : Nat → Nat → Value) (J : Nat → Nat → Int32) (kd ln : Nat) (o : Option xI) (b : Bool) : Prop := (b = true ↔ o.isSome = true) ∧ ∀ Q, o = some Q → holdE W J 90 kd ln Q ∧ Q.length ≤ 60
theorem outM_E {W : Nat → Nat → Value} {J : Nat → Nat → Int32} {kd ln : Nat} {o : Option xI} {b : Bool} (h2 : kd ≠ 2) (h : outM W J kd ln o b) : outE W J kd ln o b := by
  refine ⟨h.1, fun Q e => ?_⟩
  obtain ⟨Q', rfl, h1, h3⟩ := h.2 Q e
  exact ⟨(hold_E h2).mp h1, by rw [tI_len]; exact h3⟩
theorem outN_E {W : Nat → Nat → Value} {J : Nat → Nat → Int32} {o : Option xI} {b : Bool} (h : outN W J o b) : outE W J 2 0 o b := by
  refine ⟨h.1, fun Q e => ?_⟩
  obtain ⟨h1, h3⟩ := h.2 Q e
  exact ⟨hM_E.mp h1, by omega⟩
def acE (kd ln sz : Nat) : Nat := if kd = 2 then sz else if kd = 3 then acr ln else 1
/-- the changer has begun with edits -/
def SE (tl : am_H) (A it kd ln w : Nat) (P : xI) (V : Nat → Nat → Value) (I : Nat → Nat → Int32) : Prop := wt V ∧ V 89 5 = .ref A ∧ V 89 7 = .int (nI (5 * kd + w)) ∧ V 89 8 = .int (nI (acE kd ln P.length)) ∧ srcE V I tl A it kd ln P ∧ 130 < A ∧ 130 < it ∧ (kd = 0 → shT V I 94 (uTx P))
theorem SE_f {tl : am_H} {A it kd ln w : Nat} {P : xI} {V W : Nat → Nat → Value} {I J : Nat → Nat → Int32} (h : SE tl A it kd ln w P V I) (f : frM V W I J) : SE tl A it kd ln w P W J := by
  obtain ⟨h1, h2, h3, h4, h5, h6, h7, h8⟩ := h
  exact ⟨f.2.2 h1, (f.1 89 5 (by decide) (by decide) (by decide) (by decide)).trans h2, (f.1 89 7 (by decide) (by decide) (by decide) (by decide)).trans h3, (f.1 89 8 (by decide) (by decide) (by decide) (by decide)).trans h4, srcE_c (fun j => f.1 A j (by omega) (by omega) (by omega) (by omega)) (f.2.1 it (by omega) (by omega) (by omega)) h5, h6, h7, fun e => shT_f (h8 e) f⟩
theorem acE_1 {kd ln sz : Nat} (h2 : kd = 2 → 1 ≤ sz ∧ sz ≤ 6) (h3 : kd = 3 → 2 ≤ ln ∧ ln ≤ 8) : 1 ≤ acE kd ln sz ∧ acE kd ln sz < 10000 := by
  unfold acE
  by_cases c : kd = 2
  · rw [if_pos c]; have := h2 c; omega
  · rw [if_neg c]
    by_cases d : kd = 3
    · rw [if_pos d]
      have := acr_b ln (h3 d).2
      have := acr_1 ln (h3 d).2 (h3 d).1
      omega
    · rw [if_neg d]; omega
set_option maxRecDepth 100000 in
set_option maxHeartbeats 4000000 in
theorem all_m {L : Nat → Nat → Int64} {R : Nat → Nat → Option Nat} {V : Nat → Nat → Value} {I : Nat → Nat → Int32} {tl : am_H} {N A it kd ln w c : Nat} {P : xI} (hN : 400 < N) (hg : gdP kd ln P) (hw : w < 4) (h : SE tl A it kd ln w P V I) (hc : c < ncE kd ln P.length w) : ∃ W J b, fm_163 N (.ref 89) (nI c) (fx V I L R ++ tl) = some (.inl (some (.int (bI b)), fx W J L R ++ tl)) ∧ outE W J kd ln (cdE kd ln P w c) b ∧ frM V W I J := by
  obtain ⟨g1, g2, g3, g4, g5, g6⟩ := hg
  obtain ⟨s1, s2, s3, s4, s5, s6, s7, s8⟩ := h
  have ac := acE_1 (kd := kd) (ln := ln) (sz := P.length) (fun e => ⟨(g5 e).2.1, (g5 e).2.2.1⟩) (fun e => ⟨(g6 e).1, (g6 e).2.1⟩)
  rcases (by omega : kd = 0 ∨ kd = 1 ∨ kd = 2 ∨ kd = 3) with rfl | rfl | rfl | rfl
  · obtain ⟨l0, ho, et⟩ := g3 rfl
    subst l0
    have lu := uTx_len (P := P)
    have hs : srcP V I tl A it 0 0 (uTx P) := srcE_P (by omega) (by omega) (by omega) (by rw [et]; exact s5)
    have hx : ∀ r, 5 * 0 + w = r → cxC V I tl A it 0 0 r (acE 0 0 P.length) (uTx P) := fun r e => ⟨s2, by rw [← e]; exact s3, s4, ac.1, ac.2, hs, s6, s7⟩
    have h20 : ∀ k, k < (uTx P).length → xS (uTx P) k ≤ 20 := fun k hk => (nd_at ho hk).1
    rcases (by omega : w = 0 ∨ w = 1 ∨ w = 2 ∨ w = 3) with rfl | rfl | rfl | rfl
    · obtain ⟨W, J, b, e, o, f⟩ := m_0 (L := L) (R := R) (N := N) (c := c) (hx 0 rfl) h20 (by rw [lu]; exact hc)
      rw [et] at o
      exact ⟨W, J, b, e, outM_E (by omega) o, f⟩
    · obtain ⟨W, J, b, e, o, f⟩ := m_1 (L := L) (R := R) (N := N) (c := c) (by omega) (hx 1 rfl) ho (s8 rfl) (by rw [lu]; exact hc)
      rw [et] at o
      exact ⟨W, J, b, e, outM_E (by omega) o, f⟩
    · obtain ⟨W, J, b, e, o, f⟩ := m_2 (L := L) (R := R) (N := N) (c := c) (by omega) s1 (hx 2 rfl) ho (s8 rfl) (by rw [lu]; exact hc)
      rw [et] at o
      exact ⟨W, J, b, e, outM_E (by omega) o, f⟩
    · obtain ⟨W, J, b, e, o, f⟩ := m_3 (L := L) (R := R) (N := N) (c := c) (by omega) (hx 3 rfl) ho (s8 rfl) (by rw [lu]; exact hc)
      rw [et] at o
      exact ⟨W, J, b, e, outM_E (by omega) o, f⟩
  · obtain ⟨l0, l1, hoI, hv, hj, hX⟩ := g4 rfl
    subst l0
    have lu := uTx_len (P := P)
    have et : tI (uTx P) = P := uTx_t (fun k hk => (hoI k hk).1)
    have hs : srcP V I tl A it 1 0 (uTx P) := srcE_P (by omega) (by omega) (by omega) (by rw [et]; exact s5)
    have hx : ∀ r, 5 * 1 + w = r → cxC V I tl A it 1 0 r (acE 1 0 P.length) (uTx P) := fun r e => ⟨s2, by rw [← e]; exact s3, s4, ac.1, ac.2, hs, s6, s7⟩
    have h18 : ∀ k, k < (uTx P).length → xS (uTx P) k ≤ 18 := fun k hk => by rw [uTx_s.1]; exact (hoI k (by omega)).2.1
    rcases (by omega : w = 0 ∨ w = 1 ∨ w = 2 ∨ w = 3) with rfl | rfl | rfl | rfl
    · obtain ⟨W, J, b, e, o, f⟩ := m_5 (L := L) (R := R) (N := N) (c := c) (hx 5 rfl) (fun k hk => by have := h18 k hk; omega) (by rw [lu]; exact hc)
      rw [et] at o
      exact ⟨W, J, b, e, outM_E (by omega) o, f⟩
    · obtain ⟨W, J, b, e, o, f⟩ := m_6 (L := L) (R := R) (N := N) (c := c) (hx 6 rfl) h18 (by rw [lu]; exact hc)
      rw [et] at o
      exact ⟨W, J, b, e, outM_E (by omega) o, f⟩
    · obtain ⟨W, J, b, e, o, f⟩ := m_7 (L := L) (R := R) (N := N) (c := c) hN s1 (hx 7 rfl) (by rw [et]; exact hoI) h18 (by rw [lu]; exact hc)
      rw [et] at o
      exact ⟨W, J, b, e, outM_E (by omega) o, f⟩
    · obtain ⟨W, J, b, e, o, f⟩ := m_8 (L := L) (R := R) (N := N) (c := c) hN s1 (hx 8 rfl) (by rw [et]; exact hoI) h18 (by rw [et]; exact hj) (by rw [lu]; exact hc)
      rw [et] at o
      exact ⟨W, J, b, e, outM_E (by omega) o, f⟩
  · obtain ⟨l0, l1, ho⟩ := g5 rfl
    subst l0
    have hs := srcE_M ho.1 s5
    have hx : ∀ r, 5 * 2 + w = r → cxM V I tl A it r P.length P := fun r e => ⟨s2, by rw [← e]; exact s3, s4, ac.1, ac.2, hs, s6, s7⟩
    rcases (by omega : w = 0 ∨ w = 1 ∨ w = 2 ∨ w = 3) with rfl | rfl | rfl | rfl
    · obtain ⟨W, J, b, e, o, f⟩ := m_10 (L := L) (R := R) (N := N) (c := c) (hx 10 rfl) ho.1 hc
      exact ⟨W, J, b, e, outN_E o, f⟩
    · obtain ⟨W, J, b, e, o, f⟩ := m_11 (L := L) (R := R) (N := N) (c := c) (hx 11 rfl) ho hc
      exact ⟨W, J, b, e, outN_E o, f⟩
    · have hc : c < if P.length < 6 then 4 * P.length else 0 := hc
      by_cases q : P.length < 6
      · rw [if_pos q] at hc
        obtain ⟨W, J, b, e, o, f⟩ := m_12 (L := L) (R := R) (N := N) (c := c) (hx 12 rfl) ho q hc
        exact ⟨W, J, b, e, outN_E o, f⟩
      · rw [if_neg q] at hc; omega
    · obtain ⟨W, J, b, e, o, f⟩ := m_13 (L := L) (R := R) (N := N) (c := c) (by omega) s1 (hx 13 rfl) ho.1 hc
      exact ⟨W, J, b, e, outN_E o, f⟩
  · obtain ⟨l2, l8, h40, hv⟩ := g6 rfl
    have lu := uTx_len (P := P)
    have et : tI (uTx P) = P := uTx_t (fun k hk => by obtain ⟨i, j, a1, a2, a3, -⟩ := hv k hk; rw [a3, sN_n (by omega)])
    have hs : srcP V I tl A it 3 ln (uTx P) := srcE_P (by omega) (by omega) (by omega) (by rw [et]; exact s5)
    have hx : ∀ r, 5 * 3 + w = r → cxC V I tl A it 3 ln r (acr ln) (uTx P) := fun r e => ⟨s2, by rw [← e]; exact s3, s4, ac.1, ac.2, hs, s6, s7⟩
    rcases (by omega : w = 0 ∨ w = 1 ∨ w = 2 ∨ w = 3) with rfl | rfl | rfl | rfl
    · obtain ⟨W, J, b, e, o, f⟩ := m_15 (L := L) (R := R) (N := N) (c := c) (by omega) (hx 15 rfl) l2 l8 (by omega) (by rw [lu]; exact hc)
      rw [et] at o
      exact ⟨W, J, b, e, outM_E (by omega) o, f⟩
    · obtain ⟨W, J, b, e, o, f⟩ := m_16 (L := L) (R := R) (N := N) (c := c) (hx 16 rfl) (by rw [lu]; exact hc)
      rw [et] at o
      exact ⟨W, J, b, e, outM_E (by omega) o, f⟩
    · have hc : c < if P.length < 40 then (P.length + 1) * acr ln else 0 := hc
      by_cases q : P.length < 40
      · rw [if_pos q] at hc
        obtain ⟨W, J, b, e, o, f⟩ := m_17 (L := L) (R := R) (N := N) (c := c) (by omega) (hx 17 rfl) l2 l8 (by omega) (by rw [lu]; exact hc)
        rw [et] at o
        exact ⟨W, J, b, e, outM_E (by omega) o, f⟩
      · rw [if_neg q] at hc; omega
    · have hc : c < P.length - 1 := hc
      obtain ⟨W, J, b, e, o, f⟩ := m_18 (L := L) (R := R) (N := N) (c := c) (hx 18 rfl) (by omega)
      rw [et] at o
      exact ⟨W, J, b, e, outM_E (by omega) o, f⟩
