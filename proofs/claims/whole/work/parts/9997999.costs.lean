/-! ===== costs of any good program, on both sides ===== -/
/-- what the judges stand on: as at the call's start -/
def jdg (I0 : Nat → Nat → Int32) (m lm : Nat) (V : Nat → Nat → Value) (I : Nat → Nat → Int32) : Prop := wt V ∧ csK V I I0 m ∧ V 16 0 = .int (nI lm) ∧ I 206 0 = nI lm
theorem jdg_k {I0 : Nat → Nat → Int32} {m lm : Nat} {V W : Nat → Nat → Value} {I J : Nat → Nat → Int32} (k : keep V W I J) (h : jdg I0 m lm V I) : jdg I0 m lm W J := ⟨k.2.2 h.1, csK_c k h.2.1, (k.1 16 0 (by decide)).trans h.2.2.1, by rw [k.2.1 206 (by decide)]; exact h.2.2.2⟩
theorem lay_s {Q : xI} : lay2 (srt Q) (vlu Q) Q := fun k x hx => by
  have hk : k < Q.length := (List.getElem?_eq_some_iff.mp hx).1
  rw [srt_at hk] at hx
  rw [← Option.some.inj hx]
  exact ⟨rfl, rfl⟩
set_option maxRecDepth 100000 in
set_option maxHeartbeats 4000000 in
theorem cost_fn {V : Nat → Nat → Value} {I : Nat → Nat → Int32} {L : Nat → Nat → Int64} {R : Nat → Nat → Option Nat} {tl : am_H} {N n p : Nat} (hN : 5000 < N) (hr : rel V I L R tl n p) : ∃ (m lm ws : Nat) (ct : Nat → Nat → xI → Nat), jdg I m lm V I ∧ 1 ≤ ws ∧ ws ≤ 216 ∧ (∀ kd ln Q, ct kd ln Q ≤ 432000000) ∧ (∀ (kd ln : Nat) (Q : xI) (X : Nat → Nat → Value) (Y : Nat → Nat → Int32) (M : Nat → Nat → Int64) (S : Nat → Nat → Option Nat) (t : am_H) (A it : Nat), gdP kd ln Q → jdg I m lm X Y → srcE X Y t A it kd ln Q → 30 < A → 30 < it → ∃ W J, fm_140 N (.ref 14) (.ref A) 0 (fx X Y M S ++ t) = some (.inl (some (.long (lN (ct kd ln Q))), fx W J M S ++ t)) ∧ frG X W Y J) ∧ (∀ (kd ln : Nat) (Q : xI) (X : Nat → Nat → Value) (Y : Nat → Nat → Int32) (M : Nat → Nat → Int64) (S : Nat → Nat → Option Nat) (t : am_H), gdP kd ln Q → jdg I m lm X Y → dkL X Y Q → X 174 13 = .int (nI kd) → (kd = 3 → X 174 15 = .int (nI ln)) → ∃ W J, fm_428 N (.ref 174) 0 (fx X Y M S ++ t) = some (.inl (none, fx W J M S ++ t)) ∧ W 174 91 = .long (lN (ct kd ln Q / Nat.gcd (ct kd ln Q) ws)) ∧ W 174 92 = .long (lN (ws / Nat.gcd (ct kd ln Q) ws)) ∧ frJ X W Y J) := by
  obtain ⟨m, hc⟩ := csK_r hr
  have hset : ∃ lm, V 16 0 = .int (nI lm) ∧ I 206 0 = nI lm ∧ 10 ≤ lm ∧ lm ≤ 2000 := by
    obtain ⟨a, b, c, d, e, s1, s2, -, -, -, -, -, s3, -, -, s6, -⟩ := hr.2.2.2.2.2.1
    exact ⟨a, s3, s6, s1, s2⟩
  obtain ⟨lm, l0, l6, lo, hi⟩ := hset
  have hO : ∀ (kd ln : Nat) (Q : xI), ∃ Oc : Nat → Int32 × Nat × Int32, gdP kd ln Q → ∀ k, k < m → cO kd ln Q.length (srt Q) (vlu Q) lm I k (Oc k) := fun kd ln Q => by
    by_cases h : gdP kd ln Q
    · obtain ⟨Oc, hh⟩ := cO_all (gd_snd h lay_s) hc.2.2.2.2.2 lm
      exact ⟨Oc, fun _ => hh⟩
    · exact ⟨fun _ => (0, 0, 0), fun e => absurd e h⟩
  have hO' : ∃ Oc : Nat → Nat → xI → Nat → Int32 × Nat × Int32, ∀ kd ln Q, gdP kd ln Q → ∀ k, k < m → cO kd ln Q.length (srt Q) (vlu Q) lm I k (Oc kd ln Q k) := ⟨fun kd ln Q => Classical.choose (hO kd ln Q), fun kd ln Q => Classical.choose_spec (hO kd ln Q)⟩
  obtain ⟨Oc, hOc⟩ := hO'
  have hws := wsN_le (I0 := I) (h := 0) (m := m) hc.2.2.1 hc.2.2.2.2.2
  refine ⟨m, lm, wsN I 0 m, fun kd ln Q => ctN I 0 (Oc kd ln Q) m, ⟨rel_w hr, hc, l0, l6⟩, hws.1, hws.2, fun kd ln Q => ctN_le hc.2.2.1 hc.2.2.2.2.2, ?_, ?_⟩
  · intro kd ln Q X Y M S t A it hg hj hs hA hi2
    obtain ⟨m0, f, p1, p2, p3, p4⟩ := hs
    exact c_140 (L := M) (R := S) (N := N) (h := 0) (by omega) hj.1 p1 ⟨by omega, by omega, by omega, by omega, by omega⟩ p2 (gd_snd hg lay_s) p3 p4 hj.2.2.1 lo hi (.inl rfl) hj.2.1 (hOc kd ln Q hg)
  · intro kd ln Q X Y M S t hg hj hd h13 h15
    have hl : ldR X Y kd ln Q.length (srt Q) (vlu Q) lm := ⟨h13, hd.1, h15, fun k hk => hd.2 k _ (srt_at hk), gd_snd hg lay_s, hj.2.2.2, lo, hi⟩
    obtain ⟨W, J, e, x1, x2, f⟩ := r_428 (L := M) (R := S) (tl := t) (N := N) (h := 0) hN (hOc kd ln Q hg) hj.1 hl hj.2.1
    rw [ofI_N] at x1
    exact ⟨W, J, e, x1, x2, f⟩
theorem lN_mm2 (a b : Nat) : lN a * lN b = lN (a * b) := by
  unfold lN
  exact (Int64.ofNat_mul a b).symm
/-- which is less -/
def sgW (c d : Nat) : Nat := if c < d then 0 else if c = d then 1 else 2
theorem sgW_c {c d w : Nat} (hc : c ≤ 432000000) (hd : d ≤ 432000000) (hw : w < 3) : (pv_151 (lN c) (lN d) = nI w - 1) ↔ sgW c d = w := by
  obtain ⟨z1, z2⟩ := cmpL2 (a := c) (b := d) (by omega) (by omega)
  unfold sgW pv_151
  rcases Nat.lt_trichotomy c d with q | q | q
  · rw [if_pos q, if_neg (fun e => by have := z2.mp e; omega)]
    rcases (by omega : w = 0 ∨ w = 1 ∨ w = 2) with rfl | rfl | rfl <;> decide
  · rw [if_neg (show ¬ c < d by omega), if_pos q, if_pos (z2.mpr (by omega)), if_neg (fun e => e (z1.mpr q.symm))]
    rcases (by omega : w = 0 ∨ w = 1 ∨ w = 2) with rfl | rfl | rfl <;> decide
  · rw [if_neg (show ¬ c < d by omega), if_neg (show ¬ c = d by omega), if_pos (z2.mpr (by omega)), if_pos (fun e => by have := z1.mp e; omega)]
    rcases (by omega : w = 0 ∨ w = 1 ∨ w = 2) with rfl | rfl | rfl <;> decide
/-- the same by lowest terms -/
theorem sgW_r {c d ws : Nat} (hc : c ≤ 432000000) (hd : d ≤ 432000000) (h1 : 1 ≤ ws) (h2 : ws ≤ 216) : (0 ≤ lg_cmp ((lN (c / Nat.gcd c ws) * lN (ws / Nat.gcd d ws)) - (lN (d / Nat.gcd d ws) * lN (ws / Nat.gcd c ws))) 0 ↔ d ≤ c) ∧ (lg_cmp ((lN (c / Nat.gcd c ws) * lN (ws / Nat.gcd d ws)) - (lN (d / Nat.gcd d ws) * lN (ws / Nat.gcd c ws))) 0 = 0 ↔ d = c) := by
  have l1 := dv_le c (Nat.gcd c ws)
  have l2 := dv_le ws (Nat.gcd c ws)
  have l3 := dv_le d (Nat.gcd d ws)
  have l4 := dv_le ws (Nat.gcd d ws)
  rw [lN_mm2, lN_mm2]
  obtain ⟨x1, x2⟩ := cmpL (a := c / Nat.gcd c ws * (ws / Nat.gcd d ws)) (b := d / Nat.gcd d ws * (ws / Nat.gcd c ws)) (mul_lt60 (by omega) (by omega)) (mul_lt60 (by omega) (by omega))
  obtain ⟨y1, y2⟩ := cmq_eq (c1 := c) (c2 := d) h1
  exact ⟨x2.trans y2, x1.trans y1⟩
theorem srcE_90 {V : Nat → Nat → Value} {I : Nat → Nat → Int32} {tl : am_H} {kd ln : Nat} {Q : xI} (w : wt V) (h : holdE V I 90 kd ln Q) (hq : Q.length * wdN kd ≤ 120) : srcE V I tl 90 91 kd ln Q := ⟨120, I 91, prF_90 (L := fun _ _ => 0) (R := fun _ _ => none) w h.1 h.2.1 h.2.2.1 h.2.2.2.1, h.2.2.2.2, hq, by omega⟩
theorem srcE_g {V W : Nat → Nat → Value} {I J : Nat → Nat → Int32} {tl : am_H} {A it kd ln : Nat} {P : xI} (hA : 30 < A) (hi : 30 < it) (f : frG V W I J) (h : srcE V I tl A it kd ln P) : srcE W J tl A it kd ln P := srcE_c (fun j => f.1 A j (by omega) (by omega)) (f.2.2.1 it (by omega) (by omega) (by omega)) h
theorem SE_g {tl : am_H} {A it kd ln w : Nat} {P : xI} {V W : Nat → Nat → Value} {I J : Nat → Nat → Int32} (h : SE tl A it kd ln w P V I) (f : frG V W I J) : SE tl A it kd ln w P W J := by
  obtain ⟨h1, h2, h3, h4, h5, h6, h7, h8⟩ := h
  refine ⟨f.2.2.2 h1, (f.1 89 5 (by decide) (by decide)).trans h2, (f.1 89 7 (by decide) (by decide)).trans h3, (f.1 89 8 (by decide) (by decide)).trans h4, srcE_g (by omega) (by omega) f h5, h6, h7, fun e => ?_⟩
  obtain ⟨x1, x2⟩ := h8 e
  refine ⟨(f.1 94 7 (by decide) (by decide)).trans x1, fun j hj => ?_⟩
  rw [f.2.2.1 _ (by decide) (by decide) (by decide), f.2.2.1 _ (by decide) (by decide) (by decide), f.2.2.1 _ (by decide) (by decide) (by decide), f.2.2.1 _ (by decide) (by decide) (by decide), f.2.2.1 _ (by decide) (by decide) (by decide), f.2.2.1 _ (by decide) (by decide) (by decide)]
  exact x2 j hj
