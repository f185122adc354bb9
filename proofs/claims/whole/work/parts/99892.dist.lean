/-! ===== distance ===== -/
theorem ldCb_P {V W : Nat → Nat → Value} {I J : Nat → Nat → Int32} {tl : am_H} {a it kd ln sz m0 lm : Nat} {fi s v : Nat → Int32} (hf : frP V W I J) (ha : a ≠ 16) (h25 : it ≠ 25) (h26 : it ≠ 26) (h : ldC_b V I tl a it kd ln sz m0 fi s v lm) : ldC_b W J tl a it kd ln sz m0 fi s v lm := by
  obtain ⟨f1, f2, f3, f4, f5⟩ := hf
  obtain ⟨hp, ne, hi, hs, hm0, hm1, h4, h0, hlo, hhi, hT⟩ := h
  refine ⟨prA_c (fun j => f1 a j ha) (f4 it h25 h26) hp, ne, hi, hs, hm0, hm1, (f1 27 4 (by decide)).trans h4, (f1 27 0 (by decide)).trans h0, hlo, hhi, fun e => ?_⟩
  rw [f1 28 7 (by decide), f4 29 (by decide) (by decide)]
  exact hT e
theorem ldC_Pb {V W : Nat → Nat → Value} {I J : Nat → Nat → Int32} {tl : am_H} {a it kd ln sz m0 lm : Nat} {fi s v : Nat → Int32} (hf : frP_b V W I J) (ha : a ≠ 27) (h25 : it ≠ 36) (h26 : it ≠ 37) (h : ldC V I tl a it kd ln sz m0 fi s v lm) : ldC W J tl a it kd ln sz m0 fi s v lm := by
  obtain ⟨f1, f2, f3, f4, f5⟩ := hf
  obtain ⟨hp, ne, hi, hs, hm0, hm1, h4, h0, hlo, hhi, hT⟩ := h
  refine ⟨prA_c (fun j => f1 a j ha) (f4 it h25 h26) hp, ne, hi, hs, hm0, hm1, (f1 16 4 (by decide)).trans h4, (f1 16 0 (by decide)).trans h0, hlo, hhi, fun e => ?_⟩
  rw [f1 17 7 (by decide), f4 18 (by decide) (by decide)]
  exact hT e
theorem ldC_Lb {V W : Nat → Nat → Value} {I J : Nat → Nat → Int32} {tl : am_H} {a it kd ln sz m0 lm : Nat} {fi s v : Nat → Int32} (hf : frL_b V W I J) (ha : a ≠ 27) (ha2 : a ≠ 28) (h29 : it ≠ 29) (h : ldC V I tl a it kd ln sz m0 fi s v lm) : ldC W J tl a it kd ln sz m0 fi s v lm := by
  obtain ⟨f1, f2, f3⟩ := hf
  obtain ⟨hp, ne, hi, hs, hm0, hm1, h4, h0, hlo, hhi, hT⟩ := h
  refine ⟨prA_c (fun j => f1 a j (fun e => ha e.1) (fun e => ha2 e.1)) (f2 it h29) hp, ne, hi, hs, hm0, hm1, (f1 16 4 (by decide) (by decide)).trans h4, (f1 16 0 (by decide) (by decide)).trans h0, hlo, hhi, fun e => ?_⟩
  rw [f1 17 7 (by decide) (by decide), f2 18 (by decide)]
  exact hT e
/-- what comparing two programs may change -/
def frD (V W : Nat → Nat → Value) (I J : Nat → Nat → Int32) : Prop := (∀ a j, a ≠ 16 → a ≠ 27 → ¬ (a = 17 ∧ j = 7) → ¬ (a = 28 ∧ j = 7) → W a j = V a j) ∧ W 16 0 = V 16 0 ∧ W 27 0 = V 27 0 ∧ (∀ y, y ≠ 18 → y ≠ 25 → y ≠ 26 → y ≠ 29 → y ≠ 36 → y ≠ 37 → J y = I y) ∧ (wt V → wt W)
theorem frD_r {V : Nat → Nat → Value} {I : Nat → Nat → Int32} : frD V V I I := ⟨fun _ _ _ _ _ _ => rfl, rfl, rfl, fun _ _ _ _ _ _ _ => rfl, id⟩
theorem frD_t {V W X : Nat → Nat → Value} {I J K : Nat → Nat → Int32} (h1 : frD V W I J) (h2 : frD W X J K) : frD V X I K := ⟨fun a j p q r s => (h2.1 a j p q r s).trans (h1.1 a j p q r s), h2.2.1.trans h1.2.1, h2.2.2.1.trans h1.2.2.1, fun y a b c d e f => (h2.2.2.2.1 y a b c d e f).trans (h1.2.2.2.1 y a b c d e f), fun w => h2.2.2.2.2 (h1.2.2.2.2 w)⟩
theorem frD_P {V W : Nat → Nat → Value} {I J : Nat → Nat → Int32} (h : frP V W I J) : frD V W I J := ⟨fun a j p _ _ _ => h.1 a j p, h.2.1, h.1 27 0 (by decide), fun y _ b c _ _ _ => h.2.2.2.1 y b c, h.2.2.2.2⟩
theorem frD_Pb {V W : Nat → Nat → Value} {I J : Nat → Nat → Int32} (h : frP_b V W I J) : frD V W I J := ⟨fun a j _ p _ _ => h.1 a j p, h.1 16 0 (by decide), h.2.1, fun y _ _ _ _ b c => h.2.2.2.1 y b c, h.2.2.2.2⟩
theorem frD_L {V W : Nat → Nat → Value} {I J : Nat → Nat → Int32} (h : frL V W I J) : frD V W I J := ⟨fun a j p _ q _ => h.1 a j (fun e => p e.1) q, h.1 16 0 (by decide) (by decide), h.1 27 0 (by decide) (by decide), fun y a _ _ _ _ _ => h.2.1 y a, h.2.2⟩
theorem frD_Lb {V W : Nat → Nat → Value} {I J : Nat → Nat → Int32} (h : frL_b V W I J) : frD V W I J := ⟨fun a j _ p _ q => h.1 a j (fun e => p e.1) q, h.1 16 0 (by decide) (by decide), h.1 27 0 (by decide) (by decide), fun y _ _ _ a _ _ => h.2.1 y a, h.2.2⟩
theorem frD_k {V W : Nat → Nat → Value} {I J : Nat → Nat → Int32} (h : frD V W I J) : keep V W I J := ⟨fun a j hj => by
    by_cases c : a = 16
    · subst c
      have e : j = 0 := vr16 j hj
      subst e
      exact h.2.1
    · by_cases c2 : a = 27
      · subst c2
        have e : j = 0 := vr16_b j hj
        subst e
        exact h.2.2.1
      · exact h.1 a j c c2 (fun e => by
          obtain ⟨e1, e2⟩ := e
          subst e1
          exact vr17 j hj) (fun e => by
          obtain ⟨e1, e2⟩ := e
          subst e1
          exact vr17_b j hj), fun y hy => h.2.2.2.1 y (fun e => by subst e; revert hy; decide) (fun e => by subst e; revert hy; decide) (fun e => by subst e; revert hy; decide) (fun e => by subst e; revert hy; decide) (fun e => by subst e; revert hy; decide) (fun e => by subst e; revert hy; decide), h.2.2.2.2⟩
def dsN (I0 : Nat → Nat → Int32) (Oc Od : Nat → Int32 × Nat × Int32) (k : Nat) : Nat := if I0 202 k = 0 then (if (Oc k).1 = (Od k).1 then gN (Oc k).2.2 (Od k).2.2 else 1000000) else 0
set_option maxRecDepth 100000 in
set_option maxHeartbeats 1600000 in
theorem c_246l {L : Nat → Nat → Int64} {R : Nat → Nat → Option Nat} {tl : am_H} {I0 : Nat → Nat → Int32} {N a it kd ln sz m0 a' it' kd' ln' sz' m0' lm m : Nat} {fi s v fi' s' v' : Nat → Int32} {Oc Od : Nat → Int32 × Nat × Int32} (hN : 100 < N) (hne : a ≠ 27 ∧ it ≠ 36 ∧ it ≠ 37) (hne' : a' ≠ 16 ∧ it' ≠ 25 ∧ it' ≠ 26) (hO : ∀ k, k < m → cO kd ln sz s v lm I0 k (Oc k)) (hO' : ∀ k, k < m → cO kd' ln' sz' s' v' lm I0 k (Od k)) : ∀ (q k K : Nat) (V : Nat → Nat → Value) (I : Nat → Nat → Int32), k + q = m → q < K → wt V → ldC V I tl a it kd ln sz m0 fi s v lm → ldC_b V I tl a' it' kd' ln' sz' m0' fi' s' v' lm → csK V I I0 m → ∃ W J, fg_246_21 N K (.ref 14) (lN (suN (dsN I0 Oc Od) k)) (nI k) (fx V I L R ++ tl) = some (.inl (some (.long (lN (suN (dsN I0 Oc Od) m))), fx W J L R ++ tl)) ∧ frD V W I J := by
  intro q
  induction q with
  | zero =>
    intro k K V I hk hK hw hl hl' hc
    obtain ⟨K, rfl⟩ : ∃ k, K = k + 1 := ⟨K - 1, by omega⟩
    obtain rfl : k = m := by omega
    refine ⟨V, I, ?_, frD_r⟩
    rw [fg_246_21]
    exact ev_b (rdI hc.1) (ev_t (nI_le (Nat.le_refl _) (by have := hc.2.2.1; omega)) rfl)
  | succ q ih =>
    intro k K V I hk hK hw hl hl' hc
    obtain ⟨K, rfl⟩ : ∃ k, K = k + 1 := ⟨K - 1, by omega⟩
    have hc' := hc
    obtain ⟨v1, v2, m24, i15, i197, cok⟩ := hc
    have ck := cOk_c i15 i197 (cok k (by omega))
    have e41 := c_141 (V := V) (I := I) (L := L) (R := R) (tl := tl) (k := k) (h := 0) (by omega) ck (.inl rfl)
    rw [i197 202 (by omega) (by omega)] at e41
    have st : ∀ x, dsN I0 Oc Od k = x → suN (dsN I0 Oc Od) (k + 1) = suN (dsN I0 Oc Od) k + x := fun x e => by
      show _ + dsN I0 Oc Od k = _
      rw [e]
    by_cases c : I0 202 k = 0
    · rw [if_pos c] at e41
      obtain ⟨W1, J1, e1, x1, x2, x3, f1⟩ := c_pf (L := L) (R := R) hN hw hl (show k < 24 by omega) ck (cO_c i197 (hO k (by omega)))
      have k1 := frP_k f1
      have hc1 := csK_c k1 hc'
      obtain ⟨W2, J2, e2, y1, y2, y3, f2⟩ := c_pf_b (L := L) (R := R) hN (k1.2.2 hw) (ldCb_P f1 hne'.1 hne'.2.1 hne'.2.2 hl') (show k < 24 by omega) (cOk_c hc1.2.2.2.1 hc1.2.2.2.2.1 (cok k (by omega))) (cO_c hc1.2.2.2.2.1 (hO' k (by omega)))
      have fd := frD_t (frD_P f1) (frD_Pb f2)
      have kd' := frD_k fd
      obtain ⟨W', J', e', f'⟩ := ih (k + 1) K W2 J2 (by omega) (by omega) (kd'.2.2 hw) (ldC_Pb f2 hne.1 hne.2.1 hne.2.2 (ldC_c f1 hl)) (ldC_c_b f2 (ldCb_P f1 hne'.1 hne'.2.1 hne'.2.2 hl')) (csK_c kd' hc')
      refine ⟨W', J', ?_, frD_t fd f'⟩
      have u1 : W2 16 1 = .int (Oc k).1 := (f2.1 16 1 (by decide)).trans x1
      have u3 : W2 16 3 = .int (Oc k).2.2 := (f2.1 16 3 (by decide)).trans x3
      rw [fg_246_21]
      refine ev_b (rdI v1) (ev_f (nI_ge (by omega) (by omega)) (ev_i rfl (ev_cI e41 (ev_f (by decide) (ev_b (a := Value.ref 16) rfl (ev_b (a := Value.ref 15) rfl (ev_i rfl (ev_cV e1 (ev_b (a := Value.ref 27) rfl (ev_b (a := Value.ref 15) rfl (ev_i rfl (ev_cV e2 (ev_b (a := Value.ref 16) rfl (ev_b (rdI u1) (ev_b (a := Value.ref 27) rfl (ev_b (rdI y1) ?_))))))))))))))))
      by_cases cf : (Oc k).1 = (Od k).1
      · rw [st (gN (Oc k).2.2 (Od k).2.2) ((if_pos c).trans (if_pos cf))] at e'
        have gl := gN_le (Oc k).2.2 (Od k).2.2
        refine ev_t cf (ev_b (a := Value.ref 16) rfl (ev_b (rdI u3) (ev_b (a := Value.ref 27) rfl (ev_b (rdI y3) (ev_cI ((pe_134 _ _ _).trans (by rw [(gap_ok _ _).2])) ?_)))))
        unfold fg_246_114 fg_246_116
        rw [nI_l (by omega), lN_add, nI_1]
        exact e'
      · rw [st 1000000 ((if_pos c).trans (if_neg cf))] at e'
        refine ev_f cf ?_
        unfold fg_246_114 fg_246_116
        rw [show (1000000 : Int64) = lN 1000000 from rfl, lN_add, nI_1]
        exact e'
    · rw [if_neg c] at e41
      obtain ⟨W', J', e', f'⟩ := ih (k + 1) K V I (by omega) (by omega) hw hl hl' hc'
      refine ⟨W', J', ?_, f'⟩
      rw [st 0 (if_neg c)] at e'
      rw [fg_246_21]
      refine ev_b (rdI v1) (ev_f (nI_ge (by omega) (by omega)) (ev_i rfl (ev_cI e41 (ev_t rfl ?_))))
      unfold fg_246_116
      rw [nI_1]
      exact e'
set_option maxRecDepth 100000 in
set_option maxHeartbeats 1600000 in
/-- the class compares two births -/
theorem c_246 {V : Nat → Nat → Value} {I : Nat → Nat → Int32} {L : Nat → Nat → Int64} {R : Nat → Nat → Option Nat} {tl : am_H} {I0 : Nat → Nat → Int32} {N b b' lm n m a it a' it' : Nat} {f f' : Nat → Int32} {Ob : Nat → Nat → Int32 × Nat × Int32} (hN : 100 < N) (hw : wt V) (hc : csK V I I0 m) (hO : oB I0 lm n m Ob) (hb : b < n) (hb' : b' < n) (p1 : ∀ V I, prA V I tl (269 + a) (269 + it) (kdB I0 b) (lnB I0 b) (szB I0 b) (szB I0 b * wdN (kdB I0 b)) f) (i1 : itm (kdB I0 b) (sB I0 b) (vB I0 b) (szB I0 b) f) (o1 : sound (kdB I0 b) (lnB I0 b) (szB I0 b) (sB I0 b) (vB I0 b)) (p2 : ∀ V I, prA V I tl (269 + a') (269 + it') (kdB I0 b') (lnB I0 b') (szB I0 b') (szB I0 b' * wdN (kdB I0 b')) f') (i2 : itm (kdB I0 b') (sB I0 b') (vB I0 b') (szB I0 b') f') (o2 : sound (kdB I0 b') (lnB I0 b') (szB I0 b') (sB I0 b') (vB I0 b')) (h0 : V 16 0 = .int (nI lm)) (h0' : V 27 0 = .int (nI lm)) (hlo : 10 ≤ lm) (hhi : lm ≤ 2000) : ∃ W J, fm_246 N (.ref 14) (.ref (269 + a)) (.ref (269 + a')) (fx V I L R ++ tl) = some (.inl (some (.long (lN (suN (dsN I0 (Ob b) (Ob b')) m))), fx W J L R ++ tl)) ∧ frD V W I J := by
  obtain ⟨W1, J1, e1, g1, f1⟩ := c_115 (L := L) (R := R) hN (p1 V I) (tl_ne a it) i1 o1 (Nat.le_refl _) (sz_1000 o1.2.1) h0 hlo hhi
  have fd1 := frD_L f1
  obtain ⟨W2, J2, e2, g2, f2⟩ := c_115_b (V := W1) (I := J1) (L := L) (R := R) hN (p2 W1 J1) ⟨by omega, by omega, by omega, by omega, by omega⟩ i2 o2 (Nat.le_refl _) (sz_1000 o2.2.1) (fd1.2.2.1.trans h0') hlo hhi
  have fd2 := frD_t fd1 (frD_Lb f2)
  have k2 := frD_k fd2
  obtain ⟨W3, J3, e3, f3⟩ := c_246l (L := L) (R := R) (tl := tl) hN ⟨by omega, by omega, by omega⟩ ⟨by omega, by omega, by omega⟩ (hO b hb) (hO b' hb') m 0 N W2 J2 (by omega) (by have := hc.2.2.1; omega) (k2.2.2 hw) (ldC_Lb f2 (by omega) (by omega) (by omega) g1) g2 (csK_c k2 hc)
  refine ⟨W3, J3, ?_, frD_t fd2 f3⟩
  unfold fm_246 fg_246_0
  exact ev_b (a := Value.ref 16) rfl (ev_i rfl (ev_cV e1 (ev_b (a := Value.ref 27) rfl (ev_i rfl (ev_cV e2 e3)))))
/-! ===== the reference compares two births ===== -/
set_option maxRecDepth 100000 in
set_option maxHeartbeats 1600000 in
theorem r_ask2 {V : Nat → Nat → Value} {I : Nat → Nat → Int32} {L : Nat → Nat → Int64} {R : Nat → Nat → Option Nat} {tl : am_H} {kd ln sz lm k : Nat} {s v : Nat → Int32} {o : Int32 × Nat × Int32} {N : Nat} (hN : 5000 < N) (hw : wt V) (hd : ldR V I kd ln sz s v lm) (hk : k < 24) (ho : cO kd ln sz s v lm I k o) : ∃ W J len, fm_403 N (.ref 174) (fx (inV V (I 197 k) (I 198 k) (I 199 k) (I 203 k)) (iup I 212 (cpr (I 212) (I 204) k 8)) L R ++ tl) = some (.inl (none, fx W J L R ++ tl)) ∧ W 174 48 = .int o.1 ∧ W 174 49 = .int o.2.2 ∧ frQ V W I J ∧ I 203 k = nI len ∧ len ≤ 8 ∧ inR W J (I 197 k) (I 198 k) (I 199 k) len (fun i => I 204 (8 * k + i)) := by
  obtain ⟨len, l8, e0, ho⟩ := ho
  have fq : frQ V (inV V (I 197 k) (I 198 k) (I 199 k) (I 203 k)) I (iup I 212 (cpr (I 212) (I 204) k 8)) := ⟨fun a j hj => inV_o (fun e => by
    refine ⟨?_, ?_, ?_, ?_⟩ <;> (intro e2; subst e2; exact hj e (by decide))), fun y hy => iup_na (fun e => by subst e; exact hy (by decide)), wt_inV⟩
  obtain ⟨W, J, e, w1, w2, w3, f⟩ := r_403 (L := L) (R := R) (tl := tl) (row := fun i => I 204 (8 * k + i)) (len := len) hN (wt_inV hw) (ldR_c fq hd) ⟨rfl, rfl, rfl, by rw [← e0]; rfl, l8, fun i hi => cpr_at (D := I 212) (Q := I 204) (b := k) (by omega)⟩ ho
  refine ⟨W, J, len, e, w1, w3, frQ_t fq (frR_Q f), e0, l8, (f.1 174 51 (.inr (by decide))).trans rfl, (f.1 174 52 (.inr (by decide))).trans rfl, (f.1 174 53 (.inr (by decide))).trans rfl, (f.1 174 54 (.inr (by decide))).trans (by rw [← e0]; rfl), l8, fun i hi => ?_⟩
  rw [f.2.1 212 (by decide) (by decide) (by decide) (by decide) (by decide), iup_eq]
  exact cpr_at (D := I 212) (Q := I 204) (b := k) (by omega)
theorem cO_z {kd ln sz : Nat} {s v : Nat → Int32} {lm : Nat} {I : Nat → Nat → Int32} {k : Nat} {o : Int32 × Nat × Int32} (ho : cO kd ln sz s v lm I k o) (hs : sound kd ln sz s v) (h : o.1 ≠ 0) : o.2.2 = 0 := by
  obtain ⟨len, l8, e0, o0, o1, o2, o3⟩ := ho
  have key : ∀ (w f : Int32) (u : Nat), o = cut w f u → o.2.2 = 0 := fun w f u e => by
    rw [e] at h ⊢
    exact if_neg h
  have hk := hs.1
  rcases (by omega : kd = 0 ∨ kd = 1 ∨ kd = 2 ∨ kd = 3) with rfl | rfl | rfl | rfl
  · exact key _ _ _ (o0 rfl)
  · obtain ⟨ht, -, eo⟩ := o1 rfl
    exact key _ _ _ eo
  · exact key _ _ _ (o2 rfl)
  · exact key _ _ _ (o3 rfl)
theorem frT_Q {V W : Nat → Nat → Value} {I J : Nat → Nat → Int32} {L : Nat → Nat → Int64} (h : frQ V W I J) : frT V W I J L L := frT_J (frJ_Q h)
theorem gN_0 : gN 0 0 = 0 := by decide
set_option maxRecDepth 100000 in
set_option maxHeartbeats 1600000 in
theorem r_525l {L : Nat → Nat → Int64} {R : Nat → Nat → Option Nat} {tl : am_H} {V0 : Nat → Nat → Value} {I0 : Nat → Nat → Int32} {N b b' lm n m : Nat} {Ob : Nat → Nat → Int32 × Nat × Int32} (hN : 5000 < N) (hn : n ≤ 600) (hlo : 10 ≤ lm) (hhi : lm ≤ 2000) (h6 : I0 206 0 = nI lm) (hB : ∀ b, b < n → bK R tl I0 b) (hO : oB I0 lm n m Ob) (hb : b < n) (hb' : b' < n) : ∀ (q k K : Nat) (V : Nat → Nat → Value) (I : Nat → Nat → Int32), k + q = m → q < K → wt V → keep V0 V I0 I → csK V I I0 m → ∃ W J, fg_525_5 N K (.ref 174) (nI b) (nI b') (lN (suN (dsN I0 (Ob b) (Ob b')) k)) (nI k) (fx V I L R ++ tl) = some (.inl (some (.long (lN (suN (dsN I0 (Ob b) (Ob b')) m))), fx W J L R ++ tl)) ∧ frT V W I J L L := by
  intro q
  induction q with
  | zero =>
    intro k K V I hk hK hw hkp hc
    obtain ⟨K, rfl⟩ : ∃ k, K = k + 1 := ⟨K - 1, by omega⟩
    obtain rfl : k = m := by omega
    refine ⟨V, I, ?_, frT_r⟩
    rw [fg_525_5]
    exact ev_b (rdI hc.2.1) (ev_t (nI_le (Nat.le_refl _) (by have := hc.2.2.1; omega)) rfl)
  | succ q ih =>
    intro k K V I hk hK hw hkp hc
    obtain ⟨K, rfl⟩ : ∃ k, K = k + 1 := ⟨K - 1, by omega⟩
    have hc' := hc
    obtain ⟨v1, v2, m24, i15, i197, cok⟩ := hc
    have r2 : am_pA 2 (.ref 202) (nI k) (fx V I L R ++ tl) = some (I0 202 k) := (qa_202 (by omega)).trans (by rw [i197 202 (by omega) (by omega)])
    have st : ∀ x, dsN I0 (Ob b) (Ob b') k = x → suN (dsN I0 (Ob b) (Ob b')) (k + 1) = suN (dsN I0 (Ob b) (Ob b')) k + x := fun x e => by
      show _ + dsN I0 (Ob b) (Ob b') k = _
      rw [e]
    by_cases c : I0 202 k = 0
    · obtain ⟨q1, q2, q3, q4, -⟩ := hB b hb
      obtain ⟨t1, t2, t3, t4, -⟩ := hB b' hb'
      obtain ⟨e1, g1⟩ := r_ldb (V := V0) (W := V) (I := I0) (J := I) (L := L) (R := R) (tl := tl) (N := N) (b := b) (by omega) (by omega) hkp q1 q2 q3 q4 h6 hlo hhi
      have a1 := frT_d (V := V) (I := I) (L := L) (kd := kdB I0 b) (ln := lnB I0 b) (sz := szB I0 b) (b := b)
      have i1 : ∀ y, 197 ≤ y → y ≤ 204 → dkI I b (szB I0 b) y = I0 y := fun y h1 h2 => by
        rw [dkI_o (by omega) (by omega)]
        exact i197 y h1 h2
      have ho := hO b hb k (by omega)
      have ho' := hO b' hb' k (by omega)
      obtain ⟨W2, J2, len, e2, w1, w2, f2, l0, l8, hin⟩ := r_ask2 (L := L) (R := R) (tl := tl) (N := N) (o := Ob b k) hN (a1.2.2.2 hw) g1 (show k < 24 by omega) (cO_c i1 ho)
      rw [i1 197 (by omega) (by omega), i1 198 (by omega) (by omega), i1 199 (by omega) (by omega), i1 204 (by omega) (by omega)] at hin
      rw [i1 203 (by omega) (by omega)] at l0
      have a2 := frT_t a1 (frT_Q (L := L) f2)
      have kp2 := keep_t hkp (frT_k a2).1
      obtain ⟨e3, g3⟩ := r_ldb (V := V0) (W := W2) (I := I0) (J := J2) (L := L) (R := R) (tl := tl) (N := N) (b := b') (by omega) (by omega) kp2 t1 t2 t3 t4 h6 hlo hhi
      have a3 := frT_t a2 (frT_d (V := W2) (I := J2) (L := L) (kd := kdB I0 b') (ln := lnB I0 b') (sz := szB I0 b') (b := b'))
      obtain ⟨len', l8', l0', ho2⟩ := ho'
      have el : len' = len := (nI_eq (by omega) (by omega)).mp (l0'.symm.trans l0)
      subst el
      obtain ⟨h51, h52, h53, h54, -, hrow⟩ := hin
      obtain ⟨W4, J4, e4, y1, y2, y3, f4⟩ := r_403 (V := dkV W2 (kdB I0 b') (lnB I0 b') (szB I0 b')) (I := dkI J2 b' (szB I0 b')) (L := L) (R := R) (tl := tl) (N := N) (o := Ob b' k) (row := fun i => I0 204 (8 * k + i)) (len := len') hN (a3.2.2.2 hw) g3 ⟨(dk_o (fun _ => by decide)).trans h51, (dk_o (fun _ => by decide)).trans h52, (dk_o (fun _ => by decide)).trans h53, (dk_o (fun _ => by decide)).trans h54, l8', fun i hi => by rw [dkI_o (by decide) (by decide)]; exact hrow i hi⟩ ho2
      have a4 := frT_t a3 (frT_Q (L := L) (frR_Q f4))
      obtain ⟨W', J', e', f'⟩ := ih (k + 1) K W4 J4 (by omega) (by omega) (a4.2.2.2 hw) (keep_t hkp (frT_k a4).1) (csK_c (frT_k a4).1 hc')
      refine ⟨W', J', ?_, frT_t a4 f'⟩
      have hf := cO_k ho q4
      rw [fg_525_5]
      refine ev_b (rdI v2) (ev_f (nI_ge (by omega) (by omega)) (ev_b (a := Value.ref 202) rfl (ev_b r2 (ev_t c (ev_i rfl (ev_cV e1 (ev_i rfl (ev_cV (r_402 (by omega) (by omega)) (ev_i rfl (ev_cV e2 (ev_b (rdI w1) (ev_b (rdI w2) (ev_i rfl (ev_cV e3 (ev_i rfl (ev_cV e4 (ev_b (rdI y1) ?_)))))))))))))))))
      by_cases cf : (Ob b k).1 = (Ob b' k).1
      · rw [st (gN (Ob b k).2.2 (Ob b' k).2.2) ((if_pos c).trans (if_pos cf))] at e'
        refine ev_t cf ?_
        by_cases c0 : (Ob b k).1 = 0
        · refine ev_t ((fOk_le hf).mpr c0) (ev_b (rdI y3) (ev_cL ((pe_426 _ _ _).trans (by rw [(gap_ok _ _).1])) ?_))
          unfold fg_525_97 fg_525_99
          rw [lN_add, nI_1]
          exact e'
        · have z1 := cO_z ho q4 c0
          have z2 := cO_z (hO b' hb' k (by omega)) t4 (by rw [← cf]; exact c0)
          rw [z1, z2, gN_0] at e'
          refine ev_f (fun e => c0 ((fOk_le hf).mp e)) ?_
          unfold fg_525_97 fg_525_99
          rw [show (0 : Int64) = lN 0 from rfl, lN_add, nI_1]
          exact e'
      · rw [st 1000000 ((if_pos c).trans (if_neg cf))] at e'
        refine ev_f cf ?_
        unfold fg_525_97 fg_525_99
        rw [show (1000000 : Int64) = lN 1000000 from rfl, lN_add, nI_1]
        exact e'
    · obtain ⟨W', J', e', f'⟩ := ih (k + 1) K V I (by omega) (by omega) hw hkp hc'
      refine ⟨W', J', ?_, f'⟩
      rw [st 0 (if_neg c)] at e'
      rw [fg_525_5]
      refine ev_b (rdI v2) (ev_f (nI_ge (by omega) (by omega)) (ev_b (a := Value.ref 202) rfl (ev_b r2 (ev_f c ?_))))
      unfold fg_525_99
      rw [nI_1]
      exact e'
theorem r_525 {V : Nat → Nat → Value} {I : Nat → Nat → Int32} {L : Nat → Nat → Int64} {R : Nat → Nat → Option Nat} {tl : am_H} {V0 : Nat → Nat → Value} {I0 : Nat → Nat → Int32} {N b b' lm n m : Nat} {Ob : Nat → Nat → Int32 × Nat × Int32} (hN : 5000 < N) (hn : n ≤ 600) (hlo : 10 ≤ lm) (hhi : lm ≤ 2000) (h6 : I0 206 0 = nI lm) (hB : ∀ b, b < n → bK R tl I0 b) (hO : oB I0 lm n m Ob) (hb : b < n) (hb' : b' < n) (hw : wt V) (hk : keep V0 V I0 I) (hc : csK V I I0 m) : ∃ W J, fm_525 N (.ref 174) (nI b) (nI b') (fx V I L R ++ tl) = some (.inl (some (.long (lN (suN (dsN I0 (Ob b) (Ob b')) m))), fx W J L R ++ tl)) ∧ frT V W I J L L := by
  unfold fm_525 fg_525_0
  exact r_525l hN hn hlo hhi h6 hB hO hb hb' m 0 N V I (by omega) (by have := hc.2.2.1; omega) hw hk hc
/-! distance(a, b) -/
set_option maxRecDepth 100000 in
set_option maxHeartbeats 1600000 in
theorem u_40 {V : Nat → Nat → Value} {I : Nat → Nat → Int32} {L : Nat → Nat → Int64} {R : Nat → Nat → Option Nat} {tl : am_H} {n p j : Nat} (hr : rel V I L R tl n p) (hm : room tl n p j) {N : Nat} (hN : 5000 < N) (a1 a2 : Int32) : ∃ h', opBL (fm_244 N (.ref 0) a1 a2 (.ref 268) (fx V I L R ++ tl)) (fun h1 => fm_524 N (.ref 174) a1 a2 h1) vfI h' ∧ invW (j + 1) h' := by
  obtain ⟨b1, b2, b3⟩ := hr.1
  obtain ⟨m, lm, Ob, hc, hB, hO, l16, l27, l6, lo, hi2⟩ := all_ld hr
  rcases dich a1 (n := n) (by omega) with hn | ⟨b, hb, rfl⟩
  · refine ⟨_, opBL_err (c := 1) (b := 0) (by decide) (tl := tl ++ [am_dummy]) ?_ ?_, inv_mk (rel_thr 1 (rel_dum hr)) (room_dum hm)⟩
    · have e : fm_245 N (.ref 0) a1 a2 (fx V I L R ++ tl) = some (.inr (2, (fx V I L R ++ (tl ++ [am_dummy])))) := by
        unfold fm_245 fg_245_0
        refine ev_i rfl ?_
        rw [c_63n b2 hn]
        rfl
      unfold fm_244 fg_244_0
      refine ev_i rfl ?_
      rw [e]
      rfl
    · show fm_524 N (.ref 174) a1 a2 (fx V I L R ++ (tl ++ [am_dummy])) = _
      unfold fm_524 fg_524_0
      refine ev_i rfl (ev_cI (r_358n b3 b1 hn) (ev_t rfl ?_))
      unfold fg_524_21 fg_524_22
      exact ev_b qp_174_0 (ev_b (a := 1) rfl (ev_f (by decide) rfl))
  · obtain ⟨q1, q2, q3, q4, a, it, f, q5, q6, q7⟩ := hB b hb
    rcases dich a2 (n := n) (by omega) with hn | ⟨c, hcn, rfl⟩
    · refine ⟨_, opBL_err (c := 1) (b := 0) (by decide) (tl := tl ++ [am_dummy]) ?_ ?_, inv_mk (rel_thr 1 (rel_dum hr)) (room_dum hm)⟩
      · have e : fm_245 N (.ref 0) (nI b) a2 (fx V I L R ++ tl) = some (.inr (2, (fx V I L R ++ (tl ++ [am_dummy])))) := by
          unfold fm_245 fg_245_0
          refine ev_i rfl (ev_cR (c_63 b2 b1 hb q5) rfl (ev_b (a := Value.ref 14) rfl (ev_i rfl ?_)))
          rw [c_63n b2 hn]
          rfl
        unfold fm_244 fg_244_0
        refine ev_i rfl ?_
        rw [e]
        rfl
      · show fm_524 N (.ref 174) (nI b) a2 (fx V I L R ++ (tl ++ [am_dummy])) = _
        unfold fm_524 fg_524_0
        refine ev_i rfl (ev_cI (r_358 b3 b1 hb) (ev_f (by decide) (ev_i rfl (ev_cI (r_358n b3 b1 hn) (ev_t rfl ?_)))))
        unfold fg_524_21 fg_524_22
        exact ev_b qp_174_0 (ev_b (a := 1) rfl (ev_f (by decide) rfl))
    · obtain ⟨r1, r2, r3, r4, a', it', f', r5, r6, r7⟩ := hB c hcn
      obtain ⟨W1, J1, e1, f1⟩ := c_246 (V := V) (I := I) (L := L) (R := R) (N := N) (by omega) (rel_w hr) hc hO hb hcn q6 q7 q4 r6 r7 r4 l16 l27 lo hi2
      have k1 := frD_k f1
      have k4 := keep_t k1 (keep_0 (V := W1) (I := J1) (x := 0))
      obtain ⟨v, hv⟩ : ∃ v, v = lN (suN (dsN I (Ob b) (Ob c)) m) := ⟨_, rfl⟩
      obtain ⟨W2, J2, e2, f2⟩ := r_525 (V := vup W1 174 0 (.int 0)) (I := J1) (L := outL L v) (R := R) (tl := tl) (V0 := V) (I0 := I) (N := N) hN b1 lo hi2 l6 hB hO hb hcn (k4.2.2 (rel_w hr)) k4 (csK_c k4 hc)
      rw [← hv] at e1 e2
      refine ⟨_, opBL_g (v := v) (W := W1) (J := J1) (M := outL L v) (R1 := R) (t1 := tl) (W' := W2) (J' := J2) (M' := outL L v) (R2 := R) (t2 := tl) ?_ ?_ ?_ outL_at, inv_mk (rel_ol _ (rel_k (keep_t k4 (frT_k f2).1) hr)) (room_up hm)⟩
      · have e : fm_245 N (.ref 0) (nI b) (nI c) (fx V I L R ++ tl) = some (.inl (some (.long v), fx W1 J1 L R ++ tl)) := by
          unfold fm_245 fg_245_0
          exact ev_i rfl (ev_cR (c_63 b2 b1 hb q5) rfl (ev_b (a := Value.ref 14) rfl (ev_i rfl (ev_cR (c_63 b2 b1 hcn r5) rfl (ev_i rfl (ev_cL e1 rfl))))))
        unfold fm_244 fg_244_0
        refine ev_i rfl ?_
        rw [e]
        exact ev_b out_s rfl
      · show fm_524 N (.ref 174) (nI b) (nI c) (fx W1 J1 (outL L v) R ++ tl) = _
        have t1 : W1 174 1 = .int (nI n) := (k1.1 174 1 (by decide)).trans b3
        unfold fm_524 fg_524_0
        refine ev_i rfl (ev_cI (r_358 t1 b1 hb) (ev_f (by decide) (ev_i rfl (ev_cI (r_358 t1 b1 hcn) (ev_f (by decide) ?_)))))
        unfold fg_524_22
        exact ev_b qp_174_0 (ev_b (a := 0) rfl (ev_t (by decide) (ev_i rfl (ev_cL e2 rfl))))
      · rw [f2.1 174 0 (fun _ => by decide)]
        exact vup_eq
