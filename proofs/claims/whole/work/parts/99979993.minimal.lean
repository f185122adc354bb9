/-! ===== minimal(b) ===== -/
theorem hd_302_76 {N : Nat} {x0 : Value} {x1 : Int32} {h : am_H} {r_ : Option am_O} (k_ : ((am_vR (am_pG 2831 x0 h)).bind fun v1 => (if am_pOk 11 x0 h then am_cI true (fm_59 x0 v1 6 x1 ((-1)) ((-1)) ((-1)) 0 h) (fun v4 h5 => some (.inl (some (.int v4), h5))) else none)) = r_) : fg_302_76 N x0 x1 h = r_ := k_
theorem hd_302_51 {N : Nat} {K : Nat} {x0 : Value} {x1 : Int32} {x3 : Int32} {x4 : Int32} {x5 : Int32} {h : am_H} {r_ : Option am_O} (k_ : (if x4 = 0 then (fg_302_76 N x0 x1 h) else (if 60 ≤ x5 then (fg_302_76 N x0 x1 h) else (if am_pOk 11 x0 h then am_cI true (fm_303 N x0 x3 h) (fun v4 h5 => (fg_302_51 N K x0 x1 x3 v4 ((x5 + 1)) h5)) else none))) = r_) : fg_302_51 N (K + 1) x0 x1 x3 x4 x5 h = r_ := by rw [fg_302_51]; exact k_
theorem hd_302_36 {N : Nat} {x0 : Value} {x1 : Int32} {x2 : Value} {s0 : Int32} {h : am_H} {r_ : Option am_O} (k_ : ((am_vR (am_pG 2831 x0 h)).bind fun v1 => (if am_pOk 3 v1 h then am_cV true (fm_60 v1 x2 h) (fun h5 => (fg_302_51 N N x0 x1 s0 1 0 h5)) else none)) = r_) : fg_302_36 N x0 x1 x2 s0 h = r_ := k_
theorem hd_302_0 {N : Nat} {x0 : Value} {x1 : Int32} {h : am_H} {r_ : Option am_O} (k_ : (if am_pOk 11 x0 h then am_cR true (fm_63 x0 x1 h) (fun v2 h3 => (if am_pOk 11 x0 h3 then am_cV true (fm_32 x0 1 h3) (fun h7 => ((am_vI (am_pG 769 v2 h7)).bind fun v9 => (if ¬ v9 = 1 then ((am_vI (am_pG 769 v2 h7)).bind fun v12 => (if ¬ v12 = 3 then (fg_302_36 N x0 x1 v2 3 h7) else (fg_302_36 N x0 x1 v2 1 h7))) else (fg_302_36 N x0 x1 v2 2 h7)))) else none)) else none) = r_) : fg_302_0 N x0 x1 h = r_ := k_
theorem hm_302 {N : Nat} {y0 : Value} {y1 : Int32} {h : am_H} {r_ : Option am_O} (k_ : fg_302_0 N y0 y1 h = r_) : fm_302 N y0 y1 h = r_ := k_
theorem hd_577_47 {N : Nat} {K : Nat} {x0 : Value} {x1 : Int32} {x2 : Int32} {h : am_H} {r_ : Option am_O} (k_ : (if x2 = 0 then (if am_pOk 12 x0 h then am_cV true (fm_442 N x0 h) (fun h4 => (if am_pOk 12 x0 h4 then am_cI true (fm_356 N x0 6 x1 ((-1)) ((-1)) ((-1)) 0 h4) (fun v7 h8 => some (.inl (some (.int v7), h8))) else none)) else none) else (if am_pOk 12 x0 h then am_cV true (fm_442 N x0 h) (fun h12 => (if am_pOk 12 x0 h12 then am_cV true (fm_428 N x0 0 h12) (fun h16 => ((am_vL (am_pG 3163 x0 h16)).bind fun v18 => ((am_vL (am_pG 3164 x0 h16)).bind fun v20 => (if am_pOk 12 x0 h16 then am_cI true (fm_578 N x0 v18 v20 h16) (fun v23 h24 => (fg_577_47 N K x0 x1 v23 h24)) else none)))) else none)) else none)) = r_) : fg_577_47 N (K + 1) x0 x1 x2 h = r_ := by rw [fg_577_47]; exact k_
theorem hd_577_28 {N : Nat} {x0 : Value} {x1 : Int32} {s0 : Value} {s1 : Int32} {h : am_H} {r_ : Option am_O} (k_ : ((am_pP 3072 s0 (.int s1) h).bind fun h1 => ((am_vI (am_pG 3072 x0 h1)).bind fun v3 => (if v3 ≤ 0 then (if am_pOk 12 x0 h1 then am_cV true (fm_391 N x0 x1 h1) (fun h8 => (fg_577_47 N N x0 x1 1 h8)) else none) else some (.inl (some (.int 0), h1))))) = r_) : fg_577_28 N x0 x1 s0 s1 h = r_ := k_
theorem hd_577_0 {N : Nat} {x0 : Value} {x1 : Int32} {h : am_H} {r_ : Option am_O} (k_ : (if am_pOk 12 x0 h then am_cI true (fm_358 x0 x1 h) (fun v2 h3 => (if ¬ v2 = 0 then ((am_vI (am_pG 3073 x0 h3)).bind fun v6 => (if ¬ v6 = 600 then (fg_577_28 N x0 x1 x0 0 h3) else (fg_577_28 N x0 x1 x0 2 h3))) else (fg_577_28 N x0 x1 x0 1 h3))) else none) = r_) : fg_577_0 N x0 x1 h = r_ := k_
theorem hm_577 {N : Nat} {y0 : Value} {y1 : Int32} {h : am_H} {r_ : Option am_O} (k_ : fg_577_0 N y0 y1 h = r_) : fm_577 N y0 y1 h = r_ := k_
set_option maxRecDepth 100000 in
set_option maxHeartbeats 4000000 in
theorem s303 {V : Nat → Nat → Value} {I : Nat → Nat → Int32} {L : Nat → Nat → Int64} {R : Nat → Nat → Option Nat} {tl : am_H} {I0 : Nat → Nat → Int32} {N kd ln m0 lm : Nat} {P : xI} {ct : Nat → Nat → xI → Nat} (hN : 5000 < N) (hg : gdP kd ln P) (hct : ∀ kd ln Q, ct kd ln Q ≤ 432000000) (hcc : ∀ (kd ln : Nat) (Q : xI) (X : Nat → Nat → Value) (Y : Nat → Nat → Int32) (M : Nat → Nat → Int64) (S : Nat → Nat → Option Nat) (t : am_H) (A it : Nat), gdP kd ln Q → jdg I0 m0 lm X Y → srcE X Y t A it kd ln Q → 30 < A → 30 < it → ∃ W J, fm_140 N (.ref 14) (.ref A) 0 (fx X Y M S ++ t) = some (.inl (some (.long (lN (ct kd ln Q))), fx W J M S ++ t)) ∧ frG X W Y J) (hj : jdg I0 m0 lm V I) (h167 : holdE V I 167 kd ln P) : ∃ W J b, fm_303 N (.ref 0) (nI (hwM kd)) (fx V I L R ++ tl) = some (.inl (some (.int (bI b)), fx W J L R ++ tl)) ∧ keep V W I J ∧ (b = true ↔ (fsC (fcd (cdE kd ln P (hwM kd)) (fun Q => decide (ct kd ln Q ≤ ct kd ln P))) (ncE kd ln P.length (hwM kd)) 0).isSome = true) ∧ holdE W J 167 kd ln ((fsC (fcd (cdE kd ln P (hwM kd)) (fun Q => decide (ct kd ln Q ≤ ct kd ln P))) (ncE kd ln P.length (hwM kd)) 0).getD P) := by
  have hw := hwM_4 kd
  have nb := ncE_b hg hw
  have sP := srcE_167 (tl := tl) hj.1 h167 (gd_w hg)
  obtain ⟨W0, J0, e0, f0⟩ := hcc kd ln P V I L R tl 167 168 hg hj sP (by decide) (by decide)
  have k0 := frG_k f0
  have h0 : holdE W0 J0 167 kd ln P := holdE_c (fun j => f0.1 167 j (by decide) (by omega)) (f0.2.2.1 168 (by decide) (by decide) (by decide)) h167
  obtain ⟨W1, J1, nC, e1, s1, h9, hC, f1⟩ := beg_E (V := W0) (I := J0) (L := L) (R := R) (tl := tl) (N := N) (by omega) hg hw (k0.2.2 hj.1) (srcE_167 (k0.2.2 hj.1) h0 (gd_w hg)) (by decide) (by decide)
  have k1 := keep_t k0 (keep_Cg f1)
  obtain ⟨W2, J2, b, e2, k2, i2, h2⟩ := l303 (L := L) (R := R) (tl := tl) (I0 := I0) (N := N) (m0 := m0) (lm := lm) (bf := ct kd ln P) (ct := ct kd ln) (by omega) hg hw (hct kd ln P) (hct kd ln) nb hC (fun Q X Y gQ hj hs => hcc kd ln Q X Y L R tl 90 91 gQ hj hs (by decide) (by decide)) (ncE kd ln P.length (hwM kd)) 0 N W1 J1 (by omega) (by omega) s1 (jdg_k k1 hj) (holdE_c (fun j => f1.1 167 j (by omega)) (f1.2.1 168 (by omega)) h0)
  refine ⟨W2, J2, b, ?_, keep_t k1 k2, i2, h2⟩
  apply hm_303
  apply hd_303_0
  exact ev_b (rdR rfl) (ev_b (rdR rfl) (ev_i rfl (ev_cL e0 (ev_b (rdR rfl) (ev_b (rdR rfl) (ev_i rfl (ev_cI e1 e2)))))))
theorem c579 {kd : Nat} (hk : kd ≤ 3) (h : am_H) : fm_579 (nI kd) h = some (.inl (some (.int (nI (hwM kd))), h)) := by
  apply hm_579
  apply hd_579_0
  rcases (by omega : kd = 0 ∨ kd = 1 ∨ kd = 2 ∨ kd = 3) with rfl | rfl | rfl | rfl
  · exact ev_t (by decide) (ev_t (by decide) (hd_579_19 rfl))
  · exact ev_f (fun e => e rfl) (hd_579_19 rfl)
  · exact ev_t (by decide) (ev_t (by decide) (hd_579_19 rfl))
  · exact ev_t (by decide) (ev_f (fun e => e rfl) (hd_579_19 rfl))
set_option maxRecDepth 100000 in
set_option maxHeartbeats 4000000 in
theorem l578 {L : Nat → Nat → Int64} {R : Nat → Nat → Option Nat} {tl : am_H} {I0 : Nat → Nat → Int32} {N kd ln m0 lm ws : Nat} {P : xI} {ct : Nat → Nat → xI → Nat} (hN : 5000 < N) (hg : gdP kd ln P) (hct : ∀ kd ln Q, ct kd ln Q ≤ 432000000) (h1 : 1 ≤ ws) (h2 : ws ≤ 216) (hcr : ∀ (kd ln : Nat) (Q : xI) (X : Nat → Nat → Value) (Y : Nat → Nat → Int32) (M : Nat → Nat → Int64) (S : Nat → Nat → Option Nat) (t : am_H), gdP kd ln Q → jdg I0 m0 lm X Y → dkL X Y Q → X 174 13 = .int (nI kd) → (kd = 3 → X 174 15 = .int (nI ln)) → ∃ W J, fm_428 N (.ref 174) 0 (fx X Y M S ++ t) = some (.inl (none, fx W J M S ++ t)) ∧ W 174 91 = .long (lN (ct kd ln Q / Nat.gcd (ct kd ln Q) ws)) ∧ W 174 92 = .long (lN (ws / Nat.gcd (ct kd ln Q) ws)) ∧ frJ X W Y J) : ∀ (q i K : Nat) (V : Nat → Nat → Value) (I : Nat → Nat → Int32), i + q = cnt (cdE kd ln P (hwM kd)) (ncE kd ln P.length (hwM kd)) 0 → q < K → dsE kd ln P V I → jdg I0 m0 lm V I → V 174 0 = .int 0 → (∃ c, c ≤ ncE kd ln P.length (hwM kd) ∧ cnt (cdE kd ln P (hwM kd)) c 0 = i ∧ (fsC (fcd (cdE kd ln P (hwM kd)) (fun Q => decide (ct kd ln Q ≤ ct kd ln P))) (ncE kd ln P.length (hwM kd)) 0) = fsC (fcd (cdE kd ln P (hwM kd)) (fun Q => decide (ct kd ln Q ≤ ct kd ln P))) (ncE kd ln P.length (hwM kd) - c) c) → ∃ W J b, fg_578_17 N K (.ref 174) (lN (ct kd ln P / Nat.gcd (ct kd ln P) ws)) (lN (ws / Nat.gcd (ct kd ln P) ws)) (nI (cnt (cdE kd ln P (hwM kd)) (ncE kd ln P.length (hwM kd)) 0)) (nI i) (fx V I L R ++ tl) = some (.inl (some (.int (bI b)), fx W J L R ++ tl)) ∧ keep V W I J ∧ (b = true ↔ (fsC (fcd (cdE kd ln P (hwM kd)) (fun Q => decide (ct kd ln Q ≤ ct kd ln P))) (ncE kd ln P.length (hwM kd)) 0).isSome = true) ∧ dsE kd ln ((fsC (fcd (cdE kd ln P (hwM kd)) (fun Q => decide (ct kd ln Q ≤ ct kd ln P))) (ncE kd ln P.length (hwM kd)) 0).getD P) W J ∧ W 174 0 = .int 0 := by
  have hw := hwM_4 kd
  have nb := ncE_b hg hw
  have cm := cnt_m (cdE kd ln P (hwM kd)) (ncE kd ln P.length (hwM kd)) 0
  intro q
  induction q with
  | zero =>
    intro i K V I h hK hd hj z0 ⟨c, c1, c2, c3⟩
    obtain ⟨K, rfl⟩ : ∃ k, K = k + 1 := ⟨K - 1, by omega⟩
    have ca := cnt_ad (cdE kd ln P (hwM kd)) c (ncE kd ln P.length (hwM kd) - c) 0
    rw [show c + (ncE kd ln P.length (hwM kd) - c) = ncE kd ln P.length (hwM kd) by omega, Nat.zero_add] at ca
    have sk := fs_skip (cd := cdE kd ln P (hwM kd)) (pr := fun Q => decide (ct kd ln Q ≤ ct kd ln P)) (n := ncE kd ln P.length (hwM kd)) (ncE kd ln P.length (hwM kd) - c) c (ncE kd ln P.length (hwM kd)) (by omega) (Nat.le_refl _) (by omega)
    rw [Nat.sub_self] at sk
    rw [c3, sk]
    exact ⟨V, I, false, hd_578_17 (ev_t (nI_le (by omega) (by omega)) rfl), keep_r, ⟨fun e => Bool.noConfusion e, fun e => Bool.noConfusion e⟩, hd, z0⟩
  | succ q ih =>
    intro i K V I h hK hd hj z0 ⟨c, c1, c2, c3⟩
    obtain ⟨K, rfl⟩ : ∃ k, K = k + 1 := ⟨K - 1, by omega⟩
    obtain ⟨W, J, x, e, o, hx, hd1, k1, zz⟩ := rE_439 (L := L) (R := R) (tl := tl) (N := N) (so := nI i) (by omega) hg hw hd hj.1
    have hj1 := jdg_k k1 hj
    rcases o with ⟨-, -, d, Q, d1, d2, d3, d4, d5, d6⟩ | ⟨-, -, -, o4⟩
    case inr => exact absurd (o4 i (by omega) rfl) (by omega)
    have ei := (nI_eq (by omega) (by have := cnt_m (cdE kd ln P (hwM kd)) d 0; omega)).mp d3
    have gQ := cdE_gd hg hw d1 d2
    obtain ⟨W2, J2, e2, x1, x2, f2⟩ := hcr kd ln Q W J L R tl gQ hj1 d4 d5 (fun _ => d6)
    have k2 := frJ_k f2
    have hcd : c ≤ d := by
      by_cases u : c ≤ d
      · exact u
      · have := cnt_lt (cd := cdE kd ln P (hwM kd)) (c := d) (d := c) (by omega) (by rw [d2]; rfl)
        omega
    have ca := cnt_ad (cdE kd ln P (hwM kd)) c (d - c) 0
    rw [show c + (d - c) = d by omega, Nat.zero_add] at ca
    have sk := fs_skip (cd := cdE kd ln P (hwM kd)) (pr := fun Q => decide (ct kd ln Q ≤ ct kd ln P)) (n := ncE kd ln P.length (hwM kd)) (d - c) c d (by omega) (by omega) (by omega)
    rw [sk, show ncE kd ln P.length (hwM kd) - d = (ncE kd ln P.length (hwM kd) - (d + 1)) + 1 by omega] at c3
    have lr := lt_r (c := ct kd ln Q) (d := ct kd ln P) (hct kd ln Q) (hct kd ln P) h1 h2
    have z2 : W2 174 0 = .int 0 := (f2.1 174 0 (fun _ => by decide)).trans (zz.trans z0)
    have e580 : ∀ v : Int32, am_rfit (some FieldType.boolean) v = true → (if 0 < (lg_cmp (lN (ct kd ln Q / Nat.gcd (ct kd ln Q) ws) * lN (ws / Nat.gcd (ct kd ln P) ws)) (lN (ct kd ln P / Nat.gcd (ct kd ln P) ws) * lN (ws / Nat.gcd (ct kd ln Q) ws))) then (0 : Int32) else 1) = v → fm_580 N (.ref 174) (lN (ct kd ln P / Nat.gcd (ct kd ln P) ws)) (lN (ws / Nat.gcd (ct kd ln P) ws)) (fx W J L R ++ tl) = some (.inl (some (.int v), fx W2 J2 L R ++ tl)) := fun v hv ev => by
      apply hm_580
      apply hd_580_0
      refine ev_i rfl (ev_cV e2 (ev_b (rdL x1) (ev_b (rdL x2) ?_)))
      by_cases u : 0 < (lg_cmp (lN (ct kd ln Q / Nat.gcd (ct kd ln Q) ws) * lN (ws / Nat.gcd (ct kd ln P) ws)) (lN (ct kd ln P / Nat.gcd (ct kd ln P) ws) * lN (ws / Nat.gcd (ct kd ln Q) ws)))
      · rw [if_pos u] at ev; subst ev; exact ev_t u (hd_580_26 (ev_i rfl rfl))
      · rw [if_neg u] at ev; subst ev; exact ev_f u (hd_580_26 (ev_i rfl rfl))
    have st0 : ∀ v o, fm_580 N (.ref 174) (lN (ct kd ln P / Nat.gcd (ct kd ln P) ws)) (lN (ws / Nat.gcd (ct kd ln P) ws)) (fx W J L R ++ tl) = some (.inl (some (.int v), fx W2 J2 L R ++ tl)) → (if v = 0 then (fg_578_17 N K (.ref 174) (lN (ct kd ln P / Nat.gcd (ct kd ln P) ws)) (lN (ws / Nat.gcd (ct kd ln P) ws)) (nI (cnt (cdE kd ln P (hwM kd)) (ncE kd ln P.length (hwM kd)) 0)) ((nI i + 1)) (fx W2 J2 L R ++ tl)) else (if am_pOk 12 (.ref 174) (fx W2 J2 L R ++ tl) then am_cV true (fm_495 N (.ref 174) (fx W2 J2 L R ++ tl)) (fun h18 => some (.inl (some (.int 1), h18))) else none)) = o → fg_578_17 N (K + 1) (.ref 174) (lN (ct kd ln P / Nat.gcd (ct kd ln P) ws)) (lN (ws / Nat.gcd (ct kd ln P) ws)) (nI (cnt (cdE kd ln P (hwM kd)) (ncE kd ln P.length (hwM kd)) 0)) (nI i) (fx V I L R ++ tl) = o := fun v o ev k_ => by
      apply hd_578_17
      exact ev_f (nI_ge (by omega) (by omega)) (ev_b (rdI hd.1) (ev_cI (c579 hg.1 _) (ev_i rfl (ev_cI e (ev_i rfl (ev_cI ev k_))))))
    by_cases u : ct kd ln Q ≤ ct kd ln P
    · rw [c3, fsC_s (fcd_1 d2 (decide_eq_true u))]
      obtain ⟨W3, J3, e3, hd3, f3⟩ := s495E (V := W2) (I := J2) (L := L) (R := R) (tl := tl) (N := N) (by omega) gQ ⟨(f2.1 174 14 (fun _ => by decide)).trans d4.1, by rw [f2.2.1 186 (by decide), f2.2.1 187 (by decide)]; exact d4.2⟩ ((f2.1 174 13 (fun _ => by decide)).trans d5) ((f2.1 174 15 (fun _ => by decide)).trans d6)
      exact ⟨W3, J3, true, st0 1 _ (e580 1 rfl (if_neg (fun v => lr.mp v u))) (ev_f (by decide) (ev_i rfl (ev_cV e3 rfl))), keep_t k1 (keep_t k2 (keep_39 f3)), ⟨fun _ => rfl, fun _ => rfl⟩, hd3, (f3.1 174 0 (by decide)).trans z2⟩
    · rw [fsC_n (fcd_2 d2 (decide_eq_false u))] at c3
      have c0 := cnt_0 (cd := cdE kd ln P (hwM kd)) d
      rw [d2, if_pos (show (some Q).isSome = true from rfl)] at c0
      obtain ⟨W', J', b', e', k', i', h', z'⟩ := ih (i + 1) K W2 J2 (by omega) (by omega) (dsE_J hd1 f2) (jdg_k k2 hj1) z2 ⟨d + 1, by omega, by omega, c3⟩
      refine ⟨W', J', b', st0 0 _ (e580 0 rfl (if_pos (lr.mpr u))) (ev_t rfl ?_), keep_t k1 (keep_t k2 k'), i', h', z'⟩
      rw [nI_1]
      exact e'
set_option maxRecDepth 100000 in
set_option maxHeartbeats 4000000 in
theorem s578 {V : Nat → Nat → Value} {I : Nat → Nat → Int32} {L : Nat → Nat → Int64} {R : Nat → Nat → Option Nat} {tl : am_H} {I0 : Nat → Nat → Int32} {N kd ln m0 lm ws : Nat} {P : xI} {ct : Nat → Nat → xI → Nat} (hN : 5000 < N) (hg : gdP kd ln P) (hct : ∀ kd ln Q, ct kd ln Q ≤ 432000000) (h1 : 1 ≤ ws) (h2 : ws ≤ 216) (hcr : ∀ (kd ln : Nat) (Q : xI) (X : Nat → Nat → Value) (Y : Nat → Nat → Int32) (M : Nat → Nat → Int64) (S : Nat → Nat → Option Nat) (t : am_H), gdP kd ln Q → jdg I0 m0 lm X Y → dkL X Y Q → X 174 13 = .int (nI kd) → (kd = 3 → X 174 15 = .int (nI ln)) → ∃ W J, fm_428 N (.ref 174) 0 (fx X Y M S ++ t) = some (.inl (none, fx W J M S ++ t)) ∧ W 174 91 = .long (lN (ct kd ln Q / Nat.gcd (ct kd ln Q) ws)) ∧ W 174 92 = .long (lN (ws / Nat.gcd (ct kd ln Q) ws)) ∧ frJ X W Y J) (hd : dsE kd ln P V I) (hj : jdg I0 m0 lm V I) (z0 : V 174 0 = .int 0) : ∃ W J b, fm_578 N (.ref 174) (lN (ct kd ln P / Nat.gcd (ct kd ln P) ws)) (lN (ws / Nat.gcd (ct kd ln P) ws)) (fx V I L R ++ tl) = some (.inl (some (.int (bI b)), fx W J L R ++ tl)) ∧ keep V W I J ∧ (b = true ↔ (fsC (fcd (cdE kd ln P (hwM kd)) (fun Q => decide (ct kd ln Q ≤ ct kd ln P))) (ncE kd ln P.length (hwM kd)) 0).isSome = true) ∧ dsE kd ln ((fsC (fcd (cdE kd ln P (hwM kd)) (fun Q => decide (ct kd ln Q ≤ ct kd ln P))) (ncE kd ln P.length (hwM kd)) 0).getD P) W J ∧ W 174 0 = .int 0 := by
  have hw := hwM_4 kd
  have nb := ncE_b hg hw
  have cm := cnt_m (cdE kd ln P (hwM kd)) (ncE kd ln P.length (hwM kd)) 0
  obtain ⟨W6, J6, z, r4, o, hz, hd6, k6, z6⟩ := rE_439 (L := L) (R := R) (tl := tl) (N := N) (so := -1) (by omega) hg hw hd hj.1
  have ez : z = nI (cnt (cdE kd ln P (hwM kd)) (ncE kd ln P.length (hwM kd)) 0) := by
    rcases o with ⟨-, -, c, Q, c1, -, c3, -⟩ | ⟨-, o2, -⟩
    · exact absurd c3 (nI_m1c (by have := cnt_m (cdE kd ln P (hwM kd)) c 0; omega))
    · rw [hz] at o2
      injection o2
  subst ez
  obtain ⟨W, J, b, e, k, i, h, z⟩ := l578 (L := L) (R := R) (tl := tl) hN hg hct h1 h2 hcr (cnt (cdE kd ln P (hwM kd)) (ncE kd ln P.length (hwM kd)) 0) 0 N W6 J6 (by omega) (by omega) hd6 (jdg_k k6 hj) (z6.trans z0) ⟨0, Nat.zero_le _, rfl, by rw [Nat.sub_zero]⟩
  refine ⟨W, J, b, ?_, keep_t k6 k, i, h, z⟩
  apply hm_578
  apply hd_578_0
  exact ev_b (rdI hd.1) (ev_cI (c579 hg.1 _) (ev_i rfl (ev_cI r4 e)))
set_option maxRecDepth 100000 in
set_option maxHeartbeats 4000000 in
theorem mini_ex {L : Nat → Nat → Int64} {R : Nat → Nat → Option Nat} {tl : am_H} {I0 : Nat → Nat → Int32} {N kd ln m0 lm ws b : Nat} {ct : Nat → Nat → xI → Nat} (hN : 5000 < N) (hct : ∀ kd ln Q, ct kd ln Q ≤ 432000000) (h1 : 1 ≤ ws) (h2 : ws ≤ 216) (hcc : ∀ (kd ln : Nat) (Q : xI) (X : Nat → Nat → Value) (Y : Nat → Nat → Int32) (M : Nat → Nat → Int64) (S : Nat → Nat → Option Nat) (t : am_H) (A it : Nat), gdP kd ln Q → jdg I0 m0 lm X Y → srcE X Y t A it kd ln Q → 30 < A → 30 < it → ∃ W J, fm_140 N (.ref 14) (.ref A) 0 (fx X Y M S ++ t) = some (.inl (some (.long (lN (ct kd ln Q))), fx W J M S ++ t)) ∧ frG X W Y J) (hcr : ∀ (kd ln : Nat) (Q : xI) (X : Nat → Nat → Value) (Y : Nat → Nat → Int32) (M : Nat → Nat → Int64) (S : Nat → Nat → Option Nat) (t : am_H), gdP kd ln Q → jdg I0 m0 lm X Y → dkL X Y Q → X 174 13 = .int (nI kd) → (kd = 3 → X 174 15 = .int (nI ln)) → ∃ W J, fm_428 N (.ref 174) 0 (fx X Y M S ++ t) = some (.inl (none, fx W J M S ++ t)) ∧ W 174 91 = .long (lN (ct kd ln Q / Nat.gcd (ct kd ln Q) ws)) ∧ W 174 92 = .long (lN (ws / Nat.gcd (ct kd ln Q) ws)) ∧ frJ X W Y J) : ∀ (z : Nat) (P : xI), P.length ≤ z → gdP kd ln P → ∃ F, gdP kd ln F ∧ (∀ (x5 K : Nat) (V : Nat → Nat → Value) (I : Nat → Nat → Int32), x5 + P.length ≤ (if kd = 3 then 40 else 60) → P.length + 1 < K → holdE V I 167 kd ln P → jdg I0 m0 lm V I → ∃ W J, fg_302_51 N K (.ref 0) (nI b) (nI (hwM kd)) 1 (nI x5) (fx V I L R ++ tl) = fg_302_76 N (.ref 0) (nI b) (fx W J L R ++ tl) ∧ keep V W I J ∧ holdE W J 167 kd ln F) ∧ (∀ (M : Nat → Nat → Int64) (S : Nat → Nat → Option Nat) (t : am_H) (K : Nat) (V : Nat → Nat → Value) (I : Nat → Nat → Int32), P.length + 1 < K → dsE kd ln P V I → jdg I0 m0 lm V I → V 174 0 = .int 0 → ∃ W J K', fg_577_47 N K (.ref 174) (nI b) 1 (fx V I M S ++ t) = fg_577_47 N (K' + 1) (.ref 174) (nI b) 0 (fx W J M S ++ t) ∧ keep V W I J ∧ dsE kd ln F W J ∧ W 174 0 = .int 0) := by
  intro z
  induction z with
  | zero =>
    intro P hz hg
    have cls : ∀ (x5 K : Nat) (V : Nat → Nat → Value) (I : Nat → Nat → Int32), x5 + P.length ≤ (if kd = 3 then 40 else 60) → holdE V I 167 kd ln P → jdg I0 m0 lm V I → ∃ W J b0, fg_302_51 N (K + 1) (.ref 0) (nI b) (nI (hwM kd)) 1 (nI x5) (fx V I L R ++ tl) = fg_302_51 N K (.ref 0) (nI b) (nI (hwM kd)) (bI b0) (nI (x5 + 1)) (fx W J L R ++ tl) ∧ keep V W I J ∧ (b0 = true ↔ (fsC (fcd (cdE kd ln P (hwM kd)) (fun Q => decide (ct kd ln Q ≤ ct kd ln P))) (ncE kd ln P.length (hwM kd)) 0).isSome = true) ∧ holdE W J 167 kd ln ((fsC (fcd (cdE kd ln P (hwM kd)) (fun Q => decide (ct kd ln Q ≤ ct kd ln P))) (ncE kd ln P.length (hwM kd)) 0).getD P) := fun x5 K V I hx h167 hj => by
      obtain ⟨W, J, b0, e, k, i, h⟩ := s303 (L := L) (R := R) (tl := tl) (N := N) hN hg hct hcc hj h167
      refine ⟨W, J, b0, ?_, k, i, h⟩
      have x60 : x5 < 60 := by
        by_cases c : kd = 3
        · rw [if_pos c] at hx; omega
        · rw [if_neg c] at hx
          have l1 : 1 ≤ P.length := by
            rcases (by have := hg.1; omega : kd = 0 ∨ kd = 1 ∨ kd = 2) with rfl | rfl | rfl
            · have := okP_pos (hg.2.2.1 rfl).2.1; rw [uTx_len] at this; exact this
            · exact (hg.2.2.2.1 rfl).2.1
            · exact (hg.2.2.2.2.1 rfl).2.1
          omega
      apply hd_302_51
      refine ev_f (by decide) (ev_f (nI_ge (b := 60) x60 (by decide)) (ev_i rfl (ev_cI e ?_)))
      rw [nI_1]
    have rfr : ∀ (M : Nat → Nat → Int64) (S : Nat → Nat → Option Nat) (t : am_H) (K : Nat) (V : Nat → Nat → Value) (I : Nat → Nat → Int32), dsE kd ln P V I → jdg I0 m0 lm V I → V 174 0 = .int 0 → ∃ W J b0, fg_577_47 N (K + 1) (.ref 174) (nI b) 1 (fx V I M S ++ t) = fg_577_47 N K (.ref 174) (nI b) (bI b0) (fx W J M S ++ t) ∧ keep V W I J ∧ (b0 = true ↔ (fsC (fcd (cdE kd ln P (hwM kd)) (fun Q => decide (ct kd ln Q ≤ ct kd ln P))) (ncE kd ln P.length (hwM kd)) 0).isSome = true) ∧ dsE kd ln ((fsC (fcd (cdE kd ln P (hwM kd)) (fun Q => decide (ct kd ln Q ≤ ct kd ln P))) (ncE kd ln P.length (hwM kd)) 0).getD P) W J ∧ W 174 0 = .int 0 := fun M S t K V I hd hj z0 => by
      obtain ⟨W4, J4, r2, d1, d2, d3, f4⟩ := s442 (V := V) (I := I) (L := M) (R := S) (tl := t) (N := N) (by omega) hd.1 hd.2.1 hd.2.2.1 (by have := hg.2.1; omega)
      have k4 := keep_Ed f4
      obtain ⟨W5, J5, r3, y1, y2, f5⟩ := hcr kd ln P W4 J4 M S t hg (jdg_k k4 hj) d1 d2 (fun _ => d3)
      have k5 := keep_t k4 (frJ_k f5)
      have hds := dsE_J (dsE_Ed hd f4) f5
      obtain ⟨W, J, b0, e, k, i, h, z⟩ := s578 (V := W5) (I := J5) (L := M) (R := S) (tl := t) hN hg hct h1 h2 hcr hds (jdg_k k5 hj) ((f5.1 174 0 (fun _ => by decide)).trans ((f4.1 174 0 (by decide)).trans z0))
      refine ⟨W, J, b0, ?_, keep_t k5 k, i, h, z⟩
      apply hd_577_47
      exact ev_f (by decide) (ev_i rfl (ev_cV r2 (ev_i rfl (ev_cV r3 (ev_b (rdL y1) (ev_b (rdL y2) (ev_i rfl (ev_cI e rfl))))))))
    cases hF : (fsC (fcd (cdE kd ln P (hwM kd)) (fun Q => decide (ct kd ln Q ≤ ct kd ln P))) (ncE kd ln P.length (hwM kd)) 0) with
    | none =>
      refine ⟨P, hg, fun x5 K V I hx hK h167 hj => ?_, fun M S t K V I hK hd hj z0 => ?_⟩
      · obtain ⟨K, rfl⟩ : ∃ k, K = k + 2 := ⟨K - 2, by omega⟩
        obtain ⟨W, J, b0, e, k, i, h⟩ := cls x5 (K + 1) V I hx h167 hj
        rw [hF] at i h
        have b0f : b0 = false := by
          cases b0 with
          | false => rfl
          | true => exact Bool.noConfusion (i.mp rfl)
        subst b0f
        exact ⟨W, J, e.trans (hd_302_51 (ev_t rfl rfl)), k, h⟩
      · obtain ⟨K, rfl⟩ : ∃ k, K = k + 2 := ⟨K - 2, by omega⟩
        obtain ⟨W, J, b0, e, k, i, h, z⟩ := rfr M S t (K + 1) V I hd hj z0
        rw [hF] at i h
        have b0f : b0 = false := by
          cases b0 with
          | false => rfl
          | true => exact Bool.noConfusion (i.mp rfl)
        subst b0f
        exact ⟨W, J, K, e, k, h, z⟩
    | some Q =>
      obtain ⟨d, -, d2, d3⟩ := fsC_e _ _ hF
      have dq : cdE kd ln P (hwM kd) d = some Q := by
        cases e : cdE kd ln P (hwM kd) d with
        | none => rw [fcd_0 e] at d3; exact absurd d3 (by simp)
        | some X =>
          cases hp : decide (ct kd ln X ≤ ct kd ln P) with
          | true => rw [fcd_1 e hp] at d3; exact d3
          | false => rw [fcd_2 e hp] at d3; exact absurd d3 (by simp)
      have gQ := cdE_gd hg (hwM_4 kd) (by omega) dq
      have ls := cd_less hg (by omega) dq
      omega
  | succ z ih =>
    intro P hz hg
    have cls : ∀ (x5 K : Nat) (V : Nat → Nat → Value) (I : Nat → Nat → Int32), x5 + P.length ≤ (if kd = 3 then 40 else 60) → holdE V I 167 kd ln P → jdg I0 m0 lm V I → ∃ W J b0, fg_302_51 N (K + 1) (.ref 0) (nI b) (nI (hwM kd)) 1 (nI x5) (fx V I L R ++ tl) = fg_302_51 N K (.ref 0) (nI b) (nI (hwM kd)) (bI b0) (nI (x5 + 1)) (fx W J L R ++ tl) ∧ keep V W I J ∧ (b0 = true ↔ (fsC (fcd (cdE kd ln P (hwM kd)) (fun Q => decide (ct kd ln Q ≤ ct kd ln P))) (ncE kd ln P.length (hwM kd)) 0).isSome = true) ∧ holdE W J 167 kd ln ((fsC (fcd (cdE kd ln P (hwM kd)) (fun Q => decide (ct kd ln Q ≤ ct kd ln P))) (ncE kd ln P.length (hwM kd)) 0).getD P) := fun x5 K V I hx h167 hj => by
      obtain ⟨W, J, b0, e, k, i, h⟩ := s303 (L := L) (R := R) (tl := tl) (N := N) hN hg hct hcc hj h167
      refine ⟨W, J, b0, ?_, k, i, h⟩
      have x60 : x5 < 60 := by
        by_cases c : kd = 3
        · rw [if_pos c] at hx; omega
        · rw [if_neg c] at hx
          have l1 : 1 ≤ P.length := by
            rcases (by have := hg.1; omega : kd = 0 ∨ kd = 1 ∨ kd = 2) with rfl | rfl | rfl
            · have := okP_pos (hg.2.2.1 rfl).2.1; rw [uTx_len] at this; exact this
            · exact (hg.2.2.2.1 rfl).2.1
            · exact (hg.2.2.2.2.1 rfl).2.1
          omega
      apply hd_302_51
      refine ev_f (by decide) (ev_f (nI_ge (b := 60) x60 (by decide)) (ev_i rfl (ev_cI e ?_)))
      rw [nI_1]
    have rfr : ∀ (M : Nat → Nat → Int64) (S : Nat → Nat → Option Nat) (t : am_H) (K : Nat) (V : Nat → Nat → Value) (I : Nat → Nat → Int32), dsE kd ln P V I → jdg I0 m0 lm V I → V 174 0 = .int 0 → ∃ W J b0, fg_577_47 N (K + 1) (.ref 174) (nI b) 1 (fx V I M S ++ t) = fg_577_47 N K (.ref 174) (nI b) (bI b0) (fx W J M S ++ t) ∧ keep V W I J ∧ (b0 = true ↔ (fsC (fcd (cdE kd ln P (hwM kd)) (fun Q => decide (ct kd ln Q ≤ ct kd ln P))) (ncE kd ln P.length (hwM kd)) 0).isSome = true) ∧ dsE kd ln ((fsC (fcd (cdE kd ln P (hwM kd)) (fun Q => decide (ct kd ln Q ≤ ct kd ln P))) (ncE kd ln P.length (hwM kd)) 0).getD P) W J ∧ W 174 0 = .int 0 := fun M S t K V I hd hj z0 => by
      obtain ⟨W4, J4, r2, d1, d2, d3, f4⟩ := s442 (V := V) (I := I) (L := M) (R := S) (tl := t) (N := N) (by omega) hd.1 hd.2.1 hd.2.2.1 (by have := hg.2.1; omega)
      have k4 := keep_Ed f4
      obtain ⟨W5, J5, r3, y1, y2, f5⟩ := hcr kd ln P W4 J4 M S t hg (jdg_k k4 hj) d1 d2 (fun _ => d3)
      have k5 := keep_t k4 (frJ_k f5)
      have hds := dsE_J (dsE_Ed hd f4) f5
      obtain ⟨W, J, b0, e, k, i, h, z⟩ := s578 (V := W5) (I := J5) (L := M) (R := S) (tl := t) hN hg hct h1 h2 hcr hds (jdg_k k5 hj) ((f5.1 174 0 (fun _ => by decide)).trans ((f4.1 174 0 (by decide)).trans z0))
      refine ⟨W, J, b0, ?_, keep_t k5 k, i, h, z⟩
      apply hd_577_47
      exact ev_f (by decide) (ev_i rfl (ev_cV r2 (ev_i rfl (ev_cV r3 (ev_b (rdL y1) (ev_b (rdL y2) (ev_i rfl (ev_cI e rfl))))))))
    cases hF : (fsC (fcd (cdE kd ln P (hwM kd)) (fun Q => decide (ct kd ln Q ≤ ct kd ln P))) (ncE kd ln P.length (hwM kd)) 0) with
    | none =>
      refine ⟨P, hg, fun x5 K V I hx hK h167 hj => ?_, fun M S t K V I hK hd hj z0 => ?_⟩
      · obtain ⟨K, rfl⟩ : ∃ k, K = k + 2 := ⟨K - 2, by omega⟩
        obtain ⟨W, J, b0, e, k, i, h⟩ := cls x5 (K + 1) V I hx h167 hj
        rw [hF] at i h
        have b0f : b0 = false := by
          cases b0 with
          | false => rfl
          | true => exact Bool.noConfusion (i.mp rfl)
        subst b0f
        exact ⟨W, J, e.trans (hd_302_51 (ev_t rfl rfl)), k, h⟩
      · obtain ⟨K, rfl⟩ : ∃ k, K = k + 2 := ⟨K - 2, by omega⟩
        obtain ⟨W, J, b0, e, k, i, h, z⟩ := rfr M S t (K + 1) V I hd hj z0
        rw [hF] at i h
        have b0f : b0 = false := by
          cases b0 with
          | false => rfl
          | true => exact Bool.noConfusion (i.mp rfl)
        subst b0f
        exact ⟨W, J, K, e, k, h, z⟩
    | some Q =>
      obtain ⟨d, -, d2, d3⟩ := fsC_e _ _ hF
      have dq : cdE kd ln P (hwM kd) d = some Q := by
        cases e : cdE kd ln P (hwM kd) d with
        | none => rw [fcd_0 e] at d3; exact absurd d3 (by simp)
        | some X =>
          cases hp : decide (ct kd ln X ≤ ct kd ln P) with
          | true => rw [fcd_1 e hp] at d3; exact d3
          | false => rw [fcd_2 e hp] at d3; exact absurd d3 (by simp)
      have gQ := cdE_gd hg (hwM_4 kd) (by omega) dq
      have ls := cd_less hg (by omega) dq
      obtain ⟨F, gF, cF, rF⟩ := ih Q (by omega) gQ
      refine ⟨F, gF, fun x5 K V I hx hK h167 hj => ?_, fun M S t K V I hK hd hj z0 => ?_⟩
      · obtain ⟨K, rfl⟩ : ∃ k, K = k + 1 := ⟨K - 1, by omega⟩
        obtain ⟨W, J, b0, e, k, i, h⟩ := cls x5 K V I hx h167 hj
        rw [hF] at i h
        have b0t : b0 = true := i.mpr rfl
        subst b0t
        obtain ⟨W', J', e', k', h'⟩ := cF (x5 + 1) K W J (by omega) (by omega) h (jdg_k k hj)
        exact ⟨W', J', e.trans e', keep_t k k', h'⟩
      · obtain ⟨K, rfl⟩ : ∃ k, K = k + 1 := ⟨K - 1, by omega⟩
        obtain ⟨W, J, b0, e, k, i, h, z⟩ := rfr M S t K V I hd hj z0
        rw [hF] at i h
        have b0t : b0 = true := i.mpr rfl
        subst b0t
        obtain ⟨W', J', K', e', k', h', z'⟩ := rF M S t K W J (by omega) h (jdg_k k hj) z
        exact ⟨W', J', K', e.trans e', keep_t k k', h', z'⟩
theorem ped_6 {n b : Nat} (hb : b < n) (hn : n ≤ 600) : ped n 6 (nI b) (-1) (-1) (-1) := ⟨6, by decide, rfl, .inr ⟨b, hb, rfl⟩, .inl rfl, fun _ => nI_nm1 (by omega), fun h => absurd h (by decide), fun h => absurd h (by decide), .inl rfl⟩
theorem gd_nt {kd ln : Nat} {Q : xI} (hg : gdP kd ln Q) : (if nI kd = 3 then nI ln else 0) = nI ln := by
  by_cases q : kd = 3
  · rw [if_pos (by rw [q]; rfl)]
  · have n3 : ¬ nI kd = (3 : Int32) := fun e => q ((nI_eq (b := 3) (by have := hg.1; omega) (by decide)).mp e)
    rw [if_neg n3]
    rcases (by have := hg.1; omega : kd = 0 ∨ kd = 1 ∨ kd = 2) with rfl | rfl | rfl
    · rw [(hg.2.2.1 rfl).1]; rfl
    · rw [(hg.2.2.2.1 rfl).1]; rfl
    · rw [(hg.2.2.2.2.1 rfl).1]; rfl
set_option maxRecDepth 100000 in
set_option maxHeartbeats 4000000 in
theorem u_53 {V : Nat → Nat → Value} {I : Nat → Nat → Int32} {L : Nat → Nat → Int64} {R : Nat → Nat → Option Nat} {tl : am_H} {n p j : Nat} (hr : rel V I L R tl n p) (hm : room tl n p j) {N : Nat} (hN : 5000 < N) (a1 : Int32) : ∃ h', opBI (fm_301 N (.ref 0) a1 (.ref 268) (fx V I L R ++ tl)) (fun h1 => fm_577 N (.ref 174) a1 h1) vfI h' ∧ invW (j + 1) h' := by
  obtain ⟨b1, b2, b3⟩ := hr.1
  have hwt := rel_w hr
  rcases dich a1 (n := n) (by omega) with hn | ⟨b, hb, rfl⟩
  · refine ⟨_, opBI_err (c := 1) (b := 0) (by decide) (tl := tl ++ [am_dummy]) ?_ ?_, inv_mk (rel_thr 1 (rel_dum hr)) (room_dum hm)⟩
    · have e : fm_302 N (.ref 0) a1 (fx V I L R ++ tl) = some (.inr (2, (fx V I L R ++ (tl ++ [am_dummy])))) := by
        apply hm_302
        apply hd_302_0
        refine ev_i rfl ?_
        rw [c_63n b2 hn]
        rfl
      unfold fm_301 fg_301_0
      refine ev_i rfl ?_
      rw [e]
      rfl
    · show fm_577 N (.ref 174) a1 (fx V I L R ++ (tl ++ [am_dummy])) = _
      apply hm_577
      apply hd_577_0
      refine ev_i rfl (ev_cI (r_358n b3 b1 hn) (ev_f (fun e => e rfl) ?_))
      apply hd_577_28
      exact ev_b qp_174_0 (ev_b (a := 1) rfl (ev_f (by decide) rfl))
  obtain ⟨kd, ln, P, a, it, hg, q1, q2, q3, q4, q5, q6, q7⟩ := bth_E hr hb
  by_cases c6 : n = 600
  · subst c6
    refine ⟨_, opBI_err (c := 2) (b := 0) (by decide) (tl := tl ++ [am_dummy]) ?_ ?_, inv_mk (rel_thr 2 (rel_dum hr)) (room_dum hm)⟩
    · have e : fm_302 N (.ref 0) (nI b) (fx V I L R ++ tl) = some (.inr (1, (fx V I L R ++ (tl ++ [am_dummy])))) := by
        apply hm_302
        apply hd_302_0
        refine ev_i rfl (ev_cR (c_63 b2 b1 hb q4) rfl (ev_i rfl ?_))
        rw [c_32n b2]
        rfl
      unfold fm_301 fg_301_0
      refine ev_i rfl ?_
      rw [e]
      rfl
    · show fm_577 N (.ref 174) (nI b) (fx V I L R ++ (tl ++ [am_dummy])) = _
      apply hm_577
      apply hd_577_0
      refine ev_i rfl (ev_cI (r_358 b3 b1 hb) (ev_t (by decide) (ev_b (rdI b3) (ev_f (fun e => e rfl) ?_))))
      apply hd_577_28
      exact ev_b qp_174_0 (ev_b (a := 2) rfl (ev_f (by decide) rfl))
  have hn : n < 600 := by omega
  obtain ⟨m, lm, ws, ct, jd, ws1, ws2, ctl, hcc, hcr⟩ := cost_fn hN hr
  obtain ⟨F, gF, cF, rF⟩ := mini_ex (L := L) (R := R) (tl := tl) (I0 := I) (N := N) (kd := kd) (ln := ln) (b := b) hN ctl ws1 ws2 hcc hcr P.length P (Nat.le_refl _) hg
  obtain ⟨W1, J1, e1, d1, f1⟩ := p60E_167 (V := V) (I := I) (L := L) (R := R) (tl := tl) (by omega) hg (q5 V I)
  have k1 := keep_167 f1
  obtain ⟨W2, J2, e2, k2, h2⟩ := cF 0 N W1 J1 (by
    by_cases c : kd = 3
    · rw [if_pos c]; have := (hg.2.2.2.2.2 c).2.2.1; omega
    · rw [if_neg c]; have := hg.2.1; omega) (by have := hg.2.1; omega) d1 (jdg_k k1 jd)
  have kW := keep_t k1 k2
  have iR : ∀ y, y ∈ iRel → J2 y = I y := kW.2.1
  have c01 : W2 0 1 = .int (nI n) := (kW.1 0 1 (by decide)).trans b2
  have c17 : W2 174 1 = .int (nI n) := (kW.1 174 1 (by decide)).trans b3
  have wF := gd_w gF
  have eb := bear_c (V := W2) (I := J2) (L := L) (R := R) (tl := tl) (n := n) (kd := kd) (ln := ln) (sz := F.length) h2.1 h2.2.1 h2.2.2.1 h2.2.2.2.1 hg.1 wF c01 hn 6 (nI b) (-1) (-1) (-1) 0
  obtain ⟨t, et⟩ : ∃ t, t = tl ++ brt tl.length kd ln F.length 6 (nI b) (-1) (-1) (-1) 0 (va_cpy (J2 168) (fun _ => 0) 0 0 (F.length * wdN kd)) := ⟨_, rfl⟩
  obtain ⟨S, eS⟩ : ∃ S, S = rup R 1 (va_up (R 1) n (some (269 + tl.length))) := ⟨_, rfl⟩
  have kz : keep (vup W2 0 1 (.int (nI (n + 1)))) (vup (vup W2 0 1 (.int (nI (n + 1)))) 174 0 (.int 0)) J2 J2 := keep_v (a := 174) (j := 0) (by decide) (by decide)
  obtain ⟨W3, J3, r1, f3, g20, g19, gds, gsp⟩ := ld_E (V := vup (vup W2 0 1 (.int (nI (n + 1)))) 174 0 (.int 0)) (I := J2) (L := outL L (nI n).toInt64) (R := S) (tl := t) (N := N) (by omega) (by omega) hg ((congrFun (iR 175 (by decide)) b).trans q1) ((congrFun (iR 176 (by decide)) b).trans q2) ((congrFun (iR 177 (by decide)) b).trans q3) (by rw [iR 184 (by decide), iR 185 (by decide)]; exact q6)
  have k3 := keep_t kz (keep_39 f3)
  have jd2 : jdg I m lm (vup W2 0 1 (.int (nI (n + 1)))) J2 := by
    obtain ⟨x1, x2, x3, x4⟩ := jdg_k kW jd
    exact ⟨wt_i x1 (by decide), ⟨x2.1, x2.2.1, x2.2.2⟩, x3, x4⟩
  obtain ⟨W4, J4, K', r2, k4, d4, z4⟩ := rF (outL L (nI n).toInt64) S t N W3 J3 (by have := hg.2.1; omega) ⟨g20, g19, gds, gsp⟩ (jdg_k k3 jd2) (f3.1 174 0 (by decide))
  obtain ⟨W5, J5, r3, s1, s2, s3, f5⟩ := s442 (V := W4) (I := J4) (L := outL L (nI n).toInt64) (R := S) (tl := t) (N := N) (by omega) d4.1 d4.2.1 d4.2.2.1 (by have := gF.2.1; omega)
  have K5 := keep_t k3 (keep_t k4 (keep_Ed f5))
  have v1 : W5 174 1 = .int (nI n) := (K5.1 174 1 (by decide)).trans ((vup_o (by decide)).trans c17)
  have er := bear_r (V := W5) (I := J5) (L := outL L (nI n).toInt64) (R := S) (tl := t) (N := N) (n := n) (kd := kd) (ln := ln) (sz := F.length) v1 s2 s1.1 ⟨nI ln, s3, gd_nt gF⟩ hn (by have := gF.2.1; omega) (by omega) 6 (nI b) (-1) (-1) (-1) 0
  subst et
  subst eS
  refine bear_fin (W := W2) (J := J2) (W' := W5) (J' := J5) (kd := kd) (ln := ln) (sz := F.length) (x1 := 6) (x2 := nI b) (x3 := -1) (x4 := -1) (x5 := -1) (x6 := 0) (F := va_cpy (J2 168) (fun _ => 0) 0 0 (F.length * wdN kd)) hr hm hn wF ?_ ?_ (keep_t (keep_up hwt (by decide) kW) K5) ((f5.1 174 0 (by decide)).trans z4) (itm_cp h2.2.2.2.2 s1.2) (gd_snd gF s1.2) (ped_6 hb b1) (gen_o (by decide) (by decide))
  · have e36 : fg_302_36 N (.ref 0) (nI b) (.ref (269 + a)) (nI (hwM kd)) (fx V I L R ++ tl) = some (.inl (some (.int (nI n)), fx (vup W2 0 1 (.int (nI (n + 1)))) J2 L (rup R 1 (va_up (R 1) n (some (269 + tl.length)))) ++ (tl ++ brt tl.length kd ln F.length 6 (nI b) (-1) (-1) (-1) 0 (va_cpy (J2 168) (fun _ => 0) 0 0 (F.length * wdN kd))))) := by
      apply hd_302_36
      refine ev_b (rdR rfl) (ev_i rfl (ev_cV e1 (e2.trans ?_)))
      apply hd_302_76
      exact ev_b (rdR rfl) (ev_i rfl (ev_cI eb rfl))
    have o3 := (srcE_ok (L := L) (R := R) (q5 V I)).2.2.1
    have e : fm_302 N (.ref 0) (nI b) (fx V I L R ++ tl) = some (.inl (some (.int (nI n)), fx (vup W2 0 1 (.int (nI (n + 1)))) J2 L (rup R 1 (va_up (R 1) n (some (269 + tl.length)))) ++ (tl ++ brt tl.length kd ln F.length 6 (nI b) (-1) (-1) (-1) 0 (va_cpy (J2 168) (fun _ => 0) 0 0 (F.length * wdN kd))))) := by
      apply hm_302
      apply hd_302_0
      refine ev_i rfl (ev_cR (c_63 b2 b1 hb q4) rfl (ev_i rfl (ev_cV (c_32 b2 hn) (ev_b o3 ?_))))
      rcases (by have := hg.1; omega : kd = 0 ∨ kd = 1 ∨ kd = 2 ∨ kd = 3) with rfl | rfl | rfl | rfl
      · exact ev_t (by decide) (ev_b o3 (ev_t (by decide) e36))
      · exact ev_f (fun e => e rfl) e36
      · exact ev_t (by decide) (ev_b o3 (ev_t (by decide) e36))
      · exact ev_t (by decide) (ev_b o3 (ev_f (fun e => e rfl) e36))
    unfold fm_301 fg_301_0
    refine ev_i rfl ?_
    rw [e]
    exact ev_b out_s rfl
  · have b3' : (vup W2 0 1 (.int (nI (n + 1)))) 174 1 = .int (nI n) := c17
    show fm_577 N (.ref 174) (nI b) _ = _
    apply hm_577
    apply hd_577_0
    refine ev_i rfl (ev_cI (r_358 b3' b1 hb) (ev_t (by decide) (ev_b (rdI b3') (ev_t (fun e => c6 ((nI_eq (b := 600) (by omega) (by decide)).mp e)) ?_))))
    apply hd_577_28
    refine ev_b qp_174_0 (ev_b (a := 0) rfl (ev_t (by decide) (ev_i rfl (ev_cV r1 (r2.trans ?_)))))
    apply hd_577_47
    exact ev_t rfl (ev_i rfl (ev_cV r3 (ev_i rfl (ev_cI er rfl))))
