/-! ===== pairs: the class ===== -/
theorem hd_161_161 {s0 : Int32} {h : am_H} {r_ : Option am_O} (k_ : some (.inl (some (.int s0), h)) = r_) : fg_161_161 s0 h = r_ := k_
theorem hd_161_94 {x0 : Value} {s0 : Value} {s1 : Int32} {h : am_H} {r_ : Option am_O} (k_ : ((am_pP 8 s0 (.int s1) h).bind fun h1 => ((am_vR (am_pG 5 x0 h1)).bind fun v3 => ((am_vI (am_pG 769 v3 h1)).bind fun v5 => (if ¬ v5 = 2 then ((am_vR (am_pG 5 x0 h1)).bind fun v8 => ((am_vI (am_pG 769 v8 h1)).bind fun v10 => (if ¬ v10 = 0 then ((am_vR (am_pG 5 x0 h1)).bind fun v13 => ((am_vI (am_pG 771 v13 h1)).bind fun v15 => ((am_vI (am_pG 8 x0 h1)).bind fun v17 => (fg_161_161 (((v15 + 1) * v17)) h1)))) else ((am_vR (am_pG 5 x0 h1)).bind fun v19 => ((am_vI (am_pG 771 v19 h1)).bind fun v21 => ((am_vI (am_pG 8 x0 h1)).bind fun v23 => (fg_161_161 ((v21 * v23)) h1))))))) else ((am_vR (am_pG 5 x0 h1)).bind fun v25 => ((am_vI (am_pG 771 v25 h1)).bind fun v27 => (fg_161_161 (((1 <<< (v27 &&& 31)) - 2)) h1))))))) = r_) : fg_161_94 x0 s0 s1 h = r_ := k_
theorem hd_161_64 {x0 : Value} {h : am_H} {r_ : Option am_O} (k_ : ((am_vR (am_pG 5 x0 h)).bind fun v1 => ((am_vI (am_pG 769 v1 h)).bind fun v3 => (if ¬ v3 = 0 then ((am_vR (am_pG 6 x0 h)).bind fun v6 => ((am_vI (am_pG 771 v6 h)).bind fun v8 => (fg_161_94 x0 x0 ((v8 + 1)) h))) else ((am_vR (am_pG 6 x0 h)).bind fun v10 => ((am_vI (am_pG 771 v10 h)).bind fun v12 => (fg_161_94 x0 x0 v12 h)))))) = r_) : fg_161_64 x0 h = r_ := k_
theorem hd_161_62 {h : am_H} {r_ : Option am_O} (k_ : some (.inl (some (.int 0), h)) = r_) : fg_161_62 h = r_ := k_
theorem hd_161_0 {x0 : Value} {h : am_H} {r_ : Option am_O} (k_ : ((am_vR (am_pG 5 x0 h)).bind fun v1 => ((am_vI (am_pG 769 v1 h)).bind fun v3 => ((am_vR (am_pG 6 x0 h)).bind fun v5 => ((am_vI (am_pG 769 v5 h)).bind fun v7 => (if ¬ v3 = v7 then (fg_161_62 h) else ((am_vR (am_pG 5 x0 h)).bind fun v10 => ((am_vI (am_pG 770 v10 h)).bind fun v12 => ((am_vR (am_pG 6 x0 h)).bind fun v14 => ((am_vI (am_pG 770 v14 h)).bind fun v16 => (if ¬ v12 = v16 then (fg_161_62 h) else ((am_vR (am_pG 5 x0 h)).bind fun v19 => ((am_vI (am_pG 769 v19 h)).bind fun v21 => (if ¬ v21 = 2 then (fg_161_64 x0 h) else ((am_vR (am_pG 5 x0 h)).bind fun v24 => ((am_vI (am_pG 771 v24 h)).bind fun v26 => ((am_vR (am_pG 6 x0 h)).bind fun v28 => ((am_vI (am_pG 771 v28 h)).bind fun v30 => (if v26 = v30 then (fg_161_64 x0 h) else (fg_161_62 h))))))))))))))))))) = r_) : fg_161_0 x0 h = r_ := k_
theorem hm_161 {y0 : Value} {h : am_H} {r_ : Option am_O} (k_ : fg_161_0 y0 h = r_) : fm_161 y0 h = r_ := k_
def acP (kd sz : Nat) : Nat := if kd = 0 then sz else sz + 1
/-- the changer has begun with pairs -/
def SP (tl : am_H) (A it B ib kd ln : Nat) (P Q : xI) (V : Nat → Nat → Value) (I : Nat → Nat → Int32) : Prop := wt V ∧ V 89 5 = .ref A ∧ V 89 6 = .ref B ∧ V 89 7 = .int (nI (5 * kd + 4)) ∧ V 89 8 = .int (nI (acP kd Q.length)) ∧ srcE V I tl A it kd ln P ∧ srcE V I tl B ib kd ln Q ∧ (130 < A ∧ 130 < it ∧ 130 < B ∧ 130 < ib) ∧ (kd = 0 → shT V I 94 (uTx P) ∧ shT V I 102 (uTx Q)) ∧ (kd = 1 → ∃ gP gQ, cdX P P.length 0 g00 = .inr gP ∧ cdX Q Q.length 0 g00 = .inr gQ ∧ htF (I 101) P.length gP ∧ htF (I 109) Q.length gQ)
theorem SP_f {tl : am_H} {A it B ib kd ln : Nat} {P Q : xI} {V W : Nat → Nat → Value} {I J : Nat → Nat → Int32} (h : SP tl A it B ib kd ln P Q V I) (f : frM V W I J) : SP tl A it B ib kd ln P Q W J := by
  obtain ⟨h1, h2, h3, h4, h5, h6, h7, ⟨a1, a2, a3, a4⟩, h8, h9⟩ := h
  refine ⟨f.2.2 h1, (f.1 89 5 (by decide) (by decide) (by decide) (by decide)).trans h2, (f.1 89 6 (by decide) (by decide) (by decide) (by decide)).trans h3, (f.1 89 7 (by decide) (by decide) (by decide) (by decide)).trans h4, (f.1 89 8 (by decide) (by decide) (by decide) (by decide)).trans h5, srcE_c (fun j => f.1 A j (by omega) (by omega) (by omega) (by omega)) (f.2.1 it (by omega) (by omega) (by omega)) h6, srcE_c (fun j => f.1 B j (by omega) (by omega) (by omega) (by omega)) (f.2.1 ib (by omega) (by omega) (by omega)) h7, ⟨a1, a2, a3, a4⟩, fun e => ⟨shT_f (h8 e).1 f, shT_f2 (h8 e).2 f⟩, fun e => ?_⟩
  rw [f.2.1 101 (by decide) (by decide) (by decide), f.2.1 109 (by decide) (by decide) (by decide)]
  exact h9 e
theorem gdL_1 {kd ln : Nat} {P : xI} (hg : gdP kd ln P) (h3 : kd ≠ 3) : 1 ≤ P.length := by
  rcases (by have := hg.1; omega : kd = 0 ∨ kd = 1 ∨ kd = 2) with rfl | rfl | rfl
  · have := okP_pos (hg.2.2.1 rfl).2.1; rw [uTx_len] at this; exact this
  · exact (hg.2.2.2.1 rfl).2.1
  · exact (hg.2.2.2.2.1 rfl).2.1
theorem gd_et {kd ln : Nat} {P : xI} (hg : gdP kd ln P) (h2 : kd ≠ 2) : tI (uTx P) = P := by
  rcases (by have := hg.1; omega : kd = 0 ∨ kd = 1 ∨ kd = 3) with rfl | rfl | rfl
  · exact (hg.2.2.1 rfl).2.2
  · exact uTx_t (fun k hk => ((hg.2.2.2.1 rfl).2.2.1 k hk).1)
  · exact uTx_t (fun k hk => by obtain ⟨i, j, a1, a2, a3, -⟩ := (hg.2.2.2.2.2 rfl).2.2.2 k hk; have := (hg.2.2.2.2.2 rfl).2.1; rw [a3, sN_n (by omega)])
set_option maxRecDepth 100000 in
set_option maxHeartbeats 4000000 in
theorem all_mP {L : Nat → Nat → Int64} {R : Nat → Nat → Option Nat} {V : Nat → Nat → Value} {I : Nat → Nat → Int32} {tl : am_H} {N A it B ib kd ln c : Nat} {P Q : xI} (hN : 400 < N) (hg : gdP kd ln P) (hgq : gdP kd ln Q) (h : SP tl A it B ib kd ln P Q V I) (hc : c < ncP kd ln ln P.length Q.length) : ∃ W J b, fm_163 N (.ref 89) (nI c) (fx V I L R ++ tl) = some (.inl (some (.int (bI b)), fx W J L R ++ tl)) ∧ outE W J kd ln (cdP kd P Q c) b ∧ frM V W I J := by
  obtain ⟨s1, s2, s3, s4, s5, s6, s7, ⟨a1, a2, a3, a4⟩, s8, s9⟩ := h
  have g2 := hg.2.1
  have q2 := hgq.2.1
  have lu := uTx_len (P := P)
  have lv := uTx_len (P := Q)
  rcases (by have := hg.1; omega : kd = 0 ∨ kd = 1 ∨ kd = 2 ∨ kd = 3) with rfl | rfl | rfl | rfl
  · obtain ⟨l0, ho, et⟩ := hg.2.2.1 rfl
    obtain ⟨-, hoq, eq⟩ := hgq.2.2.1 rfl
    subst l0
    have q1 := gdL_1 hgq (by decide)
    have hx : cxC V I tl A it 0 0 4 (uTx Q).length (uTx P) := ⟨s2, s4, by rw [lv]; exact s5, by omega, by omega, srcE_P (by omega) (by omega) (by omega) (by rw [et]; exact s6), a1, a2⟩
    obtain ⟨W, J, b, e, o, f⟩ := m_4 (L := L) (R := R) (N := N) (c := c) hx s3 a3 a4 (srcE_P (by omega) (by omega) (by omega) (by rw [eq]; exact s7)) ho hoq (s8 rfl).1 (s8 rfl).2 (by rw [lu, lv]; exact hc)
    rw [et, eq] at o
    exact ⟨W, J, b, e, outM_E (by omega) o, f⟩
  · obtain ⟨l0, l1, hoI, -⟩ := hg.2.2.2.1 rfl
    obtain ⟨-, m1, hqI, -⟩ := hgq.2.2.2.1 rfl
    subst l0
    have et := gd_et hg (by decide)
    have eq := gd_et hgq (by decide)
    obtain ⟨gP, gQ, x1, x2, x3, x4⟩ := s9 rfl
    have hx : cxC V I tl A it 1 0 9 ((uTx Q).length + 1) (uTx P) := ⟨s2, s4, by rw [lv]; exact s5, by omega, by omega, srcE_P (by omega) (by omega) (by omega) (by rw [et]; exact s6), a1, a2⟩
    obtain ⟨W, J, b, e, o, f⟩ := m_9 (L := L) (R := R) (N := N) (c := c) (gP := gP) (gQ := gQ) hN s1 hx s3 a3 a4 (srcE_P (by omega) (by omega) (by omega) (by rw [eq]; exact s7)) (by rw [et]; exact hoI) (by rw [eq]; exact hqI) (by omega) (by omega) (by rw [et]; exact x1) (by rw [eq]; exact x2) (by rw [lu]; exact x3) (by rw [lv]; exact x4) (by rw [lu, lv]; exact hc)
    rw [et, eq] at o
    exact ⟨W, J, b, e, outM_E (by omega) o, f⟩
  · obtain ⟨l0, l1, ho⟩ := hg.2.2.2.2.1 rfl
    obtain ⟨-, m1, hoq⟩ := hgq.2.2.2.2.1 rfl
    subst l0
    have hc : c < if P.length = Q.length then 2 ^ P.length - 2 else 0 := hc
    by_cases q : P.length = Q.length
    case neg => rw [if_neg q] at hc; omega
    rw [if_pos q] at hc
    have l6 := hoq.1
    have hx : cxM V I tl A it 14 (Q.length + 1) P := ⟨s2, s4, s5, by omega, by omega, srcE_M ho.1 s6, a1, a2⟩
    obtain ⟨W, J, b, e, o, f⟩ := m_14 (L := L) (R := R) (N := N) (c := c) (by omega) hx ho.1 s3 a3 a4 (srcE_M hoq.1 s7) q.symm hc
    exact ⟨W, J, b, e, outN_E o, f⟩
  · obtain ⟨n2, n8, n40, hv⟩ := hg.2.2.2.2.2 rfl
    have et := gd_et hg (by decide)
    have eq := gd_et hgq (by decide)
    have hc : c < if 3 = 3 ∧ ln ≠ ln then 0 else (P.length + 1) * (Q.length + 1) := hc
    rw [if_neg (fun u => u.2 rfl)] at hc
    have hx : cxC V I tl A it 3 ln 19 ((uTx Q).length + 1) (uTx P) := ⟨s2, s4, by rw [lv]; exact s5, by omega, by omega, srcE_P (by omega) (by omega) (by omega) (by rw [et]; exact s6), a1, a2⟩
    obtain ⟨W, J, b, e, o, f⟩ := m_19 (L := L) (R := R) (N := N) (c := c) hx s3 a3 a4 (srcE_P (by omega) (by omega) (by omega) (by rw [eq]; exact s7)) (by rw [lu, lv]; exact hc)
    rw [et, eq] at o
    exact ⟨W, J, b, e, outM_E (by omega) o, f⟩
theorem cdP_gd {kd ln c : Nat} {P Q X : xI} (hg : gdP kd ln P) (hgq : gdP kd ln Q) (hc : c < ncP kd ln ln P.length Q.length) (h : cdP kd P Q c = some X) : gdP kd ln X := by
  rcases (by have := hg.1; omega : kd = 0 ∨ kd = 1 ∨ kd = 2 ∨ kd = 3) with rfl | rfl | rfl | rfl
  · have l0 := (hg.2.2.1 rfl).1
    subst l0
    have h : cdP0 P Q c = some X := h
    unfold cdP0 at h
    split at h
    case isFalse => exact absurd h (by simp)
    obtain ⟨rfl, hs⟩ := gS2_s h
    have gl := gd0_gl hg
    have gq := gd0_gl hgq
    refine gd0 (fun y hy => ?_) hs
    rcases List.mem_append.mp hy with hy | hy
    · exact gl y (List.mem_of_mem_take hy)
    · rcases List.mem_append.mp hy with hy | hy
      · exact gq y (List.mem_of_mem_drop (List.mem_of_mem_take hy))
      · exact gl y (List.mem_of_mem_drop hy)
  · obtain ⟨l0, l1, hoI, hv, -⟩ := hg.2.2.2.1 rfl
    obtain ⟨-, m1, hqI, hw, -⟩ := hgq.2.2.2.1 rfl
    subst l0
    have h : cdP1 1 P Q c = some X := h
    have hc : c < (P.length + 1) * (Q.length + 1) := hc
    have hk : c / (Q.length + 1) < P.length + 1 := Nat.div_lt_of_lt_mul (by rw [Nat.mul_comm]; exact hc)
    unfold cdP1 at h
    obtain ⟨rfl, hs⟩ := gS2_s h
    refine gd1 (okI_j hoI hqI (by omega)) (fun y hy => ?_) hs
    rcases List.mem_append.mp hy with hy | hy
    · obtain ⟨k, hk, rfl⟩ := mem_at.mp (List.mem_of_mem_take hy); exact hv k hk
    · obtain ⟨k, hk, rfl⟩ := mem_at.mp (List.mem_of_mem_drop hy); exact hw k hk
  · obtain ⟨l0, l1, ho⟩ := hg.2.2.2.2.1 rfl
    obtain ⟨-, m1, hoq⟩ := hgq.2.2.2.2.1 rfl
    subst l0
    have h : cdP2 P Q c = some X := h
    have hc : c < if P.length = Q.length then 2 ^ P.length - 2 else 0 := hc
    by_cases q : P.length = Q.length
    case neg => rw [if_neg q] at hc; omega
    unfold cdP2 at h
    rw [← Option.some.inj h]
    have lm : ((List.range P.length).map (fun k => if (c + 1) / 2 ^ k % 2 = 1 then (srt Q k, vlu Q k) else (srt P k, vlu P k))).length = P.length := by rw [List.length_map, List.length_range]
    refine gd2 (by rw [lm]; exact l1) ⟨by rw [lm]; exact ho.1, fun k hk => ?_⟩
    rw [lm] at hk ⊢
    have sm := srt_rng (n := P.length) (k := k) (f := fun k => if (c + 1) / 2 ^ k % 2 = 1 then (srt Q k, vlu Q k) else (srt P k, vlu P k)) hk
    rw [sm.1, sm.2]
    by_cases u : (c + 1) / 2 ^ k % 2 = 1
    · rw [if_pos u]; have := hoq.2 k (by omega); rw [← q] at this; exact this
    · rw [if_neg u]; exact ho.2 k hk
  · obtain ⟨n2, n8, n40, hv⟩ := hg.2.2.2.2.2 rfl
    obtain ⟨-, -, -, hw⟩ := hgq.2.2.2.2.2 rfl
    have h : cdP1 3 P Q c = some X := h
    unfold cdP1 at h
    obtain ⟨rfl, hs⟩ := gS2_s h
    refine gd3 n2 n8 (of_decide_eq_true hs) (fun y hy => ?_)
    rcases List.mem_append.mp hy with hy | hy
    · obtain ⟨k, hk, rfl⟩ := mem_at.mp (List.mem_of_mem_take hy); exact hv k hk
    · obtain ⟨k, hk, rfl⟩ := mem_at.mp (List.mem_of_mem_drop hy); exact hw k hk
/-- two programs that may be crossed -/
def cmpt (kd ln kd' ln' sz sz' : Nat) : Prop := kd = kd' ∧ ln = ln' ∧ (kd = 2 → sz = sz')
theorem sh_2 : ∀ z, z < 7 → 1 ≤ z → ((1 : Int32) <<< (nI z &&& 31)) - 2 = nI (2 ^ z - 2) := by decide
set_option maxRecDepth 100000 in
set_option maxHeartbeats 4000000 in
theorem s161 {V : Nat → Nat → Value} {I : Nat → Nat → Int32} {L : Nat → Nat → Int64} {R : Nat → Nat → Option Nat} {tl : am_H} {A it B ib kd ln kd' ln' : Nat} {P Q : xI} (hg : gdP kd ln P) (hgq : gdP kd' ln' Q) (h5 : V 89 5 = .ref A) (h6 : V 89 6 = .ref B) (hs : srcE V I tl A it kd ln P) (ht : srcE V I tl B ib kd' ln' Q) : (cmpt kd ln kd' ln' P.length Q.length → fm_161 (.ref 89) (fx V I L R ++ tl) = some (.inl (some (.int (nI (ncP kd ln ln P.length Q.length))), fx (vup V 89 8 (.int (nI (acP kd Q.length)))) I L R ++ tl))) ∧ (¬ cmpt kd ln kd' ln' P.length Q.length → fm_161 (.ref 89) (fx V I L R ++ tl) = some (.inl (some (.int 0), fx V I L R ++ tl))) := by
  have rb : am_vR (am_pG 5 (.ref 89) (fx V I L R ++ tl)) = some (.ref A) := rVR qv_89_5 h5
  have rm : am_vR (am_pG 6 (.ref 89) (fx V I L R ++ tl)) = some (.ref B) := rVR qv_89_6 h6
  obtain ⟨o1, o2, o3, o4⟩ := srcE_ok (L := L) (R := R) hs
  obtain ⟨p1, p2, p3, p4⟩ := srcE_ok (L := L) (R := R) ht
  have g1 := hg.1
  have g1' := hgq.1
  have g2 := hg.2.1
  have g2' := hgq.2.1
  have lnb : ∀ {k l : Nat} {X : xI}, gdP k l X → l ≤ 8 := fun {k l X} h => by
    rcases (by have := h.1; omega : k = 0 ∨ k = 1 ∨ k = 2 ∨ k = 3) with rfl | rfl | rfl | rfl
    · rw [(h.2.2.1 rfl).1]; omega
    · rw [(h.2.2.2.1 rfl).1]; omega
    · rw [(h.2.2.2.2.1 rfl).1]; omega
    · exact (h.2.2.2.2.2 rfl).2.1
  have ll := lnb hg
  have ll' := lnb hgq
  have no : fg_161_62 (fx V I L R ++ tl) = some (.inl (some (.int 0), fx V I L R ++ tl)) := hd_161_62 rfl
  constructor
  · rintro ⟨rfl, rfl, hz⟩
    have e64 : fg_161_64 (.ref 89) (fx V I L R ++ tl) = some (.inl (some (.int (nI (ncP kd ln ln P.length Q.length))), fx (vup V 89 8 (.int (nI (acP kd Q.length)))) I L R ++ tl)) := by
      apply hd_161_64
      refine ev_b rb (ev_b o3 ?_)
      have e94 : ∀ x : Int32, x = nI (acP kd Q.length) → fg_161_94 (.ref 89) (.ref 89) x (fx V I L R ++ tl) = some (.inl (some (.int (nI (ncP kd ln ln P.length Q.length))), fx (vup V 89 8 (.int (nI (acP kd Q.length)))) I L R ++ tl)) := fun x hx => by
        subst hx
        have rb' : am_vR (am_pG 5 (.ref 89) (fx (vup V 89 8 (.int (nI (acP kd Q.length)))) I L R ++ tl)) = some (.ref A) := rVR qv_89_5 h5
        have hA : A ≠ 89 := fun e => by
          subst e
          have := o1
          simp [am_pOk, fx] at this
        obtain ⟨w1, w2, w3, w4⟩ := srcE_ok (L := L) (R := R) (srcE_c (W := vup V 89 8 (.int (nI (acP kd Q.length)))) (J := I) (fun j => vup_o (fun e => hA e.1)) rfl hs)
        apply hd_161_94
        refine ev_b qp_89_8 (ev_b rb' (ev_b w3 ?_))
        rcases (by omega : kd = 0 ∨ kd = 1 ∨ kd = 2 ∨ kd = 3) with rfl | rfl | rfl | rfl
        · exact ev_t (by decide) (ev_b rb' (ev_b w3 (ev_f (fun u => u rfl) (ev_b rb' (ev_b w2 (ev_b (rdI (V := vup V 89 8 (.int (nI Q.length))) rfl) (hd_161_161 (by rw [nI_mm]; rfl))))))))
        · exact ev_t (by decide) (ev_b rb' (ev_b w3 (ev_t (by decide) (ev_b rb' (ev_b w2 (ev_b (rdI (V := vup V 89 8 (.int (nI (Q.length + 1)))) rfl) (hd_161_161 (by rw [nI_1, nI_mm]; rfl))))))))
        · have ho := (hg.2.2.2.2.1 rfl).2
          refine ev_f (fun u => u rfl) (ev_b rb' (ev_b w2 (hd_161_161 ?_)))
          have en : ncP 2 ln ln P.length Q.length = 2 ^ P.length - 2 := if_pos (hz rfl)
          rw [sh_2 P.length (by have := ho.2.1; omega) ho.1, en]
        · refine ev_t (by decide) (ev_b rb' (ev_b w3 (ev_t (by decide) (ev_b rb' (ev_b w2 (ev_b (rdI (V := vup V 89 8 (.int (nI (Q.length + 1)))) rfl) (hd_161_161 ?_)))))))
          have en : ncP 3 ln ln P.length Q.length = (P.length + 1) * (Q.length + 1) := by unfold ncP; rw [if_neg (by decide), if_neg (by decide), if_neg (fun u => u.2 rfl)]
          rw [nI_1, nI_mm, en]
      by_cases k0 : kd = 0
      · subst k0
        exact ev_f (fun u => u rfl) (ev_b rm (ev_b p2 (e94 _ rfl)))
      · refine ev_t (fun u => k0 ((nI_eq (b := 0) (by omega) (by decide)).mp u)) (ev_b rm (ev_b p2 (e94 _ ?_)))
        unfold acP
        rw [if_neg k0, nI_1]
    apply hm_161
    apply hd_161_0
    refine ev_b rb (ev_b o3 (ev_b rm (ev_b p3 (ev_f (fun u => u rfl) (ev_b rb (ev_b o4 (ev_b rm (ev_b p4 (ev_f (fun u => u rfl) (ev_b rb (ev_b o3 ?_)))))))))))
    by_cases k2 : kd = 2
    · subst k2
      exact ev_f (fun u => u rfl) (ev_b rb (ev_b o2 (ev_b rm (ev_b p2 (ev_t (by rw [hz rfl]) e64)))))
    · exact ev_t (fun u => k2 ((nI_eq (b := 2) (by omega) (by decide)).mp u)) e64
  · intro hn
    apply hm_161
    apply hd_161_0
    refine ev_b rb (ev_b o3 (ev_b rm (ev_b p3 ?_)))
    by_cases c1 : kd = kd'
    case neg => exact ev_t (fun u => c1 ((nI_eq (by omega) (by omega)).mp u)) no
    refine ev_f (fun u => u (by rw [c1])) (ev_b rb (ev_b o4 (ev_b rm (ev_b p4 ?_))))
    by_cases c2 : ln = ln'
    case neg => exact ev_t (fun u => c2 ((nI_eq (by omega) (by omega)).mp u)) no
    refine ev_f (fun u => u (by rw [c2])) (ev_b rb (ev_b o3 ?_))
    by_cases c3 : kd = 2
    · by_cases c4 : P.length = Q.length
      · exact absurd ⟨c1, c2, fun _ => c4⟩ hn
      · subst c3
        exact ev_f (fun u => u rfl) (ev_b rb (ev_b o2 (ev_b rm (ev_b p2 (ev_f (fun u => c4 ((nI_eq (by omega) (by omega)).mp u)) no)))))
    · exact absurd ⟨c1, c2, fun e => absurd e c3⟩ hn
