/-! ===== pairs(a, b) ===== -/
theorem hd_196_0 {N : Nat} {x0 : Value} {x1 : Int32} {x2 : Int32} {h : am_H} {r_ : Option am_O} (k_ : (if am_pOk 11 x0 h then am_cR true (fm_63 x0 x1 h) (fun v2 h3 => ((am_vR (am_pG 2823 x0 h3)).bind fun v5 => (if am_pOk 11 x0 h3 then am_cR true (fm_63 x0 x2 h3) (fun v8 h9 => (if am_pOk 0 v5 h9 then am_cI true (fm_159 N v5 v2 v8 0 h9) (fun v12 h13 => ((am_vR (am_pG 2823 x0 h13)).bind fun v15 => (if am_pOk 0 v15 h13 then am_cI true (fm_162 N v15 h13) (fun v18 h19 => some (.inl (some (.int v18), h19))) else none))) else none)) else none))) else none) = r_) : fg_196_0 N x0 x1 x2 h = r_ := k_
theorem hm_196 {N : Nat} {y0 : Value} {y1 : Int32} {y2 : Int32} {h : am_H} {r_ : Option am_O} (k_ : fg_196_0 N y0 y1 y2 h = r_) : fm_196 N y0 y1 y2 h = r_ := k_
theorem hd_478_41 {N : Nat} {h : am_H} {r_ : Option am_O} (k_ : some (.inl (some (.int 0), h)) = r_) : fg_478_41 N h = r_ := k_
theorem hd_478_22 {N : Nat} {x0 : Value} {x1 : Int32} {x2 : Int32} {s0 : Value} {s1 : Int32} {h : am_H} {r_ : Option am_O} (k_ : ((am_pP 3072 s0 (.int s1) h).bind fun h1 => ((am_vI (am_pG 3072 x0 h1)).bind fun v3 => (if 0 < v3 then (fg_478_41 N h1) else (if am_pOk 12 x0 h1 then am_cI true (fm_479 x0 x1 x2 h1) (fun v7 h8 => (if ¬ v7 = 0 then (if am_pOk 12 x0 h8 then am_cV true (fm_391 N x0 x1 h8) (fun h13 => (if am_pOk 12 x0 h13 then am_cV true (fm_480 N x0 x2 h13) (fun h17 => (if am_pOk 12 x0 h17 then am_cI true (fm_481 N x0 ((-1)) h17) (fun v20 h21 => some (.inl (some (.int v20), h21))) else none)) else none)) else none) else (fg_478_41 N h8))) else none)))) = r_) : fg_478_22 N x0 x1 x2 s0 s1 h = r_ := k_
theorem hd_478_21 {N : Nat} {x0 : Value} {x1 : Int32} {x2 : Int32} {s0 : Value} {h : am_H} {r_ : Option am_O} (k_ : (fg_478_22 N x0 x1 x2 s0 1 h) = r_) : fg_478_21 N x0 x1 x2 s0 h = r_ := k_
theorem hd_478_0 {N : Nat} {x0 : Value} {x1 : Int32} {x2 : Int32} {h : am_H} {r_ : Option am_O} (k_ : (if am_pOk 12 x0 h then am_cI true (fm_358 x0 x1 h) (fun v2 h3 => (if v2 = 0 then (fg_478_21 N x0 x1 x2 x0 h3) else (if am_pOk 12 x0 h3 then am_cI true (fm_358 x0 x2 h3) (fun v7 h8 => (if v7 = 0 then (fg_478_21 N x0 x1 x2 x0 h8) else (fg_478_22 N x0 x1 x2 x0 0 h8))) else none))) else none) = r_) : fg_478_0 N x0 x1 x2 h = r_ := k_
theorem hm_478 {N : Nat} {y0 : Value} {y1 : Int32} {y2 : Int32} {h : am_H} {r_ : Option am_O} (k_ : fg_478_0 N y0 y1 y2 h = r_) : fm_478 N y0 y1 y2 h = r_ := k_
theorem hd_479_45 {s0 : Int32} {h : am_H} {r_ : Option am_O} (k_ : (if am_rfit (some FieldType.boolean) s0 then some (.inl (some (.int s0), h)) else none) = r_) : fg_479_45 s0 h = r_ := k_
theorem hd_479_44 {h : am_H} {r_ : Option am_O} (k_ : (fg_479_45 0 h) = r_) : fg_479_44 h = r_ := k_
theorem hd_479_40 {h : am_H} {r_ : Option am_O} (k_ : (fg_479_45 1 h) = r_) : fg_479_40 h = r_ := k_
theorem hd_479_0 {x0 : Value} {x1 : Int32} {x2 : Int32} {h : am_H} {r_ : Option am_O} (k_ : ((am_vR (am_pG 3074 x0 h)).bind fun v1 => ((am_pA 0 v1 x1 h).bind fun v3 => ((am_vR (am_pG 3074 x0 h)).bind fun v5 => ((am_pA 0 v5 x2 h).bind fun v7 => (if ¬ v3 = v7 then (fg_479_44 h) else ((am_vR (am_pG 3074 x0 h)).bind fun v10 => ((am_pA 0 v10 x1 h).bind fun v12 => (if ¬ v12 = 3 then (fg_479_40 h) else ((am_vR (am_pG 3076 x0 h)).bind fun v15 => ((am_pA 0 v15 x1 h).bind fun v17 => ((am_vR (am_pG 3076 x0 h)).bind fun v19 => ((am_pA 0 v19 x2 h).bind fun v21 => (if ¬ v17 = v21 then (fg_479_44 h) else (fg_479_40 h)))))))))))))) = r_) : fg_479_0 x0 x1 x2 h = r_ := k_
theorem hm_479 {y0 : Value} {y1 : Int32} {y2 : Int32} {h : am_H} {r_ : Option am_O} (k_ : fg_479_0 y0 y1 y2 h = r_) : fm_479 y0 y1 y2 h = r_ := k_
theorem ncP_b {kd ln : Nat} {P Q : xI} (hg : gdP kd ln P) (hgq : gdP kd ln Q) : ncP kd ln ln P.length Q.length ≤ 4500 := by
  have g2 := hg.2.1
  have q2 := hgq.2.1
  have h1 : P.length * Q.length ≤ 60 * 60 := Nat.mul_le_mul g2 q2
  have h2 : (P.length + 1) * (Q.length + 1) ≤ 61 * 61 := Nat.mul_le_mul (by omega) (by omega)
  unfold ncP
  by_cases k0 : kd = 0
  · rw [if_pos k0]; omega
  · rw [if_neg k0]
    by_cases k2 : kd = 2
    · have := (hg.2.2.2.2.1 k2).2.2.1
      have p64 : 2 ^ P.length ≤ 2 ^ 6 := Nat.pow_le_pow_right (by decide) this
      rw [if_pos k2]
      split <;> omega
    · rw [if_neg k2]
      split <;> omega
/-- may they be crossed, in the reference -/
theorem r_479 {V : Nat → Nat → Value} {I : Nat → Nat → Int32} {L : Nat → Nat → Int64} {R : Nat → Nat → Option Nat} {tl : am_H} {b c kd ln kd' ln' : Nat} (hb : b < 600) (hc : c < 600) (hk : kd ≤ 3) (hk' : kd' ≤ 3) (hl : ln ≤ 8) (hl' : ln' ≤ 8) (q1 : I 175 b = nI kd) (q3 : I 177 b = nI ln) (r1 : I 175 c = nI kd') (r3 : I 177 c = nI ln') : fm_479 (.ref 174) (nI b) (nI c) (fx V I L R ++ tl) = some (.inl (some (.int (bI (decide (kd = kd' ∧ (kd = 3 → ln = ln'))))), fx V I L R ++ tl)) := by
  have r75 : ∀ {x : Nat}, x < 600 → am_pA 0 (.ref 175) (nI x) (fx V I L R ++ tl) = some (I 175 x) := fun {x} h => qa_175 h
  have r77 : ∀ {x : Nat}, x < 600 → am_pA 0 (.ref 177) (nI x) (fx V I L R ++ tl) = some (I 177 x) := fun {x} h => qa_177 h
  apply hm_479
  apply hd_479_0
  refine ev_b (rdR rfl) (ev_b ((r75 hb).trans (congrArg some q1)) (ev_b (rdR rfl) (ev_b ((r75 hc).trans (congrArg some r1)) ?_)))
  by_cases c1 : kd = kd'
  case neg =>
    rw [decide_eq_false (fun e => c1 e.1)]
    exact ev_t (fun u => c1 ((nI_eq (by omega) (by omega)).mp u)) (hd_479_44 (hd_479_45 (ev_i rfl rfl)))
  refine ev_f (fun u => u (by rw [c1])) (ev_b (rdR rfl) (ev_b ((r75 hb).trans (congrArg some q1)) ?_))
  by_cases c3 : kd = 3
  case neg =>
    rw [decide_eq_true ⟨c1, fun e => absurd e c3⟩]
    exact ev_t (fun u => c3 ((nI_eq (b := 3) (by omega) (by decide)).mp u)) (hd_479_40 (hd_479_45 (ev_i rfl rfl)))
  refine ev_f (fun u => u (by rw [c3]; rfl)) (ev_b (rdR rfl) (ev_b ((r77 hb).trans (congrArg some q3)) (ev_b (rdR rfl) (ev_b ((r77 hc).trans (congrArg some r3)) ?_))))
  by_cases c2 : ln = ln'
  · rw [decide_eq_true ⟨c1, fun _ => c2⟩]
    exact ev_f (fun u => u (by rw [c2])) (hd_479_40 (hd_479_45 (ev_i rfl rfl)))
  · rw [decide_eq_false (fun e => c2 (e.2 c3))]
    exact ev_t (fun u => c2 ((nI_eq (by omega) (by omega)).mp u)) (hd_479_44 (hd_479_45 (ev_i rfl rfl)))
theorem gd_ln {k l : Nat} {X : xI} (h : gdP k l X) : l ≤ 8 ∧ (k ≠ 3 → l = 0) := by
  rcases (by have := h.1; omega : k = 0 ∨ k = 1 ∨ k = 2 ∨ k = 3) with rfl | rfl | rfl | rfl
  · exact ⟨by rw [(h.2.2.1 rfl).1]; omega, fun _ => (h.2.2.1 rfl).1⟩
  · exact ⟨by rw [(h.2.2.2.1 rfl).1]; omega, fun _ => (h.2.2.2.1 rfl).1⟩
  · exact ⟨by rw [(h.2.2.2.2.1 rfl).1]; omega, fun _ => (h.2.2.2.2.1 rfl).1⟩
  · exact ⟨(h.2.2.2.2.2 rfl).2.1, fun e => absurd rfl e⟩
/-- the reference's pairs: loaded and gone through -/
theorem paR {V : Nat → Nat → Value} {I : Nat → Nat → Int32} {L : Nat → Nat → Int64} {R : Nat → Nat → Option Nat} {tl : am_H} {N kd ln b c : Nat} {P Q : xI} {so : Int32} (hN : 400 < N) (hb : b < 600) (hc : c < 600) (hg : gdP kd ln P) (hgq : gdP kd ln Q) (wv : wt V) (q1 : I 175 b = nI kd) (q2 : I 176 b = nI P.length) (q3 : I 177 b = nI ln) (hl : lay2 (fun k => I 184 (60 * b + k)) (fun k => I 185 (60 * b + k)) P) (r1 : I 175 c = nI kd) (r2 : I 176 c = nI Q.length) (rl : lay2 (fun k => I 184 (60 * c + k)) (fun k => I 185 (60 * c + k)) Q) : ∃ W1 J1 W2 J2 W J x, fm_391 N (.ref 174) (nI b) (fx V I L R ++ tl) = some (.inl (none, fx W1 J1 L R ++ tl)) ∧ fm_480 N (.ref 174) (nI c) (fx W1 J1 L R ++ tl) = some (.inl (none, fx W2 J2 L R ++ tl)) ∧ fm_481 N (.ref 174) so (fx W2 J2 L R ++ tl) = some (.inl (some (.int x), fx W J L R ++ tl)) ∧ outS (vSo W2 so) J2 (cdP kd P Q) so (ncP kd ln ln P.length Q.length) kd (nI ln) W J ∧ W 174 94 = .int x ∧ keep V W I J ∧ W 174 0 = V 174 0 := by
  obtain ⟨W1, J1, e1, f1, h20, h19, hd, hsp⟩ := ld_E (V := V) (I := I) (L := L) (R := R) (tl := tl) (N := N) (by omega) hb hg q1 q2 q3 hl
  have k1 := keep_39 f1
  obtain ⟨W2, J2, e2, f2, ht⟩ := ld_B (V := W1) (I := J1) (L := L) (R := R) (tl := tl) (N := N) (by omega) hc hgq ((congrFun (k1.2.1 175 (by decide)) c).trans r1) ((congrFun (k1.2.1 176 (by decide)) c).trans r2) (by rw [k1.2.1 184 (by decide), k1.2.1 185 (by decide)]; exact rl)
  have k2 := keep_48 f2
  obtain ⟨W, J, x, e3, o, hx⟩ := all_rP (V := W2) (I := J2) (L := L) (R := R) (tl := tl) (N := N) (so := so) hN hg hgq (dsE_48 ⟨h20, h19, hd, hsp⟩ f2) ht (k2.2.2 (k1.2.2 wv))
  have f4 : frSc (vSo W2 so) W J2 J := by
    rcases o with o | o
    · exact o.1
    · exact o.1
  exact ⟨W1, J1, W2, J2, W, J, x, e1, e2, e3, o, hx, keep_t k1 (keep_t k2 (keep_t keep_So (keep_Sc f4))), (f4.1 174 0 (by decide)).trans ((vSo_o (by decide)).trans ((f2.1 174 0 (by decide)).trans (f1.1 174 0 (by decide))))⟩
set_option maxRecDepth 100000 in
set_option maxHeartbeats 4000000 in
theorem u_30 {V : Nat → Nat → Value} {I : Nat → Nat → Int32} {L : Nat → Nat → Int64} {R : Nat → Nat → Option Nat} {tl : am_H} {n p j : Nat} (hr : rel V I L R tl n p) (hm : room tl n p j) {N : Nat} (hN : 5000 < N) (a1 a2 : Int32) : ∃ h', opBI (fm_195 N (.ref 0) a1 a2 (.ref 268) (fx V I L R ++ tl)) (fun h1 => fm_478 N (.ref 174) a1 a2 h1) vfI h' ∧ invW (j + 1) h' := by
  obtain ⟨b1, b2, b3⟩ := hr.1
  have hwt := rel_w hr
  have err : ∀ x y : Int32, fm_196 N (.ref 0) x y (fx V I L R ++ tl) = some (.inr (2, (fx V I L R ++ (tl ++ [am_dummy])))) → (∀ t : am_H, fm_478 N (.ref 174) x y (fx V I L R ++ t) = fg_478_21 N (.ref 174) x y (.ref 174) (fx V I L R ++ t)) → ∃ h', opBI (fm_195 N (.ref 0) x y (.ref 268) (fx V I L R ++ tl)) (fun h1 => fm_478 N (.ref 174) x y h1) vfI h' ∧ invW (j + 1) h' := fun x y e er => by
    refine ⟨_, opBI_err (c := 1) (b := 0) (by decide) (tl := tl ++ [am_dummy]) ?_ ?_, inv_mk (rel_thr 1 (rel_dum hr)) (room_dum hm)⟩
    · unfold fm_195 fg_195_0
      refine ev_i rfl ?_
      rw [e]
      rfl
    · refine (er _).trans ?_
      apply hd_478_21
      apply hd_478_22
      exact ev_b qp_174_0 (ev_b (a := 1) rfl (ev_t (by decide) (hd_478_41 rfl)))
  rcases dich a1 (n := n) (by omega) with hn | ⟨b, hb, rfl⟩
  · refine err a1 a2 ?_ (fun t => ?_)
    · apply hm_196
      apply hd_196_0
      refine ev_i rfl ?_
      rw [c_63n b2 hn]
      rfl
    · apply hm_478
      apply hd_478_0
      exact ev_i rfl (ev_cI (r_358n b3 b1 hn) (ev_t rfl rfl))
  obtain ⟨kd, ln, P, a, it, hg, q1, q2, q3, q4, q5, q6, q7⟩ := bth_E hr hb
  rcases dich a2 (n := n) (by omega) with hn | ⟨c, hc, rfl⟩
  · refine err (nI b) a2 ?_ (fun t => ?_)
    · apply hm_196
      apply hd_196_0
      refine ev_i rfl (ev_cR (c_63 b2 b1 hb q4) rfl (ev_b (rdR rfl) (ev_i rfl ?_)))
      rw [c_63n b2 hn]
      rfl
    · apply hm_478
      apply hd_478_0
      exact ev_i rfl (ev_cI (r_358 b3 b1 hb) (ev_f (by decide) (ev_i rfl (ev_cI (r_358n b3 b1 hn) (ev_t rfl rfl)))))
  obtain ⟨kd', ln', Q, a', it', hgq, r1, r2, r3, r4, r5, r6, r7⟩ := bth_E hr hc
  obtain ⟨W1, J1, nC, e1, h9, f1, cy, cn⟩ := beg_P (V := V) (I := I) (L := L) (R := R) (tl := tl) (N := N) (x3 := 0) (by omega) hg hgq hwt (q5 V I) (r5 V I) (by omega) (by omega) (by omega) (by omega)
  have k1 := keep_Cg f1
  have clsE : ∀ (x : Int32) (W2 : Nat → Nat → Value) (J2 : Nat → Nat → Int32), fm_162 N (.ref 89) (fx W1 J1 L R ++ tl) = some (.inl (some (.int x), fx W2 J2 L R ++ tl)) → fm_195 N (.ref 0) (nI b) (nI c) (.ref 268) (fx V I L R ++ tl) = some (.inl (some (.int 0), fx W2 J2 (outL L x.toInt64) R ++ tl)) := fun x W2 J2 e2 => by
    have e : fm_196 N (.ref 0) (nI b) (nI c) (fx V I L R ++ tl) = some (.inl (some (.int x), fx W2 J2 L R ++ tl)) := by
      apply hm_196
      apply hd_196_0
      exact ev_i rfl (ev_cR (c_63 b2 b1 hb q4) rfl (ev_b (rdR rfl) (ev_i rfl (ev_cR (c_63 b2 b1 hc r4) rfl (ev_i rfl (ev_cI e1 (ev_b (rdR rfl) (ev_i rfl (ev_cI e2 rfl)))))))))
    unfold fm_195 fg_195_0
    refine ev_i rfl ?_
    rw [e]
    exact ev_b out_s rfl
  have gl := gd_ln hg
  have gl' := gd_ln hgq
  -- the reference up to the comparison
  have refE : ∀ (X : Nat → Nat → Value) (Y : Nat → Nat → Int32) (M : Nat → Nat → Int64) o, X 174 1 = .int (nI n) → (∀ y, y ∈ iRel → Y y = I y) → (if ¬ bI (decide (kd = kd' ∧ (kd = 3 → ln = ln'))) = 0 then (if am_pOk 12 (.ref 174) (fx (vup X 174 0 (.int 0)) Y M R ++ tl) then am_cV true (fm_391 N (.ref 174) (nI b) (fx (vup X 174 0 (.int 0)) Y M R ++ tl)) (fun h13 => (if am_pOk 12 (.ref 174) h13 then am_cV true (fm_480 N (.ref 174) (nI c) h13) (fun h17 => (if am_pOk 12 (.ref 174) h17 then am_cI true (fm_481 N (.ref 174) ((-1)) h17) (fun v20 h21 => some (.inl (some (.int v20), h21))) else none)) else none)) else none) else (fg_478_41 N (fx (vup X 174 0 (.int 0)) Y M R ++ tl))) = o → fm_478 N (.ref 174) (nI b) (nI c) (fx X Y M R ++ tl) = o := fun X Y M o x1 iR k_ => by
    apply hm_478
    apply hd_478_0
    refine ev_i rfl (ev_cI (r_358 x1 b1 hb) (ev_f (by decide) (ev_i rfl (ev_cI (r_358 x1 b1 hc) (ev_f (by decide) ?_)))))
    apply hd_478_22
    exact ev_b qp_174_0 (ev_b (a := 0) rfl (ev_f (by decide) (ev_i rfl (ev_cI (r_479 (by omega) (by omega) hg.1 hgq.1 gl.1 gl'.1 ((congrFun (iR 175 (by decide)) b).trans q1) ((congrFun (iR 177 (by decide)) b).trans q3) ((congrFun (iR 175 (by decide)) c).trans r1) ((congrFun (iR 177 (by decide)) c).trans r3)) k_))))
  by_cases cm : cmpt kd ln kd' ln' P.length Q.length
  · obtain ⟨sp, enc⟩ := cy cm
    have hgq' : gdP kd ln Q := by rw [cm.1, cm.2.1]; exact hgq
    have nb := ncP_b hg hgq'
    obtain ⟨W2, J2, e2, s2, f2⟩ := s162 (L := L) (R := R) (tl := tl) (N := N) (S := SP tl (269 + a) (269 + it) (269 + a') (269 + it') kd ln P Q) (cd := cdP kd P Q) (n := ncP kd ln ln P.length Q.length) nb (.inl enc) (fun _ _ _ _ h f => SP_f h f) (fun V I h c hc => all_mP (by omega) hg hgq' h hc) hN sp h9
    have kW : keep V W2 I J2 := keep_t k1 (keep_Cg (frM_Cg f2))
    have iR : ∀ y, y ∈ iRel → J2 y = I y := kW.2.1
    have cmm := cnt_m (cdP kd P Q) (ncP kd ln ln P.length Q.length) 0
    obtain ⟨x, ex⟩ : ∃ x, x = nI (cnt (cdP kd P Q) (ncP kd ln ln P.length Q.length) 0) := ⟨_, rfl⟩
    rw [← ex] at e2
    obtain ⟨U1, K1, U2, K2, U, K, y, t1, t2, t3, o, hx, kk, z0⟩ := paR (V := vup W2 174 0 (.int 0)) (I := J2) (L := outL L x.toInt64) (R := R) (tl := tl) (N := N) (b := b) (c := c) (so := -1) (by omega) (by omega) (by omega) hg hgq' (wt_i (kW.2.2 hwt) (by decide)) ((congrFun (iR 175 (by decide)) b).trans q1) ((congrFun (iR 176 (by decide)) b).trans q2) ((congrFun (iR 177 (by decide)) b).trans q3) (by rw [iR 184 (by decide), iR 185 (by decide)]; exact q6) (by rw [cm.1]; exact (congrFun (iR 175 (by decide)) c).trans r1) ((congrFun (iR 176 (by decide)) c).trans r2) (by rw [iR 184 (by decide), iR 185 (by decide)]; exact r6)
    have ey : y = x := by
      rcases o with ⟨-, -, d, X, d1, -, d3, -⟩ | ⟨-, o2, -⟩
      · exact absurd d3 (nI_m1c (by have := cnt_m (cdP kd P Q) d 0; omega))
      · rw [hx] at o2
        injection o2 with o2
        rw [o2, ex]
    subst ey
    refine ⟨_, opBI_g (v := y) (W := W2) (J := J2) (M := outL L y.toInt64) (R1 := R) (t1 := tl) (clsE y W2 J2 e2) (r := fun h1 => fm_478 N (.ref 174) (nI b) (nI c) h1) (refE W2 J2 (outL L y.toInt64) _ ((kW.1 174 1 (by decide)).trans b3) iR ?_) z0 outL_at, inv_mk (rel_k (keep_t kW (keep_t (keep_v (a := 174) (j := 0) (by decide) (by decide)) kk)) (rel_ol _ hr)) (room_up hm)⟩
    rw [decide_eq_true ⟨cm.1, fun _ => cm.2.1⟩]
    exact ev_t (by decide) (ev_i rfl (ev_cV t1 (ev_i rfl (ev_cV t2 (ev_i rfl (ev_cI t3 rfl))))))
  · have c0 := cn cm
    subst c0
    have e2 : fm_162 N (.ref 89) (fx W1 J1 L R ++ tl) = some (.inl (some (.int 0), fx W1 J1 L R ++ tl)) := by
      obtain ⟨K, rfl⟩ : ∃ k, N = k + 1 := ⟨N - 1, by omega⟩
      exact hm_162 (hd_162_0 (hd_162_4 (ev_b (rdI h9) (ev_t (by decide) rfl))))
    have iR : ∀ y, y ∈ iRel → J1 y = I y := k1.2.1
    by_cases d : kd = kd' ∧ (kd = 3 → ln = ln')
    case neg =>
      refine ⟨_, opBI_g (v := 0) (W := W1) (J := J1) (M := outL L (0 : Int32).toInt64) (R1 := R) (t1 := tl) (W' := vup W1 174 0 (.int 0)) (J' := J1) (M' := outL L (0 : Int32).toInt64) (R2 := R) (t2 := tl) (clsE 0 W1 J1 e2) (r := fun h1 => fm_478 N (.ref 174) (nI b) (nI c) h1) (refE W1 J1 (outL L (0 : Int32).toInt64) _ ((k1.1 174 1 (by decide)).trans b3) iR ?_) rfl outL_at, inv_mk (rel_k (keep_t k1 (keep_v (a := 174) (j := 0) (by decide) (by decide))) (rel_ol _ hr)) (room_up hm)⟩
      rw [decide_eq_false d]
      exact ev_f (fun u => u rfl) (hd_478_41 rfl)
    -- machines of other sizes
    have e0 : ln = ln' := by
      by_cases k3 : kd = 3
      · exact d.2 k3
      · rw [gl.2 k3, gl'.2 (by rw [← d.1]; exact k3)]
    have k2 : kd = 2 := by
      by_cases k2 : kd = 2
      · exact k2
      · exact absurd ⟨d.1, e0, fun e => absurd e k2⟩ cm
    have hz : ¬ P.length = Q.length := fun e => cm ⟨d.1, e0, fun _ => e⟩
    have hgq' : gdP kd ln Q := by rw [d.1, e0]; exact hgq
    obtain ⟨U1, K1, U2, K2, U, K, y, t1, t2, t3, o, hx, kk, z0⟩ := paR (V := vup W1 174 0 (.int 0)) (I := J1) (L := outL L (0 : Int32).toInt64) (R := R) (tl := tl) (N := N) (b := b) (c := c) (so := -1) (by omega) (by omega) (by omega) hg hgq' (wt_i (k1.2.2 hwt) (by decide)) ((congrFun (iR 175 (by decide)) b).trans q1) ((congrFun (iR 176 (by decide)) b).trans q2) ((congrFun (iR 177 (by decide)) b).trans q3) (by rw [iR 184 (by decide), iR 185 (by decide)]; exact q6) (by rw [d.1]; exact (congrFun (iR 175 (by decide)) c).trans r1) ((congrFun (iR 176 (by decide)) c).trans r2) (by rw [iR 184 (by decide), iR 185 (by decide)]; exact r6)
    have en : ncP kd ln ln P.length Q.length = 0 := by subst k2; exact if_neg hz
    rw [en] at o
    have ey : y = 0 := by
      rcases o with ⟨-, -, d, X, d1, -⟩ | ⟨-, o2, -⟩
      · exact absurd d1 (Nat.not_lt_zero _)
      · rw [hx] at o2
        injection o2
    subst ey
    refine ⟨_, opBI_g (v := 0) (W := W1) (J := J1) (M := outL L (0 : Int32).toInt64) (R1 := R) (t1 := tl) (clsE 0 W1 J1 e2) (r := fun h1 => fm_478 N (.ref 174) (nI b) (nI c) h1) (refE W1 J1 (outL L (0 : Int32).toInt64) _ ((k1.1 174 1 (by decide)).trans b3) iR ?_) z0 outL_at, inv_mk (rel_k (keep_t k1 (keep_t (keep_v (a := 174) (j := 0) (by decide) (by decide)) kk)) (rel_ol _ hr)) (room_up hm)⟩
    rw [decide_eq_true d]
    exact ev_t (by decide) (ev_i rfl (ev_cV t1 (ev_i rfl (ev_cV t2 (ev_i rfl (ev_cI t3 rfl))))))
