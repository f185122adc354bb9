/-! ===== replay(b) ===== -/
theorem hd_258_23 {N : Nat} {h : am_H} {r_ : Option am_O} (k_ : some (.inl (some (.int 2), h)) = r_) : fg_258_23 N h = r_ := k_
theorem hd_258_20 {N : Nat} {h : am_H} {r_ : Option am_O} (k_ : some (.inl (some (.int 1), h)) = r_) : fg_258_20 N h = r_ := k_
theorem hd_258_15 {N : Nat} {s0 : Value} {s1 : Int32} {s2 : Int64} {h : am_H} {r_ : Option am_O} (k_ : ((am_pSL s0 s1 s2 h).bind fun h1 => some (.inl (some (.int 0), h1))) = r_) : fg_258_15 N s0 s1 s2 h = r_ := k_
theorem hd_258_0 {N : Nat} {x0 : Value} {x1 : Int32} {x2 : Value} {h : am_H} {r_ : Option am_O} (k_ : (if am_pOk 11 x0 h then (match fm_259 N x0 x1 h with | some (.inl (some (.int v2), h3)) => (if v2 = 0 then (fg_258_15 N x2 0 0 h3) else (fg_258_15 N x2 0 1 h3)) | some (.inr (0, h6)) => (fg_258_23 N h6) | some (.inr (2, h8)) => (fg_258_20 N h8) | _ => none) else none) = r_) : fg_258_0 N x0 x1 x2 h = r_ := k_
theorem hm_258 {N : Nat} {y0 : Value} {y1 : Int32} {y2 : Value} {h : am_H} {r_ : Option am_O} (k_ : fg_258_0 N y0 y1 y2 h = r_) : fm_258 N y0 y1 y2 h = r_ := k_
theorem hd_259_150 {N : Nat} {x0 : Value} {x2 : Value} {h : am_H} {r_ : Option am_O} (k_ : ((am_vR (am_pG 2823 x0 h)).bind fun v1 => ((am_vR (am_pG 0 v1 h)).bind fun v3 => (if am_pOk 3 v3 h then am_cI true (fm_86 N v3 x2 h) (fun v6 h7 => (if am_rfit (some FieldType.boolean) v6 then some (.inl (some (.int v6), h7)) else none)) else none))) = r_) : fg_259_150 N x0 x2 h = r_ := k_
theorem hd_259_126 {N : Nat} {x0 : Value} {x2 : Value} {s0 : Value} {s1 : Value} {s2 : Value} {h : am_H} {r_ : Option am_O} (k_ : ((am_vI (am_pG 776 x2 h)).bind fun v1 => (if am_pOk 0 s0 h then am_cI true (fm_159 N s0 s1 s2 v1 h) (fun v4 h5 => ((am_vR (am_pG 2823 x0 h5)).bind fun v7 => ((am_vI (am_pG 777 x2 h5)).bind fun v9 => (if am_pOk 0 v7 h5 then am_cI true (fm_187 N v7 v9 h5) (fun v12 h13 => (if ¬ v12 = 0 then (fg_259_150 N x0 x2 h13) else some (.inl (some (.int 0), h13)))) else none)))) else none)) = r_) : fg_259_126 N x0 x2 s0 s1 s2 h = r_ := k_
theorem hd_259_33 {N : Nat} {x0 : Value} {x2 : Value} {h : am_H} {r_ : Option am_O} (k_ : ((am_vI (am_pG 774 x2 h)).bind fun v1 => (if am_pOk 11 x0 h then am_cR true (fm_63 x0 v1 h) (fun v4 h5 => ((am_vI (am_pG 776 x2 h5)).bind fun v7 => (if ¬ v7 = 4 then ((am_vI (am_pG 777 x2 h5)).bind fun v10 => (if 0 ≤ v10 then ((am_vR (am_pG 2823 x0 h5)).bind fun v13 => ((am_vI (am_pG 773 x2 h5)).bind fun v15 => (if ¬ v15 = 4 then (fg_259_126 N x0 x2 v13 v4 Value.null h5) else ((am_vI (am_pG 775 x2 h5)).bind fun v18 => (if am_pOk 11 x0 h5 then am_cR true (fm_63 x0 v18 h5) (fun v21 h22 => (fg_259_126 N x0 x2 v13 v4 v21 h22)) else none))))) else ((am_vR (am_pG 2823 x0 h5)).bind fun v24 => ((am_vR (am_pG 0 v24 h5)).bind fun v26 => (if am_pOk 3 v26 h5 then am_cV true (fm_60 v26 v4 h5) (fun h30 => (fg_259_150 N x0 x2 h30)) else none))))) else ((am_vR (am_pG 2835 x0 h5)).bind fun v32 => ((am_vL (am_pG 778 x2 h5)).bind fun v34 => ((am_pP 2048 v32 (.long v34) h5).bind fun h36 => ((am_vR (am_pG 2823 x0 h36)).bind fun v38 => ((am_vR (am_pG 2835 x0 h36)).bind fun v40 => ((am_vR (am_pG 2822 x0 h36)).bind fun v42 => (if am_pOk 0 v38 h36 then am_cV true (fm_191 N v38 v4 v40 v42 h36) (fun h46 => (fg_259_150 N x0 x2 h46)) else none)))))))))) else none)) = r_) : fg_259_33 N x0 x2 h = r_ := k_
theorem hd_259_0 {N : Nat} {x0 : Value} {x1 : Int32} {h : am_H} {r_ : Option am_O} (k_ : (if am_pOk 11 x0 h then am_cR true (fm_63 x0 x1 h) (fun v2 h3 => ((am_vI (am_pG 773 v2 h3)).bind fun v5 => (if v5 = 3 then (fg_259_33 N x0 v2 h3) else ((am_vI (am_pG 773 v2 h3)).bind fun v8 => (if v8 = 4 then (fg_259_33 N x0 v2 h3) else some (.inr (0, h3 ++ [am_dummy]))))))) else none) = r_) : fg_259_0 N x0 x1 h = r_ := k_
theorem hm_259 {N : Nat} {y0 : Value} {y1 : Int32} {h : am_H} {r_ : Option am_O} (k_ : fg_259_0 N y0 y1 h = r_) : fm_259 N y0 y1 h = r_ := k_
theorem hd_532_160 {N : Nat} {x0 : Value} {x1 : Int32} {h : am_H} {r_ : Option am_O} (k_ : (if am_pOk 12 x0 h then am_cI true (fm_375 N x0 x1 h) (fun v2 h3 => (if am_rfit (some FieldType.boolean) v2 then some (.inl (some (.int v2), h3)) else none)) else none) = r_) : fg_532_160 N x0 x1 h = r_ := k_
theorem hd_532_98 {N : Nat} {x0 : Value} {x1 : Int32} {x2 : Int32} {h : am_H} {r_ : Option am_O} (k_ : ((am_vR (am_pG 3081 x0 h)).bind fun v1 => ((am_pA 0 v1 x1 h).bind fun v3 => (if 0 ≤ v3 then (if ¬ x2 = 3 then ((am_vR (am_pG 3079 x0 h)).bind fun v7 => ((am_pA 0 v7 x1 h).bind fun v9 => (if am_pOk 12 x0 h then am_cV true (fm_480 N x0 v9 h) (fun h13 => ((am_vR (am_pG 3081 x0 h13)).bind fun v15 => ((am_pA 0 v15 x1 h13).bind fun v17 => (if am_pOk 12 x0 h13 then am_cI true (fm_481 N x0 v17 h13) (fun v20 h21 => (fg_532_160 N x0 x1 h21)) else none)))) else none))) else ((am_vR (am_pG 3080 x0 h)).bind fun v23 => ((am_pA 0 v23 x1 h).bind fun v25 => ((am_vR (am_pG 3081 x0 h)).bind fun v27 => ((am_pA 0 v27 x1 h).bind fun v29 => (if am_pOk 12 x0 h then am_cI true (fm_439 N x0 v25 v29 h) (fun v32 h33 => (fg_532_160 N x0 x1 h33)) else none)))))) else (if am_pOk 12 x0 h then am_cV true (fm_442 N x0 h) (fun h37 => (fg_532_160 N x0 x1 h37)) else none)))) = r_) : fg_532_98 N x0 x1 x2 h = r_ := k_
theorem hd_532_47 {N : Nat} {x0 : Value} {x1 : Int32} {x2 : Int32} {s0 : Value} {s1 : Int32} {h : am_H} {r_ : Option am_O} (k_ : ((am_pP 3072 s0 (.int s1) h).bind fun h1 => ((am_vI (am_pG 3072 x0 h1)).bind fun v3 => (if v3 ≤ 0 then ((am_vR (am_pG 3078 x0 h1)).bind fun v6 => ((am_pA 0 v6 x1 h1).bind fun v8 => (if am_pOk 12 x0 h1 then am_cV true (fm_391 N x0 v8 h1) (fun h12 => (if ¬ x2 = 3 then (fg_532_98 N x0 x1 x2 h12) else ((am_vR (am_pG 3080 x0 h12)).bind fun v15 => ((am_pA 0 v15 x1 h12).bind fun v17 => (if ¬ v17 = 4 then (fg_532_98 N x0 x1 x2 h12) else ((am_vR (am_pG 3082 x0 h12)).bind fun v20 => ((am_pAL v20 x1 h12).bind fun v22 => (if am_pOk 12 x0 h12 then am_cV true (fm_472 N x0 4 v22 h12) (fun h26 => (fg_532_160 N x0 x1 h26)) else none)))))))) else none))) else some (.inl (some (.int 0), h1))))) = r_) : fg_532_47 N x0 x1 x2 s0 s1 h = r_ := k_
theorem hd_532_46 {N : Nat} {x0 : Value} {x1 : Int32} {x2 : Int32} {s0 : Value} {h : am_H} {r_ : Option am_O} (k_ : (fg_532_47 N x0 x1 x2 s0 0 h) = r_) : fg_532_46 N x0 x1 x2 s0 h = r_ := k_
theorem hd_532_18 {N : Nat} {x0 : Value} {x1 : Int32} {s0 : Int32} {h : am_H} {r_ : Option am_O} (k_ : (if am_pOk 12 x0 h then am_cI true (fm_358 x0 x1 h) (fun v2 h3 => (if ¬ v2 = 0 then (if s0 = 3 then (fg_532_46 N x0 x1 s0 x0 h3) else (if s0 = 4 then (fg_532_46 N x0 x1 s0 x0 h3) else (fg_532_47 N x0 x1 s0 x0 2 h3))) else (fg_532_47 N x0 x1 s0 x0 1 h3))) else none) = r_) : fg_532_18 N x0 x1 s0 h = r_ := k_
theorem hd_532_0 {N : Nat} {x0 : Value} {x1 : Int32} {h : am_H} {r_ : Option am_O} (k_ : (if am_pOk 12 x0 h then am_cI true (fm_358 x0 x1 h) (fun v2 h3 => (if v2 = 0 then (fg_532_18 N x0 x1 0 h3) else ((am_vR (am_pG 3077 x0 h3)).bind fun v6 => ((am_pA 0 v6 x1 h3).bind fun v8 => (fg_532_18 N x0 x1 v8 h3))))) else none) = r_) : fg_532_0 N x0 x1 h = r_ := k_
theorem hm_532 {N : Nat} {y0 : Value} {y1 : Int32} {h : am_H} {r_ : Option am_O} (k_ : fg_532_0 N y0 y1 h = r_) : fm_532 N y0 y1 h = r_ := k_

set_option maxRecDepth 100000 in
set_option maxHeartbeats 4000000 in
theorem fin_45 {V : Nat → Nat → Value} {I : Nat → Nat → Int32} {L : Nat → Nat → Int64} {R : Nat → Nat → Option Nat} {tl : am_H} {N n p j b kdx lnx a : Nat} {X : xI} {W2 V0 : Nat → Nat → Value} {J2 : Nat → Nat → Int32} {L0 : Nat → Nat → Int64} (hr : rel V I L R tl n p) (h8 : rel V0 I L0 R tl n p) (hm : room tl n p j) (hN : 5000 < N) (hb : b < n) (ha : R 1 b = some (269 + a)) (gX : gdP kdx lnx X) (kW : keep V W2 I J2) (hcls : fm_259 N (.ref 0) (nI b) (fx V I L R ++ tl) = fg_259_150 N (.ref 0) (.ref (269 + a)) (fx W2 J2 L R ++ tl)) (h90 : holdE W2 J2 90 kdx lnx X) (href : ∀ M0 : Nat → Nat → Int64, (∀ y, y ≠ 268 → M0 y = L y) → ∃ W J M, fm_532 N (.ref 174) (nI b) (fx W2 J2 M0 R ++ tl) = fg_532_160 N (.ref 174) (nI b) (fx W J M R ++ tl) ∧ keep V0 W I J ∧ dkL W J X ∧ W 174 13 = .int (nI kdx) ∧ W 174 15 = .int (nI lnx) ∧ W 174 0 = .int 0 ∧ (∀ y, y ∈ lRel → M y = L0 y) ∧ M 268 = M0 268) : ∃ h', opBI (fm_258 N (.ref 0) (nI b) (.ref 268) (fx V I L R ++ tl)) (fun h1 => fm_532 N (.ref 174) (nI b) h1) vfZ h' ∧ invW (j + 1) h' := by
  have b1 := hr.1.1
  have hwt := rel_w hr
  obtain ⟨kd, ln, sz, a0, it, f, t1, t2, t3, t4, t5, t6, t7, t8, t9⟩ := hr.2.1 b hb
  have ea : a0 = a := by
    have := Option.some.inj (t4.symm.trans ha)
    omega
  subst ea
  have wX := gd_w gX
  have sX : sound kdx lnx X.length (srt X) (vlu X) := gd_snd gX lay_s
  obtain ⟨m9, f9, p9, i9, l9, -⟩ := srcE_90 (tl := tl) (kW.2.2 hwt) h90 wX
  obtain ⟨r, e86, hr86⟩ := c_86m (h := fx W2 J2 L R ++ tl) (N := N) (a := 90) (it := 91) (a' := 269 + a0) (it' := 269 + it) (by omega) (p9 W2 J2 L R (fun _ => rfl) rfl) (⟨_, _, _, _, _, _, tl_at.trans t5, tl_at.trans t6⟩ : pg (fx W2 J2 L R ++ tl) (269 + a0) (269 + it) kd ln sz (sz * wdN kd) f) l9 (Nat.le_refl _) i9 t7 sX t8
  have r01 : r = 0 ∨ r = 1 := by rcases hr86 with h | h; exact .inr h.1; exact .inl h.1
  obtain ⟨W, J, M, e5, K, d1, d13, d15, d0, lM, m8⟩ := href (outL L r.toInt64) (fun y hy => lup_na hy)
  have j4 : J 184 = I 184 := K.2.1 184 (by decide)
  have j5 : J 185 = I 185 := K.2.1 185 (by decide)
  obtain ⟨r', e75, hr75⟩ := r_375 (V := W) (I := J) (L := M) (R := R) (tl := tl) (N := N) (b := b) (s := srt X) (v := vlu X) (by omega) (by omega) d13 d1.1 d15 ((congrFun (K.2.1 175 (by decide)) b).trans t1) ((congrFun (K.2.1 176 (by decide)) b).trans t2) ((congrFun (K.2.1 177 (by decide)) b).trans t3) (fun k hk => d1.2 k _ (srt_at hk)) sX (by rw [j4, j5]; exact t8)
  rw [j4, j5] at hr75
  have err' : r' = r := by
    rcases hr86 with ⟨x1, x2⟩ | ⟨x1, x2⟩ <;> rcases hr75 with ⟨y1, y2⟩ | ⟨y1, y2⟩
    · rw [x1, y1]
    · exact absurd x2 y2
    · exact absurd y2 x2
    · rw [x1, y1]
  subst err'
  have rf : am_rfit (some FieldType.boolean) r' = true := by rcases r01 with h | h <;> (rw [h]; rfl)
  refine ⟨_, opBZ_g (v := r') (W := W2) (J := J2) (M := outL L r'.toInt64) (R1 := R) (t1 := tl) (W' := W) (J' := J) (M' := M) (R2 := R) (t2 := tl) r01 ?_ ?_ d0 ?_, inv_mk (rel_kl ⟨K, lM⟩ h8) (room_up hm)⟩
  · have e : fm_259 N (.ref 0) (nI b) (fx V I L R ++ tl) = some (.inl (some (.int r'), fx W2 J2 L R ++ tl)) := by
      rw [hcls]
      apply hd_259_150
      exact ev_b (rdR rfl) (ev_b (rdR rfl) (ev_i rfl (ev_cI e86 (ev_i rf rfl))))
    unfold fm_258 fg_258_0
    refine ev_i rfl ?_
    rw [e]
    rcases r01 with h | h
    · subst h
      exact ev_t rfl (hd_258_15 (ev_b out_s rfl))
    · subst h
      exact ev_f (by decide) (hd_258_15 (ev_b out_s rfl))
  · show fm_532 N (.ref 174) (nI b) (fx W2 J2 (outL L r'.toInt64) R ++ tl) = _
    rw [e5]
    apply hd_532_160
    exact ev_i rfl (ev_cI e75 (ev_i rf rfl))
  · rw [m8]
    exact outL_at
set_option maxRecDepth 100000 in
set_option maxHeartbeats 4000000 in
theorem u_45 {V : Nat → Nat → Value} {I : Nat → Nat → Int32} {L : Nat → Nat → Int64} {R : Nat → Nat → Option Nat} {tl : am_H} {n p j : Nat} (hr : rel V I L R tl n p) (hm : room tl n p j) {N : Nat} (hN : 5000 < N) (a1 : Int32) : ∃ h', opBI (fm_258 N (.ref 0) a1 (.ref 268) (fx V I L R ++ tl)) (fun h1 => fm_532 N (.ref 174) a1 h1) vfZ h' ∧ invW (j + 1) h' := by
  obtain ⟨b1, b2, b3⟩ := hr.1
  have hwt := rel_w hr
  rcases dich a1 (n := n) (by omega) with hn | ⟨b, hb, rfl⟩
  · refine ⟨_, opBI_err (c := 1) (b := 0) (by decide) (tl := tl ++ [am_dummy]) ?_ ?_, inv_mk (rel_thr 1 (rel_dum hr)) (room_dum hm)⟩
    · have e : fm_259 N (.ref 0) a1 (fx V I L R ++ tl) = some (.inr (2, (fx V I L R ++ (tl ++ [am_dummy])))) := by
        apply hm_259
        apply hd_259_0
        refine ev_i rfl ?_
        rw [c_63n b2 hn]
        rfl
      unfold fm_258 fg_258_0
      refine ev_i rfl ?_
      rw [e]
      rfl
    · show fm_532 N (.ref 174) a1 (fx V I L R ++ (tl ++ [am_dummy])) = _
      apply hm_532
      apply hd_532_0
      refine ev_i rfl (ev_cI (r_358n b3 b1 hn) (ev_t rfl ?_))
      apply hd_532_18
      refine ev_i rfl (ev_cI (r_358n b3 b1 hn) (ev_f (fun u => u rfl) ?_))
      apply hd_532_47
      exact ev_b qp_174_0 (ev_b (a := 1) rfl (ev_f (by decide) rfl))
  obtain ⟨kd0, ln0, sz0, a, it0, f0, t1, t2, t3, t4, t5, t6, t7, t8, w0, w7, t78, hf1, hf2, g3, g4, g5, hnb⟩ := hr.2.1 b hb
  have gn := hr.2.2.2.2.2.2.2.2.1.2.2.2 b hb
  have rd3 : ∀ (W : Nat → Nat → Value) (J : Nat → Nat → Int32) (M : Nat → Nat → Int64), am_vI (am_pG 773 (.ref (269 + a)) (fx W J M R ++ tl)) = some (I 178 b) := fun W J M => ev_gI (tl_at.trans t5) rfl rfl
  have rd4 : ∀ (W : Nat → Nat → Value) (J : Nat → Nat → Int32) (M : Nat → Nat → Int64), am_vI (am_pG 774 (.ref (269 + a)) (fx W J M R ++ tl)) = some (I 179 b) := fun W J M => ev_gI (tl_at.trans t5) rfl rfl
  have rd5 : ∀ (W : Nat → Nat → Value) (J : Nat → Nat → Int32) (M : Nat → Nat → Int64), am_vI (am_pG 775 (.ref (269 + a)) (fx W J M R ++ tl)) = some (I 180 b) := fun W J M => ev_gI (tl_at.trans t5) rfl rfl
  have rd6 : ∀ (W : Nat → Nat → Value) (J : Nat → Nat → Int32) (M : Nat → Nat → Int64), am_vI (am_pG 776 (.ref (269 + a)) (fx W J M R ++ tl)) = some (I 181 b) := fun W J M => ev_gI (tl_at.trans t5) rfl rfl
  have rd7 : ∀ (W : Nat → Nat → Value) (J : Nat → Nat → Int32) (M : Nat → Nat → Int64), am_vI (am_pG 777 (.ref (269 + a)) (fx W J M R ++ tl)) = some (I 182 b) := fun W J M => ev_gI (tl_at.trans t5) rfl rfl
  have rd8 : ∀ (W : Nat → Nat → Value) (J : Nat → Nat → Int32) (M : Nat → Nat → Int64), am_vL (am_pG 778 (.ref (269 + a)) (fx W J M R ++ tl)) = some (L 183 b) := fun W J M => ev_gL (tl_at.trans t5) rfl rfl
  by_cases w34 : w0 = 3 ∨ w0 = 4
  case neg =>
    have n3 : ¬ nI w0 = 3 := fun u => w34 (.inl ((nI_eq (b := 3) (by omega) (by omega)).mp u))
    have n4 : ¬ nI w0 = 4 := fun u => w34 (.inr ((nI_eq (b := 4) (by omega) (by omega)).mp u))
    refine ⟨_, opBI_err (c := 2) (b := 0) (by decide) (tl := tl ++ [am_dummy]) ?_ ?_, inv_mk (rel_thr 2 (rel_dum hr)) (room_dum hm)⟩
    · have e : fm_259 N (.ref 0) (nI b) (fx V I L R ++ tl) = some (.inr (0, (fx V I L R ++ (tl ++ [am_dummy])))) := by
        rw [← List.append_assoc]
        apply hm_259
        apply hd_259_0
        refine ev_i rfl (ev_cR (c_63 b2 b1 hb t4) rfl (ev_b (rd3 V I L) ?_))
        rw [t78]
        refine ev_f n3 (ev_b (rd3 V I L) ?_)
        rw [t78]
        exact ev_f n4 rfl
      unfold fm_258 fg_258_0
      refine ev_i rfl ?_
      rw [e]
      rfl
    · show fm_532 N (.ref 174) (nI b) (fx V I L R ++ (tl ++ [am_dummy])) = _
      apply hm_532
      apply hd_532_0
      refine ev_i rfl (ev_cI (r_358 b3 b1 hb) (ev_f (by decide) (ev_b (rdR rfl) (ev_b ((qa_178 (by omega)).trans (congrArg some t78)) ?_))))
      apply hd_532_18
      refine ev_i rfl (ev_cI (r_358 b3 b1 hb) (ev_t (by decide) (ev_f n3 (ev_f n4 ?_))))
      apply hd_532_47
      exact ev_b qp_174_0 (ev_b (a := 2) rfl (ev_f (by decide) rfl))
  have hne := g3 (by omega)
  obtain ⟨q, hq, eq⟩ := hf1.resolve_left hne
  have hqn : q < n := by omega
  obtain ⟨kd, ln, P, a', it', hg, q1, q2, q3, q4, q5, q6, q7⟩ := bth_E hr hqn
  have k3 := hg.1
  -- the class up to the parent
  have c33 : ∀ o, (if ¬ I 181 b = 4 then ((am_vI (am_pG 777 (.ref (269 + a)) (fx V I L R ++ tl))).bind fun v10 => (if 0 ≤ v10 then ((am_vR (am_pG 2823 (.ref 0) (fx V I L R ++ tl))).bind fun v13 => ((am_vI (am_pG 773 (.ref (269 + a)) (fx V I L R ++ tl))).bind fun v15 => (if ¬ v15 = 4 then (fg_259_126 N (.ref 0) (.ref (269 + a)) v13 (.ref (269 + a')) Value.null (fx V I L R ++ tl)) else ((am_vI (am_pG 775 (.ref (269 + a)) (fx V I L R ++ tl))).bind fun v18 => (if am_pOk 11 (.ref 0) (fx V I L R ++ tl) then am_cR true (fm_63 (.ref 0) v18 (fx V I L R ++ tl)) (fun v21 h22 => (fg_259_126 N (.ref 0) (.ref (269 + a)) v13 (.ref (269 + a')) v21 h22)) else none))))) else ((am_vR (am_pG 2823 (.ref 0) (fx V I L R ++ tl))).bind fun v24 => ((am_vR (am_pG 0 v24 (fx V I L R ++ tl))).bind fun v26 => (if am_pOk 3 v26 (fx V I L R ++ tl) then am_cV true (fm_60 v26 (.ref (269 + a')) (fx V I L R ++ tl)) (fun h30 => (fg_259_150 N (.ref 0) (.ref (269 + a)) h30)) else none))))) else ((am_vR (am_pG 2835 (.ref 0) (fx V I L R ++ tl))).bind fun v32 => ((am_vL (am_pG 778 (.ref (269 + a)) (fx V I L R ++ tl))).bind fun v34 => ((am_pP 2048 v32 (.long v34) (fx V I L R ++ tl)).bind fun h36 => ((am_vR (am_pG 2823 (.ref 0) h36)).bind fun v38 => ((am_vR (am_pG 2835 (.ref 0) h36)).bind fun v40 => ((am_vR (am_pG 2822 (.ref 0) h36)).bind fun v42 => (if am_pOk 0 v38 h36 then am_cV true (fm_191 N v38 (.ref (269 + a')) v40 v42 h36) (fun h46 => (fg_259_150 N (.ref 0) (.ref (269 + a)) h46)) else none)))))))) = o → fm_259 N (.ref 0) (nI b) (fx V I L R ++ tl) = o := fun o k_ => by
    have t33 : fg_259_33 N (.ref 0) (.ref (269 + a)) (fx V I L R ++ tl) = o := by
      apply hd_259_33
      refine ev_b (rd4 V I L) (ev_i rfl ?_)
      rw [eq]
      exact ev_cR (c_63 b2 b1 hqn q4) rfl (ev_b (rd6 V I L) k_)
    apply hm_259
    apply hd_259_0
    refine ev_i rfl (ev_cR (c_63 b2 b1 hb t4) rfl (ev_b (rd3 V I L) ?_))
    rw [t78]
    rcases w34 with h | h
    · rw [h]; exact ev_t rfl t33
    · rw [h]
      refine ev_f (by decide) (ev_b (rd3 V I L) ?_)
      rw [t78, h]
      exact ev_t rfl t33
  -- the reference up to the parent, loaded
  have r47 : ∀ (W2 : Nat → Nat → Value) (J2 : Nat → Nat → Int32) (M0 : Nat → Nat → Int64), keep V W2 I J2 → ∃ Wa Ja, dsE kd ln P Wa Ja ∧ keep V Wa I Ja ∧ Wa 174 0 = .int 0 ∧ ∀ o, (if ¬ nI w0 = 3 then (fg_532_98 N (.ref 174) (nI b) (nI w0) (fx Wa Ja M0 R ++ tl)) else ((am_vR (am_pG 3080 (.ref 174) (fx Wa Ja M0 R ++ tl))).bind fun v15 => ((am_pA 0 v15 (nI b) (fx Wa Ja M0 R ++ tl)).bind fun v17 => (if ¬ v17 = 4 then (fg_532_98 N (.ref 174) (nI b) (nI w0) (fx Wa Ja M0 R ++ tl)) else ((am_vR (am_pG 3082 (.ref 174) (fx Wa Ja M0 R ++ tl))).bind fun v20 => ((am_pAL v20 (nI b) (fx Wa Ja M0 R ++ tl)).bind fun v22 => (if am_pOk 12 (.ref 174) (fx Wa Ja M0 R ++ tl) then am_cV true (fm_472 N (.ref 174) 4 v22 (fx Wa Ja M0 R ++ tl)) (fun h26 => (fg_532_160 N (.ref 174) (nI b) h26)) else none))))))) = o → fm_532 N (.ref 174) (nI b) (fx W2 J2 M0 R ++ tl) = o := fun W2 J2 M0 k2 => by
    have iR := k2.2.1
    have x1 : W2 174 1 = .int (nI n) := (k2.1 174 1 (by decide)).trans b3
    obtain ⟨Wa, Ja, e1, f3, g20, g19, gds, gsp⟩ := ld_E (V := vup W2 174 0 (.int 0)) (I := J2) (L := M0) (R := R) (tl := tl) (N := N) (by omega) (by omega) hg ((congrFun (iR 175 (by decide)) q).trans q1) ((congrFun (iR 176 (by decide)) q).trans q2) ((congrFun (iR 177 (by decide)) q).trans q3) (by rw [iR 184 (by decide), iR 185 (by decide)]; exact q6)
    refine ⟨Wa, Ja, ⟨g20, g19, gds, gsp⟩, keep_t k2 (keep_t keep_0 (keep_39 f3)), (f3.1 174 0 (by decide)).trans vup_eq, fun o k_ => ?_⟩
    have t47 : fg_532_47 N (.ref 174) (nI b) (nI w0) (.ref 174) 0 (fx W2 J2 M0 R ++ tl) = o := by
      apply hd_532_47
      refine ev_b qp_174_0 (ev_b (a := 0) rfl (ev_t (by decide) (ev_b (rdR rfl) (ev_b ((qa_179 (by omega)).trans (congrArg some ((congrFun (iR 179 (by decide)) b).trans eq))) (ev_i rfl (ev_cV e1 k_))))))
    apply hm_532
    apply hd_532_0
    refine ev_i rfl (ev_cI (r_358 x1 b1 hb) (ev_f (by decide) (ev_b (rdR rfl) (ev_b ((qa_178 (by omega)).trans (congrArg some ((congrFun (iR 178 (by decide)) b).trans t78))) ?_))))
    apply hd_532_18
    refine ev_i rfl (ev_cI (r_358 x1 b1 hb) (ev_t (by decide) ?_))
    rcases w34 with h | h
    · rw [h] at t47 ⊢
      exact ev_t rfl (hd_532_46 t47)
    · rw [h] at t47 ⊢
      exact ev_f (by decide) (ev_t rfl (hd_532_46 t47))
  have lz : ∀ M0 : Nat → Nat → Int64, (∀ y, y ≠ 268 → M0 y = L y) → ∀ y, y ∈ lRel → M0 y = L y := fun M0 h y hy => h y (by
    have key : ∀ y, y ∈ lRel → y ≠ 268 := by decide
    exact key y hy)
  -- regrowth
  by_cases c4 : w0 = 3 ∧ I 181 b = nI 4
  · obtain ⟨c3, c4⟩ := c4
    subst c3
    obtain ⟨q', hq', e1', e2'⟩ := gn.1 t78 c4
    have eqq : q' = q := (nI_eq (by omega) (by omega)).mp (e1'.symm.trans eq)
    subst eqq
    have z0 : kd = 0 := (nI_eq (b := 0) (by omega) (by omega)).mp (q1.symm.trans e2')
    subst z0
    obtain ⟨rfl, ho, et⟩ := hg.2.2.1 rfl
    have p1 := gdL_1 hg (by decide)
    obtain ⟨sd, esd⟩ : ∃ sd, sd = L 183 b := ⟨_, rfl⟩
    obtain ⟨T, eT⟩ : ∃ T, T = uTx P := ⟨_, rfl⟩
    rw [← eT] at ho et
    have lT : T.length = P.length := by rw [eT]; exact uTx_len
    have pT : 1 ≤ T.length := by omega
    have hgT : gdP 0 0 (tI T) := by rw [et]; exact hg
    obtain ⟨k, ek⟩ : ∃ k, k = hlf (nxt sd) % T.length := ⟨_, rfl⟩
    have hk : k < T.length := by rw [ek]; exact Nat.mod_lt _ (by omega)
    obtain ⟨tr, etr⟩ : ∃ tr, tr = truN (xS T k) := ⟨_, rfl⟩
    obtain ⟨fl, efl⟩ : ∃ fl, fl = inL (sl T) k := ⟨_, rfl⟩
    have tr1 : tr ≤ 1 := by rw [etr]; unfold truN; split <;> omega
    have fl1 : fl ≤ 1 := by rw [efl]; exact in_le1 _ _
    obtain ⟨c, ec⟩ : ∃ c, c = 2 * fl + tr := ⟨_, rfl⟩
    obtain ⟨n0, en⟩ : ∃ n0, n0 = 1 + hlf (nxt (nxt sd)) % 4 := ⟨_, rfl⟩
    have n0b := Nat.mod_lt (hlf (nxt (nxt sd))) (show 0 < 4 by decide)
    have hz := nz_ex (c := c) (n0 := n0) (by omega) (by omega) (by omega)
    obtain ⟨m, em⟩ : ∃ m, m = nzF c n0 := ⟨_, rfl⟩
    rw [← em] at hz
    have n1 : 1 ≤ m := by have := hz.1; omega
    obtain ⟨r, er⟩ : ∃ r, r = (2147483648 * hlf (nxt (nxt (nxt sd))) + hlf (nxt (nxt (nxt (nxt sd))))) % uT c m := ⟨_, rfl⟩
    have hrr : r < uT c m := by rw [er]; exact Nat.mod_lt _ (Nat.pos_of_ne_zero hz.2.2.1)
    obtain ⟨r1, r2, r3⟩ := hr.2.2.2.2.2.2.2.2.2.2.1
    obtain ⟨V1, ev1⟩ : ∃ X, X = vup V 173 0 (.long sd) := ⟨_, rfl⟩
    have kv : keep V V1 I I := by rw [ev1]; exact keep_lg (by decide) (by decide)
    have sT : srcP V1 I tl (269 + a') (269 + it') 0 0 T := srcE_P (by omega) (by omega) (by rw [lT]; exact hg.2.1) (by rw [et]; exact q5 V1 I)
    obtain ⟨W2, J2, e1, h90, k1⟩ := s191 (V := V1) (I := I) (L := L) (R := R) (tl := tl) (N := N) (A := 269 + a') (it := 269 + it') (P := T) (by omega) (kv.2.2 hwt) sT (by omega) (by omega) ho hgT r1 r2 (by rw [ev1]; exact vup_eq) pT ek etr efl ec en hz er
    obtain ⟨X, eX⟩ : ∃ X, X = (if sndB 0 (tI (T.take k ++ (unX c m r ++ T.drop (xE T k)))) = true then tI (T.take k ++ (unX c m r ++ T.drop (xE T k))) else tI T) := ⟨_, rfl⟩
    rw [← eX] at h90
    have gX : gdP 0 0 X := by
      rw [eX]
      by_cases z : sndB 0 (tI (T.take k ++ (unX c m r ++ T.drop (xE T k)))) = true
      · rw [if_pos z]
        exact rg_gd hgT ho hk n1 hz.2.1 (by omega) hrr (tr := tr) (fl := fl) (by omega) (by omega) z
      · rw [if_neg z]
        exact hgT
    have k2 := keep_t kv k1
    have h8 : rel (vup V 174 80 (.int 1)) I (lup (lup L 224 tC) 225 tS) R tl n p := rel_80 (fun a j h => vup_o h) (fun y h1 h2 _ => by rw [lup_na h2, lup_na h1]) (.inr ⟨vup_eq, rfl, rfl⟩) (wt_i hwt (by decide)) hr
    refine fin_45 (V0 := vup V 174 80 (.int 1)) (L0 := lup (lup L 224 tC) 225 tS) (X := X) (W2 := W2) (J2 := J2) hr h8 hm hN hb t4 gX k2 (c33 _ (ev_f (fun u => u c4) (ev_b (rdR rfl) (ev_b (rd8 V I L) (ev_b (a := fx V1 I L R ++ tl) (by rw [ev1, esd]; exact qp_173_0) (ev_b (rdR rfl) (ev_b (rdR rfl) (ev_b (rdR rfl) (ev_i rfl (ev_cV e1 rfl)))))))))) h90 (fun M0 hM0 => ?_)
    obtain ⟨Wa, Ja, hd1, ka, a0, go⟩ := r47 W2 J2 M0 k2
    obtain ⟨Wb, eb⟩ : ∃ X, X = vup (vup Wa 174 96 (.long sd)) 174 97 (.int (-1)) := ⟨_, rfl⟩
    have vb : ∀ a' j', ¬ (a' = 174 ∧ (j' = 96 ∨ j' = 97)) → Wb a' j' = Wa a' j' := fun a' j' h => by rw [eb, vup_o (fun u => h ⟨u.1, .inr u.2⟩), vup_o (fun u => h ⟨u.1, .inl u.2⟩)]
    have wb : wt Wb := by rw [eb]; exact wt_i (wt_lg (ka.2.2 hwt) (by decide)) (by decide)
    have hA : rA Wb Ja 0 T := ⟨(vb 174 20 (by decide)).trans hd1.1, (vb 174 19 (by decide)).trans hd1.2.1, ⟨(vb 174 18 (by decide)).trans (by rw [et]; exact hd1.2.2.1.1), by rw [et]; exact hd1.2.2.1.2⟩, fun k hk => by rw [eT]; exact hd1.2.2.2 rfl k (by rw [← lT]; exact hk), by rw [lT]; exact hg.2.1⟩
    have e80 : Wb 174 80 = V 174 80 := (vb 174 80 (by decide)).trans (ka.1 174 80 (by decide))
    have iv : rInv Wb M0 := rInv_v e80 (by
      rcases r3 with ⟨h1, h2, h3⟩ | ⟨h1, h2, h3⟩
      · exact .inl ⟨h1, (hM0 224 (by decide)).trans h2, (hM0 225 (by decide)).trans h3⟩
      · exact .inr ⟨h1, (hM0 224 (by decide)).trans h2, (hM0 225 (by decide)).trans h3⟩)
    obtain ⟨W, J, M, e4, d4, d13, d15, fv, fj, fm, w80, m4, m5, ww⟩ := r_473 (V := Wb) (I := Ja) (L := M0) (R := R) (tl := tl) (N := N) (P := T) (nt := 0) hN wb hA ho iv (by rw [eb]; exact (vup_nj (by decide)).trans vup_eq) pT ek etr efl ec en hz er
    rw [← eX] at d4
    refine ⟨W, J, M, go _ ?_, ⟨fun a' j' hj => ?_, fun y hy => ?_, fun _ => ww⟩, d4, d13, d15, (fv 174 0 (by decide)).trans ((vb 174 0 (by decide)).trans a0), fun y hy => ?_, fm 268 (by decide) (by decide) (by decide) (by decide)⟩
    · have s472 : fm_472 N (.ref 174) 4 sd (fx Wa Ja M0 R ++ tl) = some (.inl (none, fx W J M R ++ tl)) := by
        apply hm_472
        apply hd_472_0
        exact ev_b qp_174_96 (ev_b (a := fx Wb Ja M0 R ++ tl) (by rw [eb]; exact qp_174_97) (ev_f (fun u => u rfl) (ev_i rfl (ev_cV e4 rfl))))
      exact ev_f (fun u => u rfl) (ev_b (rdR rfl) (ev_b ((qa_181 (by omega)).trans (congrArg some ((congrFun (ka.2.1 181 (by decide)) b).trans c4))) (ev_f (fun u => u rfl) (ev_b (rdR rfl) (ev_b (a := sd) ((qa_183 (by omega)).trans (by rw [hM0 183 (by decide), esd])) (ev_i rfl (ev_cV s472 rfl)))))))
    · by_cases z : a' = 174 ∧ j' = 80
      · obtain ⟨z1, z2⟩ := z
        subst z1
        subst z2
        rw [w80]
        exact vup_eq.symm
      · have nr : a' = 174 → j' ≠ 13 ∧ j' ≠ 14 ∧ j' ≠ 15 ∧ j' ≠ 88 ∧ j' ≠ 96 ∧ j' ≠ 97 := fun e => by
          subst e
          have key : ∀ j, j ∈ vRel 174 → j ≠ 13 ∧ j ≠ 14 ∧ j ≠ 15 ∧ j ≠ 88 ∧ j ≠ 96 ∧ j ≠ 97 := by decide
          exact key j' hj
        rw [fv a' j' (fun u => by have := nr u.1; have := fun h => z ⟨u.1, h⟩; omega), vb a' j' (fun u => by have := nr u.1; omega), ka.1 a' j' hj, vup_o z]
    · have key : ∀ y, y ∈ iRel → ¬ y ∈ [186, 187, 194, 195, 196, 211, 227, 228, 229] := by decide
      rw [fj y (key y hy)]
      exact ka.2.1 y hy
    · have key : ∀ y, y ∈ lRel → y ≠ 226 ∧ y ≠ 230 := by decide
      by_cases z1 : y = 224
      · subst z1
        rw [m4, lup_na (by decide), lup_eq]
      · by_cases z2 : y = 225
        · subst z2
          rw [m5, lup_eq]
        · rw [fm y z1 z2 (key y hy).1 (key y hy).2, lup_na z2, lup_na z1]
          exact lz M0 hM0 y hy
  -- how isn't 4
  have how4 : ¬ I 181 b = 4 := fun u => by
    rcases w34 with h | h
    · exact c4 ⟨h, u⟩
    · rw [(g4 h).2] at u
      exact absurd u (by decide)
  have go98 : ∀ (Wa : Nat → Nat → Value) (Ja : Nat → Nat → Int32) (M0 : Nat → Nat → Int64) o, keep V Wa I Ja → fg_532_98 N (.ref 174) (nI b) (nI w0) (fx Wa Ja M0 R ++ tl) = o → (if ¬ nI w0 = 3 then (fg_532_98 N (.ref 174) (nI b) (nI w0) (fx Wa Ja M0 R ++ tl)) else ((am_vR (am_pG 3080 (.ref 174) (fx Wa Ja M0 R ++ tl))).bind fun v15 => ((am_pA 0 v15 (nI b) (fx Wa Ja M0 R ++ tl)).bind fun v17 => (if ¬ v17 = 4 then (fg_532_98 N (.ref 174) (nI b) (nI w0) (fx Wa Ja M0 R ++ tl)) else ((am_vR (am_pG 3082 (.ref 174) (fx Wa Ja M0 R ++ tl))).bind fun v20 => ((am_pAL v20 (nI b) (fx Wa Ja M0 R ++ tl)).bind fun v22 => (if am_pOk 12 (.ref 174) (fx Wa Ja M0 R ++ tl) then am_cV true (fm_472 N (.ref 174) 4 v22 (fx Wa Ja M0 R ++ tl)) (fun h26 => (fg_532_160 N (.ref 174) (nI b) h26)) else none))))))) = o := fun Wa Ja M0 o ka k_ => by
    by_cases c3 : nI w0 = 3
    · exact ev_f (fun u => u c3) (ev_b (rdR rfl) (ev_b ((qa_181 (by omega)).trans (congrArg some (congrFun (ka.2.1 181 (by decide)) b))) (ev_t how4 k_)))
    · exact ev_t c3 k_
  rcases hnb with hnb | ⟨y, hy, hnb⟩
  · -- the parent again
    obtain ⟨W3, J3, e3, d3, f3⟩ := p60E_90 (V := V) (I := I) (L := L) (R := R) (tl := tl) (by omega) hg (q5 V I)
    have k3' : keep V W3 I J3 := keep_Cg (frM_Cg (frM_9 f3))
    refine fin_45 (V0 := V) (L0 := L) (X := P) (W2 := W3) (J2 := J3) hr hr hm hN hb t4 hg k3' (c33 _ (ev_t how4 (ev_b (rd7 V I L) ?_))) d3 (fun M0 hM0 => ?_)
    · rw [hnb]
      exact ev_f (by decide) (ev_b (rdR rfl) (ev_b (rdR rfl) (ev_i rfl (ev_cV e3 rfl))))
    · obtain ⟨Wa, Ja, hd1, ka, a0, go⟩ := r47 W3 J3 M0 k3'
      obtain ⟨W6, J6, t6', x1, x2, x3, f6⟩ := s442 (V := Wa) (I := Ja) (L := M0) (R := R) (tl := tl) (N := N) (by omega) hd1.1 hd1.2.1 hd1.2.2.1 (by have := hg.2.1; omega)
      refine ⟨W6, J6, M0, go _ (go98 Wa Ja M0 _ ka ?_), keep_t ka (keep_Ed f6), x1, x2, x3, (f6.1 174 0 (by decide)).trans a0, lz M0 hM0, rfl⟩
      apply hd_532_98
      exact ev_b (rdR rfl) (ev_b ((qa_182 (by omega)).trans (congrArg some ((congrFun (ka.2.1 182 (by decide)) b).trans hnb))) (ev_f (by decide) (ev_i rfl (ev_cV t6' rfl))))
  rcases w34 with h | h
  · -- a change by its number
    subst h
    obtain ⟨-, w, w5, hw⟩ := g5 rfl
    have w3 : w < 4 := by
      rcases (by omega : w < 4 ∨ w = 4) with z | z
      · exact z
      · rw [z] at hw
        exact absurd ⟨rfl, hw⟩ c4
    obtain ⟨q', kd', ln', sz', z1, z2, z3, z4, z40, z5, z6, z7, z8⟩ := gn.2.2.1 t78 w y w3 hy hw hnb
    have eqq : q' = q := (nI_eq (by omega) (by omega)).mp (z2.symm.trans eq)
    subst eqq
    have ekd : kd' = kd := (nI_eq (by omega) (by omega)).mp (z5.symm.trans q1)
    subst ekd
    have esz : sz' = P.length := (nI_eq (by omega) (by have := hg.2.1; omega)).mp (z6.symm.trans q2)
    subst esz
    have lb := gd_ln hg
    have eln : ln' = ln := (nI_eq (by omega) (by omega)).mp (z7.symm.trans q3)
    subst eln
    have ym : y < cnt (cdE kd' ln' P w) (ncE kd' ln' P.length w) 0 := by
      rw [← q7] at z8
      exact z8
    obtain ⟨W1, J1, nC, e1, s1, h9, hC, f1⟩ := beg_E (V := V) (I := I) (L := L) (R := R) (tl := tl) (N := N) (by omega) hg w3 hwt (q5 V I) (by omega) (by omega)
    have nb := ncE_b hg w3
    have k1 := keep_Cg f1
    obtain ⟨W2, J2, bb, e2, i2, d2, s2, f2⟩ := s187 (L := L) (R := R) (tl := tl) (N := N) (S := SE tl (269 + a') (269 + it') kd' ln' w P) (cd := cdE kd' ln' P w) nb hC (fun _ _ _ _ h f => SE_f h f) (fun V I h c hc => all_m (by omega) hg w3 h hc) hN (show y < 2 ^ 31 by omega) s1 h9
    have bt : bb = true := i2.mpr ym
    subst bt
    obtain ⟨d, X, dl, dq, dc, dh, d60⟩ := d2 rfl
    have gX := cdE_gd hg w3 dl dq
    have k2 : keep V W2 I J2 := keep_t k1 (keep_Cg (frM_Cg f2))
    have cm := cnt_m (cdE kd' ln' P w) (ncE kd' ln' P.length w) 0
    refine fin_45 (V0 := V) (L0 := L) (X := X) (W2 := W2) (J2 := J2) hr hr hm hN hb t4 gX k2 (c33 _ (ev_t how4 (ev_b (rd7 V I L) ?_))) dh (fun M0 hM0 => ?_)
    · rw [hnb]
      refine ev_t (nI_pos' (by omega)) (ev_b (rdR rfl) (ev_b (rd3 V I L) ?_))
      rw [t78]
      refine ev_t (by decide) ?_
      apply hd_259_126
      refine ev_b (rd6 V I L) ?_
      rw [hw]
      refine ev_i rfl (ev_cI e1 (ev_b (rdR rfl) (ev_b (rd7 W1 J1 L) ?_)))
      rw [hnb]
      exact ev_i rfl (ev_cI e2 (ev_t (by decide) rfl))
    · obtain ⟨Wa, Ja, hd1, ka, a0, go⟩ := r47 W2 J2 M0 k2
      obtain ⟨U7, K7, x7, t7', o7, hx7, hd7, kk7, kp7⟩ := rE_439k (V := Wa) (I := Ja) (L := M0) (R := R) (tl := tl) (N := N) (so := nI y) (by omega) hg w3 hd1 (ka.2.2 hwt)
      have kp7' : ∀ j', j' ≠ 13 → j' ≠ 14 → j' ≠ 15 → j' ≠ 93 → j' ≠ 94 → j' ≠ 95 → U7 174 j' = Wa 174 j' := kp7
      rcases o7 with ⟨-, -, d', X', d1, d2', d3, d4', d5, d6⟩ | ⟨-, -, -, o4⟩
      case inr => exact absurd (o4 y (by omega) rfl) (by omega)
      have eyc := (nI_eq (by omega) (by have := cnt_m (cdE kd' ln' P w) d' 0; omega)).mp d3
      have ecd : d' = d := cnt_u (cd := cdE kd' ln' P w) (by rw [d2']; rfl) (by rw [dq]; rfl) (by omega)
      subst ecd
      have eX : X' = X := by rw [dq] at d2'; exact (Option.some.inj d2').symm
      subst eX
      refine ⟨U7, K7, M0, go _ (go98 Wa Ja M0 _ ka ?_), keep_t ka kk7, d4', d5, d6, (kp7' 0 (by decide) (by decide) (by decide) (by decide) (by decide) (by decide)).trans a0, lz M0 hM0, rfl⟩
      apply hd_532_98
      exact ev_b (rdR rfl) (ev_b ((qa_182 (by omega)).trans (congrArg some ((congrFun (ka.2.1 182 (by decide)) b).trans hnb))) (ev_t (nI_pos' (by omega)) (ev_f (fun u => u rfl) (ev_b (rdR rfl) (ev_b ((qa_181 (by omega)).trans (congrArg some ((congrFun (ka.2.1 181 (by decide)) b).trans hw))) (ev_b (rdR rfl) (ev_b ((qa_182 (by omega)).trans (congrArg some ((congrFun (ka.2.1 182 (by decide)) b).trans hnb))) (ev_i rfl (ev_cI t7' rfl)))))))))
  · -- a cross by its number
    subst h
    obtain ⟨g41, g42⟩ := g4 rfl
    obtain ⟨s, hs, es⟩ := hf2.resolve_left g41
    have hsn : s < n := by omega
    obtain ⟨kd2, ln2, Q, a2, it2, hgq, r1, r2, r3, r4, r5, r6, r7⟩ := bth_E hr hsn
    obtain ⟨q', s', kd', ln', ln2', sz', sz2', z1, z1', z2, z2', z3, z4, z4', z40, z41, z5, z5', z6, z7, z6', z7', z8⟩ := gn.2.2.2 t78 y hy hnb
    have eqq : q' = q := (nI_eq (by omega) (by omega)).mp (z2.symm.trans eq)
    subst eqq
    have ess : s' = s := (nI_eq (by omega) (by omega)).mp (z2'.symm.trans es)
    subst ess
    have ekd : kd' = kd := (nI_eq (by omega) (by omega)).mp (z5.symm.trans q1)
    subst ekd
    have ekd2 : kd2 = kd' := (nI_eq (by have := hgq.1; omega) (by omega)).mp (r1.symm.trans z5')
    subst ekd2
    have esz : sz' = P.length := (nI_eq (by omega) (by have := hg.2.1; omega)).mp (z6.symm.trans q2)
    subst esz
    have esz2 : sz2' = Q.length := (nI_eq (by omega) (by have := hgq.2.1; omega)).mp (z6'.symm.trans r2)
    subst esz2
    have lb := gd_ln hg
    have lb2 := gd_ln hgq
    have eln : ln' = ln := (nI_eq (by omega) (by omega)).mp (z7.symm.trans q3)
    subst eln
    have eln2 : ln2' = ln2 := (nI_eq (by omega) (by omega)).mp (z7'.symm.trans r3)
    subst eln2
    rw [← q7, ← r7] at z8
    have cm0 := cnt_m (cdP kd2 P Q) (ncP kd2 ln' ln2' P.length Q.length) 0
    have cmp_ : cmpt kd2 ln' kd2 ln2' P.length Q.length := by
      refine ⟨rfl, ?_, fun e => ?_⟩
      · by_cases e3 : kd2 = 3
        · refine Classical.byContradiction (fun u => ?_)
          have : ncP kd2 ln' ln2' P.length Q.length = 0 := by
            unfold ncP
            rw [if_neg (by omega), if_neg (by omega), if_pos ⟨e3, u⟩]
          omega
        · rw [lb.2 e3, lb2.2 e3]
      · refine Classical.byContradiction (fun u => ?_)
        have : ncP kd2 ln' ln2' P.length Q.length = 0 := by
          unfold ncP
          rw [if_neg (by omega), if_pos e, if_neg u]
        omega
    have ell := cmp_.2.1
    subst ell
    obtain ⟨W1, J1, nC, e1, h9, f1, cy, cn⟩ := beg_P (V := V) (I := I) (L := L) (R := R) (tl := tl) (N := N) (x3 := I 181 b) (by omega) hg hgq hwt (q5 V I) (r5 V I) (by omega) (by omega) (by omega) (by omega)
    obtain ⟨s1, enc⟩ := cy cmp_
    have nb := ncP_b hg hgq
    have k1 := keep_Cg f1
    obtain ⟨W2, J2, bb, e2, i2, d2, s2, f2⟩ := s187 (L := L) (R := R) (tl := tl) (N := N) (S := SP tl (269 + a') (269 + it') (269 + a2) (269 + it2) kd2 ln' P Q) (cd := cdP kd2 P Q) (n := ncP kd2 ln' ln' P.length Q.length) nb (.inl enc) (fun _ _ _ _ h f => SP_f h f) (fun V I h c hc => all_mP (by omega) hg hgq h hc) hN (show y < 2 ^ 31 by omega) s1 h9
    have bt : bb = true := i2.mpr z8
    subst bt
    obtain ⟨d, X, dl, dq, dc, dh, d60⟩ := d2 rfl
    have gX := cdP_gd hg hgq dl dq
    have k2 : keep V W2 I J2 := keep_t k1 (keep_Cg (frM_Cg f2))
    refine fin_45 (V0 := V) (L0 := L) (X := X) (W2 := W2) (J2 := J2) hr hr hm hN hb t4 gX k2 (c33 _ (ev_t how4 (ev_b (rd7 V I L) ?_))) dh (fun M0 hM0 => ?_)
    · rw [hnb]
      refine ev_t (nI_pos' (by omega)) (ev_b (rdR rfl) (ev_b (rd3 V I L) ?_))
      rw [t78]
      refine ev_f (fun u => u rfl) (ev_b (rd5 V I L) (ev_i rfl ?_))
      rw [es]
      refine ev_cR (c_63 b2 b1 hsn r4) rfl ?_
      apply hd_259_126
      refine ev_b (rd6 V I L) (ev_i rfl (ev_cI e1 (ev_b (rdR rfl) (ev_b (rd7 W1 J1 L) ?_))))
      rw [hnb]
      exact ev_i rfl (ev_cI e2 (ev_t (by decide) rfl))
    · obtain ⟨Wa, Ja, hd1, ka, a0, go⟩ := r47 W2 J2 M0 k2
      have iR := ka.2.1
      obtain ⟨W4, J4, t2', f4, ht⟩ := ld_B (V := Wa) (I := Ja) (L := M0) (R := R) (tl := tl) (N := N) (by omega) (by omega) hgq ((congrFun (iR 175 (by decide)) s').trans r1) ((congrFun (iR 176 (by decide)) s').trans r2) (by rw [iR 184 (by decide), iR 185 (by decide)]; exact r6)
      have k4 := keep_t ka (keep_48 f4)
      obtain ⟨U7, K7, x7, t7', o7, hx7, hd7, ht7, kk7, kp7⟩ := rP_481 (V := W4) (I := J4) (L := M0) (R := R) (tl := tl) (N := N) (so := nI y) (by omega) hg hgq (dsE_48 hd1 f4) ht (k4.2.2 hwt)
      have kp7' : ∀ j', j' ≠ 13 → j' ≠ 14 → j' ≠ 15 → j' ≠ 93 → j' ≠ 94 → j' ≠ 95 → U7 174 j' = W4 174 j' := kp7
      rcases o7 with ⟨-, -, d', X', d1, d2', d3, d4', d5, d6⟩ | ⟨-, -, -, o4⟩
      case inr => exact absurd (o4 y (by omega) rfl) (by omega)
      have eyc := (nI_eq (by omega) (by have := cnt_m (cdP kd2 P Q) d' 0; omega)).mp d3
      have ecd : d' = d := cnt_u (cd := cdP kd2 P Q) (by rw [d2']; rfl) (by rw [dq]; rfl) (by omega)
      subst ecd
      have eX : X' = X := by rw [dq] at d2'; exact (Option.some.inj d2').symm
      subst eX
      refine ⟨U7, K7, M0, go _ (go98 Wa Ja M0 _ ka ?_), keep_t k4 kk7, d4', d5, d6, (kp7' 0 (by decide) (by decide) (by decide) (by decide) (by decide) (by decide)).trans ((f4.1 174 0 (by decide)).trans a0), lz M0 hM0, rfl⟩
      apply hd_532_98
      exact ev_b (rdR rfl) (ev_b ((qa_182 (by omega)).trans (congrArg some ((congrFun (ka.2.1 182 (by decide)) b).trans hnb))) (ev_t (nI_pos' (by omega)) (ev_t (by decide) (ev_b (rdR rfl) (ev_b ((qa_180 (by omega)).trans (congrArg some ((congrFun (ka.2.1 180 (by decide)) b).trans es))) (ev_i rfl (ev_cV t2' (ev_b (rdR rfl) (ev_b ((qa_182 (by omega)).trans (congrArg some ((congrFun (k4.2.1 182 (by decide)) b).trans hnb))) (ev_i rfl (ev_cI t7' rfl)))))))))))
