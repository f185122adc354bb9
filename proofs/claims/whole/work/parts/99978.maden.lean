/-! ===== edits: candidates in the class: nets, swapped, put and more ===== -/
theorem hd_182_178 {N : Nat} {s0 : Int32} {h : am_H} {r_ : Option am_O} (k_ : (if am_rfit (some FieldType.boolean) s0 then some (.inl (some (.int s0), h)) else none) = r_) : fg_182_178 N s0 h = r_ := k_
theorem hd_182_177 {N : Nat} {h : am_H} {r_ : Option am_O} (k_ : (fg_182_178 N 0 h) = r_) : fg_182_177 N h = r_ := k_
theorem hd_182_104 {N : Nat} {x0 : Value} {x1 : Int32} {x3 : Int32} {x5 : Int32} {x6 : Int32} {h : am_H} {r_ : Option am_O} (k_ : ((am_vR (am_pG 0 x0 h)).bind fun v1 => ((am_vR (am_pG 5 x0 h)).bind fun v3 => ((am_vI (am_pG 770 v3 h)).bind fun v5 => (if am_pOk 3 v1 h then am_cV true (fm_34 v1 3 v5 h) (fun h9 => ((am_vR (am_pG 0 x0 h9)).bind fun v11 => ((am_vR (am_pG 5 x0 h9)).bind fun v13 => (if am_pOk 3 v11 h9 then am_cI true (fm_170 v11 v13 0 x1 h9) (fun v16 h17 => (if v16 = 0 then (fg_182_177 N h17) else ((am_vR (am_pG 0 x0 h17)).bind fun v20 => (if am_pOk 3 v20 h17 then am_cI true (fm_41 N v20 x5 x6 h17) (fun v23 h24 => (if v23 = 0 then (fg_182_177 N h24) else ((am_vR (am_pG 0 x0 h24)).bind fun v27 => ((am_vR (am_pG 5 x0 h24)).bind fun v29 => ((am_vR (am_pG 5 x0 h24)).bind fun v31 => ((am_vI (am_pG 771 v31 h24)).bind fun v33 => (if am_pOk 3 v27 h24 then am_cI true (fm_170 v27 v29 ((x1 + x3)) v33 h24) (fun v36 h37 => (if v36 = 0 then (fg_182_177 N h37) else (fg_182_178 N 1 h37))) else none))))))) else none)))) else none)))) else none)))) = r_) : fg_182_104 N x0 x1 x3 x5 x6 h = r_ := k_
theorem hd_182_60 {N : Nat} {x0 : Value} {x1 : Int32} {x3 : Int32} {x4 : Int32} {x5 : Int32} {h : am_H} {r_ : Option am_O} (k_ : (if ¬ x3 = 1 then (fg_182_104 N x0 x1 x3 x5 (((x5 + 1) + x4)) h) else ((am_vR (am_pG 5 x0 h)).bind fun v2 => (if am_pOk 3 v2 h then am_cI true (fm_54 v2 x1 0 h) (fun v5 h6 => (if ¬ v5 = x5 then (fg_182_104 N x0 x1 x3 x5 (((x5 + 1) + x4)) h6) else ((am_vR (am_pG 5 x0 h6)).bind fun v9 => (if am_pOk 3 v9 h6 then am_cI true (fm_54 v9 x1 1 h6) (fun v12 h13 => (if ¬ v12 = ((x5 + 1) + x4) then (fg_182_104 N x0 x1 x3 x5 (((x5 + 1) + x4)) h13) else some (.inl (some (.int 0), h13)))) else none)))) else none))) = r_) : fg_182_60 N x0 x1 x3 x4 x5 h = r_ := k_
theorem hd_182_6 {N : Nat} {K : Nat} {x0 : Value} {x1 : Int32} {x3 : Int32} {x4 : Int32} {x5 : Int32} {h : am_H} {r_ : Option am_O} (k_ : ((am_vR (am_pG 5 x0 h)).bind fun v1 => ((am_vI (am_pG 770 v1 h)).bind fun v3 => (if (v3 - 1) ≤ x5 then (fg_182_60 N x0 x1 x3 x4 x5 h) else ((am_vR (am_pG 5 x0 h)).bind fun v6 => ((am_vI (am_pG 770 v6 h)).bind fun v8 => (if x4 < ((v8 - 1) - x5) then (fg_182_60 N x0 x1 x3 x4 x5 h) else ((am_vR (am_pG 5 x0 h)).bind fun v11 => ((am_vI (am_pG 770 v11 h)).bind fun v13 => (fg_182_6 N K x0 x1 x3 ((x4 - ((v13 - 1) - x5))) ((x5 + 1)) h))))))))) = r_) : fg_182_6 N (K + 1) x0 x1 x3 x4 x5 h = r_ := by rw [fg_182_6]; exact k_
theorem hd_182_0 {N : Nat} {x0 : Value} {x1 : Int32} {x2 : Int32} {x3 : Int32} {h : am_H} {r_ : Option am_O} (k_ : (fg_182_6 N N x0 x1 x3 x2 0 h) = r_) : fg_182_0 N x0 x1 x2 x3 h = r_ := k_
theorem hm_182 {N : Nat} {y0 : Value} {y1 : Int32} {y2 : Int32} {y3 : Int32} {h : am_H} {r_ : Option am_O} (k_ : fg_182_0 N y0 y1 y2 y3 h = r_) : fm_182 N y0 y1 y2 y3 h = r_ := k_
theorem hd_184_146 {s0 : Int32} {h : am_H} {r_ : Option am_O} (k_ : (if am_rfit (some FieldType.boolean) s0 then some (.inl (some (.int s0), h)) else none) = r_) : fg_184_146 s0 h = r_ := k_
theorem hd_184_145 {h : am_H} {r_ : Option am_O} (k_ : (fg_184_146 0 h) = r_) : fg_184_145 h = r_ := k_
theorem hd_184_48 {x0 : Value} {x1 : Int32} {h : am_H} {r_ : Option am_O} (k_ : ((am_vR (am_pG 0 x0 h)).bind fun v1 => ((am_vR (am_pG 5 x0 h)).bind fun v3 => ((am_vI (am_pG 770 v3 h)).bind fun v5 => (if am_pOk 3 v1 h then am_cV true (fm_34 v1 3 v5 h) (fun h9 => ((am_vR (am_pG 0 x0 h9)).bind fun v11 => ((am_vR (am_pG 5 x0 h9)).bind fun v13 => (if am_pOk 3 v11 h9 then am_cI true (fm_170 v11 v13 0 x1 h9) (fun v16 h17 => (if v16 = 0 then (fg_184_145 h17) else ((am_vR (am_pG 0 x0 h17)).bind fun v20 => ((am_vR (am_pG 5 x0 h17)).bind fun v22 => (if am_pOk 3 v20 h17 then am_cI true (fm_170 v20 v22 ((x1 + 1)) ((x1 + 2)) h17) (fun v25 h26 => (if v25 = 0 then (fg_184_145 h26) else ((am_vR (am_pG 0 x0 h26)).bind fun v29 => ((am_vR (am_pG 5 x0 h26)).bind fun v31 => (if am_pOk 3 v29 h26 then am_cI true (fm_170 v29 v31 x1 ((x1 + 1)) h26) (fun v34 h35 => (if v34 = 0 then (fg_184_145 h35) else ((am_vR (am_pG 0 x0 h35)).bind fun v38 => ((am_vR (am_pG 5 x0 h35)).bind fun v40 => ((am_vR (am_pG 5 x0 h35)).bind fun v42 => ((am_vI (am_pG 771 v42 h35)).bind fun v44 => (if am_pOk 3 v38 h35 then am_cI true (fm_170 v38 v40 ((x1 + 2)) v44 h35) (fun v47 h48 => (if v47 = 0 then (fg_184_145 h48) else (fg_184_146 1 h48))) else none))))))) else none))))) else none))))) else none)))) else none)))) = r_) : fg_184_48 x0 x1 h = r_ := k_
theorem hd_184_0 {x0 : Value} {x1 : Int32} {h : am_H} {r_ : Option am_O} (k_ : ((am_vR (am_pG 5 x0 h)).bind fun v1 => (if am_pOk 3 v1 h then am_cI true (fm_54 v1 x1 0 h) (fun v4 h5 => ((am_vR (am_pG 5 x0 h5)).bind fun v7 => (if am_pOk 3 v7 h5 then am_cI true (fm_54 v7 ((x1 + 1)) 0 h5) (fun v10 h11 => (if ¬ v4 = v10 then (fg_184_48 x0 x1 h11) else ((am_vR (am_pG 5 x0 h11)).bind fun v14 => (if am_pOk 3 v14 h11 then am_cI true (fm_54 v14 x1 1 h11) (fun v17 h18 => ((am_vR (am_pG 5 x0 h18)).bind fun v20 => (if am_pOk 3 v20 h18 then am_cI true (fm_54 v20 ((x1 + 1)) 1 h18) (fun v23 h24 => (if ¬ v17 = v23 then (fg_184_48 x0 x1 h24) else some (.inl (some (.int 0), h24)))) else none))) else none)))) else none))) else none)) = r_) : fg_184_0 x0 x1 h = r_ := k_
theorem hm_184 {y0 : Value} {y1 : Int32} {h : am_H} {r_ : Option am_O} (k_ : fg_184_0 y0 y1 h = r_) : fm_184 y0 y1 h = r_ := k_
theorem seg_e {P : xT} {i : Nat} : seg P i i = [] := by unfold seg; rw [Nat.sub_self]; rfl
theorem seg_one {P : xT} {i : Nat} (h : i < P.length) : seg P i (i + 1) = [(xS P i, xV P i)] := by rw [seg_c (Nat.lt_succ_self i) h, seg_e]
set_option maxRecDepth 100000 in
set_option maxHeartbeats 4000000 in
theorem m_18 {V : Nat → Nat → Value} {I : Nat → Nat → Int32} {L : Nat → Nat → Int64} {R : Nat → Nat → Option Nat} {tl : am_H} {N A it ln ac c : Nat} {P : xT} (hx : cxC V I tl A it 3 ln 18 ac P) (hc : c + 1 < P.length) : ∃ W J b, fm_163 N (.ref 89) (nI c) (fx V I L R ++ tl) = some (.inl (some (.int (bI b)), fx W J L R ++ tl)) ∧ outM W J 3 ln (cd33 (tI P) c) b ∧ frM V W I J := by
  obtain ⟨h5, h7, h8, h1, h2, hs, hA, hi⟩ := hx
  obtain ⟨o1, o2, -, o4, o5⟩ := src_ok (L := L) (R := R) hs
  have rb : ∀ (W : Nat → Nat → Value) (J : Nat → Nat → Int32), fr1 90 V W I J → am_vR (am_pG 5 (.ref 89) (fx W J L R ++ tl)) = some (.ref A) := fun W J f => rVR qv_89_5 ((f.1 89 5 (by decide)).trans h5)
  have g0 := src_get (L := L) (R := R) hs (k := c) (by omega)
  have g1 := src_get (L := L) (R := R) hs (k := c + 1) hc
  rw [← nI_1] at g1
  have ecd : cd33 (tI P) c = if (nI (xS P c), xV P c) = (nI (xS P (c + 1)), xV P (c + 1)) then none else some ((tI P).take c ++ ((nI (xS P (c + 1)), xV P (c + 1)) :: (nI (xS P c), xV P c) :: (tI P).drop (c + 2))) := by
    unfold cd33
    rw [(srt_tI (Q := P) (k := c) (by omega)).1, (srt_tI (Q := P) (k := c) (by omega)).2, (srt_tI hc).1, (srt_tI hc).2]
  have st0 : ∀ (W : Nat → Nat → Value) (J : Nat → Nat → Int32) (b : Bool), fm_184 (.ref 89) (nI c) (fx V I L R ++ tl) = some (.inl (some (.int (bI b)), fx W J L R ++ tl)) → fm_163 N (.ref 89) (nI c) (fx V I L R ++ tl) = some (.inl (some (.int (bI b)), fx W J L R ++ tl)) := fun W J b e => by
    apply hm_163
    apply hd_163_0
    exact ev_b (rdI h8) (ev_t (nI_le (a := 1) h1 (by omega)) (ev_b (rdI h7) (ev_f (by decide) (ev_f (by decide) (ev_f (by decide) (ev_f (by decide) (ev_f (by decide) (ev_f (by decide) (ev_f (by decide) (ev_f (by decide) (ev_f (by decide) (ev_f (by decide) (ev_f (by decide) (ev_f (by decide) (ev_f (by decide) (ev_f (by decide) (ev_f (by decide) (ev_f (by decide) (ev_f (by decide) (ev_f (by decide) (ev_t rfl (ev_i rfl (ev_cI e (ev_i (bI_fit b) rfl))))))))))))))))))))))))
  by_cases q : (nI (xS P c), xV P c) = (nI (xS P (c + 1)), xV P (c + 1))
  · refine ⟨V, I, false, st0 V I false ?_, out_n (by rw [ecd, if_pos q]), frM_r⟩
    apply hm_184
    apply hd_184_0
    exact ev_b (rb V I fr1_r) (ev_i o1 (ev_cI g0.1 (ev_b (rb V I fr1_r) (ev_i o1 (ev_cI g1.1 (ev_f (fun e => e (Prod.mk.inj q).1) (ev_b (rb V I fr1_r) (ev_i o1 (ev_cI g0.2 (ev_b (rb V I fr1_r) (ev_i o1 (ev_cI g1.2 (ev_f (fun e => e (Prod.mk.inj q).2) rfl)))))))))))))
  rw [if_neg q] at ecd
  obtain ⟨W1, J1, e1, d1, f1⟩ := s34_90 (V := V) (I := I) (L := L) (R := R) (tl := tl) (kd := 3) (ln := ln) 3 (nI ln) rfl rfl (by omega) (by omega)
  have s1 := srcP_f f1 (by omega) (by omega) hs
  obtain ⟨W2, J2, e2, d2, f2⟩ := s170_90 (L := L) (R := R) (tl := tl) (i := 0) (j := c) s1 d1 (by omega) (by omega) (by show 0 + _ ≤ 60; omega) 0 (nI c) rfl rfl
  have l2 : ([] ++ seg P 0 c).length = c := by rw [List.nil_append, seg_0, List.length_take]; omega
  have f12 := fr1_t f1 f2
  have s2 := srcP_f f12 (by omega) (by omega) hs
  obtain ⟨W3, J3, e3, d3, f3⟩ := s170_90 (L := L) (R := R) (tl := tl) (i := c + 1) (j := c + 2) s2 d2 (by omega) (by omega) (by rw [l2]; omega) (nI c + 1) (nI c + 2) (nI_1 c) (nI_add c 2)
  rw [seg_one (i := c + 1) hc] at d3
  have l3 : (([] ++ seg P 0 c) ++ [(xS P (c + 1), xV P (c + 1))]).length = c + 1 := by rw [List.length_append, l2]; rfl
  have f13 := fr1_t f12 f3
  have s3 := srcP_f f13 (by omega) (by omega) hs
  obtain ⟨W4, J4, e4, d4, f4⟩ := s170_90 (L := L) (R := R) (tl := tl) (i := c) (j := c + 1) s3 d3 (by omega) (by omega) (by rw [l3]; omega) (nI c) (nI c + 1) rfl (nI_1 c)
  rw [seg_one (i := c) (by omega)] at d4
  have l4 : ((([] ++ seg P 0 c) ++ [(xS P (c + 1), xV P (c + 1))]) ++ [(xS P c, xV P c)]).length = c + 2 := by rw [List.length_append, l3]; rfl
  have f14 := fr1_t f13 f4
  have s4 := srcP_f f14 (by omega) (by omega) hs
  have o2' := (src_ok (L := L) (R := R) s4).2.1
  obtain ⟨W5, J5, e5, d5, f5⟩ := s170_90 (L := L) (R := R) (tl := tl) (i := c + 2) (j := P.length) s4 d4 (by omega) (by omega) (by rw [l4]; omega) (nI c + 2) (nI P.length) (nI_add c 2) rfl
  rw [List.nil_append, seg_0, seg_nn] at d5
  refine ⟨W5, J5, true, st0 W5 J5 true ?_, out_y (Q := ((P.take c ++ [(xS P (c + 1), xV P (c + 1))]) ++ [(xS P c, xV P c)]) ++ P.drop (c + 2)) (by rw [ecd, tI_app, tI_app, tI_app, tI_take, tI_drop, List.append_assoc, List.append_assoc]; rfl) d5 (by rw [List.length_append, List.length_append, List.length_append, List.length_take, List.length_drop]; simp only [List.length_cons, List.length_nil]; omega), frM_9 (fr1_t f14 f5)⟩
  have tail : fg_184_48 (.ref 89) (nI c) (fx V I L R ++ tl) = some (.inl (some (.int (bI true)), fx W5 J5 L R ++ tl)) := by
    apply hd_184_48
    refine ev_b (rdR rfl) (ev_b (rb V I fr1_r) (ev_b o4 (ev_i rfl (ev_cV e1 (ev_b (rdR rfl) (ev_b (rb W1 J1 f1) (ev_i rfl (ev_cI e2 (ev_f (by decide) (ev_b (rdR rfl) (ev_b (rb W2 J2 f12) (ev_i rfl (ev_cI e3 (ev_f (by decide) (ev_b (rdR rfl) (ev_b (rb W3 J3 f13) (ev_i rfl (ev_cI e4 (ev_f (by decide) (ev_b (rdR rfl) (ev_b (rb W4 J4 f14) (ev_b (rb W4 J4 f14) (ev_b o2' (ev_i rfl (ev_cI e5 (ev_f (by decide) ?_))))))))))))))))))))))))))
    exact hd_184_146 (ev_i rfl rfl)
  apply hm_184
  apply hd_184_0
  refine ev_b (rb V I fr1_r) (ev_i o1 (ev_cI g0.1 (ev_b (rb V I fr1_r) (ev_i o1 (ev_cI g1.1 ?_)))))
  by_cases q1 : nI (xS P c) = nI (xS P (c + 1))
  · exact ev_f (fun e => e q1) (ev_b (rb V I fr1_r) (ev_i o1 (ev_cI g0.2 (ev_b (rb V I fr1_r) (ev_i o1 (ev_cI g1.2 (ev_t (fun e => q (by rw [q1, e])) tail)))))))
  · exact ev_t q1 tail
set_option maxRecDepth 100000 in
set_option maxHeartbeats 4000000 in
theorem l182 {V : Nat → Nat → Value} {I : Nat → Nat → Int32} {L : Nat → Nat → Int64} {R : Nat → Nat → Option Nat} {tl : am_H} {N A it p g ln : Nat} {P : xT} (h5 : V 89 5 = .ref A) (hs : srcP V I tl A it 3 ln P) (hl1 : 1 ≤ ln) (hl : ln ≤ 8) : ∀ (m i y K : Nat), m + i = 8 → m < K → y < 10000 → ∃ i' y', cmpN ln m i y = (i', i' + 1 + y') ∧ i' ≤ 8 ∧ y' < 10000 ∧ fg_182_6 N K (.ref 89) (nI p) (nI g) (nI y) (nI i) (fx V I L R ++ tl) = fg_182_60 N (.ref 89) (nI p) (nI g) (nI y') (nI i') (fx V I L R ++ tl) := by
  obtain ⟨-, -, -, o4, -⟩ := src_ok (L := L) (R := R) hs
  have rb : am_vR (am_pG 5 (.ref 89) (fx V I L R ++ tl)) = some (.ref A) := rVR qv_89_5 h5
  have s1 : nI ln - 1 = nI (ln - 1) := nI_sub (b := 1) hl1
  intro m
  induction m with
  | zero =>
    intro i y K hm hK hy
    obtain ⟨K, rfl⟩ : ∃ k, K = k + 1 := ⟨K - 1, by omega⟩
    refine ⟨i, y, rfl, by omega, hy, ?_⟩
    apply hd_182_6
    exact ev_b rb (ev_b o4 (ev_t (by rw [s1]; exact nI_le (by omega) (by omega)) rfl))
  | succ m ih =>
    intro i y K hm hK hy
    obtain ⟨K, rfl⟩ : ∃ k, K = k + 1 := ⟨K - 1, by omega⟩
    by_cases q : i + 1 < ln ∧ ln - 1 - i ≤ y
    · obtain ⟨i', y', a, b, c, e⟩ := ih (i + 1) (y - (ln - 1 - i)) K (by omega) (by omega) (by omega)
      refine ⟨i', y', by unfold cmpN; rw [if_pos q]; exact a, b, c, ?_⟩
      have s2 : nI ln - 1 - nI i = nI (ln - 1 - i) := by rw [s1]; exact nI_sub (by omega)
      have s3 : nI y - nI (ln - 1 - i) = nI (y - (ln - 1 - i)) := nI_sub q.2
      apply hd_182_6
      refine ev_b rb (ev_b o4 (ev_f (by rw [s1]; exact nI_ge (by omega) (by omega)) (ev_b rb (ev_b o4 (ev_f (by rw [s2]; exact nI_nlt q.2 (by omega)) (ev_b rb (ev_b o4 ?_)))))))
      rw [s2, s3, nI_1]
      exact e
    · refine ⟨i, y, by unfold cmpN; rw [if_neg q], by omega, hy, ?_⟩
      apply hd_182_6
      by_cases q1 : i + 1 < ln
      · have s2 : nI ln - 1 - nI i = nI (ln - 1 - i) := by rw [s1]; exact nI_sub (by omega)
        exact ev_b rb (ev_b o4 (ev_f (by rw [s1]; exact nI_ge (by omega) (by omega)) (ev_b rb (ev_b o4 (ev_t (by rw [s2]; exact (nI_ltI (by omega) (by omega)).mpr (by omega)) rfl)))))
      · exact ev_b rb (ev_b o4 (ev_t (by rw [s1]; exact nI_le (by omega) (by omega)) rfl))
set_option maxRecDepth 100000 in
set_option maxHeartbeats 4000000 in
theorem s182 {V : Nat → Nat → Value} {I : Nat → Nat → Int32} {L : Nat → Nat → Int64} {R : Nat → Nat → Option Nat} {tl : am_H} {N A it p g ln i y rc ac : Nat} {P : xT} (hN : 1 ≤ N) (hx : cxC V I tl A it 3 ln rc ac P) (hp : p + g ≤ P.length) (hl : P.length ≤ 40) (hi8 : i ≤ 8) (hy : y < 10000) : ∃ W J, fg_182_104 N (.ref 89) (nI p) (nI g) (nI i) (nI i + 1 + nI y) (fx V I L R ++ tl) = some (.inl (some (.int (bI true)), fx W J L R ++ tl)) ∧ hold W J 90 3 ln (P.take p ++ ((i, nI (i + 1 + y)) :: P.drop (p + g))) ∧ fr1 90 V W I J := by
  obtain ⟨h5, h7, h8, h1, h2, hs, hA, hi⟩ := hx
  obtain ⟨o1, o2, -, o4, o5⟩ := src_ok (L := L) (R := R) hs
  have rb : ∀ (W : Nat → Nat → Value) (J : Nat → Nat → Int32), fr1 90 V W I J → am_vR (am_pG 5 (.ref 89) (fx W J L R ++ tl)) = some (.ref A) := fun W J f => rVR qv_89_5 ((f.1 89 5 (by decide)).trans h5)
  obtain ⟨W1, J1, e1, d1, f1⟩ := s34_90 (V := V) (I := I) (L := L) (R := R) (tl := tl) (kd := 3) (ln := ln) 3 (nI ln) rfl rfl (by omega) (by omega)
  have s1 := srcP_f f1 (by omega) (by omega) hs
  obtain ⟨W2, J2, e2, d2, f2⟩ := s170_90 (L := L) (R := R) (tl := tl) (i := 0) (j := p) s1 d1 (by omega) (by omega) (by show 0 + _ ≤ 60; omega) 0 (nI p) rfl rfl
  have l2 : ([] ++ seg P 0 p).length = p := by rw [List.nil_append, seg_0, List.length_take]; omega
  have f12 := fr1_t f1 f2
  obtain ⟨W3, J3, e3, d3, f3⟩ := s41_90 (L := L) (R := R) (tl := tl) (N := N) (a := i) (b := nI i + 1 + nI y) hN d2 (by rw [l2]; omega) (nI i) rfl
  have l3 : (([] ++ seg P 0 p) ++ [(i, nI i + 1 + nI y)]).length = p + 1 := by rw [List.length_append, l2]; rfl
  have f13 := fr1_t f12 f3
  have s3 := srcP_f f13 (by omega) (by omega) hs
  have o2' := (src_ok (L := L) (R := R) s3).2.1
  obtain ⟨W4, J4, e4, d4, f4⟩ := s170_90 (L := L) (R := R) (tl := tl) (i := p + g) (j := P.length) s3 d3 (by omega) (by omega) (by rw [l3]; omega) (nI p + nI g) (nI P.length) (nI_add p g) rfl
  rw [List.nil_append, seg_0, seg_nn, List.append_assoc, show nI i + 1 + nI y = nI (i + 1 + y) by rw [nI_1]; exact nI_add (i + 1) y] at d4
  refine ⟨W4, J4, ?_, d4, fr1_t f13 f4⟩
  apply hd_182_104
  refine ev_b (rdR rfl) (ev_b (rb V I fr1_r) (ev_b o4 (ev_i rfl (ev_cV e1 (ev_b (rdR rfl) (ev_b (rb W1 J1 f1) (ev_i rfl (ev_cI e2 (ev_f (by decide) (ev_b (rdR rfl) (ev_i rfl (ev_cI e3 (ev_f (by decide) (ev_b (rdR rfl) (ev_b (rb W3 J3 f13) (ev_b (rb W3 J3 f13) (ev_b o2' (ev_i rfl (ev_cI e4 (ev_f (by decide) ?_))))))))))))))))))))
  exact hd_182_178 (ev_i rfl rfl)
theorem acr_b : ∀ ln, ln ≤ 8 → acr ln ≤ 28 := by decide
theorem acr_1 : ∀ ln, ln ≤ 8 → 2 ≤ ln → 1 ≤ acr ln := by decide
theorem cc_len {P : xT} {p g : Nat} {x : Nat × Int32} (hp : p + g ≤ P.length) : (P.take p ++ (x :: P.drop (p + g))).length = P.length - g + 1 := by rw [List.length_append, List.length_take, List.length_cons, List.length_drop]; omega
set_option maxRecDepth 100000 in
set_option maxHeartbeats 4000000 in
theorem m_15 {V : Nat → Nat → Value} {I : Nat → Nat → Int32} {L : Nat → Nat → Int64} {R : Nat → Nat → Option Nat} {tl : am_H} {N A it ln c : Nat} {P : xT} (hN : 10 < N) (hx : cxC V I tl A it 3 ln 15 (acr ln) P) (hl2 : 2 ≤ ln) (hl8 : ln ≤ 8) (h40 : P.length ≤ 40) (hc : c < P.length * acr ln) : ∃ W J b, fm_163 N (.ref 89) (nI c) (fx V I L R ++ tl) = some (.inl (some (.int (bI b)), fx W J L R ++ tl)) ∧ outM W J 3 ln (cd30 ln (tI P) c) b ∧ frM V W I J := by
  have hx0 := hx
  obtain ⟨h5, h7, h8, h1, h2, hs, hA, hi⟩ := hx
  obtain ⟨o1, o2, -, o4, o5⟩ := src_ok (L := L) (R := R) hs
  have rb : am_vR (am_pG 5 (.ref 89) (fx V I L R ++ tl)) = some (.ref A) := rVR qv_89_5 h5
  have a28 := acr_b ln hl8
  have c2 : c < 40 * 28 := Nat.lt_of_lt_of_le hc (Nat.mul_le_mul h40 a28)
  have hk : c / acr ln < P.length := Nat.div_lt_of_lt_mul (by rw [Nat.mul_comm]; exact hc)
  have d5 : nI c / nI (acr ln) = nI (c / acr ln) := nI_dv (by omega) (by omega)
  have m5 : nI c - nI c / nI (acr ln) * nI (acr ln) = nI (c % acr ln) := nI_md (by omega) (by omega)
  have mlt : c % acr ln < acr ln := Nat.mod_lt _ h1
  have n0 : nI (acr ln) ≠ 0 := fun e => by have := (nI_eq (b := 0) (by omega) (by decide)).mp e; omega
  obtain ⟨k, ek⟩ : ∃ k, k = c / acr ln := ⟨_, rfl⟩
  obtain ⟨y, ey⟩ : ∃ y, y = c % acr ln := ⟨_, rfl⟩
  rw [← ek] at d5 hk
  rw [← ey] at m5 mlt
  obtain ⟨i', y', ec, b1, b2, eL⟩ := l182 (V := V) (I := I) (L := L) (R := R) (N := N) (p := k) (g := 1) h5 hs (by omega) hl8 8 0 y N (by omega) (by omega) (by omega)
  have ev6 : nI i' + 1 + nI y' = nI (i' + 1 + y') := by rw [nI_1]; exact nI_add _ _
  obtain ⟨g0, g1⟩ := src_get (L := L) (R := R) hs hk
  have ecd : cd30 ln (tI P) c = if (nI (xS P k), xV P k) = (nI i', nI (i' + 1 + y')) then none else some ((tI P).set k (nI i', nI (i' + 1 + y'))) := by
    unfold cd30 cmpI
    rw [← ek, ← ey, ec, (srt_tI hk).1, (srt_tI hk).2]
  have st0 : ∀ (W : Nat → Nat → Value) (J : Nat → Nat → Int32) (b : Bool), fg_182_60 N (.ref 89) (nI k) (nI 1) (nI y') (nI i') (fx V I L R ++ tl) = some (.inl (some (.int (bI b)), fx W J L R ++ tl)) → fm_163 N (.ref 89) (nI c) (fx V I L R ++ tl) = some (.inl (some (.int (bI b)), fx W J L R ++ tl)) := fun W J b e => by
    have e : fm_182 N (.ref 89) (nI c / nI (acr ln)) (nI c - nI c / nI (acr ln) * nI (acr ln)) 1 (fx V I L R ++ tl) = some (.inl (some (.int (bI b)), fx W J L R ++ tl)) := by
      rw [m5, d5]
      apply hm_182
      apply hd_182_0
      exact eL.trans e
    apply hm_163
    apply hd_163_0
    exact ev_b (rdI h8) (ev_t (nI_le (a := 1) h1 (by omega)) (ev_b (rdI h7) (ev_f (by decide) (ev_f (by decide) (ev_f (by decide) (ev_f (by decide) (ev_f (by decide) (ev_f (by decide) (ev_f (by decide) (ev_f (by decide) (ev_f (by decide) (ev_f (by decide) (ev_f (by decide) (ev_f (by decide) (ev_f (by decide) (ev_f (by decide) (ev_f (by decide) (ev_t rfl (ev_b (rdI h8) (ev_t n0 (ev_b (rdI h8) (ev_t n0 (ev_i rfl (ev_cI e (ev_i (bI_fit b) rfl)))))))))))))))))))))))))
  by_cases q : (nI (xS P k), xV P k) = (nI i', nI (i' + 1 + y'))
  · refine ⟨V, I, false, st0 V I false ?_, out_n (by rw [ecd, if_pos q]), frM_r⟩
    apply hd_182_60
    exact ev_f (fun e => e rfl) (ev_b rb (ev_i o1 (ev_cI g0 (ev_f (fun e => e (Prod.mk.inj q).1) (ev_b rb (ev_i o1 (ev_cI g1 (ev_f (fun e => e ((Prod.mk.inj q).2.trans ev6.symm)) rfl))))))))
  rw [if_neg q] at ecd
  obtain ⟨W, J, e, d, f⟩ := s182 (L := L) (R := R) (N := N) (p := k) (g := 1) (by omega) hx0 (by omega) h40 b1 b2
  refine ⟨W, J, true, st0 W J true ?_, out_y (by rw [ecd, ← tI_set, List.set_eq_take_append_cons_drop, if_pos hk]) d (by rw [cc_len (by omega)]; omega), frM_9 f⟩
  apply hd_182_60
  refine ev_f (fun e => e rfl) (ev_b rb (ev_i o1 (ev_cI g0 ?_)))
  by_cases q1 : nI (xS P k) = nI i'
  · exact ev_f (fun e => e q1) (ev_b rb (ev_i o1 (ev_cI g1 (ev_t (fun e' => q (by rw [q1, e', ev6])) e))))
  · exact ev_t q1 e
set_option maxRecDepth 100000 in
set_option maxHeartbeats 4000000 in
theorem m_17 {V : Nat → Nat → Value} {I : Nat → Nat → Int32} {L : Nat → Nat → Int64} {R : Nat → Nat → Option Nat} {tl : am_H} {N A it ln c : Nat} {P : xT} (hN : 10 < N) (hx : cxC V I tl A it 3 ln 17 (acr ln) P) (hl2 : 2 ≤ ln) (hl8 : ln ≤ 8) (h40 : P.length < 40) (hc : c < (P.length + 1) * acr ln) : ∃ W J b, fm_163 N (.ref 89) (nI c) (fx V I L R ++ tl) = some (.inl (some (.int (bI b)), fx W J L R ++ tl)) ∧ outM W J 3 ln (cd32 ln (tI P) c) b ∧ frM V W I J := by
  have hx0 := hx
  obtain ⟨h5, h7, h8, h1, h2, hs, hA, hi⟩ := hx
  have a28 := acr_b ln hl8
  have c2 : c < 40 * 28 := Nat.lt_of_lt_of_le hc (Nat.mul_le_mul (by omega) a28)
  have hk : c / acr ln < P.length + 1 := Nat.div_lt_of_lt_mul (by rw [Nat.mul_comm]; exact hc)
  have d5 : nI c / nI (acr ln) = nI (c / acr ln) := nI_dv (by omega) (by omega)
  have m5 : nI c - nI c / nI (acr ln) * nI (acr ln) = nI (c % acr ln) := nI_md (by omega) (by omega)
  have mlt : c % acr ln < acr ln := Nat.mod_lt _ h1
  have n0 : nI (acr ln) ≠ 0 := fun e => by have := (nI_eq (b := 0) (by omega) (by decide)).mp e; omega
  obtain ⟨k, ek⟩ : ∃ k, k = c / acr ln := ⟨_, rfl⟩
  obtain ⟨y, ey⟩ : ∃ y, y = c % acr ln := ⟨_, rfl⟩
  rw [← ek] at d5 hk
  rw [← ey] at m5 mlt
  obtain ⟨i', y', ec, b1, b2, eL⟩ := l182 (V := V) (I := I) (L := L) (R := R) (N := N) (p := k) (g := 0) h5 hs (by omega) hl8 8 0 y N (by omega) (by omega) (by omega)
  have ecd : cd32 ln (tI P) c = some ((tI P).take k ++ ((nI i', nI (i' + 1 + y')) :: (tI P).drop k)) := by
    unfold cd32 cmpI
    rw [← ek, ← ey, ec]
  obtain ⟨W, J, e, d, f⟩ := s182 (L := L) (R := R) (N := N) (p := k) (g := 0) (by omega) hx0 (by omega) (by omega) b1 b2
  refine ⟨W, J, true, ?_, out_y (by rw [ecd, tI_app, tI_take]; congr 2; exact congrArg (fun z => (nI i', nI (i' + 1 + y')) :: z) tI_drop.symm) d (by rw [cc_len (by omega)]; omega), frM_9 f⟩
  have e : fm_182 N (.ref 89) (nI c / nI (acr ln)) (nI c - nI c / nI (acr ln) * nI (acr ln)) 0 (fx V I L R ++ tl) = some (.inl (some (.int (bI true)), fx W J L R ++ tl)) := by
    rw [m5, d5]
    apply hm_182
    apply hd_182_0
    refine eL.trans ?_
    apply hd_182_60
    exact ev_t (by decide) e
  apply hm_163
  apply hd_163_0
  exact ev_b (rdI h8) (ev_t (nI_le (a := 1) h1 (by omega)) (ev_b (rdI h7) (ev_f (by decide) (ev_f (by decide) (ev_f (by decide) (ev_f (by decide) (ev_f (by decide) (ev_f (by decide) (ev_f (by decide) (ev_f (by decide) (ev_f (by decide) (ev_f (by decide) (ev_f (by decide) (ev_f (by decide) (ev_f (by decide) (ev_f (by decide) (ev_f (by decide) (ev_f (by decide) (ev_f (by decide) (ev_t rfl (ev_b (rdI h8) (ev_t n0 (ev_b (rdI h8) (ev_t n0 (ev_i rfl (ev_cI e (ev_i (bI_fit true) rfl)))))))))))))))))))))))))))
