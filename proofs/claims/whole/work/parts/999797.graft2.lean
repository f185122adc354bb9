/-! ===== edits: candidates in the class: parts of trees; pairs of trees ===== -/
theorem hd_172_126 {s0 : Int32} {h : am_H} {r_ : Option am_O} (k_ : (if am_rfit (some FieldType.boolean) s0 then some (.inl (some (.int s0), h)) else none) = r_) : fg_172_126 s0 h = r_ := k_
theorem hd_172_125 {h : am_H} {r_ : Option am_O} (k_ : (fg_172_126 0 h) = r_) : fg_172_125 h = r_ := k_
theorem hd_172_101 {x0 : Value} {x2 : Int32} {h : am_H} {r_ : Option am_O} (k_ : ((am_vR (am_pG 6 x0 h)).bind fun v1 => ((am_vR (am_pG 3 x0 h)).bind fun v3 => (if am_pOk 7 v3 h then am_cI true (fm_100 v3 x2 h) (fun v6 h7 => (if am_pOk 0 x0 h7 then am_cI true (fm_168 x0 v1 x2 v6 h7) (fun v10 h11 => (if v10 = 0 then (fg_172_125 h11) else (fg_172_126 1 h11))) else none)) else none))) = r_) : fg_172_101 x0 x2 h = r_ := k_
theorem hd_172_77 {x0 : Value} {x1 : Int32} {x2 : Int32} {h : am_H} {r_ : Option am_O} (k_ : ((am_vR (am_pG 3 x0 h)).bind fun v1 => ((am_vR (am_pG 1797 v1 h)).bind fun v3 => ((am_pA 2 v3 x2 h).bind fun v5 => (if v5 = 0 then (fg_172_101 x0 x2 h) else ((am_vR (am_pG 2 x0 h)).bind fun v8 => ((am_vR (am_pG 1795 v8 h)).bind fun v10 => ((am_pA 2 v10 x1 h).bind fun v12 => (if v12 = 0 then (fg_172_125 h) else (fg_172_101 x0 x2 h))))))))) = r_) : fg_172_77 x0 x1 x2 h = r_ := k_
theorem hd_172_0 {x0 : Value} {x1 : Int32} {x2 : Int32} {h : am_H} {r_ : Option am_O} (k_ : ((am_vR (am_pG 5 x0 h)).bind fun v1 => (if am_pOk 3 v1 h then am_cI true (fm_54 v1 x1 0 h) (fun v4 h5 => am_cI false (fm_11 v4 h5) (fun v7 h8 => ((am_vR (am_pG 6 x0 h8)).bind fun v10 => (if am_pOk 3 v10 h8 then am_cI true (fm_54 v10 x2 0 h8) (fun v13 h14 => am_cI false (fm_11 v13 h14) (fun v16 h17 => (if ¬ v7 = v16 then (fg_172_125 h17) else ((am_vR (am_pG 2 x0 h17)).bind fun v20 => ((am_vR (am_pG 1793 v20 h17)).bind fun v22 => ((am_pA 0 v22 x1 h17).bind fun v24 => ((am_vR (am_pG 3 x0 h17)).bind fun v26 => ((am_vR (am_pG 1794 v26 h17)).bind fun v28 => ((am_pA 0 v28 x2 h17).bind fun v30 => (if 12 < ((v24 - 1) + v30) then (fg_172_125 h17) else ((am_vR (am_pG 2 x0 h17)).bind fun v33 => ((am_vR (am_pG 1795 v33 h17)).bind fun v35 => ((am_pA 2 v35 x1 h17).bind fun v37 => (if v37 = 0 then (fg_172_77 x0 x1 x2 h17) else ((am_vR (am_pG 3 x0 h17)).bind fun v40 => ((am_vR (am_pG 1796 v40 h17)).bind fun v42 => ((am_pA 2 v42 x2 h17).bind fun v44 => (if ¬ v44 = 0 then (fg_172_125 h17) else (fg_172_77 x0 x1 x2 h17))))))))))))))))))) else none)))) else none)) = r_) : fg_172_0 x0 x1 x2 h = r_ := k_
theorem hm_172 {y0 : Value} {y1 : Int32} {y2 : Int32} {h : am_H} {r_ : Option am_O} (k_ : fg_172_0 y0 y1 y2 h = r_) : fm_172 y0 y1 y2 h = r_ := k_
theorem sub_seg {P : xT} {k : Nat} (hk : k < P.length) : sl (seg P k (xE P k)) = ((sl P).drop k).take (tk 1 ((sl P).drop k)) := by
  unfold seg
  rw [sl_take, sl_drop]
  congr 1
  show k + tk 1 ((sl P).drop k) - k = _
  omega
theorem sub_F {P : xT} (ho : okP P) {k : Nat} (hk : k < P.length) : isF 1 (sl (seg P k (xE P k))) := okF_F _ [cxK (sl P) k] (by rw [sub_seg hk]; exact okF_sub _ _ k _ ho.1 (cxK_at ho.1 (by rw [sl_len]; exact hk)))
theorem sL_xS {P : xT} {k : Nat} (hk : k < P.length) : sL (sl P) k = xS P k := sL_at (sl_at hk)
theorem frG_s {V : Nat → Nat → Value} {I : Nat → Nat → Int32} {tl : am_H} {A it kd ln g i j : Nat} {P : xT} (hA : 130 < A) (h : srcP V I tl A it kd ln P) : srcP (vG V g i j) I tl A it kd ln P := srcP_c (fun x => (frM_G (V := V) (I := I) (g := g) (i := i) (j := j)).1 A x (by omega) (by omega) (by omega) (by omega)) rfl h
set_option maxRecDepth 100000 in
set_option maxHeartbeats 4000000 in
theorem m_3 {V : Nat → Nat → Value} {I : Nat → Nat → Int32} {L : Nat → Nat → Int64} {R : Nat → Nat → Option Nat} {tl : am_H} {N A it ac c : Nat} {P : xT} (hN : 10 < N) (hx : cxC V I tl A it 0 0 3 ac P) (ho : okP P) (hsh : shT V I 94 P) (hc : c < 3 * P.length) : ∃ W J b, fm_163 N (.ref 89) (nI c) (fx V I L R ++ tl) = some (.inl (some (.int (bI b)), fx W J L R ++ tl)) ∧ outM W J 0 0 (cd03 (tI P) c) b ∧ frM V W I J := by
  have hx0 := hx
  obtain ⟨h5, h7, h8, h1, h2, hs, hA, hi⟩ := hx
  obtain ⟨o1, o2, -, -, l60⟩ := src_ok (L := L) (R := R) hs
  have hk : c / 3 < P.length := by omega
  have d5 : nI c / 3 = nI (c / 3) := nI_dv (b := 3) (by omega) (by omega)
  have m5 : nI c - nI c / 3 * 3 = nI (c % 3) := nI_md (b := 3) (by omega) (by omega)
  have rb : am_vR (am_pG 5 (.ref 89) (fx V I L R ++ tl)) = some (.ref A) := rVR qv_89_5 h5
  obtain ⟨k, ek⟩ : ∃ k, k = c / 3 := ⟨_, rfl⟩
  obtain ⟨w, ew⟩ : ∃ s, s = c % 3 := ⟨_, rfl⟩
  have w3 : w < 3 := by omega
  rw [← ek] at d5 hk
  rw [← ew] at m5
  have gs := (src_get (L := L) (R := R) hs hk).1
  obtain ⟨x, ex⟩ : ∃ x, x = xS P k := ⟨_, rfl⟩
  have x21 : x < 21 := by have := (nd_at ho hk).1; omega
  rw [← ex] at gs
  have e166 := c166 (V := V) (I := I) (L := L) (R := R) (tl := tl) (N := N) (k := k) (q := w) hN hsh l60 hk w3
  obtain ⟨a, ea⟩ : ∃ a, a = pA P k w := ⟨_, rfl⟩
  rw [← ea] at e166
  have ecd : cd03 (tI P) c = if w < arN x ∧ twN x w = truN x then gS2 0 (tI (P.take k ++ (seg P a (xE P a) ++ P.drop (xE P k)))) else none := by
    unfold cd03
    have pa : ptA (tI P) k w = a := by unfold ptA; rw [tL_tI (okP_20b ho), ea, pA_tk hk w3]
    rw [← ek, ← ew, (srt_tI hk).1, sN_n (by have := (nd_at ho hk).1; omega), ← ex, pa, eT2_x (okP_20b ho), eT2_x (okP_20b ho), tI_app, tI_app, tI_take, tI_drop]
    unfold seg
    rw [tI_take, tI_drop]
  have no77 : fg_171_77 N (fx V I L R ++ tl) = some (.inl (some (.int (bI false)), fx V I L R ++ tl)) := hd_171_77 rfl
  have no : ∀ (W : Nat → Nat → Value) (J : Nat → Nat → Int32), fg_163_207 N (fx W J L R ++ tl) = some (.inl (some (.int (bI false)), fx W J L R ++ tl)) := fun W J => hd_163_207 (hd_163_208 (ev_i rfl rfl))
  have ar3 := aN_3 x
  have st0 : ∀ (b : Bool) o (W : Nat → Nat → Value) (J : Nat → Nat → Int32), (if nI (arN x) ≤ nI w then (fg_171_77 N (fx V I L R ++ tl)) else ((am_vR (am_pG 5 (.ref 89) (fx V I L R ++ tl))).bind fun v17 => ((am_vI (am_pG 771 v17 (fx V I L R ++ tl))).bind fun v19 => (if v19 ≤ nI a then (fg_171_77 N (fx V I L R ++ tl)) else am_cI false (fm_13 (nI x) (nI w) (fx V I L R ++ tl)) (fun v22 h23 => am_cI false (fm_11 (nI x) h23) (fun v25 h26 => (if ¬ v22 = v25 then (fg_171_77 N h26) else (if ¬ nI x = 19 then (fg_171_79 N (.ref 89) (nI a) h26) else (if ¬ nI w = 1 then (fg_171_79 N (.ref 89) (nI a) h26) else ((am_vR (am_pG 2 (.ref 89) h26)).bind fun v31 => ((am_vR (am_pG 1797 v31 h26)).bind fun v33 => ((am_pA 2 v33 (nI a) h26).bind fun v35 => (if v35 = 0 then (fg_171_79 N (.ref 89) (nI a) h26) else (fg_171_77 N h26)))))))))))))) = o → fm_171 N (.ref 89) (nI c / 3) (nI c - nI c / 3 * 3) (fx V I L R ++ tl) = o := fun b o W J e => by
    rw [m5, d5]
    apply hm_171
    apply hd_171_0
    exact ev_b rb (ev_i o1 (ev_cI gs (ev_b (rdR rfl) (ev_i rfl (ev_cI e166 (ev_cI (p14 x21 _) e))))))
  have fin : fm_171 N (.ref 89) (nI c / 3) (nI c - nI c / 3 * 3) (fx V I L R ++ tl) = some (.inl (some (.int (bI false)), fx V I L R ++ tl)) → fm_163 N (.ref 89) (nI c) (fx V I L R ++ tl) = some (.inl (some (.int (bI false)), fx V I L R ++ tl)) := fun e => by
    apply hm_163
    apply hd_163_0
    exact ev_b (rdI h8) (ev_t (nI_le (a := 1) h1 (by omega)) (ev_b (rdI h7) (ev_f (by decide) (ev_f (by decide) (ev_f (by decide) (ev_t rfl (ev_i rfl (ev_cI e (ev_t rfl (no V I))))))))))
  by_cases q1 : w < arN x
  case neg => exact ⟨V, I, false, fin (st0 true _ V I (ev_t (nI_le (by omega) (by omega)) no77)), out_n (by rw [ecd, if_neg (fun e => q1 e.1)]), frM_r⟩
  obtain ⟨pl, pg, pe, pc⟩ := part_at ho hk w3 (by rw [← ex]; exact q1)
  rw [← ea] at pl pg pe pc
  rw [← ex] at pc
  have n1 : ¬ nI (arN x) ≤ nI w := nI_ge q1 (by omega)
  have n2 : ¬ nI P.length ≤ nI a := nI_ge pl (by omega)
  have tn := tN_1 x
  have tw := wN_1 x w
  by_cases q2 : twN x w = truN x
  case neg => exact ⟨V, I, false, fin (st0 true _ V I (ev_f n1 (ev_b rb (ev_b o2 (ev_f n2 (ev_cI (p13 x21 w3 _) (ev_cI (p11 x21 _) (ev_t (fun e => q2 ((nI_eq (by omega) (by omega)).mp e)) no77)))))))), out_n (by rw [ecd, if_neg (fun e => q2 e.2)]), frM_r⟩
  rw [if_pos ⟨q1, q2⟩] at ecd
  have n3 : ¬ ¬ nI (twN x w) = nI (truN x) := fun e => e (by rw [q2])
  have xg := xE_gt pl
  have xl : xE P k ≤ P.length := xE_le (by omega)
  have sgl : (seg P a (xE P a)).length = xE P a - a := seg_len (by omega)
  have hkl : k < (sl P).length := by rw [sl_len]; exact hk
  have hal : a < (sl P).length := by rw [sl_len]; exact pl
  obtain ⟨cf, cd1⟩ := cxK_f1 ho.1 hkl
  have nk := form_at ho.1 (sl_at (P := P) hk)
  have tk1 : truN x = (cxK (sl P) k).1 := by rw [ex]; exact nk.2.1
  -- as it stood
  have old := (fit_iff ho.1 hal (c := cxK (sl P) a) (cxK_f1 ho.1 hal).1 (cxK_f1 ho.1 hal).2).mp (okF_sub _ _ a _ ho.1 (cxK_at ho.1 hal))
  rw [pc] at old
  have snd := snd_rp (m := seg P a (xE P a)) ho hk (fun x hx => okP_20b ho x (mem_seg hx)) (sub_F ho pl)
  rw [sub_seg pl, fit_iff ho.1 hal cf cd1, sgl] at snd
  have old1 : truN (sL (sl P) a) = twN x w := old.1
  have old2 : (cxK (sl P) k).2.1 + 1 - 1 + tlL (sl P) a ≤ 12 := old.2.1
  -- to the graft
  have e100 := e100_94 (V := V) (I := I) (L := L) (R := R) (tl := tl) (P := P) (k := a) hsh.1 l60 (fun j hj => (hsh.2 j (by rw [sl_len]; exact hj)).1) (by omega) (nI a) rfl
  have t79 : fg_171_79 N (.ref 89) (nI a) (fx V I L R ++ tl) = some (.inl (some (.int 1), fx (vG V A a (xE P a)) I L R ++ tl)) := by
    apply hd_171_79
    exact ev_b rb (ev_b (rdR rfl) (ev_i rfl (ev_cI e100 (ev_i rfl (ev_cI c168 (ev_i rfl rfl))))))
  have F2 : frM V (vG V A a (xE P a)) I I := frM_G
  obtain ⟨W, J, b, e, g1, g2, f⟩ := s169 (L := L) (R := R) (g := A) (ig := it) (k := k) (i := a) (j := xE P a) (G := P) (cx_f hx0 F2) (shT_f hsh F2) rfl rfl rfl (frG_s hA hs) (by omega) (by omega) hk (by omega) (by omega)
  have bt : b = true := g1.mpr (by omega)
  subst bt
  by_cases q3 : (x = 19 ∧ w = 1) ∧ loL (sl P) a = true
  · obtain ⟨⟨z1, z2⟩, z3⟩ := q3
    have c0 : (cxK (sl P) k).2.2 = 0 := by
      by_cases u : (cxK (sl P) k).2.2 = 0
      · exact u
      · exact absurd (ex.symm.trans z1) (nk.2.2.2.2.1 (by omega))
    have r100 : am_pA 2 (.ref 100) (nI a) (fx V I L R ++ tl) = some (nI (loL (sl P) a).toNat) := by rw [qa_100 (by omega)]; exact congrArg some (hsh.2 a hal).2.2.2.2.2
    rw [z3] at r100
    have ns : sndB 0 (tI (P.take k ++ (seg P a (xE P a) ++ P.drop (xE P k)))) = false := by
      cases h : sndB 0 (tI (P.take k ++ (seg P a (xE P a) ++ P.drop (xE P k)))) with
      | false => rfl
      | true => have := (snd.mp h).2.2.2.2 c0; rw [z3] at this; exact Bool.noConfusion this
    exact ⟨V, I, false, fin (st0 true _ V I (ev_f n1 (ev_b rb (ev_b o2 (ev_f n2 (ev_cI (p13 x21 w3 _) (ev_cI (p11 x21 _) (ev_f n3 (ev_f (fun e => e (by rw [z1]; rfl)) (ev_f (fun e => e (by rw [z2]; rfl)) (ev_b (rdR rfl) (ev_b (rdR rfl) (ev_b r100 (ev_f (by decide) no77)))))))))))))), out_n (by rw [ecd]; unfold gS2; rw [ns]; rfl), frM_r⟩
  have ys : sndB 0 (tI (P.take k ++ (seg P a (xE P a) ++ P.drop (xE P k)))) = true := by
    refine snd.mpr ⟨by omega, by rw [old1, q2]; exact tk1, by omega, fun c1 => ?_, fun c0 => ?_⟩
    · by_cases z : x = 19 ∧ w = 1
      · exact absurd (ex.symm.trans z.1) (nk.2.2.2.2.1 c1)
      · exact old.2.2.1 (by show (if x = 19 ∧ w = 1 then 1 else (cxK (sl P) k).2.2) = 1; rw [if_neg z]; exact c1)
    · by_cases z : x = 19 ∧ w = 1
      · cases h : loL (sl P) a with
        | false => rfl
        | true => exact absurd ⟨z, h⟩ q3
      · exact old.2.2.2 (by show (if x = 19 ∧ w = 1 then 1 else (cxK (sl P) k).2.2) = 0; rw [if_neg z]; exact c0)
  have e171 : fm_171 N (.ref 89) (nI c / 3) (nI c - nI c / 3 * 3) (fx V I L R ++ tl) = some (.inl (some (.int 1), fx (vG V A a (xE P a)) I L R ++ tl)) := by
    apply st0 true _ V I
    refine ev_f n1 (ev_b rb (ev_b o2 (ev_f n2 (ev_cI (p13 x21 w3 _) (ev_cI (p11 x21 _) (ev_f n3 ?_))))))
    by_cases z1 : x = 19
    · refine ev_f (fun e => e (by rw [z1]; rfl)) ?_
      by_cases z2 : w = 1
      · have r100 : am_pA 2 (.ref 100) (nI a) (fx V I L R ++ tl) = some (nI (loL (sl P) a).toNat) := by rw [qa_100 (by omega)]; exact congrArg some (hsh.2 a hal).2.2.2.2.2
        have lf : loL (sl P) a = false := by
          cases h : loL (sl P) a with
          | false => rfl
          | true => exact absurd ⟨⟨z1, z2⟩, h⟩ q3
        rw [lf] at r100
        exact ev_f (fun e => e (by rw [z2]; rfl)) (ev_b (rdR rfl) (ev_b (rdR rfl) (ev_b r100 (ev_t rfl t79))))
      · exact ev_t (fun e => z2 ((nI_eq (b := 1) (by omega) (by decide)).mp e)) t79
    · exact ev_t (fun e => z1 ((nI_eq (b := 19) (by omega) (by decide)).mp e)) t79
  refine ⟨W, J, true, ?_, out_y (by rw [ecd]; unfold gS2; rw [ys]; rfl) (g2 rfl) (by rw [rp_l2 hk, sgl]; omega), frM_t F2 (frM_9 f)⟩
  have e : fm_169 (.ref 89) (nI c / 3) (fx (vG V A a (xE P a)) I L R ++ tl) = some (.inl (some (.int (bI true)), fx W J L R ++ tl)) := by rw [d5]; exact e
  apply hm_163
  apply hd_163_0
  exact ev_b (rdI h8) (ev_t (nI_le (a := 1) h1 (by omega)) (ev_b (rdI h7) (ev_f (by decide) (ev_f (by decide) (ev_f (by decide) (ev_t rfl (ev_i rfl (ev_cI e171 (ev_f (by decide) (ev_i rfl (ev_cI e (ev_f (by decide) (hd_163_208 (ev_i rfl rfl))))))))))))))
set_option maxRecDepth 100000 in
set_option maxHeartbeats 4000000 in
theorem m_4 {V : Nat → Nat → Value} {I : Nat → Nat → Int32} {L : Nat → Nat → Int64} {R : Nat → Nat → Option Nat} {tl : am_H} {N A it B ib c : Nat} {P Q : xT} (hx : cxC V I tl A it 0 0 4 Q.length P) (h6 : V 89 6 = .ref B) (hB : 130 < B) (hib : 130 < ib) (ht : srcP V I tl B ib 0 0 Q) (ho : okP P) (hoq : okP Q) (hsh : shT V I 94 P) (hsq : shT V I 102 Q) (hc : c < P.length * Q.length) : ∃ W J b, fm_163 N (.ref 89) (nI c) (fx V I L R ++ tl) = some (.inl (some (.int (bI b)), fx W J L R ++ tl)) ∧ outM W J 0 0 (cdP0 (tI P) (tI Q) c) b ∧ frM V W I J := by
  have hx0 := hx
  obtain ⟨h5, h7, h8, h1, h2, hs, hA, hi⟩ := hx
  obtain ⟨o1, o2, -, -, l60⟩ := src_ok (L := L) (R := R) hs
  have rb : am_vR (am_pG 5 (.ref 89) (fx V I L R ++ tl)) = some (.ref A) := rVR qv_89_5 h5
  have rm : am_vR (am_pG 6 (.ref 89) (fx V I L R ++ tl)) = some (.ref B) := rVR qv_89_6 h6
  obtain ⟨p1, p2, -, -, q60⟩ := src_ok (L := L) (R := R) ht
  have c2 : c < 60 * 60 := Nat.lt_of_lt_of_le hc (Nat.mul_le_mul l60 q60)
  have hk : c / Q.length < P.length := Nat.div_lt_of_lt_mul (by rw [Nat.mul_comm]; exact hc)
  have d5 : nI c / nI Q.length = nI (c / Q.length) := nI_dv (by omega) (by omega)
  have m5 : nI c - nI c / nI Q.length * nI Q.length = nI (c % Q.length) := nI_md (by omega) (by omega)
  have hj : c % Q.length < Q.length := Nat.mod_lt _ h1
  have n0 : nI Q.length ≠ 0 := fun e => by have := (nI_eq (b := 0) (by omega) (by decide)).mp e; omega
  obtain ⟨k, ek⟩ : ∃ k, k = c / Q.length := ⟨_, rfl⟩
  obtain ⟨j, ej⟩ : ∃ y, y = c % Q.length := ⟨_, rfl⟩
  rw [← ek] at d5 hk
  rw [← ej] at m5 hj
  have gx := (src_get (L := L) (R := R) hs hk).1
  have gy := (src_get (L := L) (R := R) ht hj).1
  have x20 := (nd_at ho hk).1
  have y20 := (nd_at hoq hj).1
  have tx := tN_1 (xS P k)
  have ty := tN_1 (xS Q j)
  have hkl : k < (sl P).length := by rw [sl_len]; exact hk
  have hjl : j < (sl Q).length := by rw [sl_len]; exact hj
  have ecd : cdP0 (tI P) (tI Q) c = if truN (xS P k) = truN (xS Q j) then gS2 0 (tI (P.take k ++ (seg Q j (xE Q j) ++ P.drop (xE P k)))) else none := by
    unfold cdP0
    rw [tI_len, ← ek, ← ej, (srt_tI hk).1, (srt_tI hj).1, sN_n (by omega), sN_n (by omega), eT2_x (okP_20b ho), eT2_x (okP_20b hoq), tI_app, tI_app, tI_take, tI_drop]
    unfold seg
    rw [tI_take, tI_drop]
  have no125 : fg_172_125 (fx V I L R ++ tl) = some (.inl (some (.int (bI false)), fx V I L R ++ tl)) := hd_172_125 (hd_172_126 (ev_i rfl rfl))
  have no : ∀ (W : Nat → Nat → Value) (J : Nat → Nat → Int32), fg_163_245 N (fx W J L R ++ tl) = some (.inl (some (.int (bI false)), fx W J L R ++ tl)) := fun W J => hd_163_245 (hd_163_246 (ev_i rfl rfl))
  have fin : fm_172 (.ref 89) (nI k) (nI j) (fx V I L R ++ tl) = some (.inl (some (.int (bI false)), fx V I L R ++ tl)) → fm_163 N (.ref 89) (nI c) (fx V I L R ++ tl) = some (.inl (some (.int (bI false)), fx V I L R ++ tl)) := fun e => by
    have e : fm_172 (.ref 89) (nI c / nI Q.length) (nI c - nI c / nI Q.length * nI Q.length) (fx V I L R ++ tl) = some (.inl (some (.int (bI false)), fx V I L R ++ tl)) := by rw [m5, d5]; exact e
    apply hm_163
    apply hd_163_0
    exact ev_b (rdI h8) (ev_t (nI_le (a := 1) h1 (by omega)) (ev_b (rdI h7) (ev_f (by decide) (ev_f (by decide) (ev_f (by decide) (ev_f (by decide) (ev_t rfl (ev_b (rdI h8) (ev_t n0 (ev_b (rdI h8) (ev_t n0 (ev_i rfl (ev_cI e (ev_t rfl (no V I)))))))))))))))
  by_cases q1 : truN (xS P k) = truN (xS Q j)
  case neg =>
    refine ⟨V, I, false, fin ?_, out_n (by rw [ecd, if_neg q1]), frM_r⟩
    apply hm_172
    apply hd_172_0
    exact ev_b rb (ev_i o1 (ev_cI gx (ev_cI (p11 (by omega) _) (ev_b rm (ev_i p1 (ev_cI gy (ev_cI (p11 (by omega) _) (ev_t (fun e => q1 ((nI_eq (by omega) (by omega)).mp e)) no125))))))))
  rw [if_pos q1] at ecd
  have shk := hsh.2 k hkl
  have shj := hsq.2 j hjl
  obtain ⟨cf, cd1⟩ := cxK_f1 ho.1 hkl
  have nk := form_at ho.1 (sl_at (P := P) hk)
  have r96 : am_pA 0 (.ref 96) (nI k) (fx V I L R ++ tl) = some (nI (dpL (sl P) k)) := by rw [qa_96 (by omega)]; exact congrArg some shk.2.1
  have r98 : am_pA 2 (.ref 98) (nI k) (fx V I L R ++ tl) = some (nI (inL (sl P) k)) := by rw [qa_98 (by omega)]; exact congrArg some shk.2.2.2.1
  have r105 : am_pA 0 (.ref 105) (nI j) (fx V I L R ++ tl) = some (nI (tlL (sl Q) j)) := by rw [qa_105 (by omega)]; exact congrArg some shj.2.2.1
  have r107 : am_pA 2 (.ref 107) (nI j) (fx V I L R ++ tl) = some (nI (foL (sl Q) j).toNat) := by rw [qa_107 (by omega)]; exact congrArg some shj.2.2.2.2.1
  have r108 : am_pA 2 (.ref 108) (nI j) (fx V I L R ++ tl) = some (nI (loL (sl Q) j).toNat) := by rw [qa_108 (by omega)]; exact congrArg some shj.2.2.2.2.2
  have dk : 1 ≤ dpL (sl P) k := cd1
  have dk2 : dpL (sl P) k ≤ 12 := nk.2.2.1
  have ik : inL (sl P) k ≤ 1 := cf
  have tl13 : tlL (sl Q) j ≤ 13 := by
    have old := (fit_iff hoq.1 hjl (c := cxK (sl Q) j) (cxK_f1 hoq.1 hjl).1 (cxK_f1 hoq.1 hjl).2).mp (okF_sub _ _ j _ hoq.1 (cxK_at hoq.1 hjl))
    omega
  have sdt : nI (dpL (sl P) k) - 1 + nI (tlL (sl Q) j) = nI (dpL (sl P) k - 1 + tlL (sl Q) j) := by rw [show nI (dpL (sl P) k) - 1 = nI (dpL (sl P) k - 1) from nI_sub (b := 1) dk]; exact nI_add _ _
  have xg := xE_gt hj
  have xl : xE Q j ≤ Q.length := xE_le (by omega)
  have sgl : (seg Q j (xE Q j)).length = xE Q j - j := seg_len xl
  have snd := snd_rp (m := seg Q j (xE Q j)) ho hk (fun x hx => okP_20b hoq x (mem_seg hx)) (sub_F hoq hj)
  rw [sub_seg hj, fit_iff hoq.1 hjl cf cd1, sgl, sL_xS hj] at snd
  have tk1 : truN (xS P k) = (cxK (sl P) k).1 := nk.2.1
  have st0 : ∀ o, (if 12 < ((nI (dpL (sl P) k) - 1) + nI (tlL (sl Q) j)) then (fg_172_125 (fx V I L R ++ tl)) else ((am_vR (am_pG 2 (.ref 89) (fx V I L R ++ tl))).bind fun v33 => ((am_vR (am_pG 1795 v33 (fx V I L R ++ tl))).bind fun v35 => ((am_pA 2 v35 (nI k) (fx V I L R ++ tl)).bind fun v37 => (if v37 = 0 then (fg_172_77 (.ref 89) (nI k) (nI j) (fx V I L R ++ tl)) else ((am_vR (am_pG 3 (.ref 89) (fx V I L R ++ tl))).bind fun v40 => ((am_vR (am_pG 1796 v40 (fx V I L R ++ tl))).bind fun v42 => ((am_pA 2 v42 (nI j) (fx V I L R ++ tl)).bind fun v44 => (if ¬ v44 = 0 then (fg_172_125 (fx V I L R ++ tl)) else (fg_172_77 (.ref 89) (nI k) (nI j) (fx V I L R ++ tl))))))))))) = o → fm_172 (.ref 89) (nI k) (nI j) (fx V I L R ++ tl) = o := fun o e => by
    apply hm_172
    apply hd_172_0
    exact ev_b rb (ev_i o1 (ev_cI gx (ev_cI (p11 (by omega) _) (ev_b rm (ev_i p1 (ev_cI gy (ev_cI (p11 (by omega) _) (ev_f (fun e => e (by rw [q1])) (ev_b (rdR rfl) (ev_b (rdR rfl) (ev_b r96 (ev_b (rdR rfl) (ev_b (rdR rfl) (ev_b r105 e))))))))))))))
  have neg : ∀ (h : ¬ (dpL (sl P) k - 1 + tlL (sl Q) j ≤ 12 ∧ (inL (sl P) k = 1 → foL (sl Q) j = false) ∧ (inL (sl P) k = 0 → loL (sl Q) j = false))), gS2 0 (tI (P.take k ++ (seg Q j (xE Q j) ++ P.drop (xE P k)))) = none := fun h => by
    unfold gS2
    exact if_neg (fun e => h (snd.mp e).2.2)
  by_cases C1 : dpL (sl P) k - 1 + tlL (sl Q) j ≤ 12
  case neg => exact ⟨V, I, false, fin (st0 _ (ev_t (by rw [sdt]; exact (nI_ltI (a := 12) (by omega) (by omega)).mpr (by omega)) no125)), out_n (by rw [ecd]; exact neg (fun h => C1 h.1)), frM_r⟩
  have n12 : ¬ 12 < nI (dpL (sl P) k) - 1 + nI (tlL (sl Q) j) := by rw [sdt]; exact nI_nlt (a := 12) C1 (by omega)
  by_cases C2 : inL (sl P) k = 1 → foL (sl Q) j = false
  case neg =>
    have i1 : inL (sl P) k = 1 := by
      by_cases z : inL (sl P) k = 1
      · exact z
      · exact absurd (fun e => absurd e z) C2
    have f1 : foL (sl Q) j = true := by
      cases h : foL (sl Q) j with
      | true => rfl
      | false => exact absurd (fun _ => h) C2
    rw [i1] at r98
    rw [f1] at r107
    exact ⟨V, I, false, fin (st0 _ (ev_f n12 (ev_b (rdR rfl) (ev_b (rdR rfl) (ev_b r98 (ev_f (by decide) (ev_b (rdR rfl) (ev_b (rdR rfl) (ev_b r107 (ev_t (by decide) no125)))))))))), out_n (by rw [ecd]; exact neg (fun h => C2 h.2.1)), frM_r⟩
  have st1 : ∀ o, fg_172_77 (.ref 89) (nI k) (nI j) (fx V I L R ++ tl) = o → fm_172 (.ref 89) (nI k) (nI j) (fx V I L R ++ tl) = o := fun o e => by
    apply st0
    refine ev_f n12 (ev_b (rdR rfl) (ev_b (rdR rfl) (ev_b r98 ?_)))
    by_cases z : inL (sl P) k = 0
    · exact ev_t (by rw [z]; rfl) e
    · rw [C2 (by omega)] at r107
      exact ev_f (fun u => z ((nI_eq (b := 0) (by omega) (by decide)).mp u)) (ev_b (rdR rfl) (ev_b (rdR rfl) (ev_b r107 (ev_f (fun u => u rfl) e))))
  by_cases C3 : inL (sl P) k = 0 → loL (sl Q) j = false
  case neg =>
    have i0 : inL (sl P) k = 0 := by
      by_cases z : inL (sl P) k = 0
      · exact z
      · exact absurd (fun e => absurd e z) C3
    have l1 : loL (sl Q) j = true := by
      cases h : loL (sl Q) j with
      | true => rfl
      | false => exact absurd (fun _ => h) C3
    rw [i0] at r98
    rw [l1] at r108
    exact ⟨V, I, false, fin (st1 _ (hd_172_77 (ev_b (rdR rfl) (ev_b (rdR rfl) (ev_b r108 (ev_f (by decide) (ev_b (rdR rfl) (ev_b (rdR rfl) (ev_b r98 (ev_t rfl no125)))))))))), out_n (by rw [ecd]; exact neg (fun h => C3 h.2.2)), frM_r⟩
  have e100 := e100_102 (V := V) (I := I) (L := L) (R := R) (tl := tl) (P := Q) (k := j) hsq.1 q60 (fun j hj => (hsq.2 j (by rw [sl_len]; exact hj)).1) (by omega) (nI j) rfl
  have t101 : fg_172_101 (.ref 89) (nI j) (fx V I L R ++ tl) = some (.inl (some (.int 1), fx (vG V B j (xE Q j)) I L R ++ tl)) := by
    apply hd_172_101
    exact ev_b rm (ev_b (rdR rfl) (ev_i rfl (ev_cI e100 (ev_i rfl (ev_cI c168 (ev_f (by decide) (hd_172_126 (ev_i rfl rfl))))))))
  have e172 : fm_172 (.ref 89) (nI k) (nI j) (fx V I L R ++ tl) = some (.inl (some (.int 1), fx (vG V B j (xE Q j)) I L R ++ tl)) := by
    apply st1
    apply hd_172_77
    refine ev_b (rdR rfl) (ev_b (rdR rfl) (ev_b r108 ?_))
    cases hl : loL (sl Q) j with
    | false => exact ev_t rfl t101
    | true =>
      have i1 : inL (sl P) k = 1 := by
        by_cases z : inL (sl P) k = 0
        · have := C3 z; rw [hl] at this; exact Bool.noConfusion this
        · omega
      rw [i1] at r98
      exact ev_f (by decide) (ev_b (rdR rfl) (ev_b (rdR rfl) (ev_b r98 (ev_f (by decide) t101))))
  have F2 : frM V (vG V B j (xE Q j)) I I := frM_G
  obtain ⟨W, J, b, e, g1, g2, f⟩ := s169 (L := L) (R := R) (g := B) (ig := ib) (k := k) (i := j) (j := xE Q j) (G := Q) (cx_f hx0 F2) (shT_f hsh F2) rfl rfl rfl (frG_s hB ht) (by omega) (by omega) hk (by omega) xl
  have e172 : fm_172 (.ref 89) (nI c / nI Q.length) (nI c - nI c / nI Q.length * nI Q.length) (fx V I L R ++ tl) = some (.inl (some (.int 1), fx (vG V B j (xE Q j)) I L R ++ tl)) := by rw [m5, d5]; exact e172
  have h8' : vG V B j (xE Q j) 89 8 = .int (nI Q.length) := h8
  have e : fm_169 (.ref 89) (nI c / nI Q.length) (fx (vG V B j (xE Q j)) I L R ++ tl) = some (.inl (some (.int (bI b)), fx W J L R ++ tl)) := by rw [d5]; exact e
  cases b with
  | false =>
    have ns : sndB 0 (tI (P.take k ++ (seg Q j (xE Q j) ++ P.drop (xE P k)))) = false := by
      cases h : sndB 0 (tI (P.take k ++ (seg Q j (xE Q j) ++ P.drop (xE P k)))) with
      | false => rfl
      | true => exact absurd (g1.mpr (snd.mp h).1) (fun e => Bool.noConfusion e)
    refine ⟨W, J, false, ?_, out_n (by rw [ecd]; unfold gS2; rw [ns]; rfl), frM_t F2 (frM_9 f)⟩
    apply hm_163
    apply hd_163_0
    exact ev_b (rdI h8) (ev_t (nI_le (a := 1) h1 (by omega)) (ev_b (rdI h7) (ev_f (by decide) (ev_f (by decide) (ev_f (by decide) (ev_f (by decide) (ev_t rfl (ev_b (rdI h8) (ev_t n0 (ev_b (rdI h8) (ev_t n0 (ev_i rfl (ev_cI e172 (ev_f (by decide) (ev_b (rdI h8') (ev_t n0 (ev_i rfl (ev_cI e (ev_t rfl (no W J))))))))))))))))))))
  | true =>
    have ys : sndB 0 (tI (P.take k ++ (seg Q j (xE Q j) ++ P.drop (xE P k)))) = true := snd.mpr ⟨g1.mp rfl, by rw [← q1]; exact tk1, C1, C2, C3⟩
    refine ⟨W, J, true, ?_, out_y (by rw [ecd]; unfold gS2; rw [ys]; rfl) (g2 rfl) (by rw [rp_l2 hk, sgl]; exact g1.mp rfl), frM_t F2 (frM_9 f)⟩
    apply hm_163
    apply hd_163_0
    exact ev_b (rdI h8) (ev_t (nI_le (a := 1) h1 (by omega)) (ev_b (rdI h7) (ev_f (by decide) (ev_f (by decide) (ev_f (by decide) (ev_f (by decide) (ev_t rfl (ev_b (rdI h8) (ev_t n0 (ev_b (rdI h8) (ev_t n0 (ev_i rfl (ev_cI e172 (ev_f (by decide) (ev_b (rdI h8') (ev_t n0 (ev_i rfl (ev_cI e (ev_f (by decide) (hd_163_246 (ev_i rfl rfl)))))))))))))))))))))
