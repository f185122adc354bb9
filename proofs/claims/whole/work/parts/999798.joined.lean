/-! ===== pairs: candidates in the class: code and nets ===== -/
theorem hd_177_98 {s0 : Int32} {h : am_H} {r_ : Option am_O} (k_ : (if am_rfit (some FieldType.boolean) s0 then some (.inl (some (.int s0), h)) else none) = r_) : fg_177_98 s0 h = r_ := k_
theorem hd_177_97 {h : am_H} {r_ : Option am_O} (k_ : (fg_177_98 0 h) = r_) : fg_177_97 h = r_ := k_
theorem hd_177_34 {x0 : Value} {x1 : Int32} {x2 : Int32} {h : am_H} {r_ : Option am_O} (k_ : ((am_vR (am_pG 0 x0 h)).bind fun v1 => ((am_vR (am_pG 5 x0 h)).bind fun v3 => ((am_vI (am_pG 769 v3 h)).bind fun v5 => ((am_vR (am_pG 5 x0 h)).bind fun v7 => ((am_vI (am_pG 770 v7 h)).bind fun v9 => (if am_pOk 3 v1 h then am_cV true (fm_34 v1 v5 v9 h) (fun h13 => ((am_vR (am_pG 0 x0 h13)).bind fun v15 => ((am_vR (am_pG 5 x0 h13)).bind fun v17 => (if am_pOk 3 v15 h13 then am_cI true (fm_170 v15 v17 0 x1 h13) (fun v20 h21 => (if v20 = 0 then (fg_177_97 h21) else ((am_vR (am_pG 0 x0 h21)).bind fun v24 => ((am_vR (am_pG 6 x0 h21)).bind fun v26 => ((am_vR (am_pG 6 x0 h21)).bind fun v28 => ((am_vI (am_pG 771 v28 h21)).bind fun v30 => (if am_pOk 3 v24 h21 then am_cI true (fm_170 v24 v26 x2 v30 h21) (fun v33 h34 => (if v33 = 0 then (fg_177_97 h34) else (fg_177_98 1 h34))) else none))))))) else none)))) else none)))))) = r_) : fg_177_34 x0 x1 x2 h = r_ := k_
theorem hd_177_0 {x0 : Value} {x1 : Int32} {x2 : Int32} {h : am_H} {r_ : Option am_O} (k_ : ((am_vR (am_pG 5 x0 h)).bind fun v1 => ((am_vI (am_pG 769 v1 h)).bind fun v3 => (if ¬ v3 = 1 then (fg_177_34 x0 x1 x2 h) else ((am_vR (am_pG 2 x0 h)).bind fun v6 => ((am_vR (am_pG 1798 v6 h)).bind fun v8 => ((am_pA 0 v8 x1 h).bind fun v10 => ((am_vR (am_pG 3 x0 h)).bind fun v12 => ((am_vR (am_pG 1798 v12 h)).bind fun v14 => ((am_pA 0 v14 x2 h).bind fun v16 => (if v10 = v16 then (fg_177_34 x0 x1 x2 h) else some (.inl (some (.int 0), h)))))))))))) = r_) : fg_177_0 x0 x1 x2 h = r_ := k_
theorem hm_177 {y0 : Value} {y1 : Int32} {y2 : Int32} {h : am_H} {r_ : Option am_O} (k_ : fg_177_0 y0 y1 y2 h = r_) : fm_177 y0 y1 y2 h = r_ := k_
theorem srt_ap {A B : xI} {k : Nat} : srt (A ++ B) k = (if k < A.length then srt A k else srt B (k - A.length)) ∧ vlu (A ++ B) k = (if k < A.length then vlu A k else vlu B (k - A.length)) := by
  unfold srt vlu
  rw [List.getD_eq_getElem?_getD, List.getD_eq_getElem?_getD, List.getD_eq_getElem?_getD]
  by_cases c : k < A.length
  · rw [if_pos c, if_pos c, List.getElem?_append_left c]
    exact ⟨rfl, rfl⟩
  · rw [if_neg c, if_neg c, List.getElem?_append_right (by omega)]
    exact ⟨rfl, rfl⟩
theorem srt_tk {P : xI} {i k : Nat} (h : k < i) : srt (P.take i) k = srt P k ∧ vlu (P.take i) k = vlu P k := by
  unfold srt vlu
  rw [List.getD_eq_getElem?_getD, List.getD_eq_getElem?_getD, List.getElem?_take_of_lt h]
  exact ⟨rfl, rfl⟩
theorem srt_dr {P : xI} {j k : Nat} : srt (P.drop j) k = srt P (j + k) ∧ vlu (P.drop j) k = vlu P (j + k) := by
  unfold srt vlu
  rw [List.getD_eq_getElem?_getD, List.getD_eq_getElem?_getD, List.getElem?_drop]
  exact ⟨rfl, rfl⟩
theorem jo_l {P Q : xI} {i j k : Nat} (hi : i ≤ P.length) (h : k < i) : srt (P.take i ++ Q.drop j) k = srt P k ∧ vlu (P.take i ++ Q.drop j) k = vlu P k := by
  have l : (P.take i).length = i := by rw [List.length_take]; omega
  rw [(srt_ap (A := P.take i)).1, (srt_ap (A := P.take i)).2, l, if_pos h, if_pos h]
  exact srt_tk h
theorem jo_r {P Q : xI} {i j k : Nat} (hi : i ≤ P.length) : srt (P.take i ++ Q.drop j) (i + k) = srt Q (j + k) ∧ vlu (P.take i ++ Q.drop j) (i + k) = vlu Q (j + k) := by
  have l : (P.take i).length = i := by rw [List.length_take]; omega
  rw [(srt_ap (A := P.take i)).1, (srt_ap (A := P.take i)).2, l, if_neg (by omega), if_neg (by omega), show i + k - i = k by omega]
  exact srt_dr
theorem jo_len {P Q : xI} {i j : Nat} (hi : i ≤ P.length) : (P.take i ++ Q.drop j).length = i + (Q.length - j) := by
  rw [List.length_append, List.length_take, List.length_drop]
  omega
theorem okI_j {P Q : xI} {i j : Nat} (hP : okI P) (hQ : okI Q) (hi : i ≤ P.length) : okI (P.take i ++ Q.drop j) := fun k hk => by
  rw [jo_len hi] at hk
  by_cases c : k < i
  · rw [(jo_l hi c).1, (jo_l hi c).2]; exact hP k (by omega)
  · obtain ⟨m, rfl⟩ : ∃ m, k = i + m := ⟨k - i, by omega⟩
    rw [(jo_r hi).1, (jo_r hi).2]; exact hQ (j + m) (by omega)
/-- the end is reached with height 1 -/
theorem cdX_z {P : xI} {g : Nat → Option Nat} (h1 : 1 ≤ P.length) (e : cdX P P.length 0 g00 = .inr g) : g P.length = some 1 ∧ g 0 = some 0 ∧ (∀ i, i < P.length → stpO P g i) ∧ (∀ k, 1 ≤ k → k ≤ P.length → ∃ p, p < k ∧ ldsT P p k) := by
  obtain ⟨f1, f2, f3⟩ := cdX_f P.length 0 g00 g (by omega) e
  have gz : g P.length = some 1 := by
    obtain ⟨h, x1, x2, x3, x4⟩ := f2 (P.length - 1) (by omega) (by omega)
    by_cases c : sN (srt P (P.length - 1)) = 17
    · obtain ⟨y1, y2, y3⟩ := x4 (P.length - 1 + 1 + sN (vlu P (P.length - 1))) (.inr ⟨by omega, rfl⟩)
      have z : P.length - 1 + 1 + sN (vlu P (P.length - 1)) = P.length := by omega
      rw [z] at y2 y3
      rw [y2, y3 rfl]
    · obtain ⟨y1, y2, y3⟩ := x4 (P.length - 1 + 1) (.inl ⟨rfl, c⟩)
      have z : P.length - 1 + 1 = P.length := by omega
      rw [z] at y2 y3
      rw [y2, y3 rfl]
  refine ⟨gz, f1 0 0 rfl, fun i hi => f2 i (by omega) hi, fun k k1 k2 => ?_⟩
  obtain ⟨y, hy⟩ : ∃ y, g k = some y := by
    by_cases c : k = P.length
    · exact ⟨1, by rw [c]; exact gz⟩
    · obtain ⟨h, x1, -⟩ := f2 k (by omega) (by omega)
      exact ⟨h, x1⟩
  rcases f3 k y hy with h0 | ⟨p, -, -, p3⟩
  · unfold g00 at h0
    rw [if_neg (by omega)] at h0
    exact absurd h0 (by simp)
  · refine ⟨p, ?_, p3⟩
    rcases p3 with ⟨d1, -⟩ | ⟨-, d2⟩ <;> omega
/-- code that is joined is sound only where the heights at the seam are the same -/
theorem jn_ht {P Q : xI} {gP gQ : Nat → Option Nat} {i j : Nat} (hp : 1 ≤ P.length) (hq : 1 ≤ Q.length) (eP : cdX P P.length 0 g00 = .inr gP) (eQ : cdX Q Q.length 0 g00 = .inr gQ) (hi : i ≤ P.length) (hj : j ≤ Q.length) (hS : sndB 1 (P.take i ++ Q.drop j) = true) : gP i = gQ j := by
  obtain ⟨⟨s1, s2⟩, s3⟩ := snd_1.mp hS
  obtain ⟨p1, p2, p3, p4⟩ := cdX_z hp eP
  obtain ⟨q1, q2, q3, q4⟩ := cdX_z hq eQ
  cases eS : cdX (P.take i ++ Q.drop j) (P.take i ++ Q.drop j).length 0 g00 with
  | inl y => rw [eS] at s3; exact absurd s3 (by simp)
  | inr gS =>
    obtain ⟨r1, r2, r3, r4⟩ := cdX_z s1 eS
    have ls := jo_len (P := P) (Q := Q) (i := i) (j := j) hi
    rw [ls] at r1 r3
    have pre : ∀ k, k ≤ i → gS k = gP k := by
      intro k
      induction k using Nat.strongRecOn with
      | _ k ih =>
        intro hk
        by_cases c : k = 0
        · rw [c, r2, p2]
        · obtain ⟨p, l1, l2⟩ := p4 k (by omega) (by omega)
          obtain ⟨h, x1, x2, x3, x4⟩ := p3 p (by omega)
          obtain ⟨h', y1, y2, y3, y4⟩ := r3 p (by omega)
          have e := ih p l1 (by omega)
          rw [x1, y1] at e
          have e := Option.some.inj e
          subst e
          have jl := jo_l (Q := Q) (j := j) hi (k := p) (by omega)
          have l3 : ldsT (P.take i ++ Q.drop j) p k := by unfold ldsT; rw [jl.1, jl.2]; exact l2
          rw [(x4 k l2).2.1, (y4 k l3).2.1]
          unfold hN2
          rw [jl.1]
    have suf : ∀ m k, k + m = Q.length → j ≤ k → gS (i + (k - j)) = gQ k := by
      intro m
      induction m using Nat.strongRecOn with
      | _ m ih =>
        intro k hk jk
        by_cases c : m = 0
        · rw [show k = Q.length by omega, q1, r1]
        · obtain ⟨h, x1, x2, x3, x4⟩ := q3 k (by omega)
          obtain ⟨h', y1, y2, y3, y4⟩ := r3 (i + (k - j)) (by omega)
          have jr := jo_r (P := P) (Q := Q) (j := j) hi (k := k - j)
          rw [show j + (k - j) = k by omega] at jr
          obtain ⟨t, ht⟩ : ∃ t, ldsT Q k t := by
            by_cases z : sN (srt Q k) = 17
            · exact ⟨_, .inr ⟨by omega, rfl⟩⟩
            · exact ⟨_, .inl ⟨rfl, z⟩⟩
          have kt : k < t := by rcases ht with ⟨d1, -⟩ | ⟨-, d2⟩ <;> omega
          obtain ⟨a1, a2, -⟩ := x4 t ht
          have ht' : ldsT (P.take i ++ Q.drop j) (i + (k - j)) (i + (t - j)) := by
            unfold ldsT
            rw [jr.1, jr.2]
            rcases ht with ⟨d1, d2⟩ | ⟨d1, d2⟩
            · exact .inl ⟨by omega, d2⟩
            · exact .inr ⟨d1, by omega⟩
          obtain ⟨b1, b2, -⟩ := y4 _ ht'
          have e := ih (Q.length - t) (by omega) t (by omega) (by omega)
          rw [a2, b2] at e
          have e := Option.some.inj e
          unfold hN2 at e
          rw [jr.1] at e y2
          rw [x1, y1]
          congr 1
          omega
    have e1 := pre i (Nat.le_refl _)
    have e2 := suf (Q.length - j) j (by omega) (Nat.le_refl _)
    rw [Nat.sub_self, Nat.add_zero] at e2
    rw [← e1, e2]
set_option maxRecDepth 100000 in
set_option maxHeartbeats 4000000 in
theorem s177 {V : Nat → Nat → Value} {I : Nat → Nat → Int32} {L : Nat → Nat → Int64} {R : Nat → Nat → Option Nat} {tl : am_H} {A it B ib kd ln i j rc ac : Nat} {P Q : xT} (hx : cxC V I tl A it kd ln rc ac P) (h6 : V 89 6 = .ref B) (hB : 130 < B) (hib : 130 < ib) (ht : srcP V I tl B ib kd ln Q) (hk : kd ≤ 3) (hk2 : kd ≠ 2) (hi : i ≤ P.length) (hj : j ≤ Q.length) : ∃ W J b, fg_177_34 (.ref 89) (nI i) (nI j) (fx V I L R ++ tl) = some (.inl (some (.int (bI b)), fx W J L R ++ tl)) ∧ (b = true ↔ i + (Q.length - j) ≤ 60) ∧ (b = true → hold W J 90 kd ln (P.take i ++ Q.drop j)) ∧ fr1 90 V W I J := by
  obtain ⟨h5, h7, h8, h1, h2, hs, hA, hi'⟩ := hx
  obtain ⟨o1, o2, o3, o4, l60⟩ := src_ok (L := L) (R := R) hs
  have rb : ∀ (W : Nat → Nat → Value) (J : Nat → Nat → Int32), fr1 90 V W I J → am_vR (am_pG 5 (.ref 89) (fx W J L R ++ tl)) = some (.ref A) := fun W J f => rVR qv_89_5 ((f.1 89 5 (by decide)).trans h5)
  have rm : ∀ (W : Nat → Nat → Value) (J : Nat → Nat → Int32), fr1 90 V W I J → am_vR (am_pG 6 (.ref 89) (fx W J L R ++ tl)) = some (.ref B) := fun W J f => rVR qv_89_6 ((f.1 89 6 (by decide)).trans h6)
  obtain ⟨W1, J1, e1, d1, f1⟩ := s34_90 (V := V) (I := I) (L := L) (R := R) (tl := tl) (kd := kd) (ln := ln) (nI kd) (nI ln) rfl rfl hk hk2
  have s1 := srcP_f f1 (by omega) (by omega) hs
  obtain ⟨W2, J2, e2, d2, f2⟩ := s170_90 (L := L) (R := R) (tl := tl) (i := 0) (j := i) s1 d1 (by omega) hi (by show 0 + _ ≤ 60; omega) 0 (nI i) rfl rfl
  have l2 : ([] ++ seg P 0 i).length = i := by rw [List.nil_append, seg_0, List.length_take]; omega
  have f12 := fr1_t f1 f2
  have s2 := srcP_f f12 (by omega) (by omega) ht
  have q2' := (src_ok (L := L) (R := R) s2).2.1
  have q60 := (src_ok (L := L) (R := R) ht).2.2.2.2
  have st0 : ∀ o, am_cI true (fm_170 (.ref 90) (.ref B) (nI j) (nI Q.length) (fx W2 J2 L R ++ tl)) (fun v33 h34 => (if v33 = 0 then (fg_177_97 h34) else (fg_177_98 1 h34))) = o → fg_177_34 (.ref 89) (nI i) (nI j) (fx V I L R ++ tl) = o := fun o e => by
    apply hd_177_34
    exact ev_b (rdR rfl) (ev_b (rb V I fr1_r) (ev_b o3 (ev_b (rb V I fr1_r) (ev_b o4 (ev_i rfl (ev_cV e1 (ev_b (rdR rfl) (ev_b (rb W1 J1 f1) (ev_i rfl (ev_cI e2 (ev_f (by decide) (ev_b (rdR rfl) (ev_b (rm W2 J2 f12) (ev_b (rm W2 J2 f12) (ev_b q2' (ev_i rfl e))))))))))))))))
  by_cases q : i + (Q.length - j) ≤ 60
  case neg => exact ⟨W2, J2, false, st0 _ (ev_cI (s170f_90 (L := L) (R := R) (i := j) (j := Q.length) s2 d2 hj (Nat.le_refl _) (by rw [l2]; omega) (by rw [l2]; omega) _ _ rfl rfl) (ev_t rfl (hd_177_97 (hd_177_98 (ev_i rfl rfl))))), ⟨fun e => Bool.noConfusion e, fun e => absurd e q⟩, fun e => Bool.noConfusion e, f12⟩
  obtain ⟨W3, J3, e3, d3, f3⟩ := s170_90 (L := L) (R := R) (tl := tl) (i := j) (j := Q.length) s2 d2 hj (Nat.le_refl _) (by rw [l2]; omega) _ _ rfl rfl
  rw [List.nil_append, seg_0, seg_nn] at d3
  exact ⟨W3, J3, true, st0 _ (ev_cI e3 (ev_f (by decide) (hd_177_98 (ev_i rfl rfl)))), ⟨fun _ => q, fun _ => rfl⟩, fun _ => d3, fr1_t f12 f3⟩
set_option maxRecDepth 100000 in
set_option maxHeartbeats 4000000 in
theorem m_9 {V : Nat → Nat → Value} {I : Nat → Nat → Int32} {L : Nat → Nat → Int64} {R : Nat → Nat → Option Nat} {tl : am_H} {N A it B ib c : Nat} {P Q : xT} {gP gQ : Nat → Option Nat} (hN : 400 < N) (hw : wt V) (hx : cxC V I tl A it 1 0 9 (Q.length + 1) P) (h6 : V 89 6 = .ref B) (hB : 130 < B) (hib : 130 < ib) (ht : srcP V I tl B ib 1 0 Q) (hoP : okI (tI P)) (hoQ : okI (tI Q)) (hp : 1 ≤ P.length) (hq : 1 ≤ Q.length) (eP : cdX (tI P) (tI P).length 0 g00 = .inr gP) (eQ : cdX (tI Q) (tI Q).length 0 g00 = .inr gQ) (h101 : htF (I 101) P.length gP) (h109 : htF (I 109) Q.length gQ) (hc : c < (P.length + 1) * (Q.length + 1)) : ∃ W J b, fm_163 N (.ref 89) (nI c) (fx V I L R ++ tl) = some (.inl (some (.int (bI b)), fx W J L R ++ tl)) ∧ outM W J 1 0 (cdP1 1 (tI P) (tI Q) c) b ∧ frM V W I J := by
  have hx0 := hx
  obtain ⟨h5, h7, h8, h1, h2, hs, hA, hi⟩ := hx
  obtain ⟨o1, o2, o3, o4, l60⟩ := src_ok (L := L) (R := R) hs
  have q60 := (src_ok (L := L) (R := R) ht).2.2.2.2
  have rb : am_vR (am_pG 5 (.ref 89) (fx V I L R ++ tl)) = some (.ref A) := rVR qv_89_5 h5
  have c2 : c < 61 * 61 := Nat.lt_of_lt_of_le hc (Nat.mul_le_mul (by omega) (by omega))
  have hk : c / (Q.length + 1) < P.length + 1 := Nat.div_lt_of_lt_mul (by rw [Nat.mul_comm]; exact hc)
  have d5 : nI c / nI (Q.length + 1) = nI (c / (Q.length + 1)) := nI_dv (by omega) (by omega)
  have m5 : nI c - nI c / nI (Q.length + 1) * nI (Q.length + 1) = nI (c % (Q.length + 1)) := nI_md (by omega) (by omega)
  have hj : c % (Q.length + 1) < Q.length + 1 := Nat.mod_lt _ h1
  have n0 : nI (Q.length + 1) ≠ 0 := fun e => by have := (nI_eq (b := 0) (by omega) (by decide)).mp e; omega
  obtain ⟨i, ei⟩ : ∃ k, k = c / (Q.length + 1) := ⟨_, rfl⟩
  obtain ⟨j, ej⟩ : ∃ y, y = c % (Q.length + 1) := ⟨_, rfl⟩
  rw [← ei] at d5 hk
  rw [← ej] at m5 hj
  have eti : (tI P).take i ++ (tI Q).drop j = tI (P.take i ++ Q.drop j) := by rw [tI_app, tI_take, tI_drop]
  have lj : (P.take i ++ Q.drop j).length = i + (Q.length - j) := by rw [List.length_append, List.length_take, List.length_drop]; omega
  obtain ⟨W, J, b, e, g, d, f⟩ := s177 (L := L) (R := R) (i := i) (j := j) hx0 h6 hB hib ht (by omega) (by omega) (by omega) (by omega)
  have ecd : cdP1 1 (tI P) (tI Q) c = gS2 1 (tI (P.take i ++ Q.drop j)) := by
    unfold cdP1
    rw [tI_len, ← ei, ← ej, eti]
  have no : ∀ (W : Nat → Nat → Value) (J : Nat → Nat → Int32), fg_163_399 N (fx W J L R ++ tl) = some (.inl (some (.int (bI false)), fx W J L R ++ tl)) := fun W J => hd_163_399 (hd_163_400 (ev_i rfl rfl))
  have st0 : ∀ (x : Int32) (W : Nat → Nat → Value) (J : Nat → Nat → Int32) o, fm_177 (.ref 89) (nI i) (nI j) (fx V I L R ++ tl) = some (.inl (some (.int x), fx W J L R ++ tl)) → (if x = 0 then (fg_163_399 N (fx W J L R ++ tl)) else ((am_vR (am_pG 4 (.ref 89) (fx W J L R ++ tl))).bind fun v128 => ((am_vR (am_pG 0 (.ref 89) (fx W J L R ++ tl))).bind fun v130 => (if am_pOk 7 v128 (fx W J L R ++ tl) then am_cI true (fm_52 N v128 v130 (fx W J L R ++ tl)) (fun v133 h134 => (if 0 ≤ v133 then (fg_163_399 N h134) else (fg_163_400 N 1 h134))) else none)))) = o → fm_163 N (.ref 89) (nI c) (fx V I L R ++ tl) = o := fun x W J o e k_ => by
    have e : fm_177 (.ref 89) (nI c / nI (Q.length + 1)) (nI c - nI c / nI (Q.length + 1) * nI (Q.length + 1)) (fx V I L R ++ tl) = some (.inl (some (.int x), fx W J L R ++ tl)) := by rw [m5, d5]; exact e
    apply hm_163
    apply hd_163_0
    exact ev_b (rdI h8) (ev_t (nI_le (a := 1) h1 (by omega)) (ev_b (rdI h7) (ev_f (by decide) (ev_f (by decide) (ev_f (by decide) (ev_f (by decide) (ev_f (by decide) (ev_f (by decide) (ev_f (by decide) (ev_f (by decide) (ev_f (by decide) (ev_t rfl (ev_b (rdI h8) (ev_t n0 (ev_b (rdI h8) (ev_t n0 (ev_i rfl (ev_cI e k_))))))))))))))))))
  have rP : am_pA 0 (.ref 101) (nI i) (fx V I L R ++ tl) = some (hI (gP i)) := by rw [qa_101 (by omega)]; exact congrArg some (h101 i (by omega)).1
  have rQ : am_pA 0 (.ref 109) (nI j) (fx V I L R ++ tl) = some (hI (gQ j)) := by rw [qa_109 (by omega)]; exact congrArg some (h109 j (by omega)).1
  have oP := fun h => (h101 i (by omega)).2 h
  have oQ := fun h => (h109 j (by omega)).2 h
  have iff : hI (gP i) = hI (gQ j) ↔ gP i = gQ j := by
    refine ⟨fun h => ?_, fun h => by rw [h]⟩
    cases a : gP i with
    | none =>
      cases b : gQ j with
      | none => rfl
      | some y =>
        rw [a, b] at h
        have := oQ y b
        exact absurd h (by show ¬ (-1 : Int32) = nI y; rcases (by omega : y = 0 ∨ y = 1 ∨ y = 2 ∨ y = 3 ∨ y = 4 ∨ y = 5 ∨ y = 6 ∨ y = 7 ∨ y = 8) with rfl | rfl | rfl | rfl | rfl | rfl | rfl | rfl | rfl <;> decide)
    | some x =>
      have x8 := oP x a
      cases b : gQ j with
      | none =>
        rw [a, b] at h
        exact absurd h (by show ¬ nI x = (-1 : Int32); rcases (by omega : x = 0 ∨ x = 1 ∨ x = 2 ∨ x = 3 ∨ x = 4 ∨ x = 5 ∨ x = 6 ∨ x = 7 ∨ x = 8) with rfl | rfl | rfl | rfl | rfl | rfl | rfl | rfl | rfl <;> decide)
      | some y =>
        rw [a, b] at h
        have y8 := oQ y b
        rw [(nI_eq (by omega) (by omega)).mp h]
  by_cases q : gP i = gQ j
  case neg =>
    have ns : sndB 1 (tI (P.take i ++ Q.drop j)) = false := by
      cases h : sndB 1 (tI (P.take i ++ Q.drop j)) with
      | false => rfl
      | true =>
        rw [← eti] at h
        exact absurd (jn_ht (by rw [tI_len]; exact hp) (by rw [tI_len]; exact hq) eP eQ (by rw [tI_len]; omega) (by rw [tI_len]; omega) h) q
    refine ⟨V, I, false, st0 0 V I _ ?_ (ev_t rfl (no V I)), out_n (by rw [ecd]; unfold gS2; rw [ns]; rfl), frM_r⟩
    apply hm_177
    apply hd_177_0
    exact ev_b rb (ev_b o3 (ev_f (fun e => e rfl) (ev_b (rdR rfl) (ev_b (rdR rfl) (ev_b rP (ev_b (rdR rfl) (ev_b (rdR rfl) (ev_b rQ (ev_f (fun e => q (iff.mp e)) rfl)))))))))
  have e : fm_177 (.ref 89) (nI i) (nI j) (fx V I L R ++ tl) = some (.inl (some (.int (bI b)), fx W J L R ++ tl)) := by
    apply hm_177
    apply hd_177_0
    exact ev_b rb (ev_b o3 (ev_f (fun e => e rfl) (ev_b (rdR rfl) (ev_b (rdR rfl) (ev_b rP (ev_b (rdR rfl) (ev_b (rdR rfl) (ev_b rQ (ev_t (iff.mpr q) e)))))))))
  cases b with
  | false =>
    have ns : sndB 1 (tI (P.take i ++ Q.drop j)) = false := by
      cases h : sndB 1 (tI (P.take i ++ Q.drop j)) with
      | false => rfl
      | true => exact absurd (g.mpr (by have := (snd_1.mp h).1.2; rw [tI_len, lj] at this; exact this)) (fun e => Bool.noConfusion e)
    exact ⟨W, J, false, st0 _ W J _ e (ev_t rfl (no W J)), out_n (by rw [ecd]; unfold gS2; rw [ns]; rfl), frM_9 f⟩
  | true =>
    have hg := g.mp rfl
    obtain ⟨W2, J2, v, e2, v0, v1, d2, f2⟩ := chk90 (L := L) (R := R) (tl := tl) (N := N) hN (f.2.2 hw) (d rfl) (by omega) (by rw [← eti]; exact okI_j hoP hoQ (by rw [tI_len]; omega))
    cases hS : sndB 1 (tI (P.take i ++ Q.drop j)) with
    | false => exact ⟨_, _, false, st0 _ W J _ e (ev_f (by decide) (ev_b (rdR rfl) (ev_b (rdR rfl) (ev_i rfl (ev_cI e2 (ev_t (v0 hS) (no _ _))))))), out_n (by rw [ecd]; unfold gS2; rw [hS]; rfl), frM_t (frM_9 f) f2⟩
    | true => exact ⟨_, _, true, st0 _ W J _ e (ev_f (by decide) (ev_b (rdR rfl) (ev_b (rdR rfl) (ev_i rfl (ev_cI e2 (ev_f (v1 hS) (hd_163_400 (ev_i rfl rfl)))))))), out_y (by rw [ecd]; unfold gS2; rw [hS]; rfl) d2 (by omega), frM_t (frM_9 f) f2⟩
set_option maxRecDepth 100000 in
set_option maxHeartbeats 4000000 in
theorem m_19 {V : Nat → Nat → Value} {I : Nat → Nat → Int32} {L : Nat → Nat → Int64} {R : Nat → Nat → Option Nat} {tl : am_H} {N A it B ib ln c : Nat} {P Q : xT} (hx : cxC V I tl A it 3 ln 19 (Q.length + 1) P) (h6 : V 89 6 = .ref B) (hB : 130 < B) (hib : 130 < ib) (ht : srcP V I tl B ib 3 ln Q) (hc : c < (P.length + 1) * (Q.length + 1)) : ∃ W J b, fm_163 N (.ref 89) (nI c) (fx V I L R ++ tl) = some (.inl (some (.int (bI b)), fx W J L R ++ tl)) ∧ outM W J 3 ln (cdP1 3 (tI P) (tI Q) c) b ∧ frM V W I J := by
  have hx0 := hx
  obtain ⟨h5, h7, h8, h1, h2, hs, hA, hi⟩ := hx
  obtain ⟨o1, o2, o3, o4, l60⟩ := src_ok (L := L) (R := R) hs
  have q60 := (src_ok (L := L) (R := R) ht).2.2.2.2
  have rb : am_vR (am_pG 5 (.ref 89) (fx V I L R ++ tl)) = some (.ref A) := rVR qv_89_5 h5
  have c2 : c < 61 * 61 := Nat.lt_of_lt_of_le hc (Nat.mul_le_mul (by omega) (by omega))
  have hk : c / (Q.length + 1) < P.length + 1 := Nat.div_lt_of_lt_mul (by rw [Nat.mul_comm]; exact hc)
  have d5 : nI c / nI (Q.length + 1) = nI (c / (Q.length + 1)) := nI_dv (by omega) (by omega)
  have m5 : nI c - nI c / nI (Q.length + 1) * nI (Q.length + 1) = nI (c % (Q.length + 1)) := nI_md (by omega) (by omega)
  have hj : c % (Q.length + 1) < Q.length + 1 := Nat.mod_lt _ h1
  have n0 : nI (Q.length + 1) ≠ 0 := fun e => by have := (nI_eq (b := 0) (by omega) (by decide)).mp e; omega
  obtain ⟨i, ei⟩ : ∃ k, k = c / (Q.length + 1) := ⟨_, rfl⟩
  obtain ⟨j, ej⟩ : ∃ y, y = c % (Q.length + 1) := ⟨_, rfl⟩
  rw [← ei] at d5 hk
  rw [← ej] at m5 hj
  have eti : (tI P).take i ++ (tI Q).drop j = tI (P.take i ++ Q.drop j) := by rw [tI_app, tI_take, tI_drop]
  have lj : (P.take i ++ Q.drop j).length = i + (Q.length - j) := by rw [List.length_append, List.length_take, List.length_drop]; omega
  obtain ⟨W, J, b, e, g, d, f⟩ := s177 (L := L) (R := R) (i := i) (j := j) hx0 h6 hB hib ht (by omega) (by omega) (by omega) (by omega)
  have ecd : cdP1 3 (tI P) (tI Q) c = if i + (Q.length - j) ≤ 40 then some (tI (P.take i ++ Q.drop j)) else none := by
    have s3 : ∀ X : xI, sndB 3 X = decide (X.length ≤ 40) := fun X => rfl
    unfold cdP1 gS2
    rw [tI_len, ← ei, ← ej, eti, s3, tI_len, lj]
    by_cases q : i + (Q.length - j) ≤ 40
    · rw [if_pos q, if_pos (decide_eq_true q)]
    · rw [if_neg q, if_neg (fun e => q (of_decide_eq_true e))]
  have e : fm_177 (.ref 89) (nI c / nI (Q.length + 1)) (nI c - nI c / nI (Q.length + 1) * nI (Q.length + 1)) (fx V I L R ++ tl) = some (.inl (some (.int (bI b)), fx W J L R ++ tl)) := by
    rw [m5, d5]
    apply hm_177
    apply hd_177_0
    exact ev_b rb (ev_b o3 (ev_t (by decide) e))
  have no : ∀ (W : Nat → Nat → Value) (J : Nat → Nat → Int32), fg_163_535 N (fx W J L R ++ tl) = some (.inl (some (.int (bI false)), fx W J L R ++ tl)) := fun W J => hd_163_535 (hd_163_536 (ev_i rfl rfl))
  cases b with
  | false =>
    refine ⟨W, J, false, ?_, out_n (by rw [ecd, if_neg (fun h => absurd (g.mpr (by omega)) (fun e => Bool.noConfusion e))]), frM_9 f⟩
    apply hm_163
    apply hd_163_0
    exact ev_b (rdI h8) (ev_t (nI_le (a := 1) h1 (by omega)) (ev_b (rdI h7) (ev_f (by decide) (ev_f (by decide) (ev_f (by decide) (ev_f (by decide) (ev_f (by decide) (ev_f (by decide) (ev_f (by decide) (ev_f (by decide) (ev_f (by decide) (ev_f (by decide) (ev_f (by decide) (ev_f (by decide) (ev_f (by decide) (ev_f (by decide) (ev_f (by decide) (ev_f (by decide) (ev_f (by decide) (ev_f (by decide) (ev_f (by decide) (ev_b (rdI h8) (ev_t n0 (ev_b (rdI h8) (ev_t n0 (ev_i rfl (ev_cI e (ev_t rfl (no W J)))))))))))))))))))))))))))))
  | true =>
    have hg := g.mp rfl
    by_cases q : i + (Q.length - j) ≤ 40
    · refine ⟨W, J, true, ?_, out_y (by rw [ecd, if_pos q]) (d rfl) (by omega), frM_9 f⟩
      apply hm_163
      apply hd_163_0
      exact ev_b (rdI h8) (ev_t (nI_le (a := 1) h1 (by omega)) (ev_b (rdI h7) (ev_f (by decide) (ev_f (by decide) (ev_f (by decide) (ev_f (by decide) (ev_f (by decide) (ev_f (by decide) (ev_f (by decide) (ev_f (by decide) (ev_f (by decide) (ev_f (by decide) (ev_f (by decide) (ev_f (by decide) (ev_f (by decide) (ev_f (by decide) (ev_f (by decide) (ev_f (by decide) (ev_f (by decide) (ev_f (by decide) (ev_f (by decide) (ev_b (rdI h8) (ev_t n0 (ev_b (rdI h8) (ev_t n0 (ev_i rfl (ev_cI e (ev_f (by decide) (ev_b (rdR rfl) (ev_b (rdI (d rfl).2.2.1) (ev_f (by rw [lj]; exact nI_nlt (a := 40) q (by omega)) (hd_163_536 (ev_i rfl rfl)))))))))))))))))))))))))))))))))
    · refine ⟨W, J, false, ?_, out_n (by rw [ecd, if_neg q]), frM_9 f⟩
      apply hm_163
      apply hd_163_0
      exact ev_b (rdI h8) (ev_t (nI_le (a := 1) h1 (by omega)) (ev_b (rdI h7) (ev_f (by decide) (ev_f (by decide) (ev_f (by decide) (ev_f (by decide) (ev_f (by decide) (ev_f (by decide) (ev_f (by decide) (ev_f (by decide) (ev_f (by decide) (ev_f (by decide) (ev_f (by decide) (ev_f (by decide) (ev_f (by decide) (ev_f (by decide) (ev_f (by decide) (ev_f (by decide) (ev_f (by decide) (ev_f (by decide) (ev_f (by decide) (ev_b (rdI h8) (ev_t n0 (ev_b (rdI h8) (ev_t n0 (ev_i rfl (ev_cI e (ev_f (by decide) (ev_b (rdR rfl) (ev_b (rdI (d rfl).2.2.1) (ev_t (by rw [lj]; exact (nI_ltI (a := 40) (by omega) (by omega)).mpr (by omega)) (no W J))))))))))))))))))))))))))))))))
