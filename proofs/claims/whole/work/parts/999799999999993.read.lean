/-! ===== read(kind): the call ===== -/
theorem ped_0 {b : Nat} : ped b 0 (-1) (-1) (-1) (-1) := ⟨0, by decide, rfl, .inl rfl, .inl rfl, fun h => absurd h (by decide), fun h => absurd h (by decide), fun h => absurd h (by decide), .inl rfl⟩
theorem in_3l {a : Int32} (h : a < 0) : pv_327 a.toInt64 0 3 = 0 := in_lo (w64lt (b := 0) h)
theorem in_3h {a : Int32} (h : ¬ a ≤ 3) : pv_327 a.toInt64 0 3 = 0 := in_hi (w64lt (a := 3) (Int32.not_le.mp h))
theorem in_3s {a : Int32} (h1 : ¬ a < 0) (h2 : a ≤ 3) : pv_327 a.toInt64 0 3 = 1 := in_ok (w64le (a := 0) (Int32.not_lt.mp h1)) (w64le (b := 3) h2)
set_option maxRecDepth 100000 in
set_option maxHeartbeats 4000000 in
theorem u_1 {V : Nat → Nat → Value} {I : Nat → Nat → Int32} {L : Nat → Nat → Int64} {R : Nat → Nat → Option Nat} {tl : am_H} {n p j : Nat} (hr : rel V I L R tl n p) (hm : room tl n p j) {N : Nat} (hN : 5000 < N) (a1 : Int32) : ∃ h', opBI (fm_30 N (.ref 0) a1 (.ref 268) (fx V I L R ++ tl)) (fun h1 => fm_326 N (.ref 174) a1 h1) vfI h' ∧ invW (j + 1) h' := by
  obtain ⟨b1, b2, b3⟩ := hr.1
  have hwt := rel_w hr
  have err : ∀ (x : Int32) (c : Nat), (c = 1 ∨ c = 2) → fm_30 N (.ref 0) x (.ref 268) (fx V I L R ++ tl) = some (.inl (some (.int (nI c)), fx V I L R ++ (tl ++ [am_dummy]))) → (∀ t : am_H, fm_326 N (.ref 174) x (fx V I L R ++ t) = fg_326_32 N (.ref 174) x (.ref 174) (nI c) (fx V I L R ++ t)) → ∃ h', opBI (fm_30 N (.ref 0) x (.ref 268) (fx V I L R ++ tl)) (fun h1 => fm_326 N (.ref 174) x h1) vfI h' ∧ invW (j + 1) h' := fun x c hc e er => by
    refine ⟨_, opBI_err (c := nI c) (b := 0) (by rcases hc with rfl | rfl <;> decide) (tl := tl ++ [am_dummy]) e ?_, inv_mk (rel_thr (nI c) (rel_dum hr)) (room_dum hm)⟩
    refine (er _).trans ?_
    apply hd_326_32
    exact ev_b qp_174_0 (ev_b (a := nI c) rfl (ev_f (by rcases hc with rfl | rfl <;> decide) rfl))
  by_cases z1 : a1 < 0 ∨ ¬ a1 ≤ 3
  · refine err a1 1 (.inl rfl) ?_ (fun t => ?_)
    · have e : fm_31 N (.ref 0) a1 (fx V I L R ++ tl) = some (.inr (0, (fx V I L R ++ (tl ++ [am_dummy])))) := by
        rw [← List.append_assoc]
        apply hm_31
        apply hd_31_0
        by_cases z : a1 < 0
        · exact ev_t z (hd_31_9 rfl)
        · exact ev_f z (ev_f (z1.resolve_left z) (hd_31_9 rfl))
      apply hm_30
      apply hd_30_0
      refine ev_i rfl ?_
      rw [e]
      rfl
    · apply hm_326
      apply hd_326_0
      refine ev_cI (pe_327 _ _ _ _) ?_
      rw [show pv_327 a1.toInt64 0 3 = 0 from z1.elim in_3l in_3h]
      exact ev_f (fun u => u rfl) rfl
  obtain ⟨kd, k3, rfl⟩ : ∃ Q, Q ≤ 3 ∧ a1 = nI Q := by
    rcases dich a1 (n := 4) (by omega) with h | ⟨b, hb, rfl⟩
    · refine absurd ?_ z1
      rcases h with h | h
      · exact .inl h
      · exact .inr (fun q => absurd (Int32.le_trans h q) (by decide))
    · exact ⟨b, by omega, rfl⟩
  have n1 : ¬ nI kd < 0 := fun q => z1 (.inl q)
  have n2 : nI kd ≤ 3 := Classical.not_not.mp (fun q => z1 (.inr q))
  by_cases c6 : n = 600
  · subst c6
    refine err (nI kd) 2 (.inr rfl) ?_ (fun t => ?_)
    · have e : fm_31 N (.ref 0) (nI kd) (fx V I L R ++ tl) = some (.inr (1, (fx V I L R ++ (tl ++ [am_dummy])))) := by
        apply hm_31
        apply hd_31_0
        refine ev_f n1 (ev_t n2 (ev_i rfl ?_))
        rw [c_32n b2]
        rfl
      apply hm_30
      apply hd_30_0
      refine ev_i rfl ?_
      rw [e]
      rfl
    · apply hm_326
      apply hd_326_0
      refine ev_cI (pe_327 _ _ _ _) ?_
      rw [in_3s n1 n2]
      exact ev_t (by decide) (ev_b (rdI b3) (ev_f (fun u => u rfl) rfl))
  have hn : n < 600 := by omega
  -- the text
  obtain ⟨m, m240, t1, t2, tj⟩ := hr.2.2.1
  obtain ⟨T, eT⟩ : ∃ T : Nat → Nat, T = fun p => if p < m then (I 3 p).toNatClampNeg else 0 := ⟨_, rfl⟩
  have ht : tqT T m (I 3) := by
    refine ⟨m240, fun p hp => ?_, fun p hp => by rw [eT]; exact if_neg (by omega)⟩
    obtain ⟨-, c, c1, c2⟩ := tj p hp
    have : T p = c := by
      rw [eT]
      show (if p < m then (I 3 p).toNatClampNeg else 0) = c
      rw [if_pos hp, c2, nI_clamp (by omega)]
    rw [this]
    exact ⟨c2, c1⟩
  have ht2 : tqT T m (I 218) := ⟨m240, fun p hp => by rw [(tj p hp).1]; exact ht.2.1 p hp, ht.2.2⟩
  have hT : ∀ p, T p < 256 := tq_256 ht
  obtain ⟨W1, J1, x, e33, f1, l1, r1⟩ := c_33 (V := V) (I := I) (L := L) (R := R) (tl := tl) (N := N) hN hwt t1 ht k3
  have i218 : J1 218 = I 218 := f1.2.1 218 (by decide) (by decide) (by decide)
  have w1 := f1.2.2 hwt
  have e31 : ∀ o, (if x < 0 then ((am_vR (am_pG 2831 (.ref 0) (fx W1 J1 L R ++ tl))).bind fun v16 => (if am_pOk 11 (.ref 0) (fx W1 J1 L R ++ tl) then am_cI true (fm_59 (.ref 0) v16 0 ((-1)) ((-1)) ((-1)) ((-1)) 0 (fx W1 J1 L R ++ tl)) (fun v19 h20 => (fg_31_61 N v19 h20)) else none)) else (fg_31_61 N (((-1) - x)) (fx W1 J1 L R ++ tl))) = o → fm_31 N (.ref 0) (nI kd) (fx V I L R ++ tl) = o := fun o k_ => by
    apply hm_31
    apply hd_31_0
    exact ev_f n1 (ev_t n2 (ev_i rfl (ev_cV (c_32 b2 hn) (ev_b (rdR rfl) (ev_b (rdR rfl) (ev_i rfl (ev_cI e33 k_)))))))
  have er26 : ∀ (Y : Nat → Nat → Value) (K : Nat → Nat → Int32) (M : Nat → Nat → Int64) (S : Nat → Nat → Option Nat) (t : am_H), Y 174 1 = .int (nI n) → ∀ o, fg_326_32 N (.ref 174) (nI kd) (.ref 174) 0 (fx Y K M S ++ t) = o → fm_326 N (.ref 174) (nI kd) (fx Y K M S ++ t) = o := fun Y K M S t h1 o k_ => by
    apply hm_326
    apply hd_326_0
    refine ev_cI (pe_327 _ _ _ _) ?_
    rw [in_3s n1 n2]
    exact ev_t (by decide) (ev_b (rdI h1) (ev_t (fun e => by have := (nI_eq (b := 600) (by omega) (by decide)).mp e; omega) k_))
  have vJ : ∀ j, j ∈ vRel 174 → ¬ (j = 0 ∨ (13 ≤ j ∧ j ≤ 15) ∨ (69 ≤ j ∧ j ≤ 77)) := by decide
  have iJ : ∀ y, y ∈ iRel → ¬ (y = 186 ∨ y = 187 ∨ y = 194 ∨ y = 211 ∨ (219 ≤ y ∧ y ≤ 222)) ∧ y ≠ 168 ∧ y ≠ 4 ∧ y ≠ 12 := by decide
  have lJ : ∀ y, y ∈ lRel → y ≠ 268 := by decide
  have nR : ∀ a j, j ∈ vRel a → a ≠ 167 ∧ a ≠ 5 := fun a j h => ⟨fun e => by subst e; exact absurd h List.not_mem_nil, fun e => by subst e; exact absurd h List.not_mem_nil⟩
  -- what both leave, the text emptied
  have kv : ∀ (Y W2 : Nat → Nat → Value) (K J2 : Nat → Nat → Int32), frRq Y W2 K J2 → (∀ a j, a ≠ 0 → Y a j = W1 a j) → (∀ a j, j ∈ vRel a → a ≠ 0 → ¬ (a = 2 ∧ j = 1) → ¬ (a = 174 ∧ j = 68) → vup W2 174 68 (.int 0) a j = V a j) := fun Y W2 K J2 f h a j hj h0 h1 h2 => by
    obtain ⟨q1, q2⟩ := nR a j hj
    rw [vup_o h2]
    have e1 : W2 a j = Y a j := f.1 a j (fun q => by
      obtain ⟨qa, qb⟩ := q
      subst qa
      exact vJ j hj qb)
    rw [e1, h a j h0]
    by_cases z : a = 2
    · subst z
      have : j = 1 := by
        have key : ∀ j, j ∈ vRel 2 → j = 1 := by decide
        exact key j hj
      exact absurd ⟨rfl, this⟩ h1
    · exact f1.1 a j z q1 q2
  have rT : ∀ (W2 : Nat → Nat → Value) (J2 : Nat → Nat → Int32), W2 2 1 = .int 0 → rTx (vup W2 174 68 (.int 0)) J2 := fun W2 J2 h => ⟨0, by omega, (vup_na (by decide)).trans h, vup_eq, fun j hj => absurd hj (by omega)⟩
  cases q : rdP kd T m with
  | inl e =>
    rw [q] at r1
    obtain ⟨em, rfl⟩ := r1
    obtain ⟨W2, J2, go, f2, q0, q13, r2⟩ := r_326 (V := W1) (I := J1) (L := outL L ((-1 : Int32) - nI e).toInt64) (R := R) (tl := tl) (N := N) hN w1 ((f1.1 174 68 (by decide) (by decide) (by decide)).trans t2) (by rw [i218]; exact ht2) k3
    rw [q] at r2
    obtain ⟨-, e70⟩ := r2
    have nn : ¬ nI e < 0 := Int32.not_lt.mpr (nI_pos' (by omega))
    have w2 := f2.2.2 w1
    have W174 : W1 174 1 = .int (nI n) := (f1.1 174 1 (by decide) (by decide) (by decide)).trans b3
    have hrel : rel (vup W2 174 68 (.int 0)) J2 (outL L ((-1 : Int32) - nI e).toInt64) R tl n p := by
      refine rel_cx (fun a jj hj h1 h2 => ?_) (rT W2 J2 ((f2.1 2 1 (by omega)).trans l1)) (fun y hy => (f2.2.1 y (iJ y hy).1).trans (f1.2.1 y (iJ y hy).2.1 (iJ y hy).2.2.1 (iJ y hy).2.2.2)) (fun y hy => lup_na (lJ y hy)) (wt_i w2 (by decide)) hr
      by_cases z : a = 0
      · subst z
        rw [vup_na (by decide), f2.1 0 jj (by omega)]
        exact f1.1 0 jj (by decide) (by decide) (by decide)
      · exact kv W1 W2 J1 J2 f2 (fun _ _ _ => rfl) a jj hj z h1 h2
    refine ⟨_, opBI_g (v := -1 - nI e) (W := W1) (J := J1) (M := outL L ((-1 : Int32) - nI e).toInt64) (R1 := R) (t1 := tl) (W' := vup W2 174 68 (.int 0)) (J' := J2) (M' := outL L ((-1 : Int32) - nI e).toInt64) (R2 := R) (t2 := tl) ?_ (er26 _ _ _ _ _ W174 _ (go _ (hd_326_113 (ev_b qp_174_68 (ev_b (rdI ((vup_o (by decide)).trans e70)) (ev_f nn (ev_b (rdI ((vup_o (by decide)).trans e70)) (hd_326_144 rfl)))))))) ((vup_o (by decide)).trans q0) outL_at, inv_mk hrel (room_up hm)⟩
    have e := e31 _ (ev_f nn (hd_31_61 rfl))
    apply hm_30
    apply hd_30_0
    refine ev_i rfl ?_
    rw [e]
    exact ev_b out_s rfl
  | inr a =>
    rw [q] at r1
    obtain ⟨rfl, hE⟩ := r1
    obtain ⟨gT, ln0⟩ := rdP_gd hT k3 q
    have v01 : W1 0 1 = .int (nI n) := (f1.1 0 1 (by decide) (by decide) (by decide)).trans b2
    have eb := bear_c (V := W1) (I := J1) (L := L) (R := R) (tl := tl) (n := n) (kd := kd) (ln := a.1) (sz := a.2.length) hE.1 hE.2.1 hE.2.2.1 hE.2.2.2.1 k3 (gd_w gT) v01 hn 0 (-1) (-1) (-1) (-1) 0
    obtain ⟨F, eF⟩ : ∃ F, F = va_cpy (J1 168) (fun _ => 0) 0 0 (a.2.length * wdN kd) := ⟨_, rfl⟩
    obtain ⟨t2', et2⟩ : ∃ t, t = tl ++ brt tl.length kd a.1 a.2.length 0 (-1) (-1) (-1) (-1) 0 F := ⟨_, rfl⟩
    obtain ⟨R2, eR2⟩ : ∃ X, X = rup R 1 (va_up (R 1) n (some (269 + tl.length))) := ⟨_, rfl⟩
    obtain ⟨V3, eV3⟩ : ∃ X, X = vup W1 0 1 (.int (nI (n + 1))) := ⟨_, rfl⟩
    rw [← eF, ← et2, ← eR2, ← eV3] at eb
    have v3o : ∀ a j, a ≠ 0 → V3 a j = W1 a j := fun a j h => by rw [eV3]; exact vup_na h
    have w3 : wt V3 := by rw [eV3]; exact wt_i w1 (by decide)
    obtain ⟨W2, J2, go, f2, q0, q13, r2⟩ := r_326 (V := V3) (I := J1) (L := outL L (nI n).toInt64) (R := R2) (tl := t2') (N := N) hN w3 ((v3o 174 68 (by decide)).trans ((f1.1 174 68 (by decide) (by decide) (by decide)).trans t2)) (by rw [i218]; exact ht2) k3
    rw [q] at r2
    obtain ⟨e70, d2, e15⟩ := r2
    have w2 := f2.2.2 w3
    have V174 : V3 174 1 = .int (nI n) := (v3o 174 1 (by decide)).trans ((f1.1 174 1 (by decide) (by decide) (by decide)).trans b3)
    obtain ⟨W3, eW3⟩ : ∃ X, X = vup W2 174 68 (.int 0) := ⟨_, rfl⟩
    have w3o : ∀ j, j ≠ 68 → W3 174 j = W2 174 j := fun j h => by rw [eW3]; exact vup_o (fun e => h e.2)
    have er := bear_r (V := W3) (I := J2) (L := outL L (nI n).toInt64) (R := R2) (tl := t2') (N := N) (n := n) (kd := kd) (ln := a.1) (sz := a.2.length) ((w3o 1 (by decide)).trans ((f2.1 174 1 (by omega)).trans V174)) ((w3o 13 (by decide)).trans q13) ((w3o 14 (by decide)).trans d2.1) ⟨nI a.1, (w3o 15 (by decide)).trans e15, by
      by_cases z : kd = 3
      · rw [if_pos (by rw [z]; rfl)]
      · rw [if_neg (show ¬ nI kd = 3 from fun u => z ((nI_eq (b := 3) (by omega) (by omega)).mp u)), ln0 z]
        rfl⟩ hn gT.2.1 (by omega) 0 (-1) (-1) (-1) (-1) 0
    -- the base: the text emptied
    obtain ⟨Vb, eVb⟩ : ∃ X, X = vup (vup V 2 1 (.int 0)) 174 68 (.int 0) := ⟨_, rfl⟩
    have hb : rel Vb I L R tl n p := by
      rw [eVb]
      exact rel_cx (fun a j _ h1 h2 => by rw [vup_o h2, vup_o h1]) ⟨0, by omega, by rw [vup_na (by decide)]; exact vup_eq, vup_eq, fun j hj => absurd hj (by omega)⟩ (fun _ _ => rfl) (fun _ _ => rfl) (wt_i (wt_i hwt (by decide)) (by decide)) hr
    have hR := bear_rel (W := Vb) (J := I) (W' := W3) (J' := J2) (M' := outL L (nI n).toInt64) (kd := kd) (ln := a.1) (sz := a.2.length) (x1 := 0) (x2 := -1) (x3 := -1) (x4 := -1) (x5 := -1) (x6 := 0) (f := F) hb hn keep_r ⟨fun b jj hj => ?hv, fun y hy => (f2.2.1 y (iJ y hy).1).trans (f1.2.1 y (iJ y hy).2.1 (iJ y hy).2.2.1 (iJ y hy).2.2.2), fun _ => by rw [eW3]; exact wt_i w2 (by decide)⟩ (fun y hy => lup_na (lJ y hy)) (by rw [eF]; exact itm_cp hE.2.2.2.2 d2.2) (gd_snd gT d2.2) ped_0 (gen_o (by decide) (by decide))
    case hv =>
      by_cases z : b = 0
      · subst z
        rw [eW3, vup_na (by decide), f2.1 0 jj (by omega), eV3]
        by_cases zz : jj = 1
        · rw [zz, vup_eq, vup_eq]
        · rw [vup_o (fun u => zz u.2), vup_o (fun u => zz u.2), eVb, vup_na (by decide), vup_na (by decide)]
          exact f1.1 0 jj (by decide) (by decide) (by decide)
      · rw [vup_na z]
        by_cases h1 : b = 2 ∧ jj = 1
        · obtain ⟨rfl, rfl⟩ := h1
          rw [eW3, vup_na (by decide), f2.1 2 1 (by omega), v3o 2 1 (by decide), l1, eVb, vup_na (by decide)]
          exact vup_eq.symm
        · by_cases h2 : b = 174 ∧ jj = 68
          · obtain ⟨rfl, rfl⟩ := h2
            rw [eW3, vup_eq, eVb]
            exact vup_eq.symm
          · rw [eW3, kv V3 W2 J1 J2 f2 v3o b jj hj z h1 h2, eVb, vup_o h2, vup_o h1]
    rw [← et2, ← eR2] at hR
    refine ⟨_, opBI_g (v := nI n) (W := V3) (J := J1) (M := outL L (nI n).toInt64) (R1 := R2) (t1 := t2') ?_ (er26 _ _ _ _ _ V174 _ (go _ (hd_326_113 (ev_b (a := fx W3 J2 (outL L (nI n).toInt64) R2 ++ t2') (by rw [eW3]; exact qp_174_68) (ev_b (rdI ((w3o 70 (by decide)).trans e70)) (ev_t (by decide) (ev_i rfl (ev_cI er (hd_326_144 rfl))))))))) ?_ ?_, inv_mk hR (room_up (by rw [et2]; exact room_b (gd_w gT) hm))⟩
    · have e := e31 _ (ev_t (by decide) (ev_b (rdR rfl) (ev_i rfl (ev_cI eb (hd_31_61 rfl)))))
      apply hm_30
      apply hd_30_0
      refine ev_i rfl ?_
      rw [e]
      exact ev_b out_s rfl
    · rw [vup_o (by decide), w3o 0 (by decide)]
      exact q0
    · show lup (outL L (nI n).toInt64) 183 _ 268 0 = _
      rw [lup_na (by decide)]
      exact outL_at
