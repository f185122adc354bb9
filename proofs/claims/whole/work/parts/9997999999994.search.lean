/-! ===== search(size) ===== -/
/-- tables are made, births are as they were -/
theorem rel_tb {V : Nat → Nat → Value} {I : Nat → Nat → Int32} {L : Nat → Nat → Int64} {R : Nat → Nat → Option Nat} {tl : am_H} {R' : Nat → Nat → Option Nat} {tl' : am_H} {n p p' : Nat} (hR : ∀ y, y ≠ 87 → R' y = R y) (hT : rTb R' tl' p') (hx : ∀ (x : Nat) (e : am_E), tl[x]? = some e → (∀ f : Nat → Int64, e ≠ (Sum.inl (1, 7070, .inr (.inl f)) : am_E)) → tl'[x]? = some e) (h : rel V I L R tl n p) : rel V I L R' tl' n p' := by
  obtain ⟨a1, a2, a3, a4, a5, a6, a7, a8, a9, a10, a11, a12, w⟩ := h
  refine ⟨a1, fun b hb => ?_, a3, a4, a5, a6, a7, a8, a9, a10, a11, ⟨hT.1, hT.2.1, hT.2.2, ?_⟩, w⟩
  · obtain ⟨kd, ln, sz, a, it, f, q1, q2, q3, q4, q5, q6, q7⟩ := a2 b hb
    refine ⟨kd, ln, sz, a, it, f, q1, q2, q3, by rw [hR 1 (by decide)]; exact q4, hx a _ q5 (fun f e => by cases e), hx it _ q6 (fun f e => by cases e), q7⟩
  · unfold rPl
    rw [hR 140 (by decide)]
    exact a12.2.2.2
set_option maxRecDepth 100000 in
set_option maxHeartbeats 4000000 in
theorem c_262w {V : Nat → Nat → Value} {I : Nat → Nat → Int32} {L : Nat → Nat → Int64} {R : Nat → Nat → Option Nat} {tl : am_H} {Ln : Nat} {xs : Nat → Int32} {N n p jj m0 most : Nat} (hN : 200000 < N) (hr : rel V I L R tl n p) (hm : room tl n p jj) (hc : csK V I I m0) (m1 : 1 ≤ most) (m5 : most ≤ 5) : ∃ W J R' tl' p' x, fm_262 (am_X0 Ln xs) N (.ref 76) (.ref 14) (nI most) (fx V I L R ++ tl) = some (.inl (some (.int x), fx W J L R' ++ tl')) ∧ rel W J L R' tl' n p' ∧ room tl' n p' jj ∧ keep V W I J ∧ ((x = -1 ∧ nonT I m0 most) ∨ ∃ sz q, x = nI q ∧ W 76 8 = .int (nI sz) ∧ fstT I m0 most sz q) := by
  have hwt := rel_w hr
  have h24 := hc.2.2.1
  obtain ⟨V1, eV1⟩ : ∃ X, X = vup V 76 7 (.ref 14) := ⟨_, rfl⟩
  have v1 : ∀ a j, ¬ (a = 76 ∧ j = 7) → V1 a j = V a j := fun a j h => by rw [eV1]; exact vup_o h
  have w1 : wt V1 := by rw [eV1]; exact wt_o (by decide) (by decide) hwt
  have hc1 : csK V1 I I m0 := ⟨(v1 14 1 (by decide)).trans hc.1, (v1 174 31 (by decide)).trans hc.2.1, hc.2.2⟩
  obtain ⟨G, e1, hG⟩ := c_219k (L := L) (R := R) (tl := tl) (I0 := I) (V := V1) (N := N) (m := m0) m0 0 N I (by omega) (by omega) hc1 (fun j hj => absurd hj (by omega))
  have e219 : fm_219 N (.ref 14) (.ref 88) (fx V1 I L R ++ tl) = some (.inl (some (.int (nI (snN I m0))), fx V1 (iup I 88 G) L R ++ tl)) := by
    unfold fm_219 fg_219_0
    exact e1
  obtain ⟨J1, eJ1⟩ : ∃ X, X = iup I 88 G := ⟨_, rfl⟩
  rw [← eJ1] at e219
  have j1 : ∀ y, y ≠ 88 → J1 y = I y := fun y h => by rw [eJ1]; exact iup_na h
  obtain ⟨V2, eV2⟩ : ∃ X, X = vup V1 76 6 (.int (nI (snN I m0))) := ⟨_, rfl⟩
  have v2 : ∀ a j, ¬ (a = 76 ∧ (j = 6 ∨ j = 7)) → V2 a j = V a j := fun a j h => by rw [eV2, vup_o (fun q => h ⟨q.1, .inl q.2⟩), v1 a j (fun q => h ⟨q.1, .inr q.2⟩)]
  have w2 : wt V2 := by rw [eV2]; exact wt_i w1 (by decide)
  have sn := snN_le (I0 := I) m0
  have vk : ∀ a j, j ∈ vRel a → a ≠ 76 := fun a j h e => by subst e; exact absurd h List.not_mem_nil
  -- rows that count are as they were
  have eI : ∀ y, y ∈ iRel → J1 y = I y := fun y hy => j1 y (by
    have key : ∀ y, y ∈ iRel → y ≠ 88 := by decide
    exact key y hy)
  have hT0 : rTb R tl p := by
    have h := hr.2.2.2.2.2.2.2.2.2.2.2.1
    exact ⟨h.1, h.2.1, h.2.2.1⟩
  obtain ⟨R1, t1, p1, e2, mp, hT1, hm1, hR1, u, eu⟩ := c_262t (V := V2) (I := J1) (L := L) (X := am_X0 Ln xs) (N := N) (m := snN I m0) (n := n) (jj := jj) (x2 := nI most) (R0 := R) (t0 := tl) (by rw [eV2]; exact vup_eq) (by omega) (snN I m0) 0 N p R tl (by omega) (by omega) (Nat.zero_le p) hT0 hm (fun _ _ => rfl) ⟨[], (List.append_nil tl).symm⟩
  -- the tables by functions
  have hex : ∀ k, ∃ aF : Nat × (Nat → Int64), k < snN I m0 → R1 87 k = some (269 + aF.1) ∧ t1[aF.1]? = some (.inl (1, 7070, .inr (.inl aF.2))) := fun k => by
    by_cases c : k < snN I m0
    · obtain ⟨a, f, q1, q2⟩ := hT1.2.1 k (by omega)
      exact ⟨(a, f), fun _ => ⟨q1, q2⟩⟩
    · exact ⟨(0, fun _ => 0), fun h => absurd h c⟩
  obtain ⟨aF, haF⟩ : ∃ aF : Nat → Nat × (Nat → Int64), ∀ k, k < snN I m0 → R1 87 k = some (269 + (aF k).1) ∧ t1[(aF k).1]? = some (.inl (1, 7070, .inr (.inl (aF k).2))) := ⟨fun k => Classical.choose (hex k), fun k => Classical.choose_spec (hex k)⟩
  have hinj : ∀ k k', k < snN I m0 → k' < snN I m0 → (aF k).1 = (aF k').1 → k = k' := fun k k' h1 h2 h3 => hT1.2.2.2 k k' (by omega) (by omega) (by rw [(haF k h1).1, (haF k' h2).1, h3])
  have hG1 : scK J1 m0 G := fun j hj h => by
    have key : snN J1 j = snN I j := by
      unfold snN seN
      rw [j1 202 (by decide)]
    rw [key]
    exact hG j hj (by rw [← j1 202 (by decide)]; exact h)
  have esn : ∀ j, snN J1 j = snN I j := fun j => by
    unfold snN seN
    rw [j1 202 (by decide)]
  have cok : ∀ k, k < m0 → cOk J1 k := fun k hk => by
    have h := hc.2.2.2.2.2 k hk
    unfold cOk at h ⊢
    rw [j1 15 (by decide), j1 197 (by decide), j1 198 (by decide), j1 199 (by decide), j1 200 (by decide), j1 201 (by decide), j1 202 (by decide), j1 203 (by decide), j1 204 (by decide)]
    exact h
  have hcs : csS V2 J1 (snN J1 m0) (clN G) := by
    refine ⟨by rw [esn, eV2]; exact vup_eq, by rw [eV2, vup_o (by decide), eV1]; exact vup_eq, by rw [esn]; omega, fun k hk => ?_⟩
    obtain ⟨s1, s2, s3, -⟩ := sc_at hG1 h24 hk
    refine ⟨by rw [eJ1, iup_eq]; exact s3, by omega, cok _ s1⟩
  obtain ⟨W, t2, F2, x, e3, tb2, q2, v3, w3, res⟩ := c_262l (I := J1) (L := L) (R := R1) (Ln := Ln) (xs := xs) (N := N) (m0 := m0) (most := most) (a := fun k => (aF k).1) (G := G) (tl0 := t1) hN h24 hG1 (by rw [esn]; exact hinj) m5 most 1 N V2 t1 (fun k => (aF k).2) (by omega) (by omega) (by omega) hcs w2 (by rw [esn]; exact haF) tlq_r (fun k _ n' a b => absurd b (by omega)) (fun n' a b => absurd b (by omega))
  rw [esn] at tb2 q2
  -- what is kept
  have kp : keep V W I J1 := ⟨fun a j h => (v3 a j (fun q => vk a j h q.1)).trans (v2 a j (fun q => vk a j h q.1)), eI, fun _ => w3⟩
  have notT : ∀ y e, t1[y]? = some e → (∀ f, e ≠ .inl (1, 7070, .inr (.inl f))) → ∀ k, k < snN I m0 → y ≠ (aF k).1 := fun y e h1 h2 k hk he => by
    rw [he, (haF k hk).2] at h1
    exact h2 _ (Option.some.inj h1).symm
  have hT2 : rTb R1 t2 p1 := by
    refine ⟨hT1.1, fun k hk => ?_, hT1.2.2⟩
    by_cases c : k < snN I m0
    · exact ⟨(aF k).1, F2 k, (tb2 k c).1, (tb2 k c).2⟩
    · obtain ⟨a, f, y1, y2⟩ := hT1.2.1 k hk
      refine ⟨a, f, y1, ?_⟩
      rw [q2.1 a (fun k' hk' e => ?_)]
      · exact y2
      · have : k = k' := hT1.2.2.2 k k' hk (by omega) (by rw [y1, (haF k' hk').1, e])
        omega
  have hrel : rel W J1 L R1 t2 n p1 := by
    refine rel_tb (R := R) (tl := tl) hR1 hT2 (fun y e h1 h2 => ?_) (rel_c kp.1 kp.2.1 (fun _ _ => rfl) w3 hr)
    have h3 : t1[y]? = some e := by rw [eu]; exact get_app h1
    rw [q2.1 y (notT y e h3 h2)]
    exact h3
  have hm2 : room t2 n p1 jj := by
    obtain ⟨r1, r2⟩ := hm1
    exact ⟨by rw [q2.2.1]; exact r1, by rw [q2.2.2]; exact r2⟩
  have evC : ∀ j n p, vC J1 j n p = vC I j n p := fun j n p => by
    unfold vC
    rw [j1 197 (by decide), j1 198 (by decide), j1 199 (by decide), j1 203 (by decide), j1 204 (by decide)]
  have ert : ∀ n p, rtA J1 m0 n p ↔ rtA I m0 n p := fun n p => by
    unfold rtA
    rw [j1 202 (by decide), j1 200 (by decide)]
    exact ⟨fun h j a b => by rw [← evC]; exact h j a b, fun h j a b => by rw [evC]; exact h j a b⟩
  refine ⟨W, J1, R1, t2, p1, x, ?_, hrel, hm2, kp, ?_⟩
  · apply hm_262
    apply hd_262_0
    refine ev_b (a := fx V1 I L R ++ tl) (by rw [eV1]; exact qp_76_7) (ev_b (a := Value.ref 14) (rVR qv_76_7 (by rw [eV1]; exact vup_eq)) (ev_b (rdR rfl) (ev_i rfl (ev_cI e219 (ev_b (a := fx V2 J1 L R ++ tl) (by rw [eV2]; exact qp_76_6) ?_)))))
    exact Eq.trans e2 e3
  · rcases res with ⟨h1, h2⟩ | ⟨sz, q, h1, h2, h3⟩
    · exact .inl ⟨h1, fun n' a b r c d => h2 n' a b r c ((ert n' r).mpr d)⟩
    · obtain ⟨b1, b2, b3, b4, b5, b6⟩ := h3
      exact .inr ⟨sz, q, h1, h2, b1, b2, b3, (ert _ _).mp b4, fun r a d => b5 r a ((ert _ _).mpr d), fun n' a b r c d => b6 n' a b r c ((ert _ _).mpr d)⟩
theorem in_5s {a : Int32} (h1 : ¬ a < 1) (h2 : a ≤ 5) : pv_327 a.toInt64 1 5 = 1 := in_ok (w64le (a := 1) (Int32.not_lt.mp h1)) (w64le (b := 5) h2)
theorem in_5l {a : Int32} (h : a < 1) : pv_327 a.toInt64 1 5 = 0 := in_lo (w64lt (b := 1) h)
theorem in_5h {a : Int32} (h : ¬ a ≤ 5) : pv_327 a.toInt64 1 5 = 0 := in_hi (w64lt (a := 5) (Int32.not_le.mp h))
set_option maxRecDepth 100000 in
set_option maxHeartbeats 4000000 in
theorem u_46 {V : Nat → Nat → Value} {I : Nat → Nat → Int32} {L : Nat → Nat → Int64} {R : Nat → Nat → Option Nat} {tl : am_H} {n p j : Nat} (hr : rel V I L R tl n p) (hm : room tl n p j) {N : Nat} (hN : 200000 < N) (Ln : Nat) (xs : Nat → Int32) (a1 : Int32) : ∃ h', opBI (fm_260 (am_X0 Ln xs) N (.ref 0) a1 (.ref 268) (fx V I L R ++ tl)) (fun h1 => fm_533 N (.ref 174) a1 h1) vfI h' ∧ invW (j + 1) h' := by
  obtain ⟨b1, b2, b3⟩ := hr.1
  have hwt := rel_w hr
  have err : ∀ (x : Int32) (c : Nat), (c = 1 ∨ c = 2) → fm_260 (am_X0 Ln xs) N (.ref 0) x (.ref 268) (fx V I L R ++ tl) = some (.inl (some (.int (nI c)), fx V I L R ++ (tl ++ [am_dummy]))) → (∀ t : am_H, fm_533 N (.ref 174) x (fx V I L R ++ t) = fg_533_32 N (.ref 174) x (.ref 174) (nI c) (fx V I L R ++ t)) → ∃ h', opBI (fm_260 (am_X0 Ln xs) N (.ref 0) x (.ref 268) (fx V I L R ++ tl)) (fun h1 => fm_533 N (.ref 174) x h1) vfI h' ∧ invW (j + 1) h' := fun x c hc e er => by
    refine ⟨_, opBI_err (c := nI c) (b := 0) (by rcases hc with rfl | rfl <;> decide) (tl := tl ++ [am_dummy]) e ?_, inv_mk (rel_thr (nI c) (rel_dum hr)) (room_dum hm)⟩
    refine (er _).trans ?_
    apply hd_533_32
    exact ev_b qp_174_0 (ev_b (a := nI c) rfl (ev_f (by rcases hc with rfl | rfl <;> decide) rfl))
  by_cases z1 : a1 < 1 ∨ ¬ a1 ≤ 5
  · refine err a1 1 (.inl rfl) ?_ (fun t => ?_)
    · have e : fm_261 (am_X0 Ln xs) N (.ref 0) a1 (fx V I L R ++ tl) = some (.inr (0, (fx V I L R ++ (tl ++ [am_dummy])))) := by
        rw [← List.append_assoc]
        apply hm_261
        apply hd_261_0
        by_cases z : a1 < 1
        · exact ev_t z (hd_261_10 rfl)
        · exact ev_f z (ev_f (z1.resolve_left z) (hd_261_10 rfl))
      apply hm_260
      apply hd_260_0
      refine ev_i rfl ?_
      rw [e]
      rfl
    · apply hm_533
      apply hd_533_0
      refine ev_cI (pe_327 _ _ _ _) ?_
      rw [show pv_327 a1.toInt64 1 5 = 0 from z1.elim in_5l in_5h]
      exact ev_f (fun u => u rfl) rfl
  obtain ⟨most, m5, m1, rfl⟩ : ∃ Q, Q ≤ 5 ∧ 1 ≤ Q ∧ a1 = nI Q := by
    rcases dich a1 (n := 6) (by omega) with h | ⟨b, hb, rfl⟩
    · refine absurd ?_ z1
      rcases h with h | h
      · exact .inl (Int32.lt_of_lt_of_le h (by decide))
      · exact .inr (fun q => absurd (Int32.le_trans h q) (by decide))
    · refine ⟨b, by omega, ?_, rfl⟩
      rcases Nat.eq_zero_or_pos b with h | h
      · exact absurd (.inl (by rw [h]; decide)) z1
      · exact h
  have n1 : ¬ nI most < 1 := fun q => z1 (.inl q)
  have n2 : nI most ≤ 5 := Classical.not_not.mp (fun q => z1 (.inr q))
  by_cases c6 : n = 600
  · subst c6
    refine err (nI most) 2 (.inr rfl) ?_ (fun t => ?_)
    · have e : fm_261 (am_X0 Ln xs) N (.ref 0) (nI most) (fx V I L R ++ tl) = some (.inr (1, (fx V I L R ++ (tl ++ [am_dummy])))) := by
        apply hm_261
        apply hd_261_0
        refine ev_f n1 (ev_t n2 (ev_i rfl ?_))
        rw [c_32n b2]
        rfl
      apply hm_260
      apply hd_260_0
      refine ev_i rfl ?_
      rw [e]
      rfl
    · apply hm_533
      apply hd_533_0
      refine ev_cI (pe_327 _ _ _ _) ?_
      rw [in_5s n1 n2]
      exact ev_t (by decide) (ev_b (rdI b3) (ev_f (fun u => u rfl) rfl))
  have hn : n < 600 := by omega
  obtain ⟨m0, hc⟩ := csK_r hr
  obtain ⟨lm, -, -, -, -, lo, hi2, -, -, -, -, -, -, -, -, l6, -⟩ := hr.2.2.2.2.2.1
  obtain ⟨y1, y2, y3⟩ := hr.2.2.2.2.2.2.2.2.2.2.1
  obtain ⟨W1, J1, R1, t1, p1, x, e1, hr1, hm1, kp1, res⟩ := c_262w (Ln := Ln) (xs := xs) (N := N) hN hr hm hc m1 m5
  have e261 : ∀ o, (if 0 ≤ x then ((am_vR (am_pG 2822 (.ref 0) (fx W1 J1 L R1 ++ t1))).bind fun v16 => ((am_vR (am_pG 2822 (.ref 0) (fx W1 J1 L R1 ++ t1))).bind fun v18 => ((am_vI (am_pG 1032 v18 (fx W1 J1 L R1 ++ t1))).bind fun v20 => ((am_vR (am_pG 2831 (.ref 0) (fx W1 J1 L R1 ++ t1))).bind fun v22 => (if am_pOk 4 v16 (fx W1 J1 L R1 ++ t1) then am_cV true (fm_91 N v16 4 v20 ((Int32.toInt64 x)) v22 (fx W1 J1 L R1 ++ t1)) (fun h26 => ((am_vR (am_pG 2831 (.ref 0) h26)).bind fun v28 => (if am_pOk 11 (.ref 0) h26 then am_cI true (fm_59 (.ref 0) v28 1 ((-1)) ((-1)) ((-1)) ((-1)) 0 h26) (fun v31 h32 => some (.inl (some (.int v31), h32))) else none))) else none))))) else some (.inl (some (.int (-1)), (fx W1 J1 L R1 ++ t1)))) = o → fm_261 (am_X0 Ln xs) N (.ref 0) (nI most) (fx V I L R ++ tl) = o := fun o k_ => by
    apply hm_261
    apply hd_261_0
    exact ev_f n1 (ev_t n2 (ev_i rfl (ev_cV (c_32 b2 hn) (ev_b (rdR rfl) (ev_b (rdR rfl) (ev_i rfl (ev_cI e1 k_)))))))
  -- the reference, from any state that keeps what counts
  have ref : ∀ (Y : Nat → Nat → Value) (K : Nat → Nat → Int32) (M : Nat → Nat → Int64) (S : Nat → Nat → Option Nat) (t : am_H), wt Y → Y 174 1 = .int (nI n) → Y 174 31 = .int (nI m0) → rInv Y M → (∀ y, y ∈ iRel → K y = I y) → ∃ Z K' M', (∀ a j, ¬ (a = 174 ∧ (j = 0 ∨ j = 80)) → Z a j = Y a j) ∧ Z 174 0 = .int 0 ∧ rfS I m0 lm Z K' M' ∧ K' = K ∧ (∀ y, y ≠ 224 → y ≠ 225 → y ≠ 226 → M' y = M y) ∧ fm_533 N (.ref 174) (nI most) (fx Y K M S ++ t) = fg_533_50 N N (.ref 174) (nI most) (nI 1) (fx Z K' M' S ++ t) := fun Y K M S t wY h1 h31 iv hK => by
    obtain ⟨Y0, eY0⟩ : ∃ X, X = vup Y 174 0 (.int 0) := ⟨_, rfl⟩
    have wY0 : wt Y0 := by rw [eY0]; exact wt_i wY (by decide)
    have iv0 : rInv Y0 M := rInv_v (by rw [eY0]; exact vup_o (by decide)) iv
    obtain ⟨Z, M', e, w80, m4, m5', fz, fm, wZ⟩ := x_377w (V := Y0) (I := K) (L := M) (R := S) (tl := t) (N := N) (by omega) iv0 wY0
    refine ⟨Z, K, M', fun a j h => (fz a j (fun q => h ⟨q.1, .inr q.2⟩)).trans (by rw [eY0]; exact vup_o (fun q => h ⟨q.1, .inl q.2⟩)), (fz 174 0 (by decide)).trans (by rw [eY0]; exact vup_eq), ⟨wZ, w80, m4, m5', by rw [hK 206 (by decide)]; exact l6, (fz 174 31 (by decide)).trans (by rw [eY0, vup_o (by decide)]; exact h31), fun y a b => hK y ?_⟩, rfl, fm, ?_⟩
    · rcases (by omega : y = 197 ∨ y = 198 ∨ y = 199 ∨ y = 200 ∨ y = 201 ∨ y = 202 ∨ y = 203 ∨ y = 204) with rfl | rfl | rfl | rfl | rfl | rfl | rfl | rfl <;> decide
    · apply hm_533
      apply hd_533_0
      refine ev_cI (pe_327 _ _ _ _) ?_
      rw [in_5s n1 n2]
      refine ev_t (by decide) (ev_b (rdI h1) (ev_t (fun e => by have := (nI_eq (b := 600) (by omega) (by decide)).mp e; omega) ?_))
      apply hd_533_32
      exact ev_b (a := fx Y0 K M S ++ t) (by rw [eY0]; exact qp_174_0) (ev_b (a := 0) (by rw [eY0]; rfl) (ev_t (by decide) (ev_i rfl (ev_cV e rfl))))
  have c24 := hc.2.2.1
  have cok := hc.2.2.2.2.2
  have vJ : ∀ j, j ∈ vRel 174 → ¬ ((13 ≤ j ∧ j ≤ 15) ∨ (48 ≤ j ∧ j ≤ 54) ∨ j = 58 ∨ j = 59 ∨ j = 65 ∨ j = 66 ∨ j = 88) ∧ j ≠ 0 := by decide
  have iJ : ∀ y, y ∈ iRel → ¬ ((186 ≤ y ∧ y ≤ 187) ∨ y = 194 ∨ (212 ≤ y ∧ y ≤ 217) ∨ (227 ≤ y ∧ y ≤ 229)) := by decide
  have lJ : ∀ y, y ∈ lRel → y ≠ 230 ∧ y ≠ 226 ∧ y ≠ 268 := by decide
  rcases res with ⟨rfl, hnon⟩ | ⟨sz, q, rfl, h8, hfst⟩
  · -- none
    obtain ⟨Z, K', M', z1', z0, zS, eK, zm, ez⟩ := ref W1 J1 (outL L (-1 : Int32).toInt64) R1 t1 (rel_w hr1) ((kp1.1 174 1 (by decide)).trans b3) ((kp1.1 174 31 (by decide)).trans hc.2.1) (by
      have h := hr1.2.2.2.2.2.2.2.2.2.2.1.2.2
      rcases h with ⟨h1, h2, h3⟩ | ⟨h1, h2, h3⟩
      · exact .inl ⟨h1, h2, h3⟩
      · exact .inr ⟨h1, h2, h3⟩) kp1.2.1
    subst K'
    rcases r_533s (R := R1) (tl := t1) (I0 := I) (N := N) (m0 := m0) (lm := lm) (most := most) hN m5 c24 lo hi2 cok most 1 N Z J1 M' (by omega) (by omega) (by omega) zS (fun n' a b => absurd b (by omega)) with ⟨W2, J2, M2, sz, q, hf, -⟩ | ⟨W2, J2, M2, -, e2, f2⟩
    · exact absurd hnon (fun h => fst_n hf h)
    have hrel : rel W2 J2 M2 R1 t1 n p1 := by
      have h8 : rel (vup W1 174 80 (.int 1)) J1 (lup (lup L 224 tC) 225 tS) R1 t1 n p1 := rel_80 (fun a j h => vup_o h) (fun y h1 h2 _ => by rw [lup_na h2, lup_na h1]) (.inr ⟨vup_eq, rfl, rfl⟩) (wt_i (rel_w hr1) (by decide)) hr1
      refine rel_c (fun a jj hj => ?_) (fun y hy => f2.2.1 y (iJ y hy)) (fun y hy => ?_) (f2.2.2.2 zS.1) h8
      · by_cases z : a = 174
        · subst z
          obtain ⟨k1, k2⟩ := vJ jj hj
          rw [f2.1 174 jj (fun u => k1 u.2)]
          by_cases zz : jj = 80
          · rw [zz, vup_eq]
            exact zS.2.1
          · rw [z1' 174 jj (fun u => by omega), vup_o (fun u => zz u.2)]
        · rw [f2.1 a jj (fun u => z u.1), z1' a jj (fun u => z u.1), vup_o (fun u => z u.1)]
      · obtain ⟨k1, k2, k3⟩ := lJ y hy
        rw [f2.2.2.1 y k1]
        by_cases c1 : y = 224
        · subst c1
          rw [lup_na (by decide), lup_eq]
          exact zS.2.2.1
        · by_cases c2 : y = 225
          · subst c2
            rw [lup_eq]
            exact zS.2.2.2.1
          · rw [zm y c1 c2 k2, lup_na c2, lup_na c1]
            exact lup_na k3
    refine ⟨_, opBI_g (v := -1) (W := W1) (J := J1) (M := outL L (-1 : Int32).toInt64) (R1 := R1) (t1 := t1) (W' := W2) (J' := J2) (M' := M2) (R2 := R1) (t2 := t1) ?_ (ez.trans e2) ?_ ?_, inv_mk hrel (room_up hm1)⟩
    · have e := e261 _ (ev_f (by decide) rfl)
      apply hm_260
      apply hd_260_0
      refine ev_i rfl ?_
      rw [e]
      exact ev_b out_s rfl
    · rw [f2.1 174 0 (by omega)]
      exact z0
    · rw [f2.2.2.1 268 (by decide), zm 268 (by decide) (by decide) (by decide)]
      exact outL_at
  · -- the first
    have hfst' := hfst
    obtain ⟨s1, s5', hq, -⟩ := hfst
    have s5 : sz ≤ 5 := by omega
    have ub := uT4_b sz (by omega)
    obtain ⟨ho, lT, gT⟩ := un4_gd s1 s5 hq
    have e91 : fm_91 N (.ref 76) 4 (nI sz) ((nI q).toInt64) (.ref 167) (fx W1 J1 L R1 ++ t1) = some (.inl (none, fx (vup (vup (vup (vup (vup (vup W1 76 3 (.ref 167)) 167 1 (.int 0)) 167 2 (.int 0)) 167 3 (.int 0)) 167 4 (.int 2)) 167 3 (.int (nI sz))) (iup J1 168 (wrt (J1 168) 0 (un 4 sz q))) L R1 ++ t1)) := by
      rw [nI_l (by omega)]
      exact x_91 (c := 4) (by omega) (y1) (y2) (by omega) s1 (by omega) hq
    obtain ⟨V2, eV2⟩ : ∃ X, X = vup (vup (vup (vup (vup (vup W1 76 3 (.ref 167)) 167 1 (.int 0)) 167 2 (.int 0)) 167 3 (.int 0)) 167 4 (.int 2)) 167 3 (.int (nI sz)) := ⟨_, rfl⟩
    obtain ⟨I2, eI2⟩ : ∃ X, X = iup J1 168 (wrt (J1 168) 0 (un 4 sz q)) := ⟨_, rfl⟩
    rw [← eV2, ← eI2] at e91
    have q2 : kq 0 W1 V2 J1 I2 := by rw [eV2]; exact x91_k (A := 167) (.inl rfl) (fun y h => by rw [eI2]; exact iup_na h)
    have v2o : ∀ a j, a ≠ 76 → a ≠ 167 → V2 a j = W1 a j := fun a j h1 h2 => by rw [eV2, vup_na h2, vup_na h2, vup_na h2, vup_na h2, vup_na h2, vup_na h1]
    have hd : hold V2 I2 167 0 0 (unX 4 sz q) := ⟨by rw [eV2]; rfl, by rw [eV2]; rfl, by rw [eV2, lT]; rfl, by rw [eV2]; rfl, by rw [eI2]; show tO (iup J1 168 _ 168) _; rw [iup_eq]; exact unX_tO⟩
    have hE := (hold_E (by decide)).mp hd
    have lD : (tI (unX 4 sz q)).length = sz := by rw [tI_len, lT]
    obtain ⟨D, eD⟩ : ∃ D, D = tI (unX 4 sz q) := ⟨_, rfl⟩
    rw [← eD] at hE gT lD
    have v01 : V2 0 1 = .int (nI n) := (v2o 0 1 (by decide) (by decide)).trans ((kp1.1 0 1 (by decide)).trans b2)
    have eb := bear_c (V := V2) (I := I2) (L := L) (R := R1) (tl := t1) (n := n) (kd := 0) (ln := 0) (sz := D.length) hE.1 hE.2.1 hE.2.2.1 hE.2.2.2.1 (by omega) (gd_w gT) v01 hn 1 (-1) (-1) (-1) (-1) 0
    obtain ⟨F, eF⟩ : ∃ F, F = va_cpy (I2 168) (fun _ => 0) 0 0 (D.length * wdN 0) := ⟨_, rfl⟩
    obtain ⟨t2, et2⟩ : ∃ t, t = t1 ++ brt t1.length 0 0 D.length 1 (-1) (-1) (-1) (-1) 0 F := ⟨_, rfl⟩
    obtain ⟨R2, eR2⟩ : ∃ X, X = rup R1 1 (va_up (R1 1) n (some (269 + t1.length))) := ⟨_, rfl⟩
    rw [← eF, ← et2, ← eR2] at eb
    obtain ⟨V3, eV3⟩ : ∃ X, X = vup V2 0 1 (.int (nI (n + 1))) := ⟨_, rfl⟩
    rw [← eV3] at eb
    have k2 : keep W1 V2 J1 I2 := ⟨fun a j h => v2o a j (fun e => by subst e; exact absurd h List.not_mem_nil) (fun e => by subst e; exact absurd h List.not_mem_nil), q2.2.1, q2.2.2⟩
    have w3 : wt V3 := by rw [eV3]; exact wt_i (k2.2.2 (rel_w hr1)) (by decide)
    have v3o : ∀ a j, a ≠ 0 → V3 a j = V2 a j := fun a j h => by rw [eV3]; exact vup_na h
    obtain ⟨Z, K', M', z1', z0, zS, eK, zm, ez⟩ := ref V3 I2 (outL L (nI n).toInt64) R2 t2 w3 ((v3o 174 1 (by decide)).trans ((k2.1 174 1 (by decide)).trans ((kp1.1 174 1 (by decide)).trans b3))) ((v3o 174 31 (by decide)).trans ((k2.1 174 31 (by decide)).trans ((kp1.1 174 31 (by decide)).trans hc.2.1))) (by
      have e80 : V3 174 80 = W1 174 80 := (v3o 174 80 (by decide)).trans (k2.1 174 80 (by decide))
      have h := hr1.2.2.2.2.2.2.2.2.2.2.1.2.2
      rcases h with ⟨h1, h2, h3⟩ | ⟨h1, h2, h3⟩
      · exact .inl ⟨e80.trans h1, h2, h3⟩
      · exact .inr ⟨e80.trans h1, h2, h3⟩) (fun y hy => (k2.2.1 y hy).trans (kp1.2.1 y hy))
    subst K'
    rcases r_533s (R := R2) (tl := t2) (I0 := I) (N := N) (m0 := m0) (lm := lm) (most := most) hN m5 c24 lo hi2 cok most 1 N Z I2 M' (by omega) (by omega) (by omega) zS (fun n' a b => absurd b (by omega)) with ⟨W4, J4, M4, sz', q', hf, e4, d4, d13, f4⟩ | ⟨W4, J4, M4, hf, -⟩
    case inr => exact absurd hf (fun h => fst_n hfst' h)
    obtain ⟨rfl, rfl⟩ := fst_u hfst' hf
    rw [← eD] at d4
    have w4 := f4.2.2.2 zS.1
    obtain ⟨x15, h15⟩ := w4.1 174 15 (by decide)
    have v41 : W4 174 1 = .int (nI n) := (f4.1 174 1 (by omega)).trans ((z1' 174 1 (by omega)).trans ((v3o 174 1 (by decide)).trans ((k2.1 174 1 (by decide)).trans ((kp1.1 174 1 (by decide)).trans b3))))
    have er := bear_r (V := W4) (I := J4) (L := M4) (R := R2) (tl := t2) (N := N) (n := n) (kd := 0) (ln := 0) (sz := D.length) v41 d13 d4.1 ⟨x15, h15, rfl⟩ hn gT.2.1 (by omega) 1 (-1) (-1) (-1) (-1) 0
    have h8' : rel (vup W1 174 80 (.int 1)) J1 (lup (lup L 224 tC) 225 tS) R1 t1 n p1 := rel_80 (fun a j h => vup_o h) (fun y h1 h2 _ => by rw [lup_na h2, lup_na h1]) (.inr ⟨vup_eq, rfl, rfl⟩) (wt_i (rel_w hr1) (by decide)) hr1
    have hR := bear_rel (W := vup W1 174 80 (.int 1)) (J := J1) (W' := W4) (J' := J4) (M' := M4) (kd := 0) (ln := 0) (sz := D.length) (x1 := 1) (x2 := -1) (x3 := -1) (x4 := -1) (x5 := -1) (x6 := 0) (f := F) h8' hn keep_r ⟨fun a jj hj => ?hv, fun y hy => (f4.2.1 y (iJ y hy)).trans (k2.2.1 y hy), fun _ => w4⟩ (fun y hy => ?hl) (by rw [eF]; exact itm_cp hE.2.2.2.2 d4.2) (gd_snd gT d4.2) ped_1 (gen_o (by decide) (by decide))
    case hv =>
      by_cases z : a = 174
      · subst z
        obtain ⟨k1, k2'⟩ := vJ jj hj
        rw [f4.1 174 jj (fun u => k1 u.2), vup_o (by omega)]
        by_cases zz : jj = 80
        · rw [zz, vup_eq]
          exact zS.2.1
        · rw [z1' 174 jj (fun u => by omega), vup_o (fun u => zz u.2), v3o 174 jj (by decide)]
          exact k2.1 174 jj hj
      · rw [f4.1 a jj (fun u => z u.1), z1' a jj (fun u => z u.1), eV3]
        by_cases zz : a = 0 ∧ jj = 1
        · rw [zz.1, zz.2, vup_eq, vup_eq]
        · rw [vup_o zz, vup_o zz, vup_o (fun u => z u.1)]
          exact k2.1 a jj hj
    case hl =>
      obtain ⟨k1, k2', k3⟩ := lJ y hy
      rw [f4.2.2.1 y k1]
      by_cases c1 : y = 224
      · subst c1
        rw [lup_na (by decide), lup_eq]
        exact zS.2.2.1
      · by_cases c2 : y = 225
        · subst c2
          rw [lup_eq]
          exact zS.2.2.2.1
        · rw [zm y c1 c2 k2', lup_na c2, lup_na c1]
          exact lup_na k3
    rw [← et2, ← eR2] at hR
    refine ⟨_, opBI_g (v := nI n) (W := V3) (J := I2) (M := outL L (nI n).toInt64) (R1 := R2) (t1 := t2) ?_ (ez.trans (e4.trans (show bR N _ = _ from ev_cI er rfl))) ?_ ?_, inv_mk hR (room_up (by rw [et2]; exact room_b (gd_w gT) hm1))⟩
    · have e := e261 _ (ev_t (nI_pos' (by omega)) (ev_b (rdR rfl) (ev_b (rdR rfl) (ev_b (rVI qv_76_8 h8) (ev_b (rdR rfl) (ev_i rfl (ev_cV e91 (ev_b (rdR rfl) (ev_i rfl (ev_cI eb rfl))))))))))
      apply hm_260
      apply hd_260_0
      refine ev_i rfl ?_
      rw [e]
      exact ev_b out_s rfl
    · rw [vup_o (by decide), f4.1 174 0 (by omega)]
      exact z0
    · show lup M4 183 _ 268 0 = _
      rw [lup_na (by decide), f4.2.2.1 268 (by decide), zm 268 (by decide) (by decide) (by decide)]
      exact outL_at
