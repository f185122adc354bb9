/-! ===== equal: nets, and all the others ===== -/
set_option maxRecDepth 100000 in
set_option maxHeartbeats 4000000 in
theorem eq_N {V : Nat → Nat → Value} {I : Nat → Nat → Int32} {L : Nat → Nat → Int64} {R : Nat → Nat → Option Nat} {tl : am_H} {N n p j b c : Nat} (hr : rel V I L R tl n p) (hm : room tl n p j) (hN : 5000 < N) (hb : b < n) (hcn : c < n) {ln : Nat} (k1 : I 175 b = nI 3) (k2 : I 175 c = nI 3) (n1 : I 177 b = nI ln) (n2 : I 177 c = nI ln) : ∃ h', opBI (fm_286 N (.ref 0) (nI b) (nI c) (.ref 268) (fx V I L R ++ tl)) (fun h1 => fm_566 N (.ref 174) (nI b) (nI c) h1) vfI h' ∧ invW (j + 1) h' := by
  obtain ⟨b1, b2, b3⟩ := hr.1
  obtain ⟨kd, ln1, sz, a, it, f, q1, q2, q3, q4, qs, q5, q6, q7⟩ := nt_of hr hb
  obtain ⟨kd', ln2, sz', a', it', f', r1, r2, r3, r4, rs, r5, r6, r7⟩ := nt_of hr hcn
  have e3 : kd = 3 := (nI_eq (by omega) (by omega)).mp (q1.symm.trans k1)
  have e3' : kd' = 3 := (nI_eq (by omega) (by omega)).mp (r1.symm.trans k2)
  subst e3
  subst e3'
  obtain ⟨s, v, o1, m1, l1⟩ := q7 rfl
  obtain ⟨s', v', o2, m2, l2⟩ := r7 rfl
  have el : nI ln1 = nI ln2 := q3.symm.trans (n1.trans (n2.symm.trans r3))
  have el : ln1 = ln2 := (nI_eq (by have := o1.2.1; omega) (by have := o2.2.1; omega)).mp el
  subst el
  have rk : am_vI (am_pG 769 (.ref (269 + a)) (fx V I L R ++ tl)) = some (nI 3) ∧ am_vI (am_pG 770 (.ref (269 + a)) (fx V I L R ++ tl)) = some (nI ln1) := by
    obtain ⟨x1, x2, x3, x4, x5, x6, p1, p2⟩ := q6 V I L R
    exact ⟨ev_gI p1 rfl rfl, ev_gI p1 rfl rfl⟩
  have rk' : am_vI (am_pG 769 (.ref (269 + a')) (fx V I L R ++ tl)) = some (nI 3) ∧ am_vI (am_pG 770 (.ref (269 + a')) (fx V I L R ++ tl)) = some (nI ln1) := by
    obtain ⟨x1, x2, x3, x4, x5, x6, p1, p2⟩ := r6 V I L R
    exact ⟨ev_gI p1 rfl rfl, ev_gI p1 rfl rfl⟩
  have hz : ∀ j, 10 ≤ j → j < 15 → I 165 j = 0 := hr.2.2.2.2.2.2.2.2.1.2.1
  have hu : ∀ j, j < 15 → I 166 j = I 254 j := hr.2.2.2.2.2.2.2.2.1.1
  have cst : ∀ v H, fm_290 N (.ref 131) (.ref (269 + a)) (.ref (269 + a')) (.ref 166) (fx V I L R ++ tl) = some (.inl (some (.int v), H)) → fm_287 N (.ref 0) (nI b) (nI c) (fx V I L R ++ tl) = (if v = 0 then (fg_287_104 N 1 H) else (fg_287_104 N 0 H)) := fun v H e => by
    apply hm_287
    apply hd_287_0
    refine ev_i rfl (ev_cR (c_63 b2 b1 hb q5) rfl (ev_i rfl (ev_cR (c_63 b2 b1 hcn r5) rfl ?_)))
    refine ev_b rk.1 (ev_t (by decide) ?_)
    apply hd_287_53
    exact ev_b rk.1 (ev_f (fun e => e rfl) (ev_b rk'.1 (ev_f (fun e => e rfl) (ev_b rk.2 (ev_b rk'.2 (ev_f (fun e => e rfl) (ev_b (rdR rfl) (ev_b (rdR rfl) (ev_i rfl (ev_cI e rfl))))))))))
  have rst : ∀ (J : Nat → Nat → Int32) (M : Nat → Nat → Int64) (v : Int32) (H : am_H), (∀ y, y ≠ 166 → J y = I y) → fg_570_2 N N (.ref 174) (nI b) (nI c) (nI 0) (fx (vup V 174 0 (.int 0)) J M R ++ tl) = some (.inl (some (.int v), H)) → fm_566 N (.ref 174) (nI b) (nI c) (fx V J M R ++ tl) = some (.inl (some (.int v), H)) := fun J M v H hJ e => by
    have x1 : J 175 b = nI 3 := by rw [hJ 175 (by decide)]; exact k1
    have x2 : J 175 c = nI 3 := by rw [hJ 175 (by decide)]; exact k2
    have x3 : J 177 b = nI ln1 := by rw [hJ 177 (by decide)]; exact q3
    have x4 : J 177 c = nI ln1 := by rw [hJ 177 (by decide)]; exact r3
    apply hm_566
    apply hd_566_0
    refine ev_i rfl (ev_cI (r_358 b3 b1 hb) (ev_f (by decide) (ev_i rfl (ev_cI (r_358 b3 b1 hcn) (ev_f (by decide) ?_)))))
    apply hd_566_22
    refine ev_b qp_174_0 (ev_b (a := 0) rfl (ev_t (by decide) ?_))
    refine ev_b (rdR rfl) (ev_b ((qa_175 (by omega)).trans (congrArg some x1)) (ev_t (by decide) ?_))
    apply hd_566_69
    refine ev_b (rdR rfl) (ev_b ((qa_175 (by omega)).trans (congrArg some x1)) (ev_f (fun e => e rfl) (ev_b (rdR rfl) (ev_b ((qa_175 (by omega)).trans (congrArg some x2)) (ev_f (fun e => e rfl) (ev_b (rdR rfl) (ev_b ((qa_177 (by omega)).trans (congrArg some x3)) (ev_b (rdR rfl) (ev_b ((qa_177 (by omega)).trans (congrArg some x4)) (ev_f (fun e => e rfl) (ev_i rfl (ev_cI ?_ rfl))))))))))))
    unfold fm_570 fg_570_0
    exact e
  have l8 := p8l o1.2.1
  have cc := c_290 (V := V) (I := I) (L := L) (R := R) (tl := tl) (N := N) hN o1 m1 o2 m2
  have nb : ∀ J : Nat → Nat → Int32, (∀ y, y ≠ 166 → J y = I y) → ntB J b ln1 sz s v ∧ ntB J c ln1 sz' s' v' := fun J hJ => by
    refine ⟨⟨by omega, ?_, ?_, ?_, ?_⟩, ⟨by omega, ?_, ?_, ?_, ?_⟩⟩
    · rw [hJ 175 (by decide)]; exact k1
    · rw [hJ 176 (by decide)]; exact q2
    · rw [hJ 177 (by decide)]; exact q3
    · rw [hJ 184 (by decide), hJ 185 (by decide)]; exact l1
    · rw [hJ 175 (by decide)]; exact k2
    · rw [hJ 176 (by decide)]; exact r2
    · rw [hJ 177 (by decide)]; exact r3
    · rw [hJ 184 (by decide), hJ 185 (by decide)]; exact l2
  cases em : nFs (nDf s v sz s' v' sz' ln1) (2 ^ ln1) 0 with
  | none =>
    rw [em] at cc
    refine fin_51 (r := 1) (R' := R) hr hm (fun _ _ => rfl) (rel_pl hr) ((cst 0 _ cc).trans (ev_t rfl rfl)) (kE_k keep_r) hz ?_
    obtain ⟨u1, u2⟩ := nb I (fun _ _ => rfl)
    have rr := r_570l (L := outL L (1 : Int32).toInt64) (R := R) (tl := tl) (N := N) hN o1 o2 (2 ^ ln1) 0 N (vup V 174 0 (.int 0)) I (by omega) (by omega) u1 u2
    rw [em] at rr
    obtain ⟨W, J, fe, e'⟩ := rr
    refine ⟨_, _, rst _ _ _ _ (fun _ _ => rfl) e', kE_k (keep_t keep_0 (frE_k fe)), (fe.1 174 0 (by decide)).trans rfl, fun j hj => ?_⟩
    rw [fe.2.1 254 (by decide) (by decide) (by decide)]
    exact hu j hj
  | some y =>
    rw [em] at cc
    obtain ⟨-, g, hw, e⟩ := cc
    refine fin_51 (r := 0) (R' := R) hr hm (fun _ _ => rfl) (rel_pl hr) ((cst 1 _ e).trans (ev_f (by decide) rfl)) (kE_i (.inl (by decide))) hz ?_
    obtain ⟨u1, u2⟩ := nb (iup I 166 g) (fun y h => iup_na h)
    have rr := r_570l (L := outL L (0 : Int32).toInt64) (R := R) (tl := tl) (N := N) hN o1 o2 (2 ^ ln1) 0 N (vup V 174 0 (.int 0)) (iup I 166 g) (by omega) (by omega) u1 u2
    rw [em] at rr
    obtain ⟨W, J, g', fe, hw', e'⟩ := rr
    exact ⟨_, _, rst _ _ _ _ (fun y h => iup_na h) e', kE_t (kE_k (keep_t keep_0 (frE_k fe))) (kE_i (.inl (by decide))), (fe.1 174 0 (by decide)).trans rfl, wn_eq hw hw'⟩
theorem csK_e {V : Nat → Nat → Value} {I I0 I1 : Nat → Nat → Int32} {m : Nat} (h15 : I1 15 = I0 15) (h : ∀ y, 197 ≤ y → y ≤ 204 → I1 y = I0 y) (hc : csK V I I0 m) (ho : ∀ k, k < m → cOk I1 k) : csK V I I1 m := ⟨hc.1, hc.2.1, hc.2.2.1, hc.2.2.2.1.trans h15.symm, fun y a b => (hc.2.2.2.2.1 y a b).trans (h y a b).symm, ho⟩
set_option maxRecDepth 100000 in
set_option maxHeartbeats 4000000 in
theorem eq_T {V : Nat → Nat → Value} {I : Nat → Nat → Int32} {L : Nat → Nat → Int64} {R : Nat → Nat → Option Nat} {tl : am_H} {N n p j b c : Nat} (hr : rel V I L R tl n p) (hm : room tl n p j) (hN : 5000 < N) (hb : b < n) (hcn : c < n) {kd kd' ln ln' : Nat} (k1 : I 175 b = nI kd) (k2 : I 175 c = nI kd') (n1 : I 177 b = nI ln) (n2 : I 177 c = nI ln') (k3 : kd ≤ 3) (k3' : kd' ≤ 3) (hM : ¬ (kd = 2 ∧ kd' = 2)) (hX : ¬ (kd = 3 ∧ kd' = 3 ∧ I 177 b = I 177 c)) : ∃ h', opBI (fm_286 N (.ref 0) (nI b) (nI c) (.ref 268) (fx V I L R ++ tl)) (fun h1 => fm_566 N (.ref 174) (nI b) (nI c) h1) vfI h' ∧ invW (j + 1) h' := by
  obtain ⟨b1, b2, b3⟩ := hr.1
  have hw := rel_w hr
  obtain ⟨m, lm, Ob, hc, hB, hO, l16, l27, l6, lo, hi2⟩ := all_ld hr
  obtain ⟨q1, q2, q3, q4, a, it, f, q5, q6, q7⟩ := hB b hb
  obtain ⟨r1, r2, r3, r4, a', it', f', r5, r6, r7⟩ := hB c hcn
  obtain ⟨T, x, t1, t2, t3, t4, -, t5⟩ := birth_tr (N := N) (by omega) hr hb
  obtain ⟨T', x', t1', t2', t3', -, t4', t5'⟩ := birth_tr (N := N) (by omega) hr hcn
  have ex : x = a := by rw [q5] at t1; have := Option.some.inj t1; omega
  have ex' : x' = a' := by rw [r5] at t1'; have := Option.some.inj t1'; omega
  subst ex
  subst ex'
  have hz : ∀ j, 10 ≤ j → j < 15 → I 165 j = 0 := hr.2.2.2.2.2.2.2.2.1.2.1
  have hu : ∀ j, j < 15 → I 166 j = I 254 j := hr.2.2.2.2.2.2.2.2.1.1
  have hzr : ∀ k, k < 24 → zr I k := hr.2.2.2.2.2.2.2.2.1.2.2.1
  have rk : am_vI (am_pG 769 (.ref (269 + x)) (fx V I L R ++ tl)) = some (I 175 b) ∧ am_vI (am_pG 770 (.ref (269 + x)) (fx V I L R ++ tl)) = some (I 177 b) := by
    obtain ⟨x1, x2, x3, x4, x5, x6, p1, p2⟩ := q6 V I V I L R (fun _ => rfl) rfl
    exact ⟨by rw [q1]; exact ev_gI p1 rfl rfl, by rw [q3]; exact ev_gI p1 rfl rfl⟩
  have rk' : am_vI (am_pG 769 (.ref (269 + x')) (fx V I L R ++ tl)) = some (I 175 c) ∧ am_vI (am_pG 770 (.ref (269 + x')) (fx V I L R ++ tl)) = some (I 177 c) := by
    obtain ⟨x1, x2, x3, x4, x5, x6, p1, p2⟩ := r6 V I V I L R (fun _ => rfl) rfl
    exact ⟨by rw [r1]; exact ev_gI p1 rfl rfl, by rw [r3]; exact ev_gI p1 rfl rfl⟩
  have ne : ∀ {k : Nat} (K : Nat), k ≤ 3 → K ≤ 3 → (nI k = nI K ↔ k = K) := fun K h h' => nI_eq (by omega) (by omega)
  have cst : ∀ o, fg_287_105 N (.ref 0) (.ref (269 + x)) (.ref (269 + x')) (fx V I L R ++ tl) = o → fm_287 N (.ref 0) (nI b) (nI c) (fx V I L R ++ tl) = o := fun o k_ => by
    apply hm_287
    apply hd_287_0
    refine ev_i rfl (ev_cR (c_63 b2 b1 hb q5) rfl (ev_i rfl (ev_cR (c_63 b2 b1 hcn r5) rfl ?_)))
    have k53 : fg_287_53 N (.ref 0) (.ref (269 + x)) (.ref (269 + x')) (fx V I L R ++ tl) = o := by
      apply hd_287_53
      refine ev_b rk.1 ?_
      by_cases c1 : kd = 3
      · refine ev_f (fun e => e (by rw [k1, c1]; rfl)) (ev_b rk'.1 ?_)
        by_cases c2 : kd' = 3
        · refine ev_f (fun e => e (by rw [k2, c2]; rfl)) (ev_b rk.2 (ev_b rk'.2 (ev_t (fun e => hX ⟨c1, c2, e⟩) k_)))
        · exact ev_t (fun e => c2 ((ne 3 k3' (by omega)).mp (k2.symm.trans e))) k_
      · exact ev_t (fun e => c1 ((ne 3 k3 (by omega)).mp (k1.symm.trans e))) k_
    refine ev_b rk.1 ?_
    by_cases c1 : kd = 2
    · refine ev_f (fun e => e (by rw [k1, c1]; rfl)) (ev_b rk'.1 ?_)
      exact ev_t (fun e => hM ⟨c1, (ne 2 k3' (by omega)).mp (k2.symm.trans e)⟩) k53
    · exact ev_t (fun e => c1 ((ne 2 k3 (by omega)).mp (k1.symm.trans e))) k53
  have rst : ∀ (W : Nat → Nat → Value) (J : Nat → Nat → Int32) (M : Nat → Nat → Int64) (S : Nat → Nat → Option Nat) (o : Option am_O), W 174 1 = .int (nI n) → J 175 = I 175 → J 177 = I 177 → fg_566_111 N (.ref 174) (nI b) (nI c) (fx (vup W 174 0 (.int 0)) J M S ++ tl) = o → fm_566 N (.ref 174) (nI b) (nI c) (fx W J M S ++ tl) = o := fun W J M S o w1 j5 j7 k_ => by
    apply hm_566
    apply hd_566_0
    refine ev_i rfl (ev_cI (r_358 w1 b1 hb) (ev_f (by decide) (ev_i rfl (ev_cI (r_358 w1 b1 hcn) (ev_f (by decide) ?_)))))
    apply hd_566_22
    refine ev_b qp_174_0 (ev_b (a := 0) rfl (ev_t (by decide) ?_))
    have A : ∀ {W : Nat → Nat → Value} {y : Nat}, y < 600 → am_pA 0 (.ref 175) (nI y) (fx W J M S ++ tl) = some (I 175 y) := fun h => (qa_175 h).trans (by rw [j5])
    have B : ∀ {W : Nat → Nat → Value} {y : Nat}, y < 600 → am_pA 0 (.ref 177) (nI y) (fx W J M S ++ tl) = some (I 177 y) := fun h => (qa_177 h).trans (by rw [j7])
    have k69 : fg_566_69 N (.ref 174) (nI b) (nI c) (fx (vup W 174 0 (.int 0)) J M S ++ tl) = o := by
      apply hd_566_69
      refine ev_b (rdR rfl) (ev_b (A (by omega)) ?_)
      by_cases c1 : kd = 3
      · refine ev_f (fun e => e (by rw [k1, c1]; rfl)) (ev_b (rdR rfl) (ev_b (A (by omega)) ?_))
        by_cases c2 : kd' = 3
        · exact ev_f (fun e => e (by rw [k2, c2]; rfl)) (ev_b (rdR rfl) (ev_b (B (by omega)) (ev_b (rdR rfl) (ev_b (B (by omega)) (ev_t (fun e => hX ⟨c1, c2, e⟩) k_)))))
        · exact ev_t (fun e => c2 ((ne 3 k3' (by omega)).mp (k2.symm.trans e))) k_
      · exact ev_t (fun e => c1 ((ne 3 k3 (by omega)).mp (k1.symm.trans e))) k_
    refine ev_b (rdR rfl) (ev_b (A (by omega)) ?_)
    by_cases c1 : kd = 2
    · refine ev_f (fun e => e (by rw [k1, c1]; rfl)) (ev_b (rdR rfl) (ev_b (A (by omega)) ?_))
      exact ev_t (fun e => hM ⟨c1, (ne 2 k3' (by omega)).mp (k2.symm.trans e)⟩) k69
    · exact ev_t (fun e => c1 ((ne 2 k3 (by omega)).mp (k1.symm.trans e))) k69
  obtain ⟨W1, J1, R1, E, e1, g1, kp1, rr1, pp1⟩ := eqT_c (V := V) (I := I) (L := L) (R := R) hN hw (rel_pl hr) t2 t2' t3 t3' t4 t4'
  cases E with
  | true =>
    have kp1' : ∀ y, y ∈ iRel → J1 y = I y := kp1.2.1
    refine fin_51 (r := 1) (R' := R1) hr hm rr1 pp1 (cst _ (e1.trans (if_pos rfl))) (kE_k kp1) (by rw [kp1' 165 (by decide)]; exact hz) ?_
    obtain ⟨W2, J2, E', e2, g2, kp2, z2⟩ := eqT_r (V := vup W1 174 0 (.int 0)) (I := J1) (L := outL L (1 : Int32).toInt64) (R := R1) (tl := tl) (I0 := I) (b := b) (c := c) hN (fun y hy => by rcases hy with rfl | rfl | rfl | rfl | rfl <;> exact kp1' _ (by decide)) t2 t2' t3 t3' t5 t5'
    have eE : E' = true := g2.mpr (g1.mp rfl)
    subst eE
    refine ⟨W2, J2, rst _ _ _ _ _ ((kp1.1 174 1 (by decide)).trans b3) (kp1' 175 (by decide)) (kp1' 177 (by decide)) ?_, kE_k (keep_t keep_0 kp2), z2.trans rfl, fun j hj => ?_⟩
    · apply hd_566_111
      exact ev_i rfl (ev_cI e2 (ev_f (by decide) rfl))
    · rw [kp2.2.1 254 (by decide), kp1' 254 (by decide), kp1' 166 (by decide)]
      exact hu j hj
  | false =>
    have kp1' : ∀ y, y ∈ iRel → J1 y = I y := kp1.2.1
    obtain ⟨Oc, hT⟩ : ∃ Oc : Nat → Int32 × Nat × Int32, ∀ k, k < 250 → rP (kdB I b) (lnB I b) (szB I b) (sB I b) (vB I b) lm (tX k) (tY k) (tZ k) (tN k) (tR k) (Oc k) := ⟨fun k => Classical.choose (rP_ex q4 lm (tX k) (tY k) (tZ k) (tN k) (tR k)), fun k _ => Classical.choose_spec (rP_ex q4 lm (tX k) (tY k) (tZ k) (tN k) (tR k))⟩
    obtain ⟨Od, hT'⟩ : ∃ Oc : Nat → Int32 × Nat × Int32, ∀ k, k < 250 → rP (kdB I c) (lnB I c) (szB I c) (sB I c) (vB I c) lm (tX k) (tY k) (tZ k) (tN k) (tR k) (Oc k) := ⟨fun k => Classical.choose (rP_ex r4 lm (tX k) (tY k) (tZ k) (tN k) (tR k)), fun k _ => Classical.choose_spec (rP_ex r4 lm (tX k) (tY k) (tZ k) (tN k) (tR k))⟩
    obtain ⟨W2, J2, g, r, e2, f2, u2⟩ := c_296 (V := W1) (I := J1) (L := L) (R := R1) (tl := tl) (I0 := I) (N := N) (by omega) (kp1.2.2 hw) (csK_c kp1 hc) hO hb hcn q6 q7 q4 r6 r7 r4 ((kp1.1 16 0 (by decide)).trans l16) ((kp1.1 27 0 (by decide)).trans l27) lo hi2 (by rw [kp1' 165 (by decide)]; exact hz) hT hT'
    have kW : kE [165, 166] V W2 I (iup J2 166 g) := kE_t (kE_t (kE_k kp1) (kE_U f2)) (kE_i (.inl (by decide)))
    have z165 : ∀ j, 10 ≤ j → j < 15 → iup J2 166 g 165 j = 0 := fun j h1 h2 => by
      have : iup J2 166 g 165 j = J2 165 j := rfl
      rw [this, f2.2.2.2.2.1 j h1, kp1' 165 (by decide)]
      exact hz j h1 h2
    have ec : fm_287 N (.ref 0) (nI b) (nI c) (fx V I L R ++ tl) = some (.inl (some (.int (if r = true then 0 else 2)), fx W2 (iup J2 166 g) L R1 ++ tl)) := by
      refine cst _ (e1.trans ?_)
      rw [if_neg (by decide)]
      apply hd_287_176
      refine ev_i rfl (ev_cI e2 ?_)
      cases r with
      | false => exact ev_t rfl rfl
      | true => exact ev_f (by decide) rfl
    refine fin_51 (r := if r = true then 0 else 2) (R' := R1) hr hm rr1 pp1 ec kW z165 ?_
    obtain ⟨M, hMe⟩ : ∃ M, M = outL L (if r = true then (0 : Int32) else 2).toInt64 := ⟨_, rfl⟩
    rw [← hMe]
    obtain ⟨W3, J3, E', e3, g3, kp3, z3⟩ := eqT_r (V := vup W2 174 0 (.int 0)) (I := iup J2 166 g) (L := M) (R := R1) (tl := tl) (I0 := I) (b := b) (c := c) hN (fun y hy => by rcases hy with rfl | rfl | rfl | rfl | rfl <;> exact kW.2.1 _ (by decide) (by decide)) t2 t2' t3 t3' t5 t5'
    have eE : E' = false := by
      cases E' with
      | false => rfl
      | true => exact Bool.noConfusion (g1.mpr (g3.mp rfl))
    subst eE
    have w3 : wt W3 := kp3.2.2 (wt_i (kW.2.2 hw) (by decide))
    have K3 : kE [165, 166] V W3 I J3 := kE_t (kE_t kW (kE_k keep_0)) (kE_k kp3)
    have k0 : keep V W3 (iup (iup I 165 (J3 165)) 166 (J3 166)) J3 := by
      refine ⟨K3.1, fun y hy => ?_, K3.2.2⟩
      by_cases c1 : y = 166
      · rw [c1, iup_eq]
      · rw [iup_na c1]
        by_cases c2 : y = 165
        · rw [c2, iup_eq]
        · rw [iup_na c2]
          exact K3.2.1 y hy (fun h => by
            rw [List.mem_cons, List.mem_cons] at h
            rcases h with h | h | h
            · exact c2 h
            · exact c1 h
            · cases h)
    have hc3 : csK W3 J3 (iup (iup I 165 (J3 165)) 166 (J3 166)) m := csK_c k0 (csK_e (I := iup (iup I 165 (J3 165)) 166 (J3 166)) (I0 := iup (iup I 165 (J3 165)) 166 (J3 166)) rfl (fun _ _ _ => rfl) ⟨hc.1, hc.2.1, hc.2.2.1, rfl, fun _ _ _ => rfl, hc.2.2.2.2.2⟩ hc.2.2.2.2.2)
    have rB : ∀ b, b < n → bK R1 tl (iup (iup I 165 (J3 165)) 166 (J3 166)) b := fun b hb => by
      have h := hB b hb
      unfold bK at h ⊢
      rw [rr1 1 (by decide)]
      exact h
    obtain ⟨W4, J4, g', r', e4, f4, u4⟩ := r_573 (V := W3) (I := J3) (L := M) (R := R1) (tl := tl) (V0 := V) (I0 := iup (iup I 165 (J3 165)) 166 (J3 166)) (N := N) (n := n) (m := m) (Ob := Ob) hN b1 lo hi2 l6 rB hO hb hcn hzr hT hT' w3 k0 hc3
    have u4 : uOut (fun k => unB (Ob b k) (Ob c k)) (fun k => unB (Oc k) (Od k)) m I r' (J3 254) g' := u4
    obtain ⟨er, eg⟩ := uOut_eq u2 u4 (fun j hj => by
      rw [K3.2.1 254 (by decide) (by decide), kp1' 166 (by decide)]
      exact hu j hj)
    subst er
    refine ⟨W4, iup J4 254 g', rst _ _ _ _ _ ((kW.1 174 1 (by decide)).trans b3) (kW.2.1 175 (by decide) (by decide)) (kW.2.1 177 (by decide) (by decide)) ?_, kE_t (kE_t (kE_k keep_0) (kE_k kp3)) (kE_t (kE_k (frT_k f4).1) (kE_i (.inl (by decide)))), ?_, fun j hj => eg j hj⟩
    · apply hd_566_111
      exact ev_i rfl (ev_cI e3 (ev_t rfl (ev_i rfl (ev_cI e4 rfl))))
    · rw [f4.1 174 0 (fun _ => by decide)]
      exact z3.trans rfl
set_option maxRecDepth 100000 in
set_option maxHeartbeats 4000000 in
theorem u_51 {V : Nat → Nat → Value} {I : Nat → Nat → Int32} {L : Nat → Nat → Int64} {R : Nat → Nat → Option Nat} {tl : am_H} {n p j : Nat} (hr : rel V I L R tl n p) (hm : room tl n p j) {N : Nat} (hN : 5000 < N) (a1 a2 : Int32) : ∃ h', opBI (fm_286 N (.ref 0) a1 a2 (.ref 268) (fx V I L R ++ tl)) (fun h1 => fm_566 N (.ref 174) a1 a2 h1) vfI h' ∧ invW (j + 1) h' := by
  obtain ⟨b1, b2, b3⟩ := hr.1
  rcases dich a1 (n := n) (by omega) with hn | ⟨b, hb, rfl⟩
  · refine ⟨_, opBI_err (c := 1) (b := 0) (by decide) (tl := tl ++ [am_dummy]) ?_ ?_, inv_mk (rel_thr 1 (rel_dum hr)) (room_dum hm)⟩
    · have e : fm_287 N (.ref 0) a1 a2 (fx V I L R ++ tl) = some (.inr (2, (fx V I L R ++ (tl ++ [am_dummy])))) := by
        apply hm_287
        apply hd_287_0
        refine ev_i rfl ?_
        rw [c_63n b2 hn]
        rfl
      unfold fm_286 fg_286_0
      refine ev_i rfl ?_
      rw [e]
      rfl
    · show fm_566 N (.ref 174) a1 a2 (fx V I L R ++ (tl ++ [am_dummy])) = _
      apply hm_566
      apply hd_566_0
      refine ev_i rfl (ev_cI (r_358n b3 b1 hn) (ev_t rfl ?_))
      apply hd_566_21
      apply hd_566_22
      exact ev_b qp_174_0 (ev_b (a := 1) rfl (ev_f (by decide) rfl))
  · obtain ⟨m, lm, Ob, hc, hB, hO, l16, l27, l6, lo, hi2⟩ := all_ld hr
    obtain ⟨q1, q2, q3, q4, a, it, f, q5, q6, q7⟩ := hB b hb
    rcases dich a2 (n := n) (by omega) with hn | ⟨c, hcn, rfl⟩
    · refine ⟨_, opBI_err (c := 1) (b := 0) (by decide) (tl := tl ++ [am_dummy]) ?_ ?_, inv_mk (rel_thr 1 (rel_dum hr)) (room_dum hm)⟩
      · have e : fm_287 N (.ref 0) (nI b) a2 (fx V I L R ++ tl) = some (.inr (2, (fx V I L R ++ (tl ++ [am_dummy])))) := by
          apply hm_287
          apply hd_287_0
          refine ev_i rfl (ev_cR (c_63 b2 b1 hb q5) rfl (ev_i rfl ?_))
          rw [c_63n b2 hn]
          rfl
        unfold fm_286 fg_286_0
        refine ev_i rfl ?_
        rw [e]
        rfl
      · show fm_566 N (.ref 174) (nI b) a2 (fx V I L R ++ (tl ++ [am_dummy])) = _
        apply hm_566
        apply hd_566_0
        refine ev_i rfl (ev_cI (r_358 b3 b1 hb) (ev_f (by decide) (ev_i rfl (ev_cI (r_358n b3 b1 hn) (ev_t rfl ?_)))))
        apply hd_566_21
        apply hd_566_22
        exact ev_b qp_174_0 (ev_b (a := 1) rfl (ev_f (by decide) rfl))
    · obtain ⟨r1, r2, r3, r4, -⟩ := hB c hcn
      have x1 := q4.1
      have x2 := r4.1
      by_cases hM : kdB I b = 2 ∧ kdB I c = 2
      · exact eq_M hr hm hN hb hcn (hB b hb) (hB c hcn) hM.1 hM.2
      by_cases hX : kdB I b = 3 ∧ kdB I c = 3 ∧ I 177 b = I 177 c
      · exact eq_N hr hm hN hb hcn (by rw [q1, hX.1]) (by rw [r1, hX.2.1]) (hX.2.2.trans r3) r3
      · exact eq_T hr hm hN hb hcn q1 r1 q3 r3 x1 x2 hM hX
