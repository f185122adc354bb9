/-! ===== read: nets, reference ===== -/
set_option maxRecDepth 100000 in
set_option maxHeartbeats 4000000 in
theorem r_355 {V : Nat → Nat → Value} {I : Nat → Nat → Int32} {L : Nat → Nat → Int64} {R : Nat → Nat → Option Nat} {tl : am_H} {T : Nat → Nat} {m p : Nat} {Q : xT} {ln : Nat} (h : stR V I T m p (-1)) (hp : p ≤ m) (hd : dkL V I (tI Q)) (hl : Q.length < 40) (h15 : V 174 15 = .int (nI ln)) (l1 : 1 ≤ ln) (l8 : ln ≤ 8) : ∃ x W J, fm_355 (.ref 174) (fx V I L R ++ tl) = some (.inl (some (.int x), fx W J L R ++ tl)) ∧ frRd V W I J ∧ W 174 15 = V 174 15 ∧ resR (prT T ln p) W J T m x (fun y => dkL W J (tI (Q ++ [y]))) := by
  have m240 := h.2.2.2.1
  have t0 := tq_256 h.2.2.2 p
  have t1 := tq_256 h.2.2.2 (p + 1)
  have lQ := tI_len (P := Q)
  have h14 : V 174 14 = .int (nI Q.length) := by rw [← lQ]; exact hd.1
  have b48 : fg_355_48 (.ref 174) (fx V I L R ++ tl) = some (.inl (some (.int 0), fx (vup V 174 70 (.int (nI p))) I L R ++ tl)) := hd_355_48 (ev_b (rdI h.2.1) (ev_i rfl (ev_cI (r_331 h) (ev_i rfl rfl))))
  have pre : ∀ o, (if bI (dgB (T p)) = 0 then (fg_355_48 (.ref 174) (fx V I L R ++ tl)) else ((am_vR (am_pG 3139 (.ref 174) (fx V I L R ++ tl))).bind fun v11 => ((am_vI (am_pG 3141 (.ref 174) (fx V I L R ++ tl))).bind fun v13 => ((am_pA 0 v11 v13 (fx V I L R ++ tl)).bind fun v15 => ((am_vI (am_pG 3087 (.ref 174) (fx V I L R ++ tl))).bind fun v17 => (if (v15 - 48) < v17 then ((am_vR (am_pG 3139 (.ref 174) (fx V I L R ++ tl))).bind fun v20 => ((am_vI (am_pG 3141 (.ref 174) (fx V I L R ++ tl))).bind fun v22 => ((am_pA 0 v20 v22 (fx V I L R ++ tl)).bind fun v24 => ((am_vI (am_pG 3141 (.ref 174) (fx V I L R ++ tl))).bind fun v26 => ((am_pP 3141 (.ref 174) (.int (v26 + 1)) (fx V I L R ++ tl)).bind fun h28 => ((am_vI (am_pG 3141 (.ref 174) h28)).bind fun v30 => (if am_pOk 12 (.ref 174) h28 then am_cI true (fm_339 (.ref 174) v30 h28) (fun v33 h34 => (if v33 = 0 then (fg_355_126 (.ref 174) h34) else ((am_vR (am_pG 3139 (.ref 174) h34)).bind fun v37 => ((am_vI (am_pG 3141 (.ref 174) h34)).bind fun v39 => ((am_pA 0 v37 v39 h34).bind fun v41 => ((am_vI (am_pG 3087 (.ref 174) h34)).bind fun v43 => (if v43 ≤ (v41 - 48) then (fg_355_126 (.ref 174) h34) else ((am_vR (am_pG 3139 (.ref 174) h34)).bind fun v46 => ((am_vI (am_pG 3141 (.ref 174) h34)).bind fun v48 => ((am_pA 0 v46 v48 h34).bind fun v50 => (if (v24 - 48) < (v50 - 48) then ((am_vR (am_pG 3139 (.ref 174) h34)).bind fun v53 => ((am_vI (am_pG 3141 (.ref 174) h34)).bind fun v55 => ((am_pA 0 v53 v55 h34).bind fun v57 => (if am_pOk 12 (.ref 174) h34 then am_cV true (fm_335 (.ref 174) ((v24 - 48)) ((v57 - 48)) h34) (fun h61 => ((am_vI (am_pG 3141 (.ref 174) h61)).bind fun v63 => ((am_pP 3141 (.ref 174) (.int (v63 + 1)) h61).bind fun h65 => some (.inl (some (.int 1), h65))))) else none)))) else (fg_355_126 (.ref 174) h34)))))))))))) else none))))))) else (fg_355_48 (.ref 174) (fx V I L R ++ tl)))))))) = o → fm_355 (.ref 174) (fx V I L R ++ tl) = o := fun o k_ => by
    apply hm_355
    apply hd_355_0
    exact ev_b (rdI h14) (ev_t (fun q => by have := (nI_eq (b := 40) (by omega) (by omega)).mp q; omega) (ev_b (rdI h.2.1) (ev_i rfl (ev_cI (r_339 h (by omega)) k_))))
  unfold prT
  by_cases c : 48 ≤ T p ∧ T p < 48 + ln
  · rw [if_pos c]
    have dg : dgB (T p) = true := dgB_t.mpr (by omega)
    have pm := tq_m h.2.2.2 (p := p) (by omega)
    have g : am_pA 0 (.ref 218) (nI p) (fx V I L R ++ tl) = some (nI (T p)) := (qa_218 (by omega)).trans (congrArg some (h.2.2.2.2.1 p pm).1)
    obtain ⟨V1, eV1⟩ : ∃ X, X = vup V 174 69 (.int (nI (p + 1))) := ⟨_, rfl⟩
    have s1 : stR V1 I T m (p + 1) (-1) := by rw [eV1]; exact stR_a h
    have f1 : frRd V V1 I I := by rw [eV1]; exact frRd_v (by decide)
    have n1 : V1 174 15 = .int (nI ln) := by rw [eV1, vup_o (by decide)]; exact h15
    have d1 : dkL V1 I (tI Q) := ⟨by rw [eV1, vup_o (by decide)]; exact hd.1, hd.2⟩
    have b126 : fg_355_126 (.ref 174) (fx V1 I L R ++ tl) = some (.inl (some (.int 0), fx (vup V1 174 70 (.int (nI (p + 1)))) I L R ++ tl)) := hd_355_126 (ev_b (rdI s1.2.1) (ev_i rfl (ev_cI (r_331 s1) (ev_i rfl rfl))))
    have pr2 : ∀ o, (if bI (dgB (T (p + 1))) = 0 then (fg_355_126 (.ref 174) (fx V1 I L R ++ tl)) else ((am_vR (am_pG 3139 (.ref 174) (fx V1 I L R ++ tl))).bind fun v37 => ((am_vI (am_pG 3141 (.ref 174) (fx V1 I L R ++ tl))).bind fun v39 => ((am_pA 0 v37 v39 (fx V1 I L R ++ tl)).bind fun v41 => ((am_vI (am_pG 3087 (.ref 174) (fx V1 I L R ++ tl))).bind fun v43 => (if v43 ≤ (v41 - 48) then (fg_355_126 (.ref 174) (fx V1 I L R ++ tl)) else ((am_vR (am_pG 3139 (.ref 174) (fx V1 I L R ++ tl))).bind fun v46 => ((am_vI (am_pG 3141 (.ref 174) (fx V1 I L R ++ tl))).bind fun v48 => ((am_pA 0 v46 v48 (fx V1 I L R ++ tl)).bind fun v50 => (if nI (T p - 48) < (v50 - 48) then ((am_vR (am_pG 3139 (.ref 174) (fx V1 I L R ++ tl))).bind fun v53 => ((am_vI (am_pG 3141 (.ref 174) (fx V1 I L R ++ tl))).bind fun v55 => ((am_pA 0 v53 v55 (fx V1 I L R ++ tl)).bind fun v57 => (if am_pOk 12 (.ref 174) (fx V1 I L R ++ tl) then am_cV true (fm_335 (.ref 174) (nI (T p - 48)) ((v57 - 48)) (fx V1 I L R ++ tl)) (fun h61 => ((am_vI (am_pG 3141 (.ref 174) h61)).bind fun v63 => ((am_pP 3141 (.ref 174) (.int (v63 + 1)) h61).bind fun h65 => some (.inl (some (.int 1), h65))))) else none)))) else (fg_355_126 (.ref 174) (fx V1 I L R ++ tl)))))))))))) = o → fm_355 (.ref 174) (fx V I L R ++ tl) = o := fun o k_ => by
      refine pre _ (ev_f (dI_nz dg) (ev_b (rdR rfl) (ev_b (rdI h.2.1) (ev_b g (ev_b (rdI h15) ?_)))))
      rw [nI_48 c.1 t0]
      refine ev_t (nI_lt (by omega) (by omega)) (ev_b (rdR rfl) (ev_b (rdI h.2.1) (ev_b g (ev_b (rdI h.2.1) (ev_b (a := fx V1 I L R ++ tl) (by rw [nI_1, eV1]; exact qp_174_69) (ev_b (rdI s1.2.1) (ev_i rfl (ev_cI (r_339 s1 (by omega)) ?_))))))))
      rw [nI_48 c.1 t0]
      exact k_
    have fl : ∀ W, fm_355 (.ref 174) (fx V I L R ++ tl) = some (.inl (some (.int 0), fx (vup V1 174 70 (.int (nI (p + 1)))) I L R ++ tl)) → W = vup V1 174 70 (.int (nI (p + 1))) → ∃ x W J, fm_355 (.ref 174) (fx V I L R ++ tl) = some (.inl (some (.int x), fx W J L R ++ tl)) ∧ frRd V W I J ∧ W 174 15 = V 174 15 ∧ resR (.inl (p + 1) : Nat ⊕ (Nat × (Nat × Int32))) W J T m x (fun y => dkL W J (tI (Q ++ [y]))) := fun W e _ => ⟨0, _, I, e, frRd_t f1 (frRd_v (by decide)), by rw [vup_o (by decide), n1, h15], by omega, rfl, p + 1, by omega, stR_w s1⟩
    by_cases dd : dgB (T (p + 1)) = true
    · obtain ⟨d1', d2'⟩ := dgB_t.mp dd
      have pm2 := tq_m h.2.2.2 (p := p + 1) (by omega)
      have g2 : am_pA 0 (.ref 218) (nI (p + 1)) (fx V1 I L R ++ tl) = some (nI (T (p + 1))) := (qa_218 (by omega)).trans (congrArg some (h.2.2.2.2.1 (p + 1) pm2).1)
      by_cases d : T p < T (p + 1) ∧ T (p + 1) < 48 + ln
      · rw [if_pos d]
        obtain ⟨V2, J2, e2, f2, v2, j2, s2, d2⟩ := dkL_ap (V := V1) (I := I) (L := L) (R := R) (tl := tl) d1 (by omega) s1 (nI (T p - 48)) (nI (T (p + 1) - 48))
        rw [← tI_ap2 (a := (T p - 48, nI (T (p + 1) - 48)))] at d2
        refine ⟨1, vup V2 174 69 (.int (nI (p + 2))), J2, pr2 _ (ev_f (dI_nz dd) (ev_b (rdR rfl) (ev_b (rdI s1.2.1) (ev_b g2 (ev_b (rdI n1) ?_))))), frRd_t f1 (frRd_t f2 (frRd_v (by decide))), by rw [vup_o (by decide), v2 15 (by decide), n1, h15], by omega, rfl, stR_a s2, ⟨(vup_o (by decide)).trans d2.1, d2.2⟩⟩
        rw [nI_48 d1' t1]
        refine ev_f (nI_ge (by omega) (by omega)) (ev_b (rdR rfl) (ev_b (rdI s1.2.1) (ev_b g2 ?_)))
        rw [nI_48 d1' t1]
        refine ev_t (nI_lt (by omega) (by omega)) (ev_b (rdR rfl) (ev_b (rdI s1.2.1) (ev_b g2 (ev_i rfl ?_))))
        rw [nI_48 d1' t1]
        exact ev_cV e2 (ev_b (rdI s2.2.1) (ev_b (a := fx (vup V2 174 69 (.int (nI (p + 2)))) J2 L R ++ tl) (by rw [nI_1]; exact qp_174_69) rfl))
      · rw [if_neg d]
        refine fl _ (pr2 _ (ev_f (dI_nz dd) (ev_b (rdR rfl) (ev_b (rdI s1.2.1) (ev_b g2 (ev_b (rdI n1) ?_)))))) rfl
        rw [nI_48 d1' t1]
        by_cases z : ln ≤ T (p + 1) - 48
        · exact ev_t (nI_le z (by omega)) b126
        · refine ev_f (nI_ge (by omega) (by omega)) (ev_b (rdR rfl) (ev_b (rdI s1.2.1) (ev_b g2 ?_)))
          rw [nI_48 d1' t1]
          exact ev_f (nI_nlt (by omega) (by omega)) b126
    · have dd' : dgB (T (p + 1)) = false := by rw [← Bool.not_eq_true]; exact dd
      have := dgB_f.mp dd'
      rw [if_neg (by omega)]
      exact fl _ (pr2 _ (ev_t (dI_z dd') b126)) rfl
  · rw [if_neg c]
    refine ⟨0, vup V 174 70 (.int (nI p)), I, pre _ ?_, frRd_v (by decide), vup_o (by decide), hp, rfl, p, hp, stR_w h⟩
    by_cases dg : dgB (T p) = true
    · obtain ⟨c1, c2⟩ := dgB_t.mp dg
      have pm := tq_m h.2.2.2 (p := p) (by omega)
      have g : am_pA 0 (.ref 218) (nI p) (fx V I L R ++ tl) = some (nI (T p)) := (qa_218 (by omega)).trans (congrArg some (h.2.2.2.2.1 p pm).1)
      refine ev_f (dI_nz dg) (ev_b (rdR rfl) (ev_b (rdI h.2.1) (ev_b g (ev_b (rdI h15) ?_))))
      rw [nI_48 c1 t0]
      exact ev_f (nI_nlt (by omega) (by omega)) b48
    · have dg' : dgB (T p) = false := by rw [← Bool.not_eq_true]; exact dg
      exact ev_t (dI_z dg') b48
def resNR (r : Nat ⊕ xT) (W : Nat → Nat → Value) (J : Nat → Nat → Int32) (T : Nat → Nat) (m : Nat) : Prop := match r with
  | .inl e => e ≤ m ∧ W 174 70 = .int (nI e)
  | .inr P => W 174 70 = .int (-1) ∧ dkL W J (tI P) ∧ P.length ≤ 40
set_option maxRecDepth 100000 in
set_option maxHeartbeats 4000000 in
theorem r_354l {L : Nat → Nat → Int64} {R : Nat → Nat → Option Nat} {tl : am_H} {T : Nat → Nat} {m N ln : Nat} (l1 : 1 ≤ ln) (l8 : ln ≤ 8) : ∀ (f K : Nat) (V : Nat → Nat → Value) (I : Nat → Nat → Int32) (p : Nat) (Q : xT), f + Q.length = 40 → f + 1 < K → p ≤ m → stR V I T m p (-1) → dkL V I (tI Q) → V 174 15 = .int (nI ln) → ∃ W J, fg_354_98 N K (.ref 174) 1 (fx V I L R ++ tl) = some (.inl (none, fx W J L R ++ tl)) ∧ frRd V W I J ∧ W 174 15 = .int (nI ln) ∧ resNR (ntS T m ln f p Q) W J T m := by
  intro f
  induction f with
  | zero =>
    intro K V I p Q hf hK hp h hd h15
    obtain ⟨K, rfl⟩ : ∃ k, K = k + 1 := ⟨K - 1, by omega⟩
    have h14 : V 174 14 = .int (nI 40) := by rw [show 40 = Q.length by omega, ← tI_len (P := Q)]; exact hd.1
    refine ⟨vup V 174 70 (.int (nI p)), I, ?_, frRd_v (by decide), (vup_o (by decide)).trans h15, hp, vup_eq⟩
    apply hd_354_98
    exact ev_f (by decide) (ev_i rfl (ev_cI (v := 0) (hm_355 (hd_355_0 (ev_b (rdI h14) (ev_f (fun q => q rfl) (ev_b (rdI h.2.1) (ev_i rfl (ev_cI (r_331 h) (ev_i rfl rfl)))))))) (ev_t rfl (hd_354_157 rfl))))
  | succ f ih =>
    intro K V I p Q hf hK hp h hd h15
    obtain ⟨K, rfl⟩ : ∃ k, K = k + 1 + 1 := ⟨K - 2, by omega⟩
    have m240 := h.2.2.2.1
    obtain ⟨x, W, J, e2, f2, n2, r2⟩ := r_355 (V := V) (I := I) (L := L) (R := R) (tl := tl) (Q := Q) h hp hd (by omega) h15 l1 l8
    rw [h15] at n2
    have z61 : ∀ h', fg_354_98 N (K + 1) (.ref 174) 0 h' = some (.inl (none, h')) := fun h' => hd_354_98 (ev_t rfl (hd_354_157 rfl))
    rw [ntS]
    cases q : prT T ln p with
    | inl e =>
      rw [q] at r2
      obtain ⟨r1, rfl, p', rp, s2⟩ := r2
      exact ⟨W, J, hd_354_98 (ev_f (by decide) (ev_i rfl (ev_cI e2 (ev_t rfl (hd_354_157 rfl))))), f2, n2, r1, s2.2.2.1⟩
    | inr a =>
      rw [q] at r2
      obtain ⟨r1, rfl, s2, d2⟩ := r2
      have l2 : (Q ++ [a.2]).length = Q.length + 1 := by rw [List.length_append]; rfl
      have go : ∀ o, (if nI m ≤ nI a.1 then (fg_354_125 N (fg_354_98 N (K + 1)) (.ref 174) 0 (fx W J L R ++ tl)) else (fg_354_125 N (fg_354_98 N (K + 1)) (.ref 174) 1 (fx W J L R ++ tl))) = o → fg_354_98 N (K + 1 + 1) (.ref 174) 1 (fx V I L R ++ tl) = o := fun o k_ => hd_354_98 (ev_f (by decide) (ev_i rfl (ev_cI e2 (ev_f (by decide) (ev_b (rdI s2.2.1) (ev_b (rdI s2.1) k_))))))
      show ∃ W' J', _ ∧ _ ∧ _ ∧ resNR (if a.1 < m then (if T a.1 = 44 then ntS T m ln f (a.1 + 1) (Q ++ [a.2]) else .inl a.1) else .inr (Q ++ [a.2])) W' J' T m
      by_cases c : a.1 < m
      · rw [if_pos c]
        have e := r_336 (V := W) (I := J) (L := L) (R := R) (tl := tl) (c := 44) (by omega) (by omega) (x := 44) rfl s2 r1
        by_cases d : T a.1 = 44
        · rw [if_pos d] at e ⊢
          have s3 := stR_a (q := a.1 + 1) s2
          obtain ⟨W', J', e3, f3, n3, r3⟩ := ih (K + 1) (vup W 174 69 (.int (nI (a.1 + 1)))) J (a.1 + 1) (Q ++ [a.2]) (by omega) (by omega) (by omega) s3 ⟨(vup_o (by decide)).trans d2.1, d2.2⟩ ((vup_o (by decide)).trans n2)
          refine ⟨W', J', go _ (ev_f (nI_ge c (by omega)) (hd_354_125 (ev_f (by decide) (ev_i rfl (ev_cI e (hd_354_137 (ev_f (by decide) (ev_b (rdI s3.2.2.1) (ev_f (by decide) (hd_354_153 e3)))))))))), frRd_t f2 (frRd_t (frRd_v (by decide)) f3), n3, r3⟩
        · rw [if_neg d] at e ⊢
          have s3 := stR_w (x := nI a.1) s2
          refine ⟨_, J, go _ (ev_f (nI_ge c (by omega)) (hd_354_125 (ev_f (by decide) (ev_i rfl (ev_cI e (hd_354_137 (ev_f (by decide) (ev_b (rdI s3.2.2.1) (ev_t (nI_pos' (by omega)) (hd_354_152 (hd_354_153 (z61 _)))))))))))), frRd_t f2 (frRd_v (by decide)), (vup_o (by decide)).trans n2, r1, vup_eq⟩
      · rw [if_neg c]
        refine ⟨W, J, go _ (ev_t (nI_le (by omega) (by omega)) (hd_354_125 (ev_t rfl (hd_354_137 (ev_t rfl (hd_354_152 (hd_354_153 (z61 _)))))))), f2, n2, s2.2.2.1, d2, by omega⟩
def frRn (V W : Nat → Nat → Value) (I J : Nat → Nat → Int32) : Prop := (∀ a j, ¬ (a = 174 ∧ (j = 14 ∨ j = 15 ∨ (69 ≤ j ∧ j ≤ 77))) → W a j = V a j) ∧ (∀ y, ¬ (y = 186 ∨ y = 187 ∨ y = 194 ∨ y = 211 ∨ (219 ≤ y ∧ y ≤ 222)) → J y = I y) ∧ (wt V → wt W)
theorem frRn_d {V W : Nat → Nat → Value} {I J : Nat → Nat → Int32} (f : frRd V W I J) : frRn V W I J := ⟨fun a j h => f.1 a j (fun q => h ⟨q.1, by omega⟩), f.2.1, f.2.2⟩
theorem frRn_t {U V W : Nat → Nat → Value} {G I J : Nat → Nat → Int32} (f : frRn U V G I) (g : frRn V W I J) : frRn U W G J := ⟨fun a j h => (g.1 a j h).trans (f.1 a j h), fun y h => (g.2.1 y h).trans (f.2.1 y h), fun h => g.2.2 (f.2.2 h)⟩
theorem frRn_15 {V : Nat → Nat → Value} {I : Nat → Nat → Int32} {x : Int32} : frRn V (vup V 174 15 (.int x)) I I := ⟨fun a k q => vup_o (fun e => q ⟨e.1, by omega⟩), fun _ _ => rfl, fun w => wt_i w (by decide)⟩
theorem r_354 {V : Nat → Nat → Value} {I : Nat → Nat → Int32} {L : Nat → Nat → Int64} {R : Nat → Nat → Option Nat} {tl : am_H} {T : Nat → Nat} {m N : Nat} (hN : 100 < N) (h : stR V I T m 0 (-1)) (hd : dkL V I []) (h15 : V 174 15 = .int 0) : ∃ W J, fm_354 N (.ref 174) (fx V I L R ++ tl) = some (.inl (none, fx W J L R ++ tl)) ∧ frRn V W I J ∧ resNR (netP T m) W J T m ∧ (∀ P, netP T m = .inr P → W 174 15 = .int (nI (T 0 - 48))) := by
  have m240 := h.2.2.2.1
  have t0 := tq_256 h.2.2.2 0
  have b36 : fg_354_36 N (.ref 174) (fx V I L R ++ tl) = some (.inl (none, fx (vup V 174 70 (.int (nI 0))) I L R ++ tl)) := hd_354_36 (ev_b (rdI h.2.1) (ev_i rfl (ev_cI (r_331 h) rfl)))
  unfold netP
  by_cases c : 50 ≤ T 0 ∧ T 0 ≤ 56
  · rw [if_pos c]
    have pm := tq_m h.2.2.2 (p := 0) (by omega)
    have dg : dgB (T 0) = true := dgB_t.mpr (by omega)
    have g : am_pA 0 (.ref 218) (nI 0) (fx V I L R ++ tl) = some (nI (T 0)) := (qa_218 (by omega)).trans (congrArg some (h.2.2.2.2.1 0 pm).1)
    obtain ⟨V1, eV1⟩ : ∃ X, X = vup V 174 15 (.int (nI (T 0 - 48))) := ⟨_, rfl⟩
    have s1 : stR V1 I T m 0 (-1) := by rw [eV1]; exact stR_o (by decide) h
    obtain ⟨V2, eV2⟩ : ∃ X, X = vup V1 174 69 (.int (nI 1)) := ⟨_, rfl⟩
    have s2 : stR V2 I T m 1 (-1) := by rw [eV2]; exact stR_a s1
    have f2 : frRn V V2 I I := by rw [eV2, eV1]; exact frRn_t frRn_15 (frRn_d (frRd_v (by decide)))
    have n2 : V2 174 15 = .int (nI (T 0 - 48)) := by rw [eV2, vup_o (by decide), eV1]; exact vup_eq
    have d2 : dkL V2 I (tI []) := ⟨by rw [eV2, vup_o (by decide), eV1, vup_o (by decide)]; exact hd.1, hd.2⟩
    have e2 := r_336 (V := V2) (I := I) (L := L) (R := R) (tl := tl) (c := 58) (by omega) (by omega) (x := 58) rfl s2 (by omega)
    have go : ∀ o, am_cI true (fm_336 (.ref 174) 58 (fx V2 I L R ++ tl)) (fun v31 h32 => (if v31 = 0 then (fg_354_96 N (.ref 174) h32) else ((am_vI (am_pG 3141 (.ref 174) h32)).bind fun v35 => ((am_vI (am_pG 3140 (.ref 174) h32)).bind fun v37 => (if v37 ≤ v35 then (fg_354_96 N (.ref 174) h32) else (fg_354_97 N (.ref 174) 1 h32)))))) = o → fm_354 N (.ref 174) (fx V I L R ++ tl) = o := fun o k_ => by
      apply hm_354
      apply hd_354_0
      refine ev_b (rdI h.2.1) (ev_i rfl (ev_cI (r_339 h (by omega)) (ev_f (dI_nz dg) (ev_b (rdR rfl) (ev_b (rdI h.2.1) (ev_b g ?_))))))
      rw [nI_48 (by omega) t0]
      have e327 : fm_327 (nI (T 0 - 48)).toInt64 2 8 (fx V I L R ++ tl) = some (.inl (some (.int 1), fx V I L R ++ tl)) := (pe_327 _ _ _ _).trans (by rw [show pv_327 (nI (T 0 - 48)).toInt64 2 8 = 1 from in_ok (w64le (a := 2) (nI_le (a := 2) (by omega) (by omega))) (w64le (b := 8) (nI_le (b := 8) (by omega) (by omega)))])
      refine ev_cI e327 (ev_t (by decide) (ev_b (rdR rfl) (ev_b (rdI h.2.1) (ev_b g ?_))))
      rw [nI_48 (by omega) t0]
      exact ev_b (a := fx V1 I L R ++ tl) (by rw [eV1]; exact qp_174_15) (ev_b (rdI s1.2.1) (ev_b (a := fx V2 I L R ++ tl) (by rw [nI_1, eV2]; exact qp_174_69) (ev_i rfl k_)))
    obtain ⟨M, rfl⟩ : ∃ M, N = M + 1 := ⟨N - 1, by omega⟩
    by_cases d : T 1 = 58
    · rw [if_pos d] at e2 ⊢
      have pm2 := tq_m h.2.2.2 (p := 1) (by omega)
      have s3 : stR (vup V2 174 69 (.int (nI (1 + 1)))) I T m 2 (-1) := stR_a s2
      have f3 : frRd V2 (vup V2 174 69 (.int (nI (1 + 1)))) I I := frRd_v (by decide)
      by_cases c3 : 2 < m
      · rw [if_pos c3]
        obtain ⟨W, J, e4, f4, n4, r4⟩ := r_354l (L := L) (R := R) (tl := tl) (T := T) (m := m) (N := M + 1) (ln := T 0 - 48) (by omega) (by omega) 40 (M + 1) (vup V2 174 69 (.int (nI (1 + 1)))) I 2 [] (by rfl) (by omega) (by omega) s3 ⟨(vup_o (by decide)).trans d2.1, d2.2⟩ ((vup_o (by decide)).trans n2)
        exact ⟨W, J, go _ (ev_cI e2 (ev_f (by decide) (ev_b (rdI s3.2.1) (ev_b (rdI s3.1) (ev_f (nI_ge c3 (by omega)) (hd_354_97 e4)))))), frRn_t f2 (frRn_d (frRd_t f3 f4)), r4, fun _ _ => n4⟩
      · rw [if_neg c3]
        exact ⟨_, I, go _ (ev_cI e2 (ev_f (by decide) (ev_b (rdI s3.2.1) (ev_b (rdI s3.1) (ev_t (nI_le (by omega) (by omega)) (hd_354_96 (hd_354_97 (hd_354_98 (ev_t rfl (hd_354_157 rfl)))))))))), frRn_t f2 (frRn_d f3), ⟨s3.2.2.1, ⟨(vup_o (by decide)).trans d2.1, d2.2⟩, Nat.zero_le _⟩, fun _ _ => (vup_o (by decide)).trans n2⟩
    · rw [if_neg d] at e2 ⊢
      exact ⟨_, I, go _ (ev_cI e2 (ev_t rfl (hd_354_96 (hd_354_97 (hd_354_98 (ev_t rfl (hd_354_157 rfl))))))), frRn_t f2 (frRn_d (frRd_v (by decide))), ⟨by omega, vup_eq⟩, fun P q => by cases q⟩
  · rw [if_neg c]
    refine ⟨_, I, ?_, frRn_d (frRd_v (j := 70) (x := nI 0) (by decide)), ⟨Nat.zero_le m, vup_eq⟩, fun P q => by cases q⟩
    apply hm_354
    apply hd_354_0
    refine ev_b (rdI h.2.1) (ev_i rfl (ev_cI (r_339 h (by omega)) ?_))
    by_cases dg : dgB (T 0) = true
    · obtain ⟨c1, c2⟩ := dgB_t.mp dg
      have pm := tq_m h.2.2.2 (p := 0) (by omega)
      have g : am_pA 0 (.ref 218) (nI 0) (fx V I L R ++ tl) = some (nI (T 0)) := (qa_218 (by omega)).trans (congrArg some (h.2.2.2.2.1 0 pm).1)
      refine ev_f (dI_nz dg) (ev_b (rdR rfl) (ev_b (rdI h.2.1) (ev_b g ?_)))
      rw [nI_48 c1 t0]
      have pv : pv_327 (nI (T 0 - 48)).toInt64 2 8 = 0 := by
        by_cases z : T 0 - 48 < 2
        · exact in_lo (w64lt (b := 2) (nI_lt (b := 2) z (by omega)))
        · exact in_hi (w64lt (a := 8) (nI_lt (a := 8) (by omega) (by omega)))
      exact ev_cI ((pe_327 _ _ _ _).trans (by rw [pv])) (ev_f (fun q => q rfl) b36)
    · have dg' : dgB (T 0) = false := by rw [← Bool.not_eq_true]; exact dg
      exact ev_t (dI_z dg') b36
