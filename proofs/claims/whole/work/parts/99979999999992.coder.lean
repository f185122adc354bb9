/-! ===== read: code, reference ===== -/
theorem cs_346 {T : Nat → Nat} {m q : Nat} {f : Nat → Int32} (ht : tqT T m f) : pv_346 (rByt T m q) = if csg (T q) ≤ 16 then nI (csg (T q)) else if T q = 106 then 17 else if T q = 98 then 18 else -1 := by
  unfold rByt
  by_cases a : q < m
  · rw [if_pos a]; exact cs346 _ (tq_256 ht q)
  · rw [if_neg a, ht.2.2 q (by omega)]; decide
set_option maxRecDepth 100000 in
set_option maxHeartbeats 4000000 in
theorem r_345 {V : Nat → Nat → Value} {I : Nat → Nat → Int32} {L : Nat → Nat → Int64} {R : Nat → Nat → Option Nat} {tl : am_H} {T : Nat → Nat} {m p : Nat} {Q : xT} (h : stR V I T m p (-1)) (hp : p ≤ m) (hd : dkL V I (tI Q)) (hl : Q.length < 60) : ∃ x W J, fm_345 (.ref 174) (fx V I L R ++ tl) = some (.inl (some (.int x), fx W J L R ++ tl)) ∧ frRd V W I J ∧ J 219 = upd (I 219) Q.length (nI p) ∧ resR (inT T p) W J T m x (fun y => dkL W J (tI (Q ++ [y]))) := by
  have m240 := h.2.2.2.1
  have t0 := tq_256 h.2.2.2 p
  have lQ := tI_len (P := Q)
  have h14 : V 174 14 = .int (nI Q.length) := by rw [← lQ]; exact hd.1
  obtain ⟨I1, eI1⟩ : ∃ X, X = iup I 219 (upd (I 219) Q.length (nI p)) := ⟨_, rfl⟩
  have h1 : stR V I1 T m p (-1) := ⟨h.1, h.2.1, h.2.2.1, by rw [eI1, iup_na (by decide)]; exact h.2.2.2⟩
  have d1 : dkL V I1 (tI Q) := ⟨hd.1, by rw [eI1, iup_na (by decide), iup_na (by decide)]; exact hd.2⟩
  have f1 : frRd V V I I1 := ⟨fun _ _ _ => rfl, fun y u => by rw [eI1]; exact iup_na (by omega), id⟩
  have b1 : I1 219 = upd (I 219) Q.length (nI p) := by rw [eI1]; exact iup_eq
  have pre : ∀ o, (if isB T p = true then fg_345_70 (.ref 174) (fx V I1 L R ++ tl) else fg_345_90 (.ref 174) (rByt T m p) (fx V I1 L R ++ tl)) = o → fm_345 (.ref 174) (fx V I L R ++ tl) = o := fun o k_ => by
    apply hm_345
    apply hd_345_0
    refine ev_b (rdI h14) (ev_t (fun q => by have := (nI_eq (b := 60) (by omega) (by omega)).mp q; omega) (ev_b (rdR rfl) (ev_b (rdI h14) (ev_b (rdI h.2.1) (ev_b (a := fx V I1 L R ++ tl) (by rw [eI1]; exact qs_219 (by omega)) (ev_b (rdI h.2.1) (ev_i rfl (ev_cI (r_332 h1 (by omega)) (ev_b (rdI h.2.1) (ev_i rfl (ev_cI (r_339 h1 (by omega)) ?_)))))))))))
    by_cases d : dgB (T p) = true
    · rw [if_pos (isB_t.mpr (.inl d))] at k_
      exact ev_t (dI_nz d) k_
    · have d' : dgB (T p) = false := by rw [← Bool.not_eq_true]; exact d
      refine ev_f (fun q => q (dI_z d')) ?_
      by_cases c : T p = 45
      · refine ev_f (fun q => q ((rByt_eq h.2.2.2 (c := 45) (by omega) (by omega)).mpr c)) (ev_b (rdI h.2.1) (ev_i rfl ?_))
        rw [nI_1]
        refine ev_cI (r_339 h1 (by omega)) ?_
        by_cases e : dgB (T (p + 1)) = true
        · rw [if_pos (isB_t.mpr (.inr ⟨c, e⟩))] at k_
          exact ev_f (dI_nz e) k_
        · have e' : dgB (T (p + 1)) = false := by rw [← Bool.not_eq_true]; exact e
          rw [if_neg (fun q => (isB_t.mp q).elim d (fun z => e z.2))] at k_
          exact ev_t (dI_z e') k_
      · rw [if_neg (fun q => (isB_t.mp q).elim d (fun z => c z.1))] at k_
        exact ev_t (fun q => c ((rByt_eq h.2.2.2 (c := 45) (by omega) (by omega)).mp q)) k_
  unfold inT
  by_cases cn : isB T p = true
  · rw [if_pos cn] at pre ⊢
    obtain ⟨x, W, e3, f3, g3, r3⟩ := r_340 (V := V) (I := I1) (L := L) (R := R) (tl := tl) h1 hp
    cases q : csT T p with
    | inl e =>
      rw [q] at r3
      obtain ⟨r1, rfl, p', r2, s3⟩ := r3
      exact ⟨0, W, I1, pre _ (hd_345_70 (ev_i rfl (ev_cI e3 (ev_f (fun u => u rfl) rfl)))), frRd_t f1 f3, b1, r1, rfl, p', r2, s3⟩
    | inr a =>
      rw [q] at r3
      obtain ⟨r1, rfl, s3, r4, r5⟩ := r3
      have d2 : dkL W I1 (tI Q) := ⟨(g3 14 (by omega)).trans d1.1, d1.2⟩
      obtain ⟨V2, J2, e2, f2, v2, j2, s2, d3⟩ := dkL_ap (V := W) (I := I1) (L := L) (R := R) (tl := tl) d2 (by omega) s3 0 a.2
      exact ⟨1, V2, J2, pre _ (hd_345_70 (ev_i rfl (ev_cI e3 (ev_t (by decide) (ev_b (rdI r4) (ev_i rfl (ev_cV e2 rfl))))))), frRd_t f1 (frRd_t f3 f2), (j2 219 (by decide) (by decide)).trans b1, r1, rfl, s2, by show dkL _ _ (tI (Q ++ [_])); rw [tI_ap2]; exact d3⟩
  · rw [if_neg cn] at pre ⊢
    obtain ⟨g1, g17⟩ := csg_b (T p) t0
    obtain ⟨v, ev⟩ : ∃ v : Int32, v = if csg (T p) ≤ 16 then nI (csg (T p)) else if T p = 106 then 17 else if T p = 98 then 18 else -1 := ⟨_, rfl⟩
    have pr2 : ∀ o, (if 0 ≤ v then ((am_vI (am_pG 3141 (.ref 174) (fx V I1 L R ++ tl))).bind fun v5 => ((am_pP 3141 (.ref 174) (.int (v5 + 1)) (fx V I1 L R ++ tl)).bind fun h7 => ((am_pP 3144 (.ref 174) (.int 0) h7).bind fun h9 => (if v ≤ 16 then (fg_345_138 (.ref 174) v h9) else (if am_pOk 12 (.ref 174) h9 then am_cI true (fm_341 (.ref 174) h9) (fun v13 h14 => (if ¬ v13 = 0 then (fg_345_138 (.ref 174) v h14) else some (.inl (some (.int 0), h14)))) else none))))) else ((am_vI (am_pG 3141 (.ref 174) (fx V I1 L R ++ tl))).bind fun v17 => (if am_pOk 12 (.ref 174) (fx V I1 L R ++ tl) then am_cI true (fm_331 (.ref 174) v17 (fx V I1 L R ++ tl)) (fun v20 h21 => (if am_rfit (some FieldType.boolean) v20 then some (.inl (some (.int v20), h21)) else none)) else none))) = o → fm_345 (.ref 174) (fx V I L R ++ tl) = o := fun o k_ => by
      refine pre _ ?_
      apply hd_345_90
      refine ev_cI (pe_346 _ _) ?_
      rw [cs_346 h.2.2.2, ← ev]
      exact k_
    have up : ∀ (hm : p < m), ∃ V2, V2 = vup (vup V 174 69 (.int (nI (p + 1)))) 174 72 (.int 0) ∧ stR V2 I1 T m (p + 1) (-1) ∧ dkL V2 I1 (tI Q) ∧ frRd V V2 I1 I1 ∧ V2 174 72 = .int 0 := fun hm => ⟨_, rfl, stR_o (by decide) (stR_a h1), ⟨by rw [vup_o (by decide), vup_o (by decide)]; exact d1.1, d1.2⟩, frRd_t (frRd_v (by decide)) (frRd_v (by decide)), vup_eq⟩
    by_cases c16 : csg (T p) ≤ 16
    · rw [if_pos c16] at ev ⊢
      have pm : p < m := by
        refine tq_m h.2.2.2 (fun z => ?_)
        rw [z, csg_0] at c16
        omega
      obtain ⟨V2, eV2, s2, d2, f2, -⟩ := up pm
      obtain ⟨V3, J3, e3, f3, v3, j3, s3, d3⟩ := dkL_ap (V := V2) (I := I1) (L := L) (R := R) (tl := tl) d2 (by omega) s2 (nI (csg (T p))) 0
      refine ⟨1, V3, J3, pr2 _ ?_, frRd_t f1 (frRd_t f2 f3), (j3 219 (by decide) (by decide)).trans b1, by omega, rfl, s3, by show dkL _ _ (tI (Q ++ [_])); rw [tI_ap2]; exact d3⟩
      rw [ev]
      exact ev_t (nI_pos' (by omega)) (ev_b (rdI h.2.1) (ev_b (a := fx (vup V 174 69 (.int (nI (p + 1)))) I1 L R ++ tl) (by rw [nI_1]; exact qp_174_69) (ev_b (a := fx V2 I1 L R ++ tl) (by rw [eV2]; exact qp_174_72) (ev_t (nI_le (b := 16) c16 (by omega)) (hd_345_138 (ev_t (nI_le (b := 16) c16 (by omega)) (hd_345_154 (ev_i rfl (ev_cV e3 rfl)))))))))
    · rw [if_neg c16] at ev ⊢
      by_cases cj : T p = 106 ∨ T p = 98
      · rw [if_pos cj]
        have pm := tq_m h.2.2.2 (p := p) (by omega)
        obtain ⟨V2, eV2, s2, d2, f2, -⟩ := up pm
        obtain ⟨sj, esj⟩ : ∃ s : Nat, s = if T p = 106 then 17 else 18 := ⟨_, rfl⟩
        have ev' : v = nI sj ∧ (sj = 17 ∨ sj = 18) := by
          by_cases z : T p = 106
          · rw [if_pos z] at ev esj
            rw [ev, esj]
            exact ⟨rfl, .inl rfl⟩
          · rw [if_neg z, if_pos (cj.resolve_left z)] at ev
            rw [if_neg z] at esj
            rw [ev, esj]
            exact ⟨rfl, .inr rfl⟩
        obtain ⟨x, W, e3, f3, g3, r3⟩ := r_341 (V := V2) (I := I1) (L := L) (R := R) (tl := tl) s2 (by omega)
        have fin : ∀ o, (if ¬ x = 0 then (fg_345_138 (.ref 174) (nI sj) (fx W I1 L R ++ tl)) else some (.inl (some (.int 0), fx W I1 L R ++ tl))) = o → fm_345 (.ref 174) (fx V I L R ++ tl) = o := fun o k_ => by
          refine pr2 _ ?_
          rw [ev'.1]
          exact ev_t (nI_pos' (by omega)) (ev_b (rdI h.2.1) (ev_b (a := fx (vup V 174 69 (.int (nI (p + 1)))) I1 L R ++ tl) (by rw [nI_1]; exact qp_174_69) (ev_b (a := fx V2 I1 L R ++ tl) (by rw [eV2]; exact qp_174_72) (ev_f (nI_ge (a := 16) (by omega) (by omega)) (ev_i rfl (ev_cI e3 k_))))))
        cases q : dgS T (p + 1) with
        | inl e =>
          rw [q] at r3
          obtain ⟨r1, rfl, p', r2, s3⟩ := r3
          exact ⟨0, W, I1, fin _ (ev_f (fun u => u rfl) rfl), frRd_t f1 (frRd_t f2 f3), b1, r1, rfl, p', r2, s3⟩
        | inr a =>
          rw [q] at r3
          obtain ⟨r1, rfl, s3, r4, r5⟩ := r3
          have d3 : dkL W I1 (tI Q) := ⟨(g3 14 (by omega)).trans d2.1, d2.2⟩
          obtain ⟨V4, J4, e4, f4, v4, j4, s4, d4⟩ := dkL_ap (V := W) (I := I1) (L := L) (R := R) (tl := tl) d3 (by omega) s3 (nI sj) (nI a.2)
          refine ⟨1, V4, J4, fin _ (ev_t (by decide) (hd_345_138 (ev_f (nI_ge (a := 16) (by omega) (by omega)) (ev_b (rdI r4) (hd_345_154 (ev_i rfl (ev_cV e4 rfl))))))), frRd_t f1 (frRd_t f2 (frRd_t f3 f4)), (j4 219 (by decide) (by decide)).trans b1, r1, rfl, s4, ?_⟩
          rw [← esj]
          show dkL _ _ (tI (Q ++ [_]))
          rw [tI_ap2]
          exact d4
      · rw [if_neg cj]
        rw [if_neg (fun z => cj (.inl z)), if_neg (fun z => cj (.inr z))] at ev
        refine ⟨0, _, I1, pr2 _ ?_, frRd_t f1 (frRd_v (j := 70) (x := nI p) (by decide)), b1, hp, rfl, p, hp, stR_w h1⟩
        rw [ev]
        exact ev_f (by decide) (ev_b (rdI h.2.1) (ev_i rfl (ev_cI (r_331 h1) (ev_i rfl rfl))))
def resLR (r : Nat ⊕ (xT × List Nat)) (W : Nat → Nat → Value) (J : Nat → Nat → Int32) (T : Nat → Nat) (m : Nat) : Prop := match r with
  | .inl e => e ≤ m ∧ W 174 70 = .int (nI e)
  | .inr a => stR W J T m m (-1) ∧ dkL W J (tI a.1) ∧ a.1.length ≤ 60 ∧ stB (J 219) a.2 ∧ a.2.length = a.1.length
set_option maxRecDepth 100000 in
set_option maxHeartbeats 4000000 in
theorem r_344l {L : Nat → Nat → Int64} {R : Nat → Nat → Option Nat} {tl : am_H} {T : Nat → Nat} {m N : Nat} : ∀ (f K : Nat) (V : Nat → Nat → Value) (I : Nat → Nat → Int32) (p : Nat) (Q : xT) (B : List Nat), f + Q.length = 60 → B.length = Q.length → f + 1 < K → p ≤ m → stR V I T m p (-1) → dkL V I (tI Q) → stB (I 219) B → ∃ W J, fg_344_2 N K (.ref 174) 1 (fx V I L R ++ tl) = fg_344_61 N (.ref 174) (fx W J L R ++ tl) ∧ frRd V W I J ∧ resLR (cdSq T m f p Q B) W J T m := by
  intro f
  induction f with
  | zero =>
    intro K V I p Q B hf hB hK hp h hd hS
    obtain ⟨K, rfl⟩ : ∃ k, K = k + 1 := ⟨K - 1, by omega⟩
    have h14 : V 174 14 = .int (nI 60) := by rw [show 60 = Q.length by omega, ← tI_len (P := Q)]; exact hd.1
    refine ⟨vup V 174 70 (.int (nI p)), I, ?_, frRd_v (by decide), hp, vup_eq⟩
    apply hd_344_2
    refine ev_f (by decide) (ev_i rfl (ev_cI (v := 0) (hm_345 (hd_345_0 (ev_b (rdI h14) (ev_f (fun q => q rfl) (ev_b (rdI h.2.1) (ev_i rfl (ev_cI (r_331 h) (ev_i rfl rfl)))))))) (ev_t rfl rfl)))
  | succ f ih =>
    intro K V I p Q B hf hB hK hp h hd hS
    obtain ⟨K, rfl⟩ : ∃ k, K = k + 1 + 1 := ⟨K - 2, by omega⟩
    have m240 := h.2.2.2.1
    obtain ⟨x, W, J, e2, f2, b2, r2⟩ := r_345 (V := V) (I := I) (L := L) (R := R) (tl := tl) (Q := Q) h hp hd (by omega)
    have S2 : stB (J 219) (B ++ [p]) := by rw [b2, ← hB]; exact stB_ap hS
    have z61 : ∀ h', fg_344_2 N (K + 1) (.ref 174) 0 h' = fg_344_61 N (.ref 174) h' := fun h' => hd_344_2 (ev_t rfl rfl)
    rw [cdSq]
    cases q : inT T p with
    | inl e =>
      rw [q] at r2
      obtain ⟨r1, rfl, p', rp, s2⟩ := r2
      exact ⟨W, J, hd_344_2 (ev_f (by decide) (ev_i rfl (ev_cI e2 (ev_t rfl rfl)))), f2, r1, s2.2.2.1⟩
    | inr a =>
      rw [q] at r2
      obtain ⟨r1, rfl, s2, d2⟩ := r2
      have l2 : (Q ++ [a.2]).length = Q.length + 1 := by rw [List.length_append]; rfl
      show ∃ W' J', _ ∧ _ ∧ resLR (if a.1 < m then (if T a.1 = 32 then cdSq T m f (a.1 + 1) (Q ++ [a.2]) (B ++ [p]) else .inl a.1) else .inr (Q ++ [a.2], B ++ [p])) W' J' T m
      by_cases c : a.1 < m
      · rw [if_pos c]
        have e := r_336 (V := W) (I := J) (L := L) (R := R) (tl := tl) (c := 32) (by omega) (by omega) (x := 32) rfl s2 r1
        by_cases d : T a.1 = 32
        · rw [if_pos d] at e ⊢
          have s3 := stR_a (q := a.1 + 1) s2
          obtain ⟨W', J', e3, f3, r3⟩ := ih (K + 1) (vup W 174 69 (.int (nI (a.1 + 1)))) J (a.1 + 1) (Q ++ [a.2]) (B ++ [p]) (by omega) (by rw [List.length_append, hB, l2]; rfl) (by omega) (by omega) s3 ⟨(vup_o (by decide)).trans d2.1, d2.2⟩ S2
          refine ⟨W', J', hd_344_2 (ev_f (by decide) (ev_i rfl (ev_cI e2 (ev_f (by decide) (ev_b (rdI s2.2.1) (ev_b (rdI s2.1) (ev_f (nI_ge c (by omega)) (hd_344_29 (ev_f (by decide) (ev_i rfl (ev_cI e (hd_344_41 (ev_f (by decide) (ev_b (rdI s3.2.2.1) (ev_f (by decide) (hd_344_57 e3)))))))))))))))), frRd_t f2 (frRd_t (frRd_v (by decide)) f3), r3⟩
        · rw [if_neg d] at e ⊢
          have s3 := stR_w (x := nI a.1) s2
          refine ⟨_, J, hd_344_2 (ev_f (by decide) (ev_i rfl (ev_cI e2 (ev_f (by decide) (ev_b (rdI s2.2.1) (ev_b (rdI s2.1) (ev_f (nI_ge c (by omega)) (hd_344_29 (ev_f (by decide) (ev_i rfl (ev_cI e (hd_344_41 (ev_f (by decide) (ev_b (rdI s3.2.2.1) (ev_t (nI_pos' (by omega)) (hd_344_56 (hd_344_57 (z61 _)))))))))))))))))), frRd_t f2 (frRd_v (by decide)), r1, vup_eq⟩
      · rw [if_neg c]
        have ea : a.1 = m := by omega
        refine ⟨W, J, hd_344_2 (ev_f (by decide) (ev_i rfl (ev_cI e2 (ev_f (by decide) (ev_b (rdI s2.2.1) (ev_b (rdI s2.1) (ev_t (nI_le (by omega) (by omega)) (hd_344_29 (ev_t rfl (hd_344_41 (ev_t rfl (hd_344_56 (hd_344_57 (z61 _)))))))))))))), f2, by rw [← ea]; rw [← ea] at s2; exact s2, d2, by show (Q ++ [a.2]).length ≤ 60; omega, S2, ?_⟩
        show (B ++ [p]).length = (Q ++ [a.2]).length
        rw [l2, List.length_append, hB]
        rfl
