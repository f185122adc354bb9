/-! ===== trees(n) ===== -/
theorem rel_80 {V W : Nat → Nat → Value} {I : Nat → Nat → Int32} {L M : Nat → Nat → Int64} {R : Nat → Nat → Option Nat} {tl : am_H} {n p : Nat} (v : ∀ a j, ¬ (a = 174 ∧ j = 80) → W a j = V a j) (l : ∀ y, y ≠ 224 → y ≠ 225 → y ≠ 226 → M y = L y) (hi : rInv W M) (w : wt W) (h : rel V I L R tl n p) : rel W I M R tl n p := by
  obtain ⟨z1, z2, z3, z4, z5, z6, z7, z8, z9, z10, z11, z12, -⟩ := h
  refine ⟨rBn_c (v 0 1 (by decide)) (v 174 1 (by decide)) z1, rBp_c (fun _ _ _ => rfl) (l 183 (by decide) (by decide) (by decide)) z2, rTx_c rfl rfl (v 2 1 (by decide)) (v 174 68 (by decide)) z3, rCs_c rfl (fun _ _ _ => rfl) (v 14 1 (by decide)) (v 174 31 (by decide)) z4, rDr_c rfl rfl (v 174 40 (by decide)) z5, rSe_c rfl rfl (v 16 0 (by decide)) (v 27 0 (by decide)) z6, rIs_c (fun _ _ => rfl) (fun a ha => ?_) (l 235 (by decide) (by decide) (by decide)) z7, rTo_c (v 0 12 (by decide)) (v 0 13 (by decide)) (v 174 56 (by decide)) (v 174 57 (by decide)) z8, z9, rRu_c rfl rfl rfl rfl (v 118 2 (by decide)) (v 174 115 (by decide)) z10, ⟨(l 77 (by decide) (by decide) (by decide)).trans z11.1, (l 78 (by decide) (by decide) (by decide)).trans z11.2.1, hi⟩, z12, w⟩
  rcases ha with rfl | rfl | rfl | rfl | rfl | rfl | rfl | rfl <;> exact v _ _ (by decide)
set_option maxRecDepth 100000 in
set_option maxHeartbeats 1600000 in
theorem x_377w {V : Nat → Nat → Value} {I : Nat → Nat → Int32} {L : Nat → Nat → Int64} {R : Nat → Nat → Option Nat} {tl : am_H} {N : Nat} (hN : 40 < N) (hi : rInv V L) (hw : wt V) : ∃ W M, fm_377 N (.ref 174) (fx V I L R ++ tl) = some (.inl (none, fx W I M R ++ tl)) ∧ W 174 80 = .int 1 ∧ M 224 = tC ∧ M 225 = tS ∧ (∀ a j, ¬ (a = 174 ∧ j = 80) → W a j = V a j) ∧ (∀ y, y ≠ 224 → y ≠ 225 → y ≠ 226 → M y = L y) ∧ wt W := by
  rcases hi with ⟨h1, h2, h3⟩ | ⟨h1, h2, h3⟩
  · obtain ⟨Y1, q⟩ := x_377 (V := V) (I := I) (L := L) (R := R) (tl := tl) hN h1 h2 h3
    refine ⟨_, _, q, vup_eq, rfl, rfl, fun a j hj => ?_, fun y y1 y2 y3 => ?_, wt_i hw (by decide)⟩
    · by_cases c : a = 174
      · subst c
        exact vup_nj (fun e => hj ⟨rfl, e⟩)
      · exact vup_na c
    · rw [lup_na y3, lup_na y2, lup_na y1]
  · exact ⟨V, L, x_377c h1, h1, h2, h3, fun _ _ _ => rfl, fun _ _ _ _ => rfl, hw⟩
set_option maxRecDepth 100000 in
set_option maxHeartbeats 1600000 in
theorem u_9 {V : Nat → Nat → Value} {I : Nat → Nat → Int32} {L : Nat → Nat → Int64} {R : Nat → Nat → Option Nat} {tl : am_H} {n p j : Nat} (hr : rel V I L R tl n p) (hm : room tl n p j) {N : Nat} (hN : 5000 < N) (a1 : Int32) : ∃ h', opBL (fm_87 (.ref 0) a1 (.ref 268) (fx V I L R ++ tl)) (fun h1 => fm_376 N (.ref 174) a1 h1) vfI h' ∧ invW (j + 1) h' := by
  obtain ⟨r1, r2, r3⟩ := hr.2.2.2.2.2.2.2.2.2.2.1
  rcases t12 a1 with hn | ⟨k, n1, n2, rfl⟩
  · refine ⟨_, opBL_err (c := 1) (b := 0) (by decide) (tl := tl ++ [am_dummy]) ?_ ?_, inv_mk (rel_thr 1 (rel_dum hr)) (room_dum hm)⟩
    · have e : fm_88 (.ref 0) a1 (fx V I L R ++ tl) = some (.inr (0, (fx V I L R ++ (tl ++ [am_dummy])))) := by
        rw [← List.append_assoc]
        unfold fm_88 fg_88_0
        by_cases c : a1 < 1
        · exact ev_t c rfl
        · exact ev_f c (ev_f (Int32.not_le.mpr (hn.resolve_left c)) rfl)
      unfold fm_87 fg_87_0
      refine ev_i rfl ?_
      rw [e]
      rfl
    · show fm_376 N (.ref 174) a1 (fx V I L R ++ (tl ++ [am_dummy])) = _
      unfold fm_376 fg_376_0
      refine ev_cI (pe_327 _ _ _ _) ?_
      rw [show pv_327 a1.toInt64 1 12 = 0 from hn.elim (fun h9 => in_lo (w64lt (b := 1) h9)) (fun h9 => in_hi (w64lt (a := 12) h9))]
      refine ev_t rfl ?_
      unfold fg_376_18
      exact ev_b qp_174_0 (ev_b (a := 1) rfl (ev_f (by decide) rfl))
  · obtain ⟨v, hv⟩ : ∃ v, v = lN (uT 0 k) := ⟨_, rfl⟩
    have i0 : rInv (vup V 174 0 (.int 0)) (outL L v) := by
      rcases r3 with ⟨h1, h2, h3⟩ | ⟨h1, h2, h3⟩
      · exact .inl ⟨h1, h2, h3⟩
      · exact .inr ⟨h1, h2, h3⟩
    obtain ⟨W, M, e1, w1, m1, m2, f1, f2, ww⟩ := x_377w (V := vup V 174 0 (.int 0)) (I := I) (L := outL L v) (R := R) (tl := tl) (N := N) (by omega) i0 (wt_i (rel_w hr) (by decide))
    refine ⟨_, opBL_g (v := v) (W := V) (J := I) (M := outL L v) (R1 := R) (t1 := tl) (W' := W) (J' := I) (M' := M) (R2 := R) (t2 := tl) ?_ ?_ ?_ ?_, inv_mk (rel_80 f1 f2 (.inr ⟨w1, m1, m2⟩) ww (rel_ol _ (rel_thr 0 hr))) (room_up hm)⟩
    · have e : fm_88 (.ref 0) (nI k) (fx V I L R ++ tl) = some (.inl (some (.long v), (fx V I L R ++ tl))) := by
        unfold fm_88 fg_88_0
        refine ev_f (nI_nlt (b := 1) n1 (by omega)) (ev_t (nI_le (b := 12) n2 (by decide)) (ev_b (a := Value.ref 76) rfl (ev_i rfl (ev_cL (e_15 (a := 76) (ta := 78) (T := L 78) rfl rfl rfl 0 (nI k)) ?_))))
        rw [r2, show rkTot tT 0 (nI k) = lN (uT 0 k) from rkTot_u (c := 0) (by omega) n1 (by omega), hv]
      unfold fm_87 fg_87_0
      refine ev_i rfl ?_
      rw [e]
      exact ev_b out_s rfl
    · show fm_376 N (.ref 174) (nI k) (fx V I (outL L v) R ++ tl) = _
      unfold fm_376 fg_376_0
      refine ev_cI (pe_327 _ _ _ _) ?_
      rw [show pv_327 (nI k).toInt64 1 12 = 1 from in_ok (w64le (a := 1) (nI_le (a := 1) n1 (by omega))) (w64le (b := 12) (nI_le (b := 12) n2 (by decide)))]
      refine ev_f (by decide) ?_
      unfold fg_376_18
      refine ev_b qp_174_0 (ev_b (a := 0) rfl (ev_t (by decide) (ev_i rfl (ev_cV e1 (ev_i rfl ?_)))))
      rw [hv]
      exact ev_cL (x_383 (w := 0) (t := 0) (n := k) m1 (by omega) (by omega) n2) rfl
    · rw [f1 174 0 (by decide)]
      exact vup_eq
    · rw [f2 268 (by decide) (by decide) (by decide)]
      exact outL_at
