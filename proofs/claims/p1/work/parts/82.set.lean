/-! ===== set ===== -/
theorem t5 (a : Int32) : (a = 0 ∨ a = 1 ∨ a = 2 ∨ a = 3 ∨ a = 4) ∨ (a < 0 ∨ 5 ≤ a) := by
  by_cases c : a < 0
  · exact .inr (.inl c)
  · by_cases c2 : 5 ≤ a
    · exact .inr (.inr c2)
    · obtain ⟨k, hk, rfl⟩ := nI_of c
      have hk4 : k < 5 := Nat.not_le.mp (fun h9 => c2 ((nI_leI (by decide) hk).mpr h9))
      left
      rcases (by omega : k = 0 ∨ k = 1 ∨ k = 2 ∨ k = 3 ∨ k = 4) with rfl | rfl | rfl | rfl | rfl
      · exact .inl rfl
      · exact .inr (.inl rfl)
      · exact .inr (.inr (.inl rfl))
      · exact .inr (.inr (.inr (.inl rfl)))
      · exact .inr (.inr (.inr (.inr rfl)))
set_option maxRecDepth 100000 in
set_option maxHeartbeats 4000000 in
theorem t437_0 {v : Int32} {h : am_H} : fm_437 0 v h = some (.inl (some (.int (pv_327 v.toInt64 10 2000)), h)) := by
  unfold fm_437 fg_437_0
  refine ev_f (by decide) ?_
  refine ev_cI (pe_327 _ _ _ _) ?_
  unfold fg_437_91
  refine ev_i ?_ rfl
  unfold pv_327
  split
  · rfl
  · split <;> rfl
set_option maxRecDepth 100000 in
set_option maxHeartbeats 4000000 in
theorem p_26_0 (q : rkQ) {X : am_X} (h16 : am_pX X 16 0 = some 10) (h17 : am_pX X 17 0 = some 2000) (a2 : Int32) : ∃ h', opBI (fm_153 X (.ref 0) 0 a2 (.ref 268) (hp0 q)) (fun h1 => fm_436 (.ref 174) 0 a2 h1) vfI h' ∧ fits h' := by
  have hbad : ∀ e : pv_327 a2.toInt64 10 2000 = 0, fm_154 X (.ref 0) 0 a2 (hp0 q) = some (.inr (0, hpE q)) → ∃ h', opBI (fm_153 X (.ref 0) 0 a2 (.ref 268) (hp0 q)) (fun h1 => fm_436 (.ref 174) 0 a2 h1) vfI h' ∧ fits h' := by
    intro e hz
    refine ⟨hpT q 1, ⟨1, hpE q, 0, 0, ?_, rfl, ?_, rfl, rfl, fun e => absurd e (by decide)⟩, hpT_fits q 1⟩
    · simp only [fm_153, fg_153_0, hz]
      rfl
    · unfold fm_436 fg_436_0
      refine ev_cI t437_0 ?_
      rw [e]
      rfl
  by_cases c1 : a2 < 10
  · refine hbad (in_lo (w64lt (b := 10) c1)) ?_
    unfold fm_154 fg_154_0
    refine ev_f (by decide) ?_
    refine ev_b (a := .ref 38) rfl ?_
    refine ev_b (a := 5) rfl ?_
    refine ev_f (by decide) ?_
    refine ev_b h16 ?_
    exact ev_t c1 rfl
  · by_cases c2 : a2 ≤ 2000
    · have hz : fm_154 X (.ref 0) 0 a2 (hp0 q) = some (.inl (some (.int 200), fx (vup (vup V0 16 0 (.int a2)) 27 0 (.int a2)) (iup I0 38 (upd set0 0 a2)) (L0 q) R0 ++ [])) := by
        unfold fm_154 fg_154_0
        refine ev_f (by decide) ?_
        refine ev_b (a := .ref 38) rfl ?_
        refine ev_b (a := 5) rfl ?_
        refine ev_f (by decide) ?_
        refine ev_b h16 ?_
        refine ev_f c1 ?_
        refine ev_b h17 ?_
        refine ev_t c2 ?_
        refine ev_b (a := .ref 38) rfl ?_
        refine ev_b (a := 200) rfl ?_
        refine ev_b (a := .ref 38) rfl ?_
        refine ev_b (a := fx V0 (iup I0 38 (upd set0 0 a2)) (L0 q) R0 ++ []) (ev_s (f := set0) rfl rfl rfl rfl) ?_
        refine ev_b (a := .ref 14) rfl ?_
        refine ev_b (a := .ref 38) rfl ?_
        refine ev_b (a := a2) rfl ?_
        refine ev_i rfl ?_
        have h155 : fm_155 (.ref 14) a2 (fx V0 (iup I0 38 (upd set0 0 a2)) (L0 q) R0 ++ []) = some (.inl (none, fx (vup (vup V0 16 0 (.int a2)) 27 0 (.int a2)) (iup I0 38 (upd set0 0 a2)) (L0 q) R0 ++ [])) := by
          unfold fm_155 fg_155_0
          refine ev_b (a := .ref 16) rfl ?_
          refine ev_b (a := fx (vup V0 16 0 (.int a2)) (iup I0 38 (upd set0 0 a2)) (L0 q) R0 ++ []) (ev_p rfl rfl rfl rfl) ?_
          refine ev_b (a := .ref 27) rfl ?_
          refine ev_b (a := fx (vup (vup V0 16 0 (.int a2)) 27 0 (.int a2)) (iup I0 38 (upd set0 0 a2)) (L0 q) R0 ++ []) (ev_p rfl rfl rfl rfl) ?_
          rfl
        exact ev_cV h155 rfl
      refine ⟨fx (vup (vup (vup V0 16 0 (.int a2)) 27 0 (.int a2)) 174 0 (.int 0)) (iup (iup I0 38 (upd set0 0 a2)) 206 (upd set1 0 a2)) (lup (L0 q) 268 (vp_updL (L0 q 268) 0 (Int32.toInt64 200))) R0 ++ [], ⟨0, fx (vup (vup V0 16 0 (.int a2)) 27 0 (.int a2)) (iup I0 38 (upd set0 0 a2)) (lup (L0 q) 268 (vp_updL (L0 q 268) 0 (Int32.toInt64 200))) R0 ++ [], 200, Int32.toInt64 200, ?_, rfl, ?_, rfl, rfl, fun _ => ⟨rfl, rfl⟩⟩, fits_fx (Nat.zero_le _) (Nat.zero_le _)⟩
      · simp only [fm_153, fg_153_0, hz]
        rfl
      · show fm_436 (.ref 174) 0 a2 (fx (vup (vup V0 16 0 (.int a2)) 27 0 (.int a2)) (iup I0 38 (upd set0 0 a2)) (lup (L0 q) 268 (vp_updL (L0 q 268) 0 (Int32.toInt64 200))) R0 ++ []) = _
        unfold fm_436 fg_436_0
        refine ev_cI t437_0 ?_
        rw [show pv_327 a2.toInt64 10 2000 = 1 from in_ok (w64le (a := 10) (Int32.not_lt.mp c1)) (w64le (b := 2000) c2)]
        refine ev_f (by decide) ?_
        unfold fg_436_14
        refine ev_b (a := fx (vup (vup (vup V0 16 0 (.int a2)) 27 0 (.int a2)) 174 0 (.int 0)) (iup I0 38 (upd set0 0 a2)) (lup (L0 q) 268 (vp_updL (L0 q 268) 0 (Int32.toInt64 200))) R0 ++ []) (ev_p rfl rfl rfl rfl) ?_
        refine ev_b (a := 0) rfl ?_
        refine ev_t (by decide) ?_
        refine ev_b (a := .ref 206) rfl ?_
        refine ev_b (a := 200) rfl ?_
        refine ev_b (a := .ref 206) rfl ?_
        exact ev_b (ev_s (f := set1) (n := 5) rfl rfl rfl rfl) rfl
    · refine hbad (in_hi (w64lt (a := 2000) (Int32.not_le.mp c2))) ?_
      unfold fm_154 fg_154_0
      refine ev_f (by decide) ?_
      refine ev_b (a := .ref 38) rfl ?_
      refine ev_b (a := 5) rfl ?_
      refine ev_f (by decide) ?_
      refine ev_b h16 ?_
      refine ev_f c1 ?_
      refine ev_b h17 ?_
      exact ev_f c2 rfl
set_option maxRecDepth 100000 in
set_option maxHeartbeats 4000000 in
theorem t437_1 {v : Int32} {h : am_H} : fm_437 1 v h = some (.inl (some (.int (pv_327 v.toInt64 0 4)), h)) := by
  unfold fm_437 fg_437_0
  refine ev_t (by decide) ?_
  refine ev_f (by decide) ?_
  refine ev_cI (pe_327 _ _ _ _) ?_
  unfold fg_437_91
  refine ev_i ?_ rfl
  unfold pv_327
  split
  · rfl
  · split <;> rfl
set_option maxRecDepth 100000 in
set_option maxHeartbeats 4000000 in
theorem p_26_1 (q : rkQ) {X : am_X} (h16 : am_pX X 16 1 = some 0) (h17 : am_pX X 17 1 = some 4) (a2 : Int32) : ∃ h', opBI (fm_153 X (.ref 0) 1 a2 (.ref 268) (hp0 q)) (fun h1 => fm_436 (.ref 174) 1 a2 h1) vfI h' ∧ fits h' := by
  have hbad : ∀ e : pv_327 a2.toInt64 0 4 = 0, fm_154 X (.ref 0) 1 a2 (hp0 q) = some (.inr (0, hpE q)) → ∃ h', opBI (fm_153 X (.ref 0) 1 a2 (.ref 268) (hp0 q)) (fun h1 => fm_436 (.ref 174) 1 a2 h1) vfI h' ∧ fits h' := by
    intro e hz
    refine ⟨hpT q 1, ⟨1, hpE q, 0, 0, ?_, rfl, ?_, rfl, rfl, fun e => absurd e (by decide)⟩, hpT_fits q 1⟩
    · simp only [fm_153, fg_153_0, hz]
      rfl
    · unfold fm_436 fg_436_0
      refine ev_cI t437_1 ?_
      rw [e]
      rfl
  by_cases c1 : a2 < 0
  · refine hbad (in_lo (w64lt (b := 0) c1)) ?_
    unfold fm_154 fg_154_0
    refine ev_f (by decide) ?_
    refine ev_b (a := .ref 38) rfl ?_
    refine ev_b (a := 5) rfl ?_
    refine ev_f (by decide) ?_
    refine ev_b h16 ?_
    exact ev_t c1 rfl
  · by_cases c2 : a2 ≤ 4
    · have hz : fm_154 X (.ref 0) 1 a2 (hp0 q) = some (.inl (some (.int 1), fx (vup (vup V0 16 0 (.int 200)) 27 0 (.int 200)) (iup I0 38 (upd set0 1 a2)) (L0 q) R0 ++ [])) := by
        unfold fm_154 fg_154_0
        refine ev_f (by decide) ?_
        refine ev_b (a := .ref 38) rfl ?_
        refine ev_b (a := 5) rfl ?_
        refine ev_f (by decide) ?_
        refine ev_b h16 ?_
        refine ev_f c1 ?_
        refine ev_b h17 ?_
        refine ev_t c2 ?_
        refine ev_b (a := .ref 38) rfl ?_
        refine ev_b (a := 1) rfl ?_
        refine ev_b (a := .ref 38) rfl ?_
        refine ev_b (a := fx V0 (iup I0 38 (upd set0 1 a2)) (L0 q) R0 ++ []) (ev_s (f := set0) rfl rfl rfl rfl) ?_
        refine ev_b (a := .ref 14) rfl ?_
        refine ev_b (a := .ref 38) rfl ?_
        refine ev_b (a := 200) rfl ?_
        refine ev_i rfl ?_
        have h155 : fm_155 (.ref 14) 200 (fx V0 (iup I0 38 (upd set0 1 a2)) (L0 q) R0 ++ []) = some (.inl (none, fx (vup (vup V0 16 0 (.int 200)) 27 0 (.int 200)) (iup I0 38 (upd set0 1 a2)) (L0 q) R0 ++ [])) := by
          unfold fm_155 fg_155_0
          refine ev_b (a := .ref 16) rfl ?_
          refine ev_b (a := fx (vup V0 16 0 (.int 200)) (iup I0 38 (upd set0 1 a2)) (L0 q) R0 ++ []) (ev_p rfl rfl rfl rfl) ?_
          refine ev_b (a := .ref 27) rfl ?_
          refine ev_b (a := fx (vup (vup V0 16 0 (.int 200)) 27 0 (.int 200)) (iup I0 38 (upd set0 1 a2)) (L0 q) R0 ++ []) (ev_p rfl rfl rfl rfl) ?_
          rfl
        exact ev_cV h155 rfl
      refine ⟨fx (vup (vup (vup V0 16 0 (.int 200)) 27 0 (.int 200)) 174 0 (.int 0)) (iup (iup I0 38 (upd set0 1 a2)) 206 (upd set1 1 a2)) (lup (L0 q) 268 (vp_updL (L0 q 268) 0 (Int32.toInt64 1))) R0 ++ [], ⟨0, fx (vup (vup V0 16 0 (.int 200)) 27 0 (.int 200)) (iup I0 38 (upd set0 1 a2)) (lup (L0 q) 268 (vp_updL (L0 q 268) 0 (Int32.toInt64 1))) R0 ++ [], 1, Int32.toInt64 1, ?_, rfl, ?_, rfl, rfl, fun _ => ⟨rfl, rfl⟩⟩, fits_fx (Nat.zero_le _) (Nat.zero_le _)⟩
      · simp only [fm_153, fg_153_0, hz]
        rfl
      · show fm_436 (.ref 174) 1 a2 (fx (vup (vup V0 16 0 (.int 200)) 27 0 (.int 200)) (iup I0 38 (upd set0 1 a2)) (lup (L0 q) 268 (vp_updL (L0 q 268) 0 (Int32.toInt64 1))) R0 ++ []) = _
        unfold fm_436 fg_436_0
        refine ev_cI t437_1 ?_
        rw [show pv_327 a2.toInt64 0 4 = 1 from in_ok (w64le (a := 0) (Int32.not_lt.mp c1)) (w64le (b := 4) c2)]
        refine ev_f (by decide) ?_
        unfold fg_436_14
        refine ev_b (a := fx (vup (vup (vup V0 16 0 (.int 200)) 27 0 (.int 200)) 174 0 (.int 0)) (iup I0 38 (upd set0 1 a2)) (lup (L0 q) 268 (vp_updL (L0 q 268) 0 (Int32.toInt64 1))) R0 ++ []) (ev_p rfl rfl rfl rfl) ?_
        refine ev_b (a := 0) rfl ?_
        refine ev_t (by decide) ?_
        refine ev_b (a := .ref 206) rfl ?_
        refine ev_b (a := 1) rfl ?_
        refine ev_b (a := .ref 206) rfl ?_
        exact ev_b (ev_s (f := set1) (n := 5) rfl rfl rfl rfl) rfl
    · refine hbad (in_hi (w64lt (a := 4) (Int32.not_le.mp c2))) ?_
      unfold fm_154 fg_154_0
      refine ev_f (by decide) ?_
      refine ev_b (a := .ref 38) rfl ?_
      refine ev_b (a := 5) rfl ?_
      refine ev_f (by decide) ?_
      refine ev_b h16 ?_
      refine ev_f c1 ?_
      refine ev_b h17 ?_
      exact ev_f c2 rfl
set_option maxRecDepth 100000 in
set_option maxHeartbeats 4000000 in
theorem t437_2 {v : Int32} {h : am_H} : fm_437 2 v h = some (.inl (some (.int (pv_327 v.toInt64 1 5)), h)) := by
  unfold fm_437 fg_437_0
  refine ev_t (by decide) ?_
  refine ev_t (by decide) ?_
  refine ev_f (by decide) ?_
  refine ev_cI (pe_327 _ _ _ _) ?_
  unfold fg_437_91
  refine ev_i ?_ rfl
  unfold pv_327
  split
  · rfl
  · split <;> rfl
set_option maxRecDepth 100000 in
set_option maxHeartbeats 4000000 in
theorem p_26_2 (q : rkQ) {X : am_X} (h16 : am_pX X 16 2 = some 1) (h17 : am_pX X 17 2 = some 5) (a2 : Int32) : ∃ h', opBI (fm_153 X (.ref 0) 2 a2 (.ref 268) (hp0 q)) (fun h1 => fm_436 (.ref 174) 2 a2 h1) vfI h' ∧ fits h' := by
  have hbad : ∀ e : pv_327 a2.toInt64 1 5 = 0, fm_154 X (.ref 0) 2 a2 (hp0 q) = some (.inr (0, hpE q)) → ∃ h', opBI (fm_153 X (.ref 0) 2 a2 (.ref 268) (hp0 q)) (fun h1 => fm_436 (.ref 174) 2 a2 h1) vfI h' ∧ fits h' := by
    intro e hz
    refine ⟨hpT q 1, ⟨1, hpE q, 0, 0, ?_, rfl, ?_, rfl, rfl, fun e => absurd e (by decide)⟩, hpT_fits q 1⟩
    · simp only [fm_153, fg_153_0, hz]
      rfl
    · unfold fm_436 fg_436_0
      refine ev_cI t437_2 ?_
      rw [e]
      rfl
  by_cases c1 : a2 < 1
  · refine hbad (in_lo (w64lt (b := 1) c1)) ?_
    unfold fm_154 fg_154_0
    refine ev_f (by decide) ?_
    refine ev_b (a := .ref 38) rfl ?_
    refine ev_b (a := 5) rfl ?_
    refine ev_f (by decide) ?_
    refine ev_b h16 ?_
    exact ev_t c1 rfl
  · by_cases c2 : a2 ≤ 5
    · have hz : fm_154 X (.ref 0) 2 a2 (hp0 q) = some (.inl (some (.int 3), fx (vup (vup V0 16 0 (.int 200)) 27 0 (.int 200)) (iup I0 38 (upd set0 2 a2)) (L0 q) R0 ++ [])) := by
        unfold fm_154 fg_154_0
        refine ev_f (by decide) ?_
        refine ev_b (a := .ref 38) rfl ?_
        refine ev_b (a := 5) rfl ?_
        refine ev_f (by decide) ?_
        refine ev_b h16 ?_
        refine ev_f c1 ?_
        refine ev_b h17 ?_
        refine ev_t c2 ?_
        refine ev_b (a := .ref 38) rfl ?_
        refine ev_b (a := 3) rfl ?_
        refine ev_b (a := .ref 38) rfl ?_
        refine ev_b (a := fx V0 (iup I0 38 (upd set0 2 a2)) (L0 q) R0 ++ []) (ev_s (f := set0) rfl rfl rfl rfl) ?_
        refine ev_b (a := .ref 14) rfl ?_
        refine ev_b (a := .ref 38) rfl ?_
        refine ev_b (a := 200) rfl ?_
        refine ev_i rfl ?_
        have h155 : fm_155 (.ref 14) 200 (fx V0 (iup I0 38 (upd set0 2 a2)) (L0 q) R0 ++ []) = some (.inl (none, fx (vup (vup V0 16 0 (.int 200)) 27 0 (.int 200)) (iup I0 38 (upd set0 2 a2)) (L0 q) R0 ++ [])) := by
          unfold fm_155 fg_155_0
          refine ev_b (a := .ref 16) rfl ?_
          refine ev_b (a := fx (vup V0 16 0 (.int 200)) (iup I0 38 (upd set0 2 a2)) (L0 q) R0 ++ []) (ev_p rfl rfl rfl rfl) ?_
          refine ev_b (a := .ref 27) rfl ?_
          refine ev_b (a := fx (vup (vup V0 16 0 (.int 200)) 27 0 (.int 200)) (iup I0 38 (upd set0 2 a2)) (L0 q) R0 ++ []) (ev_p rfl rfl rfl rfl) ?_
          rfl
        exact ev_cV h155 rfl
      refine ⟨fx (vup (vup (vup V0 16 0 (.int 200)) 27 0 (.int 200)) 174 0 (.int 0)) (iup (iup I0 38 (upd set0 2 a2)) 206 (upd set1 2 a2)) (lup (L0 q) 268 (vp_updL (L0 q 268) 0 (Int32.toInt64 3))) R0 ++ [], ⟨0, fx (vup (vup V0 16 0 (.int 200)) 27 0 (.int 200)) (iup I0 38 (upd set0 2 a2)) (lup (L0 q) 268 (vp_updL (L0 q 268) 0 (Int32.toInt64 3))) R0 ++ [], 3, Int32.toInt64 3, ?_, rfl, ?_, rfl, rfl, fun _ => ⟨rfl, rfl⟩⟩, fits_fx (Nat.zero_le _) (Nat.zero_le _)⟩
      · simp only [fm_153, fg_153_0, hz]
        rfl
      · show fm_436 (.ref 174) 2 a2 (fx (vup (vup V0 16 0 (.int 200)) 27 0 (.int 200)) (iup I0 38 (upd set0 2 a2)) (lup (L0 q) 268 (vp_updL (L0 q 268) 0 (Int32.toInt64 3))) R0 ++ []) = _
        unfold fm_436 fg_436_0
        refine ev_cI t437_2 ?_
        rw [show pv_327 a2.toInt64 1 5 = 1 from in_ok (w64le (a := 1) (Int32.not_lt.mp c1)) (w64le (b := 5) c2)]
        refine ev_f (by decide) ?_
        unfold fg_436_14
        refine ev_b (a := fx (vup (vup (vup V0 16 0 (.int 200)) 27 0 (.int 200)) 174 0 (.int 0)) (iup I0 38 (upd set0 2 a2)) (lup (L0 q) 268 (vp_updL (L0 q 268) 0 (Int32.toInt64 3))) R0 ++ []) (ev_p rfl rfl rfl rfl) ?_
        refine ev_b (a := 0) rfl ?_
        refine ev_t (by decide) ?_
        refine ev_b (a := .ref 206) rfl ?_
        refine ev_b (a := 3) rfl ?_
        refine ev_b (a := .ref 206) rfl ?_
        exact ev_b (ev_s (f := set1) (n := 5) rfl rfl rfl rfl) rfl
    · refine hbad (in_hi (w64lt (a := 5) (Int32.not_le.mp c2))) ?_
      unfold fm_154 fg_154_0
      refine ev_f (by decide) ?_
      refine ev_b (a := .ref 38) rfl ?_
      refine ev_b (a := 5) rfl ?_
      refine ev_f (by decide) ?_
      refine ev_b h16 ?_
      refine ev_f c1 ?_
      refine ev_b h17 ?_
      exact ev_f c2 rfl
set_option maxRecDepth 100000 in
set_option maxHeartbeats 4000000 in
theorem t437_3 {v : Int32} {h : am_H} : fm_437 3 v h = some (.inl (some (.int (pv_327 v.toInt64 0 100)), h)) := by
  unfold fm_437 fg_437_0
  refine ev_t (by decide) ?_
  refine ev_t (by decide) ?_
  refine ev_t (by decide) ?_
  refine ev_f (by decide) ?_
  refine ev_cI (pe_327 _ _ _ _) ?_
  unfold fg_437_91
  refine ev_i ?_ rfl
  unfold pv_327
  split
  · rfl
  · split <;> rfl
set_option maxRecDepth 100000 in
set_option maxHeartbeats 4000000 in
theorem p_26_3 (q : rkQ) {X : am_X} (h16 : am_pX X 16 3 = some 0) (h17 : am_pX X 17 3 = some 100) (a2 : Int32) : ∃ h', opBI (fm_153 X (.ref 0) 3 a2 (.ref 268) (hp0 q)) (fun h1 => fm_436 (.ref 174) 3 a2 h1) vfI h' ∧ fits h' := by
  have hbad : ∀ e : pv_327 a2.toInt64 0 100 = 0, fm_154 X (.ref 0) 3 a2 (hp0 q) = some (.inr (0, hpE q)) → ∃ h', opBI (fm_153 X (.ref 0) 3 a2 (.ref 268) (hp0 q)) (fun h1 => fm_436 (.ref 174) 3 a2 h1) vfI h' ∧ fits h' := by
    intro e hz
    refine ⟨hpT q 1, ⟨1, hpE q, 0, 0, ?_, rfl, ?_, rfl, rfl, fun e => absurd e (by decide)⟩, hpT_fits q 1⟩
    · simp only [fm_153, fg_153_0, hz]
      rfl
    · unfold fm_436 fg_436_0
      refine ev_cI t437_3 ?_
      rw [e]
      rfl
  by_cases c1 : a2 < 0
  · refine hbad (in_lo (w64lt (b := 0) c1)) ?_
    unfold fm_154 fg_154_0
    refine ev_f (by decide) ?_
    refine ev_b (a := .ref 38) rfl ?_
    refine ev_b (a := 5) rfl ?_
    refine ev_f (by decide) ?_
    refine ev_b h16 ?_
    exact ev_t c1 rfl
  · by_cases c2 : a2 ≤ 100
    · have hz : fm_154 X (.ref 0) 3 a2 (hp0 q) = some (.inl (some (.int 30), fx (vup (vup V0 16 0 (.int 200)) 27 0 (.int 200)) (iup I0 38 (upd set0 3 a2)) (L0 q) R0 ++ [])) := by
        unfold fm_154 fg_154_0
        refine ev_f (by decide) ?_
        refine ev_b (a := .ref 38) rfl ?_
        refine ev_b (a := 5) rfl ?_
        refine ev_f (by decide) ?_
        refine ev_b h16 ?_
        refine ev_f c1 ?_
        refine ev_b h17 ?_
        refine ev_t c2 ?_
        refine ev_b (a := .ref 38) rfl ?_
        refine ev_b (a := 30) rfl ?_
        refine ev_b (a := .ref 38) rfl ?_
        refine ev_b (a := fx V0 (iup I0 38 (upd set0 3 a2)) (L0 q) R0 ++ []) (ev_s (f := set0) rfl rfl rfl rfl) ?_
        refine ev_b (a := .ref 14) rfl ?_
        refine ev_b (a := .ref 38) rfl ?_
        refine ev_b (a := 200) rfl ?_
        refine ev_i rfl ?_
        have h155 : fm_155 (.ref 14) 200 (fx V0 (iup I0 38 (upd set0 3 a2)) (L0 q) R0 ++ []) = some (.inl (none, fx (vup (vup V0 16 0 (.int 200)) 27 0 (.int 200)) (iup I0 38 (upd set0 3 a2)) (L0 q) R0 ++ [])) := by
          unfold fm_155 fg_155_0
          refine ev_b (a := .ref 16) rfl ?_
          refine ev_b (a := fx (vup V0 16 0 (.int 200)) (iup I0 38 (upd set0 3 a2)) (L0 q) R0 ++ []) (ev_p rfl rfl rfl rfl) ?_
          refine ev_b (a := .ref 27) rfl ?_
          refine ev_b (a := fx (vup (vup V0 16 0 (.int 200)) 27 0 (.int 200)) (iup I0 38 (upd set0 3 a2)) (L0 q) R0 ++ []) (ev_p rfl rfl rfl rfl) ?_
          rfl
        exact ev_cV h155 rfl
      refine ⟨fx (vup (vup (vup V0 16 0 (.int 200)) 27 0 (.int 200)) 174 0 (.int 0)) (iup (iup I0 38 (upd set0 3 a2)) 206 (upd set1 3 a2)) (lup (L0 q) 268 (vp_updL (L0 q 268) 0 (Int32.toInt64 30))) R0 ++ [], ⟨0, fx (vup (vup V0 16 0 (.int 200)) 27 0 (.int 200)) (iup I0 38 (upd set0 3 a2)) (lup (L0 q) 268 (vp_updL (L0 q 268) 0 (Int32.toInt64 30))) R0 ++ [], 30, Int32.toInt64 30, ?_, rfl, ?_, rfl, rfl, fun _ => ⟨rfl, rfl⟩⟩, fits_fx (Nat.zero_le _) (Nat.zero_le _)⟩
      · simp only [fm_153, fg_153_0, hz]
        rfl
      · show fm_436 (.ref 174) 3 a2 (fx (vup (vup V0 16 0 (.int 200)) 27 0 (.int 200)) (iup I0 38 (upd set0 3 a2)) (lup (L0 q) 268 (vp_updL (L0 q 268) 0 (Int32.toInt64 30))) R0 ++ []) = _
        unfold fm_436 fg_436_0
        refine ev_cI t437_3 ?_
        rw [show pv_327 a2.toInt64 0 100 = 1 from in_ok (w64le (a := 0) (Int32.not_lt.mp c1)) (w64le (b := 100) c2)]
        refine ev_f (by decide) ?_
        unfold fg_436_14
        refine ev_b (a := fx (vup (vup (vup V0 16 0 (.int 200)) 27 0 (.int 200)) 174 0 (.int 0)) (iup I0 38 (upd set0 3 a2)) (lup (L0 q) 268 (vp_updL (L0 q 268) 0 (Int32.toInt64 30))) R0 ++ []) (ev_p rfl rfl rfl rfl) ?_
        refine ev_b (a := 0) rfl ?_
        refine ev_t (by decide) ?_
        refine ev_b (a := .ref 206) rfl ?_
        refine ev_b (a := 30) rfl ?_
        refine ev_b (a := .ref 206) rfl ?_
        exact ev_b (ev_s (f := set1) (n := 5) rfl rfl rfl rfl) rfl
    · refine hbad (in_hi (w64lt (a := 100) (Int32.not_le.mp c2))) ?_
      unfold fm_154 fg_154_0
      refine ev_f (by decide) ?_
      refine ev_b (a := .ref 38) rfl ?_
      refine ev_b (a := 5) rfl ?_
      refine ev_f (by decide) ?_
      refine ev_b h16 ?_
      refine ev_f c1 ?_
      refine ev_b h17 ?_
      exact ev_f c2 rfl
set_option maxRecDepth 100000 in
set_option maxHeartbeats 4000000 in
theorem t437_4 {v : Int32} {h : am_H} : fm_437 4 v h = some (.inl (some (.int (pv_327 v.toInt64 0 2)), h)) := by
  unfold fm_437 fg_437_0
  refine ev_t (by decide) ?_
  refine ev_t (by decide) ?_
  refine ev_t (by decide) ?_
  refine ev_t (by decide) ?_
  refine ev_f (by decide) ?_
  refine ev_cI (pe_327 _ _ _ _) ?_
  by_cases c : pv_327 v.toInt64 0 2 = 0
  · rw [c]
    exact ev_t rfl rfl
  · have e : pv_327 v.toInt64 0 2 = 1 := by
      unfold pv_327 at c ⊢
      split at c
      · exact absurd rfl c
      · split at c
        · exact absurd rfl c
        · rename_i h1 h2
          rw [if_neg h1, if_neg h2]
    rw [e]
    exact ev_f (by decide) rfl
set_option maxRecDepth 100000 in
set_option maxHeartbeats 4000000 in
theorem p_26_4 (q : rkQ) {X : am_X} (h16 : am_pX X 16 4 = some 0) (h17 : am_pX X 17 4 = some 2) (a2 : Int32) : ∃ h', opBI (fm_153 X (.ref 0) 4 a2 (.ref 268) (hp0 q)) (fun h1 => fm_436 (.ref 174) 4 a2 h1) vfI h' ∧ fits h' := by
  have hbad : ∀ e : pv_327 a2.toInt64 0 2 = 0, fm_154 X (.ref 0) 4 a2 (hp0 q) = some (.inr (0, hpE q)) → ∃ h', opBI (fm_153 X (.ref 0) 4 a2 (.ref 268) (hp0 q)) (fun h1 => fm_436 (.ref 174) 4 a2 h1) vfI h' ∧ fits h' := by
    intro e hz
    refine ⟨hpT q 1, ⟨1, hpE q, 0, 0, ?_, rfl, ?_, rfl, rfl, fun e => absurd e (by decide)⟩, hpT_fits q 1⟩
    · simp only [fm_153, fg_153_0, hz]
      rfl
    · unfold fm_436 fg_436_0
      refine ev_cI t437_4 ?_
      rw [e]
      rfl
  by_cases c1 : a2 < 0
  · refine hbad (in_lo (w64lt (b := 0) c1)) ?_
    unfold fm_154 fg_154_0
    refine ev_f (by decide) ?_
    refine ev_b (a := .ref 38) rfl ?_
    refine ev_b (a := 5) rfl ?_
    refine ev_f (by decide) ?_
    refine ev_b h16 ?_
    exact ev_t c1 rfl
  · by_cases c2 : a2 ≤ 2
    · have hz : fm_154 X (.ref 0) 4 a2 (hp0 q) = some (.inl (some (.int 0), fx (vup (vup V0 16 0 (.int 200)) 27 0 (.int 200)) (iup I0 38 (upd set0 4 a2)) (L0 q) R0 ++ [])) := by
        unfold fm_154 fg_154_0
        refine ev_f (by decide) ?_
        refine ev_b (a := .ref 38) rfl ?_
        refine ev_b (a := 5) rfl ?_
        refine ev_f (by decide) ?_
        refine ev_b h16 ?_
        refine ev_f c1 ?_
        refine ev_b h17 ?_
        refine ev_t c2 ?_
        refine ev_b (a := .ref 38) rfl ?_
        refine ev_b (a := 0) rfl ?_
        refine ev_b (a := .ref 38) rfl ?_
        refine ev_b (a := fx V0 (iup I0 38 (upd set0 4 a2)) (L0 q) R0 ++ []) (ev_s (f := set0) rfl rfl rfl rfl) ?_
        refine ev_b (a := .ref 14) rfl ?_
        refine ev_b (a := .ref 38) rfl ?_
        refine ev_b (a := 200) rfl ?_
        refine ev_i rfl ?_
        have h155 : fm_155 (.ref 14) 200 (fx V0 (iup I0 38 (upd set0 4 a2)) (L0 q) R0 ++ []) = some (.inl (none, fx (vup (vup V0 16 0 (.int 200)) 27 0 (.int 200)) (iup I0 38 (upd set0 4 a2)) (L0 q) R0 ++ [])) := by
          unfold fm_155 fg_155_0
          refine ev_b (a := .ref 16) rfl ?_
          refine ev_b (a := fx (vup V0 16 0 (.int 200)) (iup I0 38 (upd set0 4 a2)) (L0 q) R0 ++ []) (ev_p rfl rfl rfl rfl) ?_
          refine ev_b (a := .ref 27) rfl ?_
          refine ev_b (a := fx (vup (vup V0 16 0 (.int 200)) 27 0 (.int 200)) (iup I0 38 (upd set0 4 a2)) (L0 q) R0 ++ []) (ev_p rfl rfl rfl rfl) ?_
          rfl
        exact ev_cV h155 rfl
      refine ⟨fx (vup (vup (vup V0 16 0 (.int 200)) 27 0 (.int 200)) 174 0 (.int 0)) (iup (iup I0 38 (upd set0 4 a2)) 206 (upd set1 4 a2)) (lup (L0 q) 268 (vp_updL (L0 q 268) 0 (Int32.toInt64 0))) R0 ++ [], ⟨0, fx (vup (vup V0 16 0 (.int 200)) 27 0 (.int 200)) (iup I0 38 (upd set0 4 a2)) (lup (L0 q) 268 (vp_updL (L0 q 268) 0 (Int32.toInt64 0))) R0 ++ [], 0, Int32.toInt64 0, ?_, rfl, ?_, rfl, rfl, fun _ => ⟨rfl, rfl⟩⟩, fits_fx (Nat.zero_le _) (Nat.zero_le _)⟩
      · simp only [fm_153, fg_153_0, hz]
        rfl
      · show fm_436 (.ref 174) 4 a2 (fx (vup (vup V0 16 0 (.int 200)) 27 0 (.int 200)) (iup I0 38 (upd set0 4 a2)) (lup (L0 q) 268 (vp_updL (L0 q 268) 0 (Int32.toInt64 0))) R0 ++ []) = _
        unfold fm_436 fg_436_0
        refine ev_cI t437_4 ?_
        rw [show pv_327 a2.toInt64 0 2 = 1 from in_ok (w64le (a := 0) (Int32.not_lt.mp c1)) (w64le (b := 2) c2)]
        refine ev_f (by decide) ?_
        unfold fg_436_14
        refine ev_b (a := fx (vup (vup (vup V0 16 0 (.int 200)) 27 0 (.int 200)) 174 0 (.int 0)) (iup I0 38 (upd set0 4 a2)) (lup (L0 q) 268 (vp_updL (L0 q 268) 0 (Int32.toInt64 0))) R0 ++ []) (ev_p rfl rfl rfl rfl) ?_
        refine ev_b (a := 0) rfl ?_
        refine ev_t (by decide) ?_
        refine ev_b (a := .ref 206) rfl ?_
        refine ev_b (a := 0) rfl ?_
        refine ev_b (a := .ref 206) rfl ?_
        exact ev_b (ev_s (f := set1) (n := 5) rfl rfl rfl rfl) rfl
    · refine hbad (in_hi (w64lt (a := 2) (Int32.not_le.mp c2))) ?_
      unfold fm_154 fg_154_0
      refine ev_f (by decide) ?_
      refine ev_b (a := .ref 38) rfl ?_
      refine ev_b (a := 5) rfl ?_
      refine ev_f (by decide) ?_
      refine ev_b h16 ?_
      refine ev_f c1 ?_
      refine ev_b h17 ?_
      exact ev_f c2 rfl
set_option maxRecDepth 100000 in
set_option maxHeartbeats 4000000 in
theorem p_26 (q : rkQ) (L : Nat) (xs : Nat → Int32) (a1 a2 : Int32) : ∃ h', opBI (fm_153 (am_X0 L xs) (.ref 0) a1 a2 (.ref 268) (hp0 q)) (fun h1 => fm_436 (.ref 174) a1 a2 h1) vfI h' ∧ fits h' := by
  rcases t5 a1 with (rfl | rfl | rfl | rfl | rfl) | hn
  · exact p_26_0 q rfl rfl a2
  · exact p_26_1 q rfl rfl a2
  · exact p_26_2 q rfl rfl a2
  · exact p_26_3 q rfl rfl a2
  · exact p_26_4 q rfl rfl a2
  · refine ⟨hpT q 1, ⟨1, hpE q, 0, 0, ?_, rfl, ?_, rfl, rfl, fun e => absurd e (by decide)⟩, hpT_fits q 1⟩
    · have hz : fm_154 (am_X0 L xs) (.ref 0) a1 a2 (hp0 q) = some (.inr (0, hpE q)) := by
        unfold fm_154 fg_154_0
        by_cases c : a1 < 0
        · exact ev_t c rfl
        · refine ev_f c ?_
          refine ev_b (a := .ref 38) rfl ?_
          refine ev_b (a := 5) rfl ?_
          exact ev_t (hn.resolve_left c) rfl
      simp only [fm_153, fg_153_0, hz]
      rfl
    · have h437 : ∀ {h : am_H}, fm_437 a1 a2 h = some (.inl (some (.int 0), h)) := by
        intro h
        have ne : ∀ k : Nat, k < 5 → ¬ a1 = nI k := by
          intro k hk e
          subst e
          rcases hn with h9 | h9
          · exact nI_pos (by omega) h9
          · exact absurd ((nI_leI (a := 5) (by decide) (by omega)).mp h9) (by omega)
        unfold fm_437 fg_437_0
        refine ev_t (ne 0 (by omega)) ?_
        refine ev_t (ne 1 (by omega)) ?_
        refine ev_t (ne 2 (by omega)) ?_
        refine ev_t (ne 3 (by omega)) ?_
        exact ev_t (ne 4 (by omega)) rfl
      unfold fm_436 fg_436_0
      refine ev_cI h437 ?_
      rfl
