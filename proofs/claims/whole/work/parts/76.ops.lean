/-! ===== the fresh objects: witness, add, front, read ===== -/
set_option maxRecDepth 100000 in
set_option maxHeartbeats 4000000 in
theorem t14 (a : Int32) : (a < 0 ∨ 15 ≤ a) ∨ ∃ k, k < 15 ∧ a = nI k := by
  by_cases c : a < 0
  · exact .inl (.inl c)
  · by_cases c2 : 15 ≤ a
    · exact .inl (.inr c2)
    · obtain ⟨k, hk, rfl⟩ := nI_of c
      exact .inr ⟨k, Nat.not_le.mp (fun h9 => c2 ((nI_leI (by decide) hk).mpr h9)), rfl⟩
set_option maxRecDepth 100000 in
set_option maxHeartbeats 4000000 in
theorem p_52 (q : rkQ) (a1 : Int32) : ∃ h', opBI (fm_299 (.ref 0) a1 (.ref 268) (hp0 q)) (fun h1 => fm_576 (.ref 174) a1 h1) vfI h' ∧ fits h' := by
  rcases t14 a1 with hn | ⟨k, hk, rfl⟩
  · refine ⟨hpT q 1, ⟨1, hpE q, 0, 0, ?_, rfl, ?_, rfl, rfl, fun e => absurd e (by decide)⟩, hpT_fits q 1⟩
    · have hz : fm_300 (.ref 0) a1 (hp0 q) = some (.inr (0, hpE q)) := by
        unfold fm_300 fg_300_0
        by_cases c : a1 < 0
        · exact ev_t c rfl
        · refine ev_f c ?_
          refine ev_b (a := .ref 166) rfl ?_
          refine ev_b (a := 15) rfl ?_
          exact ev_f (Int32.not_lt.mpr (hn.resolve_left c)) rfl
      simp only [fm_299, fg_299_0, hz]
      rfl
    · unfold fm_576 fg_576_0
      refine ev_cI (pe_327 _ _ _ _) ?_
      rw [show pv_327 a1.toInt64 0 14 = 0 from hn.elim (fun h9 => in_lo (w64lt h9)) (fun h9 => in_hi (Int64.lt_of_lt_of_le (show (14 : Int64) < Int32.toInt64 15 by decide) (w64le h9)))]
      rfl
  · refine ⟨((hp0 q).set 268 (.inl (1, 1, .inr (.inl (vp_updL (fun _ => 0) 0 0))))).set 174 (.inr (12, .int 0 :: rfs)), ⟨0, (hp0 q).set 268 (.inl (1, 1, .inr (.inl (vp_updL (fun _ => 0) 0 0)))), 0, 0, ?_, rfl, ?_, rfl, rfl, fun _ => ⟨rfl, rfl⟩⟩, fits_of szl rfl (by decide)⟩
    · have hz : fm_300 (.ref 0) (nI k) (hp0 q) = some (.inl (some (.int 0), hp0 q)) := by
        unfold fm_300 fg_300_0
        refine ev_f (nI_pos (by omega)) ?_
        refine ev_b (a := .ref 166) rfl ?_
        refine ev_b (a := 15) rfl ?_
        refine ev_t (nI_lt hk (by omega)) ?_
        refine ev_b (a := .ref 166) rfl ?_
        exact ev_b (ev_a (f := fun _ => 0) (n := 15) rfl (am_inb_n hk (by omega))) rfl
      simp only [fm_299, fg_299_0, hz]
      rfl
    · unfold fm_576 fg_576_0
      refine ev_cI (pe_327 _ _ _ _) ?_
      rw [show pv_327 (nI k).toInt64 0 14 = 1 from in_ok (w64le (a := 0) (nI_pos' (by omega))) (w64le (b := 14) (nI_le (b := 14) (by omega) (by omega)))]
      refine ev_f (by decide) ?_
      unfold fg_576_18
      refine ev_b (a := ((hp0 q).set 268 (.inl (1, 1, .inr (.inl (vp_updL (fun _ => 0) 0 0))))).set 174 (.inr (12, .int 0 :: rfs))) rfl ?_
      refine ev_b (a := 0) rfl ?_
      refine ev_t (by decide) ?_
      refine ev_b (a := .ref 254) rfl ?_
      exact ev_b (ev_a (f := fun _ => 0) (n := 15) rfl (am_inb_n hk (by omega))) rfl
set_option maxRecDepth 100000 in
set_option maxHeartbeats 4000000 in
theorem p_1 (q : rkQ) (M : Nat) (a1 : Int32) : ∃ h', opBI (fm_30 (M + 300) (.ref 0) a1 (.ref 268) (hp0 q)) (fun h1 => fm_326 (M + 300) (.ref 174) a1 h1) vfI h' ∧ fits h' := by
  rcases isl a1 with (rfl | rfl | rfl | rfl) | hn
  · exact ⟨_, ⟨0, _, -1, -1, rfl, rfl, rfl, rfl, rfl, fun _ => ⟨rfl, rfl⟩⟩, fits_of szl rfl (by decide)⟩
  · exact ⟨_, ⟨0, _, -1, -1, rfl, rfl, rfl, rfl, rfl, fun _ => ⟨rfl, rfl⟩⟩, fits_of szl rfl (by decide)⟩
  · exact ⟨_, ⟨0, _, -1, -1, rfl, rfl, rfl, rfl, rfl, fun _ => ⟨rfl, rfl⟩⟩, fits_of szl rfl (by decide)⟩
  · exact ⟨_, ⟨0, _, -1, -1, rfl, rfl, rfl, rfl, rfl, fun _ => ⟨rfl, rfl⟩⟩, fits_of szl rfl (by decide)⟩
  · refine ⟨hpT q 1, ⟨1, hpE q, 0, 0, ?_, rfl, ?_, rfl, rfl, fun e => absurd e (by decide)⟩, hpT_fits q 1⟩
    · have hz : fm_31 (M + 300) (.ref 0) a1 (hp0 q) = some (.inr (0, hpE q)) := by
        unfold fm_31 fg_31_0
        by_cases c : a1 < 0
        · exact ev_t c rfl
        · refine ev_f c ?_
          exact ev_f (Int32.not_le.mpr (Int32.lt_of_lt_of_le (by decide : (3 : Int32) < 4) (hn.resolve_left c))) rfl
      simp only [fm_30, fg_30_0, hz]
      rfl
    · unfold fm_326 fg_326_0
      refine ev_cI (pe_327 _ _ _ _) ?_
      rw [show pv_327 a1.toInt64 0 3 = 0 from hn.elim (fun h9 => in_lo (w64lt h9)) (fun h9 => in_hi (Int64.lt_of_lt_of_le (show (3 : Int64) < Int32.toInt64 4 by decide) (w64le h9)))]
      rfl
