/-! ===== the fresh objects: islands, and calls that read a field ===== -/
set_option maxRecDepth 100000 in
set_option maxHeartbeats 4000000 in
theorem w64lt {a b : Int32} (h : a < b) : a.toInt64 < b.toInt64 := by
  rw [Int64.lt_iff_toInt_lt, Int32.toInt_toInt64, Int32.toInt_toInt64]
  exact Int32.lt_iff_toInt_lt.mp h
set_option maxRecDepth 100000 in
set_option maxHeartbeats 4000000 in
theorem w64le {a b : Int32} (h : a ≤ b) : a.toInt64 ≤ b.toInt64 := by
  rw [Int64.le_iff_toInt_le, Int32.toInt_toInt64, Int32.toInt_toInt64]
  exact Int32.le_iff_toInt_le.mp h
set_option maxRecDepth 100000 in
set_option maxHeartbeats 4000000 in
theorem isl (a : Int32) : (a = 0 ∨ a = 1 ∨ a = 2 ∨ a = 3) ∨ (a < 0 ∨ 4 ≤ a) := by
  by_cases c : a < 0
  · exact .inr (.inl c)
  · by_cases c2 : 4 ≤ a
    · exact .inr (.inr c2)
    · obtain ⟨k, hk, rfl⟩ := nI_of c
      have hk4 : k < 4 := Nat.not_le.mp (fun h9 => c2 ((nI_leI (by decide) hk).mpr h9))
      left
      rcases (by omega : k = 0 ∨ k = 1 ∨ k = 2 ∨ k = 3) with rfl | rfl | rfl | rfl
      · exact .inl rfl
      · exact .inr (.inl rfl)
      · exact .inr (.inr (.inl rfl))
      · exact .inr (.inr (.inr rfl))
set_option maxRecDepth 100000 in
set_option maxHeartbeats 4000000 in
theorem t201n {q : rkQ} {a : Int32} (h : a < 0 ∨ 4 ≤ a) : fm_201 (.ref 0) a (hp0 q) = some (.inr (2, hpE q)) := by
  unfold fm_201 fg_201_0
  by_cases c : a < 0
  · rw [if_pos c]; rfl
  · rw [if_neg c]
    refine ev_b (a := .ref 39) rfl ?_
    refine ev_b (a := 4) rfl ?_
    exact ev_f (Int32.not_lt.mpr (h.resolve_left c)) rfl
set_option maxRecDepth 100000 in
set_option maxHeartbeats 4000000 in
theorem t489n {a : Int32} {h : am_H} (hn : a < 0 ∨ 4 ≤ a) : fm_489 (.ref 174) a h = some (.inl (some (.int 0), h)) := by
  unfold fm_489 fg_489_0
  refine ev_cI (pe_327 _ _ _ _) ?_
  rw [show pv_327 a.toInt64 0 3 = 0 from hn.elim (fun h9 => in_lo (w64lt h9)) (fun h9 => in_hi (Int64.lt_of_lt_of_le (show (3 : Int64) < Int32.toInt64 4 by decide) (w64le h9)))]
  rfl
/-! calls that read a field -/
set_option maxRecDepth 100000 in
set_option maxHeartbeats 4000000 in
theorem p_4 (q : rkQ) : ∃ h', opA (fm_23 (.ref 0) (hp0 q)) (fun h1 => fm_369 (.ref 174) h1) h' ∧ fits h' := ⟨(hp0 q).set 174 (.inr (12, .int 0 :: rfs)), ⟨0, hp0 q, rfl, rfl, rfl⟩, fits_of szl rfl (by decide)⟩
set_option maxRecDepth 100000 in
set_option maxHeartbeats 4000000 in
theorem p_15 (q : rkQ) : ∃ h', opA (fm_25 (.ref 0) (hp0 q)) (fun h1 => fm_399 (.ref 174) h1) h' ∧ fits h' := ⟨(hp0 q).set 174 (.inr (12, .int 0 :: rfs)), ⟨0, hp0 q, rfl, rfl, rfl⟩, fits_of szl rfl (by decide)⟩
set_option maxRecDepth 100000 in
set_option maxHeartbeats 4000000 in
theorem p_19 (q : rkQ) : ∃ h', opA (fm_26 (.ref 0) (hp0 q)) (fun h1 => fm_422 (.ref 174) h1) h' ∧ fits h' := ⟨(hp0 q).set 174 (.inr (12, .int 0 :: rfs)), ⟨0, hp0 q, rfl, rfl, rfl⟩, fits_of szl rfl (by decide)⟩
set_option maxRecDepth 100000 in
set_option maxHeartbeats 4000000 in
theorem p_20 (q : rkQ) : ∃ h', opA (fm_27 (.ref 0) (hp0 q)) (fun h1 => fm_423 (.ref 174) h1) h' ∧ fits h' := ⟨(hp0 q).set 174 (.inr (12, .int 0 :: rfs)), ⟨0, hp0 q, rfl, rfl, rfl⟩, fits_of szl rfl (by decide)⟩
set_option maxRecDepth 100000 in
set_option maxHeartbeats 4000000 in
theorem p_48 (q : rkQ) : ∃ h', opA (fm_28 (.ref 0) (hp0 q)) (fun h1 => fm_553 (.ref 174) h1) h' ∧ fits h' := ⟨(hp0 q).set 174 (.inr (12, .int 0 :: rfs)), ⟨0, hp0 q, rfl, rfl, rfl⟩, fits_of szl rfl (by decide)⟩
set_option maxRecDepth 100000 in
set_option maxHeartbeats 4000000 in
theorem p_12 (q : rkQ) (a1 : Int32) : ∃ h', opA (fm_24 (.ref 0) a1 (hp0 q)) (fun h1 => fm_395 (.ref 174) a1 h1) h' ∧ fits h' := ⟨_, ⟨1, _, rfl, rfl, rfl⟩, fits_of szl rfl (by decide)⟩
set_option maxRecDepth 100000 in
set_option maxHeartbeats 4000000 in
theorem p_49 (q : rkQ) (a1 a2 : Int32) : ∃ h', opA (fm_29 (.ref 0) a1 a2 (hp0 q)) (fun h1 => fm_554 (.ref 174) a1 a2 h1) h' ∧ fits h' := by
  refine ⟨(hp0 q).set 174 (.inr (12, .int 0 :: rfs)), ⟨-1, hp0 q, ?_, rfl, ?_⟩, fits_of szl rfl (by decide)⟩
  · unfold fm_29 fg_29_0
    by_cases c : a1 < 0
    · exact ev_t c rfl
    · refine ev_f c ?_
      refine ev_b (a := .ref 118) rfl ?_
      refine ev_b (a := 0) rfl ?_
      exact ev_t (Int32.not_lt.mp c) rfl
  · show fm_554 (.ref 174) a1 a2 (hp0 q) = _
    unfold fm_554 fg_554_0
    refine ev_b (a := (hp0 q).set 174 (.inr (12, .int 0 :: rfs))) rfl ?_
    refine ev_b (a := 0) rfl ?_
    refine ev_cI (pe_327 _ _ _ _) ?_
    rw [in_none]
    rfl
/-! islands -/
set_option maxRecDepth 100000 in
set_option maxHeartbeats 4000000 in
theorem p_33 (q : rkQ) (a1 : Int32) : ∃ h', opBI (fm_210 (.ref 0) a1 (.ref 268) (hp0 q)) (fun h1 => fm_499 (.ref 174) a1 h1) vfI h' ∧ fits h' := by
  rcases isl a1 with (rfl | rfl | rfl | rfl) | hn
  · exact ⟨_, ⟨0, _, 0, 0, rfl, rfl, rfl, rfl, rfl, fun _ => ⟨rfl, rfl⟩⟩, fits_of szl rfl (by decide)⟩
  · exact ⟨_, ⟨0, _, 0, 0, rfl, rfl, rfl, rfl, rfl, fun _ => ⟨rfl, rfl⟩⟩, fits_of szl rfl (by decide)⟩
  · exact ⟨_, ⟨0, _, 0, 0, rfl, rfl, rfl, rfl, rfl, fun _ => ⟨rfl, rfl⟩⟩, fits_of szl rfl (by decide)⟩
  · exact ⟨_, ⟨0, _, 0, 0, rfl, rfl, rfl, rfl, rfl, fun _ => ⟨rfl, rfl⟩⟩, fits_of szl rfl (by decide)⟩
  · refine ⟨hpT q 1, ⟨1, hpE q, 0, 0, ?_, rfl, ?_, rfl, rfl, fun e => absurd e (by decide)⟩, hpT_fits q 1⟩
    · have hz : fm_211 (.ref 0) a1 (hp0 q) = some (.inr (2, hpE q)) := by
        simp only [fm_211, fg_211_0, t201n hn]
        rfl
      simp only [fm_210, fg_210_0, hz]
      rfl
    · simp only [fm_499, fg_499_0, t489n hn]
      rfl
