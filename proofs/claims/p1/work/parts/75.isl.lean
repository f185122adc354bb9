/-! islands, the fresh objects -/
set_option maxRecDepth 100000 in
set_option maxHeartbeats 4000000 in
theorem p_37 (q : rkQ) (M : Nat) (a1 : Int32) : ∃ h', opBI (fm_234 (M + 300) (.ref 0) a1 (.ref 268) (hp0 q)) (fun h1 => fm_519 (M + 300) (.ref 174) a1 h1) vfI h' ∧ fits h' := by
  rcases isl a1 with (rfl | rfl | rfl | rfl) | hn
  · exact ⟨_, ⟨2, _, 0, 0, rfl, rfl, rfl, rfl, rfl, fun e => absurd e (by decide)⟩, fits_of szE rfl (by decide)⟩
  · exact ⟨_, ⟨2, _, 0, 0, rfl, rfl, rfl, rfl, rfl, fun e => absurd e (by decide)⟩, fits_of szE rfl (by decide)⟩
  · exact ⟨_, ⟨2, _, 0, 0, rfl, rfl, rfl, rfl, rfl, fun e => absurd e (by decide)⟩, fits_of szE rfl (by decide)⟩
  · exact ⟨_, ⟨2, _, 0, 0, rfl, rfl, rfl, rfl, rfl, fun e => absurd e (by decide)⟩, fits_of szE rfl (by decide)⟩
  · refine ⟨hpT q 1, ⟨1, hpE q, 0, 0, ?_, rfl, ?_, rfl, rfl, fun e => absurd e (by decide)⟩, hpT_fits q 1⟩
    · have hz : fm_235 (M + 300) (.ref 0) a1 (hp0 q) = some (.inr (2, hpE q)) := by
        simp only [fm_235, fg_235_0, t201n hn]
        rfl
      simp only [fm_234, fg_234_0, hz]
      rfl
    · simp only [fm_519, fg_519_27, fg_519_0, t489n hn]
      rfl
set_option maxRecDepth 100000 in
set_option maxHeartbeats 4000000 in
theorem p_36 (q : rkQ) (M : Nat) (a1 a2 : Int32) : ∃ h', opBI (fm_231 (M + 300) (.ref 0) a1 a2 (.ref 268) (hp0 q)) (fun h1 => fm_518 (M + 300) (.ref 174) a1 a2 h1) vfZ h' ∧ fits h' := by
  rcases isl a1 with (rfl | rfl | rfl | rfl) | hn
  · rcases isl a2 with (rfl | rfl | rfl | rfl) | hn
    · exact ⟨_, ⟨0, _, 0, 0, rfl, rfl, rfl, rfl, rfl, fun _ => ⟨rfl, rfl⟩⟩, fits_of szl rfl (by decide)⟩
    · exact ⟨_, ⟨0, _, 0, 0, rfl, rfl, rfl, rfl, rfl, fun _ => ⟨rfl, rfl⟩⟩, fits_of szl rfl (by decide)⟩
    · exact ⟨_, ⟨0, _, 0, 0, rfl, rfl, rfl, rfl, rfl, fun _ => ⟨rfl, rfl⟩⟩, fits_of szl rfl (by decide)⟩
    · exact ⟨_, ⟨0, _, 0, 0, rfl, rfl, rfl, rfl, rfl, fun _ => ⟨rfl, rfl⟩⟩, fits_of szl rfl (by decide)⟩
    · refine ⟨hpT q 1, ⟨1, hpE q, 0, 0, ?_, rfl, ?_, rfl, rfl, fun e => absurd e (by decide)⟩, hpT_fits q 1⟩
      · have hz : fm_232 (M + 300) (.ref 0) 0 a2 (hp0 q) = some (.inr (2, hpE q)) := by
          unfold fm_232 fg_232_0
          refine ev_i rfl ?_
          refine ev_cR (v := .ref 40) (h1 := hp0 q) rfl rfl ?_
          refine ev_i rfl ?_
          rw [t201n hn]
          rfl
        simp only [fm_231, fg_231_0, hz]
        rfl
      · unfold fm_518 fg_518_0
        refine ev_i rfl ?_
        refine ev_cI (v := 1) (h1 := hpE q) rfl ?_
        refine ev_f (by decide) ?_
        refine ev_i rfl ?_
        rw [t489n hn]
        rfl
  · rcases isl a2 with (rfl | rfl | rfl | rfl) | hn
    · exact ⟨_, ⟨0, _, 0, 0, rfl, rfl, rfl, rfl, rfl, fun _ => ⟨rfl, rfl⟩⟩, fits_of szl rfl (by decide)⟩
    · exact ⟨_, ⟨0, _, 0, 0, rfl, rfl, rfl, rfl, rfl, fun _ => ⟨rfl, rfl⟩⟩, fits_of szl rfl (by decide)⟩
    · exact ⟨_, ⟨0, _, 0, 0, rfl, rfl, rfl, rfl, rfl, fun _ => ⟨rfl, rfl⟩⟩, fits_of szl rfl (by decide)⟩
    · exact ⟨_, ⟨0, _, 0, 0, rfl, rfl, rfl, rfl, rfl, fun _ => ⟨rfl, rfl⟩⟩, fits_of szl rfl (by decide)⟩
    · refine ⟨hpT q 1, ⟨1, hpE q, 0, 0, ?_, rfl, ?_, rfl, rfl, fun e => absurd e (by decide)⟩, hpT_fits q 1⟩
      · have hz : fm_232 (M + 300) (.ref 0) 1 a2 (hp0 q) = some (.inr (2, hpE q)) := by
          unfold fm_232 fg_232_0
          refine ev_i rfl ?_
          refine ev_cR (v := .ref 49) (h1 := hp0 q) rfl rfl ?_
          refine ev_i rfl ?_
          rw [t201n hn]
          rfl
        simp only [fm_231, fg_231_0, hz]
        rfl
      · unfold fm_518 fg_518_0
        refine ev_i rfl ?_
        refine ev_cI (v := 1) (h1 := hpE q) rfl ?_
        refine ev_f (by decide) ?_
        refine ev_i rfl ?_
        rw [t489n hn]
        rfl
  · rcases isl a2 with (rfl | rfl | rfl | rfl) | hn
    · exact ⟨_, ⟨0, _, 0, 0, rfl, rfl, rfl, rfl, rfl, fun _ => ⟨rfl, rfl⟩⟩, fits_of szl rfl (by decide)⟩
    · exact ⟨_, ⟨0, _, 0, 0, rfl, rfl, rfl, rfl, rfl, fun _ => ⟨rfl, rfl⟩⟩, fits_of szl rfl (by decide)⟩
    · exact ⟨_, ⟨0, _, 0, 0, rfl, rfl, rfl, rfl, rfl, fun _ => ⟨rfl, rfl⟩⟩, fits_of szl rfl (by decide)⟩
    · exact ⟨_, ⟨0, _, 0, 0, rfl, rfl, rfl, rfl, rfl, fun _ => ⟨rfl, rfl⟩⟩, fits_of szl rfl (by decide)⟩
    · refine ⟨hpT q 1, ⟨1, hpE q, 0, 0, ?_, rfl, ?_, rfl, rfl, fun e => absurd e (by decide)⟩, hpT_fits q 1⟩
      · have hz : fm_232 (M + 300) (.ref 0) 2 a2 (hp0 q) = some (.inr (2, hpE q)) := by
          unfold fm_232 fg_232_0
          refine ev_i rfl ?_
          refine ev_cR (v := .ref 58) (h1 := hp0 q) rfl rfl ?_
          refine ev_i rfl ?_
          rw [t201n hn]
          rfl
        simp only [fm_231, fg_231_0, hz]
        rfl
      · unfold fm_518 fg_518_0
        refine ev_i rfl ?_
        refine ev_cI (v := 1) (h1 := hpE q) rfl ?_
        refine ev_f (by decide) ?_
        refine ev_i rfl ?_
        rw [t489n hn]
        rfl
  · rcases isl a2 with (rfl | rfl | rfl | rfl) | hn
    · exact ⟨_, ⟨0, _, 0, 0, rfl, rfl, rfl, rfl, rfl, fun _ => ⟨rfl, rfl⟩⟩, fits_of szl rfl (by decide)⟩
    · exact ⟨_, ⟨0, _, 0, 0, rfl, rfl, rfl, rfl, rfl, fun _ => ⟨rfl, rfl⟩⟩, fits_of szl rfl (by decide)⟩
    · exact ⟨_, ⟨0, _, 0, 0, rfl, rfl, rfl, rfl, rfl, fun _ => ⟨rfl, rfl⟩⟩, fits_of szl rfl (by decide)⟩
    · exact ⟨_, ⟨0, _, 0, 0, rfl, rfl, rfl, rfl, rfl, fun _ => ⟨rfl, rfl⟩⟩, fits_of szl rfl (by decide)⟩
    · refine ⟨hpT q 1, ⟨1, hpE q, 0, 0, ?_, rfl, ?_, rfl, rfl, fun e => absurd e (by decide)⟩, hpT_fits q 1⟩
      · have hz : fm_232 (M + 300) (.ref 0) 3 a2 (hp0 q) = some (.inr (2, hpE q)) := by
          unfold fm_232 fg_232_0
          refine ev_i rfl ?_
          refine ev_cR (v := .ref 67) (h1 := hp0 q) rfl rfl ?_
          refine ev_i rfl ?_
          rw [t201n hn]
          rfl
        simp only [fm_231, fg_231_0, hz]
        rfl
      · unfold fm_518 fg_518_0
        refine ev_i rfl ?_
        refine ev_cI (v := 1) (h1 := hpE q) rfl ?_
        refine ev_f (by decide) ?_
        refine ev_i rfl ?_
        rw [t489n hn]
        rfl
  · refine ⟨hpT q 1, ⟨1, hpE q, 0, 0, ?_, rfl, ?_, rfl, rfl, fun e => absurd e (by decide)⟩, hpT_fits q 1⟩
    · have hz : fm_232 (M + 300) (.ref 0) a1 a2 (hp0 q) = some (.inr (2, hpE q)) := by
        simp only [fm_232, fg_232_0, t201n hn]
        rfl
      simp only [fm_231, fg_231_0, hz]
      rfl
    · simp only [fm_518, fg_518_141, fg_518_86, fg_518_22, fg_518_21, fg_518_0, t489n hn]
      rfl
set_option maxRecDepth 100000 in
set_option maxHeartbeats 4000000 in
theorem t214 (q : rkQ) (i : Nat) (hi : i = 40 ∨ i = 49 ∨ i = 58 ∨ i = 67) (a : Int32) : fm_214 (.ref 0) (.ref i) a (hp0 q) = some (.inr (2, hpE q)) := by
  unfold fm_214 fg_214_0
  by_cases c : a < 0
  · exact ev_t c rfl
  · refine ev_f c ?_
    rcases hi with rfl | rfl | rfl | rfl
    · refine ev_b (a := 0) rfl ?_
      exact ev_f (Int32.not_lt.mpr (Int32.not_lt.mp c)) rfl
    · refine ev_b (a := 0) rfl ?_
      exact ev_f (Int32.not_lt.mpr (Int32.not_lt.mp c)) rfl
    · refine ev_b (a := 0) rfl ?_
      exact ev_f (Int32.not_lt.mpr (Int32.not_lt.mp c)) rfl
    · refine ev_b (a := 0) rfl ?_
      exact ev_f (Int32.not_lt.mpr (Int32.not_lt.mp c)) rfl
set_option maxRecDepth 100000 in
set_option maxHeartbeats 4000000 in
theorem t501 (q : rkQ) (i : Int32) (hi : i = 0 ∨ i = 1 ∨ i = 2 ∨ i = 3) (a : Int32) : fm_501 (.ref 174) i a (hpE q) = some (.inl (some (.int 0), hpE q)) := by
  unfold fm_501 fg_501_0
  refine ev_i rfl ?_
  refine ev_cI (v := 1) (h1 := hpE q) (by rcases hi with rfl | rfl | rfl | rfl <;> rfl) ?_
  refine ev_f (by decide) ?_
  refine ev_b (a := .ref 233) rfl ?_
  refine ev_i rfl ?_
  refine ev_cI (v := 1) (h1 := hpE q) (by rcases hi with rfl | rfl | rfl | rfl <;> rfl) ?_
  refine ev_f (by decide) ?_
  unfold fg_501_28
  refine ev_b (a := 0) (by rcases hi with rfl | rfl | rfl | rfl <;> rfl) ?_
  refine ev_cI (pe_327 _ _ _ _) ?_
  rw [in_none]
  rfl
set_option maxRecDepth 100000 in
set_option maxHeartbeats 4000000 in
theorem p_34 (q : rkQ) (M : Nat) (a1 a2 : Int32) : ∃ h', opBI (fm_212 (.ref 0) a1 a2 (.ref 268) (hp0 q)) (fun h1 => fm_500 (.ref 174) a1 a2 h1) vfI h' ∧ fits h' := by
  rcases isl a1 with (rfl | rfl | rfl | rfl) | hn
  · refine ⟨hpT q 1, ⟨1, hpE q, 0, 0, ?_, rfl, ?_, rfl, rfl, fun e => absurd e (by decide)⟩, hpT_fits q 1⟩
    · have hz : fm_213 (.ref 0) 0 a2 (hp0 q) = some (.inr (2, hpE q)) := by
        unfold fm_213 fg_213_0
        refine ev_i rfl ?_
        refine ev_cR (v := .ref 40) (h1 := hp0 q) rfl rfl ?_
        refine ev_i rfl ?_
        rw [t214 q 40 (.inl rfl)]
        rfl
      simp only [fm_212, fg_212_0, hz]
      rfl
    · unfold fm_500 fg_500_0
      refine ev_i rfl ?_
      rw [t501 q 0 (.inl rfl)]
      rfl
  · refine ⟨hpT q 1, ⟨1, hpE q, 0, 0, ?_, rfl, ?_, rfl, rfl, fun e => absurd e (by decide)⟩, hpT_fits q 1⟩
    · have hz : fm_213 (.ref 0) 1 a2 (hp0 q) = some (.inr (2, hpE q)) := by
        unfold fm_213 fg_213_0
        refine ev_i rfl ?_
        refine ev_cR (v := .ref 49) (h1 := hp0 q) rfl rfl ?_
        refine ev_i rfl ?_
        rw [t214 q 49 (.inr (.inl rfl))]
        rfl
      simp only [fm_212, fg_212_0, hz]
      rfl
    · unfold fm_500 fg_500_0
      refine ev_i rfl ?_
      rw [t501 q 1 (.inr (.inl rfl))]
      rfl
  · refine ⟨hpT q 1, ⟨1, hpE q, 0, 0, ?_, rfl, ?_, rfl, rfl, fun e => absurd e (by decide)⟩, hpT_fits q 1⟩
    · have hz : fm_213 (.ref 0) 2 a2 (hp0 q) = some (.inr (2, hpE q)) := by
        unfold fm_213 fg_213_0
        refine ev_i rfl ?_
        refine ev_cR (v := .ref 58) (h1 := hp0 q) rfl rfl ?_
        refine ev_i rfl ?_
        rw [t214 q 58 (.inr (.inr (.inl rfl)))]
        rfl
      simp only [fm_212, fg_212_0, hz]
      rfl
    · unfold fm_500 fg_500_0
      refine ev_i rfl ?_
      rw [t501 q 2 (.inr (.inr (.inl rfl)))]
      rfl
  · refine ⟨hpT q 1, ⟨1, hpE q, 0, 0, ?_, rfl, ?_, rfl, rfl, fun e => absurd e (by decide)⟩, hpT_fits q 1⟩
    · have hz : fm_213 (.ref 0) 3 a2 (hp0 q) = some (.inr (2, hpE q)) := by
        unfold fm_213 fg_213_0
        refine ev_i rfl ?_
        refine ev_cR (v := .ref 67) (h1 := hp0 q) rfl rfl ?_
        refine ev_i rfl ?_
        rw [t214 q 67 (.inr (.inr (.inr rfl)))]
        rfl
      simp only [fm_212, fg_212_0, hz]
      rfl
    · unfold fm_500 fg_500_0
      refine ev_i rfl ?_
      rw [t501 q 3 (.inr (.inr (.inr rfl)))]
      rfl
  · refine ⟨hpT q 1, ⟨1, hpE q, 0, 0, ?_, rfl, ?_, rfl, rfl, fun e => absurd e (by decide)⟩, hpT_fits q 1⟩
    · have hz : fm_213 (.ref 0) a1 a2 (hp0 q) = some (.inr (2, hpE q)) := by
        simp only [fm_213, fg_213_0, t201n hn]
        rfl
      simp only [fm_212, fg_212_0, hz]
      rfl
    · have h5 : fm_501 (.ref 174) a1 a2 (hpE q) = some (.inl (some (.int 0), hpE q)) := by
        unfold fm_501 fg_501_0
        refine ev_i rfl ?_
        rw [t489n hn]
        rfl
      unfold fm_500 fg_500_0
      refine ev_i rfl ?_
      rw [h5]
      rfl
set_option maxRecDepth 100000 in
set_option maxHeartbeats 4000000 in
theorem p_39 (q : rkQ) (M : Nat) (a1 a2 a3 : Int32) : ∃ h', opBI (fm_238 (M + 300) (.ref 0) a1 a2 a3 (.ref 268) (hp0 q)) (fun h1 => fm_521 (M + 300) (.ref 174) a1 a2 a3 h1) vfI h' ∧ fits h' := by
  rcases isl a1 with (rfl | rfl | rfl | rfl) | hn
  · refine ⟨hpT q 1, ⟨1, hpE q, 0, 0, ?_, rfl, ?_, rfl, rfl, fun e => absurd e (by decide)⟩, hpT_fits q 1⟩
    · have hz : fm_239 (M + 300) (.ref 0) 0 a2 a3 (hp0 q) = some (.inr (2, hpE q)) := by
        unfold fm_239 fg_239_0
        refine ev_i rfl ?_
        refine ev_cR (v := .ref 40) (h1 := hp0 q) rfl rfl ?_
        refine ev_i rfl ?_
        rw [t214 q 40 (.inl rfl)]
        rfl
      simp only [fm_238, fg_238_0, hz]
      rfl
    · unfold fm_521 fg_521_0
      refine ev_i rfl ?_
      rw [t501 q 0 (.inl rfl)]
      rfl
  · refine ⟨hpT q 1, ⟨1, hpE q, 0, 0, ?_, rfl, ?_, rfl, rfl, fun e => absurd e (by decide)⟩, hpT_fits q 1⟩
    · have hz : fm_239 (M + 300) (.ref 0) 1 a2 a3 (hp0 q) = some (.inr (2, hpE q)) := by
        unfold fm_239 fg_239_0
        refine ev_i rfl ?_
        refine ev_cR (v := .ref 49) (h1 := hp0 q) rfl rfl ?_
        refine ev_i rfl ?_
        rw [t214 q 49 (.inr (.inl rfl))]
        rfl
      simp only [fm_238, fg_238_0, hz]
      rfl
    · unfold fm_521 fg_521_0
      refine ev_i rfl ?_
      rw [t501 q 1 (.inr (.inl rfl))]
      rfl
  · refine ⟨hpT q 1, ⟨1, hpE q, 0, 0, ?_, rfl, ?_, rfl, rfl, fun e => absurd e (by decide)⟩, hpT_fits q 1⟩
    · have hz : fm_239 (M + 300) (.ref 0) 2 a2 a3 (hp0 q) = some (.inr (2, hpE q)) := by
        unfold fm_239 fg_239_0
        refine ev_i rfl ?_
        refine ev_cR (v := .ref 58) (h1 := hp0 q) rfl rfl ?_
        refine ev_i rfl ?_
        rw [t214 q 58 (.inr (.inr (.inl rfl)))]
        rfl
      simp only [fm_238, fg_238_0, hz]
      rfl
    · unfold fm_521 fg_521_0
      refine ev_i rfl ?_
      rw [t501 q 2 (.inr (.inr (.inl rfl)))]
      rfl
  · refine ⟨hpT q 1, ⟨1, hpE q, 0, 0, ?_, rfl, ?_, rfl, rfl, fun e => absurd e (by decide)⟩, hpT_fits q 1⟩
    · have hz : fm_239 (M + 300) (.ref 0) 3 a2 a3 (hp0 q) = some (.inr (2, hpE q)) := by
        unfold fm_239 fg_239_0
        refine ev_i rfl ?_
        refine ev_cR (v := .ref 67) (h1 := hp0 q) rfl rfl ?_
        refine ev_i rfl ?_
        rw [t214 q 67 (.inr (.inr (.inr rfl)))]
        rfl
      simp only [fm_238, fg_238_0, hz]
      rfl
    · unfold fm_521 fg_521_0
      refine ev_i rfl ?_
      rw [t501 q 3 (.inr (.inr (.inr rfl)))]
      rfl
  · refine ⟨hpT q 1, ⟨1, hpE q, 0, 0, ?_, rfl, ?_, rfl, rfl, fun e => absurd e (by decide)⟩, hpT_fits q 1⟩
    · have hz : fm_239 (M + 300) (.ref 0) a1 a2 a3 (hp0 q) = some (.inr (2, hpE q)) := by
        simp only [fm_239, fg_239_0, t201n hn]
        rfl
      simp only [fm_238, fg_238_0, hz]
      rfl
    · have h5 : fm_501 (.ref 174) a1 a2 (hpE q) = some (.inl (some (.int 0), hpE q)) := by
        unfold fm_501 fg_501_0
        refine ev_i rfl ?_
        rw [t489n hn]
        rfl
      unfold fm_521 fg_521_0
      refine ev_i rfl ?_
      rw [h5]
      rfl
set_option maxRecDepth 100000 in
set_option maxHeartbeats 4000000 in
theorem p_41 (q : rkQ) (M : Nat) (a1 a2 : Int32) : ∃ h', opBL (fm_247 (M + 300) (.ref 0) a1 a2 (.ref 268) (hp0 q)) (fun h1 => fm_526 (M + 300) (.ref 174) a1 a2 h1) vfI h' ∧ fits h' := by
  rcases isl a1 with (rfl | rfl | rfl | rfl) | hn
  · refine ⟨hpT q 1, ⟨1, hpE q, 0, 0, ?_, rfl, ?_, rfl, rfl, fun e => absurd e (by decide)⟩, hpT_fits q 1⟩
    · have hz : fm_248 (M + 300) (.ref 0) 0 a2 (hp0 q) = some (.inr (2, hpE q)) := by
        unfold fm_248 fg_248_0
        refine ev_i rfl ?_
        refine ev_cR (v := .ref 40) (h1 := hp0 q) rfl rfl ?_
        refine ev_i rfl ?_
        rw [t214 q 40 (.inl rfl)]
        rfl
      simp only [fm_247, fg_247_0, hz]
      rfl
    · unfold fm_526 fg_526_0
      refine ev_i rfl ?_
      rw [t501 q 0 (.inl rfl)]
      rfl
  · refine ⟨hpT q 1, ⟨1, hpE q, 0, 0, ?_, rfl, ?_, rfl, rfl, fun e => absurd e (by decide)⟩, hpT_fits q 1⟩
    · have hz : fm_248 (M + 300) (.ref 0) 1 a2 (hp0 q) = some (.inr (2, hpE q)) := by
        unfold fm_248 fg_248_0
        refine ev_i rfl ?_
        refine ev_cR (v := .ref 49) (h1 := hp0 q) rfl rfl ?_
        refine ev_i rfl ?_
        rw [t214 q 49 (.inr (.inl rfl))]
        rfl
      simp only [fm_247, fg_247_0, hz]
      rfl
    · unfold fm_526 fg_526_0
      refine ev_i rfl ?_
      rw [t501 q 1 (.inr (.inl rfl))]
      rfl
  · refine ⟨hpT q 1, ⟨1, hpE q, 0, 0, ?_, rfl, ?_, rfl, rfl, fun e => absurd e (by decide)⟩, hpT_fits q 1⟩
    · have hz : fm_248 (M + 300) (.ref 0) 2 a2 (hp0 q) = some (.inr (2, hpE q)) := by
        unfold fm_248 fg_248_0
        refine ev_i rfl ?_
        refine ev_cR (v := .ref 58) (h1 := hp0 q) rfl rfl ?_
        refine ev_i rfl ?_
        rw [t214 q 58 (.inr (.inr (.inl rfl)))]
        rfl
      simp only [fm_247, fg_247_0, hz]
      rfl
    · unfold fm_526 fg_526_0
      refine ev_i rfl ?_
      rw [t501 q 2 (.inr (.inr (.inl rfl)))]
      rfl
  · refine ⟨hpT q 1, ⟨1, hpE q, 0, 0, ?_, rfl, ?_, rfl, rfl, fun e => absurd e (by decide)⟩, hpT_fits q 1⟩
    · have hz : fm_248 (M + 300) (.ref 0) 3 a2 (hp0 q) = some (.inr (2, hpE q)) := by
        unfold fm_248 fg_248_0
        refine ev_i rfl ?_
        refine ev_cR (v := .ref 67) (h1 := hp0 q) rfl rfl ?_
        refine ev_i rfl ?_
        rw [t214 q 67 (.inr (.inr (.inr rfl)))]
        rfl
      simp only [fm_247, fg_247_0, hz]
      rfl
    · unfold fm_526 fg_526_0
      refine ev_i rfl ?_
      rw [t501 q 3 (.inr (.inr (.inr rfl)))]
      rfl
  · refine ⟨hpT q 1, ⟨1, hpE q, 0, 0, ?_, rfl, ?_, rfl, rfl, fun e => absurd e (by decide)⟩, hpT_fits q 1⟩
    · have hz : fm_248 (M + 300) (.ref 0) a1 a2 (hp0 q) = some (.inr (2, hpE q)) := by
        simp only [fm_248, fg_248_0, t201n hn]
        rfl
      simp only [fm_247, fg_247_0, hz]
      rfl
    · have h5 : fm_501 (.ref 174) a1 a2 (hpE q) = some (.inl (some (.int 0), hpE q)) := by
        unfold fm_501 fg_501_0
        refine ev_i rfl ?_
        rw [t489n hn]
        rfl
      unfold fm_526 fg_526_0
      refine ev_i rfl ?_
      rw [h5]
      rfl
set_option maxRecDepth 100000 in
set_option maxHeartbeats 4000000 in
theorem p_35 (q : rkQ) (M : Nat) (a1 a2 : Int32) : ∃ h', opBI (fm_215 (M + 300) (.ref 0) a1 a2 (.ref 268) (hp0 q)) (fun h1 => fm_502 (M + 300) (.ref 174) a1 a2 h1) vfI h' ∧ fits h' := by
  rcases isl a1 with (rfl | rfl | rfl | rfl) | hn
  · by_cases c1 : a2 < 1
    · refine ⟨hpT q 2, ⟨2, hpE q, 0, 0, ?_, rfl, ?_, rfl, rfl, fun e => absurd e (by decide)⟩, hpT_fits q 2⟩
      · have hz : fm_216 (M + 300) (.ref 0) 0 a2 (hp0 q) = some (.inr (0, hpE q)) := by
          unfold fm_216 fg_216_0
          refine ev_i rfl ?_
          refine ev_cR (v := .ref 40) (h1 := hp0 q) rfl rfl ?_
          exact ev_t c1 rfl
        simp only [fm_215, fg_215_0, hz]
        rfl
      · unfold fm_502 fg_502_0
        refine ev_i rfl ?_
        refine ev_cI (v := 1) (h1 := hpE q) rfl ?_
        refine ev_f (by decide) ?_
        refine ev_b (a := .ref 233) rfl ?_
        refine ev_b (a := 0) rfl ?_
        unfold fg_502_18
        refine ev_i rfl ?_
        refine ev_cI (v := 1) (h1 := hpE q) rfl ?_
        refine ev_f (by decide) ?_
        refine ev_i rfl ?_
        refine ev_cI (v := 0) (h1 := hpE q) rfl ?_
        unfold fg_502_38
        refine ev_i rfl ?_
        refine ev_cI (v := 1) (h1 := hpE q) rfl ?_
        refine ev_t (by decide) ?_
        refine ev_cI (pe_327 _ _ _ _) ?_
        rw [show pv_327 a2.toInt64 1 20 = 0 from in_lo (w64lt (b := 1) c1)]
        rfl
    · by_cases c2 : a2 ≤ 20
      · refine ⟨hpT q 3, ⟨3, hpE q, 0, 0, ?_, rfl, ?_, rfl, rfl, fun e => absurd e (by decide)⟩, hpT_fits q 3⟩
        · have hz : fm_216 (M + 300) (.ref 0) 0 a2 (hp0 q) = some (.inr (1, hpE q)) := by
            unfold fm_216 fg_216_0
            refine ev_i rfl ?_
            refine ev_cR (v := .ref 40) (h1 := hp0 q) rfl rfl ?_
            refine ev_f c1 ?_
            refine ev_t c2 ?_
            rfl
          simp only [fm_215, fg_215_0, hz]
          rfl
        · unfold fm_502 fg_502_0
          refine ev_i rfl ?_
          refine ev_cI (v := 1) (h1 := hpE q) rfl ?_
          refine ev_f (by decide) ?_
          refine ev_b (a := .ref 233) rfl ?_
          refine ev_b (a := 0) rfl ?_
          unfold fg_502_18
          refine ev_i rfl ?_
          refine ev_cI (v := 1) (h1 := hpE q) rfl ?_
          refine ev_f (by decide) ?_
          refine ev_i rfl ?_
          refine ev_cI (v := 0) (h1 := hpE q) rfl ?_
          unfold fg_502_38
          refine ev_i rfl ?_
          refine ev_cI (v := 1) (h1 := hpE q) rfl ?_
          refine ev_t (by decide) ?_
          refine ev_cI (pe_327 _ _ _ _) ?_
          rw [show pv_327 a2.toInt64 1 20 = 1 from in_ok (w64le (a := 1) (Int32.not_lt.mp c1)) (w64le (b := 20) c2)]
          rfl
      · refine ⟨hpT q 2, ⟨2, hpE q, 0, 0, ?_, rfl, ?_, rfl, rfl, fun e => absurd e (by decide)⟩, hpT_fits q 2⟩
        · have hz : fm_216 (M + 300) (.ref 0) 0 a2 (hp0 q) = some (.inr (0, hpE q)) := by
            unfold fm_216 fg_216_0
            refine ev_i rfl ?_
            refine ev_cR (v := .ref 40) (h1 := hp0 q) rfl rfl ?_
            refine ev_f c1 ?_
            exact ev_f c2 rfl
          simp only [fm_215, fg_215_0, hz]
          rfl
        · unfold fm_502 fg_502_0
          refine ev_i rfl ?_
          refine ev_cI (v := 1) (h1 := hpE q) rfl ?_
          refine ev_f (by decide) ?_
          refine ev_b (a := .ref 233) rfl ?_
          refine ev_b (a := 0) rfl ?_
          unfold fg_502_18
          refine ev_i rfl ?_
          refine ev_cI (v := 1) (h1 := hpE q) rfl ?_
          refine ev_f (by decide) ?_
          refine ev_i rfl ?_
          refine ev_cI (v := 0) (h1 := hpE q) rfl ?_
          unfold fg_502_38
          refine ev_i rfl ?_
          refine ev_cI (v := 1) (h1 := hpE q) rfl ?_
          refine ev_t (by decide) ?_
          refine ev_cI (pe_327 _ _ _ _) ?_
          rw [show pv_327 a2.toInt64 1 20 = 0 from in_hi (w64lt (a := 20) (Int32.not_le.mp c2))]
          rfl
  · by_cases c1 : a2 < 1
    · refine ⟨hpT q 2, ⟨2, hpE q, 0, 0, ?_, rfl, ?_, rfl, rfl, fun e => absurd e (by decide)⟩, hpT_fits q 2⟩
      · have hz : fm_216 (M + 300) (.ref 0) 1 a2 (hp0 q) = some (.inr (0, hpE q)) := by
          unfold fm_216 fg_216_0
          refine ev_i rfl ?_
          refine ev_cR (v := .ref 49) (h1 := hp0 q) rfl rfl ?_
          exact ev_t c1 rfl
        simp only [fm_215, fg_215_0, hz]
        rfl
      · unfold fm_502 fg_502_0
        refine ev_i rfl ?_
        refine ev_cI (v := 1) (h1 := hpE q) rfl ?_
        refine ev_f (by decide) ?_
        refine ev_b (a := .ref 233) rfl ?_
        refine ev_b (a := 0) rfl ?_
        unfold fg_502_18
        refine ev_i rfl ?_
        refine ev_cI (v := 1) (h1 := hpE q) rfl ?_
        refine ev_f (by decide) ?_
        refine ev_i rfl ?_
        refine ev_cI (v := 0) (h1 := hpE q) rfl ?_
        unfold fg_502_38
        refine ev_i rfl ?_
        refine ev_cI (v := 1) (h1 := hpE q) rfl ?_
        refine ev_t (by decide) ?_
        refine ev_cI (pe_327 _ _ _ _) ?_
        rw [show pv_327 a2.toInt64 1 20 = 0 from in_lo (w64lt (b := 1) c1)]
        rfl
    · by_cases c2 : a2 ≤ 20
      · refine ⟨hpT q 3, ⟨3, hpE q, 0, 0, ?_, rfl, ?_, rfl, rfl, fun e => absurd e (by decide)⟩, hpT_fits q 3⟩
        · have hz : fm_216 (M + 300) (.ref 0) 1 a2 (hp0 q) = some (.inr (1, hpE q)) := by
            unfold fm_216 fg_216_0
            refine ev_i rfl ?_
            refine ev_cR (v := .ref 49) (h1 := hp0 q) rfl rfl ?_
            refine ev_f c1 ?_
            refine ev_t c2 ?_
            rfl
          simp only [fm_215, fg_215_0, hz]
          rfl
        · unfold fm_502 fg_502_0
          refine ev_i rfl ?_
          refine ev_cI (v := 1) (h1 := hpE q) rfl ?_
          refine ev_f (by decide) ?_
          refine ev_b (a := .ref 233) rfl ?_
          refine ev_b (a := 0) rfl ?_
          unfold fg_502_18
          refine ev_i rfl ?_
          refine ev_cI (v := 1) (h1 := hpE q) rfl ?_
          refine ev_f (by decide) ?_
          refine ev_i rfl ?_
          refine ev_cI (v := 0) (h1 := hpE q) rfl ?_
          unfold fg_502_38
          refine ev_i rfl ?_
          refine ev_cI (v := 1) (h1 := hpE q) rfl ?_
          refine ev_t (by decide) ?_
          refine ev_cI (pe_327 _ _ _ _) ?_
          rw [show pv_327 a2.toInt64 1 20 = 1 from in_ok (w64le (a := 1) (Int32.not_lt.mp c1)) (w64le (b := 20) c2)]
          rfl
      · refine ⟨hpT q 2, ⟨2, hpE q, 0, 0, ?_, rfl, ?_, rfl, rfl, fun e => absurd e (by decide)⟩, hpT_fits q 2⟩
        · have hz : fm_216 (M + 300) (.ref 0) 1 a2 (hp0 q) = some (.inr (0, hpE q)) := by
            unfold fm_216 fg_216_0
            refine ev_i rfl ?_
            refine ev_cR (v := .ref 49) (h1 := hp0 q) rfl rfl ?_
            refine ev_f c1 ?_
            exact ev_f c2 rfl
          simp only [fm_215, fg_215_0, hz]
          rfl
        · unfold fm_502 fg_502_0
          refine ev_i rfl ?_
          refine ev_cI (v := 1) (h1 := hpE q) rfl ?_
          refine ev_f (by decide) ?_
          refine ev_b (a := .ref 233) rfl ?_
          refine ev_b (a := 0) rfl ?_
          unfold fg_502_18
          refine ev_i rfl ?_
          refine ev_cI (v := 1) (h1 := hpE q) rfl ?_
          refine ev_f (by decide) ?_
          refine ev_i rfl ?_
          refine ev_cI (v := 0) (h1 := hpE q) rfl ?_
          unfold fg_502_38
          refine ev_i rfl ?_
          refine ev_cI (v := 1) (h1 := hpE q) rfl ?_
          refine ev_t (by decide) ?_
          refine ev_cI (pe_327 _ _ _ _) ?_
          rw [show pv_327 a2.toInt64 1 20 = 0 from in_hi (w64lt (a := 20) (Int32.not_le.mp c2))]
          rfl
  · by_cases c1 : a2 < 1
    · refine ⟨hpT q 2, ⟨2, hpE q, 0, 0, ?_, rfl, ?_, rfl, rfl, fun e => absurd e (by decide)⟩, hpT_fits q 2⟩
      · have hz : fm_216 (M + 300) (.ref 0) 2 a2 (hp0 q) = some (.inr (0, hpE q)) := by
          unfold fm_216 fg_216_0
          refine ev_i rfl ?_
          refine ev_cR (v := .ref 58) (h1 := hp0 q) rfl rfl ?_
          exact ev_t c1 rfl
        simp only [fm_215, fg_215_0, hz]
        rfl
      · unfold fm_502 fg_502_0
        refine ev_i rfl ?_
        refine ev_cI (v := 1) (h1 := hpE q) rfl ?_
        refine ev_f (by decide) ?_
        refine ev_b (a := .ref 233) rfl ?_
        refine ev_b (a := 0) rfl ?_
        unfold fg_502_18
        refine ev_i rfl ?_
        refine ev_cI (v := 1) (h1 := hpE q) rfl ?_
        refine ev_f (by decide) ?_
        refine ev_i rfl ?_
        refine ev_cI (v := 0) (h1 := hpE q) rfl ?_
        unfold fg_502_38
        refine ev_i rfl ?_
        refine ev_cI (v := 1) (h1 := hpE q) rfl ?_
        refine ev_t (by decide) ?_
        refine ev_cI (pe_327 _ _ _ _) ?_
        rw [show pv_327 a2.toInt64 1 20 = 0 from in_lo (w64lt (b := 1) c1)]
        rfl
    · by_cases c2 : a2 ≤ 20
      · refine ⟨hpT q 3, ⟨3, hpE q, 0, 0, ?_, rfl, ?_, rfl, rfl, fun e => absurd e (by decide)⟩, hpT_fits q 3⟩
        · have hz : fm_216 (M + 300) (.ref 0) 2 a2 (hp0 q) = some (.inr (1, hpE q)) := by
            unfold fm_216 fg_216_0
            refine ev_i rfl ?_
            refine ev_cR (v := .ref 58) (h1 := hp0 q) rfl rfl ?_
            refine ev_f c1 ?_
            refine ev_t c2 ?_
            rfl
          simp only [fm_215, fg_215_0, hz]
          rfl
        · unfold fm_502 fg_502_0
          refine ev_i rfl ?_
          refine ev_cI (v := 1) (h1 := hpE q) rfl ?_
          refine ev_f (by decide) ?_
          refine ev_b (a := .ref 233) rfl ?_
          refine ev_b (a := 0) rfl ?_
          unfold fg_502_18
          refine ev_i rfl ?_
          refine ev_cI (v := 1) (h1 := hpE q) rfl ?_
          refine ev_f (by decide) ?_
          refine ev_i rfl ?_
          refine ev_cI (v := 0) (h1 := hpE q) rfl ?_
          unfold fg_502_38
          refine ev_i rfl ?_
          refine ev_cI (v := 1) (h1 := hpE q) rfl ?_
          refine ev_t (by decide) ?_
          refine ev_cI (pe_327 _ _ _ _) ?_
          rw [show pv_327 a2.toInt64 1 20 = 1 from in_ok (w64le (a := 1) (Int32.not_lt.mp c1)) (w64le (b := 20) c2)]
          rfl
      · refine ⟨hpT q 2, ⟨2, hpE q, 0, 0, ?_, rfl, ?_, rfl, rfl, fun e => absurd e (by decide)⟩, hpT_fits q 2⟩
        · have hz : fm_216 (M + 300) (.ref 0) 2 a2 (hp0 q) = some (.inr (0, hpE q)) := by
            unfold fm_216 fg_216_0
            refine ev_i rfl ?_
            refine ev_cR (v := .ref 58) (h1 := hp0 q) rfl rfl ?_
            refine ev_f c1 ?_
            exact ev_f c2 rfl
          simp only [fm_215, fg_215_0, hz]
          rfl
        · unfold fm_502 fg_502_0
          refine ev_i rfl ?_
          refine ev_cI (v := 1) (h1 := hpE q) rfl ?_
          refine ev_f (by decide) ?_
          refine ev_b (a := .ref 233) rfl ?_
          refine ev_b (a := 0) rfl ?_
          unfold fg_502_18
          refine ev_i rfl ?_
          refine ev_cI (v := 1) (h1 := hpE q) rfl ?_
          refine ev_f (by decide) ?_
          refine ev_i rfl ?_
          refine ev_cI (v := 0) (h1 := hpE q) rfl ?_
          unfold fg_502_38
          refine ev_i rfl ?_
          refine ev_cI (v := 1) (h1 := hpE q) rfl ?_
          refine ev_t (by decide) ?_
          refine ev_cI (pe_327 _ _ _ _) ?_
          rw [show pv_327 a2.toInt64 1 20 = 0 from in_hi (w64lt (a := 20) (Int32.not_le.mp c2))]
          rfl
  · by_cases c1 : a2 < 1
    · refine ⟨hpT q 2, ⟨2, hpE q, 0, 0, ?_, rfl, ?_, rfl, rfl, fun e => absurd e (by decide)⟩, hpT_fits q 2⟩
      · have hz : fm_216 (M + 300) (.ref 0) 3 a2 (hp0 q) = some (.inr (0, hpE q)) := by
          unfold fm_216 fg_216_0
          refine ev_i rfl ?_
          refine ev_cR (v := .ref 67) (h1 := hp0 q) rfl rfl ?_
          exact ev_t c1 rfl
        simp only [fm_215, fg_215_0, hz]
        rfl
      · unfold fm_502 fg_502_0
        refine ev_i rfl ?_
        refine ev_cI (v := 1) (h1 := hpE q) rfl ?_
        refine ev_f (by decide) ?_
        refine ev_b (a := .ref 233) rfl ?_
        refine ev_b (a := 0) rfl ?_
        unfold fg_502_18
        refine ev_i rfl ?_
        refine ev_cI (v := 1) (h1 := hpE q) rfl ?_
        refine ev_f (by decide) ?_
        refine ev_i rfl ?_
        refine ev_cI (v := 0) (h1 := hpE q) rfl ?_
        unfold fg_502_38
        refine ev_i rfl ?_
        refine ev_cI (v := 1) (h1 := hpE q) rfl ?_
        refine ev_t (by decide) ?_
        refine ev_cI (pe_327 _ _ _ _) ?_
        rw [show pv_327 a2.toInt64 1 20 = 0 from in_lo (w64lt (b := 1) c1)]
        rfl
    · by_cases c2 : a2 ≤ 20
      · refine ⟨hpT q 3, ⟨3, hpE q, 0, 0, ?_, rfl, ?_, rfl, rfl, fun e => absurd e (by decide)⟩, hpT_fits q 3⟩
        · have hz : fm_216 (M + 300) (.ref 0) 3 a2 (hp0 q) = some (.inr (1, hpE q)) := by
            unfold fm_216 fg_216_0
            refine ev_i rfl ?_
            refine ev_cR (v := .ref 67) (h1 := hp0 q) rfl rfl ?_
            refine ev_f c1 ?_
            refine ev_t c2 ?_
            rfl
          simp only [fm_215, fg_215_0, hz]
          rfl
        · unfold fm_502 fg_502_0
          refine ev_i rfl ?_
          refine ev_cI (v := 1) (h1 := hpE q) rfl ?_
          refine ev_f (by decide) ?_
          refine ev_b (a := .ref 233) rfl ?_
          refine ev_b (a := 0) rfl ?_
          unfold fg_502_18
          refine ev_i rfl ?_
          refine ev_cI (v := 1) (h1 := hpE q) rfl ?_
          refine ev_f (by decide) ?_
          refine ev_i rfl ?_
          refine ev_cI (v := 0) (h1 := hpE q) rfl ?_
          unfold fg_502_38
          refine ev_i rfl ?_
          refine ev_cI (v := 1) (h1 := hpE q) rfl ?_
          refine ev_t (by decide) ?_
          refine ev_cI (pe_327 _ _ _ _) ?_
          rw [show pv_327 a2.toInt64 1 20 = 1 from in_ok (w64le (a := 1) (Int32.not_lt.mp c1)) (w64le (b := 20) c2)]
          rfl
      · refine ⟨hpT q 2, ⟨2, hpE q, 0, 0, ?_, rfl, ?_, rfl, rfl, fun e => absurd e (by decide)⟩, hpT_fits q 2⟩
        · have hz : fm_216 (M + 300) (.ref 0) 3 a2 (hp0 q) = some (.inr (0, hpE q)) := by
            unfold fm_216 fg_216_0
            refine ev_i rfl ?_
            refine ev_cR (v := .ref 67) (h1 := hp0 q) rfl rfl ?_
            refine ev_f c1 ?_
            exact ev_f c2 rfl
          simp only [fm_215, fg_215_0, hz]
          rfl
        · unfold fm_502 fg_502_0
          refine ev_i rfl ?_
          refine ev_cI (v := 1) (h1 := hpE q) rfl ?_
          refine ev_f (by decide) ?_
          refine ev_b (a := .ref 233) rfl ?_
          refine ev_b (a := 0) rfl ?_
          unfold fg_502_18
          refine ev_i rfl ?_
          refine ev_cI (v := 1) (h1 := hpE q) rfl ?_
          refine ev_f (by decide) ?_
          refine ev_i rfl ?_
          refine ev_cI (v := 0) (h1 := hpE q) rfl ?_
          unfold fg_502_38
          refine ev_i rfl ?_
          refine ev_cI (v := 1) (h1 := hpE q) rfl ?_
          refine ev_t (by decide) ?_
          refine ev_cI (pe_327 _ _ _ _) ?_
          rw [show pv_327 a2.toInt64 1 20 = 0 from in_hi (w64lt (a := 20) (Int32.not_le.mp c2))]
          rfl
  · refine ⟨hpT q 1, ⟨1, hpE q, 0, 0, ?_, rfl, ?_, rfl, rfl, fun e => absurd e (by decide)⟩, hpT_fits q 1⟩
    · have hz : fm_216 (M + 300) (.ref 0) a1 a2 (hp0 q) = some (.inr (2, hpE q)) := by
        simp only [fm_216, fg_216_0, t201n hn]
        rfl
      simp only [fm_215, fg_215_0, hz]
      rfl
    · simp only [fm_502, fg_502_0, fg_502_18, fg_502_38, t489n hn]
      rfl
