/-! ===== the fresh objects: islands, and calls that read a field ===== -/
set_option maxRecDepth 100000 in
set_option maxHeartbeats 4000000 in
theorem w64lt {a b : Int32} (h : a < b) : a.toInt64 < b.toInt64 := sorry
set_option maxRecDepth 100000 in
set_option maxHeartbeats 4000000 in
theorem w64le {a b : Int32} (h : a ≤ b) : a.toInt64 ≤ b.toInt64 := sorry
set_option maxRecDepth 100000 in
set_option maxHeartbeats 4000000 in
theorem isl (a : Int32) : (a = 0 ∨ a = 1 ∨ a = 2 ∨ a = 3) ∨ (a < 0 ∨ 4 ≤ a) := sorry
set_option maxRecDepth 100000 in
set_option maxHeartbeats 4000000 in
theorem t201n {q : rkQ} {a : Int32} (h : a < 0 ∨ 4 ≤ a) : fm_201 (.ref 0) a (hp0 q) = some (.inr (2, hpE q)) := sorry
set_option maxRecDepth 100000 in
set_option maxHeartbeats 4000000 in
theorem t489n {a : Int32} {h : am_H} (hn : a < 0 ∨ 4 ≤ a) : fm_489 (.ref 174) a h = some (.inl (some (.int 0), h)) := sorry
/-! calls that read a field -/
set_option maxRecDepth 100000 in
set_option maxHeartbeats 4000000 in
theorem p_4 (q : rkQ) : ∃ h', opA (fm_23 (.ref 0) (hp0 q)) (fun h1 => fm_369 (.ref 174) h1) h' ∧ fits h' := ⟨(hp0 q).set 174 (.inr (12, .int 0 :: rfs)), ⟨0, hp0 q, rfl, rfl, rfl⟩, fits_of szl rfl (by decide)⟩
set_option maxRecDepth 100000 in
set_option maxHeartbeats 4000000 in
theorem p_15 (q : rkQ) : ∃ h', opA (fm_25 (.ref 0) (hp0 q)) (fun h1 => fm_399 (.ref 174) h1) h' ∧ fits h' := ⟨(hp0 q).set 174 (.inr (12, .int 0 :: rfs)), ⟨0, hp0 q, rfl, rfl, rfl⟩, fits_of szl rfl (by decide)⟩
set_option maxRecDepth 100000 in
set_option maxHeartbeats 4000000 in
theorem p_19 (q : rkQ) : ∃ h', opA (fm_26 (.ref 0) (hp0 q)) (fun h1 => fm_422 (.ref 174) h1) h' ∧ fits h' := ⟨(hp0 q).set 174 (.inr (12, .int 0 :: rfs)), ⟨0, hp0 q, rfl, rfl, rfl⟩, fits_of szl rfl (by decide)⟩
set_option maxRecDepth 100000 in
set_option maxHeartbeats 4000000 in
theorem p_20 (q : rkQ) : ∃ h', opA (fm_27 (.ref 0) (hp0 q)) (fun h1 => fm_423 (.ref 174) h1) h' ∧ fits h' := ⟨(hp0 q).set 174 (.inr (12, .int 0 :: rfs)), ⟨0, hp0 q, rfl, rfl, rfl⟩, fits_of szl rfl (by decide)⟩
set_option maxRecDepth 100000 in
set_option maxHeartbeats 4000000 in
theorem p_48 (q : rkQ) : ∃ h', opA (fm_28 (.ref 0) (hp0 q)) (fun h1 => fm_553 (.ref 174) h1) h' ∧ fits h' := ⟨(hp0 q).set 174 (.inr (12, .int 0 :: rfs)), ⟨0, hp0 q, rfl, rfl, rfl⟩, fits_of szl rfl (by decide)⟩
set_option maxRecDepth 100000 in
set_option maxHeartbeats 4000000 in
theorem p_12 (q : rkQ) (a1 : Int32) : ∃ h', opA (fm_24 (.ref 0) a1 (hp0 q)) (fun h1 => fm_395 (.ref 174) a1 h1) h' ∧ fits h' := ⟨_, ⟨1, _, rfl, rfl, rfl⟩, fits_of szl rfl (by decide)⟩
set_option maxRecDepth 100000 in
set_option maxHeartbeats 4000000 in
theorem p_49 (q : rkQ) (a1 a2 : Int32) : ∃ h', opA (fm_29 (.ref 0) a1 a2 (hp0 q)) (fun h1 => fm_554 (.ref 174) a1 a2 h1) h' ∧ fits h' := sorry
/-! islands -/
set_option maxRecDepth 100000 in
set_option maxHeartbeats 4000000 in
theorem p_33 (q : rkQ) (a1 : Int32) : ∃ h', opBI (fm_210 (.ref 0) a1 (.ref 268) (hp0 q)) (fun h1 => fm_499 (.ref 174) a1 h1) vfI h' ∧ fits h' := sorry