set_option maxRecDepth 100000 in
set_option maxHeartbeats 4000000 in
theorem w_2 (q : rkQ) {X : am_X} (N : Nat) (a1 : Int32) : fm_61 N (.ref 0) a1 (.ref 268) (hp0 q) = some (.inl (some (.int 1), hpE q)) := by
  have hz : fm_62 N (.ref 0) a1 (hp0 q) = some (.inr (2, hpE q)) := by
    simp only [fm_62, fg_62_0, t63 q]
    rfl
  unfold fm_61 fg_61_0
  simp only [hz]
  rfl
set_option maxRecDepth 100000 in
set_option maxHeartbeats 4000000 in
theorem r_2 (q : rkQ) {X : am_X} (N : Nat) (a1 : Int32) : fm_357 N (.ref 174) a1 (hpE q) = some (.inl (some (.int 0), hpT q 1)) := by
  simp only [fm_357, fg_357_14, fg_357_0, t358 q]
  rfl
set_option maxRecDepth 100000 in
set_option maxHeartbeats 4000000 in
theorem p_2 (q : rkQ) {X : am_X} (N : Nat) (a1 : Int32) : ∃ h', opBI (fm_61 N (.ref 0) a1 (.ref 268) (hp0 q)) (fun h1 => fm_357 N (.ref 174) a1 h1) vfI h' ∧ fits h' := ⟨hpT q 1, ⟨1, hpE q, 0, 0, w_2 q (X := X) N a1, rfl, r_2 q (X := X) N a1, rfl, rfl, fun e => absurd e (by decide)⟩, hpT_fits q 1⟩
set_option maxRecDepth 100000 in
set_option maxHeartbeats 4000000 in
theorem w_3 (q : rkQ) {X : am_X} (N : Nat) (a1 : Int32) (a2 : Int32) : fm_70 N (.ref 0) a1 a2 (.ref 268) (hp0 q) = some (.inl (some (.int 1), hpE q)) := by
  have hz : fm_71 N (.ref 0) a1 a2 (hp0 q) = some (.inr (2, hpE q)) := by
    simp only [fm_71, fg_71_0, t63 q]
    rfl
  unfold fm_70 fg_70_0
  simp only [hz]
  rfl
set_option maxRecDepth 100000 in
set_option maxHeartbeats 4000000 in
theorem r_3 (q : rkQ) {X : am_X} (N : Nat) (a1 : Int32) (a2 : Int32) : fm_368 N (.ref 174) a1 a2 (hpE q) = some (.inl (some (.int 0), hpT q 1)) := by
  simp only [fm_368, fg_368_61, fg_368_14, fg_368_0, t358 q]
  rfl
set_option maxRecDepth 100000 in
set_option maxHeartbeats 4000000 in
theorem p_3 (q : rkQ) {X : am_X} (N : Nat) (a1 : Int32) (a2 : Int32) : ∃ h', opBI (fm_70 N (.ref 0) a1 a2 (.ref 268) (hp0 q)) (fun h1 => fm_368 N (.ref 174) a1 a2 h1) vfI h' ∧ fits h' := ⟨hpT q 1, ⟨1, hpE q, 0, 0, w_3 q (X := X) N a1 a2, rfl, r_3 q (X := X) N a1 a2, rfl, rfl, fun e => absurd e (by decide)⟩, hpT_fits q 1⟩
