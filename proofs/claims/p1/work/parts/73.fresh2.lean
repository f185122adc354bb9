theorem sc_cI {t : Bool} {v : Int32} {h : am_H} {k : Int32 → am_H → Option am_O} : am_cI t (some (.inl (some (.int v), h))) k = k v h := rfl
set_option maxRecDepth 100000 in
set_option maxHeartbeats 4000000 in
theorem t315 (q : rkQ) (a : Int32) : fm_315 (.ref 0) a (hp0 q) = some (.inr (2, hpE q)) := by
  simp only [fm_315, fg_315_0, t63 q]
  rfl
set_option maxRecDepth 100000 in
set_option maxHeartbeats 4000000 in
theorem t586 (q : rkQ) (a : Int32) : fm_586 (.ref 174) a (hpE q) = some (.inl (some (.int 1), hpE q)) := by
  simp only [fm_586, fg_586_39, fg_586_29, fg_586_0, t358 q, sc_cI]
  rfl
set_option maxRecDepth 100000 in
set_option maxHeartbeats 4000000 in
theorem w_5 (q : rkQ) {X : am_X} (N : Nat) (a1 : Int32) (a2 : Int32) : fm_73 N (.ref 0) a1 a2 (.ref 268) (hp0 q) = some (.inl (some (.int 1), hpE q)) := by
  have hz : fm_74 N (.ref 0) a1 a2 (hp0 q) = some (.inr (2, hpE q)) := by
    simp only [fm_74, fg_74_0, t63 q]
    rfl
  unfold fm_73 fg_73_0
  simp only [hz]
  rfl
set_option maxRecDepth 100000 in
set_option maxHeartbeats 4000000 in
theorem r_5 (q : rkQ) {X : am_X} (N : Nat) (a1 : Int32) (a2 : Int32) : fm_370 N (.ref 174) a1 a2 (hpE q) = some (.inl (some (.int 0), hpT q 1)) := by
  simp only [fm_370, fg_370_162, fg_370_30, fg_370_0, t358 q]
  rfl
set_option maxRecDepth 100000 in
set_option maxHeartbeats 4000000 in
theorem p_5 (q : rkQ) {X : am_X} (N : Nat) (a1 : Int32) (a2 : Int32) : ∃ h', opBI (fm_73 N (.ref 0) a1 a2 (.ref 268) (hp0 q)) (fun h1 => fm_370 N (.ref 174) a1 a2 h1) vfI h' ∧ fits h' := ⟨hpT q 1, ⟨1, hpE q, 0, 0, w_5 q (X := X) N a1 a2, rfl, r_5 q (X := X) N a1 a2, rfl, rfl, fun e => absurd e (by decide)⟩, hpT_fits q 1⟩
set_option maxRecDepth 100000 in
set_option maxHeartbeats 4000000 in
theorem w_6 (q : rkQ) {X : am_X} (N : Nat) (a1 : Int32) : fm_80 (.ref 0) a1 (.ref 268) (hp0 q) = some (.inl (some (.int 1), hpE q)) := by
  have hz : fm_81 (.ref 0) a1 (hp0 q) = some (.inr (2, hpE q)) := by
    simp only [fm_81, fg_81_0, t63 q]
    rfl
  unfold fm_80 fg_80_0
  simp only [hz]
  rfl
set_option maxRecDepth 100000 in
set_option maxHeartbeats 4000000 in
theorem r_6 (q : rkQ) {X : am_X} (N : Nat) (a1 : Int32) : fm_372 (.ref 174) a1 (hpE q) = some (.inl (some (.long 0), hpT q 1)) := by
  simp only [fm_372, fg_372_34, fg_372_14, fg_372_0, t358 q]
  rfl
set_option maxRecDepth 100000 in
set_option maxHeartbeats 4000000 in
theorem p_6 (q : rkQ) {X : am_X} (N : Nat) (a1 : Int32) : ∃ h', opBL (fm_80 (.ref 0) a1 (.ref 268) (hp0 q)) (fun h1 => fm_372 (.ref 174) a1 h1) vfI h' ∧ fits h' := ⟨hpT q 1, ⟨1, hpE q, 0, 0, w_6 q (X := X) N a1, rfl, r_6 q (X := X) N a1, rfl, rfl, fun e => absurd e (by decide)⟩, hpT_fits q 1⟩
set_option maxRecDepth 100000 in
set_option maxHeartbeats 4000000 in
theorem w_7 (q : rkQ) {X : am_X} (N : Nat) (a1 : Int32) (a2 : Int32) (a3 : Int32) : fm_82 (.ref 0) a1 a2 a3 (.ref 268) (hp0 q) = some (.inl (some (.int 1), hpE q)) := by
  have hz : fm_83 (.ref 0) a1 a2 a3 (hp0 q) = some (.inr (2, hpE q)) := by
    simp only [fm_83, fg_83_0, t63 q]
    rfl
  unfold fm_82 fg_82_0
  simp only [hz]
  rfl
set_option maxRecDepth 100000 in
set_option maxHeartbeats 4000000 in
theorem r_7 (q : rkQ) {X : am_X} (N : Nat) (a1 : Int32) (a2 : Int32) (a3 : Int32) : fm_373 (.ref 174) a1 a2 a3 (hpE q) = some (.inl (some (.int 0), hpT q 1)) := by
  simp only [fm_373, fg_373_135, fg_373_60, fg_373_39, fg_373_29, fg_373_0, t358 q]
  rfl
set_option maxRecDepth 100000 in
set_option maxHeartbeats 4000000 in
theorem p_7 (q : rkQ) {X : am_X} (N : Nat) (a1 : Int32) (a2 : Int32) (a3 : Int32) : ∃ h', opBI (fm_82 (.ref 0) a1 a2 a3 (.ref 268) (hp0 q)) (fun h1 => fm_373 (.ref 174) a1 a2 a3 h1) vfI h' ∧ fits h' := ⟨hpT q 1, ⟨1, hpE q, 0, 0, w_7 q (X := X) N a1 a2 a3, rfl, r_7 q (X := X) N a1 a2 a3, rfl, rfl, fun e => absurd e (by decide)⟩, hpT_fits q 1⟩
set_option maxRecDepth 100000 in
set_option maxHeartbeats 4000000 in
theorem w_8 (q : rkQ) {X : am_X} (N : Nat) (a1 : Int32) (a2 : Int32) : fm_84 N (.ref 0) a1 a2 (.ref 268) (hp0 q) = some (.inl (some (.int 1), hpE q)) := by
  have hz : fm_85 N (.ref 0) a1 a2 (hp0 q) = some (.inr (2, hpE q)) := by
    simp only [fm_85, fg_85_0, t63 q]
    rfl
  unfold fm_84 fg_84_0
  simp only [hz]
  rfl
set_option maxRecDepth 100000 in
set_option maxHeartbeats 4000000 in
theorem r_8 (q : rkQ) {X : am_X} (N : Nat) (a1 : Int32) (a2 : Int32) : fm_374 N (.ref 174) a1 a2 (hpE q) = some (.inl (some (.int 0), hpT q 1)) := by
  simp only [fm_374, fg_374_22, fg_374_21, fg_374_0, t358 q]
  rfl
set_option maxRecDepth 100000 in
set_option maxHeartbeats 4000000 in
theorem p_8 (q : rkQ) {X : am_X} (N : Nat) (a1 : Int32) (a2 : Int32) : ∃ h', opBI (fm_84 N (.ref 0) a1 a2 (.ref 268) (hp0 q)) (fun h1 => fm_374 N (.ref 174) a1 a2 h1) vfZ h' ∧ fits h' := ⟨hpT q 1, ⟨1, hpE q, 0, 0, w_8 q (X := X) N a1 a2, rfl, r_8 q (X := X) N a1 a2, rfl, rfl, fun e => absurd e (by decide)⟩, hpT_fits q 1⟩
set_option maxRecDepth 100000 in
set_option maxHeartbeats 4000000 in
theorem w_11 (q : rkQ) {X : am_X} (N : Nat) (a1 : Int32) : fm_96 N (.ref 0) a1 (.ref 268) (hp0 q) = some (.inl (some (.int 1), hpE q)) := by
  have hz : fm_97 N (.ref 0) a1 (hp0 q) = some (.inr (2, hpE q)) := by
    simp only [fm_97, fg_97_0, t63 q]
    rfl
  unfold fm_96 fg_96_0
  simp only [hz]
  rfl
set_option maxRecDepth 100000 in
set_option maxHeartbeats 4000000 in
theorem r_11 (q : rkQ) {X : am_X} (N : Nat) (a1 : Int32) : fm_390 N (.ref 174) a1 (hpE q) = some (.inl (some (.long 0), hpT q 1)) := by
  simp only [fm_390, fg_390_207, fg_390_148, fg_390_138, fg_390_123, fg_390_85, fg_390_62, fg_390_57, fg_390_51, fg_390_30, fg_390_0, t358 q]
  rfl
set_option maxRecDepth 100000 in
set_option maxHeartbeats 4000000 in
theorem p_11 (q : rkQ) {X : am_X} (N : Nat) (a1 : Int32) : ∃ h', opBL (fm_96 N (.ref 0) a1 (.ref 268) (hp0 q)) (fun h1 => fm_390 N (.ref 174) a1 h1) vfI h' ∧ fits h' := ⟨hpT q 1, ⟨1, hpE q, 0, 0, w_11 q (X := X) N a1, rfl, r_11 q (X := X) N a1, rfl, rfl, fun e => absurd e (by decide)⟩, hpT_fits q 1⟩
set_option maxRecDepth 100000 in
set_option maxHeartbeats 4000000 in
theorem w_17 (q : rkQ) {X : am_X} (N : Nat) (a1 : Int32) (a2 : Int32) : fm_113 N (.ref 0) a1 a2 (.ref 268) (hp0 q) = some (.inl (some (.int 1), hpE q)) := by
  have hz : fm_114 N (.ref 0) a1 a2 (hp0 q) = some (.inr (2, hpE q)) := by
    simp only [fm_114, fg_114_0, t63 q]
    rfl
  unfold fm_113 fg_113_0
  simp only [hz]
  rfl
set_option maxRecDepth 100000 in
set_option maxHeartbeats 4000000 in
theorem r_17 (q : rkQ) {X : am_X} (N : Nat) (a1 : Int32) (a2 : Int32) : fm_401 N (.ref 174) a1 a2 (hpE q) = some (.inl (some (.int 0), hpT q 1)) := by
  simp only [fm_401, fg_401_22, fg_401_21, fg_401_0, t358 q]
  rfl
set_option maxRecDepth 100000 in
set_option maxHeartbeats 4000000 in
theorem p_17 (q : rkQ) {X : am_X} (N : Nat) (a1 : Int32) (a2 : Int32) : ∃ h', opBI (fm_113 N (.ref 0) a1 a2 (.ref 268) (hp0 q)) (fun h1 => fm_401 N (.ref 174) a1 a2 h1) vfI h' ∧ fits h' := ⟨hpT q 1, ⟨1, hpE q, 0, 0, w_17 q (X := X) N a1 a2, rfl, r_17 q (X := X) N a1 a2, rfl, rfl, fun e => absurd e (by decide)⟩, hpT_fits q 1⟩
set_option maxRecDepth 100000 in
set_option maxHeartbeats 4000000 in
theorem w_18 (q : rkQ) {X : am_X} (N : Nat) (a1 : Int32) (a2 : Int32) (a3 : Int32) (a4 : Int32) : fm_129 N (.ref 0) a1 a2 a3 a4 (.ref 268) (hp0 q) = some (.inl (some (.int 1), hpE q)) := by
  have hz : fm_130 N (.ref 0) a1 a2 a3 a4 (hp0 q) = some (.inr (2, hpE q)) := by
    simp only [fm_130, fg_130_0, t63 q]
    rfl
  unfold fm_129 fg_129_0
  simp only [hz]
  rfl
set_option maxRecDepth 100000 in
set_option maxHeartbeats 4000000 in
theorem r_18 (q : rkQ) {X : am_X} (N : Nat) (a1 : Int32) (a2 : Int32) (a3 : Int32) (a4 : Int32) : fm_420 N (.ref 174) a1 a2 a3 a4 (hpE q) = some (.inl (some (.int 0), hpT q 1)) := by
  simp only [fm_420, fg_420_14, fg_420_0, t358 q]
  rfl
set_option maxRecDepth 100000 in
set_option maxHeartbeats 4000000 in
theorem p_18 (q : rkQ) {X : am_X} (N : Nat) (a1 : Int32) (a2 : Int32) (a3 : Int32) (a4 : Int32) : ∃ h', opBI (fm_129 N (.ref 0) a1 a2 a3 a4 (.ref 268) (hp0 q)) (fun h1 => fm_420 N (.ref 174) a1 a2 a3 a4 h1) vfI h' ∧ fits h' := ⟨hpT q 1, ⟨1, hpE q, 0, 0, w_18 q (X := X) N a1 a2 a3 a4, rfl, r_18 q (X := X) N a1 a2 a3 a4, rfl, rfl, fun e => absurd e (by decide)⟩, hpT_fits q 1⟩
set_option maxRecDepth 100000 in
set_option maxHeartbeats 4000000 in
theorem w_21 (q : rkQ) {X : am_X} (N : Nat) (a1 : Int32) (a2 : Int32) : fm_131 N (.ref 0) a1 a2 (.ref 268) (hp0 q) = some (.inl (some (.int 1), hpE q)) := by
  have hz : fm_132 N (.ref 0) a1 a2 (hp0 q) = some (.inr (2, hpE q)) := by
    simp only [fm_132, fg_132_0, t63 q]
    rfl
  unfold fm_131 fg_131_0
  simp only [hz]
  rfl
set_option maxRecDepth 100000 in
set_option maxHeartbeats 4000000 in
theorem r_21 (q : rkQ) {X : am_X} (N : Nat) (a1 : Int32) (a2 : Int32) : fm_424 N (.ref 174) a1 a2 (hpE q) = some (.inl (some (.int 0), hpT q 1)) := by
  simp only [fm_424, fg_424_22, fg_424_21, fg_424_0, t358 q]
  rfl
set_option maxRecDepth 100000 in
set_option maxHeartbeats 4000000 in
theorem p_21 (q : rkQ) {X : am_X} (N : Nat) (a1 : Int32) (a2 : Int32) : ∃ h', opBI (fm_131 N (.ref 0) a1 a2 (.ref 268) (hp0 q)) (fun h1 => fm_424 N (.ref 174) a1 a2 h1) vfI h' ∧ fits h' := ⟨hpT q 1, ⟨1, hpE q, 0, 0, w_21 q (X := X) N a1 a2, rfl, r_21 q (X := X) N a1 a2, rfl, rfl, fun e => absurd e (by decide)⟩, hpT_fits q 1⟩
set_option maxRecDepth 100000 in
set_option maxHeartbeats 4000000 in
theorem w_22 (q : rkQ) {X : am_X} (N : Nat) (a1 : Int32) (a2 : Int32) (a3 : Int32) : fm_137 N (.ref 0) a1 (if a2 = 0 then 0 else 1) a3 (.ref 268) (hp0 q) = some (.inl (some (.int 1), hpE q)) := by
  have hz : fm_138 N (.ref 0) a1 (if a2 = 0 then 0 else 1) a3 (hp0 q) = some (.inr (2, hpE q)) := by
    simp only [fm_138, fg_138_0, t63 q]
    rfl
  unfold fm_137 fg_137_0
  simp only [hz]
  rfl
set_option maxRecDepth 100000 in
set_option maxHeartbeats 4000000 in
theorem r_22 (q : rkQ) {X : am_X} (N : Nat) (a1 : Int32) (a2 : Int32) (a3 : Int32) : fm_427 N (.ref 174) a1 (if a2 = 0 then 0 else 1) a3 (hpE q) = some (.inl (some (.long 0), hpT q 1)) := by
  simp only [fm_427, fg_427_65, fg_427_28, fg_427_0, t358 q]
  rfl
set_option maxRecDepth 100000 in
set_option maxHeartbeats 4000000 in
theorem p_22 (q : rkQ) {X : am_X} (N : Nat) (a1 : Int32) (a2 : Int32) (a3 : Int32) : ∃ h', opBL (fm_137 N (.ref 0) a1 (if a2 = 0 then 0 else 1) a3 (.ref 268) (hp0 q)) (fun h1 => fm_427 N (.ref 174) a1 (if a2 = 0 then 0 else 1) a3 h1) vfI h' ∧ fits h' := ⟨hpT q 1, ⟨1, hpE q, 0, 0, w_22 q (X := X) N a1 a2 a3, rfl, r_22 q (X := X) N a1 a2 a3, rfl, rfl, fun e => absurd e (by decide)⟩, hpT_fits q 1⟩
set_option maxRecDepth 100000 in
set_option maxHeartbeats 4000000 in
theorem w_23 (q : rkQ) {X : am_X} (N : Nat) (a1 : Int32) (a2 : Int32) : fm_145 N (.ref 0) a1 a2 (.ref 268) (hp0 q) = some (.inl (some (.int 1), hpE q)) := by
  have hz : fm_146 N (.ref 0) a1 a2 (hp0 q) = some (.inr (2, hpE q)) := by
    simp only [fm_146, fg_146_0, t63 q]
    rfl
  unfold fm_145 fg_145_0
  simp only [hz]
  rfl
set_option maxRecDepth 100000 in
set_option maxHeartbeats 4000000 in
theorem r_23 (q : rkQ) {X : am_X} (N : Nat) (a1 : Int32) (a2 : Int32) : fm_431 N (.ref 174) a1 a2 (hpE q) = some (.inl (some (.long 0), hpT q 1)) := by
  simp only [fm_431, fg_431_28, fg_431_0, t358 q]
  rfl
set_option maxRecDepth 100000 in
set_option maxHeartbeats 4000000 in
theorem p_23 (q : rkQ) {X : am_X} (N : Nat) (a1 : Int32) (a2 : Int32) : ∃ h', opBL (fm_145 N (.ref 0) a1 a2 (.ref 268) (hp0 q)) (fun h1 => fm_431 N (.ref 174) a1 a2 h1) vfI h' ∧ fits h' := ⟨hpT q 1, ⟨1, hpE q, 0, 0, w_23 q (X := X) N a1 a2, rfl, r_23 q (X := X) N a1 a2, rfl, rfl, fun e => absurd e (by decide)⟩, hpT_fits q 1⟩
set_option maxRecDepth 100000 in
set_option maxHeartbeats 4000000 in
theorem w_24 (q : rkQ) {X : am_X} (N : Nat) (a1 : Int32) (a2 : Int32) : fm_147 N (.ref 0) a1 (if a2 = 0 then 0 else 1) (.ref 268) (hp0 q) = some (.inl (some (.int 1), hpE q)) := by
  have hz : fm_148 N (.ref 0) a1 (if a2 = 0 then 0 else 1) (hp0 q) = some (.inr (2, hpE q)) := by
    simp only [fm_148, fg_148_0, t63 q]
    rfl
  unfold fm_147 fg_147_0
  simp only [hz]
  rfl
set_option maxRecDepth 100000 in
set_option maxHeartbeats 4000000 in
theorem r_24 (q : rkQ) {X : am_X} (N : Nat) (a1 : Int32) (a2 : Int32) : fm_433 N (.ref 174) a1 (if a2 = 0 then 0 else 1) (hpE q) = some (.inl (some (.int 0), hpT q 1)) := by
  simp only [fm_433, fg_433_73, fg_433_72, fg_433_36, fg_433_14, fg_433_0, t358 q]
  rfl
set_option maxRecDepth 100000 in
set_option maxHeartbeats 4000000 in
theorem p_24 (q : rkQ) {X : am_X} (N : Nat) (a1 : Int32) (a2 : Int32) : ∃ h', opBI (fm_147 N (.ref 0) a1 (if a2 = 0 then 0 else 1) (.ref 268) (hp0 q)) (fun h1 => fm_433 N (.ref 174) a1 (if a2 = 0 then 0 else 1) h1) vfI h' ∧ fits h' := ⟨hpT q 1, ⟨1, hpE q, 0, 0, w_24 q (X := X) N a1 a2, rfl, r_24 q (X := X) N a1 a2, rfl, rfl, fun e => absurd e (by decide)⟩, hpT_fits q 1⟩
set_option maxRecDepth 100000 in
set_option maxHeartbeats 4000000 in
theorem w_25 (q : rkQ) {X : am_X} (N : Nat) (a1 : Int32) (a2 : Int32) : fm_149 N (.ref 0) a1 a2 (.ref 268) (hp0 q) = some (.inl (some (.int 1), hpE q)) := by
  have hz : fm_150 N (.ref 0) a1 a2 (hp0 q) = some (.inr (2, hpE q)) := by
    simp only [fm_150, fg_150_0, t63 q]
    rfl
  unfold fm_149 fg_149_0
  simp only [hz]
  rfl
set_option maxRecDepth 100000 in
set_option maxHeartbeats 4000000 in
theorem r_25 (q : rkQ) {X : am_X} (N : Nat) (a1 : Int32) (a2 : Int32) : fm_434 N (.ref 174) a1 a2 (hpE q) = some (.inl (some (.int 0), hpT q 1)) := by
  simp only [fm_434, fg_434_42, fg_434_22, fg_434_21, fg_434_0, t358 q]
  rfl
set_option maxRecDepth 100000 in
set_option maxHeartbeats 4000000 in
theorem p_25 (q : rkQ) {X : am_X} (N : Nat) (a1 : Int32) (a2 : Int32) : ∃ h', opBI (fm_149 N (.ref 0) a1 a2 (.ref 268) (hp0 q)) (fun h1 => fm_434 N (.ref 174) a1 a2 h1) vfI h' ∧ fits h' := ⟨hpT q 1, ⟨1, hpE q, 0, 0, w_25 q (X := X) N a1 a2, rfl, r_25 q (X := X) N a1 a2, rfl, rfl, fun e => absurd e (by decide)⟩, hpT_fits q 1⟩
set_option maxRecDepth 100000 in
set_option maxHeartbeats 4000000 in
theorem w_27 (q : rkQ) {X : am_X} (N : Nat) (a1 : Int32) (a2 : Int32) : fm_156 N (.ref 0) a1 a2 (.ref 268) (hp0 q) = some (.inl (some (.int 1), hpE q)) := by
  have hz : fm_157 N (.ref 0) a1 a2 (hp0 q) = some (.inr (2, hpE q)) := by
    simp only [fm_157, fg_157_0, t63 q]
    rfl
  unfold fm_156 fg_156_0
  simp only [hz]
  rfl
set_option maxRecDepth 100000 in
set_option maxHeartbeats 4000000 in
theorem r_27 (q : rkQ) {X : am_X} (N : Nat) (a1 : Int32) (a2 : Int32) : fm_438 N (.ref 174) a1 a2 (hpE q) = some (.inl (some (.int 0), hpT q 1)) := by
  simp only [fm_438, fg_438_30, fg_438_0, t358 q]
  rfl
set_option maxRecDepth 100000 in
set_option maxHeartbeats 4000000 in
theorem p_27 (q : rkQ) {X : am_X} (N : Nat) (a1 : Int32) (a2 : Int32) : ∃ h', opBI (fm_156 N (.ref 0) a1 a2 (.ref 268) (hp0 q)) (fun h1 => fm_438 N (.ref 174) a1 a2 h1) vfI h' ∧ fits h' := ⟨hpT q 1, ⟨1, hpE q, 0, 0, w_27 q (X := X) N a1 a2, rfl, r_27 q (X := X) N a1 a2, rfl, rfl, fun e => absurd e (by decide)⟩, hpT_fits q 1⟩
set_option maxRecDepth 100000 in
set_option maxHeartbeats 4000000 in
theorem w_28 (q : rkQ) {X : am_X} (N : Nat) (a1 : Int32) (a2 : Int32) (a3 : Int32) : fm_185 N (.ref 0) a1 a2 a3 (.ref 268) (hp0 q) = some (.inl (some (.int 1), hpE q)) := by
  have hz : fm_186 N (.ref 0) a1 a2 a3 (hp0 q) = some (.inr (2, hpE q)) := by
    simp only [fm_186, fg_186_0, t63 q]
    rfl
  unfold fm_185 fg_185_0
  simp only [hz]
  rfl
set_option maxRecDepth 100000 in
set_option maxHeartbeats 4000000 in
theorem r_28 (q : rkQ) {X : am_X} (N : Nat) (a1 : Int32) (a2 : Int32) (a3 : Int32) : fm_469 N (.ref 174) a1 a2 a3 (hpE q) = some (.inl (some (.int 0), hpT q 1)) := by
  simp only [fm_469, fg_469_148, fg_469_124, fg_469_100, fg_469_80, fg_469_79, fg_469_58, fg_469_14, fg_469_0, t358 q]
  rfl
set_option maxRecDepth 100000 in
set_option maxHeartbeats 4000000 in
theorem p_28 (q : rkQ) {X : am_X} (N : Nat) (a1 : Int32) (a2 : Int32) (a3 : Int32) : ∃ h', opBI (fm_185 N (.ref 0) a1 a2 a3 (.ref 268) (hp0 q)) (fun h1 => fm_469 N (.ref 174) a1 a2 a3 h1) vfI h' ∧ fits h' := ⟨hpT q 1, ⟨1, hpE q, 0, 0, w_28 q (X := X) N a1 a2 a3, rfl, r_28 q (X := X) N a1 a2 a3, rfl, rfl, fun e => absurd e (by decide)⟩, hpT_fits q 1⟩
set_option maxRecDepth 100000 in
set_option maxHeartbeats 4000000 in
theorem w_29 (q : rkQ) {X : am_X} (N : Nat) (a1 : Int32) (a2 : Int32) (a3 : Int32) (a4 : Int32) : fm_188 N (.ref 0) a1 a2 ((((Int32.toInt64 a3) <<< (Int32.toInt64 32 &&& 63)) ||| ((Int32.toInt64 a4) &&& 4294967295))) (.ref 268) (hp0 q) = some (.inl (some (.int 1), hpE q)) := by
  have hz : fm_189 N (.ref 0) a1 a2 ((((Int32.toInt64 a3) <<< (Int32.toInt64 32 &&& 63)) ||| ((Int32.toInt64 a4) &&& 4294967295))) (hp0 q) = some (.inr (2, hpE q)) := by
    simp only [fm_189, fg_189_0, t63 q]
    rfl
  unfold fm_188 fg_188_0
  simp only [hz]
  rfl
set_option maxRecDepth 100000 in
set_option maxHeartbeats 4000000 in
theorem r_29 (q : rkQ) {X : am_X} (N : Nat) (a1 : Int32) (a2 : Int32) (a3 : Int32) (a4 : Int32) : fm_470 N (.ref 174) a1 a2 ((((Int32.toInt64 a3) <<< (Int32.toInt64 32 &&& 63)) ||| ((Int32.toInt64 a4) &&& 4294967295))) (hpE q) = some (.inl (some (.int 0), hpT q 1)) := by
  simp only [fm_470, fg_470_41, fg_470_0, t358 q]
  rfl
set_option maxRecDepth 100000 in
set_option maxHeartbeats 4000000 in
theorem p_29 (q : rkQ) {X : am_X} (N : Nat) (a1 : Int32) (a2 : Int32) (a3 : Int32) (a4 : Int32) : ∃ h', opBI (fm_188 N (.ref 0) a1 a2 ((((Int32.toInt64 a3) <<< (Int32.toInt64 32 &&& 63)) ||| ((Int32.toInt64 a4) &&& 4294967295))) (.ref 268) (hp0 q)) (fun h1 => fm_470 N (.ref 174) a1 a2 ((((Int32.toInt64 a3) <<< (Int32.toInt64 32 &&& 63)) ||| ((Int32.toInt64 a4) &&& 4294967295))) h1) vfI h' ∧ fits h' := ⟨hpT q 1, ⟨1, hpE q, 0, 0, w_29 q (X := X) N a1 a2 a3 a4, rfl, r_29 q (X := X) N a1 a2 a3 a4, rfl, rfl, fun e => absurd e (by decide)⟩, hpT_fits q 1⟩
set_option maxRecDepth 100000 in
set_option maxHeartbeats 4000000 in
theorem w_30 (q : rkQ) {X : am_X} (N : Nat) (a1 : Int32) (a2 : Int32) : fm_195 N (.ref 0) a1 a2 (.ref 268) (hp0 q) = some (.inl (some (.int 1), hpE q)) := by
  have hz : fm_196 N (.ref 0) a1 a2 (hp0 q) = some (.inr (2, hpE q)) := by
    simp only [fm_196, fg_196_0, t63 q]
    rfl
  unfold fm_195 fg_195_0
  simp only [hz]
  rfl
set_option maxRecDepth 100000 in
set_option maxHeartbeats 4000000 in
theorem r_30 (q : rkQ) {X : am_X} (N : Nat) (a1 : Int32) (a2 : Int32) : fm_478 N (.ref 174) a1 a2 (hpE q) = some (.inl (some (.int 0), hpT q 1)) := by
  simp only [fm_478, fg_478_41, fg_478_22, fg_478_21, fg_478_0, t358 q]
  rfl
set_option maxRecDepth 100000 in
set_option maxHeartbeats 4000000 in
theorem p_30 (q : rkQ) {X : am_X} (N : Nat) (a1 : Int32) (a2 : Int32) : ∃ h', opBI (fm_195 N (.ref 0) a1 a2 (.ref 268) (hp0 q)) (fun h1 => fm_478 N (.ref 174) a1 a2 h1) vfI h' ∧ fits h' := ⟨hpT q 1, ⟨1, hpE q, 0, 0, w_30 q (X := X) N a1 a2, rfl, r_30 q (X := X) N a1 a2, rfl, rfl, fun e => absurd e (by decide)⟩, hpT_fits q 1⟩
set_option maxRecDepth 100000 in
set_option maxHeartbeats 4000000 in
theorem w_31 (q : rkQ) {X : am_X} (N : Nat) (a1 : Int32) (a2 : Int32) (a3 : Int32) (a4 : Int32) : fm_197 N (.ref 0) a1 a2 ((((Int32.toInt64 a3) <<< (Int32.toInt64 32 &&& 63)) ||| ((Int32.toInt64 a4) &&& 4294967295))) (.ref 268) (hp0 q) = some (.inl (some (.int 1), hpE q)) := by
  have hz : fm_198 N (.ref 0) a1 a2 ((((Int32.toInt64 a3) <<< (Int32.toInt64 32 &&& 63)) ||| ((Int32.toInt64 a4) &&& 4294967295))) (hp0 q) = some (.inr (2, hpE q)) := by
    simp only [fm_198, fg_198_0, t63 q]
    rfl
  unfold fm_197 fg_197_0
  simp only [hz]
  rfl
set_option maxRecDepth 100000 in
set_option maxHeartbeats 4000000 in
theorem r_31 (q : rkQ) {X : am_X} (N : Nat) (a1 : Int32) (a2 : Int32) (a3 : Int32) (a4 : Int32) : fm_486 N (.ref 174) a1 a2 ((((Int32.toInt64 a3) <<< (Int32.toInt64 32 &&& 63)) ||| ((Int32.toInt64 a4) &&& 4294967295))) (hpE q) = some (.inl (some (.int 0), hpT q 1)) := by
  simp only [fm_486, fg_486_55, fg_486_17, fg_486_0, t358 q]
  rfl
set_option maxRecDepth 100000 in
set_option maxHeartbeats 4000000 in
theorem p_31 (q : rkQ) {X : am_X} (N : Nat) (a1 : Int32) (a2 : Int32) (a3 : Int32) (a4 : Int32) : ∃ h', opBI (fm_197 N (.ref 0) a1 a2 ((((Int32.toInt64 a3) <<< (Int32.toInt64 32 &&& 63)) ||| ((Int32.toInt64 a4) &&& 4294967295))) (.ref 268) (hp0 q)) (fun h1 => fm_486 N (.ref 174) a1 a2 ((((Int32.toInt64 a3) <<< (Int32.toInt64 32 &&& 63)) ||| ((Int32.toInt64 a4) &&& 4294967295))) h1) vfI h' ∧ fits h' := ⟨hpT q 1, ⟨1, hpE q, 0, 0, w_31 q (X := X) N a1 a2 a3 a4, rfl, r_31 q (X := X) N a1 a2 a3 a4, rfl, rfl, fun e => absurd e (by decide)⟩, hpT_fits q 1⟩
set_option maxRecDepth 100000 in
set_option maxHeartbeats 4000000 in
theorem w_40 (q : rkQ) {X : am_X} (N : Nat) (a1 : Int32) (a2 : Int32) : fm_244 N (.ref 0) a1 a2 (.ref 268) (hp0 q) = some (.inl (some (.int 1), hpE q)) := by
  have hz : fm_245 N (.ref 0) a1 a2 (hp0 q) = some (.inr (2, hpE q)) := by
    simp only [fm_245, fg_245_0, t63 q]
    rfl
  unfold fm_244 fg_244_0
  simp only [hz]
  rfl
set_option maxRecDepth 100000 in
set_option maxHeartbeats 4000000 in
theorem r_40 (q : rkQ) {X : am_X} (N : Nat) (a1 : Int32) (a2 : Int32) : fm_524 N (.ref 174) a1 a2 (hpE q) = some (.inl (some (.long 0), hpT q 1)) := by
  simp only [fm_524, fg_524_42, fg_524_22, fg_524_21, fg_524_0, t358 q]
  rfl
set_option maxRecDepth 100000 in
set_option maxHeartbeats 4000000 in
theorem p_40 (q : rkQ) {X : am_X} (N : Nat) (a1 : Int32) (a2 : Int32) : ∃ h', opBL (fm_244 N (.ref 0) a1 a2 (.ref 268) (hp0 q)) (fun h1 => fm_524 N (.ref 174) a1 a2 h1) vfI h' ∧ fits h' := ⟨hpT q 1, ⟨1, hpE q, 0, 0, w_40 q (X := X) N a1 a2, rfl, r_40 q (X := X) N a1 a2, rfl, rfl, fun e => absurd e (by decide)⟩, hpT_fits q 1⟩
set_option maxRecDepth 100000 in
set_option maxHeartbeats 4000000 in
theorem w_42 (q : rkQ) {X : am_X} (N : Nat) (a1 : Int32) : fm_250 N (.ref 0) a1 (.ref 268) (hp0 q) = some (.inl (some (.int 1), hpE q)) := by
  have hz : fm_251 N (.ref 0) a1 (hp0 q) = some (.inr (2, hpE q)) := by
    simp only [fm_251, fg_251_0, t63 q]
    rfl
  unfold fm_250 fg_250_0
  simp only [hz]
  rfl
set_option maxRecDepth 100000 in
set_option maxHeartbeats 4000000 in
theorem r_42 (q : rkQ) {X : am_X} (N : Nat) (a1 : Int32) : fm_527 N (.ref 174) a1 (hpE q) = some (.inl (some (.int 0), hpT q 1)) := by
  simp only [fm_527, fg_527_59, fg_527_36, fg_527_14, fg_527_0, t358 q]
  rfl
set_option maxRecDepth 100000 in
set_option maxHeartbeats 4000000 in
theorem p_42 (q : rkQ) {X : am_X} (N : Nat) (a1 : Int32) : ∃ h', opBI (fm_250 N (.ref 0) a1 (.ref 268) (hp0 q)) (fun h1 => fm_527 N (.ref 174) a1 h1) vfI h' ∧ fits h' := ⟨hpT q 1, ⟨1, hpE q, 0, 0, w_42 q (X := X) N a1, rfl, r_42 q (X := X) N a1, rfl, rfl, fun e => absurd e (by decide)⟩, hpT_fits q 1⟩
set_option maxRecDepth 100000 in
set_option maxHeartbeats 4000000 in
theorem w_43 (q : rkQ) {X : am_X} (N : Nat) (a1 : Int32) (a2 : Int32) : fm_254 N (.ref 0) a1 a2 (.ref 268) (hp0 q) = some (.inl (some (.int 1), hpE q)) := by
  have hz : fm_255 N (.ref 0) a1 a2 (hp0 q) = some (.inr (2, hpE q)) := by
    simp only [fm_255, fg_255_0, t63 q]
    rfl
  unfold fm_254 fg_254_0
  simp only [hz]
  rfl
set_option maxRecDepth 100000 in
set_option maxHeartbeats 4000000 in
theorem r_43 (q : rkQ) {X : am_X} (N : Nat) (a1 : Int32) (a2 : Int32) : fm_530 N (.ref 174) a1 a2 (hpE q) = some (.inl (some (.int 0), hpT q 1)) := by
  simp only [fm_530, fg_530_86, fg_530_85, fg_530_51, fg_530_22, fg_530_21, fg_530_0, t358 q]
  rfl
set_option maxRecDepth 100000 in
set_option maxHeartbeats 4000000 in
theorem p_43 (q : rkQ) {X : am_X} (N : Nat) (a1 : Int32) (a2 : Int32) : ∃ h', opBI (fm_254 N (.ref 0) a1 a2 (.ref 268) (hp0 q)) (fun h1 => fm_530 N (.ref 174) a1 a2 h1) vfI h' ∧ fits h' := ⟨hpT q 1, ⟨1, hpE q, 0, 0, w_43 q (X := X) N a1 a2, rfl, r_43 q (X := X) N a1 a2, rfl, rfl, fun e => absurd e (by decide)⟩, hpT_fits q 1⟩
set_option maxRecDepth 100000 in
set_option maxHeartbeats 4000000 in
theorem w_44 (q : rkQ) {X : am_X} (N : Nat) (a1 : Int32) (a2 : Int32) : fm_256 N (.ref 0) a1 a2 (.ref 268) (hp0 q) = some (.inl (some (.int 1), hpE q)) := by
  have hz : fm_257 N (.ref 0) a1 a2 (hp0 q) = some (.inr (2, hpE q)) := by
    simp only [fm_257, fg_257_0, t63 q]
    rfl
  unfold fm_256 fg_256_0
  simp only [hz]
  rfl
set_option maxRecDepth 100000 in
set_option maxHeartbeats 4000000 in
theorem r_44 (q : rkQ) {X : am_X} (N : Nat) (a1 : Int32) (a2 : Int32) : fm_531 N (.ref 174) a1 a2 (hpE q) = some (.inl (some (.long 0), hpT q 1)) := by
  simp only [fm_531, fg_531_49, fg_531_44, fg_531_40, fg_531_0, t358 q, sc_cI]
  rfl
set_option maxRecDepth 100000 in
set_option maxHeartbeats 4000000 in
theorem p_44 (q : rkQ) {X : am_X} (N : Nat) (a1 : Int32) (a2 : Int32) : ∃ h', opBL (fm_256 N (.ref 0) a1 a2 (.ref 268) (hp0 q)) (fun h1 => fm_531 N (.ref 174) a1 a2 h1) vfI h' ∧ fits h' := ⟨hpT q 1, ⟨1, hpE q, 0, 0, w_44 q (X := X) N a1 a2, rfl, r_44 q (X := X) N a1 a2, rfl, rfl, fun e => absurd e (by decide)⟩, hpT_fits q 1⟩
set_option maxRecDepth 100000 in
set_option maxHeartbeats 4000000 in
theorem w_45 (q : rkQ) {X : am_X} (N : Nat) (a1 : Int32) : fm_258 N (.ref 0) a1 (.ref 268) (hp0 q) = some (.inl (some (.int 1), hpE q)) := by
  have hz : fm_259 N (.ref 0) a1 (hp0 q) = some (.inr (2, hpE q)) := by
    simp only [fm_259, fg_259_0, t63 q]
    rfl
  unfold fm_258 fg_258_0
  simp only [hz]
  rfl
set_option maxRecDepth 100000 in
set_option maxHeartbeats 4000000 in
theorem r_45 (q : rkQ) {X : am_X} (N : Nat) (a1 : Int32) : fm_532 N (.ref 174) a1 (hpE q) = some (.inl (some (.int 0), hpT q 1)) := by
  simp only [fm_532, fg_532_160, fg_532_98, fg_532_47, fg_532_46, fg_532_18, fg_532_0, t358 q, sc_cI]
  rfl
set_option maxRecDepth 100000 in
set_option maxHeartbeats 4000000 in
theorem p_45 (q : rkQ) {X : am_X} (N : Nat) (a1 : Int32) : ∃ h', opBI (fm_258 N (.ref 0) a1 (.ref 268) (hp0 q)) (fun h1 => fm_532 N (.ref 174) a1 h1) vfZ h' ∧ fits h' := ⟨hpT q 1, ⟨1, hpE q, 0, 0, w_45 q (X := X) N a1, rfl, r_45 q (X := X) N a1, rfl, rfl, fun e => absurd e (by decide)⟩, hpT_fits q 1⟩
set_option maxRecDepth 100000 in
set_option maxHeartbeats 4000000 in
theorem w_47 (q : rkQ) {X : am_X} (N : Nat) (a1 : Int32) : fm_267 N (.ref 0) a1 (.ref 268) (hp0 q) = some (.inl (some (.int 1), hpE q)) := by
  have hz : fm_268 N (.ref 0) a1 (hp0 q) = some (.inr (2, hpE q)) := by
    simp only [fm_268, fg_268_0, t63 q]
    rfl
  unfold fm_267 fg_267_0
  simp only [hz]
  rfl
set_option maxRecDepth 100000 in
set_option maxHeartbeats 4000000 in
theorem r_47 (q : rkQ) {X : am_X} (N : Nat) (a1 : Int32) : fm_535 N (.ref 174) a1 (hpE q) = some (.inl (some (.int 0), hpT q 1)) := by
  simp only [fm_535, fg_535_53, fg_535_30, fg_535_0, t358 q, sc_cI]
  rfl
set_option maxRecDepth 100000 in
set_option maxHeartbeats 4000000 in
theorem p_47 (q : rkQ) {X : am_X} (N : Nat) (a1 : Int32) : ∃ h', opBI (fm_267 N (.ref 0) a1 (.ref 268) (hp0 q)) (fun h1 => fm_535 N (.ref 174) a1 h1) vfI h' ∧ fits h' := ⟨hpT q 1, ⟨1, hpE q, 0, 0, w_47 q (X := X) N a1, rfl, r_47 q (X := X) N a1, rfl, rfl, fun e => absurd e (by decide)⟩, hpT_fits q 1⟩
set_option maxRecDepth 100000 in
set_option maxHeartbeats 4000000 in
theorem w_50 (q : rkQ) {X : am_X} (N : Nat) (a1 : Int32) (a2 : Int32) : fm_283 N (.ref 0) a1 a2 (.ref 268) (hp0 q) = some (.inl (some (.int 1), hpE q)) := by
  have hz : fm_284 N (.ref 0) a1 a2 (hp0 q) = some (.inr (2, hpE q)) := by
    simp only [fm_284, fg_284_0, t63 q]
    rfl
  unfold fm_283 fg_283_0
  simp only [hz]
  rfl
set_option maxRecDepth 100000 in
set_option maxHeartbeats 4000000 in
theorem r_50 (q : rkQ) {X : am_X} (N : Nat) (a1 : Int32) (a2 : Int32) : fm_555 N (.ref 174) a1 a2 (hpE q) = some (.inl (some (.int 0), hpT q 1)) := by
  simp only [fm_555, fg_555_151, fg_555_150, fg_555_130, fg_555_124, fg_555_115, fg_555_114, fg_555_62, fg_555_50, fg_555_22, fg_555_21, fg_555_0, t358 q]
  rfl
set_option maxRecDepth 100000 in
set_option maxHeartbeats 4000000 in
theorem p_50 (q : rkQ) {X : am_X} (N : Nat) (a1 : Int32) (a2 : Int32) : ∃ h', opBI (fm_283 N (.ref 0) a1 a2 (.ref 268) (hp0 q)) (fun h1 => fm_555 N (.ref 174) a1 a2 h1) vfZ h' ∧ fits h' := ⟨hpT q 1, ⟨1, hpE q, 0, 0, w_50 q (X := X) N a1 a2, rfl, r_50 q (X := X) N a1 a2, rfl, rfl, fun e => absurd e (by decide)⟩, hpT_fits q 1⟩
set_option maxRecDepth 100000 in
set_option maxHeartbeats 4000000 in
theorem w_51 (q : rkQ) {X : am_X} (N : Nat) (a1 : Int32) (a2 : Int32) : fm_286 N (.ref 0) a1 a2 (.ref 268) (hp0 q) = some (.inl (some (.int 1), hpE q)) := by
  have hz : fm_287 N (.ref 0) a1 a2 (hp0 q) = some (.inr (2, hpE q)) := by
    simp only [fm_287, fg_287_0, t63 q]
    rfl
  unfold fm_286 fg_286_0
  simp only [hz]
  rfl
set_option maxRecDepth 100000 in
set_option maxHeartbeats 4000000 in
theorem r_51 (q : rkQ) {X : am_X} (N : Nat) (a1 : Int32) (a2 : Int32) : fm_566 N (.ref 174) a1 a2 (hpE q) = some (.inl (some (.int 0), hpT q 1)) := by
  simp only [fm_566, fg_566_130, fg_566_111, fg_566_69, fg_566_22, fg_566_21, fg_566_0, t358 q]
  rfl
set_option maxRecDepth 100000 in
set_option maxHeartbeats 4000000 in
theorem p_51 (q : rkQ) {X : am_X} (N : Nat) (a1 : Int32) (a2 : Int32) : ∃ h', opBI (fm_286 N (.ref 0) a1 a2 (.ref 268) (hp0 q)) (fun h1 => fm_566 N (.ref 174) a1 a2 h1) vfI h' ∧ fits h' := ⟨hpT q 1, ⟨1, hpE q, 0, 0, w_51 q (X := X) N a1 a2, rfl, r_51 q (X := X) N a1 a2, rfl, rfl, fun e => absurd e (by decide)⟩, hpT_fits q 1⟩
set_option maxRecDepth 100000 in
set_option maxHeartbeats 4000000 in
theorem w_53 (q : rkQ) {X : am_X} (N : Nat) (a1 : Int32) : fm_301 N (.ref 0) a1 (.ref 268) (hp0 q) = some (.inl (some (.int 1), hpE q)) := by
  have hz : fm_302 N (.ref 0) a1 (hp0 q) = some (.inr (2, hpE q)) := by
    simp only [fm_302, fg_302_0, t63 q]
    rfl
  unfold fm_301 fg_301_0
  simp only [hz]
  rfl
set_option maxRecDepth 100000 in
set_option maxHeartbeats 4000000 in
theorem r_53 (q : rkQ) {X : am_X} (N : Nat) (a1 : Int32) : fm_577 N (.ref 174) a1 (hpE q) = some (.inl (some (.int 0), hpT q 1)) := by
  simp only [fm_577, fg_577_47, fg_577_28, fg_577_0, t358 q]
  rfl
set_option maxRecDepth 100000 in
set_option maxHeartbeats 4000000 in
theorem p_53 (q : rkQ) {X : am_X} (N : Nat) (a1 : Int32) : ∃ h', opBI (fm_301 N (.ref 0) a1 (.ref 268) (hp0 q)) (fun h1 => fm_577 N (.ref 174) a1 h1) vfI h' ∧ fits h' := ⟨hpT q 1, ⟨1, hpE q, 0, 0, w_53 q (X := X) N a1, rfl, r_53 q (X := X) N a1, rfl, rfl, fun e => absurd e (by decide)⟩, hpT_fits q 1⟩
set_option maxRecDepth 100000 in
set_option maxHeartbeats 4000000 in
theorem w_54 (q : rkQ) {X : am_X} (N : Nat) (a1 : Int32) (a2 : Int32) (a3 : Int32) : fm_304 N (.ref 0) a1 a2 a3 (.ref 268) (hp0 q) = some (.inl (some (.int 1), hpE q)) := by
  have hz : fm_305 N (.ref 0) a1 a2 a3 (hp0 q) = some (.inr (2, hpE q)) := by
    simp only [fm_305, fg_305_0, t63 q]
    rfl
  unfold fm_304 fg_304_0
  simp only [hz]
  rfl
set_option maxRecDepth 100000 in
set_option maxHeartbeats 4000000 in
theorem r_54 (q : rkQ) {X : am_X} (N : Nat) (a1 : Int32) (a2 : Int32) (a3 : Int32) : fm_581 N (.ref 174) a1 a2 a3 (hpE q) = some (.inl (some (.int 0), hpT q 1)) := by
  simp only [fm_581, fg_581_165, fg_581_157, fg_581_94, fg_581_42, fg_581_37, fg_581_0, t358 q]
  rfl
set_option maxRecDepth 100000 in
set_option maxHeartbeats 4000000 in
theorem p_54 (q : rkQ) {X : am_X} (N : Nat) (a1 : Int32) (a2 : Int32) (a3 : Int32) : ∃ h', opBI (fm_304 N (.ref 0) a1 a2 a3 (.ref 268) (hp0 q)) (fun h1 => fm_581 N (.ref 174) a1 a2 a3 h1) vfI h' ∧ fits h' := ⟨hpT q 1, ⟨1, hpE q, 0, 0, w_54 q (X := X) N a1 a2 a3, rfl, r_54 q (X := X) N a1 a2 a3, rfl, rfl, fun e => absurd e (by decide)⟩, hpT_fits q 1⟩
set_option maxRecDepth 100000 in
set_option maxHeartbeats 4000000 in
theorem w_55 (q : rkQ) {X : am_X} (N : Nat) (a1 : Int32) (a2 : Int32) : fm_306 N (.ref 0) a1 a2 (.ref 268) (hp0 q) = some (.inl (some (.int 1), hpE q)) := by
  have hz : fm_307 N (.ref 0) a1 a2 (hp0 q) = some (.inr (2, hpE q)) := by
    simp only [fm_307, fg_307_0, t63 q]
    rfl
  unfold fm_306 fg_306_0
  simp only [hz]
  rfl
set_option maxRecDepth 100000 in
set_option maxHeartbeats 4000000 in
theorem r_55 (q : rkQ) {X : am_X} (N : Nat) (a1 : Int32) (a2 : Int32) : fm_556 N (.ref 174) a1 a2 (hpE q) = some (.inl (some (.int 0), hpT q 1)) := by
  simp only [fm_556, fg_556_118, fg_556_101, fg_556_63, fg_556_44, fg_556_18, fg_556_0, t358 q, sc_cI]
  rfl
set_option maxRecDepth 100000 in
set_option maxHeartbeats 4000000 in
theorem p_55 (q : rkQ) {X : am_X} (N : Nat) (a1 : Int32) (a2 : Int32) : ∃ h', opBI (fm_306 N (.ref 0) a1 a2 (.ref 268) (hp0 q)) (fun h1 => fm_556 N (.ref 174) a1 a2 h1) vfI h' ∧ fits h' := ⟨hpT q 1, ⟨1, hpE q, 0, 0, w_55 q (X := X) N a1 a2, rfl, r_55 q (X := X) N a1 a2, rfl, rfl, fun e => absurd e (by decide)⟩, hpT_fits q 1⟩
set_option maxRecDepth 100000 in
set_option maxHeartbeats 4000000 in
theorem w_56 (q : rkQ) {X : am_X} (N : Nat) (a1 : Int32) : fm_308 N (.ref 0) a1 (.ref 268) (hp0 q) = some (.inl (some (.int 1), hpE q)) := by
  have hz : fm_309 N (.ref 0) a1 (hp0 q) = some (.inr (2, hpE q)) := by
    simp only [fm_309, fg_309_0, t63 q]
    rfl
  unfold fm_308 fg_308_0
  simp only [hz]
  rfl
set_option maxRecDepth 100000 in
set_option maxHeartbeats 4000000 in
theorem r_56 (q : rkQ) {X : am_X} (N : Nat) (a1 : Int32) : fm_582 N (.ref 174) a1 (hpE q) = some (.inl (some (.int 0), hpT q 1)) := by
  simp only [fm_582, fg_582_197, fg_582_139, fg_582_128, fg_582_77, fg_582_54, fg_582_30, fg_582_0, t358 q, sc_cI]
  rfl
set_option maxRecDepth 100000 in
set_option maxHeartbeats 4000000 in
theorem p_56 (q : rkQ) {X : am_X} (N : Nat) (a1 : Int32) : ∃ h', opBI (fm_308 N (.ref 0) a1 (.ref 268) (hp0 q)) (fun h1 => fm_582 N (.ref 174) a1 h1) vfI h' ∧ fits h' := ⟨hpT q 1, ⟨1, hpE q, 0, 0, w_56 q (X := X) N a1, rfl, r_56 q (X := X) N a1, rfl, rfl, fun e => absurd e (by decide)⟩, hpT_fits q 1⟩
set_option maxRecDepth 100000 in
set_option maxHeartbeats 4000000 in
theorem w_57 (q : rkQ) {X : am_X} (N : Nat) (a1 : Int32) : fm_313 N (.ref 0) a1 (.ref 268) (hp0 q) = some (.inl (some (.int 1), hpE q)) := by
  have hz : fm_314 N (.ref 0) a1 (hp0 q) = some (.inr (2, hpE q)) := by
    simp only [fm_314, fg_314_0, t315 q]
    rfl
  unfold fm_313 fg_313_0
  simp only [hz]
  rfl
set_option maxRecDepth 100000 in
set_option maxHeartbeats 4000000 in
theorem r_57 (q : rkQ) {X : am_X} (N : Nat) (a1 : Int32) : fm_585 N (.ref 174) a1 (hpE q) = some (.inl (some (.int 0), hpT q 1)) := by
  simp only [fm_585, fg_585_195, fg_585_162, fg_585_139, fg_585_116, fg_585_89, fg_585_77, fg_585_54, fg_585_35, fg_585_31, fg_585_0, t586 q]
  rfl
set_option maxRecDepth 100000 in
set_option maxHeartbeats 4000000 in
theorem p_57 (q : rkQ) {X : am_X} (N : Nat) (a1 : Int32) : ∃ h', opBI (fm_313 N (.ref 0) a1 (.ref 268) (hp0 q)) (fun h1 => fm_585 N (.ref 174) a1 h1) vfI h' ∧ fits h' := ⟨hpT q 1, ⟨1, hpE q, 0, 0, w_57 q (X := X) N a1, rfl, r_57 q (X := X) N a1, rfl, rfl, fun e => absurd e (by decide)⟩, hpT_fits q 1⟩
set_option maxRecDepth 100000 in
set_option maxHeartbeats 4000000 in
theorem w_58 (q : rkQ) {X : am_X} (N : Nat) (a1 : Int32) : fm_317 N (.ref 0) a1 (.ref 268) (hp0 q) = some (.inl (some (.int 1), hpE q)) := by
  have hz : fm_318 N (.ref 0) a1 (hp0 q) = some (.inr (2, hpE q)) := by
    simp only [fm_318, fg_318_0, t315 q]
    rfl
  unfold fm_317 fg_317_0
  simp only [hz]
  rfl
set_option maxRecDepth 100000 in
set_option maxHeartbeats 4000000 in
theorem r_58 (q : rkQ) {X : am_X} (N : Nat) (a1 : Int32) : fm_587 N (.ref 174) a1 (hpE q) = some (.inl (some (.int 0), hpT q 1)) := by
  simp only [fm_587, fg_587_83, fg_587_82, fg_587_47, fg_587_25, fg_587_0, t586 q]
  rfl
set_option maxRecDepth 100000 in
set_option maxHeartbeats 4000000 in
theorem p_58 (q : rkQ) {X : am_X} (N : Nat) (a1 : Int32) : ∃ h', opBI (fm_317 N (.ref 0) a1 (.ref 268) (hp0 q)) (fun h1 => fm_587 N (.ref 174) a1 h1) vfI h' ∧ fits h' := ⟨hpT q 1, ⟨1, hpE q, 0, 0, w_58 q (X := X) N a1, rfl, r_58 q (X := X) N a1, rfl, rfl, fun e => absurd e (by decide)⟩, hpT_fits q 1⟩
set_option maxRecDepth 100000 in
set_option maxHeartbeats 4000000 in
theorem w_59 (q : rkQ) {X : am_X} (N : Nat) (a1 : Int32) : fm_320 N (.ref 0) a1 (.ref 268) (hp0 q) = some (.inl (some (.int 1), hpE q)) := by
  have hz : fm_321 N (.ref 0) a1 (hp0 q) = some (.inr (2, hpE q)) := by
    simp only [fm_321, fg_321_0, t315 q]
    rfl
  unfold fm_320 fg_320_0
  simp only [hz]
  rfl
set_option maxRecDepth 100000 in
set_option maxHeartbeats 4000000 in
theorem r_59 (q : rkQ) {X : am_X} (N : Nat) (a1 : Int32) : fm_588 N (.ref 174) a1 (hpE q) = some (.inl (some (.int 0), hpT q 1)) := by
  simp only [fm_588, fg_588_154, fg_588_106, fg_588_48, fg_588_25, fg_588_0, t586 q]
  rfl
set_option maxRecDepth 100000 in
set_option maxHeartbeats 4000000 in
theorem p_59 (q : rkQ) {X : am_X} (N : Nat) (a1 : Int32) : ∃ h', opBI (fm_320 N (.ref 0) a1 (.ref 268) (hp0 q)) (fun h1 => fm_588 N (.ref 174) a1 h1) vfI h' ∧ fits h' := ⟨hpT q 1, ⟨1, hpE q, 0, 0, w_59 q (X := X) N a1, rfl, r_59 q (X := X) N a1, rfl, rfl, fun e => absurd e (by decide)⟩, hpT_fits q 1⟩
set_option maxRecDepth 100000 in
set_option maxHeartbeats 4000000 in
theorem w_14 (q : rkQ) {X : am_X} (N : Nat) (a1 : Int32) : fm_106 (.ref 0) a1 (.ref 268) (hp0 q) = some (.inl (some (.int 1), hpE q)) := by
  have hz : fm_107 (.ref 0) a1 (hp0 q) = some (.inr (2, hpE q)) := by
    simp only [fm_107, fg_107_0, t108 q]
    rfl
  unfold fm_106 fg_106_0
  simp only [hz]
  rfl
set_option maxRecDepth 100000 in
set_option maxHeartbeats 4000000 in
theorem r_14 (q : rkQ) {X : am_X} (N : Nat) (a1 : Int32) : fm_397 N (.ref 174) a1 (hpE q) = some (.inl (some (.int 0), hpT q 1)) := by
  simp only [fm_397, fg_397_146, fg_397_38, fg_397_14, fg_397_0, t398 q]
  rfl
set_option maxRecDepth 100000 in
set_option maxHeartbeats 4000000 in
theorem p_14 (q : rkQ) {X : am_X} (N : Nat) (a1 : Int32) : ∃ h', opBI (fm_106 (.ref 0) a1 (.ref 268) (hp0 q)) (fun h1 => fm_397 N (.ref 174) a1 h1) vfI h' ∧ fits h' := ⟨hpT q 1, ⟨1, hpE q, 0, 0, w_14 q (X := X) N a1, rfl, r_14 q (X := X) N a1, rfl, rfl, fun e => absurd e (by decide)⟩, hpT_fits q 1⟩
set_option maxRecDepth 100000 in
set_option maxHeartbeats 4000000 in
theorem w_16 (q : rkQ) {X : am_X} (N : Nat) (a1 : Int32) (a2 : Int32) : fm_110 (.ref 0) a1 a2 (.ref 268) (hp0 q) = some (.inl (some (.int 1), hpE q)) := by
  have hz : fm_111 (.ref 0) a1 a2 (hp0 q) = some (.inr (2, hpE q)) := by
    simp only [fm_111, fg_111_0, t108 q]
    rfl
  unfold fm_110 fg_110_0
  simp only [hz]
  rfl
set_option maxRecDepth 100000 in
set_option maxHeartbeats 4000000 in
theorem r_16 (q : rkQ) {X : am_X} (N : Nat) (a1 : Int32) (a2 : Int32) : fm_400 (.ref 174) a1 a2 (hpE q) = some (.inl (some (.int 0), hpT q 1)) := by
  simp only [fm_400, fg_400_133, fg_400_30, fg_400_0, t398 q]
  rfl
set_option maxRecDepth 100000 in
set_option maxHeartbeats 4000000 in
theorem p_16 (q : rkQ) {X : am_X} (N : Nat) (a1 : Int32) (a2 : Int32) : ∃ h', opBI (fm_110 (.ref 0) a1 a2 (.ref 268) (hp0 q)) (fun h1 => fm_400 (.ref 174) a1 a2 h1) vfI h' ∧ fits h' := ⟨hpT q 1, ⟨1, hpE q, 0, 0, w_16 q (X := X) N a1 a2, rfl, r_16 q (X := X) N a1 a2, rfl, rfl, fun e => absurd e (by decide)⟩, hpT_fits q 1⟩
